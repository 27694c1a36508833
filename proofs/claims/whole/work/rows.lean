section
-- ===== PART A: goes FIRST, ahead of the names: the tables' words, and 'selects' of the private methods out of them =====
/-- a private method of a class that the tables say can be made, by its rows of tables_1 -/
def lw_okq (q : MethodName × Nat) : Prop := (q.1.cls ≠ "java/lang/invoke/MethodHandle" ∧ q.1.cls ≠ "java/lang/invoke/VarHandle") ∧ Cond.instantiable q.1.cls q.2 ∈ tables_1 ∧ Cond.privateMethod q.1 ∈ tables_1 ∧ Cond.instanceMethod q.1 ∈ tables_1
theorem lw_p0 : lw_okq (⟨"DiskArmSimulator$Requests", "rowAt", "(I)LDiskArmSimulator$Request;"⟩, 3) := ⟨⟨by decide +kernel, by decide +kernel⟩, List.mem_of_getElem? (i := 104) (by decide +kernel), List.mem_of_getElem? (i := 326) (by decide +kernel), List.mem_of_getElem? (i := 327) (by decide +kernel)⟩
theorem lw_p1 : lw_okq (⟨"java/lang/Throwable", "fillInStackTrace", "(I)Ljava/lang/Throwable;"⟩, 6) := ⟨⟨by decide +kernel, by decide +kernel⟩, List.mem_of_getElem? (i := 434) (by decide +kernel), List.mem_of_getElem? (i := 432) (by decide +kernel), List.mem_of_getElem? (i := 433) (by decide +kernel)⟩
theorem lw_p2 : lw_okq (⟨"DiskArmSimulator$RequestText", "readItems", "()Z"⟩, 8) := ⟨⟨by decide +kernel, by decide +kernel⟩, List.mem_of_getElem? (i := 227) (by decide +kernel), List.mem_of_getElem? (i := 769) (by decide +kernel), List.mem_of_getElem? (i := 770) (by decide +kernel)⟩
theorem lw_p3 : lw_okq (⟨"DiskArmSimulator$RequestText", "readItem", "()Z"⟩, 8) := ⟨⟨by decide +kernel, by decide +kernel⟩, List.mem_of_getElem? (i := 227) (by decide +kernel), List.mem_of_getElem? (i := 773) (by decide +kernel), List.mem_of_getElem? (i := 774) (by decide +kernel)⟩
theorem lw_p4 : lw_okq (⟨"DiskArmSimulator$RequestText", "skip", "(I)Z"⟩, 8) := ⟨⟨by decide +kernel, by decide +kernel⟩, List.mem_of_getElem? (i := 227) (by decide +kernel), List.mem_of_getElem? (i := 777) (by decide +kernel), List.mem_of_getElem? (i := 778) (by decide +kernel)⟩
theorem lw_p5 : lw_okq (⟨"DiskArmSimulator$RequestText", "current", "()I"⟩, 8) := ⟨⟨by decide +kernel, by decide +kernel⟩, List.mem_of_getElem? (i := 227) (by decide +kernel), List.mem_of_getElem? (i := 781) (by decide +kernel), List.mem_of_getElem? (i := 782) (by decide +kernel)⟩
theorem lw_p6 : lw_okq (⟨"DiskArmSimulator$RequestText", "readNumber", "(I)I"⟩, 8) := ⟨⟨by decide +kernel, by decide +kernel⟩, List.mem_of_getElem? (i := 227) (by decide +kernel), List.mem_of_getElem? (i := 785) (by decide +kernel), List.mem_of_getElem? (i := 786) (by decide +kernel)⟩
theorem lw_p7 : lw_okq (⟨"DiskArmSimulator$RequestText", "keepItem", "(III)Z"⟩, 8) := ⟨⟨by decide +kernel, by decide +kernel⟩, List.mem_of_getElem? (i := 227) (by decide +kernel), List.mem_of_getElem? (i := 789) (by decide +kernel), List.mem_of_getElem? (i := 790) (by decide +kernel)⟩
theorem lw_p8 : lw_okq (⟨"DiskArmSimulator", "requireRequest", "(I)LDiskArmSimulator$Request;"⟩, 4) := ⟨⟨by decide +kernel, by decide +kernel⟩, List.mem_of_getElem? (i := 26) (by decide +kernel), List.mem_of_getElem? (i := 801) (by decide +kernel), List.mem_of_getElem? (i := 802) (by decide +kernel)⟩
theorem lw_p9 : lw_okq (⟨"DiskArmSimulator$OrderSearch", "tryFrom", "(IIILDiskArmSimulator$Drive;)V"⟩, 10) := ⟨⟨by decide +kernel, by decide +kernel⟩, List.mem_of_getElem? (i := 187) (by decide +kernel), List.mem_of_getElem? (i := 849) (by decide +kernel), List.mem_of_getElem? (i := 850) (by decide +kernel)⟩
theorem lw_p10 : lw_okq (⟨"DiskArmSimulator$OrderSearch", "tryNext", "(IIIILDiskArmSimulator$Drive;)V"⟩, 10) := ⟨⟨by decide +kernel, by decide +kernel⟩, List.mem_of_getElem? (i := 187) (by decide +kernel), List.mem_of_getElem? (i := 854) (by decide +kernel), List.mem_of_getElem? (i := 855) (by decide +kernel)⟩
theorem lw_p11 : lw_okq (⟨"DiskArmSimulator$Scheduler", "keyOf", "(LDiskArmSimulator$Request;LDiskArmSimulator$Drive;)I"⟩, 4) := ⟨⟨by decide +kernel, by decide +kernel⟩, List.mem_of_getElem? (i := 127) (by decide +kernel), List.mem_of_getElem? (i := 871) (by decide +kernel), List.mem_of_getElem? (i := 872) (by decide +kernel)⟩
theorem lw_p12 : lw_okq (⟨"DiskArmSimulator$Scheduler", "isAhead", "(II)Z"⟩, 4) := ⟨⟨by decide +kernel, by decide +kernel⟩, List.mem_of_getElem? (i := 127) (by decide +kernel), List.mem_of_getElem? (i := 880) (by decide +kernel), List.mem_of_getElem? (i := 881) (by decide +kernel)⟩
theorem lw_p13 : lw_okq (⟨"DiskArmSimulator", "requireTimeToAccess", "()V"⟩, 4) := ⟨⟨by decide +kernel, by decide +kernel⟩, List.mem_of_getElem? (i := 26) (by decide +kernel), List.mem_of_getElem? (i := 918) (by decide +kernel), List.mem_of_getElem? (i := 919) (by decide +kernel)⟩
theorem lw_p14 : lw_okq (⟨"DiskArmSimulator$Cache", "leastKeyAbove", "(IILDiskArmSimulator$Drive;)I"⟩, 3) := ⟨⟨by decide +kernel, by decide +kernel⟩, List.mem_of_getElem? (i := 150) (by decide +kernel), List.mem_of_getElem? (i := 957) (by decide +kernel), List.mem_of_getElem? (i := 958) (by decide +kernel)⟩
theorem lw_p15 : lw_okq (⟨"DiskArmSimulator", "requireFewPending", "()V"⟩, 4) := ⟨⟨by decide +kernel, by decide +kernel⟩, List.mem_of_getElem? (i := 26) (by decide +kernel), List.mem_of_getElem? (i := 1009) (by decide +kernel), List.mem_of_getElem? (i := 1010) (by decide +kernel)⟩
def lw_privs_1 : List (MethodName × Nat) := [(⟨"DiskArmSimulator$Requests", "rowAt", "(I)LDiskArmSimulator$Request;"⟩, 3), (⟨"java/lang/Throwable", "fillInStackTrace", "(I)Ljava/lang/Throwable;"⟩, 6), (⟨"DiskArmSimulator$RequestText", "readItems", "()Z"⟩, 8), (⟨"DiskArmSimulator$RequestText", "readItem", "()Z"⟩, 8), (⟨"DiskArmSimulator$RequestText", "skip", "(I)Z"⟩, 8), (⟨"DiskArmSimulator$RequestText", "current", "()I"⟩, 8), (⟨"DiskArmSimulator$RequestText", "readNumber", "(I)I"⟩, 8), (⟨"DiskArmSimulator$RequestText", "keepItem", "(III)Z"⟩, 8), (⟨"DiskArmSimulator", "requireRequest", "(I)LDiskArmSimulator$Request;"⟩, 4), (⟨"DiskArmSimulator$OrderSearch", "tryFrom", "(IIILDiskArmSimulator$Drive;)V"⟩, 10), (⟨"DiskArmSimulator$OrderSearch", "tryNext", "(IIIILDiskArmSimulator$Drive;)V"⟩, 10), (⟨"DiskArmSimulator$Scheduler", "keyOf", "(LDiskArmSimulator$Request;LDiskArmSimulator$Drive;)I"⟩, 4), (⟨"DiskArmSimulator$Scheduler", "isAhead", "(II)Z"⟩, 4), (⟨"DiskArmSimulator", "requireTimeToAccess", "()V"⟩, 4), (⟨"DiskArmSimulator$Cache", "leastKeyAbove", "(IILDiskArmSimulator$Drive;)I"⟩, 3), (⟨"DiskArmSimulator", "requireFewPending", "()V"⟩, 4)]
theorem lw_r1 : ∀ q ∈ lw_privs_1, lw_okq q := List.forall_mem_cons.mpr ⟨lw_p0, List.forall_mem_cons.mpr ⟨lw_p1, List.forall_mem_cons.mpr ⟨lw_p2, List.forall_mem_cons.mpr ⟨lw_p3, List.forall_mem_cons.mpr ⟨lw_p4, List.forall_mem_cons.mpr ⟨lw_p5, List.forall_mem_cons.mpr ⟨lw_p6, List.forall_mem_cons.mpr ⟨lw_p7, List.forall_mem_cons.mpr ⟨lw_p8, List.forall_mem_cons.mpr ⟨lw_p9, List.forall_mem_cons.mpr ⟨lw_p10, List.forall_mem_cons.mpr ⟨lw_p11, List.forall_mem_cons.mpr ⟨lw_p12, List.forall_mem_cons.mpr ⟨lw_p13, List.forall_mem_cons.mpr ⟨lw_p14, List.forall_mem_cons.mpr ⟨lw_p15, fun _ h => absurd h List.not_mem_nil⟩⟩⟩⟩⟩⟩⟩⟩⟩⟩⟩⟩⟩⟩⟩⟩
theorem lw_p16 : lw_okq (⟨"DiskArmSimulatorModel", "becomes", "(II)I"⟩, 18) := ⟨⟨by decide +kernel, by decide +kernel⟩, List.mem_of_getElem? (i := 1111) (by decide +kernel), List.mem_of_getElem? (i := 1187) (by decide +kernel), List.mem_of_getElem? (i := 1188) (by decide +kernel)⟩
theorem lw_p17 : lw_okq (⟨"DiskArmSimulatorModel", "fails", "(I)I"⟩, 18) := ⟨⟨by decide +kernel, by decide +kernel⟩, List.mem_of_getElem? (i := 1111) (by decide +kernel), List.mem_of_getElem? (i := 1191) (by decide +kernel), List.mem_of_getElem? (i := 1192) (by decide +kernel)⟩
theorem lw_p18 : lw_okq (⟨"DiskArmSimulatorModel", "dirty", "()I"⟩, 18) := ⟨⟨by decide +kernel, by decide +kernel⟩, List.mem_of_getElem? (i := 1111) (by decide +kernel), List.mem_of_getElem? (i := 1207) (by decide +kernel), List.mem_of_getElem? (i := 1208) (by decide +kernel)⟩
theorem lw_p19 : lw_okq (⟨"DiskArmSimulatorModel", "seek", "(II)I"⟩, 18) := ⟨⟨by decide +kernel, by decide +kernel⟩, List.mem_of_getElem? (i := 1111) (by decide +kernel), List.mem_of_getElem? (i := 1215) (by decide +kernel), List.mem_of_getElem? (i := 1216) (by decide +kernel)⟩
theorem lw_p20 : lw_okq (⟨"DiskArmSimulatorModel", "place", "(I)I"⟩, 18) := ⟨⟨by decide +kernel, by decide +kernel⟩, List.mem_of_getElem? (i := 1111) (by decide +kernel), List.mem_of_getElem? (i := 1229) (by decide +kernel), List.mem_of_getElem? (i := 1230) (by decide +kernel)⟩
theorem lw_p21 : lw_okq (⟨"DiskArmSimulatorModel", "angleAt", "(I)I"⟩, 18) := ⟨⟨by decide +kernel, by decide +kernel⟩, List.mem_of_getElem? (i := 1111) (by decide +kernel), List.mem_of_getElem? (i := 1257) (by decide +kernel), List.mem_of_getElem? (i := 1258) (by decide +kernel)⟩
theorem lw_p22 : lw_okq (⟨"DiskArmSimulatorModel", "takes", "(I)I"⟩, 18) := ⟨⟨by decide +kernel, by decide +kernel⟩, List.mem_of_getElem? (i := 1111) (by decide +kernel), List.mem_of_getElem? (i := 1268) (by decide +kernel), List.mem_of_getElem? (i := 1269) (by decide +kernel)⟩
theorem lw_p23 : lw_okq (⟨"DiskArmSimulatorModel", "ends", "(III)I"⟩, 18) := ⟨⟨by decide +kernel, by decide +kernel⟩, List.mem_of_getElem? (i := 1111) (by decide +kernel), List.mem_of_getElem? (i := 1272) (by decide +kernel), List.mem_of_getElem? (i := 1273) (by decide +kernel)⟩
theorem lw_p24 : lw_okq (⟨"DiskArmSimulatorModel", "waits", "(II)I"⟩, 18) := ⟨⟨by decide +kernel, by decide +kernel⟩, List.mem_of_getElem? (i := 1111) (by decide +kernel), List.mem_of_getElem? (i := 1276) (by decide +kernel), List.mem_of_getElem? (i := 1277) (by decide +kernel)⟩
theorem lw_p25 : lw_okq (⟨"DiskArmSimulatorModel", "refusal", "(III)I"⟩, 18) := ⟨⟨by decide +kernel, by decide +kernel⟩, List.mem_of_getElem? (i := 1111) (by decide +kernel), List.mem_of_getElem? (i := 1309) (by decide +kernel), List.mem_of_getElem? (i := 1310) (by decide +kernel)⟩
theorem lw_p26 : lw_okq (⟨"DiskArmSimulatorModel", "pending", "()I"⟩, 18) := ⟨⟨by decide +kernel, by decide +kernel⟩, List.mem_of_getElem? (i := 1111) (by decide +kernel), List.mem_of_getElem? (i := 1313) (by decide +kernel), List.mem_of_getElem? (i := 1314) (by decide +kernel)⟩
theorem lw_p27 : lw_okq (⟨"DiskArmSimulatorModel", "isPending", "(I)Z"⟩, 18) := ⟨⟨by decide +kernel, by decide +kernel⟩, List.mem_of_getElem? (i := 1111) (by decide +kernel), List.mem_of_getElem? (i := 1317) (by decide +kernel), List.mem_of_getElem? (i := 1318) (by decide +kernel)⟩
theorem lw_p28 : lw_okq (⟨"DiskArmSimulatorModel", "comes", "(III)I"⟩, 18) := ⟨⟨by decide +kernel, by decide +kernel⟩, List.mem_of_getElem? (i := 1111) (by decide +kernel), List.mem_of_getElem? (i := 1321) (by decide +kernel), List.mem_of_getElem? (i := 1322) (by decide +kernel)⟩
theorem lw_p29 : lw_okq (⟨"DiskArmSimulatorModel", "faultOf", "()I"⟩, 18) := ⟨⟨by decide +kernel, by decide +kernel⟩, List.mem_of_getElem? (i := 1111) (by decide +kernel), List.mem_of_getElem? (i := 1333) (by decide +kernel), List.mem_of_getElem? (i := 1334) (by decide +kernel)⟩
theorem lw_p30 : lw_okq (⟨"DiskArmSimulatorModel", "isItem", "()Z"⟩, 18) := ⟨⟨by decide +kernel, by decide +kernel⟩, List.mem_of_getElem? (i := 1111) (by decide +kernel), List.mem_of_getElem? (i := 1337) (by decide +kernel), List.mem_of_getElem? (i := 1338) (by decide +kernel)⟩
theorem lw_p31 : lw_okq (⟨"DiskArmSimulatorModel", "here", "()I"⟩, 18) := ⟨⟨by decide +kernel, by decide +kernel⟩, List.mem_of_getElem? (i := 1111) (by decide +kernel), List.mem_of_getElem? (i := 1341) (by decide +kernel), List.mem_of_getElem? (i := 1342) (by decide +kernel)⟩
def lw_privs_2 : List (MethodName × Nat) := [(⟨"DiskArmSimulatorModel", "becomes", "(II)I"⟩, 18), (⟨"DiskArmSimulatorModel", "fails", "(I)I"⟩, 18), (⟨"DiskArmSimulatorModel", "dirty", "()I"⟩, 18), (⟨"DiskArmSimulatorModel", "seek", "(II)I"⟩, 18), (⟨"DiskArmSimulatorModel", "place", "(I)I"⟩, 18), (⟨"DiskArmSimulatorModel", "angleAt", "(I)I"⟩, 18), (⟨"DiskArmSimulatorModel", "takes", "(I)I"⟩, 18), (⟨"DiskArmSimulatorModel", "ends", "(III)I"⟩, 18), (⟨"DiskArmSimulatorModel", "waits", "(II)I"⟩, 18), (⟨"DiskArmSimulatorModel", "refusal", "(III)I"⟩, 18), (⟨"DiskArmSimulatorModel", "pending", "()I"⟩, 18), (⟨"DiskArmSimulatorModel", "isPending", "(I)Z"⟩, 18), (⟨"DiskArmSimulatorModel", "comes", "(III)I"⟩, 18), (⟨"DiskArmSimulatorModel", "faultOf", "()I"⟩, 18), (⟨"DiskArmSimulatorModel", "isItem", "()Z"⟩, 18), (⟨"DiskArmSimulatorModel", "here", "()I"⟩, 18)]
theorem lw_r2 : ∀ q ∈ lw_privs_2, lw_okq q := List.forall_mem_cons.mpr ⟨lw_p16, List.forall_mem_cons.mpr ⟨lw_p17, List.forall_mem_cons.mpr ⟨lw_p18, List.forall_mem_cons.mpr ⟨lw_p19, List.forall_mem_cons.mpr ⟨lw_p20, List.forall_mem_cons.mpr ⟨lw_p21, List.forall_mem_cons.mpr ⟨lw_p22, List.forall_mem_cons.mpr ⟨lw_p23, List.forall_mem_cons.mpr ⟨lw_p24, List.forall_mem_cons.mpr ⟨lw_p25, List.forall_mem_cons.mpr ⟨lw_p26, List.forall_mem_cons.mpr ⟨lw_p27, List.forall_mem_cons.mpr ⟨lw_p28, List.forall_mem_cons.mpr ⟨lw_p29, List.forall_mem_cons.mpr ⟨lw_p30, List.forall_mem_cons.mpr ⟨lw_p31, fun _ h => absurd h List.not_mem_nil⟩⟩⟩⟩⟩⟩⟩⟩⟩⟩⟩⟩⟩⟩⟩⟩
theorem lw_p32 : lw_okq (⟨"DiskArmSimulatorModel", "skips", "(I)Z"⟩, 18) := ⟨⟨by decide +kernel, by decide +kernel⟩, List.mem_of_getElem? (i := 1111) (by decide +kernel), List.mem_of_getElem? (i := 1345) (by decide +kernel), List.mem_of_getElem? (i := 1346) (by decide +kernel)⟩
theorem lw_p33 : lw_okq (⟨"DiskArmSimulatorModel", "digits", "(I)Z"⟩, 18) := ⟨⟨by decide +kernel, by decide +kernel⟩, List.mem_of_getElem? (i := 1111) (by decide +kernel), List.mem_of_getElem? (i := 1349) (by decide +kernel), List.mem_of_getElem? (i := 1350) (by decide +kernel)⟩
theorem lw_p34 : lw_okq (⟨"DiskArmSimulatorModel", "isRequest", "(I)Z"⟩, 18) := ⟨⟨by decide +kernel, by decide +kernel⟩, List.mem_of_getElem? (i := 1111) (by decide +kernel), List.mem_of_getElem? (i := 1361) (by decide +kernel), List.mem_of_getElem? (i := 1362) (by decide +kernel)⟩
theorem lw_p35 : lw_okq (⟨"DiskArmSimulatorModel", "chosen", "()I"⟩, 18) := ⟨⟨by decide +kernel, by decide +kernel⟩, List.mem_of_getElem? (i := 1111) (by decide +kernel), List.mem_of_getElem? (i := 1369) (by decide +kernel), List.mem_of_getElem? (i := 1370) (by decide +kernel)⟩
theorem lw_p36 : lw_okq (⟨"DiskArmSimulatorModel", "least", "(I)I"⟩, 18) := ⟨⟨by decide +kernel, by decide +kernel⟩, List.mem_of_getElem? (i := 1111) (by decide +kernel), List.mem_of_getElem? (i := 1373) (by decide +kernel), List.mem_of_getElem? (i := 1374) (by decide +kernel)⟩
theorem lw_p37 : lw_okq (⟨"DiskArmSimulatorModel", "keyOf", "(II)I"⟩, 18) := ⟨⟨by decide +kernel, by decide +kernel⟩, List.mem_of_getElem? (i := 1111) (by decide +kernel), List.mem_of_getElem? (i := 1377) (by decide +kernel), List.mem_of_getElem? (i := 1378) (by decide +kernel)⟩
theorem lw_p38 : lw_okq (⟨"DiskArmSimulatorModel", "distance", "(I)I"⟩, 18) := ⟨⟨by decide +kernel, by decide +kernel⟩, List.mem_of_getElem? (i := 1111) (by decide +kernel), List.mem_of_getElem? (i := 1381) (by decide +kernel), List.mem_of_getElem? (i := 1382) (by decide +kernel)⟩
theorem lw_p39 : lw_okq (⟨"DiskArmSimulatorModel", "cylinder", "(I)I"⟩, 18) := ⟨⟨by decide +kernel, by decide +kernel⟩, List.mem_of_getElem? (i := 1111) (by decide +kernel), List.mem_of_getElem? (i := 1385) (by decide +kernel), List.mem_of_getElem? (i := 1386) (by decide +kernel)⟩
theorem lw_p40 : lw_okq (⟨"DiskArmSimulatorModel", "isAhead", "(I)Z"⟩, 18) := ⟨⟨by decide +kernel, by decide +kernel⟩, List.mem_of_getElem? (i := 1111) (by decide +kernel), List.mem_of_getElem? (i := 1389) (by decide +kernel), List.mem_of_getElem? (i := 1390) (by decide +kernel)⟩
theorem lw_p41 : lw_okq (⟨"DiskArmSimulatorModel", "bucketOf", "(I)I"⟩, 18) := ⟨⟨by decide +kernel, by decide +kernel⟩, List.mem_of_getElem? (i := 1111) (by decide +kernel), List.mem_of_getElem? (i := 1393) (by decide +kernel), List.mem_of_getElem? (i := 1394) (by decide +kernel)⟩
theorem lw_p42 : lw_okq (⟨"DiskArmSimulatorModel", "searches", "(ZZI)V"⟩, 18) := ⟨⟨by decide +kernel, by decide +kernel⟩, List.mem_of_getElem? (i := 1111) (by decide +kernel), List.mem_of_getElem? (i := 1397) (by decide +kernel), List.mem_of_getElem? (i := 1398) (by decide +kernel)⟩
theorem lw_p43 : lw_okq (⟨"DiskArmSimulatorModel", "goes", "(III)V"⟩, 18) := ⟨⟨by decide +kernel, by decide +kernel⟩, List.mem_of_getElem? (i := 1111) (by decide +kernel), List.mem_of_getElem? (i := 1401) (by decide +kernel), List.mem_of_getElem? (i := 1402) (by decide +kernel)⟩
theorem lw_p44 : lw_okq (⟨"DiskArmSimulatorModel", "serves", "()I"⟩, 18) := ⟨⟨by decide +kernel, by decide +kernel⟩, List.mem_of_getElem? (i := 1111) (by decide +kernel), List.mem_of_getElem? (i := 1409) (by decide +kernel), List.mem_of_getElem? (i := 1410) (by decide +kernel)⟩
theorem lw_p45 : lw_okq (⟨"DiskArmSimulatorModel", "accesses", "(I)V"⟩, 18) := ⟨⟨by decide +kernel, by decide +kernel⟩, List.mem_of_getElem? (i := 1111) (by decide +kernel), List.mem_of_getElem? (i := 1413) (by decide +kernel), List.mem_of_getElem? (i := 1414) (by decide +kernel)⟩
theorem lw_p46 : lw_okq (⟨"DiskArmSimulatorModel", "dirtyFrom", "(II)I"⟩, 18) := ⟨⟨by decide +kernel, by decide +kernel⟩, List.mem_of_getElem? (i := 1111) (by decide +kernel), List.mem_of_getElem? (i := 1425) (by decide +kernel), List.mem_of_getElem? (i := 1426) (by decide +kernel)⟩
theorem lw_p47 : lw_okq (⟨"DiskArmSimulatorModel", "isBehind", "(I)Z"⟩, 18) := ⟨⟨by decide +kernel, by decide +kernel⟩, List.mem_of_getElem? (i := 1111) (by decide +kernel), List.mem_of_getElem? (i := 1453) (by decide +kernel), List.mem_of_getElem? (i := 1454) (by decide +kernel)⟩
def lw_privs_3 : List (MethodName × Nat) := [(⟨"DiskArmSimulatorModel", "skips", "(I)Z"⟩, 18), (⟨"DiskArmSimulatorModel", "digits", "(I)Z"⟩, 18), (⟨"DiskArmSimulatorModel", "isRequest", "(I)Z"⟩, 18), (⟨"DiskArmSimulatorModel", "chosen", "()I"⟩, 18), (⟨"DiskArmSimulatorModel", "least", "(I)I"⟩, 18), (⟨"DiskArmSimulatorModel", "keyOf", "(II)I"⟩, 18), (⟨"DiskArmSimulatorModel", "distance", "(I)I"⟩, 18), (⟨"DiskArmSimulatorModel", "cylinder", "(I)I"⟩, 18), (⟨"DiskArmSimulatorModel", "isAhead", "(I)Z"⟩, 18), (⟨"DiskArmSimulatorModel", "bucketOf", "(I)I"⟩, 18), (⟨"DiskArmSimulatorModel", "searches", "(ZZI)V"⟩, 18), (⟨"DiskArmSimulatorModel", "goes", "(III)V"⟩, 18), (⟨"DiskArmSimulatorModel", "serves", "()I"⟩, 18), (⟨"DiskArmSimulatorModel", "accesses", "(I)V"⟩, 18), (⟨"DiskArmSimulatorModel", "dirtyFrom", "(II)I"⟩, 18), (⟨"DiskArmSimulatorModel", "isBehind", "(I)Z"⟩, 18)]
theorem lw_r3 : ∀ q ∈ lw_privs_3, lw_okq q := List.forall_mem_cons.mpr ⟨lw_p32, List.forall_mem_cons.mpr ⟨lw_p33, List.forall_mem_cons.mpr ⟨lw_p34, List.forall_mem_cons.mpr ⟨lw_p35, List.forall_mem_cons.mpr ⟨lw_p36, List.forall_mem_cons.mpr ⟨lw_p37, List.forall_mem_cons.mpr ⟨lw_p38, List.forall_mem_cons.mpr ⟨lw_p39, List.forall_mem_cons.mpr ⟨lw_p40, List.forall_mem_cons.mpr ⟨lw_p41, List.forall_mem_cons.mpr ⟨lw_p42, List.forall_mem_cons.mpr ⟨lw_p43, List.forall_mem_cons.mpr ⟨lw_p44, List.forall_mem_cons.mpr ⟨lw_p45, List.forall_mem_cons.mpr ⟨lw_p46, List.forall_mem_cons.mpr ⟨lw_p47, fun _ h => absurd h List.not_mem_nil⟩⟩⟩⟩⟩⟩⟩⟩⟩⟩⟩⟩⟩⟩⟩⟩
def lw_privs : List (MethodName × Nat) := lw_privs_1 ++ (lw_privs_2 ++ (lw_privs_3))
def lw_tbl : List Cond := k2_sels lw_privs ++ tables_1
theorem lw_privs_ok : ∀ q ∈ lw_privs, lw_okq q := by
  show ∀ q ∈ lw_privs_1 ++ (lw_privs_2 ++ (lw_privs_3)), lw_okq q
  exact List.forall_mem_append.mpr ⟨lw_r1, List.forall_mem_append.mpr ⟨lw_r2, lw_r3⟩⟩
/-- the streams that the claim lets the run draw from -/
abbrev lw_cs : List Choice := [Jvm.Choice.named "NaN.bits"]
theorem lw_bits : nanBits ∈ lw_cs := by first | decide | exact List.mem_cons_self | simp [lw_cs, nanBits]
end
section
/-! ===== BEGIN words of one list among another's, by their places ===== -/
theorem goodIn_r {big : List Cond} (ws : List Cond) (ps : List Nat) (hp : ws = ps.filterMap (fun i => big[i]?)) (h : ws.all goodWord = true) : GoodIn big ws := by
  intro w hw
  have h1 := List.all_eq_true.mp h w hw
  rw [hp] at hw
  obtain ⟨i, -, hi⟩ := List.mem_filterMap.mp hw
  have hm : w ∈ big := by first | exact List.mem_of_getElem? hi | exact List.getElem?_mem hi
  exact ⟨hm, good_of_word h1⟩
theorem goodIn_app {big a b : List Cond} (ha : GoodIn big a) (hb : GoodIn big b) : GoodIn big (a ++ b) := fun w h => (List.mem_append.mp h).elim (ha w) (hb w)
theorem goodIn_ca {big a b : List Cond} {c : Cond} (ha : GoodIn big (c :: a)) (hb : GoodIn big b) : GoodIn big (c :: (a ++ b)) := fun w h => (List.mem_cons.mp h).elim (fun e => ha w (List.mem_cons.mpr (Or.inl e))) (fun h => (List.mem_append.mp h).elim (fun h => ha w (List.mem_cons.mpr (Or.inr h))) (hb w))
theorem goodIn_sub {big ws : List Cond} (hm : ∀ w ∈ ws, w ∈ big) (h : ws.all goodWord = true) : GoodIn big ws := fun w hw => ⟨hm w hw, good_of_word (List.all_eq_true.mp h w hw)⟩
/-! ===== END ===== -/

/-! ===== BEGIN exceptions that leave a method, and their catching by the caller (launches without stack traces) ===== -/
section VXA
/-! The laws vx_back, vx_callV, vx_callS, vx_callSW, vx_throw0, vx_throwS follow proofs of the library, with one case more: JvmDerived/Free/Laws.lean (Back.of_free), Shelf42/LK1.lean (callV, callS), Shelf/KitTraced.lean (throwNew0V, throwNewS). -/
/-- where a method has thrown q: the class by its name, the cell, what was written, the world -/
def vx_T (XC : String → State → State → Prop) (st : State) (q : Addr) (t : State) (mc ms : Nat) (free : Addr → Prop) : Prop :=
  ∃ (E : String) (ce : Cell) (L : List Loc), XC E st t ∧ t.heap[q]? = some ce ∧ ce.vm = .none ∧ st.vm.findClass E = some ce.cls ∧ st.WarmedH t.vm ∧ st.sameButNew ({ t with vm := st.vm } : State) L mc ms ∧ ∀ z ∈ L, free z.base
def vx_Q (Qc : Array Value → State → Outcome → State → Prop) (XC : String → State → State → Prop) (mc ms : Nat) (free : Addr → Prop) : Array Value → State → Outcome → State → Prop := fun a st o t =>
  (Qc a st o t ∧ ∃ L, FrameEnd st o t L mc ms ∧ ∀ q ∈ L, free q.base) ∨ ∃ q, o = .threw q ∧ vx_T XC st q t mc ms free
/-- a callee that returns or throws -/
def vx_Met (l : Launch) (y : MethodName) (ws : List Cond) (rm : Room) (Pc : Array Value → State → Prop) (Qc : Array Value → State → Outcome → State → Prop) (XC : String → State → State → Prop) (mc ms : Nat) (free : Addr → Prop) : Prop :=
  MetFree l y (headSpec ws rm) Pc (fun _ _ _ _ _ => True) (vx_Q Qc XC mc ms free)
def vx_Post (XC : String → State → State → Prop) (mc ms : Nat) (free : Addr → Prop) : Pt → Array Value → Addr → Pt → Prop := fun A a q B =>
  ∃ (g : JFrame) (mk : MethodId) (t : State) (L : List Loc) (E : String) (ce : Cell), B.U.heap = t.heap ∧ B.U.vm = t.vm ∧ XC E (A.U.calling g mk a) t ∧ t.heap[q]? = some ce ∧ ce.vm = .none ∧ A.U.vm.findClass E = some ce.cls ∧ B.locs = A.locs ++ L ∧ (∀ z ∈ L, free z.base) ∧ B.cells = A.cells + mc ∧ B.slots = A.slots + ms
def vx_Back (l : Launch) (R : Room) (p : Program) (e : Env) (below : List Frame) (s : State) (sargs : Array Value) (y : MethodName) (len W9 : Nat)
    (Pre : Pt → Array Value → Prop) (Post : Pt → Array Value → Option Value → Pt → Prop) (PostX : Pt → Array Value → Addr → Pt → Prop) : Prop :=
  ∀ (m : MethodId) (meth : Method) (c : Code) (A : Pt) (g : JFrame) (ig : Instr) (mk : MethodId) (a : Array Value),
    Stand p l e R s m sargs below meth c A.U A.locs A.cells A.slots → g.method = m → g.locals.size = c.maxLocals → decode c.code g.pc = .ok (ig, len) →
    2 * g.monitorRoom + (g.stack.map fun v => v.category).sum ≤ W9 → A.U.methodNamed? y = some mk → Pre A a →
    (∃ (v : Option Value) (B : Pt), Stand p l e R s m sargs below meth c B.U B.locs B.cells B.slots ∧ Post A a v B ∧
      Steps p.tables e below (doInvoke e (A.U.setTop g) [] mk a).1 (B.U.setTop { g with pc := g.pc + len, stack := v.toList ++ g.stack })) ∨
    (∃ (q : Addr) (B : Pt), Stand p l e R s m sargs below meth c B.U B.locs B.cells B.slots ∧ PostX A a q B ∧
      Steps p.tables e below (doInvoke e (A.U.setTop g) [] mk a).1 ((B.U.setTop g).pushFrame (.throwing q)))
section Payer
variable {l : Launch} {R : Room} {p : Program} {e : Env} {below : List Frame} {s : State} {sargs : Array Value} {y : MethodName} {len W9 : Nat}
theorem vx_back {ws : List Cond} {rm : Room} {Pc : Array Value → State → Prop} {Qc : Array Value → State → Outcome → State → Prop} {XC : String → State → State → Prop} {mc ms : Nat} {free : Addr → Prop} {bytes : ByteArray} {maxL : Nat} {ret : Option FieldType}
    (hM : vx_Met l y ws rm Pc Qc XC mc ms free) (hblind : FrameBlind Pc) (hrc : rm.cells = mc) (hrs : rm.slots = ms)
    (hframes : rm.frames + 1 ≤ R.frames) (hlocals : W9 + (maxL + 11) + rm.locals ≤ R.locals)
    (hws : ∀ w ∈ ws, ∀ a' U, s.WarmedH U.vm → w.before a' U = true) (hcode : Cond.code y bytes maxL ret ∈ ws) (hinit : ∀ a' U, s.WarmedH U.vm → (Cond.initialized y.cls).before a' U = true) :
    vx_Back l R p e below s sargs y len W9 (PreOf R mc ms Pc) (PostOf Qc mc ms free) (vx_Post XC mc ms free) := by
  intro m meth c A g ig mk a X hg hsize hdg hW hn hp
  have h1 : (headSpec ws rm).pre.before a A.U = true := atoms_intro fun w hw => hws w hw _ _ X.warmed
  have h2 : (Cond.code y bytes maxL ret).before a A.U = true := hws _ hcode _ _ X.warmed
  have h3 : (Cond.initialized y.cls).before a A.U = true := hinit _ _ X.warmed
  have h4 : A.cells + (headSpec ws rm).room.cells ≤ R.cells := by rw [show (headSpec ws rm).room.cells = mc from hrc]; exact hp.1
  have h5 : A.slots + (headSpec ws rm).room.slots ≤ R.slots := by rw [show (headSpec ws rm).room.slots = ms from hrs]; exact hp.2.1
  have hPc : Pc a (A.U.calling g mk a) := hblind _ _ _ _ hp.2.2
  obtain ⟨U, Ls, c0, s0⟩ := A
  dsimp only [Pt.U, Pt.locs, Pt.cells, Pt.slots] at h1 h2 h3 h4 h5 X hn hPc ⊢
  obtain ⟨methY, cY, hmY, hcY, -, hlY, -, -, -, -⟩ := Cond.code_spec hn h2
  obtain ⟨kY, hkY, -⟩ := className_of_methodNamed hn
  have hinitY : kY.init = .initialized := Cond.initialized_spec (findClass_of_methodNamed hn) hkY h3
  have h : At U g.method c below := by rw [hg]; exact X.here
  have hlocals9 : W9 + (maxL + 11) + (headSpec ws rm).room.locals ≤ R.locals := hlocals
  have happ : (headSpec ws rm).appliesLoose y e.platform (U.calling g mk a) = true :=
    Spec.appliesLoose_calling (g := g) h hdg hn hkY hinitY
      (X.room_calling (g := g) (R' := (headSpec ws rm).room) hsize hmY hcY hframes (by rw [hlY]; omega) h4 h5) h1
  obtain ⟨mid, hmid⟩ := h.above
  have hfr : (U.setTop g).frames = (.java g :: mid) ++ below := by rw [State.frames_setTop' g h.top, hmid]; rfl
  obtain ⟨o, s₂, hsteps, -, hend, hq⟩ := Steps.callFree hM p X.admits X.cas X.clock (acts := []) hfr happ hPc trivial
  have hq' : vx_Q Qc XC mc ms free a (U.calling g mk a) o s₂ := hq
  rw [State.frames_setTop' g h.top] at hend
  obtain ⟨g₀, hg0⟩ := Option.isSome_iff_exists.mp h.top
  obtain ⟨r, hr⟩ := State.topJava?_eq_some.mp hg0
  have hr' : (({ U with heap := s₂.heap, slotsUsed := s₂.slotsUsed } : State).setVm s₂.vm).frames = .java g₀ :: r := hr
  rcases hq' with ⟨hqc, L, hfe, hL⟩ | ⟨q, rfl, E, ce, L, hx, hce, hcv, hcl, hW₂, hsm, hL⟩
  · obtain ⟨⟨v, rfl⟩, hW₂, e2, q2, q3, q4, q5, q6⟩ := id hfe
    have e3 : s₂ = ({ (U.calling g mk a).setFrames s₂.frames with heap := s₂.heap, slotsUsed := s₂.slotsUsed } : State).setVm s₂.vm := by
      have : s₂ = ({ s₂ with vm := (U.calling g mk a).vm } : State).setVm s₂.vm := rfl
      rw [e2] at this
      exact this
    obtain ⟨c₂, i₂, len₂, hc₂, hd₂, hf₂⟩ := hend
    have hW' : U.WarmedH s₂.vm := hW₂
    have hcc : c₂ = c := by
      have h1 : s₂.code? g.method = U.code? g.method := by
        rw [State.code?_eq, State.code?_eq, hW'.alike.method?]
      exact Option.some.inj (hc₂.symm.trans (h1.trans h.code))
    subst hcc
    have hlen : len₂ = len := by rw [hdg] at hd₂; cases hd₂; rfl
    subst hlen
    have hs₂ : s₂ = (({ U with heap := s₂.heap, slotsUsed := s₂.slotsUsed } : State).setVm s₂.vm).setTop { g with pc := g.pc + len₂, stack := v.toList ++ g.stack } := by
      refine e3.trans ?_
      rw [hf₂, State.calling_eq h.top, State.setFrames_setFrames, State.setTop_of_frames _ hr', hr]
      rfl
    have hsame : U.sameButNew ({ U with heap := s₂.heap, slotsUsed := s₂.slotsUsed } : State) L mc ms := by
      refine ⟨?_, q2, q3, q4, q5, q6⟩
      obtain ⟨t, ht, -⟩ := State.frames_cons hr
      show ({ U with heap := s₂.heap, slotsUsed := s₂.slotsUsed } : State) = { U.setFrames U.frames with heap := s₂.heap, slotsUsed := s₂.slotsUsed }
      rw [State.setFrames_self ht]
    subst hg
    refine Or.inl ⟨v, ⟨(({ U with heap := s₂.heap, slotsUsed := s₂.slotsUsed } : State).setVm s₂.vm), Ls ++ L, c0 + mc, s0 + ms⟩,
      ⟨X.admits, X.cas, X.clock, X.frames, X.room, X.hears, X.method, X.code, (X.here.setHeapUsed s₂.heap s₂.slotsUsed).setVm hW'.alike, X.tail, State.WarmedH.trans X.warmed hW', X.limits, X.bytes, X.same.trans (hsame.setVm s.vm)⟩,
      ⟨g, mk, s₂, L, rfl, rfl, hqc, rfl, hL, rfl, rfl⟩, ?_⟩
    show Steps p.tables e below _ ((({ U with heap := s₂.heap, slotsUsed := s₂.slotsUsed } : State).setVm s₂.vm).setTop { g with pc := g.pc + len₂, stack := v.toList ++ g.stack })
    rw [← hs₂]
    exact hsteps
  · obtain ⟨e2, q2, q3, q4, q5, q6⟩ := id hsm
    have e3 : s₂ = ({ (U.calling g mk a).setFrames s₂.frames with heap := s₂.heap, slotsUsed := s₂.slotsUsed } : State).setVm s₂.vm := by
      have : s₂ = ({ s₂ with vm := (U.calling g mk a).vm } : State).setVm s₂.vm := rfl
      rw [e2] at this
      exact this
    have hf₂ : s₂.frames = .throwing q :: .java g :: U.frames.tail := hend
    have hW' : U.WarmedH s₂.vm := hW₂
    have hs₂ : s₂ = ((({ U with heap := s₂.heap, slotsUsed := s₂.slotsUsed } : State).setVm s₂.vm).setTop g).pushFrame (.throwing q) := by
      refine e3.trans ?_
      rw [hf₂, State.calling_eq h.top, State.setFrames_setFrames, State.pushFrame, State.frames_setTop _ hr', State.setTop_of_frames _ hr', State.setFrames_setFrames, hr]
      rfl
    have hsame : U.sameButNew ({ U with heap := s₂.heap, slotsUsed := s₂.slotsUsed } : State) L mc ms := by
      refine ⟨?_, q2, q3, q4, q5, q6⟩
      obtain ⟨t, ht, -⟩ := State.frames_cons hr
      show ({ U with heap := s₂.heap, slotsUsed := s₂.slotsUsed } : State) = { U.setFrames U.frames with heap := s₂.heap, slotsUsed := s₂.slotsUsed }
      rw [State.setFrames_self ht]
    subst hg
    refine Or.inr ⟨q, ⟨(({ U with heap := s₂.heap, slotsUsed := s₂.slotsUsed } : State).setVm s₂.vm), Ls ++ L, c0 + mc, s0 + ms⟩,
      ⟨X.admits, X.cas, X.clock, X.frames, X.room, X.hears, X.method, X.code, (X.here.setHeapUsed s₂.heap s₂.slotsUsed).setVm hW'.alike, X.tail, State.WarmedH.trans X.warmed hW', X.limits, X.bytes, X.same.trans (hsame.setVm s.vm)⟩,
      ⟨g, mk, s₂, L, E, ce, rfl, rfl, hx, hce, hcv, hcl, rfl, hL, rfl, rfl⟩, ?_⟩
    show Steps p.tables e below _ (((({ U with heap := s₂.heap, slotsUsed := s₂.slotsUsed } : State).setVm s₂.vm).setTop g).pushFrame (.throwing q))
    rw [← hs₂]
    exact hsteps
end Payer
section Calls
variable {p : Program} {l : Launch} {e : Env} {R : Room} {s : State} {m : MethodId} {args : Array Value} {below : List Frame} {meth : Method} {c : Code} {T : State} {locs : List Loc} {cells slots : Nat}
theorem vx_callV (X : Stand p l e R s m args below meth c T locs cells slots) (hexec : p.tables.exec = Jvm.exec) {own C : String} {index : Nat} {y : MethodName} {bytes : ByteArray} {maxL : Nat} {ret : Option FieldType}
    (hown : s.vm.findClass own = some m.cls) (hlink : (Cond.methodLink own index y).before args s = true) (hinst : (Cond.instanceMethod y).before args s = true) (hsel : (Cond.selects C y y).before args s = true)
    (hcode : (Cond.code y bytes maxL ret).before args s = true) (hy : y.cls ≠ "java/lang/invoke/MethodHandle" ∧ y.cls ≠ "java/lang/invoke/VarHandle")
    {W9 : Nat} {Pre : Pt → Array Value → Prop} {Post : Pt → Array Value → Option Value → Pt → Prop} {PostX : Pt → Array Value → Addr → Pt → Prop} (hK : vx_Back l R p e below s args y 3 W9 Pre Post PostX)
    {b : Addr} {cellB : Cell} (hcell : T.heap[b]? = some cellB) (hobj : cellB.vm.isStatics = false) (hcls : s.vm.findClass C = some cellB.cls)
    {g : JFrame} (hg : g.method = m) (hsize : g.locals.size = c.maxLocals) {argsL rest : List Value} (hlen : ∀ sig, parseMethodDescriptor y.desc = some sig → argsL.length = sig.parameters.length)
    (hstack : g.stack = argsL.reverse ++ .ref b :: rest) (hW : 2 * g.monitorRoom + (rest.map fun v => v.category).sum ≤ W9) (hdg : decode c.code g.pc = .ok (.invokevirtual index, 3))
    (hpre : ∀ vm₁, s.WarmedH vm₁ → Pre ⟨T.setVm vm₁, locs, cells, slots⟩ (Value.ref b :: argsL).toArray) :
    (∃ (v : Option Value) (vm₁ : Vm) (B : Pt), s.WarmedH vm₁ ∧ Stand p l e R s m args below meth c B.U B.locs B.cells B.slots ∧ Post ⟨T.setVm vm₁, locs, cells, slots⟩ (Value.ref b :: argsL).toArray v B ∧
      ∀ target, Steps p.tables e below (B.U.setTop { g with pc := g.pc + 3, stack := v.toList ++ rest }) target → Steps p.tables e below (T.setTop g) target) ∨
    (∃ (q : Addr) (vm₁ : Vm) (B : Pt), s.WarmedH vm₁ ∧ Stand p l e R s m args below meth c B.U B.locs B.cells B.slots ∧ PostX ⟨T.setVm vm₁, locs, cells, slots⟩ (Value.ref b :: argsL).toArray q B ∧
      Steps p.tables e below (T.setTop g) ((B.U.setTop { g with stack := rest }).pushFrame (.throwing q))) := by
  obtain ⟨mk, methM, hnamed, hmethM, hstM, habM⟩ := Cond.instanceMethod_spec hinst
  obtain ⟨methM', cM, hmethM', -, -, -, -, -, -, hsigM⟩ := Cond.code_spec hnamed hcode
  cases hmethM.symm.trans hmethM'
  obtain ⟨c2, r2, m2, q1, q2, q3, q4, kP, hkP, hkPi⟩ := Cond.selects_spec hsel
  cases hcls.symm.trans q1
  cases (State.methodFound?_of_named hnamed hy).symm.trans q2
  cases hnamed.symm.trans q3
  have hselP : selectMethod e.platform s.vm cellB.cls mk = .method mk := by rw [Launch.admits_selectMethod X.admits]; exact q4
  obtain ⟨vm₁, X₁, hstep₁⟩ := X.invokevirtual hexec hown hlink hnamed hmethM hstM hkP hkPi hy (a := b) (cell := cellB) hcell
    (fun z h => by rw [h] at hobj; cases hobj) hselP hmethM habM hkP hkPi (g := g) hg (argsL := argsL) (rest := rest) (hlen _ hsigM) hstack hdg
  rcases hK m meth c ⟨T.setVm vm₁, locs, cells, slots⟩ { g with stack := rest } (.invokevirtual index) mk (Value.ref b :: argsL).toArray X₁ hg hsize hdg hW (X₁.named hnamed) (hpre vm₁ X₁.warmed) with ⟨v, B, X', hpost, hsteps⟩ | ⟨q, B, X', hpost, hsteps⟩
  · exact Or.inl ⟨v, vm₁, B, X₁.warmed, X', hpost, fun target h => hstep₁ _ fun acts => by rw [doInvoke_state]; exact hsteps.trans h⟩
  · exact Or.inr ⟨q, vm₁, B, X₁.warmed, X', hpost, hstep₁ _ fun acts => by rw [doInvoke_state]; exact hsteps⟩
theorem vx_callS (X : Stand p l e R s m args below meth c T locs cells slots) (hexec : p.tables.exec = Jvm.exec) {own : String} {index : Nat} {y : MethodName} {bytes : ByteArray} {maxL : Nat} {ret : Option FieldType}
    (hown : s.vm.findClass own = some m.cls) (hlink : (Cond.methodLink own index y).before args s = true) (hstat : (Cond.static y).before args s = true) (hinit : (Cond.initialized y.cls).before args s = true)
    (hcode : (Cond.code y bytes maxL ret).before args s = true) (hy : y.cls ≠ "java/lang/invoke/MethodHandle" ∧ y.cls ≠ "java/lang/invoke/VarHandle")
    {W9 : Nat} {Pre : Pt → Array Value → Prop} {Post : Pt → Array Value → Option Value → Pt → Prop} {PostX : Pt → Array Value → Addr → Pt → Prop} (hK : vx_Back l R p e below s args y 3 W9 Pre Post PostX)
    {g : JFrame} (hg : g.method = m) (hsize : g.locals.size = c.maxLocals) {argsL rest : List Value} (hlen : ∀ sig, parseMethodDescriptor y.desc = some sig → argsL.length = sig.parameters.length)
    (hstack : g.stack = argsL.reverse ++ rest) (hW : 2 * g.monitorRoom + (rest.map fun v => v.category).sum ≤ W9) (hdg : decode c.code g.pc = .ok (.invokestatic index, 3))
    (hpre : ∀ vm₁, s.WarmedH vm₁ → Pre ⟨T.setVm vm₁, locs, cells, slots⟩ argsL.toArray) :
    (∃ (v : Option Value) (vm₁ : Vm) (B : Pt), s.WarmedH vm₁ ∧ Stand p l e R s m args below meth c B.U B.locs B.cells B.slots ∧ Post ⟨T.setVm vm₁, locs, cells, slots⟩ argsL.toArray v B ∧
      ∀ target, Steps p.tables e below (B.U.setTop { g with pc := g.pc + 3, stack := v.toList ++ rest }) target → Steps p.tables e below (T.setTop g) target) ∨
    (∃ (q : Addr) (vm₁ : Vm) (B : Pt), s.WarmedH vm₁ ∧ Stand p l e R s m args below meth c B.U B.locs B.cells B.slots ∧ PostX ⟨T.setVm vm₁, locs, cells, slots⟩ argsL.toArray q B ∧
      Steps p.tables e below (T.setTop g) ((B.U.setTop { g with stack := rest }).pushFrame (.throwing q))) := by
  obtain ⟨mk, hnamed⟩ := Cond.code_named hcode
  obtain ⟨methM, cM, hmethM, -, -, -, -, -, -, hsigM⟩ := Cond.code_spec hnamed hcode
  have hstatic : methM.isStatic = true := Cond.static_spec hnamed hmethM hstat
  obtain ⟨kP, hkP, -⟩ := className_of_methodNamed hnamed
  have hinitP : kP.init = .initialized := Cond.initialized_spec (findClass_of_methodNamed hnamed) hkP hinit
  obtain ⟨vm₁, X₁, hstep₁⟩ := X.invokestatic hexec hown hlink hnamed hmethM hstatic hkP hinitP hy (g := g) hg (argsL := argsL) (rest := rest) (hlen _ hsigM) hstack hdg
  rcases hK m meth c ⟨T.setVm vm₁, locs, cells, slots⟩ { g with stack := rest } (.invokestatic index) mk argsL.toArray X₁ hg hsize hdg hW (X₁.named hnamed) (hpre vm₁ X₁.warmed) with ⟨v, B, X', hpost, hsteps⟩ | ⟨q, B, X', hpost, hsteps⟩
  · exact Or.inl ⟨v, vm₁, B, X₁.warmed, X', hpost, fun target h => hstep₁ _ fun acts => by rw [doInvoke_state]; exact hsteps.trans h⟩
  · exact Or.inr ⟨q, vm₁, B, X₁.warmed, X', hpost, hstep₁ _ fun acts => by rw [doInvoke_state]; exact hsteps⟩
end Calls
theorem vx_cls {s : State} {T : State} {vm₁ : Vm} {E : String} {k : ClassId} (hW : s.WarmedH vm₁) (h : (T.setVm vm₁).vm.findClass E = some k) : s.vm.findClass E = some k := by
  have h1 : vm₁.findClass E = some k := h
  rw [hW.alike.findClass] at h1
  exact h1
/-- the method's frame g, with q thrown over it -/
def vx_W (p : Program) (l : Launch) (e : Env) (R : Room) (s : State) (m : MethodId) (args : Array Value) (below : List Frame) (meth : Method) (c : Code) (H : Heap) (locs : List Loc) (cells slots : Nat) (Q : State → Prop) (g : JFrame) (q : Addr) : Prop :=
  ∀ T : State, T.heap = H → Stand p l e R s m args below meth c T locs cells slots → ∃ t, Steps p.tables e below ((T.setTop g).pushFrame (.throwing q)) t ∧ Q t
def vx_Run (p : Program) (l : Launch) (e : Env) (R : Room) (s : State) (m : MethodId) (args : Array Value) (below : List Frame) (meth : Method) (c : Code) (H : Heap) (locs : List Loc) (cells slots mc ms : Nat) (g : JFrame) (rest : List Value) (Qa : State → Outcome → State → Prop) (XC : String → State → State → Prop) (free : Addr → Prop) : Prop :=
  ∀ T : State, T.heap = H → Stand p l e R s m args below meth c T locs cells slots →
    (∃ (v : Option Value) (st₀ t T' : State) (L : List Loc), st₀.heap = H ∧ Stand p l e R s m args below meth c T' (locs ++ L) (cells + mc) (slots + ms) ∧ (∀ q ∈ L, free q.base) ∧ T'.heap = t.heap ∧ T'.vm = t.vm ∧ Qa st₀ (.returned v) t ∧
      Goes p e below T g T' { g with pc := g.pc + 3, stack := v.toList ++ rest }) ∨
    (∃ (q : Addr) (st₀ t T' : State) (L : List Loc) (E : String) (ce : Cell), st₀.heap = H ∧ Stand p l e R s m args below meth c T' (locs ++ L) (cells + mc) (slots + ms) ∧ (∀ z ∈ L, free z.base) ∧ T'.heap = t.heap ∧ T'.vm = t.vm ∧ XC E st₀ t ∧ t.heap[q]? = some ce ∧ ce.vm = .none ∧ s.vm.findClass E = some ce.cls ∧
      Steps p.tables e below (T.setTop g) ((T'.setTop { g with stack := rest }).pushFrame (.throwing q)))
def vx_X {S : Type} (px : S → Prop) (B : String → S → State → Prop) (A : Nat → Prop) : String → State → State → Prop := fun E st t => ∃ u : S, px u ∧ B E u t ∧ va_F A st t
section Runs
variable {p : Program} {l : Launch} {e : Env} {R : Room} {s : State} {m : MethodId} {args : Array Value} {below : List Frame} {meth : Method} {c : Code} {H : Heap} {locs : List Loc} {cells slots : Nat}
variable {y : MethodName} {bytes cc : ByteArray} {maxL nL mc ms n index : Nat} {ret : Option FieldType} {ws : List Cond} {rm : Room} {Pc : Array Value → State → Prop} {Qc : Array Value → State → Outcome → State → Prop} {XC : String → State → State → Prop} {free : Addr → Prop} {Ts : List Cond} {own C : String} {b : Addr} {As rest : List Value} {g : JFrame}
theorem vx_callBack (cb : CallB R s args own index y bytes maxL ret ws rm mc ms n) (hM : vx_Met l y ws rm Pc Qc XC mc ms free) (hbl : FrameBlind Pc) : vx_Back l R p e below s args y 3 8 (PreOf R mc ms Pc) (PostOf Qc mc ms free) (vx_Post XC mc ms free) := by
  obtain ⟨hrc, hrs, hfr, hlo, hws, hcw, -, hini, -⟩ := cb
  exact vx_back (bytes := bytes) (maxL := maxL) (ret := ret) hM hbl hrc hrs hfr hlo hws hcw (fun a' U hW => word_at hW (Or.inl (by first | rfl | simp [Cond.onTables, Cond.keeps, Cond.steady])) hini)
theorem vx_runV (S : CallFix p m c cc nL s args Ts own) (hM : vx_Met l y ws rm Pc Qc XC mc ms free) (cw : CallW R s args own C index y bytes maxL ret ws rm mc ms n) (hp : PreV s H C b Pc As)
    (hg : g.method = m) (hn : As.length = n) (hsize : g.locals.size = nL) (hstack : g.stack = As.reverse ++ .ref b :: rest) (hW : 2 * g.monitorRoom + (rest.map fun v => v.category).sum ≤ 8) (hdg : decode cc g.pc = .ok (.invokevirtual index, 3)) (hf : cells + mc ≤ R.cells ∧ slots + ms ≤ R.slots) :
    vx_Run p l e R s m args below meth c H locs cells slots mc ms g rest (Qc (Value.ref b :: As).toArray) XC free := by
  have hK : vx_Back l R p e below s args y 3 8 (PreOf R mc ms Pc) (PostOf Qc mc ms free) (vx_Post XC mc ms free) := vx_callBack cw.1 hM hp.1
  obtain ⟨⟨-, -, -, -, -, -, hcode, -, hy, hlen, hl⟩, hin, hse⟩ := cw
  obtain ⟨hx, hb, hml, ho, -⟩ := S
  obtain ⟨-, ⟨cellB, hcB, hoB, hclB⟩, hPc⟩ := hp
  intro T hT X
  rcases vx_callV X hx (C := C) (bytes := bytes) (maxL := maxL) (ret := ret) ho hl hin hse hcode hy hK (by rw [hT]; exact hcB) hoB hclB hg (hsize.trans hml.symm) (argsL := As) (rest := rest) (fun sig h => hn.trans (hlen sig h)) hstack hW (by rw [hb]; exact hdg)
    (fun vm₁ hW₁ => ⟨hf.1, hf.2, hPc (T.setVm vm₁) hT hW₁⟩) with ⟨v, vm₁, ⟨U', l2, c2, s2⟩, hW₁, X', ⟨g', mk, t, L, e1, e2, hq, h1, hL, h2, h3⟩, st⟩ | ⟨q, vm₁, ⟨U', l2, c2, s2⟩, hW₁, X', ⟨g', mk, t, L, E, ce, e1, e2, hq, hce, hcv, hcl, h1, hL, h2, h3⟩, st⟩
  · dsimp only [Pt.U, Pt.locs, Pt.cells, Pt.slots] at X' e1 e2 h1 h2 h3 st
    subst h1; subst h2; subst h3
    exact Or.inl ⟨v, (T.setVm vm₁).calling g' mk (Value.ref b :: As).toArray, t, U', L, hT, X', hL, e1, e2, hq, st⟩
  · dsimp only [Pt.U, Pt.locs, Pt.cells, Pt.slots] at X' e1 e2 h1 h2 h3 st hcl
    subst h1; subst h2; subst h3
    exact Or.inr ⟨q, (T.setVm vm₁).calling g' mk (Value.ref b :: As).toArray, t, U', L, E, ce, hT, X', hL, e1, e2, hq, hce, hcv, vx_cls hW₁ hcl, st⟩
theorem vx_runS (S : CallFix p m c cc nL s args Ts own) (hM : vx_Met l y ws rm Pc Qc XC mc ms free) (cw : CallB R s args own index y bytes maxL ret ws rm mc ms n ∧ (Cond.static y).before args s = true) (hp : PreS s H Pc As)
    (hg : g.method = m) (hn : As.length = n) (hsize : g.locals.size = nL) (hstack : g.stack = As.reverse ++ rest) (hW : 2 * g.monitorRoom + (rest.map fun v => v.category).sum ≤ 8) (hdg : decode cc g.pc = .ok (.invokestatic index, 3)) (hf : cells + mc ≤ R.cells ∧ slots + ms ≤ R.slots) :
    vx_Run p l e R s m args below meth c H locs cells slots mc ms g rest (Qc As.toArray) XC free := by
  have hK : vx_Back l R p e below s args y 3 8 (PreOf R mc ms Pc) (PostOf Qc mc ms free) (vx_Post XC mc ms free) := vx_callBack cw.1 hM hp.1
  obtain ⟨⟨-, -, -, -, -, -, hcode, hini, hy, hlen, hl⟩, hstt⟩ := cw
  obtain ⟨hx, hb, hml, ho, -⟩ := S
  intro T hT X
  rcases vx_callS X hx (bytes := bytes) (maxL := maxL) (ret := ret) ho hl hstt hini hcode hy hK hg (hsize.trans hml.symm) (argsL := As) (rest := rest) (fun sig h => hn.trans (hlen sig h)) hstack hW (by rw [hb]; exact hdg)
    (fun vm₁ hW₁ => ⟨hf.1, hf.2, hp.2 (T.setVm vm₁) hT hW₁⟩) with ⟨v, vm₁, ⟨U', l2, c2, s2⟩, hW₁, X', ⟨g', mk, t, L, e1, e2, hq, h1, hL, h2, h3⟩, st⟩ | ⟨q, vm₁, ⟨U', l2, c2, s2⟩, hW₁, X', ⟨g', mk, t, L, E, ce, e1, e2, hq, hce, hcv, hcl, h1, hL, h2, h3⟩, st⟩
  · dsimp only [Pt.U, Pt.locs, Pt.cells, Pt.slots] at X' e1 e2 h1 h2 h3 st
    subst h1; subst h2; subst h3
    exact Or.inl ⟨v, (T.setVm vm₁).calling g' mk As.toArray, t, U', L, hT, X', hL, e1, e2, hq, st⟩
  · dsimp only [Pt.U, Pt.locs, Pt.cells, Pt.slots] at X' e1 e2 h1 h2 h3 st hcl
    subst h1; subst h2; subst h3
    exact Or.inr ⟨q, (T.setVm vm₁).calling g' mk As.toArray, t, U', L, E, ce, hT, X', hL, e1, e2, hq, hce, hcv, vx_cls hW₁ hcl, st⟩
end Runs
section Rows
variable {p : Program} {l : Launch} {e : Env} {R : Room} {s : State} {m : MethodId} {args : Array Value} {below : List Frame} {meth : Method} {c : Code} {H : Heap} {locs : List Loc} {cells slots : Nat} {Q : State → Prop}
variable {mc ms : Nat} {free : Addr → Prop} {A0 A1 : Nat → Prop} {H0 : Heap} {a : Array Value} {pc : Nat} {ls : Array Slot} {st0 rest : List Value}
theorem vx_keep {st₀ t T' : State} {L : List Loc} (h0 : st₀.heap = H) (e1 : T'.heap = t.heap) (hS : va_S A0 H0 H locs) (hA : ∀ q, q < H.size → A1 q → A0 q) (hf : ∀ q, free q → A0 q) (hL : ∀ q ∈ L, free q.base) (hF : va_F A1 st₀ t) :
    H.size ≤ T'.heap.size ∧ (∀ q : Nat, q < H.size → ¬ A1 q → T'.heap[q]? = H[q]?) ∧ va_S A0 H0 T'.heap (locs ++ L) := by
  obtain ⟨hz, hk⟩ := hF
  rw [h0] at hz hk
  exact ⟨by rw [e1]; exact hz, fun q h1 h2 => by rw [e1]; exact hk q h1 h2,
    ⟨Nat.le_trans hS.1 (by rw [e1]; exact hz), fun q h1 h2 => by rw [e1, hk q (Nat.lt_of_lt_of_le h1 hS.1) (fun z => h2 (hA q (Nat.lt_of_lt_of_le h1 hS.1) z))]; exact hS.2.1 q h1 h2, fun q hq => by
      rcases List.mem_append.mp hq with h | h
      · exact hS.2.2 q h
      · exact hf _ (hL q h)⟩⟩
theorem vx_calli {S SX : Type} {post : Int32 → S → Prop} {px : SX → Prop} {B : S → State → Prop} {BX : String → SX → State → Prop} {AX : Nat → Prop} (hr : vx_Run p l e R s m args below meth c H locs cells slots mc ms (F0 m pc ls st0) rest (va_Qi post B A1 a) (vx_X px BX AX) free) (hS : va_S A0 H0 H locs) (hA : ∀ q, q < H.size → A1 q → A0 q) (hf : ∀ q, free q → A0 q) (hAX : ∀ q, q < H.size → AX q → A0 q)
    (kx : ∀ (E : String) (ce : Cell) (q9 : Addr) (u : SX) (t : State) (H1 : Heap) (locs1 : List Loc), t.heap = H1 → s.vm.Alike t.vm → px u → BX E u t → H.size ≤ H1.size → (∀ q : Nat, q < H.size → ¬ AX q → H1[q]? = H[q]?) → va_S A0 H0 H1 locs1 → H1[q9]? = some ce → ce.vm = .none → s.vm.findClass E = some ce.cls → vx_W p l e R s m args below meth c H1 locs1 (cells + mc) (slots + ms) Q (F0 m pc ls rest) q9)
    (kk : ∀ (r : Int32) (u : S) (t : State) (H1 : Heap) (locs1 : List Loc), t.heap = H1 → s.vm.Alike t.vm → post r u → B u t → H.size ≤ H1.size → (∀ q : Nat, q < H.size → ¬ A1 q → H1[q]? = H[q]?) → va_S A0 H0 H1 locs1 → W p l e R s m args below meth c H1 locs1 (cells + mc) (slots + ms) Q (F0 m (pc + 3) ls (.int r :: rest))) : W p l e R s m args below meth c H locs cells slots Q (F0 m pc ls st0) := by
  intro T hT X
  rcases hr T hT X with ⟨v, st₀, t, T', L, h0, X', hL, e1, e2, ⟨⟨r, u, hv, hp, hb⟩, hF⟩, st⟩ | ⟨q, st₀, t, T', L, E, ce, h0, X', hL, e1, e2, ⟨u, hp, hb, hF⟩, hce, hcv, hcl, st⟩
  · cases hv
    obtain ⟨k1, k2, k3⟩ := vx_keep h0 e1 hS hA hf hL hF
    obtain ⟨t2, a1, b1⟩ := kk r u t T'.heap (locs ++ L) e1.symm (by rw [← e2]; exact X'.warmed.alike) hp hb k1 k2 k3 T' rfl X'
    exact ⟨t2, st t2 a1, b1⟩
  · obtain ⟨k1, k2, k3⟩ := vx_keep h0 e1 hS hAX hf hL hF
    obtain ⟨t2, a1, b1⟩ := kx E ce q u t T'.heap (locs ++ L) e1.symm (by rw [← e2]; exact X'.warmed.alike) hp hb k1 k2 k3 (by rw [e1]; exact hce) hcv hcl T' rfl X'
    exact ⟨t2, st.trans a1, b1⟩
theorem vx_calll {S SX : Type} {post : Int64 → S → Prop} {px : SX → Prop} {B : S → State → Prop} {BX : String → SX → State → Prop} {AX : Nat → Prop} (hr : vx_Run p l e R s m args below meth c H locs cells slots mc ms (F0 m pc ls st0) rest (va_Ql post B A1 a) (vx_X px BX AX) free) (hS : va_S A0 H0 H locs) (hA : ∀ q, q < H.size → A1 q → A0 q) (hf : ∀ q, free q → A0 q) (hAX : ∀ q, q < H.size → AX q → A0 q)
    (kx : ∀ (E : String) (ce : Cell) (q9 : Addr) (u : SX) (t : State) (H1 : Heap) (locs1 : List Loc), t.heap = H1 → s.vm.Alike t.vm → px u → BX E u t → H.size ≤ H1.size → (∀ q : Nat, q < H.size → ¬ AX q → H1[q]? = H[q]?) → va_S A0 H0 H1 locs1 → H1[q9]? = some ce → ce.vm = .none → s.vm.findClass E = some ce.cls → vx_W p l e R s m args below meth c H1 locs1 (cells + mc) (slots + ms) Q (F0 m pc ls rest) q9)
    (kk : ∀ (r : Int64) (u : S) (t : State) (H1 : Heap) (locs1 : List Loc), t.heap = H1 → s.vm.Alike t.vm → post r u → B u t → H.size ≤ H1.size → (∀ q : Nat, q < H.size → ¬ A1 q → H1[q]? = H[q]?) → va_S A0 H0 H1 locs1 → W p l e R s m args below meth c H1 locs1 (cells + mc) (slots + ms) Q (F0 m (pc + 3) ls (.long r :: rest))) : W p l e R s m args below meth c H locs cells slots Q (F0 m pc ls st0) := by
  intro T hT X
  rcases hr T hT X with ⟨v, st₀, t, T', L, h0, X', hL, e1, e2, ⟨⟨r, u, hv, hp, hb⟩, hF⟩, st⟩ | ⟨q, st₀, t, T', L, E, ce, h0, X', hL, e1, e2, ⟨u, hp, hb, hF⟩, hce, hcv, hcl, st⟩
  · cases hv
    obtain ⟨k1, k2, k3⟩ := vx_keep h0 e1 hS hA hf hL hF
    obtain ⟨t2, a1, b1⟩ := kk r u t T'.heap (locs ++ L) e1.symm (by rw [← e2]; exact X'.warmed.alike) hp hb k1 k2 k3 T' rfl X'
    exact ⟨t2, st t2 a1, b1⟩
  · obtain ⟨k1, k2, k3⟩ := vx_keep h0 e1 hS hAX hf hL hF
    obtain ⟨t2, a1, b1⟩ := kx E ce q u t T'.heap (locs ++ L) e1.symm (by rw [← e2]; exact X'.warmed.alike) hp hb k1 k2 k3 (by rw [e1]; exact hce) hcv hcl T' rfl X'
    exact ⟨t2, st.trans a1, b1⟩
theorem vx_callf {S SX : Type} {post : UInt32 → S → Prop} {px : SX → Prop} {B : S → State → Prop} {BX : String → SX → State → Prop} {AX : Nat → Prop} (hr : vx_Run p l e R s m args below meth c H locs cells slots mc ms (F0 m pc ls st0) rest (va_Qf post B A1 a) (vx_X px BX AX) free) (hS : va_S A0 H0 H locs) (hA : ∀ q, q < H.size → A1 q → A0 q) (hf : ∀ q, free q → A0 q) (hAX : ∀ q, q < H.size → AX q → A0 q)
    (kx : ∀ (E : String) (ce : Cell) (q9 : Addr) (u : SX) (t : State) (H1 : Heap) (locs1 : List Loc), t.heap = H1 → s.vm.Alike t.vm → px u → BX E u t → H.size ≤ H1.size → (∀ q : Nat, q < H.size → ¬ AX q → H1[q]? = H[q]?) → va_S A0 H0 H1 locs1 → H1[q9]? = some ce → ce.vm = .none → s.vm.findClass E = some ce.cls → vx_W p l e R s m args below meth c H1 locs1 (cells + mc) (slots + ms) Q (F0 m pc ls rest) q9)
    (kk : ∀ (r : UInt32) (u : S) (t : State) (H1 : Heap) (locs1 : List Loc), t.heap = H1 → s.vm.Alike t.vm → post r u → B u t → H.size ≤ H1.size → (∀ q : Nat, q < H.size → ¬ A1 q → H1[q]? = H[q]?) → va_S A0 H0 H1 locs1 → W p l e R s m args below meth c H1 locs1 (cells + mc) (slots + ms) Q (F0 m (pc + 3) ls (.float r :: rest))) : W p l e R s m args below meth c H locs cells slots Q (F0 m pc ls st0) := by
  intro T hT X
  rcases hr T hT X with ⟨v, st₀, t, T', L, h0, X', hL, e1, e2, ⟨⟨r, u, hv, hp, hb⟩, hF⟩, st⟩ | ⟨q, st₀, t, T', L, E, ce, h0, X', hL, e1, e2, ⟨u, hp, hb, hF⟩, hce, hcv, hcl, st⟩
  · cases hv
    obtain ⟨k1, k2, k3⟩ := vx_keep h0 e1 hS hA hf hL hF
    obtain ⟨t2, a1, b1⟩ := kk r u t T'.heap (locs ++ L) e1.symm (by rw [← e2]; exact X'.warmed.alike) hp hb k1 k2 k3 T' rfl X'
    exact ⟨t2, st t2 a1, b1⟩
  · obtain ⟨k1, k2, k3⟩ := vx_keep h0 e1 hS hAX hf hL hF
    obtain ⟨t2, a1, b1⟩ := kx E ce q u t T'.heap (locs ++ L) e1.symm (by rw [← e2]; exact X'.warmed.alike) hp hb k1 k2 k3 (by rw [e1]; exact hce) hcv hcl T' rfl X'
    exact ⟨t2, st.trans a1, b1⟩
theorem vx_calld {S SX : Type} {post : UInt64 → S → Prop} {px : SX → Prop} {B : S → State → Prop} {BX : String → SX → State → Prop} {AX : Nat → Prop} (hr : vx_Run p l e R s m args below meth c H locs cells slots mc ms (F0 m pc ls st0) rest (va_Qd post B A1 a) (vx_X px BX AX) free) (hS : va_S A0 H0 H locs) (hA : ∀ q, q < H.size → A1 q → A0 q) (hf : ∀ q, free q → A0 q) (hAX : ∀ q, q < H.size → AX q → A0 q)
    (kx : ∀ (E : String) (ce : Cell) (q9 : Addr) (u : SX) (t : State) (H1 : Heap) (locs1 : List Loc), t.heap = H1 → s.vm.Alike t.vm → px u → BX E u t → H.size ≤ H1.size → (∀ q : Nat, q < H.size → ¬ AX q → H1[q]? = H[q]?) → va_S A0 H0 H1 locs1 → H1[q9]? = some ce → ce.vm = .none → s.vm.findClass E = some ce.cls → vx_W p l e R s m args below meth c H1 locs1 (cells + mc) (slots + ms) Q (F0 m pc ls rest) q9)
    (kk : ∀ (r : UInt64) (u : S) (t : State) (H1 : Heap) (locs1 : List Loc), t.heap = H1 → s.vm.Alike t.vm → post r u → B u t → H.size ≤ H1.size → (∀ q : Nat, q < H.size → ¬ A1 q → H1[q]? = H[q]?) → va_S A0 H0 H1 locs1 → W p l e R s m args below meth c H1 locs1 (cells + mc) (slots + ms) Q (F0 m (pc + 3) ls (.double r :: rest))) : W p l e R s m args below meth c H locs cells slots Q (F0 m pc ls st0) := by
  intro T hT X
  rcases hr T hT X with ⟨v, st₀, t, T', L, h0, X', hL, e1, e2, ⟨⟨r, u, hv, hp, hb⟩, hF⟩, st⟩ | ⟨q, st₀, t, T', L, E, ce, h0, X', hL, e1, e2, ⟨u, hp, hb, hF⟩, hce, hcv, hcl, st⟩
  · cases hv
    obtain ⟨k1, k2, k3⟩ := vx_keep h0 e1 hS hA hf hL hF
    obtain ⟨t2, a1, b1⟩ := kk r u t T'.heap (locs ++ L) e1.symm (by rw [← e2]; exact X'.warmed.alike) hp hb k1 k2 k3 T' rfl X'
    exact ⟨t2, st t2 a1, b1⟩
  · obtain ⟨k1, k2, k3⟩ := vx_keep h0 e1 hS hAX hf hL hF
    obtain ⟨t2, a1, b1⟩ := kx E ce q u t T'.heap (locs ++ L) e1.symm (by rw [← e2]; exact X'.warmed.alike) hp hb k1 k2 k3 (by rw [e1]; exact hce) hcv hcl T' rfl X'
    exact ⟨t2, st.trans a1, b1⟩
theorem vx_callv {S SX : Type} {post : S → Prop} {px : SX → Prop} {B : S → State → Prop} {BX : String → SX → State → Prop} {AX : Nat → Prop} (hr : vx_Run p l e R s m args below meth c H locs cells slots mc ms (F0 m pc ls st0) rest (va_Qv post B A1 a) (vx_X px BX AX) free) (hS : va_S A0 H0 H locs) (hA : ∀ q, q < H.size → A1 q → A0 q) (hf : ∀ q, free q → A0 q) (hAX : ∀ q, q < H.size → AX q → A0 q)
    (kx : ∀ (E : String) (ce : Cell) (q9 : Addr) (u : SX) (t : State) (H1 : Heap) (locs1 : List Loc), t.heap = H1 → s.vm.Alike t.vm → px u → BX E u t → H.size ≤ H1.size → (∀ q : Nat, q < H.size → ¬ AX q → H1[q]? = H[q]?) → va_S A0 H0 H1 locs1 → H1[q9]? = some ce → ce.vm = .none → s.vm.findClass E = some ce.cls → vx_W p l e R s m args below meth c H1 locs1 (cells + mc) (slots + ms) Q (F0 m pc ls rest) q9)
    (kk : ∀ (u : S) (t : State) (H1 : Heap) (locs1 : List Loc), t.heap = H1 → s.vm.Alike t.vm → post u → B u t → H.size ≤ H1.size → (∀ q : Nat, q < H.size → ¬ A1 q → H1[q]? = H[q]?) → va_S A0 H0 H1 locs1 → W p l e R s m args below meth c H1 locs1 (cells + mc) (slots + ms) Q (F0 m (pc + 3) ls (rest))) : W p l e R s m args below meth c H locs cells slots Q (F0 m pc ls st0) := by
  intro T hT X
  rcases hr T hT X with ⟨v, st₀, t, T', L, h0, X', hL, e1, e2, ⟨⟨u, hv, hp, hb⟩, hF⟩, st⟩ | ⟨q, st₀, t, T', L, E, ce, h0, X', hL, e1, e2, ⟨u, hp, hb, hF⟩, hce, hcv, hcl, st⟩
  · cases hv
    obtain ⟨k1, k2, k3⟩ := vx_keep h0 e1 hS hA hf hL hF
    obtain ⟨t2, a1, b1⟩ := kk u t T'.heap (locs ++ L) e1.symm (by rw [← e2]; exact X'.warmed.alike) hp hb k1 k2 k3 T' rfl X'
    exact ⟨t2, st t2 a1, b1⟩
  · obtain ⟨k1, k2, k3⟩ := vx_keep h0 e1 hS hAX hf hL hF
    obtain ⟨t2, a1, b1⟩ := kx E ce q u t T'.heap (locs ++ L) e1.symm (by rw [← e2]; exact X'.warmed.alike) hp hb k1 k2 k3 (by rw [e1]; exact hce) hcv hcl T' rfl X'
    exact ⟨t2, st.trans a1, b1⟩
/-- caught by the row x of this method's table; the rows ahead don't take it -/
theorem vx_catch {own name : String} {E : String} {ce : Cell} {q : Addr} (hown : s.vm.findClass own = some m.cls) (pre : List ExceptionTableEntry) (x : ExceptionTableEntry) (suf : List ExceptionTableEntry) (hsplit : c.exceptionTable.toList = pre ++ x :: suf)
    (hpass : ∀ z ∈ pre, covers z pc = false ∨ (z.catchType ≠ 0 ∧ ∃ nm : String, (Cond.classLink own z.catchType nm).before args s = true ∧ va_Nc E nm s)) (hx : covers x pc = true) (h0 : x.catchType ≠ 0)
    (hlink : (Cond.classLink own x.catchType name).before args s = true) (hcast : (Cond.castable E name).before args s = true) (hcell : H[q]? = some ce) (hv : ce.vm = .none) (hcl : s.vm.findClass E = some ce.cls)
    (kk : W p l e R s m args below meth c H locs cells slots Q (F0 m x.handlerPc ls [.ref q])) : vx_W p l e R s m args below meth c H locs cells slots Q (F0 m pc ls rest) q := by
  intro T hT X
  have hpl : e.platform.magicAccessors = ({} : Platform).magicAccessors := by rw [X.admits.platform]
  obtain ⟨c3, c4, hc3, hc4, hasg⟩ := Cond.castable_spec hcast
  cases Option.some.inj (hc3.symm.trans hcl)
  obtain ⟨c5, hc5, hcl5⟩ := Cond.classLink_spec hown hlink e.platform hpl
  cases Option.some.inj (hc4.symm.trans hc5)
  obtain ⟨vm', X', st⟩ := X.thenCaughtThrough q (g := F0 m pc ls rest) rfl (Steps.refl _) (by rw [hT]; exact hcell) (by rw [hv]; rfl) (by obtain ⟨k9, h9, -⟩ := Vm.findClass_spec hcl; exact ⟨k9, h9⟩) pre x suf hsplit
    (fun z hz => by
      rcases hpass z hz with h | ⟨hz0, nm, hl1, hn1⟩
      · exact Or.inl h
      · obtain ⟨c6, hc6, hcl6⟩ := Cond.classLink_spec hown hl1 e.platform hpl
        obtain ⟨a8, b8, h1, h2, h3⟩ := hn1
        cases Option.some.inj (h1.symm.trans hcl)
        cases Option.some.inj (h2.symm.trans hc6)
        exact Or.inr ⟨hz0, _, hcl6, h3⟩) hx (Or.inr ⟨h0, c4, hcl5, hasg⟩)
  obtain ⟨t, a1, b1⟩ := kk (T.setVm vm') hT X'
  exact ⟨t, st.trans a1, b1⟩
end Rows
section Ends
variable {p : Program} {l : Launch} {e : Env} {R : Room} {s : State} {m : MethodId} {args : Array Value} {below : List Frame} {meth : Method} {c : Code} {H : Heap} {locs : List Loc} {cells slots : Nat} {Q : State → Prop}
variable {mc ms : Nat} {free : Addr → Prop} {A0 A1 : Nat → Prop} {H0 : Heap} {a : Array Value} {ls : Array Slot} {st0 rest : List Value}
variable {Qc : Array Value → State → Outcome → State → Prop} {XC : String → State → State → Prop}
/-- what a body that may throw owes at its end -/
def vx_MQ (below : List Frame) (Qc : Array Value → State → Outcome → State → Prop) (XC : String → State → State → Prop) (a : Array Value) (s : State) (mc ms : Nat) (free : Addr → Prop) : State → Prop := fun t =>
  ∃ o, t.status = .running ∧ Ended t below o ∧ vx_Q Qc XC mc ms free a s o t
theorem vx_ret {g : JFrame} {mc ms : Nat} (k : W p l e R s m args below meth c H locs cells slots (MQ below Qc args s mc ms free) g) : W p l e R s m args below meth c H locs cells slots (vx_MQ below Qc XC args s mc ms free) g := by
  intro T hT X
  obtain ⟨t, a1, o, b1, b2, b3, b4⟩ := k T hT X
  exact ⟨t, a1, o, b1, b2, Or.inl ⟨b3, b4⟩⟩
/-- not caught here: it goes on to the caller -/
theorem vx_widen {g : JFrame} {q : Addr} {k n : Nat} (h1 : cells ≤ k) (h2 : slots ≤ n) (kk : vx_W p l e R s m args below meth c H locs k n Q g q) : vx_W p l e R s m args below meth c H locs cells slots Q g q := fun T hT X => kk T hT (stand_widen X h1 h2)
theorem vx_out {pc : Nat} {E : String} {ce : Cell} {q : Addr} {mc ms : Nat} (hout : ∀ x ∈ c.exceptionTable.toList, covers x pc = false) (hlocks : meth.locks = false) (hcell : H[q]? = some ce) (hv : ce.vm = .none) (hcl : s.vm.findClass E = some ce.cls)
    (hx : ∀ t : State, t.heap = H → s.vm.Alike t.vm → XC E s t) (hf : ∀ z ∈ locs, free z.base) (hc : cells ≤ mc) (hs : slots ≤ ms) :
    vx_W p l e R s m args below meth c H locs cells slots (vx_MQ below Qc XC args s mc ms free) (F0 m pc ls rest) q := by
  intro T hT X
  obtain ⟨st1, hrun, hend, hW, hsm⟩ := X.leaveThrown q (g := F0 m pc ls rest) rfl rfl rfl hout hlocks
  have hcell9 : (T.setFrames (.throwing q :: below)).heap[q]? = some ce := by
    show T.heap[q]? = some ce
    rw [hT]; exact hcell
  exact ⟨_, st1, .threw q, hrun, hend, Or.inr ⟨q, rfl, E, ce, locs, hx _ hT hW.alike, hcell9, hv, hcl, hW, hsm.mono hc hs, hf⟩⟩
theorem vx_frame {U : State} {k n : Nat} (h : s.sameButNew ({ U with vm := s.vm } : State) locs k n) : s.heap.size ≤ U.heap.size ∧ ∀ q : Nat, q < s.heap.size → (∀ z ∈ locs, z.base ≠ q) → U.heap[q]? = s.heap[q]? := by
  obtain ⟨-, h2, -, -, -, h6⟩ := h
  refine ⟨h2, fun q hq hz => ?_⟩
  obtain ⟨c9, e1, e2, e3, e4⟩ := h6 q _ (Array.getElem?_eq_getElem hq)
  have hs : c9.slots = (s.heap[q]).slots := Array.ext_getElem? fun i => e4 i fun hm => hz _ hm rfl
  have h9 : c9 = s.heap[q] := by
    rw [hs] at e2
    exact e2
  have e5 : U.heap[q]? = some c9 := e1
  rw [e5, h9, Array.getElem?_eq_getElem hq]
/-- the words of a throw but the four that speak of the heap -/
def vx_no (w : Cond) : Bool := decide (w ≠ .isRef (.static Bundle.tN "UNASSIGNED_STACK" Bundle.steD)) && decide (w ≠ .isRef (.static Bundle.tN "SUPPRESSED_SENTINEL" Bundle.listD)) && decide (w ≠ .laysStatic Bundle.tN "UNASSIGNED_STACK" Bundle.steD) && decide (w ≠ .laysStatic Bundle.tN "SUPPRESSED_SENTINEL" Bundle.listD)
def vx_at0 (own : String) (ic : Nat) (X : String) (names : List String) : List Cond := (Bundle.ownAtoms0 own ic X names).filter vx_no
def vx_atS (own : String) (ic : Nat) (X : String) (names : List String) : List Cond := (Bundle.ownAtoms own ic X names).filter vx_no
/-- a word that the tables alone decide, or a good one -/
def vx_ot (w : Cond) : Bool := w.onTables || goodWord w
theorem vx_ot_at {args a' : Array Value} {s U : State} {w : Cond} (hW : s.WarmedH U.vm) (hvm : s.vm = U.vm) (hg : vx_ot w = true) (h : w.before args s = true) : w.before a' U = true := by
  simp only [vx_ot, Bool.or_eq_true] at hg
  rcases hg with hg | hg
  · exact va_tabs hg hvm h
  · exact word_at hW (good_of_word hg) h
/-- a list's words: the good ones out of the method's own list, the others by premises of their own -/
theorem vx_hat {args : Array Value} {s : State} {L B : List Cond} (h1 : ∀ w ∈ L.filter goodWord, w.before args s = true) (h2 : ∀ w ∈ L.filter (fun w => !goodWord w), w ∈ B) (h3 : ∀ w ∈ B, w.before args s = true) : ∀ w ∈ L, w.before args s = true := by
  intro w hw
  by_cases g : goodWord w = true
  · exact h1 w (List.mem_filter.mpr ⟨hw, g⟩)
  · refine h3 w (h2 w (List.mem_filter.mpr ⟨hw, ?_⟩))
    show (!goodWord w) = true
    cases hgw : goodWord w
    · rfl
    · exact absurd hgw g
theorem vx_c {args : Array Value} {s : State} {w : Cond} {B : List Cond} (h : w.before args s = true) (t : ∀ w ∈ B, w.before args s = true) : ∀ w' ∈ w :: B, w'.before args s = true := fun w' h' => (List.mem_cons.mp h').elim (fun e => by rw [e]; exact h) (t w')
theorem vx_n {args : Array Value} {s : State} : ∀ w ∈ ([] : List Cond), w.before args s = true := fun _ h => nomatch h
theorem vx_own {args : Array Value} {s : State} {L : List Cond} (h1 : ∀ w ∈ L.filter vx_no, w.before args s = true)
    (hU : (Cond.isRef (.static Bundle.tN "UNASSIGNED_STACK" Bundle.steD)).before args s = true) (hN : (Cond.isRef (.static Bundle.tN "SUPPRESSED_SENTINEL" Bundle.listD)).before args s = true)
    (lU : (Cond.laysStatic Bundle.tN "UNASSIGNED_STACK" Bundle.steD).before args s = true) (lN : (Cond.laysStatic Bundle.tN "SUPPRESSED_SENTINEL" Bundle.listD).before args s = true) : ∀ w ∈ L, w.before args s = true := by
  intro w hw
  by_cases e1 : w = .isRef (.static Bundle.tN "UNASSIGNED_STACK" Bundle.steD)
  · rw [e1]; exact hU
  · by_cases e2 : w = .isRef (.static Bundle.tN "SUPPRESSED_SENTINEL" Bundle.listD)
    · rw [e2]; exact hN
    · by_cases e3 : w = .laysStatic Bundle.tN "UNASSIGNED_STACK" Bundle.steD
      · rw [e3]; exact lU
      · by_cases e4 : w = .laysStatic Bundle.tN "SUPPRESSED_SENTINEL" Bundle.listD
        · rw [e4]; exact lN
        · exact h1 w (List.mem_filter.mpr ⟨hw, by unfold vx_no; rw [decide_eq_true e1, decide_eq_true e2, decide_eq_true e3, decide_eq_true e4]; rfl⟩)
/-- where a static field lies, its class's statics cell in H -/
def vx_L (C n d : String) (A : Nat → Prop) (U : State) (H : Heap) : Prop := ∃ (c : ClassId) (k : Class) (i : Nat) (f : Field) (a : Nat) (cell : Cell), U.vm.findClass C = some c ∧ U.fieldFound? C n d = some (c, k, i, f) ∧ f.isStatic = true ∧ k.statics = some a ∧ H[a]? = some cell ∧ cell.vm.isStatics = true ∧ cell.cls = c ∧ f.slot < cell.slots.size ∧ k.staticTypes[f.slot]? = some f.type ∧ ¬ A a
theorem vx_L.moved {C n d : String} {A : Nat → Prop} {u U : State} {H : Heap} (hvm : u.vm.Alike U.vm) (h : vx_L C n d A u H) : vx_L C n d A U H := by
  obtain ⟨c, k, i, f, a, cell, h1, h2, h3, h4, h5, h6, h7, h8, h9, h10⟩ := h
  obtain ⟨k', hi', he⟩ := State.fieldFound?_setVm hvm h2
  exact ⟨c, k', i, f, a, cell, by rw [hvm.findClass]; exact h1, hi', h3, by rw [he]; exact h4, h5, h6, h7, h8, by rw [he]; exact h9, h10⟩
theorem vx_L.kept {C n d : String} {A : Nat → Prop} {U : State} {H H1 : Heap} (h : vx_L C n d A U H) (hq : ∀ a : Nat, a < H.size → ¬ A a → H1[a]? = H[a]?) : vx_L C n d A U H1 := by
  obtain ⟨c, k, i, f, a, cell, h1, h2, h3, h4, h5, h6, h7, h8, h9, h10⟩ := h
  exact ⟨c, k, i, f, a, cell, h1, h2, h3, h4, by rw [hq a (Array.getElem?_eq_some_iff.mp h5).1 h10]; exact h5, h6, h7, h8, h9, h10⟩
theorem vx_L.narrow {C n d : String} {A B : Nat → Prop} {U : State} {H : Heap} (h : vx_L C n d A U H) (hAB : ∀ q, B q → A q) : vx_L C n d B U H := by
  obtain ⟨c, k, i, f, a, cell, h1, h2, h3, h4, h5, h6, h7, h8, h9, h10⟩ := h
  exact ⟨c, k, i, f, a, cell, h1, h2, h3, h4, h5, h6, h7, h8, h9, fun z => h10 (hAB _ z)⟩
theorem vx_L.word {C n d : String} {A : Nat → Prop} {s : State} {args : Array Value} (h : vx_L C n d A s s.heap) : (Cond.laysStatic C n d).before args s = true := by
  obtain ⟨c, k, i, f, a, cell, h1, h2, h3, h4, h5, h6, h7, h8, h9, -⟩ := h
  show (Cond.laysStatic C n d).holds args s none s [] = true
  exact Cond.laysStatic_of h1 h2 h3 h4 h5 h6 h7 h8 h9
/-- .. and what it holds: null or some reference -/
def vx_Zq (C n d : String) (A : Nat → Prop) (U : State) (H : Heap) : Prop := va_Zq C n d A U H ∧ vx_L C n d A U H
theorem vx_Zq.moved {C n d : String} {A : Nat → Prop} {u U : State} {H : Heap} (hvm : u.vm.Alike U.vm) (h : vx_Zq C n d A u H) : vx_Zq C n d A U H := ⟨va_Zq.moved hvm h.1, vx_L.moved hvm h.2⟩
theorem vx_Zq.kept {C n d : String} {A : Nat → Prop} {U : State} {H H1 : Heap} (h : vx_Zq C n d A U H) (hq : ∀ a : Nat, a < H.size → ¬ A a → H1[a]? = H[a]?) : vx_Zq C n d A U H1 := ⟨va_Zq.kept h.1 hq, vx_L.kept h.2 hq⟩
theorem vx_Zq.narrow {C n d : String} {A B : Nat → Prop} {U : State} {H : Heap} (h : vx_Zq C n d A U H) (hAB : ∀ q, B q → A q) : vx_Zq C n d B U H := ⟨va_Zq.narrow h.1 hAB, vx_L.narrow h.2 hAB⟩
theorem vx_Zqof {args : Array Value} {s : State} {C n d : String} {A : Nat → Prop} (hl : (Cond.laysStatic C n d).before args s = true) (hini : (Cond.initialized C).before args s = true) (h : (Cond.isRef (.static C n d)).before args s = true) (hA : ∀ a : Nat, a < s.heap.size → ¬ A a) : vx_Zq C n d A s s.heap := by
  refine ⟨va_Zqof hl hini h hA, ?_⟩
  obtain ⟨c, k, i, f, a, cell, h1, h2, h3, h4, h5, h6, h7, h8, h9⟩ := Cond.laysStatic_spec hl
  exact ⟨c, k, i, f, a, cell, h1, h2, h3, h4, h5, h6, h7, h8, h9, hA a (Array.getElem?_eq_some_iff.mp h5).1⟩
theorem vx_isRef {C n d : String} {v : Value} {A : Nat → Prop} {s : State} {args : Array Value} (h : va_Z C n d v A s s.heap) (hv : v.isRef = true) : (Cond.isRef (.static C n d)).before args s = true := by
  obtain ⟨cf, kf, fi, f, a, cell, h1, h2, h3, h4, h5, h6, h7, -⟩ := h
  have he : (Term.static C n d).eval args s none [] s = some v := by
    simp [Term.eval, State.fieldNamed?, h1, h2, h4, h5, h6, h7]
  simp only [Cond.before, Cond.holds, Cond.value, he]
  cases v <;> simp_all [Value.isRef]
theorem vx_isRefq {C n d : String} {A : Nat → Prop} {s : State} {args : Array Value} (h : va_Zq C n d A s s.heap) : (Cond.isRef (.static C n d)).before args s = true := by
  rcases h with h | ⟨t, h⟩
  · exact vx_isRef h rfl
  · exact vx_isRef h rfl
/-- the same frame, seen from here: as if the method were called anew in this heap -/
theorem vx_rebase {T : State} (X : Stand p l e R s m args below meth c T locs cells slots) {R' : Room} (hf : R'.frames ≤ R.frames) (hl : R'.locals ≤ R.locals) (hc : cells + R'.cells ≤ R.cells) (hs : slots + R'.slots ≤ R.slots) :
    Stand p l e R' ((T.setVm s.vm).setFrames (.invoking m args :: below)) m args below meth c T [] 0 0 := by
  have htop : (T.setVm s.vm).topJava?.isSome := X.here.top
  have hF : ((T.setVm s.vm).setFrames (.invoking m args :: below)).frames = .invoking m args :: below := State.frames_setFrames _ (State.cur_lt_of_top htop)
  obtain ⟨g₀, hg0⟩ := Option.isSome_iff_exists.mp htop
  obtain ⟨r, hr⟩ := State.topJava?_eq_some.mp hg0
  have hl9 : e.platform.stackLimits (T.setVm s.vm).me = e.platform.stackLimits s.me := X.limits
  have hb9 : (T.setVm s.vm).me.stackBytes = s.me.stackBytes := X.bytes
  refine ⟨X.admits, X.cas, X.clock, hF, ?_, X.hears, X.method, X.code, X.here, X.tail, X.warmed, ?_, ?_, ?_⟩
  · have h := X.room
    have hU : ((T.setVm s.vm).setFrames (.invoking m args :: below)).localsInUse = s.localsInUse := by
      rw [State.localsInUse_invoking hF (meth := meth) (c := c) X.method X.code, State.localsInUse_invoking X.frames X.method X.code]
    simp only [State.hasRoom, Bool.and_eq_true, decide_eq_true_eq] at h ⊢
    obtain ⟨⟨⟨⟨h1, h2, h3, h4, h5, h6⟩, h7⟩, h8⟩, h9⟩ := h
    rw [X.frames, List.length_cons] at h2 h3
    have q1 := X.heapSize
    have q2 := X.used
    simp only [hF, hU, List.length_cons, State.stackLimits_setFrames, State.stackBytes_setFrames, hl9, hb9]
    refine ⟨⟨⟨⟨by omega, by omega, by omega, by omega, by omega, h6⟩, ?_⟩, ?_⟩, X.book⟩
    · show T.heap.size + R'.cells ≤ e.platform.maxCells
      omega
    · show T.slotsUsed + R'.slots ≤ e.platform.maxSlots
      omega
  · rw [State.stackLimits_setFrames]; rfl
  · rw [State.stackBytes_setFrames]; rfl
  · refine ⟨?_, Nat.le_refl _, Nat.le_refl _, ?_, ?_, fun a c9 h9 => ⟨c9, h9, rfl, rfl, fun _ _ => rfl⟩⟩
    · obtain ⟨t, ht, -⟩ := State.frames_cons hr
      show T.setVm s.vm = { ((T.setVm s.vm).setFrames (.invoking m args :: below)).setFrames (T.setVm s.vm).frames with heap := T.heap, slotsUsed := T.slotsUsed }
      rw [State.setFrames_setFrames, State.setFrames_self ht]
      rfl
    · show T.slotsUsed = T.slotsUsed + ((T.heap.toList.drop T.heap.size).map (·.slots.size)).sum
      rw [List.drop_eq_nil_of_le (Nat.le_of_eq Array.length_toList)]
      rfl
    · show ((T.heap.toList.drop T.heap.size).map (·.slots.size)).sum ≤ 0
      rw [List.drop_eq_nil_of_le (Nat.le_of_eq Array.length_toList)]
      exact Nat.le_refl _
/-- 'throw new E()': new; dup; invokespecial; athrow -/
theorem vx_throw0 {cc : ByteArray} {pc : Nat} (hexec : p.tables.exec = Jvm.exec) (hb : c.code = cc) (hl : l.stackTraces = false) {own cls : String} {names : List String} {ik ic mc ms : Nat} {A : Nat → Prop}
    (hown : s.vm.findClass own = some m.cls) (hcls : Bundle.fit cls = true) (hnames : ∀ n ∈ names, Bundle.fit n = true)
    (hk : (Cond.classLink own ik cls).before args s = true) (hini : (Cond.initialized cls).before args s = true) (hat : ∀ w ∈ vx_at0 own ic cls names, w.before args s = true)
    (hgood : ∀ w ∈ Cond.classLink own ik cls :: Cond.initialized cls :: vx_at0 own ic cls names, vx_ot w = true)
    (hU : vx_Zq Bundle.tN "UNASSIGNED_STACK" Bundle.steD A s s.heap) (hN : vx_Zq Bundle.tN "SUPPRESSED_SENTINEL" Bundle.listD A s s.heap) (hS : va_S A s.heap H locs) (hsize : ls.size = c.maxLocals)
    (d0 : decode cc pc = .ok (.new ik, 3)) (d3 : decode cc (pc + 3) = .ok (.dup, 1)) (d4 : decode cc (pc + 4) = .ok (.invokespecial ic, 3)) (d7 : decode cc (pc + 7) = .ok (.athrow, 1))
    (hout : ∀ x ∈ c.exceptionTable.toList, covers x (pc + 7) = false)
    (hRframes : names.length + 3 < R.frames) (hRlocals : (rest.map fun v => v.category).sum + (13 * (names.length + 1) + 42) ≤ R.locals) (hRcells : cells + 1 ≤ R.cells) (hRslots : slots + 6 ≤ R.slots) (hlocks : meth.locks = false)
    (hx : ∀ t : State, s.vm.Alike t.vm → H.size ≤ t.heap.size → (∀ q : Nat, q < H.size → t.heap[q]? = H[q]?) → XC cls s t)
    (hf : ∀ z ∈ locs, free z.base) (hc : cells + 1 ≤ mc) (hs : slots + 6 ≤ ms) :
    W p l e R s m args below meth c H locs cells slots (vx_MQ below Qc XC args s mc ms free) (F0 m pc ls rest) := by
  intro T hT X
  have htr : e.platform.stackTraces = false := (show e.platform.stackTraces = l.stackTraces by rw [X.admits.platform]).trans hl
  have Y := vx_rebase X (R' := { frames := R.frames, locals := R.locals, cells := 1, slots := 6 }) (Nat.le_refl _) (Nat.le_refl _) hRcells hRslots
  obtain ⟨s', hA⟩ : ∃ z, z = (T.setVm s.vm).setFrames (.invoking m args :: below) := ⟨_, rfl⟩
  rw [← hA] at Y
  have hvm : s'.vm = s.vm := by rw [hA]; rfl
  have hhp : s'.heap = H := by rw [hA]; exact hT
  have hW0 : s.WarmedH s'.vm := by rw [hvm]; exact State.WarmedH.refl s
  have hat' : ∀ w ∈ vx_at0 own ic cls names, w.before args s' = true := fun w hw => vx_ot_at hW0 hvm.symm (hgood w (List.mem_cons_of_mem _ (List.mem_cons_of_mem _ hw))) (hat w hw)
  have hk' : (Cond.classLink own ik cls).before args s' = true := vx_ot_at hW0 hvm.symm (hgood _ List.mem_cons_self) hk
  have hini' : (Cond.initialized cls).before args s' = true := vx_ot_at hW0 hvm.symm (hgood _ (List.mem_cons_of_mem _ List.mem_cons_self)) hini
  have hU' : vx_Zq Bundle.tN "UNASSIGNED_STACK" Bundle.steD A s' s'.heap := by rw [hhp]; exact vx_Zq.moved hW0.alike (hU.kept hS.2.1)
  have hN' : vx_Zq Bundle.tN "SUPPRESSED_SENTINEL" Bundle.listD A s' s'.heap := by rw [hhp]; exact vx_Zq.moved hW0.alike (hN.kept hS.2.1)
  have h : ∀ w ∈ Bundle.ownAtoms0 own ic cls names, w.before args s' = true := vx_own hat' (vx_isRefq hU'.1) (vx_isRefq hN'.1) hU'.2.word hN'.2.word
  have hown' : s'.vm.findClass own = some m.cls := by rw [hvm]; exact hown
  have hins : (Cond.instantiable cls 6).before args s' = true := h _ (by simp [Bundle.ownAtoms0])
  obtain ⟨vm₁, cX, kX, hfX, hkX, -, -, X₁, st1⟩ := Y.newCold hexec (own := own) (C := cls) (index := ik) (n := 6) hown' hk' hins hini'
    (g := F0 m pc ls rest) rfl (by rw [hb]; exact d0) (Nat.le_refl _) (Nat.le_refl _)
  generalize hT1 : (T.setVm vm₁).pushCell { cls := cX, slots := kX.instanceTypes.map defaultValue, vm := .none } = T1 at X₁ st1
  have hcat : (Value.ref T.heap.size).category = 1 := rfl
  have hcellA : T1.heap[T.heap.size]? = some (freshCell cX kX) := by rw [← hT1]; exact State.heap_pushCell_size _ _
  have d3' : decode c.code (pc + 3) = .ok (.dup, 1) := by rw [hb]; exact d3
  obtain ⟨U, hsteps, hrun, hend, hW, hsame, ce, hce, hO⟩ := X₁.ctorThrow0 hexec htr (own := own) (cls := cls) (names := names) (ic := ic) hown' hcls hnames h (fun x hx => nomatch hx) hfX hkX hcellA (by rw [hhp, hT]; exact Nat.le_refl _)
    (g := { method := m, pc := pc + 4, locals := ls, stack := .ref T.heap.size :: .ref T.heap.size :: rest, locked := none }) rfl hsize rfl rfl (rest := rest) rfl
    (by rw [hb]; exact d4) (by rw [hb]; exact d7) hout hRframes (by simp only [List.map_cons, List.sum_cons, hcat]; omega) hlocks
  obtain ⟨f1, f2⟩ := vx_frame hsame
  rw [hhp] at f1 f2
  have hWs : s.WarmedH U.vm := State.WarmedH.trans hW0 hW
  have hcl : s.vm.findClass cls = some ce.cls := by
    have h9 := hO.cls
    rw [hvm] at h9
    exact h9
  have hall : s.sameButNew ({ U with vm := s.vm } : State) locs mc ms := by
    subst hA
    obtain ⟨e1, e2⟩ := hsame
    rw [State.setFrames_setFrames] at e1
    have h2 : (T.setVm s.vm).sameButNew ({ U with vm := s.vm } : State) [] (0 + 1) (0 + 6) := ⟨e1, e2⟩
    have h3 := X.same.trans h2
    rw [List.append_nil] at h3
    exact h3.mono hc hs
  refine ⟨U, ?_, .threw T.heap.size, hrun, hend, Or.inr ⟨T.heap.size, rfl, cls, ce, locs, hx U hWs.alike f1 (fun q hq => f2 q hq (fun z hz => nomatch hz)), hce, hO.vm, hcl, hWs, hall, hf⟩⟩
  refine st1 _ ?_
  show Steps p.tables e below (T1.setTop { method := m, pc := pc + 3, locals := ls, stack := .ref T.heap.size :: rest, locked := none }) _
  jvm_step X₁.here [X₁.here.top, hexec, d3', Value.category]
  exact hsteps
/-- 'throw new E("text")': new; dup; ldc; invokespecial; athrow -/
theorem vx_throwS {cc : ByteArray} {pc : Nat} (hexec : p.tables.exec = Jvm.exec) (hb : c.code = cc) (hl : l.stackTraces = false) {own cls text : String} {names : List String} {ik is ic mc ms sa : Nat} {A : Nat → Prop}
    (hown : s.vm.findClass own = some m.cls) (hcls : Bundle.fit cls = true) (hnames : ∀ n ∈ names, Bundle.fit n = true)
    (hk : (Cond.classLink own ik cls).before args s = true) (hini : (Cond.initialized cls).before args s = true) (hstr : vk_R own is text sa s) (hat : ∀ w ∈ vx_atS own ic cls names, w.before args s = true)
    (hgood : ∀ w ∈ Cond.classLink own ik cls :: Cond.initialized cls :: vx_atS own ic cls names, vx_ot w = true)
    (hU : vx_Zq Bundle.tN "UNASSIGNED_STACK" Bundle.steD A s s.heap) (hN : vx_Zq Bundle.tN "SUPPRESSED_SENTINEL" Bundle.listD A s s.heap) (hS : va_S A s.heap H locs) (hsize : ls.size = c.maxLocals)
    (d0 : decode cc pc = .ok (.new ik, 3)) (d3 : decode cc (pc + 3) = .ok (.dup, 1)) (d4 : decode cc (pc + 4) = .ok (.ldc is, 2)) (d6 : decode cc (pc + 6) = .ok (.invokespecial ic, 3)) (d9 : decode cc (pc + 9) = .ok (.athrow, 1))
    (hout : ∀ x ∈ c.exceptionTable.toList, covers x (pc + 9) = false)
    (hRframes : names.length + 3 < R.frames) (hRlocals : (rest.map fun v => v.category).sum + (13 * (names.length + 1) + 43) ≤ R.locals) (hRcells : cells + 1 ≤ R.cells) (hRslots : slots + 6 ≤ R.slots) (hlocks : meth.locks = false)
    (hx : ∀ t : State, s.vm.Alike t.vm → H.size ≤ t.heap.size → (∀ q : Nat, q < H.size → t.heap[q]? = H[q]?) → XC cls s t)
    (hf : ∀ z ∈ locs, free z.base) (hc : cells + 1 ≤ mc) (hs : slots + 6 ≤ ms) :
    W p l e R s m args below meth c H locs cells slots (vx_MQ below Qc XC args s mc ms free) (F0 m pc ls rest) := by
  intro T hT X
  have htr : e.platform.stackTraces = false := (show e.platform.stackTraces = l.stackTraces by rw [X.admits.platform]).trans hl
  have Y := vx_rebase X (R' := { frames := R.frames, locals := R.locals, cells := 1, slots := 6 }) (Nat.le_refl _) (Nat.le_refl _) hRcells hRslots
  obtain ⟨s', hA⟩ : ∃ z, z = (T.setVm s.vm).setFrames (.invoking m args :: below) := ⟨_, rfl⟩
  rw [← hA] at Y
  have hvm : s'.vm = s.vm := by rw [hA]; rfl
  have hhp : s'.heap = H := by rw [hA]; exact hT
  have hW0 : s.WarmedH s'.vm := by rw [hvm]; exact State.WarmedH.refl s
  have hat' : ∀ w ∈ vx_atS own ic cls names, w.before args s' = true := fun w hw => vx_ot_at hW0 hvm.symm (hgood w (List.mem_cons_of_mem _ (List.mem_cons_of_mem _ hw))) (hat w hw)
  have hk' : (Cond.classLink own ik cls).before args s' = true := vx_ot_at hW0 hvm.symm (hgood _ List.mem_cons_self) hk
  have hini' : (Cond.initialized cls).before args s' = true := vx_ot_at hW0 hvm.symm (hgood _ (List.mem_cons_of_mem _ List.mem_cons_self)) hini
  have hU' : vx_Zq Bundle.tN "UNASSIGNED_STACK" Bundle.steD A s' s'.heap := by rw [hhp]; exact vx_Zq.moved hW0.alike (hU.kept hS.2.1)
  have hN' : vx_Zq Bundle.tN "SUPPRESSED_SENTINEL" Bundle.listD A s' s'.heap := by rw [hhp]; exact vx_Zq.moved hW0.alike (hN.kept hS.2.1)
  have h : ∀ w ∈ Bundle.ownAtoms own ic cls names, w.before args s' = true := vx_own hat' (vx_isRefq hU'.1) (vx_isRefq hN'.1) hU'.2.word hN'.2.word
  have hown' : s'.vm.findClass own = some m.cls := by rw [hvm]; exact hown
  have hins : (Cond.instantiable cls 6).before args s' = true := h _ (by simp [Bundle.ownAtoms])
  obtain ⟨vm₁, cX, kX, hfX, hkX, -, -, X₁, st1⟩ := Y.newCold hexec (own := own) (C := cls) (index := ik) (n := 6) hown' hk' hins hini'
    (g := F0 m pc ls rest) rfl (by rw [hb]; exact d0) (Nat.le_refl _) (Nat.le_refl _)
  generalize hT1 : (T.setVm vm₁).pushCell { cls := cX, slots := kX.instanceTypes.map defaultValue, vm := .none } = T1 at X₁ st1
  have hcat : (Value.ref T.heap.size).category = 1 := rfl
  have hcellA : T1.heap[T.heap.size]? = some (freshCell cX kX) := by rw [← hT1]; exact State.heap_pushCell_size _ _
  have d3' : decode c.code (pc + 3) = .ok (.dup, 1) := by rw [hb]; exact d3
  have d4' : decode c.code (pc + 4) = .ok (.ldc is, 2) := by rw [hb]; exact d4
  have hstr' : vk_R own is text sa s' := vk_R.warm hW0 hstr
  obtain ⟨U, hsteps, hrun, hend, hW, hsame, ce, hce, hO⟩ := X₁.ctorThrowS hexec htr (own := own) (cls := cls) (names := names) (ic := ic) hown' hcls hnames h (fun x hx => nomatch hx) hfX hkX hcellA (by rw [hhp, hT]; exact Nat.le_refl _) (msg := .ref sa) rfl
    (g := { method := m, pc := pc + 6, locals := ls, stack := .ref sa :: .ref T.heap.size :: .ref T.heap.size :: rest, locked := none }) rfl hsize rfl rfl (rest := rest) rfl
    (by rw [hb]; exact d6) (by rw [hb]; exact d9) hout hRframes (by simp only [List.map_cons, List.sum_cons, hcat]; omega) hlocks
  obtain ⟨f1, f2⟩ := vx_frame hsame
  rw [hhp] at f1 f2
  have hWs : s.WarmedH U.vm := State.WarmedH.trans hW0 hW
  have hcl : s.vm.findClass cls = some ce.cls := by
    have h9 := hO.cls
    rw [hvm] at h9
    exact h9
  have hall : s.sameButNew ({ U with vm := s.vm } : State) locs mc ms := by
    subst hA
    obtain ⟨e1, e2⟩ := hsame
    rw [State.setFrames_setFrames] at e1
    have h2 : (T.setVm s.vm).sameButNew ({ U with vm := s.vm } : State) [] (0 + 1) (0 + 6) := ⟨e1, e2⟩
    have h3 := X.same.trans h2
    rw [List.append_nil] at h3
    exact h3.mono hc hs
  refine ⟨U, ?_, .threw T.heap.size, hrun, hend, Or.inr ⟨T.heap.size, rfl, cls, ce, locs, hx U hWs.alike f1 (fun q hq => f2 q hq (fun z hz => nomatch hz)), hce, hO.vm, hcl, hWs, hall, hf⟩⟩
  refine st1 _ ?_
  show Steps p.tables e below (T1.setTop { method := m, pc := pc + 3, locals := ls, stack := .ref T.heap.size :: rest, locked := none }) _
  jvm_step X₁.here [X₁.here.top, hexec, d3', Value.category]
  exact X₁.ldcString hexec (own := own) (text := text) (index := is) (a := sa) hown' hstr'.1 hstr'.2
    (g := { method := m, pc := pc + 4, locals := ls, stack := .ref T.heap.size :: .ref T.heap.size :: rest, locked := none }) rfl d4' _ hsteps
/-- 'throw new E("text")', the text by a wide index -/
theorem vx_throwSW {cc : ByteArray} {pc : Nat} (hexec : p.tables.exec = Jvm.exec) (hb : c.code = cc) (hl : l.stackTraces = false) {own cls text : String} {names : List String} {ik is ic mc ms sa : Nat} {A : Nat → Prop}
    (hown : s.vm.findClass own = some m.cls) (hcls : Bundle.fit cls = true) (hnames : ∀ n ∈ names, Bundle.fit n = true)
    (hk : (Cond.classLink own ik cls).before args s = true) (hini : (Cond.initialized cls).before args s = true) (hstr : vk_R own is text sa s) (hat : ∀ w ∈ vx_atS own ic cls names, w.before args s = true)
    (hgood : ∀ w ∈ Cond.classLink own ik cls :: Cond.initialized cls :: vx_atS own ic cls names, vx_ot w = true)
    (hU : vx_Zq Bundle.tN "UNASSIGNED_STACK" Bundle.steD A s s.heap) (hN : vx_Zq Bundle.tN "SUPPRESSED_SENTINEL" Bundle.listD A s s.heap) (hS : va_S A s.heap H locs) (hsize : ls.size = c.maxLocals)
    (d0 : decode cc pc = .ok (.new ik, 3)) (d3 : decode cc (pc + 3) = .ok (.dup, 1)) (d4 : decode cc (pc + 4) = .ok (.ldc_w is, 3)) (d7 : decode cc (pc + 7) = .ok (.invokespecial ic, 3)) (d10 : decode cc (pc + 10) = .ok (.athrow, 1))
    (hout : ∀ x ∈ c.exceptionTable.toList, covers x (pc + 10) = false)
    (hRframes : names.length + 3 < R.frames) (hRlocals : (rest.map fun v => v.category).sum + (13 * (names.length + 1) + 43) ≤ R.locals) (hRcells : cells + 1 ≤ R.cells) (hRslots : slots + 6 ≤ R.slots) (hlocks : meth.locks = false)
    (hx : ∀ t : State, s.vm.Alike t.vm → H.size ≤ t.heap.size → (∀ q : Nat, q < H.size → t.heap[q]? = H[q]?) → XC cls s t)
    (hf : ∀ z ∈ locs, free z.base) (hc : cells + 1 ≤ mc) (hs : slots + 6 ≤ ms) :
    W p l e R s m args below meth c H locs cells slots (vx_MQ below Qc XC args s mc ms free) (F0 m pc ls rest) := by
  intro T hT X
  have htr : e.platform.stackTraces = false := (show e.platform.stackTraces = l.stackTraces by rw [X.admits.platform]).trans hl
  have Y := vx_rebase X (R' := { frames := R.frames, locals := R.locals, cells := 1, slots := 6 }) (Nat.le_refl _) (Nat.le_refl _) hRcells hRslots
  obtain ⟨s', hA⟩ : ∃ z, z = (T.setVm s.vm).setFrames (.invoking m args :: below) := ⟨_, rfl⟩
  rw [← hA] at Y
  have hvm : s'.vm = s.vm := by rw [hA]; rfl
  have hhp : s'.heap = H := by rw [hA]; exact hT
  have hW0 : s.WarmedH s'.vm := by rw [hvm]; exact State.WarmedH.refl s
  have hat' : ∀ w ∈ vx_atS own ic cls names, w.before args s' = true := fun w hw => vx_ot_at hW0 hvm.symm (hgood w (List.mem_cons_of_mem _ (List.mem_cons_of_mem _ hw))) (hat w hw)
  have hk' : (Cond.classLink own ik cls).before args s' = true := vx_ot_at hW0 hvm.symm (hgood _ List.mem_cons_self) hk
  have hini' : (Cond.initialized cls).before args s' = true := vx_ot_at hW0 hvm.symm (hgood _ (List.mem_cons_of_mem _ List.mem_cons_self)) hini
  have hU' : vx_Zq Bundle.tN "UNASSIGNED_STACK" Bundle.steD A s' s'.heap := by rw [hhp]; exact vx_Zq.moved hW0.alike (hU.kept hS.2.1)
  have hN' : vx_Zq Bundle.tN "SUPPRESSED_SENTINEL" Bundle.listD A s' s'.heap := by rw [hhp]; exact vx_Zq.moved hW0.alike (hN.kept hS.2.1)
  have h : ∀ w ∈ Bundle.ownAtoms own ic cls names, w.before args s' = true := vx_own hat' (vx_isRefq hU'.1) (vx_isRefq hN'.1) hU'.2.word hN'.2.word
  have hown' : s'.vm.findClass own = some m.cls := by rw [hvm]; exact hown
  have hins : (Cond.instantiable cls 6).before args s' = true := h _ (by simp [Bundle.ownAtoms])
  obtain ⟨vm₁, cX, kX, hfX, hkX, -, -, X₁, st1⟩ := Y.newCold hexec (own := own) (C := cls) (index := ik) (n := 6) hown' hk' hins hini'
    (g := F0 m pc ls rest) rfl (by rw [hb]; exact d0) (Nat.le_refl _) (Nat.le_refl _)
  generalize hT1 : (T.setVm vm₁).pushCell { cls := cX, slots := kX.instanceTypes.map defaultValue, vm := .none } = T1 at X₁ st1
  have hcat : (Value.ref T.heap.size).category = 1 := rfl
  have hcellA : T1.heap[T.heap.size]? = some (freshCell cX kX) := by rw [← hT1]; exact State.heap_pushCell_size _ _
  have d3' : decode c.code (pc + 3) = .ok (.dup, 1) := by rw [hb]; exact d3
  have d4' : decode c.code (pc + 4) = .ok (.ldc_w is, 3) := by rw [hb]; exact d4
  have hstr' : vk_R own is text sa s' := vk_R.warm hW0 hstr
  obtain ⟨U, hsteps, hrun, hend, hW, hsame, ce, hce, hO⟩ := X₁.ctorThrowS hexec htr (own := own) (cls := cls) (names := names) (ic := ic) hown' hcls hnames h (fun x hx => nomatch hx) hfX hkX hcellA (by rw [hhp, hT]; exact Nat.le_refl _) (msg := .ref sa) rfl
    (g := { method := m, pc := pc + 7, locals := ls, stack := .ref sa :: .ref T.heap.size :: .ref T.heap.size :: rest, locked := none }) rfl hsize rfl rfl (rest := rest) rfl
    (by rw [hb]; exact d7) (by rw [hb]; exact d10) hout hRframes (by simp only [List.map_cons, List.sum_cons, hcat]; omega) hlocks
  obtain ⟨f1, f2⟩ := vx_frame hsame
  rw [hhp] at f1 f2
  have hWs : s.WarmedH U.vm := State.WarmedH.trans hW0 hW
  have hcl : s.vm.findClass cls = some ce.cls := by
    have h9 := hO.cls
    rw [hvm] at h9
    exact h9
  have hall : s.sameButNew ({ U with vm := s.vm } : State) locs mc ms := by
    subst hA
    obtain ⟨e1, e2⟩ := hsame
    rw [State.setFrames_setFrames] at e1
    have h2 : (T.setVm s.vm).sameButNew ({ U with vm := s.vm } : State) [] (0 + 1) (0 + 6) := ⟨e1, e2⟩
    have h3 := X.same.trans h2
    rw [List.append_nil] at h3
    exact h3.mono hc hs
  refine ⟨U, ?_, .threw T.heap.size, hrun, hend, Or.inr ⟨T.heap.size, rfl, cls, ce, locs, hx U hWs.alike f1 (fun q hq => f2 q hq (fun z hz => nomatch hz)), hce, hO.vm, hcl, hWs, hall, hf⟩⟩
  refine st1 _ ?_
  show Steps p.tables e below (T1.setTop { method := m, pc := pc + 3, locals := ls, stack := .ref T.heap.size :: rest, locked := none }) _
  jvm_step X₁.here [X₁.here.top, hexec, d3', Value.category]
  exact X₁.ldcStringW hexec (own := own) (text := text) (index := is) (a := sa) hown' hstr'.1 hstr'.2
    (g := { method := m, pc := pc + 4, locals := ls, stack := .ref T.heap.size :: .ref T.heap.size :: rest, locked := none }) rfl d4' _ hsteps
end Ends
section Bodies
variable {l : Launch}
theorem vx_ofW {y : MethodName} {ws ws' : List Cond} {rm : Room} {Pc : Array Value → State → Prop} {Qc : Array Value → State → Outcome → State → Prop} {XC : String → State → State → Prop} {mc ms : Nat} {free : Addr → Prop} {cc : ByteArray} {maxL : Nat} {ret : Option FieldType}
    (hy : plainName y.cls = true) (hw : ws = Cond.code y cc maxL ret :: ws')
    (body : ∀ p e s m args below meth c s₁, BodyLoose p l y (headSpec ws rm) cc maxL ret e s m args below meth c s₁ → c.maxLocals = maxL → (∀ x ∈ c.exceptionTable.toList, False) → Pc args s →
      W p l e (headSpec ws rm).room s m args below meth c s.heap [] 0 0 (vx_MQ below Qc XC args s mc ms free) (entryFrame m args maxL)) : vx_Met l y ws rm Pc Qc XC mc ms free := by
  refine MetFree.of_bodyS (code := cc) (maxLocals := maxL) (ret := ret) hy ?_ ?_
  · intro args s m h hn
    obtain ⟨meth, c, h1, h2, h3, h4, h5, h6, -, -⟩ := Cond.code_spec hn (atoms_spec (ws := ws) h _ (by rw [hw]; exact List.mem_cons_self))
    exact ⟨meth, c, h1, h2, h3, h4, h5, h6⟩
  · intro p e s m args below meth c s₁ B hml hP _
    have hh0 : s₁.heap = s.heap := by rw [B.state]; rfl
    have ht : ∀ x ∈ c.exceptionTable.toList, False := by
      obtain ⟨meth9, c9, h1, h2, -, -, -, -, h7, -⟩ := Cond.code_spec B.named (atoms_spec (ws := ws) B.pre _ (by rw [hw]; exact List.mem_cons_self))
      cases Option.some.inj (h1.symm.trans B.method)
      cases Option.some.inj (h2.symm.trans (Stand.of_body B).code)
      intro x hx
      rw [Array.isEmpty_iff.mp h7] at hx
      cases hx
    obtain ⟨t, a1, o, b1, b2, b3⟩ := body p e s m args below meth c s₁ B hml ht hP s₁ hh0 (Stand.of_body B)
    exact ⟨t, o, a1, b1, b2, b3⟩
/-- the table of a body with handlers -/
theorem vx_table {p : Program} {x y : MethodName} {S : Spec} {cc bytes : ByteArray} {maxL maxL' : Nat} {ret ret' : Option FieldType} {e : Env} {s s₁ : State} {m : MethodId} {args : Array Value} {below : List Frame} {meth : Method} {c : Code} {hh : List (Nat × Nat × Nat × Nat)}
    (B : BodyLoose p l y S cc maxL ret e s m args below meth c s₁) (h : (Cond.codeWith y bytes maxL' ret' hh).before args s = true) : c.exceptionTable.toList = tableOf hh := by
  obtain ⟨m9, meth9, c9, hn9, h1, h2, -, -, h6, -⟩ := Cond.codeWith_spec h
  cases Option.some.inj (hn9.symm.trans B.named)
  cases Option.some.inj (h1.symm.trans B.method)
  cases Option.some.inj (h2.symm.trans (Stand.of_body B).code)
  rw [← h6, table_eq]
end Bodies
end VXA
/-! ===== END ===== -/
/-! ===== BEGIN a static call of a method with an exception table ===== -/
section VXS
variable {p : Program} {l : Launch} {e : Env} {R : Room} {s : State} {m : MethodId} {args : Array Value} {below : List Frame} {meth : Method} {c : Code} {T : State} {H : Heap} {locs : List Loc} {cells slots : Nat}
abbrev vx_CSW (R : Room) (s : State) (args : Array Value) (own : String) (index : Nat) (y : MethodName) (bytes : ByteArray) (maxL : Nat) (ret : Option FieldType) (hh : List (Nat × Nat × Nat × Nat)) (ws : List Cond) (rm : Room) (mc ms n : Nat) : Prop :=
  (rm.cells = mc ∧ rm.slots = ms ∧ rm.frames + 1 ≤ R.frames ∧ 8 + (maxL + 11) + rm.locals ≤ R.locals ∧ (∀ w ∈ ws, ∀ (a' : Array Value) (U : State), s.WarmedH U.vm → w.before a' U = true) ∧ Cond.codeWith y bytes maxL ret hh ∈ ws) ∧
  (Cond.codeWith y bytes maxL ret hh).before args s = true ∧ (Cond.initialized y.cls).before args s = true ∧ (y.cls ≠ "java/lang/invoke/MethodHandle" ∧ y.cls ≠ "java/lang/invoke/VarHandle") ∧
  (∀ sig, parseMethodDescriptor y.desc = some sig → n = sig.parameters.length) ∧ (Cond.methodLink own index y).before args s = true ∧ (Cond.static y).before args s = true
theorem vx_cwSW {own : String} {index maxL mc ms : Nat} {y : MethodName} {bytes : ByteArray} {ret : Option FieldType} {hh : List (Nat × Nat × Nat × Nat)} {Ts ws ws' : List Cond} {rm : Room} (n : Nat) (ht : ∀ w ∈ Ts, w.before args s = true) (hT : GoodIn Ts (va_wsS own index y ws)) (hw : ws = Cond.codeWith y bytes maxL ret hh :: ws') (hrc : rm.cells = mc) (hrs : rm.slots = ms)
    (hd : y.cls ≠ "java/lang/invoke/MethodHandle" ∧ y.cls ≠ "java/lang/invoke/VarHandle" ∧ (parseMethodDescriptor y.desc).map (fun d => d.parameters.length) = some n) (hR : rm.frames + 1 ≤ R.frames ∧ 8 + (maxL + 11) + rm.locals ≤ R.locals) :
    vx_CSW R s args own index y bytes maxL ret hh ws rm mc ms n := by
  have ok : ∀ w ∈ va_wsS own index y ws, w.before args s = true := fun w h => ht w (hT w h).1
  have hG : GoodIn Ts ws := fun w h => hT w (by unfold va_wsS; exact List.mem_append_right _ h)
  have hc : Cond.codeWith y bytes maxL ret hh ∈ ws := by rw [hw]; exact List.mem_cons_self
  refine ⟨⟨hrc, hrs, hR.1, hR.2, pay_in ht hG, hc⟩, ht _ (hG _ hc).1, ok _ (by simp [va_wsS]), ⟨hd.1, hd.2.1⟩, fun sig h => ?_, ok _ (by simp [va_wsS]), ok _ (by simp [va_wsS])⟩
  have h2 := hd.2.2
  rw [h] at h2
  exact (Option.some.inj h2).symm
theorem vx_callSW (X : Stand p l e R s m args below meth c T locs cells slots) (hexec : p.tables.exec = Jvm.exec) {own : String} {index : Nat} {y : MethodName} {bytes : ByteArray} {maxL : Nat} {ret : Option FieldType} {hh : List (Nat × Nat × Nat × Nat)}
    (hown : s.vm.findClass own = some m.cls) (hlink : (Cond.methodLink own index y).before args s = true) (hstat : (Cond.static y).before args s = true) (hinit : (Cond.initialized y.cls).before args s = true)
    (hcode : (Cond.codeWith y bytes maxL ret hh).before args s = true) (hy : y.cls ≠ "java/lang/invoke/MethodHandle" ∧ y.cls ≠ "java/lang/invoke/VarHandle")
    {W9 : Nat} {Pre : Pt → Array Value → Prop} {Post : Pt → Array Value → Option Value → Pt → Prop} (hK : Back l R p e below s args y 3 W9 Pre Post)
    {g : JFrame} (hg : g.method = m) (hsize : g.locals.size = c.maxLocals) {argsL rest : List Value} (hlen : ∀ sig, parseMethodDescriptor y.desc = some sig → argsL.length = sig.parameters.length)
    (hstack : g.stack = argsL.reverse ++ rest) (hW : 2 * g.monitorRoom + (rest.map fun v => v.category).sum ≤ W9) (hdg : decode c.code g.pc = .ok (.invokestatic index, 3))
    (hpre : ∀ vm₁, s.WarmedH vm₁ → Pre ⟨T.setVm vm₁, locs, cells, slots⟩ argsL.toArray) :
    ∃ (v : Option Value) (vm₁ : Vm) (B : Pt), s.WarmedH vm₁ ∧ Stand p l e R s m args below meth c B.U B.locs B.cells B.slots ∧ Post ⟨T.setVm vm₁, locs, cells, slots⟩ argsL.toArray v B ∧
      ∀ target, Steps p.tables e below (B.U.setTop { g with pc := g.pc + 3, stack := v.toList ++ rest }) target → Steps p.tables e below (T.setTop g) target := by
  obtain ⟨mk, methM, cM, hnamed, hmethM, -, -, -, -, -, -, hsigM⟩ := Cond.codeWith_spec hcode
  have hstatic : methM.isStatic = true := Cond.static_spec hnamed hmethM hstat
  obtain ⟨kP, hkP, -⟩ := className_of_methodNamed hnamed
  have hinitP : kP.init = .initialized := Cond.initialized_spec (findClass_of_methodNamed hnamed) hkP hinit
  obtain ⟨vm₁, X₁, hstep₁⟩ := X.invokestatic hexec hown hlink hnamed hmethM hstatic hkP hinitP hy (g := g) hg (argsL := argsL) (rest := rest) (hlen _ hsigM) hstack hdg
  obtain ⟨v, B, X', hpost, hsteps⟩ := hK m meth c ⟨T.setVm vm₁, locs, cells, slots⟩ { g with stack := rest } (.invokestatic index) mk argsL.toArray X₁ hg hsize hdg hW (X₁.named hnamed) (hpre vm₁ X₁.warmed)
  exact ⟨v, vm₁, B, X₁.warmed, X', hpost, fun target h => hstep₁ _ fun acts => by rw [doInvoke_state]; exact hsteps.trans h⟩
theorem vx_runSW {y : MethodName} {bytes cc : ByteArray} {maxL nL mc ms n index : Nat} {ret : Option FieldType} {hh : List (Nat × Nat × Nat × Nat)} {ws : List Cond} {rm : Room} {Pc : Array Value → State → Prop} {Qc : Array Value → State → Outcome → State → Prop} {free : Addr → Prop} {Ts : List Cond} {own : String} {As rest : List Value} {g : JFrame}
    (S : CallFix p m c cc nL s args Ts own) (hM : Met l y ws rm Pc Qc mc ms free) (cw : vx_CSW R s args own index y bytes maxL ret hh ws rm mc ms n) (hp : PreS s H Pc As)
    (hg : g.method = m) (hn : As.length = n) (hsize : g.locals.size = nL) (hstack : g.stack = As.reverse ++ rest) (hW : 2 * g.monitorRoom + (rest.map fun v => v.category).sum ≤ 8) (hdg : decode cc g.pc = .ok (.invokestatic index, 3)) (hf : cells + mc ≤ R.cells ∧ slots + ms ≤ R.slots) :
    va_Run p l e R s m args below meth c H locs cells slots mc ms g rest (Qc As.toArray) (free) := by
  obtain ⟨⟨hrc, hrs, hfr, hlo, hws, hcw⟩, hcode, hini, hy, hlen, hl, hstt⟩ := cw
  have hK : Back l R p e below s args y 3 8 (PreOf R mc ms Pc) (PostOf Qc mc ms free) := va_backW (hh := hh) (bytes := bytes) (maxL := maxL) (ret := ret) hM hp.1 hrc hrs hfr hlo hws hcw (fun a' U hW => word_at hW (Or.inl (by first | rfl | simp [Cond.onTables, Cond.keeps, Cond.steady])) hini)
  obtain ⟨hx, hb, hml, ho, -⟩ := S
  intro T hT X
  obtain ⟨v, vm₁, ⟨U', l2, c2, s2⟩, hW₁, X', ⟨g', mk, t, L, e1, e2, hq, h1, hL, h2, h3⟩, st⟩ := vx_callSW X hx (hh := hh) (bytes := bytes) (maxL := maxL) (ret := ret) ho hl hstt hini hcode hy hK hg (hsize.trans hml.symm) (argsL := As) (rest := rest) (fun sig h => hn.trans (hlen sig h)) hstack hW (by rw [hb]; exact hdg)
    (fun vm₁ hW₁ => ⟨hf.1, hf.2, hp.2 (T.setVm vm₁) hT hW₁⟩)
  dsimp only [Pt.U, Pt.locs, Pt.cells, Pt.slots] at X' e1 e2 h1 h2 h3 st
  subst h1; subst h2; subst h3
  exact ⟨v, (T.setVm vm₁).calling g' mk As.toArray, t, U', L, hT, X', hL, e1, e2, hq, st⟩
/-- not caught here, past rows that name other classes: it goes on to the caller -/
theorem vx_outP {p : Program} {l : Launch} {e : Env} {R : Room} {s : State} {m : MethodId} {args : Array Value} {below : List Frame} {meth : Method} {c : Code} {H : Heap} {locs : List Loc} {cells slots : Nat} {free : Addr → Prop} {ls : Array Slot} {rest : List Value} {Qc : Array Value → State → Outcome → State → Prop} {XC : String → State → State → Prop}
    {pc : Nat} {own E : String} {ce : Cell} {q : Addr} {mc ms : Nat} (hown : s.vm.findClass own = some m.cls) (hlocks : meth.locks = false)
    (hpass : ∀ z ∈ c.exceptionTable.toList, covers z pc = false ∨ (z.catchType ≠ 0 ∧ ∃ nm : String, (Cond.classLink own z.catchType nm).before args s = true ∧ va_Nc E nm s)) (hcell : H[q]? = some ce) (hv : ce.vm = .none) (hcl : s.vm.findClass E = some ce.cls)
    (hx : ∀ t : State, t.heap = H → s.vm.Alike t.vm → XC E s t) (hf : ∀ z ∈ locs, free z.base) (hc : cells ≤ mc) (hs : slots ≤ ms) :
    vx_W p l e R s m args below meth c H locs cells slots (vx_MQ below Qc XC args s mc ms free) (F0 m pc ls rest) q := by
  intro T hT X
  have hpl : e.platform.magicAccessors = ({} : Platform).magicAccessors := by rw [X.admits.platform]
  obtain ⟨vm', hW', X', st⟩ := X.outThrough hlocks q (g := F0 m pc ls rest) rfl rfl rfl (cell := ce) (by rw [hT]; exact hcell) (by rw [hv]; rfl)
    (by obtain ⟨k9, h9, -⟩ := Vm.findClass_spec hcl; exact ⟨k9, h9⟩) (fun z hz => by
      rcases hpass z hz with h | ⟨hz0, nm, hl1, hn1⟩
      · exact Or.inl h
      · obtain ⟨c6, hc6, hcl6⟩ := Cond.classLink_spec hown hl1 e.platform hpl
        obtain ⟨a8, b8, h1, h2, h3⟩ := hn1
        cases Option.some.inj (h1.symm.trans hcl)
        cases Option.some.inj (h2.symm.trans hc6)
        exact Or.inr ⟨hz0, _, hcl6, h3⟩)
  obtain ⟨g₀, hfr⟩ := X'.frames_eq
  have hcell9 : ((T.setVm vm').setFrames (.throwing q :: below)).heap[q]? = some ce := by
    show T.heap[q]? = some ce
    rw [hT]; exact hcell
  have hend : Ended ((T.setVm vm').setFrames (.throwing q :: below)) below (.threw q) := State.frames_setFrames _ (State.cur_lt_of_frames hfr)
  refine ⟨(T.setVm vm').setFrames (.throwing q :: below), ?_, .threw q, X'.here.running, hend, Or.inr ⟨q, rfl, E, ce, locs, hx _ hT (X'.ends _).1.alike, hcell9, hv, hcl, (X'.ends _).1, (X'.ends _).2.mono hc hs, hf⟩⟩
  rw [X.pushThrowing_eq]
  exact st
/-- a thing of a world lies in the heap -/
theorem vx_lt {D : va_G} {cl : List vw_C} {ws : va_W} {H1 : Heap} (h : va_P D cl ws H1) {k : Nat} {q : Nat × va_E} (hk : ws[k]? = some q) : q.1 < H1.size := (h k q hk).lt
end VXS
/-! ===== END ===== -/
/-! ===== BEGIN methods with a table of their own: called by a name, returning or throwing ===== -/
section VXH
/-! vx_backW, vx_callVX, vx_callSX, vx_callVW, vx_runVW, vx_runVX, vx_runSX, vx_ofWH follow the same proofs as their sisters above (Free/Laws.lean, Shelf42/LK1.lean); vx_outP calls Shelf42/NT130.lean (outThrough). -/
section
variable {l : Launch} {R : Room} {p : Program} {e : Env} {below : List Frame} {s : State} {sargs : Array Value} {y : MethodName} {len W9 : Nat}
theorem vx_backW {ws : List Cond} {rm : Room} {Pc : Array Value → State → Prop} {Qc : Array Value → State → Outcome → State → Prop} {XC : String → State → State → Prop} {mc ms : Nat} {free : Addr → Prop} {bytes : ByteArray} {maxL : Nat} {ret : Option FieldType} {hh : List (Nat × Nat × Nat × Nat)}
    (hM : vx_Met l y ws rm Pc Qc XC mc ms free) (hblind : FrameBlind Pc) (hrc : rm.cells = mc) (hrs : rm.slots = ms)
    (hframes : rm.frames + 1 ≤ R.frames) (hlocals : W9 + (maxL + 11) + rm.locals ≤ R.locals)
    (hws : ∀ w ∈ ws, ∀ a' U, s.WarmedH U.vm → w.before a' U = true) (hcode : Cond.codeWith y bytes maxL ret hh ∈ ws) (hinit : ∀ a' U, s.WarmedH U.vm → (Cond.initialized y.cls).before a' U = true) :
    vx_Back l R p e below s sargs y len W9 (PreOf R mc ms Pc) (PostOf Qc mc ms free) (vx_Post XC mc ms free) := by
  intro m meth c A g ig mk a X hg hsize hdg hW hn hp
  have h1 : (headSpec ws rm).pre.before a A.U = true := atoms_intro fun w hw => hws w hw _ _ X.warmed
  have h2 : (Cond.codeWith y bytes maxL ret hh).before a A.U = true := hws _ hcode _ _ X.warmed
  have h3 : (Cond.initialized y.cls).before a A.U = true := hinit _ _ X.warmed
  have h4 : A.cells + (headSpec ws rm).room.cells ≤ R.cells := by rw [show (headSpec ws rm).room.cells = mc from hrc]; exact hp.1
  have h5 : A.slots + (headSpec ws rm).room.slots ≤ R.slots := by rw [show (headSpec ws rm).room.slots = ms from hrs]; exact hp.2.1
  have hPc : Pc a (A.U.calling g mk a) := hblind _ _ _ _ hp.2.2
  obtain ⟨U, Ls, c0, s0⟩ := A
  dsimp only [Pt.U, Pt.locs, Pt.cells, Pt.slots] at h1 h2 h3 h4 h5 X hn hPc ⊢
  obtain ⟨m9, methY, cY, hn9, hmY, hcY, -, hlY, -⟩ := Cond.codeWith_spec h2
  cases Option.some.inj (hn9.symm.trans hn)
  obtain ⟨kY, hkY, -⟩ := className_of_methodNamed hn
  have hinitY : kY.init = .initialized := Cond.initialized_spec (findClass_of_methodNamed hn) hkY h3
  have h : At U g.method c below := by rw [hg]; exact X.here
  have hlocals9 : W9 + (maxL + 11) + (headSpec ws rm).room.locals ≤ R.locals := hlocals
  have happ : (headSpec ws rm).appliesLoose y e.platform (U.calling g mk a) = true :=
    Spec.appliesLoose_calling (g := g) h hdg hn hkY hinitY
      (X.room_calling (g := g) (R' := (headSpec ws rm).room) hsize hmY hcY hframes (by rw [hlY]; omega) h4 h5) h1
  obtain ⟨mid, hmid⟩ := h.above
  have hfr : (U.setTop g).frames = (.java g :: mid) ++ below := by rw [State.frames_setTop' g h.top, hmid]; rfl
  obtain ⟨o, s₂, hsteps, -, hend, hq⟩ := Steps.callFree hM p X.admits X.cas X.clock (acts := []) hfr happ hPc trivial
  have hq' : vx_Q Qc XC mc ms free a (U.calling g mk a) o s₂ := hq
  rw [State.frames_setTop' g h.top] at hend
  obtain ⟨g₀, hg0⟩ := Option.isSome_iff_exists.mp h.top
  obtain ⟨r, hr⟩ := State.topJava?_eq_some.mp hg0
  have hr' : (({ U with heap := s₂.heap, slotsUsed := s₂.slotsUsed } : State).setVm s₂.vm).frames = .java g₀ :: r := hr
  rcases hq' with ⟨hqc, L, hfe, hL⟩ | ⟨q, rfl, E, ce, L, hx, hce, hcv, hcl, hW₂, hsm, hL⟩
  · obtain ⟨⟨v, rfl⟩, hW₂, e2, q2, q3, q4, q5, q6⟩ := id hfe
    have e3 : s₂ = ({ (U.calling g mk a).setFrames s₂.frames with heap := s₂.heap, slotsUsed := s₂.slotsUsed } : State).setVm s₂.vm := by
      have : s₂ = ({ s₂ with vm := (U.calling g mk a).vm } : State).setVm s₂.vm := rfl
      rw [e2] at this
      exact this
    obtain ⟨c₂, i₂, len₂, hc₂, hd₂, hf₂⟩ := hend
    have hW' : U.WarmedH s₂.vm := hW₂
    have hcc : c₂ = c := by
      have h1 : s₂.code? g.method = U.code? g.method := by
        rw [State.code?_eq, State.code?_eq, hW'.alike.method?]
      exact Option.some.inj (hc₂.symm.trans (h1.trans h.code))
    subst hcc
    have hlen : len₂ = len := by rw [hdg] at hd₂; cases hd₂; rfl
    subst hlen
    have hs₂ : s₂ = (({ U with heap := s₂.heap, slotsUsed := s₂.slotsUsed } : State).setVm s₂.vm).setTop { g with pc := g.pc + len₂, stack := v.toList ++ g.stack } := by
      refine e3.trans ?_
      rw [hf₂, State.calling_eq h.top, State.setFrames_setFrames, State.setTop_of_frames _ hr', hr]
      rfl
    have hsame : U.sameButNew ({ U with heap := s₂.heap, slotsUsed := s₂.slotsUsed } : State) L mc ms := by
      refine ⟨?_, q2, q3, q4, q5, q6⟩
      obtain ⟨t, ht, -⟩ := State.frames_cons hr
      show ({ U with heap := s₂.heap, slotsUsed := s₂.slotsUsed } : State) = { U.setFrames U.frames with heap := s₂.heap, slotsUsed := s₂.slotsUsed }
      rw [State.setFrames_self ht]
    subst hg
    refine Or.inl ⟨v, ⟨(({ U with heap := s₂.heap, slotsUsed := s₂.slotsUsed } : State).setVm s₂.vm), Ls ++ L, c0 + mc, s0 + ms⟩,
      ⟨X.admits, X.cas, X.clock, X.frames, X.room, X.hears, X.method, X.code, (X.here.setHeapUsed s₂.heap s₂.slotsUsed).setVm hW'.alike, X.tail, State.WarmedH.trans X.warmed hW', X.limits, X.bytes, X.same.trans (hsame.setVm s.vm)⟩,
      ⟨g, mk, s₂, L, rfl, rfl, hqc, rfl, hL, rfl, rfl⟩, ?_⟩
    show Steps p.tables e below _ ((({ U with heap := s₂.heap, slotsUsed := s₂.slotsUsed } : State).setVm s₂.vm).setTop { g with pc := g.pc + len₂, stack := v.toList ++ g.stack })
    rw [← hs₂]
    exact hsteps
  · obtain ⟨e2, q2, q3, q4, q5, q6⟩ := id hsm
    have e3 : s₂ = ({ (U.calling g mk a).setFrames s₂.frames with heap := s₂.heap, slotsUsed := s₂.slotsUsed } : State).setVm s₂.vm := by
      have : s₂ = ({ s₂ with vm := (U.calling g mk a).vm } : State).setVm s₂.vm := rfl
      rw [e2] at this
      exact this
    have hf₂ : s₂.frames = .throwing q :: .java g :: U.frames.tail := hend
    have hW' : U.WarmedH s₂.vm := hW₂
    have hs₂ : s₂ = ((({ U with heap := s₂.heap, slotsUsed := s₂.slotsUsed } : State).setVm s₂.vm).setTop g).pushFrame (.throwing q) := by
      refine e3.trans ?_
      rw [hf₂, State.calling_eq h.top, State.setFrames_setFrames, State.pushFrame, State.frames_setTop _ hr', State.setTop_of_frames _ hr', State.setFrames_setFrames, hr]
      rfl
    have hsame : U.sameButNew ({ U with heap := s₂.heap, slotsUsed := s₂.slotsUsed } : State) L mc ms := by
      refine ⟨?_, q2, q3, q4, q5, q6⟩
      obtain ⟨t, ht, -⟩ := State.frames_cons hr
      show ({ U with heap := s₂.heap, slotsUsed := s₂.slotsUsed } : State) = { U.setFrames U.frames with heap := s₂.heap, slotsUsed := s₂.slotsUsed }
      rw [State.setFrames_self ht]
    subst hg
    refine Or.inr ⟨q, ⟨(({ U with heap := s₂.heap, slotsUsed := s₂.slotsUsed } : State).setVm s₂.vm), Ls ++ L, c0 + mc, s0 + ms⟩,
      ⟨X.admits, X.cas, X.clock, X.frames, X.room, X.hears, X.method, X.code, (X.here.setHeapUsed s₂.heap s₂.slotsUsed).setVm hW'.alike, X.tail, State.WarmedH.trans X.warmed hW', X.limits, X.bytes, X.same.trans (hsame.setVm s.vm)⟩,
      ⟨g, mk, s₂, L, E, ce, rfl, rfl, hx, hce, hcv, hcl, rfl, hL, rfl, rfl⟩, ?_⟩
    show Steps p.tables e below _ (((({ U with heap := s₂.heap, slotsUsed := s₂.slotsUsed } : State).setVm s₂.vm).setTop g).pushFrame (.throwing q))
    rw [← hs₂]
    exact hsteps
end
variable {p : Program} {l : Launch} {e : Env} {R : Room} {s : State} {m : MethodId} {args : Array Value} {below : List Frame} {meth : Method} {c : Code} {T : State} {H : Heap} {locs : List Loc} {cells slots : Nat}
theorem vx_callVX (X : Stand p l e R s m args below meth c T locs cells slots) (hexec : p.tables.exec = Jvm.exec) {own C : String} {index : Nat} {y : MethodName} {bytes : ByteArray} {maxL : Nat} {ret : Option FieldType} {hh : List (Nat × Nat × Nat × Nat)}
    (hown : s.vm.findClass own = some m.cls) (hlink : (Cond.methodLink own index y).before args s = true) (hinst : (Cond.instanceMethod y).before args s = true) (hsel : (Cond.selects C y y).before args s = true)
    (hcode : (Cond.codeWith y bytes maxL ret hh).before args s = true) (hy : y.cls ≠ "java/lang/invoke/MethodHandle" ∧ y.cls ≠ "java/lang/invoke/VarHandle")
    {W9 : Nat} {Pre : Pt → Array Value → Prop} {Post : Pt → Array Value → Option Value → Pt → Prop} {PostX : Pt → Array Value → Addr → Pt → Prop} (hK : vx_Back l R p e below s args y 3 W9 Pre Post PostX)
    {b : Addr} {cellB : Cell} (hcell : T.heap[b]? = some cellB) (hobj : cellB.vm.isStatics = false) (hcls : s.vm.findClass C = some cellB.cls)
    {g : JFrame} (hg : g.method = m) (hsize : g.locals.size = c.maxLocals) {argsL rest : List Value} (hlen : ∀ sig, parseMethodDescriptor y.desc = some sig → argsL.length = sig.parameters.length)
    (hstack : g.stack = argsL.reverse ++ .ref b :: rest) (hW : 2 * g.monitorRoom + (rest.map fun v => v.category).sum ≤ W9) (hdg : decode c.code g.pc = .ok (.invokevirtual index, 3))
    (hpre : ∀ vm₁, s.WarmedH vm₁ → Pre ⟨T.setVm vm₁, locs, cells, slots⟩ (Value.ref b :: argsL).toArray) :
    (∃ (v : Option Value) (vm₁ : Vm) (B : Pt), s.WarmedH vm₁ ∧ Stand p l e R s m args below meth c B.U B.locs B.cells B.slots ∧ Post ⟨T.setVm vm₁, locs, cells, slots⟩ (Value.ref b :: argsL).toArray v B ∧
      ∀ target, Steps p.tables e below (B.U.setTop { g with pc := g.pc + 3, stack := v.toList ++ rest }) target → Steps p.tables e below (T.setTop g) target) ∨
    (∃ (q : Addr) (vm₁ : Vm) (B : Pt), s.WarmedH vm₁ ∧ Stand p l e R s m args below meth c B.U B.locs B.cells B.slots ∧ PostX ⟨T.setVm vm₁, locs, cells, slots⟩ (Value.ref b :: argsL).toArray q B ∧
      Steps p.tables e below (T.setTop g) ((B.U.setTop { g with stack := rest }).pushFrame (.throwing q))) := by
  obtain ⟨mk, methM, hnamed, hmethM, hstM, habM⟩ := Cond.instanceMethod_spec hinst
  obtain ⟨m8, methM', cM, hn8, hmethM', -, -, -, -, -, -, hsigM⟩ := Cond.codeWith_spec hcode
  cases Option.some.inj (hn8.symm.trans hnamed)
  cases hmethM.symm.trans hmethM'
  obtain ⟨c2, r2, m2, q1, q2, q3, q4, kP, hkP, hkPi⟩ := Cond.selects_spec hsel
  cases hcls.symm.trans q1
  cases (State.methodFound?_of_named hnamed hy).symm.trans q2
  cases hnamed.symm.trans q3
  have hselP : selectMethod e.platform s.vm cellB.cls mk = .method mk := by rw [Launch.admits_selectMethod X.admits]; exact q4
  obtain ⟨vm₁, X₁, hstep₁⟩ := X.invokevirtual hexec hown hlink hnamed hmethM hstM hkP hkPi hy (a := b) (cell := cellB) hcell
    (fun z h => by rw [h] at hobj; cases hobj) hselP hmethM habM hkP hkPi (g := g) hg (argsL := argsL) (rest := rest) (hlen _ hsigM) hstack hdg
  rcases hK m meth c ⟨T.setVm vm₁, locs, cells, slots⟩ { g with stack := rest } (.invokevirtual index) mk (Value.ref b :: argsL).toArray X₁ hg hsize hdg hW (X₁.named hnamed) (hpre vm₁ X₁.warmed) with ⟨v, B, X', hpost, hsteps⟩ | ⟨q, B, X', hpost, hsteps⟩
  · exact Or.inl ⟨v, vm₁, B, X₁.warmed, X', hpost, fun target h => hstep₁ _ fun acts => by rw [doInvoke_state]; exact hsteps.trans h⟩
  · exact Or.inr ⟨q, vm₁, B, X₁.warmed, X', hpost, hstep₁ _ fun acts => by rw [doInvoke_state]; exact hsteps⟩
theorem vx_callSX (X : Stand p l e R s m args below meth c T locs cells slots) (hexec : p.tables.exec = Jvm.exec) {own : String} {index : Nat} {y : MethodName} {bytes : ByteArray} {maxL : Nat} {ret : Option FieldType} {hh : List (Nat × Nat × Nat × Nat)}
    (hown : s.vm.findClass own = some m.cls) (hlink : (Cond.methodLink own index y).before args s = true) (hstat : (Cond.static y).before args s = true) (hinit : (Cond.initialized y.cls).before args s = true)
    (hcode : (Cond.codeWith y bytes maxL ret hh).before args s = true) (hy : y.cls ≠ "java/lang/invoke/MethodHandle" ∧ y.cls ≠ "java/lang/invoke/VarHandle")
    {W9 : Nat} {Pre : Pt → Array Value → Prop} {Post : Pt → Array Value → Option Value → Pt → Prop} {PostX : Pt → Array Value → Addr → Pt → Prop} (hK : vx_Back l R p e below s args y 3 W9 Pre Post PostX)
    {g : JFrame} (hg : g.method = m) (hsize : g.locals.size = c.maxLocals) {argsL rest : List Value} (hlen : ∀ sig, parseMethodDescriptor y.desc = some sig → argsL.length = sig.parameters.length)
    (hstack : g.stack = argsL.reverse ++ rest) (hW : 2 * g.monitorRoom + (rest.map fun v => v.category).sum ≤ W9) (hdg : decode c.code g.pc = .ok (.invokestatic index, 3))
    (hpre : ∀ vm₁, s.WarmedH vm₁ → Pre ⟨T.setVm vm₁, locs, cells, slots⟩ argsL.toArray) :
    (∃ (v : Option Value) (vm₁ : Vm) (B : Pt), s.WarmedH vm₁ ∧ Stand p l e R s m args below meth c B.U B.locs B.cells B.slots ∧ Post ⟨T.setVm vm₁, locs, cells, slots⟩ argsL.toArray v B ∧
      ∀ target, Steps p.tables e below (B.U.setTop { g with pc := g.pc + 3, stack := v.toList ++ rest }) target → Steps p.tables e below (T.setTop g) target) ∨
    (∃ (q : Addr) (vm₁ : Vm) (B : Pt), s.WarmedH vm₁ ∧ Stand p l e R s m args below meth c B.U B.locs B.cells B.slots ∧ PostX ⟨T.setVm vm₁, locs, cells, slots⟩ argsL.toArray q B ∧
      Steps p.tables e below (T.setTop g) ((B.U.setTop { g with stack := rest }).pushFrame (.throwing q))) := by
  obtain ⟨mk, methM, cM, hnamed, hmethM, -, -, -, -, -, -, hsigM⟩ := Cond.codeWith_spec hcode
  have hstatic : methM.isStatic = true := Cond.static_spec hnamed hmethM hstat
  obtain ⟨kP, hkP, -⟩ := className_of_methodNamed hnamed
  have hinitP : kP.init = .initialized := Cond.initialized_spec (findClass_of_methodNamed hnamed) hkP hinit
  obtain ⟨vm₁, X₁, hstep₁⟩ := X.invokestatic hexec hown hlink hnamed hmethM hstatic hkP hinitP hy (g := g) hg (argsL := argsL) (rest := rest) (hlen _ hsigM) hstack hdg
  rcases hK m meth c ⟨T.setVm vm₁, locs, cells, slots⟩ { g with stack := rest } (.invokestatic index) mk argsL.toArray X₁ hg hsize hdg hW (X₁.named hnamed) (hpre vm₁ X₁.warmed) with ⟨v, B, X', hpost, hsteps⟩ | ⟨q, B, X', hpost, hsteps⟩
  · exact Or.inl ⟨v, vm₁, B, X₁.warmed, X', hpost, fun target h => hstep₁ _ fun acts => by rw [doInvoke_state]; exact hsteps.trans h⟩
  · exact Or.inr ⟨q, vm₁, B, X₁.warmed, X', hpost, hstep₁ _ fun acts => by rw [doInvoke_state]; exact hsteps⟩
theorem vx_callVW (X : Stand p l e R s m args below meth c T locs cells slots) (hexec : p.tables.exec = Jvm.exec) {own C : String} {index : Nat} {y : MethodName} {bytes : ByteArray} {maxL : Nat} {ret : Option FieldType} {hh : List (Nat × Nat × Nat × Nat)}
    (hown : s.vm.findClass own = some m.cls) (hlink : (Cond.methodLink own index y).before args s = true) (hinst : (Cond.instanceMethod y).before args s = true) (hsel : (Cond.selects C y y).before args s = true)
    (hcode : (Cond.codeWith y bytes maxL ret hh).before args s = true) (hy : y.cls ≠ "java/lang/invoke/MethodHandle" ∧ y.cls ≠ "java/lang/invoke/VarHandle")
    {W9 : Nat} {Pre : Pt → Array Value → Prop} {Post : Pt → Array Value → Option Value → Pt → Prop} (hK : Back l R p e below s args y 3 W9 Pre Post)
    {b : Addr} {cellB : Cell} (hcell : T.heap[b]? = some cellB) (hobj : cellB.vm.isStatics = false) (hcls : s.vm.findClass C = some cellB.cls)
    {g : JFrame} (hg : g.method = m) (hsize : g.locals.size = c.maxLocals) {argsL rest : List Value} (hlen : ∀ sig, parseMethodDescriptor y.desc = some sig → argsL.length = sig.parameters.length)
    (hstack : g.stack = argsL.reverse ++ .ref b :: rest) (hW : 2 * g.monitorRoom + (rest.map fun v => v.category).sum ≤ W9) (hdg : decode c.code g.pc = .ok (.invokevirtual index, 3))
    (hpre : ∀ vm₁, s.WarmedH vm₁ → Pre ⟨T.setVm vm₁, locs, cells, slots⟩ (Value.ref b :: argsL).toArray) :
    ∃ (v : Option Value) (vm₁ : Vm) (B : Pt), s.WarmedH vm₁ ∧ Stand p l e R s m args below meth c B.U B.locs B.cells B.slots ∧ Post ⟨T.setVm vm₁, locs, cells, slots⟩ (Value.ref b :: argsL).toArray v B ∧
      ∀ target, Steps p.tables e below (B.U.setTop { g with pc := g.pc + 3, stack := v.toList ++ rest }) target → Steps p.tables e below (T.setTop g) target := by
  obtain ⟨mk, methM, hnamed, hmethM, hstM, habM⟩ := Cond.instanceMethod_spec hinst
  obtain ⟨m8, methM', cM, hn8, hmethM', -, -, -, -, -, -, hsigM⟩ := Cond.codeWith_spec hcode
  cases Option.some.inj (hn8.symm.trans hnamed)
  cases hmethM.symm.trans hmethM'
  obtain ⟨c2, r2, m2, q1, q2, q3, q4, kP, hkP, hkPi⟩ := Cond.selects_spec hsel
  cases hcls.symm.trans q1
  cases (State.methodFound?_of_named hnamed hy).symm.trans q2
  cases hnamed.symm.trans q3
  have hselP : selectMethod e.platform s.vm cellB.cls mk = .method mk := by rw [Launch.admits_selectMethod X.admits]; exact q4
  obtain ⟨vm₁, X₁, hstep₁⟩ := X.invokevirtual hexec hown hlink hnamed hmethM hstM hkP hkPi hy (a := b) (cell := cellB) hcell
    (fun z h => by rw [h] at hobj; cases hobj) hselP hmethM habM hkP hkPi (g := g) hg (argsL := argsL) (rest := rest) (hlen _ hsigM) hstack hdg
  obtain ⟨v, B, X', hpost, hsteps⟩ := hK m meth c ⟨T.setVm vm₁, locs, cells, slots⟩ { g with stack := rest } (.invokevirtual index) mk (Value.ref b :: argsL).toArray X₁ hg hsize hdg hW (X₁.named hnamed) (hpre vm₁ X₁.warmed)
  exact ⟨v, vm₁, B, X₁.warmed, X', hpost, fun target h => hstep₁ _ fun acts => by rw [doInvoke_state]; exact hsteps.trans h⟩
abbrev vx_CVW (R : Room) (s : State) (args : Array Value) (own C : String) (index : Nat) (y : MethodName) (bytes : ByteArray) (maxL : Nat) (ret : Option FieldType) (hh : List (Nat × Nat × Nat × Nat)) (ws : List Cond) (rm : Room) (mc ms n : Nat) : Prop :=
  (rm.cells = mc ∧ rm.slots = ms ∧ rm.frames + 1 ≤ R.frames ∧ 8 + (maxL + 11) + rm.locals ≤ R.locals ∧ (∀ w ∈ ws, ∀ (a' : Array Value) (U : State), s.WarmedH U.vm → w.before a' U = true) ∧ Cond.codeWith y bytes maxL ret hh ∈ ws) ∧
  (Cond.codeWith y bytes maxL ret hh).before args s = true ∧ (Cond.initialized y.cls).before args s = true ∧ (y.cls ≠ "java/lang/invoke/MethodHandle" ∧ y.cls ≠ "java/lang/invoke/VarHandle") ∧
  (∀ sig, parseMethodDescriptor y.desc = some sig → n = sig.parameters.length) ∧ (Cond.methodLink own index y).before args s = true ∧ (Cond.instanceMethod y).before args s = true ∧ (Cond.selects C y y).before args s = true
theorem vx_cwVW {own C : String} {index maxL mc ms : Nat} {y : MethodName} {bytes : ByteArray} {ret : Option FieldType} {hh : List (Nat × Nat × Nat × Nat)} {Ts ws ws' : List Cond} {rm : Room} (n : Nat) (ht : ∀ w ∈ Ts, w.before args s = true) (hT : GoodIn Ts (wsV own index C y ws)) (hw : ws = Cond.codeWith y bytes maxL ret hh :: ws') (hrc : rm.cells = mc) (hrs : rm.slots = ms)
    (hd : y.cls = C ∧ y.cls ≠ "java/lang/invoke/MethodHandle" ∧ y.cls ≠ "java/lang/invoke/VarHandle" ∧ (parseMethodDescriptor y.desc).map (fun d => d.parameters.length) = some n) (hR : rm.frames + 1 ≤ R.frames ∧ 8 + (maxL + 11) + rm.locals ≤ R.locals) :
    vx_CVW R s args own C index y bytes maxL ret hh ws rm mc ms n := by
  obtain ⟨hC, hd⟩ := hd
  subst hC
  have ok : ∀ w ∈ wsV own index y.cls y ws, w.before args s = true := fun w h => ht w (hT w h).1
  have hG : GoodIn Ts ws := fun w h => hT w (by unfold wsV; exact List.mem_append_right _ h)
  have hc : Cond.codeWith y bytes maxL ret hh ∈ ws := by rw [hw]; exact List.mem_cons_self
  refine ⟨⟨hrc, hrs, hR.1, hR.2, pay_in ht hG, hc⟩, ht _ (hG _ hc).1, ok _ (by simp [wsV]), ⟨hd.1, hd.2.1⟩, fun sig h => ?_, ok _ (by simp [wsV]), ok _ (by simp [wsV]), ok _ (by simp [wsV])⟩
  have h2 := hd.2.2
  rw [h] at h2
  exact (Option.some.inj h2).symm
theorem vx_runVW {y : MethodName} {bytes cc : ByteArray} {maxL nL mc ms n index : Nat} {ret : Option FieldType} {hh : List (Nat × Nat × Nat × Nat)} {ws : List Cond} {rm : Room} {Pc : Array Value → State → Prop} {Qc : Array Value → State → Outcome → State → Prop} {free : Addr → Prop} {Ts : List Cond} {own C : String} {b : Addr} {As rest : List Value} {g : JFrame}
    (S : CallFix p m c cc nL s args Ts own) (hM : Met l y ws rm Pc Qc mc ms free) (cw : vx_CVW R s args own C index y bytes maxL ret hh ws rm mc ms n) (hp : PreV s H C b Pc As)
    (hg : g.method = m) (hn : As.length = n) (hsize : g.locals.size = nL) (hstack : g.stack = As.reverse ++ .ref b :: rest) (hW : 2 * g.monitorRoom + (rest.map fun v => v.category).sum ≤ 8) (hdg : decode cc g.pc = .ok (.invokevirtual index, 3)) (hf : cells + mc ≤ R.cells ∧ slots + ms ≤ R.slots) :
    va_Run p l e R s m args below meth c H locs cells slots mc ms g rest (Qc (Value.ref b :: As).toArray) free := by
  obtain ⟨⟨hrc, hrs, hfr, hlo, hws, hcw⟩, hcode, hini, hy, hlen, hl, hin, hse⟩ := cw
  have hK : Back l R p e below s args y 3 8 (PreOf R mc ms Pc) (PostOf Qc mc ms free) := va_backW (hh := hh) (bytes := bytes) (maxL := maxL) (ret := ret) hM hp.1 hrc hrs hfr hlo hws hcw (fun a' U hW => word_at hW (Or.inl (by first | rfl | simp [Cond.onTables, Cond.keeps, Cond.steady])) hini)
  obtain ⟨hx, hb, hml, ho, -⟩ := S
  obtain ⟨-, ⟨cellB, hcB, hoB, hclB⟩, hPc⟩ := hp
  intro T hT X
  obtain ⟨v, vm₁, ⟨U', l2, c2, s2⟩, hW₁, X', ⟨g', mk, t, L, e1, e2, hq, h1, hL, h2, h3⟩, st⟩ := vx_callVW X hx (C := C) (hh := hh) (bytes := bytes) (maxL := maxL) (ret := ret) ho hl hin hse hcode hy hK (by rw [hT]; exact hcB) hoB hclB hg (hsize.trans hml.symm) (argsL := As) (rest := rest) (fun sig h => hn.trans (hlen sig h)) hstack hW (by rw [hb]; exact hdg)
    (fun vm₁ hW₁ => ⟨hf.1, hf.2, hPc (T.setVm vm₁) hT hW₁⟩)
  dsimp only [Pt.U, Pt.locs, Pt.cells, Pt.slots] at X' e1 e2 h1 h2 h3 st
  subst h1; subst h2; subst h3
  exact ⟨v, (T.setVm vm₁).calling g' mk (Value.ref b :: As).toArray, t, U', L, hT, X', hL, e1, e2, hq, st⟩
section
variable {y : MethodName} {bytes cc : ByteArray} {maxL nL mc ms n index : Nat} {ret : Option FieldType} {ws : List Cond} {rm : Room} {Pc : Array Value → State → Prop} {Qc : Array Value → State → Outcome → State → Prop} {XC : String → State → State → Prop} {free : Addr → Prop} {Ts : List Cond} {own C : String} {b : Addr} {As rest : List Value} {g : JFrame}
theorem vx_runVX {hh : List (Nat × Nat × Nat × Nat)} (S : CallFix p m c cc nL s args Ts own) (hM : vx_Met l y ws rm Pc Qc XC mc ms free) (cw : vx_CVW R s args own C index y bytes maxL ret hh ws rm mc ms n) (hp : PreV s H C b Pc As)
    (hg : g.method = m) (hn : As.length = n) (hsize : g.locals.size = nL) (hstack : g.stack = As.reverse ++ .ref b :: rest) (hW : 2 * g.monitorRoom + (rest.map fun v => v.category).sum ≤ 8) (hdg : decode cc g.pc = .ok (.invokevirtual index, 3)) (hf : cells + mc ≤ R.cells ∧ slots + ms ≤ R.slots) :
    vx_Run p l e R s m args below meth c H locs cells slots mc ms g rest (Qc (Value.ref b :: As).toArray) XC free := by
  obtain ⟨⟨hrc, hrs, hfr, hlo, hws, hcw⟩, hcode, hini, hy, hlen, hl, hin, hse⟩ := cw
  have hK : vx_Back l R p e below s args y 3 8 (PreOf R mc ms Pc) (PostOf Qc mc ms free) (vx_Post XC mc ms free) := vx_backW (hh := hh) (bytes := bytes) (maxL := maxL) (ret := ret) hM hp.1 hrc hrs hfr hlo hws hcw (fun a' U hW => word_at hW (Or.inl (by first | rfl | simp [Cond.onTables, Cond.keeps, Cond.steady])) hini)
  obtain ⟨hx, hb, hml, ho, -⟩ := S
  obtain ⟨-, ⟨cellB, hcB, hoB, hclB⟩, hPc⟩ := hp
  intro T hT X
  rcases vx_callVX X hx (C := C) (hh := hh) (bytes := bytes) (maxL := maxL) (ret := ret) ho hl hin hse hcode hy hK (by rw [hT]; exact hcB) hoB hclB hg (hsize.trans hml.symm) (argsL := As) (rest := rest) (fun sig h => hn.trans (hlen sig h)) hstack hW (by rw [hb]; exact hdg)
    (fun vm₁ hW₁ => ⟨hf.1, hf.2, hPc (T.setVm vm₁) hT hW₁⟩) with ⟨v, vm₁, ⟨U', l2, c2, s2⟩, hW₁, X', ⟨g', mk, t, L, e1, e2, hq, h1, hL, h2, h3⟩, st⟩ | ⟨q, vm₁, ⟨U', l2, c2, s2⟩, hW₁, X', ⟨g', mk, t, L, E, ce, e1, e2, hq, hce, hcv, hcl, h1, hL, h2, h3⟩, st⟩
  · dsimp only [Pt.U, Pt.locs, Pt.cells, Pt.slots] at X' e1 e2 h1 h2 h3 st
    subst h1; subst h2; subst h3
    exact Or.inl ⟨v, (T.setVm vm₁).calling g' mk (Value.ref b :: As).toArray, t, U', L, hT, X', hL, e1, e2, hq, st⟩
  · dsimp only [Pt.U, Pt.locs, Pt.cells, Pt.slots] at X' e1 e2 h1 h2 h3 st hcl
    subst h1; subst h2; subst h3
    exact Or.inr ⟨q, (T.setVm vm₁).calling g' mk (Value.ref b :: As).toArray, t, U', L, E, ce, hT, X', hL, e1, e2, hq, hce, hcv, vx_cls hW₁ hcl, st⟩
theorem vx_runSX {hh : List (Nat × Nat × Nat × Nat)} (S : CallFix p m c cc nL s args Ts own) (hM : vx_Met l y ws rm Pc Qc XC mc ms free) (cw : vx_CSW R s args own index y bytes maxL ret hh ws rm mc ms n) (hp : PreS s H Pc As)
    (hg : g.method = m) (hn : As.length = n) (hsize : g.locals.size = nL) (hstack : g.stack = As.reverse ++ rest) (hW : 2 * g.monitorRoom + (rest.map fun v => v.category).sum ≤ 8) (hdg : decode cc g.pc = .ok (.invokestatic index, 3)) (hf : cells + mc ≤ R.cells ∧ slots + ms ≤ R.slots) :
    vx_Run p l e R s m args below meth c H locs cells slots mc ms g rest (Qc As.toArray) XC free := by
  obtain ⟨⟨hrc, hrs, hfr, hlo, hws, hcw⟩, hcode, hini, hy, hlen, hl, hstt⟩ := cw
  have hK : vx_Back l R p e below s args y 3 8 (PreOf R mc ms Pc) (PostOf Qc mc ms free) (vx_Post XC mc ms free) := vx_backW (hh := hh) (bytes := bytes) (maxL := maxL) (ret := ret) hM hp.1 hrc hrs hfr hlo hws hcw (fun a' U hW => word_at hW (Or.inl (by first | rfl | simp [Cond.onTables, Cond.keeps, Cond.steady])) hini)
  obtain ⟨hx, hb, hml, ho, -⟩ := S
  intro T hT X
  rcases vx_callSX X hx (hh := hh) (bytes := bytes) (maxL := maxL) (ret := ret) ho hl hstt hini hcode hy hK hg (hsize.trans hml.symm) (argsL := As) (rest := rest) (fun sig h => hn.trans (hlen sig h)) hstack hW (by rw [hb]; exact hdg)
    (fun vm₁ hW₁ => ⟨hf.1, hf.2, hp.2 (T.setVm vm₁) hT hW₁⟩) with ⟨v, vm₁, ⟨U', l2, c2, s2⟩, hW₁, X', ⟨g', mk, t, L, e1, e2, hq, h1, hL, h2, h3⟩, st⟩ | ⟨q, vm₁, ⟨U', l2, c2, s2⟩, hW₁, X', ⟨g', mk, t, L, E, ce, e1, e2, hq, hce, hcv, hcl, h1, hL, h2, h3⟩, st⟩
  · dsimp only [Pt.U, Pt.locs, Pt.cells, Pt.slots] at X' e1 e2 h1 h2 h3 st
    subst h1; subst h2; subst h3
    exact Or.inl ⟨v, (T.setVm vm₁).calling g' mk As.toArray, t, U', L, hT, X', hL, e1, e2, hq, st⟩
  · dsimp only [Pt.U, Pt.locs, Pt.cells, Pt.slots] at X' e1 e2 h1 h2 h3 st hcl
    subst h1; subst h2; subst h3
    exact Or.inr ⟨q, (T.setVm vm₁).calling g' mk As.toArray, t, U', L, E, ce, hT, X', hL, e1, e2, hq, hce, hcv, vx_cls hW₁ hcl, st⟩
end
end VXH
theorem vx_ofWH {l : Launch} {y : MethodName} {ws ws' : List Cond} {rm : Room} {Pc : Array Value → State → Prop} {Qc : Array Value → State → Outcome → State → Prop} {XC : String → State → State → Prop} {mc ms : Nat} {free : Addr → Prop} {cc : ByteArray} {maxL : Nat} {ret : Option FieldType} {hh : List (Nat × Nat × Nat × Nat)}
    (hy : plainName y.cls = true) (hw : ws = Cond.codeWith y cc maxL ret hh :: ws')
    (body : ∀ p e s m args below meth c s₁, BodyLoose p l y (headSpec ws rm) cc maxL ret e s m args below meth c s₁ → c.maxLocals = maxL → Pc args s →
      W p l e (headSpec ws rm).room s m args below meth c s.heap [] 0 0 (vx_MQ below Qc XC args s mc ms free) (entryFrame m args maxL)) : vx_Met l y ws rm Pc Qc XC mc ms free := by
  refine MetFree.of_bodyS (code := cc) (maxLocals := maxL) (ret := ret) hy ?_ ?_
  · intro args s m h hn
    obtain ⟨m9, meth, c, hn9, h1, h2, h3, h4, -, h5, h6, -⟩ := Cond.codeWith_spec (atoms_spec (ws := ws) h _ (by rw [hw]; exact List.mem_cons_self))
    cases hn.symm.trans hn9
    exact ⟨meth, c, h1, h2, h3, h4, h5, h6⟩
  · intro p e s m args below meth c s₁ B hml hP _
    have hh0 : s₁.heap = s.heap := by rw [B.state]; rfl
    obtain ⟨t, a1, o, b1, b2, b3⟩ := body p e s m args below meth c s₁ B hml hP s₁ hh0 (Stand.of_body B)
    exact ⟨t, o, a1, b1, b2, b3⟩
/-! ===== END ===== -/

/-! ===== BEGIN what the machine throws by itself, no traces kept ===== -/
section VXM
set_option maxHeartbeats 1000000 in
/-- the machine throws cls with the message text, no traces kept: from its note over the frame g to 'throwing' over the same frame (follows the proofs of Stand.vmThrowsMessage, Shelf/KitTracedVmS.lean, and Stand.throwsMessageColdBareV, StandMessageColdV.lean, without the step out of the frame) -/
theorem vx_vmAt {p : Program} {l : Launch} {e : Env} {R : Room} {s : State} {m₀ : MethodId} {args : Array Value} {below : List Frame} {meth : Method} {c : Code} {W : State} {locs : List Loc} {cells slots : Nat}
    (X : Stand p l e R s m₀ args below meth c W locs cells slots) (hexec : p.tables.exec = Jvm.exec) (htr : e.platform.stackTraces = false) {cls : String} {names : List String} {text : String}
    (hcls : Bundle.fit cls = true) (hnames : ∀ n ∈ names, Bundle.fit n = true) (hsoe : (cls == "java/lang/StackOverflowError") = false) (hoom : (cls == "java/lang/OutOfMemoryError") = false)
    (h : ∀ a ∈ Bundle.messageArmAtoms cls names, a.before args s = true)
    (hlocs : ∀ x ∈ locs, ∀ cell, s.heap[x.base]? = some cell → cell.vm.isStatics = false)
    (htext : (text == notModelled) = false) (hlimit : ¬ (stringBytes (stringToUtf16 text)).size > e.platform.arrayLengthLimit) (hheap : ¬ (stringBytes (stringToUtf16 text)).size * componentBytes .byte > e.platform.maxHeapBytes)
    {g : JFrame} (hg : g.method = m₀) (hsize : g.locals.size = c.maxLocals)
    (hRframes : names.length + 4 < R.frames) (hRlocals : 2 * g.monitorRoom + (g.stack.map fun v => v.category).sum + 10240 ≤ R.locals) (hshort : 13 * names.length + 55 ≤ 10240)
    (hRcells : cells + 3 ≤ R.cells) (hRslots : slots + ((stringBytes (stringToUtf16 text)).size + 4 + 6) ≤ R.slots) (hlocks : meth.locks = false) :
    ∃ (S : State) (q : Addr) (ce : Cell), (∀ target, Steps p.tables e below ((S.setTop g).pushFrame (.throwing q)) target → Steps p.tables e below ((W.setTop g).pushFrame (.throwNew cls (some text) none)) target) ∧
      Stand p l e R s m₀ args below meth c S locs (cells + 3) (slots + ((stringBytes (stringToUtf16 text)).size + 4 + 6)) ∧ S.heap[q]? = some ce ∧ s.vm.findClass cls = some ce.cls ∧ ce.vm = .none := by
  have howns : e.platform.frameOwnsMonitors = true := by rw [X.admits.platform]
  have hfin : e.platform.finalization = false := by rw [X.admits.platform]
  have hpl : e.platform.magicAccessors = ({} : Platform).magicAccessors := by rw [X.admits.platform]
  have a : ∀ x, x ∈ Bundle.messageArmAtoms cls names → x.holds args s none s [] = true := fun x hx => h x hx
  obtain ⟨T, Z0, L, -, Y⟩ := ThrowableC.of_atoms (args := args) howns hfin hpl (fun x hx => h x (by simp [Bundle.messageArmAtoms, hx]))
  obtain ⟨Z, M, LZ, LM, hnZ⟩ := Init0T.ofS_atoms (args := args) hpl L Y (fun x hx => h x (by simp [Bundle.messageArmAtoms, hx]))
  obtain ⟨P1, Ps, hlen, L1, hL, hP1m, hlink1, hlink⟩ := Bundle.chainS (args := args) hpl hnZ names cls hcls hnames (fun x hx => h x (by simp [Bundle.messageArmAtoms, hx]))
  obtain ⟨Zs, LZs, hn4, hfitv, hfitc⟩ := StringT.of_atoms (args := args) (fun x hx => h x (by simp [Bundle.messageArmAtoms, hx]))
  have hfound : s.vm.findClass cls = some P1.m.cls := findClass_of_methodNamed hP1m
  obtain ⟨c1, kX, hc1, hk, hord, -, -, hn6⟩ := Cond.instantiable_spec (a (.instantiable cls 6) (by simp [Bundle.messageArmAtoms]))
  cases Option.some.inj (hc1.symm.trans hfound)
  have hinit := Cond.initialized_spec hfound hk (a (.initialized cls) (by simp [Bundle.messageArmAtoms]))
  have hctor : kX.findMethod "<init>" "(Ljava/lang/String;)V" = some P1.m.idx := findMethod_of_methodNamed hP1m hk
  have hsel0 : selectMethod e.platform s.vm P1.m.cls T.fill0 = .method T.fill0 := by
    obtain ⟨c2, r2, m2, q1, q2, q3, q4, -⟩ := Cond.selects_spec (a (.selects cls Bundle.tFill0 Bundle.tFill0) (by simp [Bundle.messageArmAtoms]))
    cases Option.some.inj (q1.symm.trans hfound)
    cases Option.some.inj (q2.symm.trans (State.methodFound?_of_named Y.fill0 (by decide)))
    cases Option.some.inj (q3.symm.trans Y.fill0)
    rw [Launch.admits_selectMethod X.admits]; exact q4
  have hselF : selectMethod e.platform s.vm P1.m.cls T.fill = .method T.fill := by
    obtain ⟨c2, r2, m2, q1, q2, q3, q4, -⟩ := Cond.selects_spec (a (.selects cls Bundle.tFill Bundle.tFill) (by simp [Bundle.messageArmAtoms]))
    cases Option.some.inj (q1.symm.trans hfound)
    cases Option.some.inj (q2.symm.trans (State.methodFound?_of_named Y.fill (by decide)))
    cases Option.some.inj (q3.symm.trans Y.fill)
    rw [Launch.admits_selectMethod X.admits]; exact q4
  obtain ⟨cellS0, hcS0, hiss⟩ := Y.statics
  obtain ⟨u0, hu0⟩ := Cond.staticRefV Y.unassigned L.unassignedStatic L.statics hcS0 hiss (a (.isRef (.static Bundle.tN "UNASSIGNED_STACK" Bundle.steD)) (by simp [Bundle.messageArmAtoms]))
  obtain ⟨sen, hsen⟩ := Cond.staticRefV Y.sentinel L.sentinelStatic L.statics hcS0 hiss (a (.isRef (.static Bundle.tN "SUPPRESSED_SENTINEL" Bundle.listD)) (by simp [Bundle.messageArmAtoms]))
  obtain ⟨ci198, i198, fB, hk198, hg198, ha198, hsB, -, hnB, htB, hffB⟩ := Cond.ownField (t := .object "java/lang/Object") Y.found L.cls (by decide +kernel) (a (.fieldLink Bundle.tN 198 Bundle.tN "backtrace" "Ljava/lang/Object;") (by simp [Bundle.messageArmAtoms])) (a (.lays Bundle.tN Bundle.tN "backtrace" "Ljava/lang/Object;") (by simp [Bundle.messageArmAtoms])) e.platform hpl
  obtain ⟨cellS, hcS', heS, -, hkeep⟩ := X.same.2.2.2.2.2 T.aS cellS0 hcS0
  have hcellS : W.heap[T.aS]? = some cellS := hcS'
  have hout' : ∀ i, (⟨T.aS, i⟩ : Loc) ∉ locs := fun i hmem => by
    have := hlocs _ hmem cellS0 hcS0
    rw [hiss] at this; cases this
  have hknownS : cellS.vm ≠ .unknown := by
    rw [heS]; intro hu
    rw [show cellS0.vm = .unknown from hu] at hiss
    cases hiss
  have hvU : cellS.slots[T.fUnassigned.slot]? = some u0.v := by rw [hkeep _ (hout' _)]; exact hu0
  have hvSen : cellS.slots[T.fSentinel.slot]? = some sen.v := by rw [hkeep _ (hout' _)]; exact hsen
  obtain ⟨iM, hffM⟩ := Y.msg
  obtain ⟨tyC, dC, hdC, hdnC⟩ := Cond.laysAt hfound hk Y.cause (a (.lays cls Bundle.tN "cause" "Ljava/lang/Throwable;") (by simp [Bundle.messageArmAtoms]))
  obtain ⟨tyS, dS, hdS, hdnS⟩ := Cond.laysAt hfound hk Y.stack (a (.lays cls Bundle.tN "stackTrace" Bundle.steD) (by simp [Bundle.messageArmAtoms]))
  obtain ⟨tyP, dP, hdP, hdnP⟩ := Cond.laysAt hfound hk Y.supp (a (.lays cls Bundle.tN "suppressedExceptions" Bundle.listD) (by simp [Bundle.messageArmAtoms]))
  obtain ⟨tyM, dM, hdM, hdnM⟩ := Cond.laysAt hfound hk hffM (a (.lays cls Bundle.tN "detailMessage" "Ljava/lang/String;") (by simp [Bundle.messageArmAtoms]))
  obtain ⟨tyB, dB, hdB, hdnB⟩ := Cond.laysAt hfound hk hffB (a (.lays cls Bundle.tN "backtrace" "Ljava/lang/Object;") (by simp [Bundle.messageArmAtoms]))
  have bC := Cond.laysApart hdB hdC hdnB hdnC (by rw [hnB, Y.causeName]; decide)
  have bS := Cond.laysApart hdB hdS hdnB hdnS (by rw [hnB, Y.stackName]; decide)
  have bP := Cond.laysApart hdB hdP hdnB hdnP (by rw [hnB, Y.suppName]; decide)
  have hbk : ((preparedCellV T.toThrowableT (freshCell P1.m.cls kX) (W.heap.size + 2) u0 sen).withEntry W.cur).slots[fB.slot]? = some .null := by
    have := fresh_default (c := P1.m.cls) tyB
    rw [htB] at this
    simpa [preparedCellV, Cell.setSlot, Cell.withEntry, Array.getElem?_setIfInBounds, bC, bS, bP, bC.symm, bS.symm, bP.symm, defaultValue] using this
  have tkC := Takes.of_laid (v := .ref (W.heap.size + 2)) hk hord tyC (by rw [Y.causeType]; rfl)
  have tkS := Takes.of_laid (v := u0.v) hk hord tyS (by rw [Y.stackType]; exact fits_refV_array _ u0)
  have tkP := Takes.of_laid (v := sen.v) hk hord tyP (by rw [Y.suppType]; exact fits_refV_object _ sen)
  have tkM := Takes.of_laid (v := .ref (W.heap.size + 1)) hk hord tyM (by rw [Y.msgType]; rfl)
  have hskip : SkipFacts T e.platform s (fun u => u) u0 ((preparedCellV T.toThrowableT (freshCell P1.m.cls kX) (W.heap.size + 2) u0 sen).withEntry W.cur) := ⟨{ ci198 := ci198, i198 := i198, fBack := fB }, ⟨hk198, hg198, ha198, hsB⟩, hbk, fun _ _ => rfl⟩
  have h0 : At W g.method c below := by rw [hg]; exact X.here
  obtain ⟨hbeyond, hfreeW⟩ := X.vmMayThrow hsize (.throwNew cls (some text) none) (fun f hf => by cases hf) rfl hRlocals
  have hfr' : W.frames.length + Ps.length + 4 < (e.platform.stackLimits W.me).1 := by have := X.framesAbove hRframes; omega
  have hwd' : (stackUse (.java g :: W.frames.tail)).2 + 13 * Ps.length + 55 ≤ (e.platform.stackLimits W.me).2 := by have := X.stackAbove hsize (K := 13 * Ps.length + 55) (by omega); omega
  have hslots : W.slotsUsed + (stringBytes (stringToUtf16 text)).size + Zs.kS.instanceTypes.size + kX.instanceTypes.size ≤ e.platform.maxSlots := by
    have := X.slotsAbove hRslots
    rw [hn4, hn6]
    omega
  obtain ⟨vm', hW', st⟩ := Steps.vmThrowsMessageColdByV p (s₀ := s) (S := W) (g := g) h0 hexec T L Z LZ M LM X.warmed (t := W.cur) rfl Zs LZs P1 L1 Ps hL hlink1 hlink hsoe hoom hfound hk hinit hord hctor
    (Launch.admits_hotImplicitExceptions X.admits) hbeyond hfreeW htext hlimit hheap (X.cellsAbove hRcells) hslots (hfitv _) (hfitc _)
    (Nn := fun u => u) heapOnly_id (fun _ _ => rfl) (fun _ => rfl) (fun u x y => setCell_twice _ _ _ _) (fun _ => Nat.le_refl _) (cN := ((preparedCellV T.toThrowableT (freshCell P1.m.cls kX) (W.heap.size + 2) u0 sen).withEntry W.cur))
    hsel0 hcellS hknownS hvU tkS (fun _ hu => hu) (fun _ hu => hu) rfl rfl rfl (by simp [preparedCellV, Cell.setSlot, Cell.withEntry]) hskip (fun _ _ hA hW _ hroom _ hrest => L.nativeOff p htr hA hW hroom hrest) hselF hvSen tkC tkP tkM Y.objLocals rfl hfr' hwd'
  rw [plainBareV_eq T.toThrowableT (W.heap.size + 2) u0 sen (.ref (W.heap.size + 1)) W.cur rfl rfl] at st
  obtain ⟨-, -, w3, w4, -, -, -⟩ := withThrown_facts e.platform W Zs text P1.m.cls kX
  have X3 := ((X.pushed (bytesOf Zs.cB (stringToUtf16 text))).pushed (stringAt Zs.cS Zs.kS Zs.fv Zs.fc (stringToUtf16 text) W.heap.size)).pushed (freshCell P1.m.cls kX)
  rw [← withString_eq] at X3
  have X4 := X3.noted hW'
  have ha : (W.heap.size + 2) < ((withThrown W Zs text P1.m.cls kX).setVm vm').heap.size := by show _ < (withThrown W Zs text P1.m.cls kX).heap.size; rw [w3]; omega
  have hcell : ((withThrown W Zs text P1.m.cls kX).setVm vm').heap[(W.heap.size + 2)]? = some (freshCell P1.m.cls kX) := w4
  have X5 := ((((X4.stored hcell T.fCause.slot (.ref (W.heap.size + 2))).storedAgain ha T.fStack.slot u0.v).storedAgain ha T.fSupp.slot sen.v).storedAgain ha T.fStack.slot u0.v).storedAgain ha T.fMsg.slot (.ref (W.heap.size + 1))
  obtain ⟨g₁, hfrM⟩ := X5.frames_eq
  have hU : ((((withThrown W Zs text P1.m.cls kX).setVm vm').setCell (W.heap.size + 2) (plainBareV T.toThrowableT (freshCell P1.m.cls kX) (W.heap.size + 2) u0 sen (.ref (W.heap.size + 1)))).setTop g).pushFrame (.throwing (W.heap.size + 2)) = (((withThrown W Zs text P1.m.cls kX).setVm vm').setCell (W.heap.size + 2) (plainBareV T.toThrowableT (freshCell P1.m.cls kX) (W.heap.size + 2) u0 sen (.ref (W.heap.size + 1)))).setFrames (.throwing (W.heap.size + 2) :: .java g :: below) := by
    rw [State.pushFrame, State.frames_setTop _ hfrM, State.setTop_of_frames _ hfrM, State.setFrames_setFrames]
  have b1 : (bytesOf Zs.cB (stringToUtf16 text)).slots.size = (stringBytes (stringToUtf16 text)).size := by
    rw [(Cell.writeAll_facts _ _).2.2]; simp [bytes0]
  have b2 : (stringAt Zs.cS Zs.kS Zs.fv Zs.fc (stringToUtf16 text) W.heap.size).slots.size = 4 := by simp [string0, Cell.setSlot, hn4]
  have b3 : (freshCell P1.m.cls kX).slots.size = 6 := by simp [hn6]
  rw [b1, b2, b3] at X5
  have e9 : slots + (stringBytes (stringToUtf16 text)).size + 4 + 6 = slots + ((stringBytes (stringToUtf16 text)).size + 4 + 6) := by omega
  rw [e9] at X5
  simp only [List.append_assoc, List.cons_append, List.nil_append] at X5
  refine ⟨((withThrown W Zs text P1.m.cls kX).setVm vm').setCell (W.heap.size + 2) (plainBareV T.toThrowableT (freshCell P1.m.cls kX) (W.heap.size + 2) u0 sen (.ref (W.heap.size + 1))), W.heap.size + 2, _, fun target ht => st _ (by rw [X.tail, ← hU]; exact ht),
    X5.forget (fun y hy => ?_), heapAt_setCell_self _ ha, hfound, rfl⟩
  simp only [List.mem_cons, List.not_mem_nil, or_false] at hy
  have hge : s.heap.size ≤ W.heap.size := X.same.2.1
  rcases hy with rfl | rfl | rfl | rfl | rfl <;> exact Nat.le_trans hge (Nat.le_add_right _ 2)
set_option maxHeartbeats 1000000 in
/-- the machine throws NullPointerException, no traces kept: from its note over the frame g to 'throwing' over the same frame (follows the proof of Stand.vmThrowsNpe, Shelf42/KT2.lean; throwsNpeColdBareVAt, Shelf42/NT91.lean, called) -/
theorem vx_npeAt {p : Program} {l : Launch} {e : Env} {R : Room} {s : State} {m₀ : MethodId} {args : Array Value} {below : List Frame} {meth : Method} {c : Code} {W : State} {locs : List Loc} {cells slots : Nat}
    (X : Stand p l e R s m₀ args below meth c W locs cells slots) (hexec : p.tables.exec = Jvm.exec) (htr : e.platform.stackTraces = false) {n : Nat}
    (h : ∀ a ∈ Bundle.npeArmAtoms n, a.before args s = true)
    (hlocs : ∀ x ∈ locs, ∀ cell, s.heap[x.base]? = some cell → cell.vm.isStatics = false)
    {g : JFrame} (hg : g.method = m₀) (hsize : g.locals.size = c.maxLocals)
    (hRframes : 7 < R.frames) (hRlocals : 2 * g.monitorRoom + (g.stack.map fun v => v.category).sum + 10240 ≤ R.locals)
    (hRcells : cells + 1 ≤ R.cells) (hRslots : slots + n ≤ R.slots) (hlocks : meth.locks = false) :
    ∃ (S : State) (q : Addr) (ce : Cell), (∀ target, Steps p.tables e below ((S.setTop g).pushFrame (.throwing q)) target → Steps p.tables e below ((W.setTop g).pushFrame (.throwNew "java/lang/NullPointerException" none none)) target) ∧
      Stand p l e R s m₀ args below meth c S locs (cells + 1) (slots + n) ∧ S.heap[q]? = some ce ∧ s.vm.findClass "java/lang/NullPointerException" = some ce.cls ∧ ce.vm = .none := by
  have howns : e.platform.frameOwnsMonitors = true := by rw [X.admits.platform]
  have hfin : e.platform.finalization = false := by rw [X.admits.platform]
  have hpl : e.platform.magicAccessors = ({} : Platform).magicAccessors := by rw [X.admits.platform]
  have hpl2 : e.platform.arrayCloneIsPublic = true := by rw [X.admits.platform]
  have a' : ∀ x, x ∈ Bundle.npeArmAtoms n → x.holds args s none s [] = true := fun x hx => h x hx
  obtain ⟨T, Z, L, LZ, Y⟩ := ThrowableC.of_atoms (args := args) howns hfin hpl (fun x hx => h x (by simp [Bundle.npeArmAtoms, hx]))
  obtain ⟨N, LN, hcN, hnNF, hordN, hffS⟩ := NpeC.of_atoms (args := args) hpl hpl2 L Y (fun x hx => h x (by simp [Bundle.npeArmAtoms, hx]))
  obtain ⟨P1, L1, hP1m, hP1s⟩ := PassC.of_atoms (args := args) (s := s) hpl (X := Bundle.nN) (Y := Bundle.rN) (by decide) (by decide) LibCode.NullPointerException.Init0.at_0 LibCode.NullPointerException.Init0.at_1 LibCode.NullPointerException.Init0.at_4 (fun x hx => h x (by simp [Bundle.npeArmAtoms, hx]))
  obtain ⟨PR, LR, hPRm, hPRs⟩ := PassC.of_atoms (args := args) (s := s) hpl (X := Bundle.rN) (Y := Bundle.eN) (by decide) (by decide) LibCode.RuntimeException.Init0.at_0 LibCode.RuntimeException.Init0.at_1 LibCode.RuntimeException.Init0.at_4 (fun x hx => h x (by simp [Bundle.npeArmAtoms, hx]))
  obtain ⟨PE, LEx, hPEm, hPEs⟩ := PassC.of_atoms (args := args) (s := s) hpl (X := Bundle.eN) (Y := Bundle.tN) (by decide) (by decide) LibCode.Exception.Init0.at_0 LibCode.Exception.Init0.at_1 LibCode.Exception.Init0.at_4 (fun x hx => h x (by simp [Bundle.npeArmAtoms, hx]))
  have hfound : s.vm.findClass Bundle.nN = some P1.m.cls := findClass_of_methodNamed hP1m
  have ecls : N.cN = P1.m.cls := Option.some.inj (hcN.symm.trans hfound)
  have hk : s.vm.classes[P1.m.cls]? = some N.kN := by rw [← ecls]; exact LN.cls
  have hinit := Cond.initialized_spec hfound hk (a' (.initialized Bundle.nN) (by simp [Bundle.npeArmAtoms]))
  have hctor : N.kN.findMethod "<init>" "()V" = some P1.m.idx := findMethod_of_methodNamed hP1m hk
  obtain ⟨c1, k1, hc1, hk1, -, -, -, hn⟩ := Cond.instantiable_spec (a' (.instantiable Bundle.nN n) (by simp [Bundle.npeArmAtoms]))
  cases Option.some.inj (hc1.symm.trans hfound)
  cases Option.some.inj (hk1.symm.trans hk)
  have hfsz : (freshCell P1.m.cls N.kN).slots.size = n := by simp [hn]
  have hlink1 : P1.sup = PR.m := Option.some.inj (hP1s.symm.trans hPRm)
  have hlinkR : PR.sup = PE.m := Option.some.inj (hPRs.symm.trans hPEm)
  have hlinkE : PE.sup = Z.m T.toThrowableT := Option.some.inj (hPEs.symm.trans Y.init0)
  have hLs : ∀ P, P ∈ [PR, PE] → P.Links0 e.platform s := fun P hP => by
    simp only [List.mem_cons, List.not_mem_nil, or_false] at hP
    rcases hP with rfl | rfl
    · exact LR
    · exact LEx
  have hsel0 : selectMethod e.platform s.vm P1.m.cls T.fill0 = .method T.fill0 := by
    obtain ⟨c2, r2, m2, q1, q2, q3, q4, -⟩ := Cond.selects_spec (a' (.selects Bundle.nN Bundle.tFill0 Bundle.tFill0) (by simp [Bundle.npeArmAtoms]))
    cases Option.some.inj (q1.symm.trans hfound)
    cases Option.some.inj (q2.symm.trans (State.methodFound?_of_named Y.fill0 (by decide)))
    cases Option.some.inj (q3.symm.trans Y.fill0)
    rw [Launch.admits_selectMethod X.admits]; exact q4
  have hselF : selectMethod e.platform s.vm P1.m.cls T.fill = .method N.fill := by
    obtain ⟨c2, r2, m2, q1, q2, q3, q4, -⟩ := Cond.selects_spec (a' (.selects Bundle.nN Bundle.tFill Bundle.nFill) (by simp [Bundle.npeArmAtoms]))
    cases Option.some.inj (q1.symm.trans hfound)
    cases Option.some.inj (q2.symm.trans (State.methodFound?_of_named Y.fill (by decide)))
    cases Option.some.inj (q3.symm.trans hnNF)
    rw [Launch.admits_selectMethod X.admits]; exact q4
  obtain ⟨cellS0, hcS0, hiss⟩ := Y.statics
  obtain ⟨u0, hu0⟩ := Cond.staticRefV Y.unassigned L.unassignedStatic L.statics hcS0 hiss (a' (.isRef (.static Bundle.tN "UNASSIGNED_STACK" Bundle.steD)) (by simp [Bundle.npeArmAtoms]))
  obtain ⟨sen, hsen⟩ := Cond.staticRefV Y.sentinel L.sentinelStatic L.statics hcS0 hiss (a' (.isRef (.static Bundle.tN "SUPPRESSED_SENTINEL" Bundle.listD)) (by simp [Bundle.npeArmAtoms]))
  obtain ⟨ci198, i198, fB, hk198, hg198, ha198, hsB, -, hnB, htB, hffB⟩ := Cond.ownField (t := .object "java/lang/Object") Y.found L.cls (by decide +kernel) (a' (.fieldLink Bundle.tN 198 Bundle.tN "backtrace" Bundle.objD) (by simp [Bundle.npeArmAtoms])) (a' (.lays Bundle.tN Bundle.tN "backtrace" Bundle.objD) (by simp [Bundle.npeArmAtoms])) e.platform hpl
  obtain ⟨cellS, hcS', heS, -, hkeep⟩ := X.same.2.2.2.2.2 T.aS cellS0 hcS0
  have hcellS : W.heap[T.aS]? = some cellS := hcS'
  have hout' : ∀ i, (⟨T.aS, i⟩ : Loc) ∉ locs := fun i hmem => by
    have := hlocs _ hmem cellS0 hcS0
    rw [hiss] at this; cases this
  have hknownS : cellS.vm ≠ .unknown := by
    rw [heS]; intro hu
    rw [show cellS0.vm = .unknown from hu] at hiss
    cases hiss
  have hvU : cellS.slots[T.fUnassigned.slot]? = some u0.v := by rw [hkeep _ (hout' _)]; exact hu0
  have hvSen : cellS.slots[T.fSentinel.slot]? = some sen.v := by rw [hkeep _ (hout' _)]; exact hsen
  obtain ⟨tyC, dC, hdC, hdnC⟩ := Cond.laysAt hfound hk Y.cause (a' (.lays Bundle.nN Bundle.tN "cause" "Ljava/lang/Throwable;") (by simp [Bundle.npeArmAtoms]))
  obtain ⟨tyS, dS, hdS, hdnS⟩ := Cond.laysAt hfound hk Y.stack (a' (.lays Bundle.nN Bundle.tN "stackTrace" Bundle.steD) (by simp [Bundle.npeArmAtoms]))
  obtain ⟨tyP, dP, hdP, hdnP⟩ := Cond.laysAt hfound hk Y.supp (a' (.lays Bundle.nN Bundle.tN "suppressedExceptions" Bundle.listD) (by simp [Bundle.npeArmAtoms]))
  obtain ⟨tyX, dX, hdX, hdnX⟩ := Cond.laysAt hfound hk hffS (a' (.lays Bundle.nN Bundle.nN "extendedMessageState" "I") (by simp [Bundle.npeArmAtoms, Bundle.npeAtoms]))
  obtain ⟨hnX, htX⟩ := State.fieldFound?_type hffS (t := .int) (by decide +kernel)
  have xC := Cond.laysApart hdC hdX hdnC hdnX (by rw [hnX, Y.causeName]; decide)
  have xS := Cond.laysApart hdS hdX hdnS hdnX (by rw [hnX, Y.stackName]; decide)
  have xP := Cond.laysApart hdP hdX hdnP hdnX (by rw [hnX, Y.suppName]; decide)
  have hv0 : (freshCell P1.m.cls N.kN).slots[N.fState.slot]? = some (.int 0) := by
    have := fresh_default (c := P1.m.cls) tyX
    rw [htX] at this; exact this
  obtain ⟨tyB, dB, hdB, hdnB⟩ := Cond.laysAt hfound hk hffB (a' (.lays Bundle.nN Bundle.tN "backtrace" Bundle.objD) (by simp [Bundle.npeArmAtoms]))
  have bC := Cond.laysApart hdB hdC hdnB hdnC (by rw [hnB, Y.causeName]; decide)
  have bS := Cond.laysApart hdB hdS hdnB hdnS (by rw [hnB, Y.stackName]; decide)
  have bP := Cond.laysApart hdB hdP hdnB hdnP (by rw [hnB, Y.suppName]; decide)
  have bX := Cond.laysApart hdB hdX hdnB hdnX (by rw [hnB, hnX]; decide)
  have hbk : ((npeCell N.toNpeT (preparedCellV T.toThrowableT (freshCell P1.m.cls N.kN) W.heap.size u0 sen) W.cur).withEntry W.cur).slots[fB.slot]? = some .null := by
    have := fresh_default (c := P1.m.cls) tyB
    rw [htB] at this
    simpa [npeCell, preparedCellV, Cell.setSlot, Cell.withEntry, Array.getElem?_setIfInBounds, bC, bS, bP, bX, bC.symm, bS.symm, bP.symm, bX.symm, defaultValue] using this
  have tkC := Takes.of_laid (v := .ref W.heap.size) hk hordN tyC (by rw [Y.causeType]; rfl)
  have tkS := Takes.of_laid (v := u0.v) hk hordN tyS (by rw [Y.stackType]; exact fits_refV_array _ u0)
  have tkP := Takes.of_laid (v := sen.v) hk hordN tyP (by rw [Y.suppType]; exact fits_refV_object _ sen)
  have tkX := Takes.of_laid (v := .int 1) hk hordN tyX (by rw [htX]; rfl)
  have hskip : SkipFacts T e.platform s (fun u => u) u0 ((npeCell N.toNpeT (preparedCellV T.toThrowableT (freshCell P1.m.cls N.kN) W.heap.size u0 sen) W.cur).withEntry W.cur) := ⟨{ ci198 := ci198, i198 := i198, fBack := fB }, ⟨hk198, hg198, ha198, hsB⟩, hbk, fun _ _ => rfl⟩
  obtain ⟨vm', X3, st, -⟩ := X.throwsNpeColdBareVAt hexec hg hsize T L Z LZ N LN P1 L1 [PR, PE] hLs hlink1 ⟨hlinkR, hlinkE, trivial⟩ hfound hk hinit hordN hctor hsel0 hselF hcellS hknownS hvU hvSen
    hv0 xC xS xP tkC tkS tkP tkX Y.objLocals hskip (fun _ _ hA hW _ hroom _ hrest => L.nativeOff p htr hA hW hroom hrest) (by simpa using hRframes) hRlocals (by simp) hRcells (by rw [hn]; exact hRslots)
  have hlt : W.heap.size < ((W.pushCell (freshCell P1.m.cls N.kN)).setVm vm').heap.size := by
    show W.heap.size < (W.pushCell (freshCell P1.m.cls N.kN)).heap.size
    rw [State.heap_size_pushCell]; omega
  rw [hfsz] at X3
  obtain ⟨g₁, hfrM⟩ := X3.frames_eq
  have hU : ((((W.pushCell (freshCell P1.m.cls N.kN)).setVm vm').setCell W.heap.size (npeBareV T.toThrowableT N.toNpeT (freshCell P1.m.cls N.kN) W.heap.size u0 sen)).setTop g).pushFrame (.throwing W.heap.size) = (((W.pushCell (freshCell P1.m.cls N.kN)).setVm vm').setCell W.heap.size (npeBareV T.toThrowableT N.toNpeT (freshCell P1.m.cls N.kN) W.heap.size u0 sen)).setFrames (.throwing W.heap.size :: .java g :: below) := by
    rw [State.pushFrame, State.frames_setTop _ hfrM, State.setTop_of_frames _ hfrM, State.setFrames_setFrames]
  refine ⟨_, W.heap.size, _, fun target ht => st.trans (by rw [← hU]; exact ht), X3.forget (fun y hy => ?_), heapAt_setCell_self _ hlt, hfound, rfl⟩
  simp only [List.mem_cons, List.not_mem_nil, or_false] at hy
  have hge : s.heap.size ≤ W.heap.size := X.same.2.1
  rcases hy with rfl | rfl | rfl | rfl | rfl <;> exact hge
/-- the words of a machine's NullPointerException, but the four that speak of the heap -/
def vx_atN (n : Nat) : List Cond := (Bundle.npeArmAtoms n).filter vx_no
/-- the words of a machine's throw with a message, but the four that speak of the heap -/
def vx_atM (X : String) (names : List String) : List Cond := (Bundle.messageArmAtoms X names).filter vx_no
section
variable {p : Program} {l : Launch} {e : Env} {R : Room} {s : State} {m : MethodId} {args : Array Value} {below : List Frame} {meth : Method} {c : Code} {H : Heap} {locs : List Loc} {cells slots : Nat}
/-- a frame seen from a rebased start, seen from the first start again -/
theorem vx_back9 {T S : State} {R' : Room} {k n : Nat} (X : Stand p l e R s m args below meth c T locs cells slots) (Y : Stand p l e R' ((T.setVm s.vm).setFrames (.invoking m args :: below)) m args below meth c T [] 0 0) (Z : Stand p l e R' ((T.setVm s.vm).setFrames (.invoking m args :: below)) m args below meth c S [] k n) :
    Stand p l e R s m args below meth c S locs (cells + k) (slots + n) := by
  have hW0 : s.WarmedH ((T.setVm s.vm).setFrames (.invoking m args :: below)).vm := State.WarmedH.refl s
  refine { admits := X.admits, cas := X.cas, clock := X.clock, frames := X.frames, room := X.room, hears := X.hears, method := X.method, code := X.code, here := Z.here, tail := Z.tail, warmed := State.WarmedH.trans hW0 Z.warmed, limits := Z.limits.trans (Y.limits.symm.trans X.limits), bytes := Z.bytes.trans (Y.bytes.symm.trans X.bytes), same := ?_ }
  obtain ⟨e1, e2⟩ := Z.same
  rw [State.setFrames_setFrames] at e1
  have h2 : (T.setVm s.vm).sameButNew (S.setVm s.vm) [] k n := ⟨e1, e2⟩
  have h3 := X.same.trans h2
  rw [List.append_nil] at h3
  exact h3
/-- from the machine's note that E is thrown here with this text -/
def vx_Note (p : Program) (l : Launch) (e : Env) (R : Room) (s : State) (m : MethodId) (args : Array Value) (below : List Frame) (meth : Method) (c : Code) (H : Heap) (locs : List Loc) (cells slots : Nat) (Q : State → Prop) (g : JFrame) (E text : String) : Prop :=
  ∀ T : State, T.heap = H → Stand p l e R s m args below meth c T locs cells slots → ∃ t, Steps p.tables e below ((T.setTop g).pushFrame (.throwNew E (some text) none)) t ∧ Q t
theorem vx_vm {pc : Nat} {ls : Array Slot} {rest : List Value} {Q : State → Prop} (hexec : p.tables.exec = Jvm.exec) (hl : l.stackTraces = false) {cls text : String} {names : List String} {nb : Nat} {A : Nat → Prop}
    (hcls : Bundle.fit cls = true) (hnames : ∀ n ∈ names, Bundle.fit n = true) (hsoe : (cls == "java/lang/StackOverflowError") = false) (hoom : (cls == "java/lang/OutOfMemoryError") = false)
    (hat : ∀ w ∈ vx_atM cls names, w.before args s = true) (hgood : ∀ w ∈ vx_atM cls names, vx_ot w = true)
    (hU : vx_Zq Bundle.tN "UNASSIGNED_STACK" Bundle.steD A s s.heap) (hN : vx_Zq Bundle.tN "SUPPRESSED_SENTINEL" Bundle.listD A s s.heap) (hS : va_S A s.heap H locs) (hsize : ls.size = c.maxLocals)
    (htext : (text == notModelled) = false) (hnb : (stringBytes (stringToUtf16 text)).size ≤ nb) (hnb1 : nb ≤ 1000)
    (hRframes : names.length + 4 < R.frames) (hRlocals : (rest.map fun v => v.category).sum + 10240 ≤ R.locals) (hshort : 13 * names.length + 55 ≤ 10240) (hRcells : cells + 3 ≤ R.cells) (hRslots : slots + (nb + 10) ≤ R.slots) (hlocks : meth.locks = false)
    (k : ∀ (H1 : Heap) (q9 : Addr) (ce : Cell), H.size ≤ H1.size → (∀ q : Nat, q < H.size → H1[q]? = H[q]?) → va_S A s.heap H1 locs → H1[q9]? = some ce → ce.vm = .none → s.vm.findClass cls = some ce.cls → vx_W p l e R s m args below meth c H1 locs (cells + 3) (slots + (nb + 10)) Q (F0 m pc ls rest) q9) :
    vx_Note p l e R s m args below meth c H locs cells slots Q (F0 m pc ls rest) cls text := by
  intro T hT X
  have htr : e.platform.stackTraces = false := (show e.platform.stackTraces = l.stackTraces by rw [X.admits.platform]).trans hl
  have Y := vx_rebase X (R' := { frames := R.frames, locals := R.locals, cells := 3, slots := nb + 10 }) (Nat.le_refl _) (Nat.le_refl _) hRcells hRslots
  have hhp : ((T.setVm s.vm).setFrames (.invoking m args :: below)).heap = H := hT
  have hW0 : s.WarmedH ((T.setVm s.vm).setFrames (.invoking m args :: below)).vm := State.WarmedH.refl s
  have hat' : ∀ w ∈ vx_atM cls names, w.before args ((T.setVm s.vm).setFrames (.invoking m args :: below)) = true := fun w hw => vx_ot_at hW0 rfl (hgood w hw) (hat w hw)
  have hU' : vx_Zq Bundle.tN "UNASSIGNED_STACK" Bundle.steD A ((T.setVm s.vm).setFrames (.invoking m args :: below)) ((T.setVm s.vm).setFrames (.invoking m args :: below)).heap := by rw [hhp]; exact vx_Zq.moved hW0.alike (hU.kept hS.2.1)
  have hN' : vx_Zq Bundle.tN "SUPPRESSED_SENTINEL" Bundle.listD A ((T.setVm s.vm).setFrames (.invoking m args :: below)) ((T.setVm s.vm).setFrames (.invoking m args :: below)).heap := by rw [hhp]; exact vx_Zq.moved hW0.alike (hN.kept hS.2.1)
  obtain ⟨S, q, ce, st, Z, hce, hcl', hv⟩ := vx_vmAt Y hexec htr (cls := cls) (names := names) (text := text) hcls hnames hsoe hoom (vx_own hat' (vx_isRefq hU'.1) (vx_isRefq hN'.1) hU'.2.word hN'.2.word) (fun x hx => nomatch hx) htext
    (by rw [Launch.admits_arrayLengthLimit X.admits]; omega) (by rw [Launch.admits_maxHeapBytes X.admits]; simp only [componentBytes]; omega)
    (g := F0 m pc ls rest) rfl hsize hRframes (by show 2 * 0 + (rest.map fun v => v.category).sum + 10240 ≤ R.locals; omega) hshort (by show 0 + 3 ≤ 3; omega) (by show 0 + (_ + 4 + 6) ≤ nb + 10; omega) hlocks
  obtain ⟨f1, f2⟩ := vx_frame Z.same
  have f1' : H.size ≤ S.heap.size := by rw [← hT]; exact f1
  have f2' : ∀ q : Nat, q < H.size → S.heap[q]? = H[q]? := fun q hq => by
    rw [← hT]
    exact f2 q (by rw [← hT] at hq; exact hq) (fun z hz => nomatch hz)
  have X5 := vx_back9 X Y Z
  have X6 : Stand p l e R s m args below meth c S locs (cells + 3) (slots + (nb + 10)) := { X5 with same := X5.same.mono (by omega) (by omega) }
  obtain ⟨t, a1, b1⟩ := k S.heap q ce f1' f2' ⟨Nat.le_trans hS.1 f1', fun q h1 h2 => (f2' q (Nat.lt_of_lt_of_le h1 hS.1)).trans (hS.2.1 q h1 h2), hS.2.2⟩ hce hv hcl' S rfl X6
  exact ⟨t, st t a1, b1⟩
/-- from the machine's note that NullPointerException is thrown here -/
def vx_NoteN (p : Program) (l : Launch) (e : Env) (R : Room) (s : State) (m : MethodId) (args : Array Value) (below : List Frame) (meth : Method) (c : Code) (H : Heap) (locs : List Loc) (cells slots : Nat) (Q : State → Prop) (g : JFrame) : Prop :=
  ∀ T : State, T.heap = H → Stand p l e R s m args below meth c T locs cells slots → ∃ t, Steps p.tables e below ((T.setTop g).pushFrame (.throwNew "java/lang/NullPointerException" none none)) t ∧ Q t
theorem vx_npe {pc : Nat} {ls : Array Slot} {rest : List Value} {Q : State → Prop} (hexec : p.tables.exec = Jvm.exec) (hl : l.stackTraces = false) {nb : Nat} {A : Nat → Prop}
    (hat : ∀ w ∈ vx_atN nb, w.before args s = true) (hgood : ∀ w ∈ vx_atN nb, vx_ot w = true)
    (hU : vx_Zq Bundle.tN "UNASSIGNED_STACK" Bundle.steD A s s.heap) (hN : vx_Zq Bundle.tN "SUPPRESSED_SENTINEL" Bundle.listD A s s.heap) (hS : va_S A s.heap H locs) (hsize : ls.size = c.maxLocals)
    (hRframes : 7 < R.frames) (hRlocals : (rest.map fun v => v.category).sum + 10240 ≤ R.locals) (hRcells : cells + 1 ≤ R.cells) (hRslots : slots + nb ≤ R.slots) (hlocks : meth.locks = false)
    (k : ∀ (H1 : Heap) (q9 : Addr) (ce : Cell), H.size ≤ H1.size → (∀ q : Nat, q < H.size → H1[q]? = H[q]?) → va_S A s.heap H1 locs → H1[q9]? = some ce → ce.vm = .none → s.vm.findClass "java/lang/NullPointerException" = some ce.cls → vx_W p l e R s m args below meth c H1 locs (cells + 1) (slots + nb) Q (F0 m pc ls rest) q9) :
    vx_NoteN p l e R s m args below meth c H locs cells slots Q (F0 m pc ls rest) := by
  intro T hT X
  have htr : e.platform.stackTraces = false := (show e.platform.stackTraces = l.stackTraces by rw [X.admits.platform]).trans hl
  have Y := vx_rebase X (R' := { frames := R.frames, locals := R.locals, cells := 1, slots := nb }) (Nat.le_refl _) (Nat.le_refl _) hRcells hRslots
  have hhp : ((T.setVm s.vm).setFrames (.invoking m args :: below)).heap = H := hT
  have hW0 : s.WarmedH ((T.setVm s.vm).setFrames (.invoking m args :: below)).vm := State.WarmedH.refl s
  have hat' : ∀ w ∈ vx_atN nb, w.before args ((T.setVm s.vm).setFrames (.invoking m args :: below)) = true := fun w hw => vx_ot_at hW0 rfl (hgood w hw) (hat w hw)
  have hU' : vx_Zq Bundle.tN "UNASSIGNED_STACK" Bundle.steD A ((T.setVm s.vm).setFrames (.invoking m args :: below)) ((T.setVm s.vm).setFrames (.invoking m args :: below)).heap := by rw [hhp]; exact vx_Zq.moved hW0.alike (hU.kept hS.2.1)
  have hN' : vx_Zq Bundle.tN "SUPPRESSED_SENTINEL" Bundle.listD A ((T.setVm s.vm).setFrames (.invoking m args :: below)) ((T.setVm s.vm).setFrames (.invoking m args :: below)).heap := by rw [hhp]; exact vx_Zq.moved hW0.alike (hN.kept hS.2.1)
  obtain ⟨S, q, ce, st, Z, hce, hcl', hv⟩ := vx_npeAt Y hexec htr (n := nb) (vx_own hat' (vx_isRefq hU'.1) (vx_isRefq hN'.1) hU'.2.word hN'.2.word) (fun x hx => nomatch hx)
    (g := F0 m pc ls rest) rfl hsize hRframes (by show 2 * 0 + (rest.map fun v => v.category).sum + 10240 ≤ R.locals; omega) (by show 0 + 1 ≤ 1; omega) (by show 0 + nb ≤ nb; omega) hlocks
  obtain ⟨f1, f2⟩ := vx_frame Z.same
  have f1' : H.size ≤ S.heap.size := by rw [← hT]; exact f1
  have f2' : ∀ q : Nat, q < H.size → S.heap[q]? = H[q]? := fun q hq => by
    rw [← hT]
    exact f2 q (by rw [← hT] at hq; exact hq) (fun z hz => nomatch hz)
  have X5 := vx_back9 X Y Z
  have X6 : Stand p l e R s m args below meth c S locs (cells + 1) (slots + nb) := { X5 with same := X5.same.mono (by omega) (by omega) }
  obtain ⟨t, a1, b1⟩ := k S.heap q ce f1' f2' ⟨Nat.le_trans hS.1 f1', fun q h1 h2 => (f2' q (Nat.lt_of_lt_of_le h1 hS.1)).trans (hS.2.1 q h1 h2), hS.2.2⟩ hce hv hcl' S rfl X6
  exact ⟨t, st t a1, b1⟩
variable {Q : State → Prop} {cc : ByteArray} {pc : Nat} {ls : Array Slot} {rest : List Value}
theorem vx_idivZ (hexec : p.tables.exec = Jvm.exec) (hb : c.code = cc) {a b : Int32} (h0 : b = 0) (d : decode cc pc = .ok (.idiv, 1)) (k : vx_Note p l e R s m args below meth c H locs cells slots Q (F0 m pc ls rest) "java/lang/ArithmeticException" "/ by zero") :
    W p l e R s m args below meth c H locs cells slots Q (F0 m pc ls (.int b :: .int a :: rest)) := by
  intro T hT X
  obtain ⟨t, st, q⟩ := k T hT X
  exact ⟨t, X.idivZero hexec (g := F0 m pc ls (.int b :: .int a :: rest)) rfl (a := a) (rest := rest) (by rw [h0]) (by rw [hb]; exact d) t st, q⟩
theorem vx_iremZ (hexec : p.tables.exec = Jvm.exec) (hb : c.code = cc) {a b : Int32} (h0 : b = 0) (d : decode cc pc = .ok (.irem, 1)) (k : vx_Note p l e R s m args below meth c H locs cells slots Q (F0 m pc ls rest) "java/lang/ArithmeticException" "/ by zero") :
    W p l e R s m args below meth c H locs cells slots Q (F0 m pc ls (.int b :: .int a :: rest)) := by
  intro T hT X
  obtain ⟨t, st, q⟩ := k T hT X
  exact ⟨t, X.iremZero hexec (g := F0 m pc ls (.int b :: .int a :: rest)) rfl (a := a) (rest := rest) (by rw [h0]) (by rw [hb]; exact d) t st, q⟩
theorem vx_ldivZ (hexec : p.tables.exec = Jvm.exec) (hb : c.code = cc) {a b : Int64} (h0 : b = 0) (d : decode cc pc = .ok (.ldiv, 1)) (k : vx_Note p l e R s m args below meth c H locs cells slots Q (F0 m pc ls rest) "java/lang/ArithmeticException" "/ by zero") :
    W p l e R s m args below meth c H locs cells slots Q (F0 m pc ls (.long b :: .long a :: rest)) := by
  intro T hT X
  obtain ⟨t, st, q⟩ := k T hT X
  exact ⟨t, X.ldivZero hexec (g := F0 m pc ls (.long b :: .long a :: rest)) rfl (a := a) (rest := rest) (by rw [h0]) (by rw [hb]; exact d) t st, q⟩
theorem vx_lremZ (hexec : p.tables.exec = Jvm.exec) (hb : c.code = cc) {a b : Int64} (h0 : b = 0) (d : decode cc pc = .ok (.lrem, 1)) (k : vx_Note p l e R s m args below meth c H locs cells slots Q (F0 m pc ls rest) "java/lang/ArithmeticException" "/ by zero") :
    W p l e R s m args below meth c H locs cells slots Q (F0 m pc ls (.long b :: .long a :: rest)) := by
  intro T hT X
  obtain ⟨t, st, q⟩ := k T hT X
  exact ⟨t, X.lremZero hexec (g := F0 m pc ls (.long b :: .long a :: rest)) rfl (a := a) (rest := rest) (by rw [h0]) (by rw [hb]; exact d) t st, q⟩
theorem vx_ialdZ {D : va_G} {cl : List vw_C} {ws : va_W} {tys : List (ClassId × FieldType)} {a : Nat} (hexec : p.tables.exec = Jvm.exec) (hb : c.code = cc) (hK : va_K D cl tys s) (hP : va_P D cl ws H) (q0 t0 : Nat) {cA : ClassId} {n : Nat} {f : Nat → Int32} (ha : ws[q0]? = some (a, .inl (cA, n, .inl f))) (ht : tys[t0]? = some (cA, .int)) {i : Int32} (hout : ¬ vp_in i n) (hdg : decode cc pc = .ok (.iaload, 1))
    (k : ∀ tx : String, tx = (toString "Index " ++ toString i ++ toString " out of bounds for length " ++ toString n : String) → vx_Note p l e R s m args below meth c H locs cells slots Q (F0 m pc ls rest) "java/lang/ArrayIndexOutOfBoundsException" tx) : W p l e R s m args below meth c H locs cells slots Q (F0 m pc ls (.int i :: .ref a :: rest)) := by
  intro T hT X
  obtain ⟨t, st, q⟩ := k _ rfl T hT X
  refine ⟨t, ?_, q⟩
  have h1 := X.ialoadOut hexec (by rw [hT]; exact hP q0 _ ha) ((hK.2 t0 _ ht).1 n (fun j => .int (f j))) (j := i) (by show (i < 0 ∨ (arrV _ _ _).slots.size ≤ _); rw [arrV_size]; exact Classical.byContradiction hout) (g := F0 m pc ls (.int i :: .ref a :: rest)) rfl (rest := rest) rfl (by rw [hb]; exact hdg) t
  simp only [arrV_size] at h1
  exact h1 st
theorem vx_iastZ {D : va_G} {cl : List vw_C} {ws : va_W} {tys : List (ClassId × FieldType)} {a : Nat} (hexec : p.tables.exec = Jvm.exec) (hb : c.code = cc) (hK : va_K D cl tys s) (hP : va_P D cl ws H) (q0 t0 : Nat) {cA : ClassId} {n : Nat} {f : Nat → Int32} (ha : ws[q0]? = some (a, .inl (cA, n, .inl f))) (ht : tys[t0]? = some (cA, .int)) {i : Int32} {x : Int32} (hout : ¬ vp_in i n) (hdg : decode cc pc = .ok (.iastore, 1))
    (k : ∀ tx : String, tx = (toString "Index " ++ toString i ++ toString " out of bounds for length " ++ toString n : String) → vx_Note p l e R s m args below meth c H locs cells slots Q (F0 m pc ls rest) "java/lang/ArrayIndexOutOfBoundsException" tx) : W p l e R s m args below meth c H locs cells slots Q (F0 m pc ls (.int x :: .int i :: .ref a :: rest)) := by
  intro T hT X
  obtain ⟨t, st, q⟩ := k _ rfl T hT X
  refine ⟨t, ?_, q⟩
  have h1 := X.iastoreOut hexec (by rw [hT]; exact hP q0 _ ha) ((hK.2 t0 _ ht).1 n (fun j => .int (f j))) (j := i) (by show (i < 0 ∨ (arrV _ _ _).slots.size ≤ _); rw [arrV_size]; exact Classical.byContradiction hout) (g := F0 m pc ls (.int x :: .int i :: .ref a :: rest)) rfl (rest := rest) rfl (by rw [hb]; exact hdg) t
  simp only [arrV_size] at h1
  exact h1 st
theorem vx_baldZ {D : va_G} {cl : List vw_C} {ws : va_W} {tys : List (ClassId × FieldType)} {a : Nat} (hexec : p.tables.exec = Jvm.exec) (hb : c.code = cc) (hK : va_K D cl tys s) (hP : va_P D cl ws H) (q0 t0 : Nat) {cA : ClassId} {n : Nat} {f : Nat → Int32} (ha : ws[q0]? = some (a, .inl (cA, n, .inl f))) (ht : tys[t0]? = some (cA, .byte)) {i : Int32} (hout : ¬ vp_in i n) (hdg : decode cc pc = .ok (.baload, 1))
    (k : ∀ tx : String, tx = (toString "Index " ++ toString i ++ toString " out of bounds for length " ++ toString n : String) → vx_Note p l e R s m args below meth c H locs cells slots Q (F0 m pc ls rest) "java/lang/ArrayIndexOutOfBoundsException" tx) : W p l e R s m args below meth c H locs cells slots Q (F0 m pc ls (.int i :: .ref a :: rest)) := by
  intro T hT X
  obtain ⟨t, st, q⟩ := k _ rfl T hT X
  refine ⟨t, ?_, q⟩
  have h1 := X.baloadOut hexec (by rw [hT]; exact hP q0 _ ha) ((hK.2 t0 _ ht).1 n (fun j => .int (f j))) (j := i) (by show (i < 0 ∨ (arrV _ _ _).slots.size ≤ _); rw [arrV_size]; exact Classical.byContradiction hout) (g := F0 m pc ls (.int i :: .ref a :: rest)) rfl (rest := rest) rfl (by rw [hb]; exact hdg) t
  simp only [arrV_size] at h1
  exact h1 st
theorem vx_bastZ {D : va_G} {cl : List vw_C} {ws : va_W} {tys : List (ClassId × FieldType)} {a : Nat} (hexec : p.tables.exec = Jvm.exec) (hb : c.code = cc) (hK : va_K D cl tys s) (hP : va_P D cl ws H) (q0 t0 : Nat) {cA : ClassId} {n : Nat} {f : Nat → Int32} (ha : ws[q0]? = some (a, .inl (cA, n, .inl f))) (ht : tys[t0]? = some (cA, .byte)) {i : Int32} {x : Int32} (hout : ¬ vp_in i n) (hdg : decode cc pc = .ok (.bastore, 1))
    (k : ∀ tx : String, tx = (toString "Index " ++ toString i ++ toString " out of bounds for length " ++ toString n : String) → vx_Note p l e R s m args below meth c H locs cells slots Q (F0 m pc ls rest) "java/lang/ArrayIndexOutOfBoundsException" tx) : W p l e R s m args below meth c H locs cells slots Q (F0 m pc ls (.int x :: .int i :: .ref a :: rest)) := by
  intro T hT X
  obtain ⟨t, st, q⟩ := k _ rfl T hT X
  refine ⟨t, ?_, q⟩
  have h1 := X.bastoreOut hexec (by rw [hT]; exact hP q0 _ ha) ((hK.2 t0 _ ht).1 n (fun j => .int (f j))) (j := i) (by show (i < 0 ∨ (arrV _ _ _).slots.size ≤ _); rw [arrV_size]; exact Classical.byContradiction hout) (g := F0 m pc ls (.int x :: .int i :: .ref a :: rest)) rfl (rest := rest) rfl (by rw [hb]; exact hdg) t
  simp only [arrV_size] at h1
  exact h1 st
theorem vx_zaldZ {D : va_G} {cl : List vw_C} {ws : va_W} {tys : List (ClassId × FieldType)} {a : Nat} (hexec : p.tables.exec = Jvm.exec) (hb : c.code = cc) (hK : va_K D cl tys s) (hP : va_P D cl ws H) (q0 t0 : Nat) {cA : ClassId} {n : Nat} {f : Nat → Int32} (ha : ws[q0]? = some (a, .inl (cA, n, .inl f))) (ht : tys[t0]? = some (cA, .boolean)) {i : Int32} (hout : ¬ vp_in i n) (hdg : decode cc pc = .ok (.baload, 1))
    (k : ∀ tx : String, tx = (toString "Index " ++ toString i ++ toString " out of bounds for length " ++ toString n : String) → vx_Note p l e R s m args below meth c H locs cells slots Q (F0 m pc ls rest) "java/lang/ArrayIndexOutOfBoundsException" tx) : W p l e R s m args below meth c H locs cells slots Q (F0 m pc ls (.int i :: .ref a :: rest)) := by
  intro T hT X
  obtain ⟨t, st, q⟩ := k _ rfl T hT X
  refine ⟨t, ?_, q⟩
  have h1 := X.baloadOut hexec (by rw [hT]; exact hP q0 _ ha) ((hK.2 t0 _ ht).1 n (fun j => .int (f j))) (j := i) (by show (i < 0 ∨ (arrV _ _ _).slots.size ≤ _); rw [arrV_size]; exact Classical.byContradiction hout) (g := F0 m pc ls (.int i :: .ref a :: rest)) rfl (rest := rest) rfl (by rw [hb]; exact hdg) t
  simp only [arrV_size] at h1
  exact h1 st
theorem vx_zastZ {D : va_G} {cl : List vw_C} {ws : va_W} {tys : List (ClassId × FieldType)} {a : Nat} (hexec : p.tables.exec = Jvm.exec) (hb : c.code = cc) (hK : va_K D cl tys s) (hP : va_P D cl ws H) (q0 t0 : Nat) {cA : ClassId} {n : Nat} {f : Nat → Int32} (ha : ws[q0]? = some (a, .inl (cA, n, .inl f))) (ht : tys[t0]? = some (cA, .boolean)) {i : Int32} {x : Int32} (hout : ¬ vp_in i n) (hdg : decode cc pc = .ok (.bastore, 1))
    (k : ∀ tx : String, tx = (toString "Index " ++ toString i ++ toString " out of bounds for length " ++ toString n : String) → vx_Note p l e R s m args below meth c H locs cells slots Q (F0 m pc ls rest) "java/lang/ArrayIndexOutOfBoundsException" tx) : W p l e R s m args below meth c H locs cells slots Q (F0 m pc ls (.int x :: .int i :: .ref a :: rest)) := by
  intro T hT X
  obtain ⟨t, st, q⟩ := k _ rfl T hT X
  refine ⟨t, ?_, q⟩
  have h1 := X.bastoreOut hexec (by rw [hT]; exact hP q0 _ ha) ((hK.2 t0 _ ht).1 n (fun j => .int (f j))) (j := i) (by show (i < 0 ∨ (arrV _ _ _).slots.size ≤ _); rw [arrV_size]; exact Classical.byContradiction hout) (g := F0 m pc ls (.int x :: .int i :: .ref a :: rest)) rfl (rest := rest) rfl (by rw [hb]; exact hdg) t
  simp only [arrV_size] at h1
  exact h1 st
theorem vx_caldZ {D : va_G} {cl : List vw_C} {ws : va_W} {tys : List (ClassId × FieldType)} {a : Nat} (hexec : p.tables.exec = Jvm.exec) (hb : c.code = cc) (hK : va_K D cl tys s) (hP : va_P D cl ws H) (q0 t0 : Nat) {cA : ClassId} {n : Nat} {f : Nat → Int32} (ha : ws[q0]? = some (a, .inl (cA, n, .inl f))) (ht : tys[t0]? = some (cA, .char)) {i : Int32} (hout : ¬ vp_in i n) (hdg : decode cc pc = .ok (.caload, 1))
    (k : ∀ tx : String, tx = (toString "Index " ++ toString i ++ toString " out of bounds for length " ++ toString n : String) → vx_Note p l e R s m args below meth c H locs cells slots Q (F0 m pc ls rest) "java/lang/ArrayIndexOutOfBoundsException" tx) : W p l e R s m args below meth c H locs cells slots Q (F0 m pc ls (.int i :: .ref a :: rest)) := by
  intro T hT X
  obtain ⟨t, st, q⟩ := k _ rfl T hT X
  refine ⟨t, ?_, q⟩
  have h1 := X.caloadOut hexec (by rw [hT]; exact hP q0 _ ha) ((hK.2 t0 _ ht).1 n (fun j => .int (f j))) (j := i) (by show (i < 0 ∨ (arrV _ _ _).slots.size ≤ _); rw [arrV_size]; exact Classical.byContradiction hout) (g := F0 m pc ls (.int i :: .ref a :: rest)) rfl (rest := rest) rfl (by rw [hb]; exact hdg) t
  simp only [arrV_size] at h1
  exact h1 st
theorem vx_castZ {D : va_G} {cl : List vw_C} {ws : va_W} {tys : List (ClassId × FieldType)} {a : Nat} (hexec : p.tables.exec = Jvm.exec) (hb : c.code = cc) (hK : va_K D cl tys s) (hP : va_P D cl ws H) (q0 t0 : Nat) {cA : ClassId} {n : Nat} {f : Nat → Int32} (ha : ws[q0]? = some (a, .inl (cA, n, .inl f))) (ht : tys[t0]? = some (cA, .char)) {i : Int32} {x : Int32} (hout : ¬ vp_in i n) (hdg : decode cc pc = .ok (.castore, 1))
    (k : ∀ tx : String, tx = (toString "Index " ++ toString i ++ toString " out of bounds for length " ++ toString n : String) → vx_Note p l e R s m args below meth c H locs cells slots Q (F0 m pc ls rest) "java/lang/ArrayIndexOutOfBoundsException" tx) : W p l e R s m args below meth c H locs cells slots Q (F0 m pc ls (.int x :: .int i :: .ref a :: rest)) := by
  intro T hT X
  obtain ⟨t, st, q⟩ := k _ rfl T hT X
  refine ⟨t, ?_, q⟩
  have h1 := X.castoreOut hexec (by rw [hT]; exact hP q0 _ ha) ((hK.2 t0 _ ht).1 n (fun j => .int (f j))) (j := i) (by show (i < 0 ∨ (arrV _ _ _).slots.size ≤ _); rw [arrV_size]; exact Classical.byContradiction hout) (g := F0 m pc ls (.int x :: .int i :: .ref a :: rest)) rfl (rest := rest) rfl (by rw [hb]; exact hdg) t
  simp only [arrV_size] at h1
  exact h1 st
theorem vx_saldZ {D : va_G} {cl : List vw_C} {ws : va_W} {tys : List (ClassId × FieldType)} {a : Nat} (hexec : p.tables.exec = Jvm.exec) (hb : c.code = cc) (hK : va_K D cl tys s) (hP : va_P D cl ws H) (q0 t0 : Nat) {cA : ClassId} {n : Nat} {f : Nat → Int32} (ha : ws[q0]? = some (a, .inl (cA, n, .inl f))) (ht : tys[t0]? = some (cA, .short)) {i : Int32} (hout : ¬ vp_in i n) (hdg : decode cc pc = .ok (.saload, 1))
    (k : ∀ tx : String, tx = (toString "Index " ++ toString i ++ toString " out of bounds for length " ++ toString n : String) → vx_Note p l e R s m args below meth c H locs cells slots Q (F0 m pc ls rest) "java/lang/ArrayIndexOutOfBoundsException" tx) : W p l e R s m args below meth c H locs cells slots Q (F0 m pc ls (.int i :: .ref a :: rest)) := by
  intro T hT X
  obtain ⟨t, st, q⟩ := k _ rfl T hT X
  refine ⟨t, ?_, q⟩
  have h1 := X.saloadOut hexec (by rw [hT]; exact hP q0 _ ha) ((hK.2 t0 _ ht).1 n (fun j => .int (f j))) (j := i) (by show (i < 0 ∨ (arrV _ _ _).slots.size ≤ _); rw [arrV_size]; exact Classical.byContradiction hout) (g := F0 m pc ls (.int i :: .ref a :: rest)) rfl (rest := rest) rfl (by rw [hb]; exact hdg) t
  simp only [arrV_size] at h1
  exact h1 st
theorem vx_sastZ {D : va_G} {cl : List vw_C} {ws : va_W} {tys : List (ClassId × FieldType)} {a : Nat} (hexec : p.tables.exec = Jvm.exec) (hb : c.code = cc) (hK : va_K D cl tys s) (hP : va_P D cl ws H) (q0 t0 : Nat) {cA : ClassId} {n : Nat} {f : Nat → Int32} (ha : ws[q0]? = some (a, .inl (cA, n, .inl f))) (ht : tys[t0]? = some (cA, .short)) {i : Int32} {x : Int32} (hout : ¬ vp_in i n) (hdg : decode cc pc = .ok (.sastore, 1))
    (k : ∀ tx : String, tx = (toString "Index " ++ toString i ++ toString " out of bounds for length " ++ toString n : String) → vx_Note p l e R s m args below meth c H locs cells slots Q (F0 m pc ls rest) "java/lang/ArrayIndexOutOfBoundsException" tx) : W p l e R s m args below meth c H locs cells slots Q (F0 m pc ls (.int x :: .int i :: .ref a :: rest)) := by
  intro T hT X
  obtain ⟨t, st, q⟩ := k _ rfl T hT X
  refine ⟨t, ?_, q⟩
  have h1 := X.sastoreOut hexec (by rw [hT]; exact hP q0 _ ha) ((hK.2 t0 _ ht).1 n (fun j => .int (f j))) (j := i) (by show (i < 0 ∨ (arrV _ _ _).slots.size ≤ _); rw [arrV_size]; exact Classical.byContradiction hout) (g := F0 m pc ls (.int x :: .int i :: .ref a :: rest)) rfl (rest := rest) rfl (by rw [hb]; exact hdg) t
  simp only [arrV_size] at h1
  exact h1 st
theorem vx_laldZ {D : va_G} {cl : List vw_C} {ws : va_W} {tys : List (ClassId × FieldType)} {a : Nat} (hexec : p.tables.exec = Jvm.exec) (hb : c.code = cc) (hK : va_K D cl tys s) (hP : va_P D cl ws H) (q0 t0 : Nat) {cA : ClassId} {n : Nat} {f : Nat → Int64} (ha : ws[q0]? = some (a, .inl (cA, n, .inr (.inl f)))) (ht : tys[t0]? = some (cA, .long)) {i : Int32} (hout : ¬ vp_in i n) (hdg : decode cc pc = .ok (.laload, 1))
    (k : ∀ tx : String, tx = (toString "Index " ++ toString i ++ toString " out of bounds for length " ++ toString n : String) → vx_Note p l e R s m args below meth c H locs cells slots Q (F0 m pc ls rest) "java/lang/ArrayIndexOutOfBoundsException" tx) : W p l e R s m args below meth c H locs cells slots Q (F0 m pc ls (.int i :: .ref a :: rest)) := by
  intro T hT X
  obtain ⟨t, st, q⟩ := k _ rfl T hT X
  refine ⟨t, ?_, q⟩
  have h1 := X.laloadOut hexec (by rw [hT]; exact hP q0 _ ha) ((hK.2 t0 _ ht).1 n (fun j => .long (f j))) (j := i) (by show (i < 0 ∨ (arrV _ _ _).slots.size ≤ _); rw [arrV_size]; exact Classical.byContradiction hout) (g := F0 m pc ls (.int i :: .ref a :: rest)) rfl (rest := rest) rfl (by rw [hb]; exact hdg) t
  simp only [arrV_size] at h1
  exact h1 st
theorem vx_lastZ {D : va_G} {cl : List vw_C} {ws : va_W} {tys : List (ClassId × FieldType)} {a : Nat} (hexec : p.tables.exec = Jvm.exec) (hb : c.code = cc) (hK : va_K D cl tys s) (hP : va_P D cl ws H) (q0 t0 : Nat) {cA : ClassId} {n : Nat} {f : Nat → Int64} (ha : ws[q0]? = some (a, .inl (cA, n, .inr (.inl f)))) (ht : tys[t0]? = some (cA, .long)) {i : Int32} {x : Int64} (hout : ¬ vp_in i n) (hdg : decode cc pc = .ok (.lastore, 1))
    (k : ∀ tx : String, tx = (toString "Index " ++ toString i ++ toString " out of bounds for length " ++ toString n : String) → vx_Note p l e R s m args below meth c H locs cells slots Q (F0 m pc ls rest) "java/lang/ArrayIndexOutOfBoundsException" tx) : W p l e R s m args below meth c H locs cells slots Q (F0 m pc ls (.long x :: .int i :: .ref a :: rest)) := by
  intro T hT X
  obtain ⟨t, st, q⟩ := k _ rfl T hT X
  refine ⟨t, ?_, q⟩
  have h1 := X.lastoreOut hexec (by rw [hT]; exact hP q0 _ ha) ((hK.2 t0 _ ht).1 n (fun j => .long (f j))) (j := i) (by show (i < 0 ∨ (arrV _ _ _).slots.size ≤ _); rw [arrV_size]; exact Classical.byContradiction hout) (g := F0 m pc ls (.long x :: .int i :: .ref a :: rest)) rfl (rest := rest) rfl (by rw [hb]; exact hdg) t
  simp only [arrV_size] at h1
  exact h1 st
theorem vx_faldZ {D : va_G} {cl : List vw_C} {ws : va_W} {tys : List (ClassId × FieldType)} {a : Nat} (hexec : p.tables.exec = Jvm.exec) (hb : c.code = cc) (hK : va_K D cl tys s) (hP : va_P D cl ws H) (q0 t0 : Nat) {cA : ClassId} {n : Nat} {f : Nat → UInt32} (ha : ws[q0]? = some (a, .inl (cA, n, .inr (.inr (.inl f))))) (ht : tys[t0]? = some (cA, .float)) {i : Int32} (hout : ¬ vp_in i n) (hdg : decode cc pc = .ok (.faload, 1))
    (k : ∀ tx : String, tx = (toString "Index " ++ toString i ++ toString " out of bounds for length " ++ toString n : String) → vx_Note p l e R s m args below meth c H locs cells slots Q (F0 m pc ls rest) "java/lang/ArrayIndexOutOfBoundsException" tx) : W p l e R s m args below meth c H locs cells slots Q (F0 m pc ls (.int i :: .ref a :: rest)) := by
  intro T hT X
  obtain ⟨t, st, q⟩ := k _ rfl T hT X
  refine ⟨t, ?_, q⟩
  have h1 := X.faloadOut hexec (by rw [hT]; exact hP q0 _ ha) ((hK.2 t0 _ ht).1 n (fun j => .float (f j))) (j := i) (by show (i < 0 ∨ (arrV _ _ _).slots.size ≤ _); rw [arrV_size]; exact Classical.byContradiction hout) (g := F0 m pc ls (.int i :: .ref a :: rest)) rfl (rest := rest) rfl (by rw [hb]; exact hdg) t
  simp only [arrV_size] at h1
  exact h1 st
theorem vx_fastZ {D : va_G} {cl : List vw_C} {ws : va_W} {tys : List (ClassId × FieldType)} {a : Nat} (hexec : p.tables.exec = Jvm.exec) (hb : c.code = cc) (hK : va_K D cl tys s) (hP : va_P D cl ws H) (q0 t0 : Nat) {cA : ClassId} {n : Nat} {f : Nat → UInt32} (ha : ws[q0]? = some (a, .inl (cA, n, .inr (.inr (.inl f))))) (ht : tys[t0]? = some (cA, .float)) {i : Int32} {x : UInt32} (hout : ¬ vp_in i n) (hdg : decode cc pc = .ok (.fastore, 1))
    (k : ∀ tx : String, tx = (toString "Index " ++ toString i ++ toString " out of bounds for length " ++ toString n : String) → vx_Note p l e R s m args below meth c H locs cells slots Q (F0 m pc ls rest) "java/lang/ArrayIndexOutOfBoundsException" tx) : W p l e R s m args below meth c H locs cells slots Q (F0 m pc ls (.float x :: .int i :: .ref a :: rest)) := by
  intro T hT X
  obtain ⟨t, st, q⟩ := k _ rfl T hT X
  refine ⟨t, ?_, q⟩
  have h1 := X.fastoreOut hexec (by rw [hT]; exact hP q0 _ ha) ((hK.2 t0 _ ht).1 n (fun j => .float (f j))) (j := i) (by show (i < 0 ∨ (arrV _ _ _).slots.size ≤ _); rw [arrV_size]; exact Classical.byContradiction hout) (g := F0 m pc ls (.float x :: .int i :: .ref a :: rest)) rfl (rest := rest) rfl (by rw [hb]; exact hdg) t
  simp only [arrV_size] at h1
  exact h1 st
theorem vx_daldZ {D : va_G} {cl : List vw_C} {ws : va_W} {tys : List (ClassId × FieldType)} {a : Nat} (hexec : p.tables.exec = Jvm.exec) (hb : c.code = cc) (hK : va_K D cl tys s) (hP : va_P D cl ws H) (q0 t0 : Nat) {cA : ClassId} {n : Nat} {f : Nat → UInt64} (ha : ws[q0]? = some (a, .inl (cA, n, .inr (.inr (.inr (.inl f)))))) (ht : tys[t0]? = some (cA, .double)) {i : Int32} (hout : ¬ vp_in i n) (hdg : decode cc pc = .ok (.daload, 1))
    (k : ∀ tx : String, tx = (toString "Index " ++ toString i ++ toString " out of bounds for length " ++ toString n : String) → vx_Note p l e R s m args below meth c H locs cells slots Q (F0 m pc ls rest) "java/lang/ArrayIndexOutOfBoundsException" tx) : W p l e R s m args below meth c H locs cells slots Q (F0 m pc ls (.int i :: .ref a :: rest)) := by
  intro T hT X
  obtain ⟨t, st, q⟩ := k _ rfl T hT X
  refine ⟨t, ?_, q⟩
  have h1 := X.daloadOut hexec (by rw [hT]; exact hP q0 _ ha) ((hK.2 t0 _ ht).1 n (fun j => .double (f j))) (j := i) (by show (i < 0 ∨ (arrV _ _ _).slots.size ≤ _); rw [arrV_size]; exact Classical.byContradiction hout) (g := F0 m pc ls (.int i :: .ref a :: rest)) rfl (rest := rest) rfl (by rw [hb]; exact hdg) t
  simp only [arrV_size] at h1
  exact h1 st
theorem vx_dastZ {D : va_G} {cl : List vw_C} {ws : va_W} {tys : List (ClassId × FieldType)} {a : Nat} (hexec : p.tables.exec = Jvm.exec) (hb : c.code = cc) (hK : va_K D cl tys s) (hP : va_P D cl ws H) (q0 t0 : Nat) {cA : ClassId} {n : Nat} {f : Nat → UInt64} (ha : ws[q0]? = some (a, .inl (cA, n, .inr (.inr (.inr (.inl f)))))) (ht : tys[t0]? = some (cA, .double)) {i : Int32} {x : UInt64} (hout : ¬ vp_in i n) (hdg : decode cc pc = .ok (.dastore, 1))
    (k : ∀ tx : String, tx = (toString "Index " ++ toString i ++ toString " out of bounds for length " ++ toString n : String) → vx_Note p l e R s m args below meth c H locs cells slots Q (F0 m pc ls rest) "java/lang/ArrayIndexOutOfBoundsException" tx) : W p l e R s m args below meth c H locs cells slots Q (F0 m pc ls (.double x :: .int i :: .ref a :: rest)) := by
  intro T hT X
  obtain ⟨t, st, q⟩ := k _ rfl T hT X
  refine ⟨t, ?_, q⟩
  have h1 := X.dastoreOut hexec (by rw [hT]; exact hP q0 _ ha) ((hK.2 t0 _ ht).1 n (fun j => .double (f j))) (j := i) (by show (i < 0 ∨ (arrV _ _ _).slots.size ≤ _); rw [arrV_size]; exact Classical.byContradiction hout) (g := F0 m pc ls (.double x :: .int i :: .ref a :: rest)) rfl (rest := rest) rfl (by rw [hb]; exact hdg) t
  simp only [arrV_size] at h1
  exact h1 st
theorem vx_arraylengthN (hexec : p.tables.exec = Jvm.exec) (hb : c.code = cc) (hdg : decode cc pc = .ok (.arraylength, 1)) (k : vx_NoteN p l e R s m args below meth c H locs cells slots Q (F0 m pc ls rest)) : W p l e R s m args below meth c H locs cells slots Q (F0 m pc ls (.null :: rest)) := by
  intro T hT X
  obtain ⟨t, st, q⟩ := k T hT X
  exact ⟨t, X.arraylengthNull hexec (g := F0 m pc ls (.null :: rest)) rfl (rest := rest) rfl (by rw [hb]; exact hdg) t st, q⟩
theorem vx_ialoadN (hexec : p.tables.exec = Jvm.exec) (hb : c.code = cc) {i : Int32} (hdg : decode cc pc = .ok (.iaload, 1)) (k : vx_NoteN p l e R s m args below meth c H locs cells slots Q (F0 m pc ls rest)) : W p l e R s m args below meth c H locs cells slots Q (F0 m pc ls (.int i :: .null :: rest)) := by
  intro T hT X
  obtain ⟨t, st, q⟩ := k T hT X
  exact ⟨t, X.ialoadNull hexec (g := F0 m pc ls (.int i :: .null :: rest)) rfl (rest := rest) rfl (by rw [hb]; exact hdg) t st, q⟩
theorem vx_laloadN (hexec : p.tables.exec = Jvm.exec) (hb : c.code = cc) {i : Int32} (hdg : decode cc pc = .ok (.laload, 1)) (k : vx_NoteN p l e R s m args below meth c H locs cells slots Q (F0 m pc ls rest)) : W p l e R s m args below meth c H locs cells slots Q (F0 m pc ls (.int i :: .null :: rest)) := by
  intro T hT X
  obtain ⟨t, st, q⟩ := k T hT X
  exact ⟨t, X.laloadNull hexec (g := F0 m pc ls (.int i :: .null :: rest)) rfl (rest := rest) rfl (by rw [hb]; exact hdg) t st, q⟩
theorem vx_faloadN (hexec : p.tables.exec = Jvm.exec) (hb : c.code = cc) {i : Int32} (hdg : decode cc pc = .ok (.faload, 1)) (k : vx_NoteN p l e R s m args below meth c H locs cells slots Q (F0 m pc ls rest)) : W p l e R s m args below meth c H locs cells slots Q (F0 m pc ls (.int i :: .null :: rest)) := by
  intro T hT X
  obtain ⟨t, st, q⟩ := k T hT X
  exact ⟨t, X.faloadNull hexec (g := F0 m pc ls (.int i :: .null :: rest)) rfl (rest := rest) rfl (by rw [hb]; exact hdg) t st, q⟩
theorem vx_daloadN (hexec : p.tables.exec = Jvm.exec) (hb : c.code = cc) {i : Int32} (hdg : decode cc pc = .ok (.daload, 1)) (k : vx_NoteN p l e R s m args below meth c H locs cells slots Q (F0 m pc ls rest)) : W p l e R s m args below meth c H locs cells slots Q (F0 m pc ls (.int i :: .null :: rest)) := by
  intro T hT X
  obtain ⟨t, st, q⟩ := k T hT X
  exact ⟨t, X.daloadNull hexec (g := F0 m pc ls (.int i :: .null :: rest)) rfl (rest := rest) rfl (by rw [hb]; exact hdg) t st, q⟩
theorem vx_aaloadN (hexec : p.tables.exec = Jvm.exec) (hb : c.code = cc) {i : Int32} (hdg : decode cc pc = .ok (.aaload, 1)) (k : vx_NoteN p l e R s m args below meth c H locs cells slots Q (F0 m pc ls rest)) : W p l e R s m args below meth c H locs cells slots Q (F0 m pc ls (.int i :: .null :: rest)) := by
  intro T hT X
  obtain ⟨t, st, q⟩ := k T hT X
  exact ⟨t, X.aaloadNull hexec (g := F0 m pc ls (.int i :: .null :: rest)) rfl (rest := rest) rfl (by rw [hb]; exact hdg) t st, q⟩
theorem vx_baloadN (hexec : p.tables.exec = Jvm.exec) (hb : c.code = cc) {i : Int32} (hdg : decode cc pc = .ok (.baload, 1)) (k : vx_NoteN p l e R s m args below meth c H locs cells slots Q (F0 m pc ls rest)) : W p l e R s m args below meth c H locs cells slots Q (F0 m pc ls (.int i :: .null :: rest)) := by
  intro T hT X
  obtain ⟨t, st, q⟩ := k T hT X
  exact ⟨t, X.baloadNull hexec (g := F0 m pc ls (.int i :: .null :: rest)) rfl (rest := rest) rfl (by rw [hb]; exact hdg) t st, q⟩
theorem vx_caloadN (hexec : p.tables.exec = Jvm.exec) (hb : c.code = cc) {i : Int32} (hdg : decode cc pc = .ok (.caload, 1)) (k : vx_NoteN p l e R s m args below meth c H locs cells slots Q (F0 m pc ls rest)) : W p l e R s m args below meth c H locs cells slots Q (F0 m pc ls (.int i :: .null :: rest)) := by
  intro T hT X
  obtain ⟨t, st, q⟩ := k T hT X
  exact ⟨t, X.caloadNull hexec (g := F0 m pc ls (.int i :: .null :: rest)) rfl (rest := rest) rfl (by rw [hb]; exact hdg) t st, q⟩
theorem vx_saloadN (hexec : p.tables.exec = Jvm.exec) (hb : c.code = cc) {i : Int32} (hdg : decode cc pc = .ok (.saload, 1)) (k : vx_NoteN p l e R s m args below meth c H locs cells slots Q (F0 m pc ls rest)) : W p l e R s m args below meth c H locs cells slots Q (F0 m pc ls (.int i :: .null :: rest)) := by
  intro T hT X
  obtain ⟨t, st, q⟩ := k T hT X
  exact ⟨t, X.saloadNull hexec (g := F0 m pc ls (.int i :: .null :: rest)) rfl (rest := rest) rfl (by rw [hb]; exact hdg) t st, q⟩
theorem vx_iastoreN (hexec : p.tables.exec = Jvm.exec) (hb : c.code = cc) {x : Int32} {i : Int32} (hdg : decode cc pc = .ok (.iastore, 1)) (k : vx_NoteN p l e R s m args below meth c H locs cells slots Q (F0 m pc ls rest)) : W p l e R s m args below meth c H locs cells slots Q (F0 m pc ls (.int x :: .int i :: .null :: rest)) := by
  intro T hT X
  obtain ⟨t, st, q⟩ := k T hT X
  exact ⟨t, X.iastoreNull hexec (g := F0 m pc ls (.int x :: .int i :: .null :: rest)) rfl (rest := rest) rfl (by rw [hb]; exact hdg) t st, q⟩
theorem vx_lastoreN (hexec : p.tables.exec = Jvm.exec) (hb : c.code = cc) {x : Int64} {i : Int32} (hdg : decode cc pc = .ok (.lastore, 1)) (k : vx_NoteN p l e R s m args below meth c H locs cells slots Q (F0 m pc ls rest)) : W p l e R s m args below meth c H locs cells slots Q (F0 m pc ls (.long x :: .int i :: .null :: rest)) := by
  intro T hT X
  obtain ⟨t, st, q⟩ := k T hT X
  exact ⟨t, X.lastoreNull hexec (g := F0 m pc ls (.long x :: .int i :: .null :: rest)) rfl (rest := rest) rfl (by rw [hb]; exact hdg) t st, q⟩
theorem vx_fastoreN (hexec : p.tables.exec = Jvm.exec) (hb : c.code = cc) {x : UInt32} {i : Int32} (hdg : decode cc pc = .ok (.fastore, 1)) (k : vx_NoteN p l e R s m args below meth c H locs cells slots Q (F0 m pc ls rest)) : W p l e R s m args below meth c H locs cells slots Q (F0 m pc ls (.float x :: .int i :: .null :: rest)) := by
  intro T hT X
  obtain ⟨t, st, q⟩ := k T hT X
  exact ⟨t, X.fastoreNull hexec (g := F0 m pc ls (.float x :: .int i :: .null :: rest)) rfl (rest := rest) rfl (by rw [hb]; exact hdg) t st, q⟩
theorem vx_dastoreN (hexec : p.tables.exec = Jvm.exec) (hb : c.code = cc) {x : UInt64} {i : Int32} (hdg : decode cc pc = .ok (.dastore, 1)) (k : vx_NoteN p l e R s m args below meth c H locs cells slots Q (F0 m pc ls rest)) : W p l e R s m args below meth c H locs cells slots Q (F0 m pc ls (.double x :: .int i :: .null :: rest)) := by
  intro T hT X
  obtain ⟨t, st, q⟩ := k T hT X
  exact ⟨t, X.dastoreNull hexec (g := F0 m pc ls (.double x :: .int i :: .null :: rest)) rfl (rest := rest) rfl (by rw [hb]; exact hdg) t st, q⟩
theorem vx_bastoreN (hexec : p.tables.exec = Jvm.exec) (hb : c.code = cc) {x : Int32} {i : Int32} (hdg : decode cc pc = .ok (.bastore, 1)) (k : vx_NoteN p l e R s m args below meth c H locs cells slots Q (F0 m pc ls rest)) : W p l e R s m args below meth c H locs cells slots Q (F0 m pc ls (.int x :: .int i :: .null :: rest)) := by
  intro T hT X
  obtain ⟨t, st, q⟩ := k T hT X
  exact ⟨t, X.bastoreNull hexec (g := F0 m pc ls (.int x :: .int i :: .null :: rest)) rfl (rest := rest) rfl (by rw [hb]; exact hdg) t st, q⟩
theorem vx_castoreN (hexec : p.tables.exec = Jvm.exec) (hb : c.code = cc) {x : Int32} {i : Int32} (hdg : decode cc pc = .ok (.castore, 1)) (k : vx_NoteN p l e R s m args below meth c H locs cells slots Q (F0 m pc ls rest)) : W p l e R s m args below meth c H locs cells slots Q (F0 m pc ls (.int x :: .int i :: .null :: rest)) := by
  intro T hT X
  obtain ⟨t, st, q⟩ := k T hT X
  exact ⟨t, X.castoreNull hexec (g := F0 m pc ls (.int x :: .int i :: .null :: rest)) rfl (rest := rest) rfl (by rw [hb]; exact hdg) t st, q⟩
theorem vx_sastoreN (hexec : p.tables.exec = Jvm.exec) (hb : c.code = cc) {x : Int32} {i : Int32} (hdg : decode cc pc = .ok (.sastore, 1)) (k : vx_NoteN p l e R s m args below meth c H locs cells slots Q (F0 m pc ls rest)) : W p l e R s m args below meth c H locs cells slots Q (F0 m pc ls (.int x :: .int i :: .null :: rest)) := by
  intro T hT X
  obtain ⟨t, st, q⟩ := k T hT X
  exact ⟨t, X.sastoreNull hexec (g := F0 m pc ls (.int x :: .int i :: .null :: rest)) rfl (rest := rest) rfl (by rw [hb]; exact hdg) t st, q⟩
theorem vx_invokeN {own C : String} {index maxL : Nat} {y : MethodName} {bytes : ByteArray} {ret : Option FieldType} (hexec : p.tables.exec = Jvm.exec) (hb : c.code = cc) (hown : s.vm.findClass own = some m.cls) (hlink : (Cond.methodLink own index y).before args s = true) (hinst : (Cond.instanceMethod y).before args s = true) (hcode : (Cond.code y bytes maxL ret).before args s = true) (hsel : (Cond.selects C y y).before args s = true)
    (hx : y.cls ≠ "java/lang/invoke/MethodHandle" ∧ y.cls ≠ "java/lang/invoke/VarHandle") {As : List Value} (hlen : (parseMethodDescriptor y.desc).map (fun d => d.parameters.length) = some As.length) (hdg : decode cc pc = .ok (.invokevirtual index, 3))
    (k : vx_NoteN p l e R s m args below meth c H locs cells slots Q (F0 m pc ls rest)) {st0 : List Value} (hst : st0 = As.reverse ++ .null :: rest) : W p l e R s m args below meth c H locs cells slots Q (F0 m pc ls st0) := by
  intro T hT X
  obtain ⟨r0, r, hn, hrm, hstR, hsigR⟩ := va_Decl.of hinst hcode
  obtain ⟨c2, r2, m2, q1, q2, q3, q4, kP, hkP, hkPi⟩ := Cond.selects_spec hsel
  cases hn.symm.trans q3
  have hl9 : As.length = r.sig.parameters.length := by
    rw [hsigR] at hlen
    exact (Option.some.inj hlen).symm
  obtain ⟨vm', X1, st1⟩ := X.invokevirtualNull hexec hown hlink hn hrm hstR hkP hkPi hx (g := F0 m pc ls st0) rfl (argsL := As) (rest := rest) hl9 hst (by rw [hb]; exact hdg)
  obtain ⟨t, st, q⟩ := k (T.setVm vm') hT X1
  exact ⟨t, st1 t st, q⟩
theorem vx_newarrayZ {atype : ArrayType} (hexec : p.tables.exec = Jvm.exec) (hb : c.code = cc) {n : Int32} (h0 : n < 0) (hdg : decode cc pc = .ok (.newarray atype, 2)) (k : ∀ tx : String, tx = toString n → vx_Note p l e R s m args below meth c H locs cells slots Q (F0 m pc ls rest) "java/lang/NegativeArraySizeException" tx) : W p l e R s m args below meth c H locs cells slots Q (F0 m pc ls (.int n :: rest)) := by
  intro T hT X
  obtain ⟨t, st, q⟩ := k _ rfl T hT X
  exact ⟨t, X.newarrayNegative hexec (g := F0 m pc ls (.int n :: rest)) rfl h0 (rest := rest) rfl (by rw [hb]; exact hdg) t st, q⟩
end
end VXM
/-! ===== END ===== -/
end
section
def RX0 : String := "DiskArmSimulator$Cache"
def TX0 : u_T := fun k => match k with
  | 0 => ("DiskArmSimulator$Cache", "on", "Z", false)
  | 1 => ("DiskArmSimulator$Cache", "count", "I", false)
  | _ => ("DiskArmSimulator$Cache", "blocks", "[I", true)
def tyX0 : Nat → FieldType := fun k => match k with
  | 0 => .boolean
  | 1 => .int
  | _ => .array .int
abbrev wsX00 : List Cond := u_ws RX0 TX0 3
theorem nmX0 : ∀ a, a < 3 → ∀ b, b < 3 → a ≠ b → (TX0 a).2.1 ≠ (TX0 b).2.1 := by decide +kernel
theorem tyX0_ok : ∀ k, k < 3 → parseFieldDescriptor (TX0 k).2.2.1 = some (tyX0 k) := by decide +kernel
abbrev cX0_init : ByteArray := prog_2_method_1_code
def yX0_init : MethodName := ⟨RX0, "<init>", "()V"⟩
abbrev cX0_copyFrom : ByteArray := prog_2_method_2_code
def yX0_copyFrom : MethodName := ⟨RX0, "copyFrom", "(LDiskArmSimulator$Cache;)V"⟩
abbrev cX0_holds : ByteArray := prog_2_method_3_code
def yX0_holds : MethodName := ⟨RX0, "holds", "(I)Z"⟩
abbrev cX0_makeDirty : ByteArray := prog_2_method_4_code
def yX0_makeDirty : MethodName := ⟨RX0, "makeDirty", "(I)V"⟩
abbrev cX0_finishesAtOnce : ByteArray := prog_2_method_5_code
def yX0_finishesAtOnce : MethodName := ⟨RX0, "finishesAtOnce", "(II)Z"⟩
abbrev cX0_writeAll : ByteArray := prog_2_method_6_code
def yX0_writeAll : MethodName := ⟨RX0, "writeAll", "(LDiskArmSimulator$Drive;)V"⟩
abbrev cX0_leastKeyAbove : ByteArray := prog_2_method_7_code
def yX0_leastKeyAbove : MethodName := ⟨RX0, "leastKeyAbove", "(IILDiskArmSimulator$Drive;)I"⟩
def RX1 : String := "DiskArmSimulator$Drive"
def TX1 : u_T := fun k => match k with
  | 0 => ("DiskArmSimulator$Drive", "settling", "I", false)
  | 1 => ("DiskArmSimulator$Drive", "rootFactor", "I", false)
  | 2 => ("DiskArmSimulator$Drive", "linearFactor", "I", false)
  | 3 => ("DiskArmSimulator$Drive", "skew", "I", false)
  | 4 => ("DiskArmSimulator$Drive", "clock", "I", false)
  | 5 => ("DiskArmSimulator$Drive", "arm", "I", false)
  | 6 => ("DiskArmSimulator$Drive", "seekTotal", "I", false)
  | 7 => ("DiskArmSimulator$Drive", "waitTotal", "I", false)
  | 8 => ("DiskArmSimulator$Drive", "transferTotal", "I", false)
  | 9 => ("DiskArmSimulator$Drive", "accessTotal", "I", false)
  | 10 => ("DiskArmSimulator$Drive", "sparesTaken", "I", false)
  | 11 => ("DiskArmSimulator$Drive", "spareBlocks", "[I", true)
  | _ => ("DiskArmSimulator$Drive", "accesses", "[I", true)
def tyX1 : Nat → FieldType := fun k => match k with
  | 0 => .int
  | 1 => .int
  | 2 => .int
  | 3 => .int
  | 4 => .int
  | 5 => .int
  | 6 => .int
  | 7 => .int
  | 8 => .int
  | 9 => .int
  | 10 => .int
  | 11 => .array .int
  | _ => .array .int
abbrev wsX10 : List Cond := u_ws RX1 TX1 13
theorem nmX1 : ∀ a, a < 13 → ∀ b, b < 13 → a ≠ b → (TX1 a).2.1 ≠ (TX1 b).2.1 := by decide +kernel
theorem tyX1_ok : ∀ k, k < 13 → parseFieldDescriptor (TX1 k).2.2.1 = some (tyX1 k) := by decide +kernel
abbrev cX1_init : ByteArray := prog_3_method_1_code
def yX1_init : MethodName := ⟨RX1, "<init>", "()V"⟩
abbrev cX1_copyFrom : ByteArray := prog_3_method_2_code
def yX1_copyFrom : MethodName := ⟨RX1, "copyFrom", "(LDiskArmSimulator$Drive;)V"⟩
abbrev cX1_spareOfBlock : ByteArray := prog_3_method_3_code
def yX1_spareOfBlock : MethodName := ⟨RX1, "spareOfBlock", "(I)I"⟩
abbrev cX1_takeSpare : ByteArray := prog_3_method_4_code
def yX1_takeSpare : MethodName := ⟨RX1, "takeSpare", "(I)I"⟩
abbrev cX1_placeOfBlock : ByteArray := prog_3_method_5_code
def yX1_placeOfBlock : MethodName := ⟨RX1, "placeOfBlock", "(I)I"⟩
abbrev cX1_accessesAt : ByteArray := prog_3_method_6_code
def yX1_accessesAt : MethodName := ⟨RX1, "accessesAt", "(I)I"⟩
abbrev cX1_ticksOfSeek : ByteArray := prog_3_method_7_code
def yX1_ticksOfSeek : MethodName := ⟨RX1, "ticksOfSeek", "(II)I"⟩
abbrev cX1_angleOfPlace : ByteArray := prog_3_method_8_code
def yX1_angleOfPlace : MethodName := ⟨RX1, "angleOfPlace", "(I)I"⟩
abbrev cX1_ticksToAccess : ByteArray := prog_3_method_9_code
def yX1_ticksToAccess : MethodName := ⟨RX1, "ticksToAccess", "(I)I"⟩
abbrev cX1_ticksOfWait : ByteArray := prog_3_method_10_code
def yX1_ticksOfWait : MethodName := ⟨RX1, "ticksOfWait", "(II)I"⟩
abbrev cX1_access : ByteArray := prog_3_method_11_code
def yX1_access : MethodName := ⟨RX1, "access", "(I)V"⟩
def RX2 : String := "DiskArmSimulator$Geometry"
def TX2 : u_T := fun k => match k with
  | _ => ("", "", "", false)
def tyX2 : Nat → FieldType := fun k => match k with
  | _ => .int
abbrev wsX20 : List Cond := u_ws RX2 TX2 0
theorem nmX2 : ∀ a, a < 0 → ∀ b, b < 0 → a ≠ b → (TX2 a).2.1 ≠ (TX2 b).2.1 := by decide +kernel
theorem tyX2_ok : ∀ k, k < 0 → parseFieldDescriptor (TX2 k).2.2.1 = some (tyX2 k) := by decide +kernel
abbrev cX2_zoneOfPlace : ByteArray := prog_4_method_2_code
def yX2_zoneOfPlace : MethodName := ⟨RX2, "zoneOfPlace", "(I)I"⟩
abbrev cX2_cylinderOfPlace : ByteArray := prog_4_method_3_code
def yX2_cylinderOfPlace : MethodName := ⟨RX2, "cylinderOfPlace", "(I)I"⟩
abbrev cX2_sectorOfPlace : ByteArray := prog_4_method_4_code
def yX2_sectorOfPlace : MethodName := ⟨RX2, "sectorOfPlace", "(I)I"⟩
abbrev cX2_sectorTicksAt : ByteArray := prog_4_method_5_code
def yX2_sectorTicksAt : MethodName := ⟨RX2, "sectorTicksAt", "(I)I"⟩
abbrev cX2_quotient : ByteArray := prog_4_method_6_code
def yX2_quotient : MethodName := ⟨RX2, "quotient", "(II)I"⟩
def RX3 : String := "DiskArmSimulator$OrderSearch"
def TX3 : u_T := fun k => match k with
  | 0 => ("DiskArmSimulator$OrderSearch", "size", "I", false)
  | 1 => ("DiskArmSimulator$OrderSearch", "bestEnd", "I", false)
  | 2 => ("DiskArmSimulator$OrderSearch", "numbers", "[I", true)
  | 3 => ("DiskArmSimulator$OrderSearch", "cylinders", "[I", true)
  | 4 => ("DiskArmSimulator$OrderSearch", "angles", "[I", true)
  | 5 => ("DiskArmSimulator$OrderSearch", "transfers", "[I", true)
  | 6 => ("DiskArmSimulator$OrderSearch", "limits", "[I", true)
  | 7 => ("DiskArmSimulator$OrderSearch", "taken", "[Z", true)
  | 8 => ("DiskArmSimulator$OrderSearch", "order", "[I", true)
  | _ => ("DiskArmSimulator$OrderSearch", "bestOrder", "[I", true)
def tyX3 : Nat → FieldType := fun k => match k with
  | 0 => .int
  | 1 => .int
  | 2 => .array .int
  | 3 => .array .int
  | 4 => .array .int
  | 5 => .array .int
  | 6 => .array .int
  | 7 => .array .boolean
  | 8 => .array .int
  | _ => .array .int
abbrev wsX30 : List Cond := u_ws RX3 TX3 10
theorem nmX3 : ∀ a, a < 10 → ∀ b, b < 10 → a ≠ b → (TX3 a).2.1 ≠ (TX3 b).2.1 := by decide +kernel
theorem tyX3_ok : ∀ k, k < 10 → parseFieldDescriptor (TX3 k).2.2.1 = some (tyX3 k) := by decide +kernel
abbrev cX3_init : ByteArray := prog_5_method_1_code
def yX3_init : MethodName := ⟨RX3, "<init>", "()V"⟩
abbrev cX3_gather : ByteArray := prog_5_method_2_code
def yX3_gather : MethodName := ⟨RX3, "gather", "(LDiskArmSimulator$Requests;LDiskArmSimulator$Drive;ZZ)V"⟩
abbrev cX3_run : ByteArray := prog_5_method_3_code
def yX3_run : MethodName := ⟨RX3, "run", "(LDiskArmSimulator$Drive;)V"⟩
abbrev cX3_hasFound : ByteArray := prog_5_method_4_code
def yX3_hasFound : MethodName := ⟨RX3, "hasFound", "()Z"⟩
abbrev cX3_requestAt : ByteArray := prog_5_method_5_code
def yX3_requestAt : MethodName := ⟨RX3, "requestAt", "(I)I"⟩
abbrev cX3_tryFrom : ByteArray := prog_5_method_6_code
def yX3_tryFrom : MethodName := ⟨RX3, "tryFrom", "(IIILDiskArmSimulator$Drive;)V"⟩
abbrev cX3_tryNext : ByteArray := prog_5_method_7_code
def yX3_tryNext : MethodName := ⟨RX3, "tryNext", "(IIIILDiskArmSimulator$Drive;)V"⟩
def RX4 : String := "DiskArmSimulator$Request"
def TX4 : u_T := fun k => match k with
  | 0 => ("DiskArmSimulator$Request", "number", "I", true)
  | 1 => ("DiskArmSimulator$Request", "block", "I", false)
  | 2 => ("DiskArmSimulator$Request", "arrival", "I", false)
  | 3 => ("DiskArmSimulator$Request", "deadline", "I", false)
  | 4 => ("DiskArmSimulator$Request", "finish", "I", false)
  | _ => ("DiskArmSimulator$Request", "state", "I", false)
def tyX4 : Nat → FieldType := fun k => match k with
  | 0 => .int
  | 1 => .int
  | 2 => .int
  | 3 => .int
  | 4 => .int
  | _ => .int
abbrev wsX40 : List Cond := u_ws RX4 TX4 6
theorem nmX4 : ∀ a, a < 6 → ∀ b, b < 6 → a ≠ b → (TX4 a).2.1 ≠ (TX4 b).2.1 := by decide +kernel
theorem tyX4_ok : ∀ k, k < 6 → parseFieldDescriptor (TX4 k).2.2.1 = some (tyX4 k) := by decide +kernel
abbrev cX4_init : ByteArray := prog_6_method_1_code
def yX4_init : MethodName := ⟨RX4, "<init>", "(I)V"⟩
abbrev cX4_begin : ByteArray := prog_6_method_2_code
def yX4_begin : MethodName := ⟨RX4, "begin", "(III)V"⟩
abbrev cX4_copyFrom : ByteArray := prog_6_method_3_code
def yX4_copyFrom : MethodName := ⟨RX4, "copyFrom", "(LDiskArmSimulator$Request;)V"⟩
abbrev cX4_hasDeadline : ByteArray := prog_6_method_4_code
def yX4_hasDeadline : MethodName := ⟨RX4, "hasDeadline", "()Z"⟩
abbrev cX4_missedDeadline : ByteArray := prog_6_method_5_code
def yX4_missedDeadline : MethodName := ⟨RX4, "missedDeadline", "()Z"⟩
def RX5 : String := "DiskArmSimulator$RequestText"
def TX5 : u_T := fun k => match k with
  | 0 => ("DiskArmSimulator$RequestText", "length", "I", false)
  | 1 => ("DiskArmSimulator$RequestText", "fault", "I", false)
  | 2 => ("DiskArmSimulator$RequestText", "itemCount", "I", false)
  | 3 => ("DiskArmSimulator$RequestText", "kinds", "[I", true)
  | 4 => ("DiskArmSimulator$RequestText", "blocks", "[I", true)
  | 5 => ("DiskArmSimulator$RequestText", "allowances", "[I", true)
  | 6 => ("DiskArmSimulator$RequestText", "position", "I", false)
  | _ => ("DiskArmSimulator$RequestText", "characters", "[I", true)
def tyX5 : Nat → FieldType := fun k => match k with
  | 0 => .int
  | 1 => .int
  | 2 => .int
  | 3 => .array .int
  | 4 => .array .int
  | 5 => .array .int
  | 6 => .int
  | _ => .array .int
abbrev wsX50 : List Cond := u_ws RX5 TX5 8
theorem nmX5 : ∀ a, a < 8 → ∀ b, b < 8 → a ≠ b → (TX5 a).2.1 ≠ (TX5 b).2.1 := by decide +kernel
theorem tyX5_ok : ∀ k, k < 8 → parseFieldDescriptor (TX5 k).2.2.1 = some (tyX5 k) := by decide +kernel
abbrev cX5_init : ByteArray := prog_7_method_1_code
def yX5_init : MethodName := ⟨RX5, "<init>", "()V"⟩
abbrev cX5_append : ByteArray := prog_7_method_2_code
def yX5_append : MethodName := ⟨RX5, "append", "(I)Z"⟩
abbrev cX5_read : ByteArray := prog_7_method_3_code
def yX5_read : MethodName := ⟨RX5, "read", "()Z"⟩
abbrev cX5_readItems : ByteArray := prog_7_method_4_code
def yX5_readItems : MethodName := ⟨RX5, "readItems", "()Z"⟩
abbrev cX5_readItem : ByteArray := prog_7_method_5_code
def yX5_readItem : MethodName := ⟨RX5, "readItem", "()Z"⟩
abbrev cX5_keepItem : ByteArray := prog_7_method_6_code
def yX5_keepItem : MethodName := ⟨RX5, "keepItem", "(III)Z"⟩
abbrev cX5_readNumber : ByteArray := prog_7_method_7_code
def yX5_readNumber : MethodName := ⟨RX5, "readNumber", "(I)I"⟩
abbrev cX5_skip : ByteArray := prog_7_method_8_code
def yX5_skip : MethodName := ⟨RX5, "skip", "(I)Z"⟩
abbrev cX5_current : ByteArray := prog_7_method_9_code
def yX5_current : MethodName := ⟨RX5, "current", "()I"⟩
def RX6 : String := "DiskArmSimulator$Requests"
def TX6 : u_T := fun k => match k with
  | 0 => ("DiskArmSimulator$Requests", "count", "I", false)
  | 1 => ("DiskArmSimulator$Requests", "pending", "I", false)
  | _ => ("DiskArmSimulator$Requests", "rows", "[LDiskArmSimulator$Request;", true)
def tyX6 : Nat → FieldType := fun k => match k with
  | 0 => .int
  | 1 => .int
  | _ => .array (.object "DiskArmSimulator$Request")
abbrev wsX60 : List Cond := u_ws RX6 TX6 3
theorem nmX6 : ∀ a, a < 3 → ∀ b, b < 3 → a ≠ b → (TX6 a).2.1 ≠ (TX6 b).2.1 := by decide +kernel
theorem tyX6_ok : ∀ k, k < 3 → parseFieldDescriptor (TX6 k).2.2.1 = some (tyX6 k) := by decide +kernel
abbrev cX6_init : ByteArray := prog_8_method_1_code
def yX6_init : MethodName := ⟨RX6, "<init>", "()V"⟩
abbrev cX6_copyFrom : ByteArray := prog_8_method_2_code
def yX6_copyFrom : MethodName := ⟨RX6, "copyFrom", "(LDiskArmSimulator$Requests;)V"⟩
abbrev cX6_rowAt : ByteArray := prog_8_method_3_code
def yX6_rowAt : MethodName := ⟨RX6, "rowAt", "(I)LDiskArmSimulator$Request;"⟩
abbrev cX6_find : ByteArray := prog_8_method_4_code
def yX6_find : MethodName := ⟨RX6, "find", "(I)LDiskArmSimulator$Request;"⟩
abbrev cX6_findPending : ByteArray := prog_8_method_5_code
def yX6_findPending : MethodName := ⟨RX6, "findPending", "(I)LDiskArmSimulator$Request;"⟩
abbrev cX6_findFinished : ByteArray := prog_8_method_6_code
def yX6_findFinished : MethodName := ⟨RX6, "findFinished", "(I)LDiskArmSimulator$Request;"⟩
abbrev cX6_add : ByteArray := prog_8_method_7_code
def yX6_add : MethodName := ⟨RX6, "add", "(III)LDiskArmSimulator$Request;"⟩
abbrev cX6_finishPending : ByteArray := prog_8_method_8_code
def yX6_finishPending : MethodName := ⟨RX6, "finishPending", "(LDiskArmSimulator$Request;I)V"⟩
abbrev cX6_cancelPending : ByteArray := prog_8_method_9_code
def yX6_cancelPending : MethodName := ⟨RX6, "cancelPending", "(LDiskArmSimulator$Request;)V"⟩
abbrev cX6_countFinished : ByteArray := prog_8_method_10_code
def yX6_countFinished : MethodName := ⟨RX6, "countFinished", "()I"⟩
abbrev cX6_sumOfResponses : ByteArray := prog_8_method_11_code
def yX6_sumOfResponses : MethodName := ⟨RX6, "sumOfResponses", "()I"⟩
abbrev cX6_countFinishedWithDeadline : ByteArray := prog_8_method_12_code
def yX6_countFinishedWithDeadline : MethodName := ⟨RX6, "countFinishedWithDeadline", "()I"⟩
abbrev cX6_countLate : ByteArray := prog_8_method_13_code
def yX6_countLate : MethodName := ⟨RX6, "countLate", "()I"⟩
def RX7 : String := "DiskArmSimulator$Scheduler"
def TX7 : u_T := fun k => match k with
  | 0 => ("DiskArmSimulator$Scheduler", "policy", "I", false)
  | 1 => ("DiskArmSimulator$Scheduler", "upward", "Z", false)
  | 2 => ("DiskArmSimulator$Scheduler", "width", "I", false)
  | _ => ("DiskArmSimulator$Scheduler", "aging", "I", false)
def tyX7 : Nat → FieldType := fun k => match k with
  | 0 => .int
  | 1 => .boolean
  | 2 => .int
  | _ => .int
abbrev wsX70 : List Cond := u_ws RX7 TX7 4
theorem nmX7 : ∀ a, a < 4 → ∀ b, b < 4 → a ≠ b → (TX7 a).2.1 ≠ (TX7 b).2.1 := by decide +kernel
theorem tyX7_ok : ∀ k, k < 4 → parseFieldDescriptor (TX7 k).2.2.1 = some (tyX7 k) := by decide +kernel
abbrev cX7_init : ByteArray := prog_9_method_1_code
def yX7_init : MethodName := ⟨RX7, "<init>", "()V"⟩
abbrev cX7_copyFrom : ByteArray := prog_9_method_2_code
def yX7_copyFrom : MethodName := ⟨RX7, "copyFrom", "(LDiskArmSimulator$Scheduler;)V"⟩
abbrev cX7_choose : ByteArray := prog_9_method_3_code
def yX7_choose : MethodName := ⟨RX7, "choose", "(LDiskArmSimulator$Requests;LDiskArmSimulator$Drive;LDiskArmSimulator$OrderSearch;)I"⟩
abbrev cX7_keyOf : ByteArray := prog_9_method_4_code
def yX7_keyOf : MethodName := ⟨RX7, "keyOf", "(LDiskArmSimulator$Request;LDiskArmSimulator$Drive;)I"⟩
abbrev cX7_isAhead : ByteArray := prog_9_method_5_code
def yX7_isAhead : MethodName := ⟨RX7, "isAhead", "(II)Z"⟩
abbrev cX7_turnFor : ByteArray := prog_9_method_6_code
def yX7_turnFor : MethodName := ⟨RX7, "turnFor", "(II)V"⟩
abbrev cX7_bucketOf : ByteArray := prog_9_method_7_code
def yX7_bucketOf : MethodName := ⟨RX7, "bucketOf", "(LDiskArmSimulator$Request;I)I"⟩
def RX8 : String := "DiskArmSimulator$State"
def TX8 : u_T := fun k => match k with
  | 0 => ("DiskArmSimulator$State", "drive", "LDiskArmSimulator$Drive;", true)
  | 1 => ("DiskArmSimulator$State", "requests", "LDiskArmSimulator$Requests;", true)
  | 2 => ("DiskArmSimulator$State", "scheduler", "LDiskArmSimulator$Scheduler;", true)
  | _ => ("DiskArmSimulator$State", "cache", "LDiskArmSimulator$Cache;", true)
def tyX8 : Nat → FieldType := fun k => match k with
  | 0 => .object "DiskArmSimulator$Drive"
  | 1 => .object "DiskArmSimulator$Requests"
  | 2 => .object "DiskArmSimulator$Scheduler"
  | _ => .object "DiskArmSimulator$Cache"
abbrev wsX80 : List Cond := u_ws RX8 TX8 4
theorem nmX8 : ∀ a, a < 4 → ∀ b, b < 4 → a ≠ b → (TX8 a).2.1 ≠ (TX8 b).2.1 := by decide +kernel
theorem tyX8_ok : ∀ k, k < 4 → parseFieldDescriptor (TX8 k).2.2.1 = some (tyX8 k) := by decide +kernel
abbrev cX8_init : ByteArray := prog_10_method_1_code
def yX8_init : MethodName := ⟨RX8, "<init>", "()V"⟩
abbrev cX8_copyFrom : ByteArray := prog_10_method_2_code
def yX8_copyFrom : MethodName := ⟨RX8, "copyFrom", "(LDiskArmSimulator$State;)V"⟩
abbrev cX8_hasRoomFor : ByteArray := prog_10_method_3_code
def yX8_hasRoomFor : MethodName := ⟨RX8, "hasRoomFor", "(II)Z"⟩
abbrev cX8_accept : ByteArray := prog_10_method_4_code
def yX8_accept : MethodName := ⟨RX8, "accept", "(III)I"⟩
abbrev cX8_serveChosen : ByteArray := prog_10_method_5_code
def yX8_serveChosen : MethodName := ⟨RX8, "serveChosen", "(LDiskArmSimulator$OrderSearch;)I"⟩
def RX9 : String := "DiskArmSimulator"
def TX9 : u_T := fun k => match k with
  | 0 => ("DiskArmSimulator", "now", "LDiskArmSimulator$State;", true)
  | 1 => ("DiskArmSimulator", "search", "LDiskArmSimulator$OrderSearch;", true)
  | 2 => ("DiskArmSimulator", "text", "LDiskArmSimulator$RequestText;", true)
  | _ => ("DiskArmSimulator", "saved", "LDiskArmSimulator$State;", false)
def tyX9 : Nat → FieldType := fun k => match k with
  | 0 => .object "DiskArmSimulator$State"
  | 1 => .object "DiskArmSimulator$OrderSearch"
  | 2 => .object "DiskArmSimulator$RequestText"
  | _ => .object "DiskArmSimulator$State"
abbrev wsX90 : List Cond := u_ws RX9 TX9 4
theorem nmX9 : ∀ a, a < 4 → ∀ b, b < 4 → a ≠ b → (TX9 a).2.1 ≠ (TX9 b).2.1 := by decide +kernel
theorem tyX9_ok : ∀ k, k < 4 → parseFieldDescriptor (TX9 k).2.2.1 = some (tyX9 k) := by decide +kernel
abbrev cX9_init : ByteArray := prog_1_method_1_code
def yX9_init : MethodName := ⟨RX9, "<init>", "()V"⟩
abbrev cX9_setCurve : ByteArray := prog_1_method_2_code
def yX9_setCurve : MethodName := ⟨RX9, "setCurve", "(III)V"⟩
abbrev cX9_setSkew : ByteArray := prog_1_method_3_code
def yX9_setSkew : MethodName := ⟨RX9, "setSkew", "(I)I"⟩
abbrev cX9_setPolicy : ByteArray := prog_1_method_4_code
def yX9_setPolicy : MethodName := ⟨RX9, "setPolicy", "(I)I"⟩
abbrev cX9_setBuckets : ByteArray := prog_1_method_5_code
def yX9_setBuckets : MethodName := ⟨RX9, "setBuckets", "(II)V"⟩
abbrev cX9_setWriteBack : ByteArray := prog_1_method_6_code
def yX9_setWriteBack : MethodName := ⟨RX9, "setWriteBack", "(Z)Z"⟩
abbrev cX9_seekTime : ByteArray := prog_1_method_7_code
def yX9_seekTime : MethodName := ⟨RX9, "seekTime", "(II)I"⟩
abbrev cX9_placeOf : ByteArray := prog_1_method_8_code
def yX9_placeOf : MethodName := ⟨RX9, "placeOf", "(I)I"⟩
abbrev cX9_cylinderOf : ByteArray := prog_1_method_9_code
def yX9_cylinderOf : MethodName := ⟨RX9, "cylinderOf", "(I)I"⟩
abbrev cX9_sectorOf : ByteArray := prog_1_method_10_code
def yX9_sectorOf : MethodName := ⟨RX9, "sectorOf", "(I)I"⟩
abbrev cX9_startAngle : ByteArray := prog_1_method_11_code
def yX9_startAngle : MethodName := ⟨RX9, "startAngle", "(I)I"⟩
abbrev cX9_accessTime : ByteArray := prog_1_method_12_code
def yX9_accessTime : MethodName := ⟨RX9, "accessTime", "(I)I"⟩
abbrev cX9_moveToSpare : ByteArray := prog_1_method_13_code
def yX9_moveToSpare : MethodName := ⟨RX9, "moveToSpare", "(I)I"⟩
abbrev cX9_accessesOf : ByteArray := prog_1_method_14_code
def yX9_accessesOf : MethodName := ⟨RX9, "accessesOf", "(I)I"⟩
abbrev cX9_clock : ByteArray := prog_1_method_15_code
def yX9_clock : MethodName := ⟨RX9, "clock", "()I"⟩
abbrev cX9_arm : ByteArray := prog_1_method_16_code
def yX9_arm : MethodName := ⟨RX9, "arm", "()I"⟩
abbrev cX9_isUpward : ByteArray := prog_1_method_17_code
def yX9_isUpward : MethodName := ⟨RX9, "isUpward", "()Z"⟩
abbrev cX9_idle : ByteArray := prog_1_method_18_code
def yX9_idle : MethodName := ⟨RX9, "idle", "(I)I"⟩
abbrev cX9_submit : ByteArray := prog_1_method_19_code
def yX9_submit : MethodName := ⟨RX9, "submit", "(III)I"⟩
abbrev cX9_appendCharacter : ByteArray := prog_1_method_20_code
def yX9_appendCharacter : MethodName := ⟨RX9, "appendCharacter", "(I)I"⟩
abbrev cX9_submitText : ByteArray := prog_1_method_21_code
def yX9_submitText : MethodName := ⟨RX9, "submitText", "()I"⟩
abbrev cX9_faultPosition : ByteArray := prog_1_method_22_code
def yX9_faultPosition : MethodName := ⟨RX9, "faultPosition", "()I"⟩
abbrev cX9_cancel : ByteArray := prog_1_method_23_code
def yX9_cancel : MethodName := ⟨RX9, "cancel", "(I)V"⟩
abbrev cX9_next : ByteArray := prog_1_method_24_code
def yX9_next : MethodName := ⟨RX9, "next", "()I"⟩
abbrev cX9_serve : ByteArray := prog_1_method_25_code
def yX9_serve : MethodName := ⟨RX9, "serve", "()I"⟩
abbrev cX9_serveFor : ByteArray := prog_1_method_26_code
def yX9_serveFor : MethodName := ⟨RX9, "serveFor", "(I)I"⟩
abbrev cX9_flush : ByteArray := prog_1_method_27_code
def yX9_flush : MethodName := ⟨RX9, "flush", "()I"⟩
abbrev cX9_dirtyBlocks : ByteArray := prog_1_method_28_code
def yX9_dirtyBlocks : MethodName := ⟨RX9, "dirtyBlocks", "()I"⟩
abbrev cX9_pendingRequests : ByteArray := prog_1_method_29_code
def yX9_pendingRequests : MethodName := ⟨RX9, "pendingRequests", "()I"⟩
abbrev cX9_state : ByteArray := prog_1_method_30_code
def yX9_state : MethodName := ⟨RX9, "state", "(I)I"⟩
abbrev cX9_bucket : ByteArray := prog_1_method_31_code
def yX9_bucket : MethodName := ⟨RX9, "bucket", "(I)I"⟩
abbrev cX9_finish : ByteArray := prog_1_method_32_code
def yX9_finish : MethodName := ⟨RX9, "finish", "(I)I"⟩
abbrev cX9_isLate : ByteArray := prog_1_method_33_code
def yX9_isLate : MethodName := ⟨RX9, "isLate", "(I)Z"⟩
abbrev cX9_bestFinish : ByteArray := prog_1_method_34_code
def yX9_bestFinish : MethodName := ⟨RX9, "bestFinish", "()I"⟩
abbrev cX9_bestRequest : ByteArray := prog_1_method_35_code
def yX9_bestRequest : MethodName := ⟨RX9, "bestRequest", "(I)I"⟩
abbrev cX9_canMeetDeadlines : ByteArray := prog_1_method_36_code
def yX9_canMeetDeadlines : MethodName := ⟨RX9, "canMeetDeadlines", "()Z"⟩
abbrev cX9_total : ByteArray := prog_1_method_37_code
def yX9_total : MethodName := ⟨RX9, "total", "(I)I"⟩
abbrev cX9_utilization : ByteArray := prog_1_method_38_code
def yX9_utilization : MethodName := ⟨RX9, "utilization", "()D"⟩
abbrev cX9_averageResponse : ByteArray := prog_1_method_39_code
def yX9_averageResponse : MethodName := ⟨RX9, "averageResponse", "()D"⟩
abbrev cX9_lateShare : ByteArray := prog_1_method_40_code
def yX9_lateShare : MethodName := ⟨RX9, "lateShare", "()F"⟩
abbrev cX9_save : ByteArray := prog_1_method_41_code
def yX9_save : MethodName := ⟨RX9, "save", "()V"⟩
abbrev cX9_restore : ByteArray := prog_1_method_42_code
def yX9_restore : MethodName := ⟨RX9, "restore", "()I"⟩
abbrev cX9_isWithin : ByteArray := prog_1_method_43_code
def yX9_isWithin : MethodName := ⟨RX9, "isWithin", "(III)Z"⟩
abbrev cX9_isBlock : ByteArray := prog_1_method_44_code
def yX9_isBlock : MethodName := ⟨RX9, "isBlock", "(I)Z"⟩
abbrev cX9_requireBlock : ByteArray := prog_1_method_45_code
def yX9_requireBlock : MethodName := ⟨RX9, "requireBlock", "(I)V"⟩
abbrev cX9_requireRequest : ByteArray := prog_1_method_46_code
def yX9_requireRequest : MethodName := ⟨RX9, "requireRequest", "(I)LDiskArmSimulator$Request;"⟩
abbrev cX9_requireFewPending : ByteArray := prog_1_method_47_code
def yX9_requireFewPending : MethodName := ⟨RX9, "requireFewPending", "()V"⟩
abbrev cX9_requireTimeToAccess : ByteArray := prog_1_method_48_code
def yX9_requireTimeToAccess : MethodName := ⟨RX9, "requireTimeToAccess", "()V"⟩
abbrev cX9_copyNumbers : ByteArray := prog_1_method_49_code
def yX9_copyNumbers : MethodName := ⟨RX9, "copyNumbers", "([I[I)V"⟩
def RX10 : String := "DiskArmSimulatorModel"
def TX10 : u_T := fun k => match k with
  | 0 => ("DiskArmSimulatorModel", "g", "[I", true)
  | 1 => ("DiskArmSimulatorModel", "kept", "[I", true)
  | 2 => ("DiskArmSimulatorModel", "hasKept", "Z", false)
  | 3 => ("DiskArmSimulatorModel", "thrown", "I", false)
  | 4 => ("DiskArmSimulatorModel", "text", "[I", true)
  | 5 => ("DiskArmSimulatorModel", "length", "I", false)
  | 6 => ("DiskArmSimulatorModel", "spot", "I", false)
  | 7 => ("DiskArmSimulatorModel", "value", "I", false)
  | 8 => ("DiskArmSimulatorModel", "fault", "I", false)
  | 9 => ("DiskArmSimulatorModel", "item", "[I", true)
  | 10 => ("DiskArmSimulatorModel", "items", "I", false)
  | 11 => ("DiskArmSimulatorModel", "few", "[I", true)
  | 12 => ("DiskArmSimulatorModel", "order", "[I", true)
  | 13 => ("DiskArmSimulatorModel", "best", "[I", true)
  | 14 => ("DiskArmSimulatorModel", "isUsed", "[Z", true)
  | 15 => ("DiskArmSimulatorModel", "fews", "I", false)
  | 16 => ("DiskArmSimulatorModel", "bestEnd", "I", false)
  | _ => ("DiskArmSimulatorModel", "mindDeadlines", "Z", false)
def tyX10 : Nat → FieldType := fun k => match k with
  | 0 => .array .int
  | 1 => .array .int
  | 2 => .boolean
  | 3 => .int
  | 4 => .array .int
  | 5 => .int
  | 6 => .int
  | 7 => .int
  | 8 => .int
  | 9 => .array .int
  | 10 => .int
  | 11 => .array .int
  | 12 => .array .int
  | 13 => .array .int
  | 14 => .array .boolean
  | 15 => .int
  | 16 => .int
  | _ => .boolean
abbrev wsX100 : List Cond := u_ws RX10 TX10 18
theorem nmX10 : ∀ a, a < 18 → ∀ b, b < 18 → a ≠ b → (TX10 a).2.1 ≠ (TX10 b).2.1 := by decide +kernel
theorem tyX10_ok : ∀ k, k < 18 → parseFieldDescriptor (TX10 k).2.2.1 = some (tyX10 k) := by decide +kernel
abbrev cX10_init : ByteArray := prog_12_method_1_code
def yX10_init : MethodName := ⟨RX10, "<init>", "()V"⟩
abbrev cX10_thrown : ByteArray := prog_12_method_2_code
def yX10_thrown : MethodName := ⟨RX10, "thrown", "()I"⟩
abbrev cX10_fails : ByteArray := prog_12_method_3_code
def yX10_fails : MethodName := ⟨RX10, "fails", "(I)I"⟩
abbrev cX10_in : ByteArray := prog_12_method_4_code
def yX10_in : MethodName := ⟨RX10, "in", "(III)Z"⟩
abbrev cX10_isBlock : ByteArray := prog_12_method_5_code
def yX10_isBlock : MethodName := ⟨RX10, "isBlock", "(I)Z"⟩
abbrev cX10_isRequest : ByteArray := prog_12_method_6_code
def yX10_isRequest : MethodName := ⟨RX10, "isRequest", "(I)Z"⟩
abbrev cX10_sectorsOf : ByteArray := prog_12_method_7_code
def yX10_sectorsOf : MethodName := ⟨RX10, "sectorsOf", "(I)I"⟩
abbrev cX10_ticksOf : ByteArray := prog_12_method_8_code
def yX10_ticksOf : MethodName := ⟨RX10, "ticksOf", "(I)I"⟩
abbrev cX10_zoneAt : ByteArray := prog_12_method_9_code
def yX10_zoneAt : MethodName := ⟨RX10, "zoneAt", "(I)I"⟩
abbrev cX10_firstOf : ByteArray := prog_12_method_10_code
def yX10_firstOf : MethodName := ⟨RX10, "firstOf", "(I)I"⟩
abbrev cX10_cylinderAt : ByteArray := prog_12_method_11_code
def yX10_cylinderAt : MethodName := ⟨RX10, "cylinderAt", "(I)I"⟩
abbrev cX10_place : ByteArray := prog_12_method_12_code
def yX10_place : MethodName := ⟨RX10, "place", "(I)I"⟩
abbrev cX10_angleAt : ByteArray := prog_12_method_13_code
def yX10_angleAt : MethodName := ⟨RX10, "angleAt", "(I)I"⟩
abbrev cX10_rootOf : ByteArray := prog_12_method_14_code
def yX10_rootOf : MethodName := ⟨RX10, "rootOf", "(I)I"⟩
abbrev cX10_seek : ByteArray := prog_12_method_15_code
def yX10_seek : MethodName := ⟨RX10, "seek", "(II)I"⟩
abbrev cX10_waits : ByteArray := prog_12_method_16_code
def yX10_waits : MethodName := ⟨RX10, "waits", "(II)I"⟩
abbrev cX10_ends : ByteArray := prog_12_method_17_code
def yX10_ends : MethodName := ⟨RX10, "ends", "(III)I"⟩
abbrev cX10_accesses : ByteArray := prog_12_method_18_code
def yX10_accesses : MethodName := ⟨RX10, "accesses", "(I)V"⟩
abbrev cX10_setCurve : ByteArray := prog_12_method_19_code
def yX10_setCurve : MethodName := ⟨RX10, "setCurve", "(III)V"⟩
abbrev cX10_becomes : ByteArray := prog_12_method_20_code
def yX10_becomes : MethodName := ⟨RX10, "becomes", "(II)I"⟩
abbrev cX10_setSkew : ByteArray := prog_12_method_21_code
def yX10_setSkew : MethodName := ⟨RX10, "setSkew", "(I)I"⟩
abbrev cX10_setPolicy : ByteArray := prog_12_method_22_code
def yX10_setPolicy : MethodName := ⟨RX10, "setPolicy", "(I)I"⟩
abbrev cX10_setBuckets : ByteArray := prog_12_method_23_code
def yX10_setBuckets : MethodName := ⟨RX10, "setBuckets", "(II)V"⟩
abbrev cX10_dirty : ByteArray := prog_12_method_24_code
def yX10_dirty : MethodName := ⟨RX10, "dirty", "()I"⟩
abbrev cX10_setWriteBack : ByteArray := prog_12_method_25_code
def yX10_setWriteBack : MethodName := ⟨RX10, "setWriteBack", "(Z)Z"⟩
abbrev cX10_seekTime : ByteArray := prog_12_method_26_code
def yX10_seekTime : MethodName := ⟨RX10, "seekTime", "(II)I"⟩
abbrev cX10_placeOf : ByteArray := prog_12_method_27_code
def yX10_placeOf : MethodName := ⟨RX10, "placeOf", "(I)I"⟩
abbrev cX10_cylinderOf : ByteArray := prog_12_method_28_code
def yX10_cylinderOf : MethodName := ⟨RX10, "cylinderOf", "(I)I"⟩
abbrev cX10_sectorOf : ByteArray := prog_12_method_29_code
def yX10_sectorOf : MethodName := ⟨RX10, "sectorOf", "(I)I"⟩
abbrev cX10_startAngle : ByteArray := prog_12_method_30_code
def yX10_startAngle : MethodName := ⟨RX10, "startAngle", "(I)I"⟩
abbrev cX10_takes : ByteArray := prog_12_method_31_code
def yX10_takes : MethodName := ⟨RX10, "takes", "(I)I"⟩
abbrev cX10_accessTime : ByteArray := prog_12_method_32_code
def yX10_accessTime : MethodName := ⟨RX10, "accessTime", "(I)I"⟩
abbrev cX10_moveToSpare : ByteArray := prog_12_method_33_code
def yX10_moveToSpare : MethodName := ⟨RX10, "moveToSpare", "(I)I"⟩
abbrev cX10_accessesOf : ByteArray := prog_12_method_34_code
def yX10_accessesOf : MethodName := ⟨RX10, "accessesOf", "(I)I"⟩
abbrev cX10_clock : ByteArray := prog_12_method_35_code
def yX10_clock : MethodName := ⟨RX10, "clock", "()I"⟩
abbrev cX10_arm : ByteArray := prog_12_method_36_code
def yX10_arm : MethodName := ⟨RX10, "arm", "()I"⟩
abbrev cX10_isUpward : ByteArray := prog_12_method_37_code
def yX10_isUpward : MethodName := ⟨RX10, "isUpward", "()Z"⟩
abbrev cX10_idle : ByteArray := prog_12_method_38_code
def yX10_idle : MethodName := ⟨RX10, "idle", "(I)I"⟩
abbrev cX10_isPending : ByteArray := prog_12_method_39_code
def yX10_isPending : MethodName := ⟨RX10, "isPending", "(I)Z"⟩
abbrev cX10_pending : ByteArray := prog_12_method_40_code
def yX10_pending : MethodName := ⟨RX10, "pending", "()I"⟩
abbrev cX10_refusal : ByteArray := prog_12_method_41_code
def yX10_refusal : MethodName := ⟨RX10, "refusal", "(III)I"⟩
abbrev cX10_comes : ByteArray := prog_12_method_42_code
def yX10_comes : MethodName := ⟨RX10, "comes", "(III)I"⟩
abbrev cX10_submit : ByteArray := prog_12_method_43_code
def yX10_submit : MethodName := ⟨RX10, "submit", "(III)I"⟩
abbrev cX10_appendCharacter : ByteArray := prog_12_method_44_code
def yX10_appendCharacter : MethodName := ⟨RX10, "appendCharacter", "(I)I"⟩
abbrev cX10_here : ByteArray := prog_12_method_45_code
def yX10_here : MethodName := ⟨RX10, "here", "()I"⟩
abbrev cX10_skips : ByteArray := prog_12_method_46_code
def yX10_skips : MethodName := ⟨RX10, "skips", "(I)Z"⟩
abbrev cX10_digits : ByteArray := prog_12_method_47_code
def yX10_digits : MethodName := ⟨RX10, "digits", "(I)Z"⟩
abbrev cX10_isItem : ByteArray := prog_12_method_48_code
def yX10_isItem : MethodName := ⟨RX10, "isItem", "()Z"⟩
abbrev cX10_faultOf : ByteArray := prog_12_method_49_code
def yX10_faultOf : MethodName := ⟨RX10, "faultOf", "()I"⟩
abbrev cX10_submitText : ByteArray := prog_12_method_50_code
def yX10_submitText : MethodName := ⟨RX10, "submitText", "()I"⟩
abbrev cX10_faultPosition : ByteArray := prog_12_method_51_code
def yX10_faultPosition : MethodName := ⟨RX10, "faultPosition", "()I"⟩
abbrev cX10_cancel : ByteArray := prog_12_method_52_code
def yX10_cancel : MethodName := ⟨RX10, "cancel", "(I)V"⟩
abbrev cX10_cylinder : ByteArray := prog_12_method_53_code
def yX10_cylinder : MethodName := ⟨RX10, "cylinder", "(I)I"⟩
abbrev cX10_distance : ByteArray := prog_12_method_54_code
def yX10_distance : MethodName := ⟨RX10, "distance", "(I)I"⟩
abbrev cX10_isAhead : ByteArray := prog_12_method_55_code
def yX10_isAhead : MethodName := ⟨RX10, "isAhead", "(I)Z"⟩
abbrev cX10_bucketOf : ByteArray := prog_12_method_56_code
def yX10_bucketOf : MethodName := ⟨RX10, "bucketOf", "(I)I"⟩
abbrev cX10_keyOf : ByteArray := prog_12_method_57_code
def yX10_keyOf : MethodName := ⟨RX10, "keyOf", "(II)I"⟩
abbrev cX10_least : ByteArray := prog_12_method_58_code
def yX10_least : MethodName := ⟨RX10, "least", "(I)I"⟩
abbrev cX10_goes : ByteArray := prog_12_method_59_code
def yX10_goes : MethodName := ⟨RX10, "goes", "(III)V"⟩
abbrev cX10_searches : ByteArray := prog_12_method_60_code
def yX10_searches : MethodName := ⟨RX10, "searches", "(ZZI)V"⟩
abbrev cX10_chosen : ByteArray := prog_12_method_61_code
def yX10_chosen : MethodName := ⟨RX10, "chosen", "()I"⟩
abbrev cX10_next : ByteArray := prog_12_method_62_code
def yX10_next : MethodName := ⟨RX10, "next", "()I"⟩
abbrev cX10_serves : ByteArray := prog_12_method_63_code
def yX10_serves : MethodName := ⟨RX10, "serves", "()I"⟩
abbrev cX10_serve : ByteArray := prog_12_method_64_code
def yX10_serve : MethodName := ⟨RX10, "serve", "()I"⟩
abbrev cX10_serveFor : ByteArray := prog_12_method_65_code
def yX10_serveFor : MethodName := ⟨RX10, "serveFor", "(I)I"⟩
abbrev cX10_dirtyFrom : ByteArray := prog_12_method_66_code
def yX10_dirtyFrom : MethodName := ⟨RX10, "dirtyFrom", "(II)I"⟩
abbrev cX10_flush : ByteArray := prog_12_method_67_code
def yX10_flush : MethodName := ⟨RX10, "flush", "()I"⟩
abbrev cX10_dirtyBlocks : ByteArray := prog_12_method_68_code
def yX10_dirtyBlocks : MethodName := ⟨RX10, "dirtyBlocks", "()I"⟩
abbrev cX10_pendingRequests : ByteArray := prog_12_method_69_code
def yX10_pendingRequests : MethodName := ⟨RX10, "pendingRequests", "()I"⟩
abbrev cX10_state : ByteArray := prog_12_method_70_code
def yX10_state : MethodName := ⟨RX10, "state", "(I)I"⟩
abbrev cX10_bucket : ByteArray := prog_12_method_71_code
def yX10_bucket : MethodName := ⟨RX10, "bucket", "(I)I"⟩
abbrev cX10_finish : ByteArray := prog_12_method_72_code
def yX10_finish : MethodName := ⟨RX10, "finish", "(I)I"⟩
abbrev cX10_isBehind : ByteArray := prog_12_method_73_code
def yX10_isBehind : MethodName := ⟨RX10, "isBehind", "(I)Z"⟩
abbrev cX10_isLate : ByteArray := prog_12_method_74_code
def yX10_isLate : MethodName := ⟨RX10, "isLate", "(I)Z"⟩
abbrev cX10_bestFinish : ByteArray := prog_12_method_75_code
def yX10_bestFinish : MethodName := ⟨RX10, "bestFinish", "()I"⟩
abbrev cX10_bestRequest : ByteArray := prog_12_method_76_code
def yX10_bestRequest : MethodName := ⟨RX10, "bestRequest", "(I)I"⟩
abbrev cX10_canMeetDeadlines : ByteArray := prog_12_method_77_code
def yX10_canMeetDeadlines : MethodName := ⟨RX10, "canMeetDeadlines", "()Z"⟩
abbrev cX10_total : ByteArray := prog_12_method_78_code
def yX10_total : MethodName := ⟨RX10, "total", "(I)I"⟩
abbrev cX10_utilization : ByteArray := prog_12_method_79_code
def yX10_utilization : MethodName := ⟨RX10, "utilization", "()D"⟩
abbrev cX10_averageResponse : ByteArray := prog_12_method_80_code
def yX10_averageResponse : MethodName := ⟨RX10, "averageResponse", "()D"⟩
abbrev cX10_lateShare : ByteArray := prog_12_method_81_code
def yX10_lateShare : MethodName := ⟨RX10, "lateShare", "()F"⟩
abbrev cX10_save : ByteArray := prog_12_method_82_code
def yX10_save : MethodName := ⟨RX10, "save", "()V"⟩
abbrev cX10_restore : ByteArray := prog_12_method_83_code
def yX10_restore : MethodName := ⟨RX10, "restore", "()I"⟩
def RJx145de : String := "java/io/Serializable"
def TJx145de : u_T := fun k => match k with
  | _ => ("", "", "", false)
def tyJx145de : Nat → FieldType := fun k => match k with
  | _ => .int
abbrev wsJx145de0 : List Cond := u_ws RJx145de TJx145de 0
theorem nmJx145de : ∀ a, a < 0 → ∀ b, b < 0 → a ≠ b → (TJx145de a).2.1 ≠ (TJx145de b).2.1 := by decide +kernel
theorem tyJx145de_ok : ∀ k, k < 0 → parseFieldDescriptor (TJx145de k).2.2.1 = some (tyJx145de k) := by decide +kernel
def RJx00060 : String := "java/lang/ArrayIndexOutOfBoundsException"
def TJx00060 : u_T := fun k => match k with
  | 0 => ("java/lang/Throwable", "backtrace", "Ljava/lang/Object;", false)
  | 1 => ("java/lang/Throwable", "detailMessage", "Ljava/lang/String;", false)
  | 2 => ("java/lang/Throwable", "cause", "Ljava/lang/Throwable;", false)
  | 3 => ("java/lang/Throwable", "stackTrace", "[Ljava/lang/StackTraceElement;", false)
  | 4 => ("java/lang/Throwable", "depth", "I", false)
  | _ => ("java/lang/Throwable", "suppressedExceptions", "Ljava/util/List;", false)
def tyJx00060 : Nat → FieldType := fun k => match k with
  | 0 => .object "java/lang/Object"
  | 1 => .object "java/lang/String"
  | 2 => .object "java/lang/Throwable"
  | 3 => .array (.object "java/lang/StackTraceElement")
  | 4 => .int
  | _ => .object "java/util/List"
abbrev wsJx000600 : List Cond := u_ws RJx00060 TJx00060 6
theorem nmJx00060 : ∀ a, a < 6 → ∀ b, b < 6 → a ≠ b → (TJx00060 a).2.1 ≠ (TJx00060 b).2.1 := by decide +kernel
theorem tyJx00060_ok : ∀ k, k < 6 → parseFieldDescriptor (TJx00060 k).2.2.1 = some (tyJx00060 k) := by decide +kernel
abbrev cJx00060_init_a7421 : ByteArray := prog_15_method_2_code
def yJx00060_init_a7421 : MethodName := ⟨RJx00060, "<init>", "(Ljava/lang/String;)V"⟩
def RJ9 : String := "java/lang/Math"
def TJ9 : u_T := fun k => match k with
  | _ => ("", "", "", false)
def tyJ9 : Nat → FieldType := fun k => match k with
  | _ => .int
abbrev wsJ90 : List Cond := u_ws RJ9 TJ9 0
theorem nmJ9 : ∀ a, a < 0 → ∀ b, b < 0 → a ≠ b → (TJ9 a).2.1 ≠ (TJ9 b).2.1 := by decide +kernel
theorem tyJ9_ok : ∀ k, k < 0 → parseFieldDescriptor (TJ9 k).2.2.1 = some (tyJ9 k) := by decide +kernel
abbrev cJ9_floorMod_7cf53 : ByteArray := prog_20_method_50_code
def yJ9_floorMod_7cf53 : MethodName := ⟨RJ9, "floorMod", "(II)I"⟩
abbrev cJ9_abs_0f7a4 : ByteArray := prog_20_method_59_code
def yJ9_abs_0f7a4 : MethodName := ⟨RJ9, "abs", "(I)I"⟩
abbrev cJ9_max_7cf53 : ByteArray := prog_20_method_65_code
def yJ9_max_7cf53 : MethodName := ⟨RJ9, "max", "(II)I"⟩
abbrev cJ9_min_7cf53 : ByteArray := prog_20_method_69_code
def yJ9_min_7cf53 : MethodName := ⟨RJ9, "min", "(II)I"⟩
def RJ0 : String := "java/lang/String"
def TJ0 : u_T := fun k => match k with
  | 0 => ("java/lang/String", "value", "[B", true)
  | _ => ("java/lang/String", "coder", "B", true)
def tyJ0 : Nat → FieldType := fun k => match k with
  | 0 => .array .byte
  | _ => .byte
abbrev wsJ00 : List Cond := u_ws RJ0 TJ0 2
theorem nmJ0 : ∀ a, a < 2 → ∀ b, b < 2 → a ≠ b → (TJ0 a).2.1 ≠ (TJ0 b).2.1 := by decide +kernel
theorem tyJ0_ok : ∀ k, k < 2 → parseFieldDescriptor (TJ0 k).2.2.1 = some (tyJ0 k) := by decide +kernel
def RJ10 : String := "java/lang/System"
def TJ10 : u_T := fun k => match k with
  | _ => ("", "", "", false)
def tyJ10 : Nat → FieldType := fun k => match k with
  | _ => .int
abbrev wsJ100 : List Cond := u_ws RJ10 TJ10 0
theorem nmJ10 : ∀ a, a < 0 → ∀ b, b < 0 → a ≠ b → (TJ10 a).2.1 ≠ (TJ10 b).2.1 := by decide +kernel
theorem tyJ10_ok : ∀ k, k < 0 → parseFieldDescriptor (TJ10 k).2.2.1 = some (tyJ10 k) := by decide +kernel
def RL : String := "DiskArmSimulatorLaw"
abbrev cL_setCurve : ByteArray := method_3_code
def yL_setCurve : MethodName := ⟨RL, "setCurve", "(LDiskArmSimulator;III)I"⟩
abbrev cL_setSkew : ByteArray := method_4_code
def yL_setSkew : MethodName := ⟨RL, "setSkew", "(LDiskArmSimulator;I[J)I"⟩
abbrev cL_setPolicy : ByteArray := method_5_code
def yL_setPolicy : MethodName := ⟨RL, "setPolicy", "(LDiskArmSimulator;I[J)I"⟩
abbrev cL_setBuckets : ByteArray := method_6_code
def yL_setBuckets : MethodName := ⟨RL, "setBuckets", "(LDiskArmSimulator;II)I"⟩
abbrev cL_setWriteBack : ByteArray := method_7_code
def yL_setWriteBack : MethodName := ⟨RL, "setWriteBack", "(LDiskArmSimulator;Z[J)I"⟩
abbrev cL_seekTime : ByteArray := method_8_code
def yL_seekTime : MethodName := ⟨RL, "seekTime", "(LDiskArmSimulator;II[J)I"⟩
abbrev cL_placeOf : ByteArray := method_9_code
def yL_placeOf : MethodName := ⟨RL, "placeOf", "(LDiskArmSimulator;I[J)I"⟩
abbrev cL_cylinderOf : ByteArray := method_10_code
def yL_cylinderOf : MethodName := ⟨RL, "cylinderOf", "(LDiskArmSimulator;I[J)I"⟩
abbrev cL_sectorOf : ByteArray := method_11_code
def yL_sectorOf : MethodName := ⟨RL, "sectorOf", "(LDiskArmSimulator;I[J)I"⟩
abbrev cL_startAngle : ByteArray := method_12_code
def yL_startAngle : MethodName := ⟨RL, "startAngle", "(LDiskArmSimulator;I[J)I"⟩
abbrev cL_accessTime : ByteArray := method_13_code
def yL_accessTime : MethodName := ⟨RL, "accessTime", "(LDiskArmSimulator;I[J)I"⟩
abbrev cL_moveToSpare : ByteArray := method_14_code
def yL_moveToSpare : MethodName := ⟨RL, "moveToSpare", "(LDiskArmSimulator;I[J)I"⟩
abbrev cL_accessesOf : ByteArray := method_15_code
def yL_accessesOf : MethodName := ⟨RL, "accessesOf", "(LDiskArmSimulator;I[J)I"⟩
abbrev cL_idle : ByteArray := method_16_code
def yL_idle : MethodName := ⟨RL, "idle", "(LDiskArmSimulator;I[J)I"⟩
abbrev cL_submit : ByteArray := method_17_code
def yL_submit : MethodName := ⟨RL, "submit", "(LDiskArmSimulator;III[J)I"⟩
abbrev cL_appendCharacter : ByteArray := method_18_code
def yL_appendCharacter : MethodName := ⟨RL, "appendCharacter", "(LDiskArmSimulator;I[J)I"⟩
abbrev cL_submitText : ByteArray := method_19_code
def yL_submitText : MethodName := ⟨RL, "submitText", "(LDiskArmSimulator;[J)I"⟩
abbrev cL_cancel : ByteArray := method_20_code
def yL_cancel : MethodName := ⟨RL, "cancel", "(LDiskArmSimulator;I)I"⟩
abbrev cL_next : ByteArray := method_21_code
def yL_next : MethodName := ⟨RL, "next", "(LDiskArmSimulator;[J)I"⟩
abbrev cL_serve : ByteArray := method_22_code
def yL_serve : MethodName := ⟨RL, "serve", "(LDiskArmSimulator;[J)I"⟩
abbrev cL_serveFor : ByteArray := method_23_code
def yL_serveFor : MethodName := ⟨RL, "serveFor", "(LDiskArmSimulator;I[J)I"⟩
abbrev cL_flush : ByteArray := method_24_code
def yL_flush : MethodName := ⟨RL, "flush", "(LDiskArmSimulator;[J)I"⟩
abbrev cL_state : ByteArray := method_25_code
def yL_state : MethodName := ⟨RL, "state", "(LDiskArmSimulator;I[J)I"⟩
abbrev cL_bucket : ByteArray := method_26_code
def yL_bucket : MethodName := ⟨RL, "bucket", "(LDiskArmSimulator;I[J)I"⟩
abbrev cL_finish : ByteArray := method_27_code
def yL_finish : MethodName := ⟨RL, "finish", "(LDiskArmSimulator;I[J)I"⟩
abbrev cL_isLate : ByteArray := method_28_code
def yL_isLate : MethodName := ⟨RL, "isLate", "(LDiskArmSimulator;I[J)I"⟩
abbrev cL_bestFinish : ByteArray := method_29_code
def yL_bestFinish : MethodName := ⟨RL, "bestFinish", "(LDiskArmSimulator;[J)I"⟩
abbrev cL_bestRequest : ByteArray := method_30_code
def yL_bestRequest : MethodName := ⟨RL, "bestRequest", "(LDiskArmSimulator;I[J)I"⟩
abbrev cL_canMeetDeadlines : ByteArray := method_31_code
def yL_canMeetDeadlines : MethodName := ⟨RL, "canMeetDeadlines", "(LDiskArmSimulator;[J)I"⟩
abbrev cL_total : ByteArray := method_32_code
def yL_total : MethodName := ⟨RL, "total", "(LDiskArmSimulator;I[J)I"⟩
abbrev cL_utilization : ByteArray := method_33_code
def yL_utilization : MethodName := ⟨RL, "utilization", "(LDiskArmSimulator;[D)I"⟩
abbrev cL_averageResponse : ByteArray := method_34_code
def yL_averageResponse : MethodName := ⟨RL, "averageResponse", "(LDiskArmSimulator;[D)I"⟩
abbrev cL_lateShare : ByteArray := method_35_code
def yL_lateShare : MethodName := ⟨RL, "lateShare", "(LDiskArmSimulator;[D)I"⟩
abbrev cL_restore : ByteArray := method_36_code
def yL_restore : MethodName := ⟨RL, "restore", "(LDiskArmSimulator;[J)I"⟩
abbrev cL_law : ByteArray := code
def yL_law : MethodName := ⟨RL, "law", "([I)Z"⟩
end
section
theorem dX0_init_0 : decode cX0_init 0 = .ok (.aload_n 0, 1) := by decide +kernel
theorem dX0_init_1 : decode cX0_init 1 = .ok (.invokespecial 3, 3) := by decide +kernel
theorem dX0_init_4 : decode cX0_init 4 = .ok (.aload_n 0, 1) := by decide +kernel
theorem dX0_init_5 : decode cX0_init 5 = .ok (.bipush 8, 2) := by decide +kernel
theorem dX0_init_7 : decode cX0_init 7 = .ok (.newarray .int, 2) := by decide +kernel
theorem dX0_init_9 : decode cX0_init 9 = .ok (.putfield 9, 3) := by decide +kernel
theorem dX0_init_12 : decode cX0_init 12 = .ok (.return_, 1) := by decide +kernel
theorem dX0_copyFrom_0 : decode cX0_copyFrom 0 = .ok (.aload_n 0, 1) := by decide +kernel
theorem dX0_copyFrom_1 : decode cX0_copyFrom 1 = .ok (.aload_n 1, 1) := by decide +kernel
theorem dX0_copyFrom_2 : decode cX0_copyFrom 2 = .ok (.getfield 15, 3) := by decide +kernel
theorem dX0_copyFrom_5 : decode cX0_copyFrom 5 = .ok (.putfield 15, 3) := by decide +kernel
theorem dX0_copyFrom_8 : decode cX0_copyFrom 8 = .ok (.aload_n 0, 1) := by decide +kernel
theorem dX0_copyFrom_9 : decode cX0_copyFrom 9 = .ok (.aload_n 1, 1) := by decide +kernel
theorem dX0_copyFrom_10 : decode cX0_copyFrom 10 = .ok (.getfield 19, 3) := by decide +kernel
theorem dX0_copyFrom_13 : decode cX0_copyFrom 13 = .ok (.putfield 19, 3) := by decide +kernel
theorem dX0_copyFrom_16 : decode cX0_copyFrom 16 = .ok (.aload_n 1, 1) := by decide +kernel
theorem dX0_copyFrom_17 : decode cX0_copyFrom 17 = .ok (.getfield 9, 3) := by decide +kernel
theorem dX0_copyFrom_20 : decode cX0_copyFrom 20 = .ok (.aload_n 0, 1) := by decide +kernel
theorem dX0_copyFrom_21 : decode cX0_copyFrom 21 = .ok (.getfield 9, 3) := by decide +kernel
theorem dX0_copyFrom_24 : decode cX0_copyFrom 24 = .ok (.invokestatic 23, 3) := by decide +kernel
theorem dX0_copyFrom_27 : decode cX0_copyFrom 27 = .ok (.return_, 1) := by decide +kernel
theorem dX0_holds_0 : decode cX0_holds 0 = .ok (.iconst 0, 1) := by decide +kernel
theorem dX0_holds_1 : decode cX0_holds 1 = .ok (.istore_n 2, 1) := by decide +kernel
theorem dX0_holds_2 : decode cX0_holds 2 = .ok (.iload_n 2, 1) := by decide +kernel
theorem dX0_holds_3 : decode cX0_holds 3 = .ok (.aload_n 0, 1) := by decide +kernel
theorem dX0_holds_4 : decode cX0_holds 4 = .ok (.getfield 19, 3) := by decide +kernel
theorem dX0_holds_7 : decode cX0_holds 7 = .ok (.if_icmp .ge 27, 3) := by decide +kernel
theorem dX0_holds_10 : decode cX0_holds 10 = .ok (.iload_n 2, 1) := by decide +kernel
theorem dX0_holds_11 : decode cX0_holds 11 = .ok (.bipush 8, 2) := by decide +kernel
theorem dX0_holds_13 : decode cX0_holds 13 = .ok (.if_icmp .ge 21, 3) := by decide +kernel
theorem dX0_holds_16 : decode cX0_holds 16 = .ok (.aload_n 0, 1) := by decide +kernel
theorem dX0_holds_17 : decode cX0_holds 17 = .ok (.getfield 9, 3) := by decide +kernel
theorem dX0_holds_20 : decode cX0_holds 20 = .ok (.iload_n 2, 1) := by decide +kernel
theorem dX0_holds_21 : decode cX0_holds 21 = .ok (.iaload, 1) := by decide +kernel
theorem dX0_holds_22 : decode cX0_holds 22 = .ok (.iload_n 1, 1) := by decide +kernel
theorem dX0_holds_23 : decode cX0_holds 23 = .ok (.if_icmp .ne 5, 3) := by decide +kernel
theorem dX0_holds_26 : decode cX0_holds 26 = .ok (.iconst 1, 1) := by decide +kernel
theorem dX0_holds_27 : decode cX0_holds 27 = .ok (.ireturn, 1) := by decide +kernel
theorem dX0_holds_28 : decode cX0_holds 28 = .ok (.iinc 2 1, 3) := by decide +kernel
theorem dX0_holds_31 : decode cX0_holds 31 = .ok (.goto (-29), 3) := by decide +kernel
theorem dX0_holds_34 : decode cX0_holds 34 = .ok (.iconst 0, 1) := by decide +kernel
theorem dX0_holds_35 : decode cX0_holds 35 = .ok (.ireturn, 1) := by decide +kernel
theorem dX0_makeDirty_0 : decode cX0_makeDirty 0 = .ok (.aload_n 0, 1) := by decide +kernel
theorem dX0_makeDirty_1 : decode cX0_makeDirty 1 = .ok (.iload_n 1, 1) := by decide +kernel
theorem dX0_makeDirty_2 : decode cX0_makeDirty 2 = .ok (.invokevirtual 27, 3) := by decide +kernel
theorem dX0_makeDirty_5 : decode cX0_makeDirty 5 = .ok (.ifCond .ne 36, 3) := by decide +kernel
theorem dX0_makeDirty_8 : decode cX0_makeDirty 8 = .ok (.aload_n 0, 1) := by decide +kernel
theorem dX0_makeDirty_9 : decode cX0_makeDirty 9 = .ok (.getfield 19, 3) := by decide +kernel
theorem dX0_makeDirty_12 : decode cX0_makeDirty 12 = .ok (.iconst 0, 1) := by decide +kernel
theorem dX0_makeDirty_13 : decode cX0_makeDirty 13 = .ok (.bipush 7, 2) := by decide +kernel
theorem dX0_makeDirty_15 : decode cX0_makeDirty 15 = .ok (.invokestatic 31, 3) := by decide +kernel
theorem dX0_makeDirty_18 : decode cX0_makeDirty 18 = .ok (.ifCond .eq 23, 3) := by decide +kernel
theorem dX0_makeDirty_21 : decode cX0_makeDirty 21 = .ok (.aload_n 0, 1) := by decide +kernel
theorem dX0_makeDirty_22 : decode cX0_makeDirty 22 = .ok (.getfield 9, 3) := by decide +kernel
theorem dX0_makeDirty_25 : decode cX0_makeDirty 25 = .ok (.aload_n 0, 1) := by decide +kernel
theorem dX0_makeDirty_26 : decode cX0_makeDirty 26 = .ok (.getfield 19, 3) := by decide +kernel
theorem dX0_makeDirty_29 : decode cX0_makeDirty 29 = .ok (.iload_n 1, 1) := by decide +kernel
theorem dX0_makeDirty_30 : decode cX0_makeDirty 30 = .ok (.iastore, 1) := by decide +kernel
theorem dX0_makeDirty_31 : decode cX0_makeDirty 31 = .ok (.aload_n 0, 1) := by decide +kernel
theorem dX0_makeDirty_32 : decode cX0_makeDirty 32 = .ok (.dup, 1) := by decide +kernel
theorem dX0_makeDirty_33 : decode cX0_makeDirty 33 = .ok (.getfield 19, 3) := by decide +kernel
theorem dX0_makeDirty_36 : decode cX0_makeDirty 36 = .ok (.iconst 1, 1) := by decide +kernel
theorem dX0_makeDirty_37 : decode cX0_makeDirty 37 = .ok (.iadd, 1) := by decide +kernel
theorem dX0_makeDirty_38 : decode cX0_makeDirty 38 = .ok (.putfield 19, 3) := by decide +kernel
theorem dX0_makeDirty_41 : decode cX0_makeDirty 41 = .ok (.return_, 1) := by decide +kernel
theorem dX0_finishesAtOnce_0 : decode cX0_finishesAtOnce 0 = .ok (.aload_n 0, 1) := by decide +kernel
theorem dX0_finishesAtOnce_1 : decode cX0_finishesAtOnce 1 = .ok (.getfield 15, 3) := by decide +kernel
theorem dX0_finishesAtOnce_4 : decode cX0_finishesAtOnce 4 = .ok (.ifCond .eq 20, 3) := by decide +kernel
theorem dX0_finishesAtOnce_7 : decode cX0_finishesAtOnce 7 = .ok (.iload_n 1, 1) := by decide +kernel
theorem dX0_finishesAtOnce_8 : decode cX0_finishesAtOnce 8 = .ok (.iconst 1, 1) := by decide +kernel
theorem dX0_finishesAtOnce_9 : decode cX0_finishesAtOnce 9 = .ok (.if_icmp .eq 11, 3) := by decide +kernel
theorem dX0_finishesAtOnce_12 : decode cX0_finishesAtOnce 12 = .ok (.aload_n 0, 1) := by decide +kernel
theorem dX0_finishesAtOnce_13 : decode cX0_finishesAtOnce 13 = .ok (.iload_n 2, 1) := by decide +kernel
theorem dX0_finishesAtOnce_14 : decode cX0_finishesAtOnce 14 = .ok (.invokevirtual 27, 3) := by decide +kernel
theorem dX0_finishesAtOnce_17 : decode cX0_finishesAtOnce 17 = .ok (.ifCond .eq 7, 3) := by decide +kernel
theorem dX0_finishesAtOnce_20 : decode cX0_finishesAtOnce 20 = .ok (.iconst 1, 1) := by decide +kernel
theorem dX0_finishesAtOnce_21 : decode cX0_finishesAtOnce 21 = .ok (.goto 4, 3) := by decide +kernel
theorem dX0_finishesAtOnce_24 : decode cX0_finishesAtOnce 24 = .ok (.iconst 0, 1) := by decide +kernel
theorem dX0_finishesAtOnce_25 : decode cX0_finishesAtOnce 25 = .ok (.ireturn, 1) := by decide +kernel
theorem dX0_writeAll_0 : decode cX0_writeAll 0 = .ok (.aload_n 1, 1) := by decide +kernel
theorem dX0_writeAll_1 : decode cX0_writeAll 1 = .ok (.getfield 35, 3) := by decide +kernel
theorem dX0_writeAll_4 : decode cX0_writeAll 4 = .ok (.istore_n 2, 1) := by decide +kernel
theorem dX0_writeAll_5 : decode cX0_writeAll 5 = .ok (.iconst (-1), 1) := by decide +kernel
theorem dX0_writeAll_6 : decode cX0_writeAll 6 = .ok (.istore_n 3, 1) := by decide +kernel
theorem dX0_writeAll_7 : decode cX0_writeAll 7 = .ok (.iconst 0, 1) := by decide +kernel
theorem dX0_writeAll_8 : decode cX0_writeAll 8 = .ok (.istore 4, 2) := by decide +kernel
theorem dX0_writeAll_10 : decode cX0_writeAll 10 = .ok (.iload 4, 2) := by decide +kernel
theorem dX0_writeAll_12 : decode cX0_writeAll 12 = .ok (.aload_n 0, 1) := by decide +kernel
theorem dX0_writeAll_13 : decode cX0_writeAll 13 = .ok (.getfield 19, 3) := by decide +kernel
theorem dX0_writeAll_16 : decode cX0_writeAll 16 = .ok (.if_icmp .ge 44, 3) := by decide +kernel
theorem dX0_writeAll_19 : decode cX0_writeAll 19 = .ok (.iload 4, 2) := by decide +kernel
theorem dX0_writeAll_21 : decode cX0_writeAll 21 = .ok (.bipush 8, 2) := by decide +kernel
theorem dX0_writeAll_23 : decode cX0_writeAll 23 = .ok (.if_icmp .ge 37, 3) := by decide +kernel
theorem dX0_writeAll_26 : decode cX0_writeAll 26 = .ok (.aload_n 0, 1) := by decide +kernel
theorem dX0_writeAll_27 : decode cX0_writeAll 27 = .ok (.iload_n 3, 1) := by decide +kernel
theorem dX0_writeAll_28 : decode cX0_writeAll 28 = .ok (.iload_n 2, 1) := by decide +kernel
theorem dX0_writeAll_29 : decode cX0_writeAll 29 = .ok (.aload_n 1, 1) := by decide +kernel
theorem dX0_writeAll_30 : decode cX0_writeAll 30 = .ok (.invokevirtual 40, 3) := by decide +kernel
theorem dX0_writeAll_33 : decode cX0_writeAll 33 = .ok (.istore_n 3, 1) := by decide +kernel
theorem dX0_writeAll_34 : decode cX0_writeAll 34 = .ok (.aload_n 1, 1) := by decide +kernel
theorem dX0_writeAll_35 : decode cX0_writeAll 35 = .ok (.iload_n 3, 1) := by decide +kernel
theorem dX0_writeAll_36 : decode cX0_writeAll 36 = .ok (.sipush 576, 3) := by decide +kernel
theorem dX0_writeAll_39 : decode cX0_writeAll 39 = .ok (.if_icmp .lt 11, 3) := by decide +kernel
theorem dX0_writeAll_42 : decode cX0_writeAll 42 = .ok (.iload_n 3, 1) := by decide +kernel
theorem dX0_writeAll_43 : decode cX0_writeAll 43 = .ok (.sipush 576, 3) := by decide +kernel
theorem dX0_writeAll_46 : decode cX0_writeAll 46 = .ok (.isub, 1) := by decide +kernel
theorem dX0_writeAll_47 : decode cX0_writeAll 47 = .ok (.goto 4, 3) := by decide +kernel
theorem dX0_writeAll_50 : decode cX0_writeAll 50 = .ok (.iload_n 3, 1) := by decide +kernel
theorem dX0_writeAll_51 : decode cX0_writeAll 51 = .ok (.invokevirtual 44, 3) := by decide +kernel
theorem dX0_writeAll_54 : decode cX0_writeAll 54 = .ok (.iinc 4 1, 3) := by decide +kernel
theorem dX0_writeAll_57 : decode cX0_writeAll 57 = .ok (.goto (-47), 3) := by decide +kernel
theorem dX0_writeAll_60 : decode cX0_writeAll 60 = .ok (.aload_n 0, 1) := by decide +kernel
theorem dX0_writeAll_61 : decode cX0_writeAll 61 = .ok (.iconst 0, 1) := by decide +kernel
theorem dX0_writeAll_62 : decode cX0_writeAll 62 = .ok (.putfield 19, 3) := by decide +kernel
theorem dX0_writeAll_65 : decode cX0_writeAll 65 = .ok (.return_, 1) := by decide +kernel
theorem dX0_leastKeyAbove_0 : decode cX0_leastKeyAbove 0 = .ok (.ldc 48, 2) := by decide +kernel
theorem dX0_leastKeyAbove_2 : decode cX0_leastKeyAbove 2 = .ok (.istore 4, 2) := by decide +kernel
theorem dX0_leastKeyAbove_4 : decode cX0_leastKeyAbove 4 = .ok (.iconst 0, 1) := by decide +kernel
theorem dX0_leastKeyAbove_5 : decode cX0_leastKeyAbove 5 = .ok (.istore 5, 2) := by decide +kernel
theorem dX0_leastKeyAbove_7 : decode cX0_leastKeyAbove 7 = .ok (.iload 5, 2) := by decide +kernel
theorem dX0_leastKeyAbove_9 : decode cX0_leastKeyAbove 9 = .ok (.aload_n 0, 1) := by decide +kernel
theorem dX0_leastKeyAbove_10 : decode cX0_leastKeyAbove 10 = .ok (.getfield 19, 3) := by decide +kernel
theorem dX0_leastKeyAbove_13 : decode cX0_leastKeyAbove 13 = .ok (.if_icmp .ge 68, 3) := by decide +kernel
theorem dX0_leastKeyAbove_16 : decode cX0_leastKeyAbove 16 = .ok (.iload 5, 2) := by decide +kernel
theorem dX0_leastKeyAbove_18 : decode cX0_leastKeyAbove 18 = .ok (.bipush 8, 2) := by decide +kernel
theorem dX0_leastKeyAbove_20 : decode cX0_leastKeyAbove 20 = .ok (.if_icmp .ge 61, 3) := by decide +kernel
theorem dX0_leastKeyAbove_23 : decode cX0_leastKeyAbove 23 = .ok (.aload_n 3, 1) := by decide +kernel
theorem dX0_leastKeyAbove_24 : decode cX0_leastKeyAbove 24 = .ok (.aload_n 0, 1) := by decide +kernel
theorem dX0_leastKeyAbove_25 : decode cX0_leastKeyAbove 25 = .ok (.getfield 9, 3) := by decide +kernel
theorem dX0_leastKeyAbove_28 : decode cX0_leastKeyAbove 28 = .ok (.iload 5, 2) := by decide +kernel
theorem dX0_leastKeyAbove_30 : decode cX0_leastKeyAbove 30 = .ok (.iaload, 1) := by decide +kernel
theorem dX0_leastKeyAbove_31 : decode cX0_leastKeyAbove 31 = .ok (.invokevirtual 49, 3) := by decide +kernel
theorem dX0_leastKeyAbove_34 : decode cX0_leastKeyAbove 34 = .ok (.istore 6, 2) := by decide +kernel
theorem dX0_leastKeyAbove_36 : decode cX0_leastKeyAbove 36 = .ok (.iload 6, 2) := by decide +kernel
theorem dX0_leastKeyAbove_38 : decode cX0_leastKeyAbove 38 = .ok (.invokestatic 53, 3) := by decide +kernel
theorem dX0_leastKeyAbove_41 : decode cX0_leastKeyAbove 41 = .ok (.iload_n 2, 1) := by decide +kernel
theorem dX0_leastKeyAbove_42 : decode cX0_leastKeyAbove 42 = .ok (.if_icmp .lt 8, 3) := by decide +kernel
theorem dX0_leastKeyAbove_45 : decode cX0_leastKeyAbove 45 = .ok (.iload 6, 2) := by decide +kernel
theorem dX0_leastKeyAbove_47 : decode cX0_leastKeyAbove 47 = .ok (.goto 9, 3) := by decide +kernel
theorem dX0_leastKeyAbove_50 : decode cX0_leastKeyAbove 50 = .ok (.iload 6, 2) := by decide +kernel
theorem dX0_leastKeyAbove_52 : decode cX0_leastKeyAbove 52 = .ok (.sipush 576, 3) := by decide +kernel
theorem dX0_leastKeyAbove_55 : decode cX0_leastKeyAbove 55 = .ok (.iadd, 1) := by decide +kernel
theorem dX0_leastKeyAbove_56 : decode cX0_leastKeyAbove 56 = .ok (.istore 7, 2) := by decide +kernel
theorem dX0_leastKeyAbove_58 : decode cX0_leastKeyAbove 58 = .ok (.iload 7, 2) := by decide +kernel
theorem dX0_leastKeyAbove_60 : decode cX0_leastKeyAbove 60 = .ok (.iload_n 1, 1) := by decide +kernel
theorem dX0_leastKeyAbove_61 : decode cX0_leastKeyAbove 61 = .ok (.if_icmp .le 14, 3) := by decide +kernel
theorem dX0_leastKeyAbove_64 : decode cX0_leastKeyAbove 64 = .ok (.iload 7, 2) := by decide +kernel
theorem dX0_leastKeyAbove_66 : decode cX0_leastKeyAbove 66 = .ok (.iload 4, 2) := by decide +kernel
theorem dX0_leastKeyAbove_68 : decode cX0_leastKeyAbove 68 = .ok (.if_icmp .ge 7, 3) := by decide +kernel
theorem dX0_leastKeyAbove_71 : decode cX0_leastKeyAbove 71 = .ok (.iload 7, 2) := by decide +kernel
theorem dX0_leastKeyAbove_73 : decode cX0_leastKeyAbove 73 = .ok (.istore 4, 2) := by decide +kernel
theorem dX0_leastKeyAbove_75 : decode cX0_leastKeyAbove 75 = .ok (.iinc 5 1, 3) := by decide +kernel
theorem dX0_leastKeyAbove_78 : decode cX0_leastKeyAbove 78 = .ok (.goto (-71), 3) := by decide +kernel
theorem dX0_leastKeyAbove_81 : decode cX0_leastKeyAbove 81 = .ok (.iload 4, 2) := by decide +kernel
theorem dX0_leastKeyAbove_83 : decode cX0_leastKeyAbove 83 = .ok (.ireturn, 1) := by decide +kernel
theorem dX1_init_0 : decode cX1_init 0 = .ok (.aload_n 0, 1) := by decide +kernel
theorem dX1_init_1 : decode cX1_init 1 = .ok (.invokespecial 3, 3) := by decide +kernel
theorem dX1_init_4 : decode cX1_init 4 = .ok (.aload_n 0, 1) := by decide +kernel
theorem dX1_init_5 : decode cX1_init 5 = .ok (.bipush 10, 2) := by decide +kernel
theorem dX1_init_7 : decode cX1_init 7 = .ok (.putfield 9, 3) := by decide +kernel
theorem dX1_init_10 : decode cX1_init 10 = .ok (.aload_n 0, 1) := by decide +kernel
theorem dX1_init_11 : decode cX1_init 11 = .ok (.iconst 4, 1) := by decide +kernel
theorem dX1_init_12 : decode cX1_init 12 = .ok (.putfield 15, 3) := by decide +kernel
theorem dX1_init_15 : decode cX1_init 15 = .ok (.aload_n 0, 1) := by decide +kernel
theorem dX1_init_16 : decode cX1_init 16 = .ok (.iconst 1, 1) := by decide +kernel
theorem dX1_init_17 : decode cX1_init 17 = .ok (.putfield 18, 3) := by decide +kernel
theorem dX1_init_20 : decode cX1_init 20 = .ok (.aload_n 0, 1) := by decide +kernel
theorem dX1_init_21 : decode cX1_init 21 = .ok (.iconst 4, 1) := by decide +kernel
theorem dX1_init_22 : decode cX1_init 22 = .ok (.newarray .int, 2) := by decide +kernel
theorem dX1_init_24 : decode cX1_init 24 = .ok (.putfield 21, 3) := by decide +kernel
theorem dX1_init_27 : decode cX1_init 27 = .ok (.aload_n 0, 1) := by decide +kernel
theorem dX1_init_28 : decode cX1_init 28 = .ok (.sipush 576, 3) := by decide +kernel
theorem dX1_init_31 : decode cX1_init 31 = .ok (.newarray .int, 2) := by decide +kernel
theorem dX1_init_33 : decode cX1_init 33 = .ok (.putfield 25, 3) := by decide +kernel
theorem dX1_init_36 : decode cX1_init 36 = .ok (.return_, 1) := by decide +kernel
theorem dX1_copyFrom_0 : decode cX1_copyFrom 0 = .ok (.aload_n 0, 1) := by decide +kernel
theorem dX1_copyFrom_1 : decode cX1_copyFrom 1 = .ok (.aload_n 1, 1) := by decide +kernel
theorem dX1_copyFrom_2 : decode cX1_copyFrom 2 = .ok (.getfield 9, 3) := by decide +kernel
theorem dX1_copyFrom_5 : decode cX1_copyFrom 5 = .ok (.putfield 9, 3) := by decide +kernel
theorem dX1_copyFrom_8 : decode cX1_copyFrom 8 = .ok (.aload_n 0, 1) := by decide +kernel
theorem dX1_copyFrom_9 : decode cX1_copyFrom 9 = .ok (.aload_n 1, 1) := by decide +kernel
theorem dX1_copyFrom_10 : decode cX1_copyFrom 10 = .ok (.getfield 15, 3) := by decide +kernel
theorem dX1_copyFrom_13 : decode cX1_copyFrom 13 = .ok (.putfield 15, 3) := by decide +kernel
theorem dX1_copyFrom_16 : decode cX1_copyFrom 16 = .ok (.aload_n 0, 1) := by decide +kernel
theorem dX1_copyFrom_17 : decode cX1_copyFrom 17 = .ok (.aload_n 1, 1) := by decide +kernel
theorem dX1_copyFrom_18 : decode cX1_copyFrom 18 = .ok (.getfield 18, 3) := by decide +kernel
theorem dX1_copyFrom_21 : decode cX1_copyFrom 21 = .ok (.putfield 18, 3) := by decide +kernel
theorem dX1_copyFrom_24 : decode cX1_copyFrom 24 = .ok (.aload_n 0, 1) := by decide +kernel
theorem dX1_copyFrom_25 : decode cX1_copyFrom 25 = .ok (.aload_n 1, 1) := by decide +kernel
theorem dX1_copyFrom_26 : decode cX1_copyFrom 26 = .ok (.getfield 28, 3) := by decide +kernel
theorem dX1_copyFrom_29 : decode cX1_copyFrom 29 = .ok (.putfield 28, 3) := by decide +kernel
theorem dX1_copyFrom_32 : decode cX1_copyFrom 32 = .ok (.aload_n 0, 1) := by decide +kernel
theorem dX1_copyFrom_33 : decode cX1_copyFrom 33 = .ok (.aload_n 1, 1) := by decide +kernel
theorem dX1_copyFrom_34 : decode cX1_copyFrom 34 = .ok (.getfield 31, 3) := by decide +kernel
theorem dX1_copyFrom_37 : decode cX1_copyFrom 37 = .ok (.putfield 31, 3) := by decide +kernel
theorem dX1_copyFrom_40 : decode cX1_copyFrom 40 = .ok (.aload_n 0, 1) := by decide +kernel
theorem dX1_copyFrom_41 : decode cX1_copyFrom 41 = .ok (.aload_n 1, 1) := by decide +kernel
theorem dX1_copyFrom_42 : decode cX1_copyFrom 42 = .ok (.getfield 34, 3) := by decide +kernel
theorem dX1_copyFrom_45 : decode cX1_copyFrom 45 = .ok (.putfield 34, 3) := by decide +kernel
theorem dX1_copyFrom_48 : decode cX1_copyFrom 48 = .ok (.aload_n 0, 1) := by decide +kernel
theorem dX1_copyFrom_49 : decode cX1_copyFrom 49 = .ok (.aload_n 1, 1) := by decide +kernel
theorem dX1_copyFrom_50 : decode cX1_copyFrom 50 = .ok (.getfield 37, 3) := by decide +kernel
theorem dX1_copyFrom_53 : decode cX1_copyFrom 53 = .ok (.putfield 37, 3) := by decide +kernel
theorem dX1_copyFrom_56 : decode cX1_copyFrom 56 = .ok (.aload_n 0, 1) := by decide +kernel
theorem dX1_copyFrom_57 : decode cX1_copyFrom 57 = .ok (.aload_n 1, 1) := by decide +kernel
theorem dX1_copyFrom_58 : decode cX1_copyFrom 58 = .ok (.getfield 40, 3) := by decide +kernel
theorem dX1_copyFrom_61 : decode cX1_copyFrom 61 = .ok (.putfield 40, 3) := by decide +kernel
theorem dX1_copyFrom_64 : decode cX1_copyFrom 64 = .ok (.aload_n 0, 1) := by decide +kernel
theorem dX1_copyFrom_65 : decode cX1_copyFrom 65 = .ok (.aload_n 1, 1) := by decide +kernel
theorem dX1_copyFrom_66 : decode cX1_copyFrom 66 = .ok (.getfield 43, 3) := by decide +kernel
theorem dX1_copyFrom_69 : decode cX1_copyFrom 69 = .ok (.putfield 43, 3) := by decide +kernel
theorem dX1_copyFrom_72 : decode cX1_copyFrom 72 = .ok (.aload_n 0, 1) := by decide +kernel
theorem dX1_copyFrom_73 : decode cX1_copyFrom 73 = .ok (.aload_n 1, 1) := by decide +kernel
theorem dX1_copyFrom_74 : decode cX1_copyFrom 74 = .ok (.getfield 46, 3) := by decide +kernel
theorem dX1_copyFrom_77 : decode cX1_copyFrom 77 = .ok (.putfield 46, 3) := by decide +kernel
theorem dX1_copyFrom_80 : decode cX1_copyFrom 80 = .ok (.aload_n 0, 1) := by decide +kernel
theorem dX1_copyFrom_81 : decode cX1_copyFrom 81 = .ok (.aload_n 1, 1) := by decide +kernel
theorem dX1_copyFrom_82 : decode cX1_copyFrom 82 = .ok (.getfield 49, 3) := by decide +kernel
theorem dX1_copyFrom_85 : decode cX1_copyFrom 85 = .ok (.putfield 49, 3) := by decide +kernel
theorem dX1_copyFrom_88 : decode cX1_copyFrom 88 = .ok (.aload_n 1, 1) := by decide +kernel
theorem dX1_copyFrom_89 : decode cX1_copyFrom 89 = .ok (.getfield 21, 3) := by decide +kernel
theorem dX1_copyFrom_92 : decode cX1_copyFrom 92 = .ok (.aload_n 0, 1) := by decide +kernel
theorem dX1_copyFrom_93 : decode cX1_copyFrom 93 = .ok (.getfield 21, 3) := by decide +kernel
theorem dX1_copyFrom_96 : decode cX1_copyFrom 96 = .ok (.invokestatic 52, 3) := by decide +kernel
theorem dX1_copyFrom_99 : decode cX1_copyFrom 99 = .ok (.aload_n 1, 1) := by decide +kernel
theorem dX1_copyFrom_100 : decode cX1_copyFrom 100 = .ok (.getfield 25, 3) := by decide +kernel
theorem dX1_copyFrom_103 : decode cX1_copyFrom 103 = .ok (.aload_n 0, 1) := by decide +kernel
theorem dX1_copyFrom_104 : decode cX1_copyFrom 104 = .ok (.getfield 25, 3) := by decide +kernel
theorem dX1_copyFrom_107 : decode cX1_copyFrom 107 = .ok (.invokestatic 52, 3) := by decide +kernel
theorem dX1_copyFrom_110 : decode cX1_copyFrom 110 = .ok (.return_, 1) := by decide +kernel
theorem dX1_spareOfBlock_0 : decode cX1_spareOfBlock 0 = .ok (.iconst 0, 1) := by decide +kernel
theorem dX1_spareOfBlock_1 : decode cX1_spareOfBlock 1 = .ok (.istore_n 2, 1) := by decide +kernel
theorem dX1_spareOfBlock_2 : decode cX1_spareOfBlock 2 = .ok (.iload_n 2, 1) := by decide +kernel
theorem dX1_spareOfBlock_3 : decode cX1_spareOfBlock 3 = .ok (.aload_n 0, 1) := by decide +kernel
theorem dX1_spareOfBlock_4 : decode cX1_spareOfBlock 4 = .ok (.getfield 49, 3) := by decide +kernel
theorem dX1_spareOfBlock_7 : decode cX1_spareOfBlock 7 = .ok (.if_icmp .ge 30, 3) := by decide +kernel
theorem dX1_spareOfBlock_10 : decode cX1_spareOfBlock 10 = .ok (.iload_n 2, 1) := by decide +kernel
theorem dX1_spareOfBlock_11 : decode cX1_spareOfBlock 11 = .ok (.iconst 4, 1) := by decide +kernel
theorem dX1_spareOfBlock_12 : decode cX1_spareOfBlock 12 = .ok (.if_icmp .ge 25, 3) := by decide +kernel
theorem dX1_spareOfBlock_15 : decode cX1_spareOfBlock 15 = .ok (.aload_n 0, 1) := by decide +kernel
theorem dX1_spareOfBlock_16 : decode cX1_spareOfBlock 16 = .ok (.getfield 21, 3) := by decide +kernel
theorem dX1_spareOfBlock_19 : decode cX1_spareOfBlock 19 = .ok (.iload_n 2, 1) := by decide +kernel
theorem dX1_spareOfBlock_20 : decode cX1_spareOfBlock 20 = .ok (.iaload, 1) := by decide +kernel
theorem dX1_spareOfBlock_21 : decode cX1_spareOfBlock 21 = .ok (.iload_n 1, 1) := by decide +kernel
theorem dX1_spareOfBlock_22 : decode cX1_spareOfBlock 22 = .ok (.if_icmp .ne 9, 3) := by decide +kernel
theorem dX1_spareOfBlock_25 : decode cX1_spareOfBlock 25 = .ok (.sipush 572, 3) := by decide +kernel
theorem dX1_spareOfBlock_28 : decode cX1_spareOfBlock 28 = .ok (.iload_n 2, 1) := by decide +kernel
theorem dX1_spareOfBlock_29 : decode cX1_spareOfBlock 29 = .ok (.iadd, 1) := by decide +kernel
theorem dX1_spareOfBlock_30 : decode cX1_spareOfBlock 30 = .ok (.ireturn, 1) := by decide +kernel
theorem dX1_spareOfBlock_31 : decode cX1_spareOfBlock 31 = .ok (.iinc 2 1, 3) := by decide +kernel
theorem dX1_spareOfBlock_34 : decode cX1_spareOfBlock 34 = .ok (.goto (-32), 3) := by decide +kernel
theorem dX1_spareOfBlock_37 : decode cX1_spareOfBlock 37 = .ok (.iconst (-1), 1) := by decide +kernel
theorem dX1_spareOfBlock_38 : decode cX1_spareOfBlock 38 = .ok (.ireturn, 1) := by decide +kernel
theorem dX1_takeSpare_0 : decode cX1_takeSpare 0 = .ok (.aload_n 0, 1) := by decide +kernel
theorem dX1_takeSpare_1 : decode cX1_takeSpare 1 = .ok (.getfield 49, 3) := by decide +kernel
theorem dX1_takeSpare_4 : decode cX1_takeSpare 4 = .ok (.iconst 0, 1) := by decide +kernel
theorem dX1_takeSpare_5 : decode cX1_takeSpare 5 = .ok (.iconst 3, 1) := by decide +kernel
theorem dX1_takeSpare_6 : decode cX1_takeSpare 6 = .ok (.invokestatic 56, 3) := by decide +kernel
theorem dX1_takeSpare_9 : decode cX1_takeSpare 9 = .ok (.ifCond .ne 5, 3) := by decide +kernel
theorem dX1_takeSpare_12 : decode cX1_takeSpare 12 = .ok (.iconst (-1), 1) := by decide +kernel
theorem dX1_takeSpare_13 : decode cX1_takeSpare 13 = .ok (.ireturn, 1) := by decide +kernel
theorem dX1_takeSpare_14 : decode cX1_takeSpare 14 = .ok (.aload_n 0, 1) := by decide +kernel
theorem dX1_takeSpare_15 : decode cX1_takeSpare 15 = .ok (.getfield 21, 3) := by decide +kernel
theorem dX1_takeSpare_18 : decode cX1_takeSpare 18 = .ok (.aload_n 0, 1) := by decide +kernel
theorem dX1_takeSpare_19 : decode cX1_takeSpare 19 = .ok (.getfield 49, 3) := by decide +kernel
theorem dX1_takeSpare_22 : decode cX1_takeSpare 22 = .ok (.iload_n 1, 1) := by decide +kernel
theorem dX1_takeSpare_23 : decode cX1_takeSpare 23 = .ok (.iastore, 1) := by decide +kernel
theorem dX1_takeSpare_24 : decode cX1_takeSpare 24 = .ok (.aload_n 0, 1) := by decide +kernel
theorem dX1_takeSpare_25 : decode cX1_takeSpare 25 = .ok (.dup, 1) := by decide +kernel
theorem dX1_takeSpare_26 : decode cX1_takeSpare 26 = .ok (.getfield 49, 3) := by decide +kernel
theorem dX1_takeSpare_29 : decode cX1_takeSpare 29 = .ok (.iconst 1, 1) := by decide +kernel
theorem dX1_takeSpare_30 : decode cX1_takeSpare 30 = .ok (.iadd, 1) := by decide +kernel
theorem dX1_takeSpare_31 : decode cX1_takeSpare 31 = .ok (.putfield 49, 3) := by decide +kernel
theorem dX1_takeSpare_34 : decode cX1_takeSpare 34 = .ok (.sipush 572, 3) := by decide +kernel
theorem dX1_takeSpare_37 : decode cX1_takeSpare 37 = .ok (.aload_n 0, 1) := by decide +kernel
theorem dX1_takeSpare_38 : decode cX1_takeSpare 38 = .ok (.getfield 49, 3) := by decide +kernel
theorem dX1_takeSpare_41 : decode cX1_takeSpare 41 = .ok (.iadd, 1) := by decide +kernel
theorem dX1_takeSpare_42 : decode cX1_takeSpare 42 = .ok (.iconst 1, 1) := by decide +kernel
theorem dX1_takeSpare_43 : decode cX1_takeSpare 43 = .ok (.isub, 1) := by decide +kernel
theorem dX1_takeSpare_44 : decode cX1_takeSpare 44 = .ok (.ireturn, 1) := by decide +kernel
theorem dX1_placeOfBlock_0 : decode cX1_placeOfBlock 0 = .ok (.aload_n 0, 1) := by decide +kernel
theorem dX1_placeOfBlock_1 : decode cX1_placeOfBlock 1 = .ok (.iload_n 1, 1) := by decide +kernel
theorem dX1_placeOfBlock_2 : decode cX1_placeOfBlock 2 = .ok (.invokevirtual 60, 3) := by decide +kernel
theorem dX1_placeOfBlock_5 : decode cX1_placeOfBlock 5 = .ok (.istore_n 2, 1) := by decide +kernel
theorem dX1_placeOfBlock_6 : decode cX1_placeOfBlock 6 = .ok (.iload_n 2, 1) := by decide +kernel
theorem dX1_placeOfBlock_7 : decode cX1_placeOfBlock 7 = .ok (.iconst (-1), 1) := by decide +kernel
theorem dX1_placeOfBlock_8 : decode cX1_placeOfBlock 8 = .ok (.if_icmp .ne 7, 3) := by decide +kernel
theorem dX1_placeOfBlock_11 : decode cX1_placeOfBlock 11 = .ok (.iload_n 1, 1) := by decide +kernel
theorem dX1_placeOfBlock_12 : decode cX1_placeOfBlock 12 = .ok (.goto 4, 3) := by decide +kernel
theorem dX1_placeOfBlock_15 : decode cX1_placeOfBlock 15 = .ok (.iload_n 2, 1) := by decide +kernel
theorem dX1_placeOfBlock_16 : decode cX1_placeOfBlock 16 = .ok (.ireturn, 1) := by decide +kernel
theorem dX1_accessesAt_0 : decode cX1_accessesAt 0 = .ok (.iload_n 1, 1) := by decide +kernel
theorem dX1_accessesAt_1 : decode cX1_accessesAt 1 = .ok (.iconst 0, 1) := by decide +kernel
theorem dX1_accessesAt_2 : decode cX1_accessesAt 2 = .ok (.sipush 575, 3) := by decide +kernel
theorem dX1_accessesAt_5 : decode cX1_accessesAt 5 = .ok (.invokestatic 56, 3) := by decide +kernel
theorem dX1_accessesAt_8 : decode cX1_accessesAt 8 = .ok (.ifCond .eq 12, 3) := by decide +kernel
theorem dX1_accessesAt_11 : decode cX1_accessesAt 11 = .ok (.aload_n 0, 1) := by decide +kernel
theorem dX1_accessesAt_12 : decode cX1_accessesAt 12 = .ok (.getfield 25, 3) := by decide +kernel
theorem dX1_accessesAt_15 : decode cX1_accessesAt 15 = .ok (.iload_n 1, 1) := by decide +kernel
theorem dX1_accessesAt_16 : decode cX1_accessesAt 16 = .ok (.iaload, 1) := by decide +kernel
theorem dX1_accessesAt_17 : decode cX1_accessesAt 17 = .ok (.goto 4, 3) := by decide +kernel
theorem dX1_accessesAt_20 : decode cX1_accessesAt 20 = .ok (.iconst 0, 1) := by decide +kernel
theorem dX1_accessesAt_21 : decode cX1_accessesAt 21 = .ok (.ireturn, 1) := by decide +kernel
theorem dX1_ticksOfSeek_0 : decode cX1_ticksOfSeek 0 = .ok (.iload_n 1, 1) := by decide +kernel
theorem dX1_ticksOfSeek_1 : decode cX1_ticksOfSeek 1 = .ok (.iload_n 2, 1) := by decide +kernel
theorem dX1_ticksOfSeek_2 : decode cX1_ticksOfSeek 2 = .ok (.if_icmp .ge 9, 3) := by decide +kernel
theorem dX1_ticksOfSeek_5 : decode cX1_ticksOfSeek 5 = .ok (.iload_n 2, 1) := by decide +kernel
theorem dX1_ticksOfSeek_6 : decode cX1_ticksOfSeek 6 = .ok (.iload_n 1, 1) := by decide +kernel
theorem dX1_ticksOfSeek_7 : decode cX1_ticksOfSeek 7 = .ok (.isub, 1) := by decide +kernel
theorem dX1_ticksOfSeek_8 : decode cX1_ticksOfSeek 8 = .ok (.goto 6, 3) := by decide +kernel
theorem dX1_ticksOfSeek_11 : decode cX1_ticksOfSeek 11 = .ok (.iload_n 1, 1) := by decide +kernel
theorem dX1_ticksOfSeek_12 : decode cX1_ticksOfSeek 12 = .ok (.iload_n 2, 1) := by decide +kernel
theorem dX1_ticksOfSeek_13 : decode cX1_ticksOfSeek 13 = .ok (.isub, 1) := by decide +kernel
theorem dX1_ticksOfSeek_14 : decode cX1_ticksOfSeek 14 = .ok (.istore_n 3, 1) := by decide +kernel
theorem dX1_ticksOfSeek_15 : decode cX1_ticksOfSeek 15 = .ok (.iload_n 3, 1) := by decide +kernel
theorem dX1_ticksOfSeek_16 : decode cX1_ticksOfSeek 16 = .ok (.ifCond .ne 5, 3) := by decide +kernel
theorem dX1_ticksOfSeek_19 : decode cX1_ticksOfSeek 19 = .ok (.iconst 0, 1) := by decide +kernel
theorem dX1_ticksOfSeek_20 : decode cX1_ticksOfSeek 20 = .ok (.ireturn, 1) := by decide +kernel
theorem dX1_ticksOfSeek_21 : decode cX1_ticksOfSeek 21 = .ok (.iconst 1, 1) := by decide +kernel
theorem dX1_ticksOfSeek_22 : decode cX1_ticksOfSeek 22 = .ok (.istore 4, 2) := by decide +kernel
theorem dX1_ticksOfSeek_24 : decode cX1_ticksOfSeek 24 = .ok (.iload 4, 2) := by decide +kernel
theorem dX1_ticksOfSeek_26 : decode cX1_ticksOfSeek 26 = .ok (.bipush 64, 2) := by decide +kernel
theorem dX1_ticksOfSeek_28 : decode cX1_ticksOfSeek 28 = .ok (.if_icmp .ge 22, 3) := by decide +kernel
theorem dX1_ticksOfSeek_31 : decode cX1_ticksOfSeek 31 = .ok (.iload 4, 2) := by decide +kernel
theorem dX1_ticksOfSeek_33 : decode cX1_ticksOfSeek 33 = .ok (.iconst 1, 1) := by decide +kernel
theorem dX1_ticksOfSeek_34 : decode cX1_ticksOfSeek 34 = .ok (.iadd, 1) := by decide +kernel
theorem dX1_ticksOfSeek_35 : decode cX1_ticksOfSeek 35 = .ok (.iload 4, 2) := by decide +kernel
theorem dX1_ticksOfSeek_37 : decode cX1_ticksOfSeek 37 = .ok (.iconst 1, 1) := by decide +kernel
theorem dX1_ticksOfSeek_38 : decode cX1_ticksOfSeek 38 = .ok (.iadd, 1) := by decide +kernel
theorem dX1_ticksOfSeek_39 : decode cX1_ticksOfSeek 39 = .ok (.imul, 1) := by decide +kernel
theorem dX1_ticksOfSeek_40 : decode cX1_ticksOfSeek 40 = .ok (.iload_n 3, 1) := by decide +kernel
theorem dX1_ticksOfSeek_41 : decode cX1_ticksOfSeek 41 = .ok (.if_icmp .gt 9, 3) := by decide +kernel
theorem dX1_ticksOfSeek_44 : decode cX1_ticksOfSeek 44 = .ok (.iinc 4 1, 3) := by decide +kernel
theorem dX1_ticksOfSeek_47 : decode cX1_ticksOfSeek 47 = .ok (.goto (-23), 3) := by decide +kernel
theorem dX1_ticksOfSeek_50 : decode cX1_ticksOfSeek 50 = .ok (.aload_n 0, 1) := by decide +kernel
theorem dX1_ticksOfSeek_51 : decode cX1_ticksOfSeek 51 = .ok (.getfield 9, 3) := by decide +kernel
theorem dX1_ticksOfSeek_54 : decode cX1_ticksOfSeek 54 = .ok (.aload_n 0, 1) := by decide +kernel
theorem dX1_ticksOfSeek_55 : decode cX1_ticksOfSeek 55 = .ok (.getfield 15, 3) := by decide +kernel
theorem dX1_ticksOfSeek_58 : decode cX1_ticksOfSeek 58 = .ok (.iload 4, 2) := by decide +kernel
theorem dX1_ticksOfSeek_60 : decode cX1_ticksOfSeek 60 = .ok (.imul, 1) := by decide +kernel
theorem dX1_ticksOfSeek_61 : decode cX1_ticksOfSeek 61 = .ok (.iadd, 1) := by decide +kernel
theorem dX1_ticksOfSeek_62 : decode cX1_ticksOfSeek 62 = .ok (.aload_n 0, 1) := by decide +kernel
theorem dX1_ticksOfSeek_63 : decode cX1_ticksOfSeek 63 = .ok (.getfield 18, 3) := by decide +kernel
theorem dX1_ticksOfSeek_66 : decode cX1_ticksOfSeek 66 = .ok (.iload_n 3, 1) := by decide +kernel
theorem dX1_ticksOfSeek_67 : decode cX1_ticksOfSeek 67 = .ok (.imul, 1) := by decide +kernel
theorem dX1_ticksOfSeek_68 : decode cX1_ticksOfSeek 68 = .ok (.iadd, 1) := by decide +kernel
theorem dX1_ticksOfSeek_69 : decode cX1_ticksOfSeek 69 = .ok (.ireturn, 1) := by decide +kernel
theorem dX1_angleOfPlace_0 : decode cX1_angleOfPlace 0 = .ok (.iload_n 1, 1) := by decide +kernel
theorem dX1_angleOfPlace_1 : decode cX1_angleOfPlace 1 = .ok (.invokestatic 64, 3) := by decide +kernel
theorem dX1_angleOfPlace_4 : decode cX1_angleOfPlace 4 = .ok (.iload_n 1, 1) := by decide +kernel
theorem dX1_angleOfPlace_5 : decode cX1_angleOfPlace 5 = .ok (.invokestatic 69, 3) := by decide +kernel
theorem dX1_angleOfPlace_8 : decode cX1_angleOfPlace 8 = .ok (.imul, 1) := by decide +kernel
theorem dX1_angleOfPlace_9 : decode cX1_angleOfPlace 9 = .ok (.istore_n 2, 1) := by decide +kernel
theorem dX1_angleOfPlace_10 : decode cX1_angleOfPlace 10 = .ok (.iload_n 2, 1) := by decide +kernel
theorem dX1_angleOfPlace_11 : decode cX1_angleOfPlace 11 = .ok (.iload_n 1, 1) := by decide +kernel
theorem dX1_angleOfPlace_12 : decode cX1_angleOfPlace 12 = .ok (.invokestatic 72, 3) := by decide +kernel
theorem dX1_angleOfPlace_15 : decode cX1_angleOfPlace 15 = .ok (.aload_n 0, 1) := by decide +kernel
theorem dX1_angleOfPlace_16 : decode cX1_angleOfPlace 16 = .ok (.getfield 28, 3) := by decide +kernel
theorem dX1_angleOfPlace_19 : decode cX1_angleOfPlace 19 = .ok (.imul, 1) := by decide +kernel
theorem dX1_angleOfPlace_20 : decode cX1_angleOfPlace 20 = .ok (.iadd, 1) := by decide +kernel
theorem dX1_angleOfPlace_21 : decode cX1_angleOfPlace 21 = .ok (.bipush 120, 2) := by decide +kernel
theorem dX1_angleOfPlace_23 : decode cX1_angleOfPlace 23 = .ok (.irem, 1) := by decide +kernel
theorem dX1_angleOfPlace_24 : decode cX1_angleOfPlace 24 = .ok (.ireturn, 1) := by decide +kernel
theorem dX1_ticksToAccess_0 : decode cX1_ticksToAccess 0 = .ok (.aload_n 0, 1) := by decide +kernel
theorem dX1_ticksToAccess_1 : decode cX1_ticksToAccess 1 = .ok (.aload_n 0, 1) := by decide +kernel
theorem dX1_ticksToAccess_2 : decode cX1_ticksToAccess 2 = .ok (.getfield 34, 3) := by decide +kernel
theorem dX1_ticksToAccess_5 : decode cX1_ticksToAccess 5 = .ok (.iload_n 1, 1) := by decide +kernel
theorem dX1_ticksToAccess_6 : decode cX1_ticksToAccess 6 = .ok (.invokestatic 72, 3) := by decide +kernel
theorem dX1_ticksToAccess_9 : decode cX1_ticksToAccess 9 = .ok (.invokevirtual 75, 3) := by decide +kernel
theorem dX1_ticksToAccess_12 : decode cX1_ticksToAccess 12 = .ok (.istore_n 2, 1) := by decide +kernel
theorem dX1_ticksToAccess_13 : decode cX1_ticksToAccess 13 = .ok (.iload_n 2, 1) := by decide +kernel
theorem dX1_ticksToAccess_14 : decode cX1_ticksToAccess 14 = .ok (.aload_n 0, 1) := by decide +kernel
theorem dX1_ticksToAccess_15 : decode cX1_ticksToAccess 15 = .ok (.iload_n 1, 1) := by decide +kernel
theorem dX1_ticksToAccess_16 : decode cX1_ticksToAccess 16 = .ok (.invokevirtual 79, 3) := by decide +kernel
theorem dX1_ticksToAccess_19 : decode cX1_ticksToAccess 19 = .ok (.aload_n 0, 1) := by decide +kernel
theorem dX1_ticksToAccess_20 : decode cX1_ticksToAccess 20 = .ok (.getfield 31, 3) := by decide +kernel
theorem dX1_ticksToAccess_23 : decode cX1_ticksToAccess 23 = .ok (.iload_n 2, 1) := by decide +kernel
theorem dX1_ticksToAccess_24 : decode cX1_ticksToAccess 24 = .ok (.iadd, 1) := by decide +kernel
theorem dX1_ticksToAccess_25 : decode cX1_ticksToAccess 25 = .ok (.invokestatic 82, 3) := by decide +kernel
theorem dX1_ticksToAccess_28 : decode cX1_ticksToAccess 28 = .ok (.iadd, 1) := by decide +kernel
theorem dX1_ticksToAccess_29 : decode cX1_ticksToAccess 29 = .ok (.iload_n 1, 1) := by decide +kernel
theorem dX1_ticksToAccess_30 : decode cX1_ticksToAccess 30 = .ok (.invokestatic 69, 3) := by decide +kernel
theorem dX1_ticksToAccess_33 : decode cX1_ticksToAccess 33 = .ok (.iadd, 1) := by decide +kernel
theorem dX1_ticksToAccess_34 : decode cX1_ticksToAccess 34 = .ok (.ireturn, 1) := by decide +kernel
theorem dX1_ticksOfWait_0 : decode cX1_ticksOfWait 0 = .ok (.iload_n 0, 1) := by decide +kernel
theorem dX1_ticksOfWait_1 : decode cX1_ticksOfWait 1 = .ok (.iload_n 1, 1) := by decide +kernel
theorem dX1_ticksOfWait_2 : decode cX1_ticksOfWait 2 = .ok (.isub, 1) := by decide +kernel
theorem dX1_ticksOfWait_3 : decode cX1_ticksOfWait 3 = .ok (.bipush 120, 2) := by decide +kernel
theorem dX1_ticksOfWait_5 : decode cX1_ticksOfWait 5 = .ok (.invokestatic 85, 3) := by decide +kernel
theorem dX1_ticksOfWait_8 : decode cX1_ticksOfWait 8 = .ok (.ireturn, 1) := by decide +kernel
theorem dX1_access_0 : decode cX1_access 0 = .ok (.iload_n 1, 1) := by decide +kernel
theorem dX1_access_1 : decode cX1_access 1 = .ok (.invokestatic 72, 3) := by decide +kernel
theorem dX1_access_4 : decode cX1_access 4 = .ok (.istore_n 2, 1) := by decide +kernel
theorem dX1_access_5 : decode cX1_access 5 = .ok (.aload_n 0, 1) := by decide +kernel
theorem dX1_access_6 : decode cX1_access 6 = .ok (.aload_n 0, 1) := by decide +kernel
theorem dX1_access_7 : decode cX1_access 7 = .ok (.getfield 34, 3) := by decide +kernel
theorem dX1_access_10 : decode cX1_access 10 = .ok (.iload_n 2, 1) := by decide +kernel
theorem dX1_access_11 : decode cX1_access 11 = .ok (.invokevirtual 75, 3) := by decide +kernel
theorem dX1_access_14 : decode cX1_access 14 = .ok (.istore_n 3, 1) := by decide +kernel
theorem dX1_access_15 : decode cX1_access 15 = .ok (.aload_n 0, 1) := by decide +kernel
theorem dX1_access_16 : decode cX1_access 16 = .ok (.iload_n 1, 1) := by decide +kernel
theorem dX1_access_17 : decode cX1_access 17 = .ok (.invokevirtual 79, 3) := by decide +kernel
theorem dX1_access_20 : decode cX1_access 20 = .ok (.aload_n 0, 1) := by decide +kernel
theorem dX1_access_21 : decode cX1_access 21 = .ok (.getfield 31, 3) := by decide +kernel
theorem dX1_access_24 : decode cX1_access 24 = .ok (.iload_n 3, 1) := by decide +kernel
theorem dX1_access_25 : decode cX1_access 25 = .ok (.iadd, 1) := by decide +kernel
theorem dX1_access_26 : decode cX1_access 26 = .ok (.invokestatic 82, 3) := by decide +kernel
theorem dX1_access_29 : decode cX1_access 29 = .ok (.istore 4, 2) := by decide +kernel
theorem dX1_access_31 : decode cX1_access 31 = .ok (.iload_n 1, 1) := by decide +kernel
theorem dX1_access_32 : decode cX1_access 32 = .ok (.invokestatic 69, 3) := by decide +kernel
theorem dX1_access_35 : decode cX1_access 35 = .ok (.istore 5, 2) := by decide +kernel
theorem dX1_access_37 : decode cX1_access 37 = .ok (.aload_n 0, 1) := by decide +kernel
theorem dX1_access_38 : decode cX1_access 38 = .ok (.dup, 1) := by decide +kernel
theorem dX1_access_39 : decode cX1_access 39 = .ok (.getfield 31, 3) := by decide +kernel
theorem dX1_access_42 : decode cX1_access 42 = .ok (.iload_n 3, 1) := by decide +kernel
theorem dX1_access_43 : decode cX1_access 43 = .ok (.iload 4, 2) := by decide +kernel
theorem dX1_access_45 : decode cX1_access 45 = .ok (.iadd, 1) := by decide +kernel
theorem dX1_access_46 : decode cX1_access 46 = .ok (.iload 5, 2) := by decide +kernel
theorem dX1_access_48 : decode cX1_access 48 = .ok (.iadd, 1) := by decide +kernel
theorem dX1_access_49 : decode cX1_access 49 = .ok (.iadd, 1) := by decide +kernel
theorem dX1_access_50 : decode cX1_access 50 = .ok (.putfield 31, 3) := by decide +kernel
theorem dX1_access_53 : decode cX1_access 53 = .ok (.aload_n 0, 1) := by decide +kernel
theorem dX1_access_54 : decode cX1_access 54 = .ok (.iload_n 2, 1) := by decide +kernel
theorem dX1_access_55 : decode cX1_access 55 = .ok (.putfield 34, 3) := by decide +kernel
theorem dX1_access_58 : decode cX1_access 58 = .ok (.aload_n 0, 1) := by decide +kernel
theorem dX1_access_59 : decode cX1_access 59 = .ok (.dup, 1) := by decide +kernel
theorem dX1_access_60 : decode cX1_access 60 = .ok (.getfield 37, 3) := by decide +kernel
theorem dX1_access_63 : decode cX1_access 63 = .ok (.iload_n 3, 1) := by decide +kernel
theorem dX1_access_64 : decode cX1_access 64 = .ok (.iadd, 1) := by decide +kernel
theorem dX1_access_65 : decode cX1_access 65 = .ok (.putfield 37, 3) := by decide +kernel
theorem dX1_access_68 : decode cX1_access 68 = .ok (.aload_n 0, 1) := by decide +kernel
theorem dX1_access_69 : decode cX1_access 69 = .ok (.dup, 1) := by decide +kernel
theorem dX1_access_70 : decode cX1_access 70 = .ok (.getfield 40, 3) := by decide +kernel
theorem dX1_access_73 : decode cX1_access 73 = .ok (.iload 4, 2) := by decide +kernel
theorem dX1_access_75 : decode cX1_access 75 = .ok (.iadd, 1) := by decide +kernel
theorem dX1_access_76 : decode cX1_access 76 = .ok (.putfield 40, 3) := by decide +kernel
theorem dX1_access_79 : decode cX1_access 79 = .ok (.aload_n 0, 1) := by decide +kernel
theorem dX1_access_80 : decode cX1_access 80 = .ok (.dup, 1) := by decide +kernel
theorem dX1_access_81 : decode cX1_access 81 = .ok (.getfield 43, 3) := by decide +kernel
theorem dX1_access_84 : decode cX1_access 84 = .ok (.iload 5, 2) := by decide +kernel
theorem dX1_access_86 : decode cX1_access 86 = .ok (.iadd, 1) := by decide +kernel
theorem dX1_access_87 : decode cX1_access 87 = .ok (.putfield 43, 3) := by decide +kernel
theorem dX1_access_90 : decode cX1_access 90 = .ok (.aload_n 0, 1) := by decide +kernel
theorem dX1_access_91 : decode cX1_access 91 = .ok (.dup, 1) := by decide +kernel
theorem dX1_access_92 : decode cX1_access 92 = .ok (.getfield 46, 3) := by decide +kernel
theorem dX1_access_95 : decode cX1_access 95 = .ok (.iconst 1, 1) := by decide +kernel
theorem dX1_access_96 : decode cX1_access 96 = .ok (.iadd, 1) := by decide +kernel
theorem dX1_access_97 : decode cX1_access 97 = .ok (.putfield 46, 3) := by decide +kernel
theorem dX1_access_100 : decode cX1_access 100 = .ok (.iload_n 1, 1) := by decide +kernel
theorem dX1_access_101 : decode cX1_access 101 = .ok (.iconst 0, 1) := by decide +kernel
theorem dX1_access_102 : decode cX1_access 102 = .ok (.sipush 575, 3) := by decide +kernel
theorem dX1_access_105 : decode cX1_access 105 = .ok (.invokestatic 56, 3) := by decide +kernel
theorem dX1_access_108 : decode cX1_access 108 = .ok (.ifCond .eq 13, 3) := by decide +kernel
theorem dX1_access_111 : decode cX1_access 111 = .ok (.aload_n 0, 1) := by decide +kernel
theorem dX1_access_112 : decode cX1_access 112 = .ok (.getfield 25, 3) := by decide +kernel
theorem dX1_access_115 : decode cX1_access 115 = .ok (.iload_n 1, 1) := by decide +kernel
theorem dX1_access_116 : decode cX1_access 116 = .ok (.dup2, 1) := by decide +kernel
theorem dX1_access_117 : decode cX1_access 117 = .ok (.iaload, 1) := by decide +kernel
theorem dX1_access_118 : decode cX1_access 118 = .ok (.iconst 1, 1) := by decide +kernel
theorem dX1_access_119 : decode cX1_access 119 = .ok (.iadd, 1) := by decide +kernel
theorem dX1_access_120 : decode cX1_access 120 = .ok (.iastore, 1) := by decide +kernel
theorem dX1_access_121 : decode cX1_access 121 = .ok (.return_, 1) := by decide +kernel
theorem dX2_zoneOfPlace_0 : decode cX2_zoneOfPlace 0 = .ok (.iconst 3, 1) := by decide +kernel
theorem dX2_zoneOfPlace_1 : decode cX2_zoneOfPlace 1 = .ok (.istore_n 1, 1) := by decide +kernel
theorem dX2_zoneOfPlace_2 : decode cX2_zoneOfPlace 2 = .ok (.iload_n 1, 1) := by decide +kernel
theorem dX2_zoneOfPlace_3 : decode cX2_zoneOfPlace 3 = .ok (.ifCond .le 20, 3) := by decide +kernel
theorem dX2_zoneOfPlace_6 : decode cX2_zoneOfPlace 6 = .ok (.iload_n 0, 1) := by decide +kernel
theorem dX2_zoneOfPlace_7 : decode cX2_zoneOfPlace 7 = .ok (.getstatic 9, 3) := by decide +kernel
theorem dX2_zoneOfPlace_10 : decode cX2_zoneOfPlace 10 = .ok (.iload_n 1, 1) := by decide +kernel
theorem dX2_zoneOfPlace_11 : decode cX2_zoneOfPlace 11 = .ok (.iaload, 1) := by decide +kernel
theorem dX2_zoneOfPlace_12 : decode cX2_zoneOfPlace 12 = .ok (.if_icmp .lt 5, 3) := by decide +kernel
theorem dX2_zoneOfPlace_15 : decode cX2_zoneOfPlace 15 = .ok (.iload_n 1, 1) := by decide +kernel
theorem dX2_zoneOfPlace_16 : decode cX2_zoneOfPlace 16 = .ok (.ireturn, 1) := by decide +kernel
theorem dX2_zoneOfPlace_17 : decode cX2_zoneOfPlace 17 = .ok (.iinc 1 (-1), 3) := by decide +kernel
theorem dX2_zoneOfPlace_20 : decode cX2_zoneOfPlace 20 = .ok (.goto (-18), 3) := by decide +kernel
theorem dX2_zoneOfPlace_23 : decode cX2_zoneOfPlace 23 = .ok (.iconst 0, 1) := by decide +kernel
theorem dX2_zoneOfPlace_24 : decode cX2_zoneOfPlace 24 = .ok (.ireturn, 1) := by decide +kernel
theorem dX2_cylinderOfPlace_0 : decode cX2_cylinderOfPlace 0 = .ok (.iload_n 0, 1) := by decide +kernel
theorem dX2_cylinderOfPlace_1 : decode cX2_cylinderOfPlace 1 = .ok (.invokestatic 13, 3) := by decide +kernel
theorem dX2_cylinderOfPlace_4 : decode cX2_cylinderOfPlace 4 = .ok (.istore_n 1, 1) := by decide +kernel
theorem dX2_cylinderOfPlace_5 : decode cX2_cylinderOfPlace 5 = .ok (.iload_n 1, 1) := by decide +kernel
theorem dX2_cylinderOfPlace_6 : decode cX2_cylinderOfPlace 6 = .ok (.bipush 16, 2) := by decide +kernel
theorem dX2_cylinderOfPlace_8 : decode cX2_cylinderOfPlace 8 = .ok (.imul, 1) := by decide +kernel
theorem dX2_cylinderOfPlace_9 : decode cX2_cylinderOfPlace 9 = .ok (.iload_n 0, 1) := by decide +kernel
theorem dX2_cylinderOfPlace_10 : decode cX2_cylinderOfPlace 10 = .ok (.getstatic 9, 3) := by decide +kernel
theorem dX2_cylinderOfPlace_13 : decode cX2_cylinderOfPlace 13 = .ok (.iload_n 1, 1) := by decide +kernel
theorem dX2_cylinderOfPlace_14 : decode cX2_cylinderOfPlace 14 = .ok (.iaload, 1) := by decide +kernel
theorem dX2_cylinderOfPlace_15 : decode cX2_cylinderOfPlace 15 = .ok (.isub, 1) := by decide +kernel
theorem dX2_cylinderOfPlace_16 : decode cX2_cylinderOfPlace 16 = .ok (.getstatic 19, 3) := by decide +kernel
theorem dX2_cylinderOfPlace_19 : decode cX2_cylinderOfPlace 19 = .ok (.iload_n 1, 1) := by decide +kernel
theorem dX2_cylinderOfPlace_20 : decode cX2_cylinderOfPlace 20 = .ok (.iaload, 1) := by decide +kernel
theorem dX2_cylinderOfPlace_21 : decode cX2_cylinderOfPlace 21 = .ok (.invokestatic 22, 3) := by decide +kernel
theorem dX2_cylinderOfPlace_24 : decode cX2_cylinderOfPlace 24 = .ok (.iadd, 1) := by decide +kernel
theorem dX2_cylinderOfPlace_25 : decode cX2_cylinderOfPlace 25 = .ok (.ireturn, 1) := by decide +kernel
theorem dX2_sectorOfPlace_0 : decode cX2_sectorOfPlace 0 = .ok (.iload_n 0, 1) := by decide +kernel
theorem dX2_sectorOfPlace_1 : decode cX2_sectorOfPlace 1 = .ok (.invokestatic 13, 3) := by decide +kernel
theorem dX2_sectorOfPlace_4 : decode cX2_sectorOfPlace 4 = .ok (.istore_n 1, 1) := by decide +kernel
theorem dX2_sectorOfPlace_5 : decode cX2_sectorOfPlace 5 = .ok (.iload_n 0, 1) := by decide +kernel
theorem dX2_sectorOfPlace_6 : decode cX2_sectorOfPlace 6 = .ok (.getstatic 9, 3) := by decide +kernel
theorem dX2_sectorOfPlace_9 : decode cX2_sectorOfPlace 9 = .ok (.iload_n 1, 1) := by decide +kernel
theorem dX2_sectorOfPlace_10 : decode cX2_sectorOfPlace 10 = .ok (.iaload, 1) := by decide +kernel
theorem dX2_sectorOfPlace_11 : decode cX2_sectorOfPlace 11 = .ok (.isub, 1) := by decide +kernel
theorem dX2_sectorOfPlace_12 : decode cX2_sectorOfPlace 12 = .ok (.istore_n 2, 1) := by decide +kernel
theorem dX2_sectorOfPlace_13 : decode cX2_sectorOfPlace 13 = .ok (.iload_n 2, 1) := by decide +kernel
theorem dX2_sectorOfPlace_14 : decode cX2_sectorOfPlace 14 = .ok (.iload_n 2, 1) := by decide +kernel
theorem dX2_sectorOfPlace_15 : decode cX2_sectorOfPlace 15 = .ok (.getstatic 19, 3) := by decide +kernel
theorem dX2_sectorOfPlace_18 : decode cX2_sectorOfPlace 18 = .ok (.iload_n 1, 1) := by decide +kernel
theorem dX2_sectorOfPlace_19 : decode cX2_sectorOfPlace 19 = .ok (.iaload, 1) := by decide +kernel
theorem dX2_sectorOfPlace_20 : decode cX2_sectorOfPlace 20 = .ok (.invokestatic 22, 3) := by decide +kernel
theorem dX2_sectorOfPlace_23 : decode cX2_sectorOfPlace 23 = .ok (.getstatic 19, 3) := by decide +kernel
theorem dX2_sectorOfPlace_26 : decode cX2_sectorOfPlace 26 = .ok (.iload_n 1, 1) := by decide +kernel
theorem dX2_sectorOfPlace_27 : decode cX2_sectorOfPlace 27 = .ok (.iaload, 1) := by decide +kernel
theorem dX2_sectorOfPlace_28 : decode cX2_sectorOfPlace 28 = .ok (.imul, 1) := by decide +kernel
theorem dX2_sectorOfPlace_29 : decode cX2_sectorOfPlace 29 = .ok (.isub, 1) := by decide +kernel
theorem dX2_sectorOfPlace_30 : decode cX2_sectorOfPlace 30 = .ok (.ireturn, 1) := by decide +kernel
theorem dX2_sectorTicksAt_0 : decode cX2_sectorTicksAt 0 = .ok (.getstatic 26, 3) := by decide +kernel
theorem dX2_sectorTicksAt_3 : decode cX2_sectorTicksAt 3 = .ok (.iload_n 0, 1) := by decide +kernel
theorem dX2_sectorTicksAt_4 : decode cX2_sectorTicksAt 4 = .ok (.invokestatic 13, 3) := by decide +kernel
theorem dX2_sectorTicksAt_7 : decode cX2_sectorTicksAt 7 = .ok (.iaload, 1) := by decide +kernel
theorem dX2_sectorTicksAt_8 : decode cX2_sectorTicksAt 8 = .ok (.ireturn, 1) := by decide +kernel
theorem dX2_quotient_0 : decode cX2_quotient 0 = .ok (.iload_n 1, 1) := by decide +kernel
theorem dX2_quotient_1 : decode cX2_quotient 1 = .ok (.ifCond .le 9, 3) := by decide +kernel
theorem dX2_quotient_4 : decode cX2_quotient 4 = .ok (.iload_n 0, 1) := by decide +kernel
theorem dX2_quotient_5 : decode cX2_quotient 5 = .ok (.iload_n 1, 1) := by decide +kernel
theorem dX2_quotient_6 : decode cX2_quotient 6 = .ok (.idiv, 1) := by decide +kernel
theorem dX2_quotient_7 : decode cX2_quotient 7 = .ok (.goto 4, 3) := by decide +kernel
theorem dX2_quotient_10 : decode cX2_quotient 10 = .ok (.iconst 0, 1) := by decide +kernel
theorem dX2_quotient_11 : decode cX2_quotient 11 = .ok (.ireturn, 1) := by decide +kernel
theorem dX3_init_0 : decode cX3_init 0 = .ok (.aload_n 0, 1) := by decide +kernel
theorem dX3_init_1 : decode cX3_init 1 = .ok (.invokespecial 3, 3) := by decide +kernel
theorem dX3_init_4 : decode cX3_init 4 = .ok (.aload_n 0, 1) := by decide +kernel
theorem dX3_init_5 : decode cX3_init 5 = .ok (.bipush 6, 2) := by decide +kernel
theorem dX3_init_7 : decode cX3_init 7 = .ok (.newarray .int, 2) := by decide +kernel
theorem dX3_init_9 : decode cX3_init 9 = .ok (.putfield 9, 3) := by decide +kernel
theorem dX3_init_12 : decode cX3_init 12 = .ok (.aload_n 0, 1) := by decide +kernel
theorem dX3_init_13 : decode cX3_init 13 = .ok (.bipush 6, 2) := by decide +kernel
theorem dX3_init_15 : decode cX3_init 15 = .ok (.newarray .int, 2) := by decide +kernel
theorem dX3_init_17 : decode cX3_init 17 = .ok (.putfield 15, 3) := by decide +kernel
theorem dX3_init_20 : decode cX3_init 20 = .ok (.aload_n 0, 1) := by decide +kernel
theorem dX3_init_21 : decode cX3_init 21 = .ok (.bipush 6, 2) := by decide +kernel
theorem dX3_init_23 : decode cX3_init 23 = .ok (.newarray .int, 2) := by decide +kernel
theorem dX3_init_25 : decode cX3_init 25 = .ok (.putfield 18, 3) := by decide +kernel
theorem dX3_init_28 : decode cX3_init 28 = .ok (.aload_n 0, 1) := by decide +kernel
theorem dX3_init_29 : decode cX3_init 29 = .ok (.bipush 6, 2) := by decide +kernel
theorem dX3_init_31 : decode cX3_init 31 = .ok (.newarray .int, 2) := by decide +kernel
theorem dX3_init_33 : decode cX3_init 33 = .ok (.putfield 21, 3) := by decide +kernel
theorem dX3_init_36 : decode cX3_init 36 = .ok (.aload_n 0, 1) := by decide +kernel
theorem dX3_init_37 : decode cX3_init 37 = .ok (.bipush 6, 2) := by decide +kernel
theorem dX3_init_39 : decode cX3_init 39 = .ok (.newarray .int, 2) := by decide +kernel
theorem dX3_init_41 : decode cX3_init 41 = .ok (.putfield 24, 3) := by decide +kernel
theorem dX3_init_44 : decode cX3_init 44 = .ok (.aload_n 0, 1) := by decide +kernel
theorem dX3_init_45 : decode cX3_init 45 = .ok (.bipush 6, 2) := by decide +kernel
theorem dX3_init_47 : decode cX3_init 47 = .ok (.newarray .boolean, 2) := by decide +kernel
theorem dX3_init_49 : decode cX3_init 49 = .ok (.putfield 27, 3) := by decide +kernel
theorem dX3_init_52 : decode cX3_init 52 = .ok (.aload_n 0, 1) := by decide +kernel
theorem dX3_init_53 : decode cX3_init 53 = .ok (.bipush 6, 2) := by decide +kernel
theorem dX3_init_55 : decode cX3_init 55 = .ok (.newarray .int, 2) := by decide +kernel
theorem dX3_init_57 : decode cX3_init 57 = .ok (.putfield 31, 3) := by decide +kernel
theorem dX3_init_60 : decode cX3_init 60 = .ok (.aload_n 0, 1) := by decide +kernel
theorem dX3_init_61 : decode cX3_init 61 = .ok (.bipush 6, 2) := by decide +kernel
theorem dX3_init_63 : decode cX3_init 63 = .ok (.newarray .int, 2) := by decide +kernel
theorem dX3_init_65 : decode cX3_init 65 = .ok (.putfield 34, 3) := by decide +kernel
theorem dX3_init_68 : decode cX3_init 68 = .ok (.return_, 1) := by decide +kernel
theorem dX3_gather_0 : decode cX3_gather 0 = .ok (.aload_n 0, 1) := by decide +kernel
theorem dX3_gather_1 : decode cX3_gather 1 = .ok (.iconst 0, 1) := by decide +kernel
theorem dX3_gather_2 : decode cX3_gather 2 = .ok (.putfield 37, 3) := by decide +kernel
theorem dX3_gather_5 : decode cX3_gather 5 = .ok (.iconst 0, 1) := by decide +kernel
theorem dX3_gather_6 : decode cX3_gather 6 = .ok (.istore 5, 2) := by decide +kernel
theorem dX3_gather_8 : decode cX3_gather 8 = .ok (.iload 5, 2) := by decide +kernel
theorem dX3_gather_10 : decode cX3_gather 10 = .ok (.aload_n 1, 1) := by decide +kernel
theorem dX3_gather_11 : decode cX3_gather 11 = .ok (.getfield 41, 3) := by decide +kernel
theorem dX3_gather_14 : decode cX3_gather 14 = .ok (.if_icmp .ge 160, 3) := by decide +kernel
theorem dX3_gather_17 : decode cX3_gather 17 = .ok (.aload_n 0, 1) := by decide +kernel
theorem dX3_gather_18 : decode cX3_gather 18 = .ok (.getfield 37, 3) := by decide +kernel
theorem dX3_gather_21 : decode cX3_gather 21 = .ok (.bipush 6, 2) := by decide +kernel
theorem dX3_gather_23 : decode cX3_gather 23 = .ok (.if_icmp .ge 151, 3) := by decide +kernel
theorem dX3_gather_26 : decode cX3_gather 26 = .ok (.aload_n 1, 1) := by decide +kernel
theorem dX3_gather_27 : decode cX3_gather 27 = .ok (.iload 5, 2) := by decide +kernel
theorem dX3_gather_29 : decode cX3_gather 29 = .ok (.invokevirtual 46, 3) := by decide +kernel
theorem dX3_gather_32 : decode cX3_gather 32 = .ok (.astore 6, 2) := by decide +kernel
theorem dX3_gather_34 : decode cX3_gather 34 = .ok (.aload 6, 2) := by decide +kernel
theorem dX3_gather_36 : decode cX3_gather 36 = .ok (.ifnull 132, 3) := by decide +kernel
theorem dX3_gather_39 : decode cX3_gather 39 = .ok (.aload 6, 2) := by decide +kernel
theorem dX3_gather_41 : decode cX3_gather 41 = .ok (.invokevirtual 50, 3) := by decide +kernel
theorem dX3_gather_44 : decode cX3_gather 44 = .ok (.ifCond .ne 7, 3) := by decide +kernel
theorem dX3_gather_47 : decode cX3_gather 47 = .ok (.iload_n 3, 1) := by decide +kernel
theorem dX3_gather_48 : decode cX3_gather 48 = .ok (.ifCond .ne 120, 3) := by decide +kernel
theorem dX3_gather_51 : decode cX3_gather 51 = .ok (.aload_n 2, 1) := by decide +kernel
theorem dX3_gather_52 : decode cX3_gather 52 = .ok (.aload 6, 2) := by decide +kernel
theorem dX3_gather_54 : decode cX3_gather 54 = .ok (.getfield 56, 3) := by decide +kernel
theorem dX3_gather_57 : decode cX3_gather 57 = .ok (.invokevirtual 59, 3) := by decide +kernel
theorem dX3_gather_60 : decode cX3_gather 60 = .ok (.istore 7, 2) := by decide +kernel
theorem dX3_gather_62 : decode cX3_gather 62 = .ok (.aload_n 0, 1) := by decide +kernel
theorem dX3_gather_63 : decode cX3_gather 63 = .ok (.getfield 9, 3) := by decide +kernel
theorem dX3_gather_66 : decode cX3_gather 66 = .ok (.aload_n 0, 1) := by decide +kernel
theorem dX3_gather_67 : decode cX3_gather 67 = .ok (.getfield 37, 3) := by decide +kernel
theorem dX3_gather_70 : decode cX3_gather 70 = .ok (.iload 5, 2) := by decide +kernel
theorem dX3_gather_72 : decode cX3_gather 72 = .ok (.iastore, 1) := by decide +kernel
theorem dX3_gather_73 : decode cX3_gather 73 = .ok (.aload_n 0, 1) := by decide +kernel
theorem dX3_gather_74 : decode cX3_gather 74 = .ok (.getfield 15, 3) := by decide +kernel
theorem dX3_gather_77 : decode cX3_gather 77 = .ok (.aload_n 0, 1) := by decide +kernel
theorem dX3_gather_78 : decode cX3_gather 78 = .ok (.getfield 37, 3) := by decide +kernel
theorem dX3_gather_81 : decode cX3_gather 81 = .ok (.iload 7, 2) := by decide +kernel
theorem dX3_gather_83 : decode cX3_gather 83 = .ok (.invokestatic 65, 3) := by decide +kernel
theorem dX3_gather_86 : decode cX3_gather 86 = .ok (.iastore, 1) := by decide +kernel
theorem dX3_gather_87 : decode cX3_gather 87 = .ok (.aload_n 0, 1) := by decide +kernel
theorem dX3_gather_88 : decode cX3_gather 88 = .ok (.getfield 18, 3) := by decide +kernel
theorem dX3_gather_91 : decode cX3_gather 91 = .ok (.aload_n 0, 1) := by decide +kernel
theorem dX3_gather_92 : decode cX3_gather 92 = .ok (.getfield 37, 3) := by decide +kernel
theorem dX3_gather_95 : decode cX3_gather 95 = .ok (.aload_n 2, 1) := by decide +kernel
theorem dX3_gather_96 : decode cX3_gather 96 = .ok (.iload 7, 2) := by decide +kernel
theorem dX3_gather_98 : decode cX3_gather 98 = .ok (.invokevirtual 70, 3) := by decide +kernel
theorem dX3_gather_101 : decode cX3_gather 101 = .ok (.iastore, 1) := by decide +kernel
theorem dX3_gather_102 : decode cX3_gather 102 = .ok (.aload_n 0, 1) := by decide +kernel
theorem dX3_gather_103 : decode cX3_gather 103 = .ok (.getfield 21, 3) := by decide +kernel
theorem dX3_gather_106 : decode cX3_gather 106 = .ok (.aload_n 0, 1) := by decide +kernel
theorem dX3_gather_107 : decode cX3_gather 107 = .ok (.getfield 37, 3) := by decide +kernel
theorem dX3_gather_110 : decode cX3_gather 110 = .ok (.iload 7, 2) := by decide +kernel
theorem dX3_gather_112 : decode cX3_gather 112 = .ok (.invokestatic 73, 3) := by decide +kernel
theorem dX3_gather_115 : decode cX3_gather 115 = .ok (.iastore, 1) := by decide +kernel
theorem dX3_gather_116 : decode cX3_gather 116 = .ok (.aload_n 0, 1) := by decide +kernel
theorem dX3_gather_117 : decode cX3_gather 117 = .ok (.getfield 24, 3) := by decide +kernel
theorem dX3_gather_120 : decode cX3_gather 120 = .ok (.aload_n 0, 1) := by decide +kernel
theorem dX3_gather_121 : decode cX3_gather 121 = .ok (.getfield 37, 3) := by decide +kernel
theorem dX3_gather_124 : decode cX3_gather 124 = .ok (.iload 4, 2) := by decide +kernel
theorem dX3_gather_126 : decode cX3_gather 126 = .ok (.ifCond .eq 19, 3) := by decide +kernel
theorem dX3_gather_129 : decode cX3_gather 129 = .ok (.aload 6, 2) := by decide +kernel
theorem dX3_gather_131 : decode cX3_gather 131 = .ok (.invokevirtual 50, 3) := by decide +kernel
theorem dX3_gather_134 : decode cX3_gather 134 = .ok (.ifCond .eq 11, 3) := by decide +kernel
theorem dX3_gather_137 : decode cX3_gather 137 = .ok (.aload 6, 2) := by decide +kernel
theorem dX3_gather_139 : decode cX3_gather 139 = .ok (.getfield 76, 3) := by decide +kernel
theorem dX3_gather_142 : decode cX3_gather 142 = .ok (.goto 5, 3) := by decide +kernel
theorem dX3_gather_145 : decode cX3_gather 145 = .ok (.ldc 79, 2) := by decide +kernel
theorem dX3_gather_147 : decode cX3_gather 147 = .ok (.iastore, 1) := by decide +kernel
theorem dX3_gather_148 : decode cX3_gather 148 = .ok (.aload_n 0, 1) := by decide +kernel
theorem dX3_gather_149 : decode cX3_gather 149 = .ok (.getfield 27, 3) := by decide +kernel
theorem dX3_gather_152 : decode cX3_gather 152 = .ok (.aload_n 0, 1) := by decide +kernel
theorem dX3_gather_153 : decode cX3_gather 153 = .ok (.getfield 37, 3) := by decide +kernel
theorem dX3_gather_156 : decode cX3_gather 156 = .ok (.iconst 0, 1) := by decide +kernel
theorem dX3_gather_157 : decode cX3_gather 157 = .ok (.bastore, 1) := by decide +kernel
theorem dX3_gather_158 : decode cX3_gather 158 = .ok (.aload_n 0, 1) := by decide +kernel
theorem dX3_gather_159 : decode cX3_gather 159 = .ok (.dup, 1) := by decide +kernel
theorem dX3_gather_160 : decode cX3_gather 160 = .ok (.getfield 37, 3) := by decide +kernel
theorem dX3_gather_163 : decode cX3_gather 163 = .ok (.iconst 1, 1) := by decide +kernel
theorem dX3_gather_164 : decode cX3_gather 164 = .ok (.iadd, 1) := by decide +kernel
theorem dX3_gather_165 : decode cX3_gather 165 = .ok (.putfield 37, 3) := by decide +kernel
theorem dX3_gather_168 : decode cX3_gather 168 = .ok (.iinc 5 1, 3) := by decide +kernel
theorem dX3_gather_171 : decode cX3_gather 171 = .ok (.goto (-163), 3) := by decide +kernel
theorem dX3_gather_174 : decode cX3_gather 174 = .ok (.return_, 1) := by decide +kernel
theorem dX3_run_0 : decode cX3_run 0 = .ok (.aload_n 0, 1) := by decide +kernel
theorem dX3_run_1 : decode cX3_run 1 = .ok (.ldc 79, 2) := by decide +kernel
theorem dX3_run_3 : decode cX3_run 3 = .ok (.putfield 80, 3) := by decide +kernel
theorem dX3_run_6 : decode cX3_run 6 = .ok (.aload_n 0, 1) := by decide +kernel
theorem dX3_run_7 : decode cX3_run 7 = .ok (.iconst 0, 1) := by decide +kernel
theorem dX3_run_8 : decode cX3_run 8 = .ok (.aload_n 1, 1) := by decide +kernel
theorem dX3_run_9 : decode cX3_run 9 = .ok (.getfield 83, 3) := by decide +kernel
theorem dX3_run_12 : decode cX3_run 12 = .ok (.aload_n 1, 1) := by decide +kernel
theorem dX3_run_13 : decode cX3_run 13 = .ok (.getfield 86, 3) := by decide +kernel
theorem dX3_run_16 : decode cX3_run 16 = .ok (.aload_n 1, 1) := by decide +kernel
theorem dX3_run_17 : decode cX3_run 17 = .ok (.invokevirtual 89, 3) := by decide +kernel
theorem dX3_run_20 : decode cX3_run 20 = .ok (.return_, 1) := by decide +kernel
theorem dX3_hasFound_0 : decode cX3_hasFound 0 = .ok (.aload_n 0, 1) := by decide +kernel
theorem dX3_hasFound_1 : decode cX3_hasFound 1 = .ok (.getfield 80, 3) := by decide +kernel
theorem dX3_hasFound_4 : decode cX3_hasFound 4 = .ok (.ldc 79, 2) := by decide +kernel
theorem dX3_hasFound_6 : decode cX3_hasFound 6 = .ok (.if_icmp .eq 7, 3) := by decide +kernel
theorem dX3_hasFound_9 : decode cX3_hasFound 9 = .ok (.iconst 1, 1) := by decide +kernel
theorem dX3_hasFound_10 : decode cX3_hasFound 10 = .ok (.goto 4, 3) := by decide +kernel
theorem dX3_hasFound_13 : decode cX3_hasFound 13 = .ok (.iconst 0, 1) := by decide +kernel
theorem dX3_hasFound_14 : decode cX3_hasFound 14 = .ok (.ireturn, 1) := by decide +kernel
theorem dX3_requestAt_0 : decode cX3_requestAt 0 = .ok (.iload_n 1, 1) := by decide +kernel
theorem dX3_requestAt_1 : decode cX3_requestAt 1 = .ok (.iconst 0, 1) := by decide +kernel
theorem dX3_requestAt_2 : decode cX3_requestAt 2 = .ok (.iconst 5, 1) := by decide +kernel
theorem dX3_requestAt_3 : decode cX3_requestAt 3 = .ok (.invokestatic 93, 3) := by decide +kernel
theorem dX3_requestAt_6 : decode cX3_requestAt 6 = .ok (.ifCond .eq 12, 3) := by decide +kernel
theorem dX3_requestAt_9 : decode cX3_requestAt 9 = .ok (.aload_n 0, 1) := by decide +kernel
theorem dX3_requestAt_10 : decode cX3_requestAt 10 = .ok (.getfield 34, 3) := by decide +kernel
theorem dX3_requestAt_13 : decode cX3_requestAt 13 = .ok (.iload_n 1, 1) := by decide +kernel
theorem dX3_requestAt_14 : decode cX3_requestAt 14 = .ok (.iaload, 1) := by decide +kernel
theorem dX3_requestAt_15 : decode cX3_requestAt 15 = .ok (.goto 4, 3) := by decide +kernel
theorem dX3_requestAt_18 : decode cX3_requestAt 18 = .ok (.iconst (-1), 1) := by decide +kernel
theorem dX3_requestAt_19 : decode cX3_requestAt 19 = .ok (.ireturn, 1) := by decide +kernel
theorem dX3_tryFrom_0 : decode cX3_tryFrom 0 = .ok (.iload_n 3, 1) := by decide +kernel
theorem dX3_tryFrom_1 : decode cX3_tryFrom 1 = .ok (.aload_n 0, 1) := by decide +kernel
theorem dX3_tryFrom_2 : decode cX3_tryFrom 2 = .ok (.getfield 80, 3) := by decide +kernel
theorem dX3_tryFrom_5 : decode cX3_tryFrom 5 = .ok (.if_icmp .lt 4, 3) := by decide +kernel
theorem dX3_tryFrom_8 : decode cX3_tryFrom 8 = .ok (.return_, 1) := by decide +kernel
theorem dX3_tryFrom_9 : decode cX3_tryFrom 9 = .ok (.iload_n 1, 1) := by decide +kernel
theorem dX3_tryFrom_10 : decode cX3_tryFrom 10 = .ok (.aload_n 0, 1) := by decide +kernel
theorem dX3_tryFrom_11 : decode cX3_tryFrom 11 = .ok (.getfield 37, 3) := by decide +kernel
theorem dX3_tryFrom_14 : decode cX3_tryFrom 14 = .ok (.if_icmp .ge 9, 3) := by decide +kernel
theorem dX3_tryFrom_17 : decode cX3_tryFrom 17 = .ok (.iload_n 1, 1) := by decide +kernel
theorem dX3_tryFrom_18 : decode cX3_tryFrom 18 = .ok (.bipush 6, 2) := by decide +kernel
theorem dX3_tryFrom_20 : decode cX3_tryFrom 20 = .ok (.if_icmp .lt 20, 3) := by decide +kernel
theorem dX3_tryFrom_23 : decode cX3_tryFrom 23 = .ok (.aload_n 0, 1) := by decide +kernel
theorem dX3_tryFrom_24 : decode cX3_tryFrom 24 = .ok (.iload_n 3, 1) := by decide +kernel
theorem dX3_tryFrom_25 : decode cX3_tryFrom 25 = .ok (.putfield 80, 3) := by decide +kernel
theorem dX3_tryFrom_28 : decode cX3_tryFrom 28 = .ok (.aload_n 0, 1) := by decide +kernel
theorem dX3_tryFrom_29 : decode cX3_tryFrom 29 = .ok (.getfield 31, 3) := by decide +kernel
theorem dX3_tryFrom_32 : decode cX3_tryFrom 32 = .ok (.aload_n 0, 1) := by decide +kernel
theorem dX3_tryFrom_33 : decode cX3_tryFrom 33 = .ok (.getfield 34, 3) := by decide +kernel
theorem dX3_tryFrom_36 : decode cX3_tryFrom 36 = .ok (.invokestatic 97, 3) := by decide +kernel
theorem dX3_tryFrom_39 : decode cX3_tryFrom 39 = .ok (.return_, 1) := by decide +kernel
theorem dX3_tryFrom_40 : decode cX3_tryFrom 40 = .ok (.iconst 0, 1) := by decide +kernel
theorem dX3_tryFrom_41 : decode cX3_tryFrom 41 = .ok (.istore 5, 2) := by decide +kernel
theorem dX3_tryFrom_43 : decode cX3_tryFrom 43 = .ok (.iload 5, 2) := by decide +kernel
theorem dX3_tryFrom_45 : decode cX3_tryFrom 45 = .ok (.aload_n 0, 1) := by decide +kernel
theorem dX3_tryFrom_46 : decode cX3_tryFrom 46 = .ok (.getfield 37, 3) := by decide +kernel
theorem dX3_tryFrom_49 : decode cX3_tryFrom 49 = .ok (.if_icmp .ge 37, 3) := by decide +kernel
theorem dX3_tryFrom_52 : decode cX3_tryFrom 52 = .ok (.iload 5, 2) := by decide +kernel
theorem dX3_tryFrom_54 : decode cX3_tryFrom 54 = .ok (.bipush 6, 2) := by decide +kernel
theorem dX3_tryFrom_56 : decode cX3_tryFrom 56 = .ok (.if_icmp .ge 30, 3) := by decide +kernel
theorem dX3_tryFrom_59 : decode cX3_tryFrom 59 = .ok (.aload_n 0, 1) := by decide +kernel
theorem dX3_tryFrom_60 : decode cX3_tryFrom 60 = .ok (.getfield 27, 3) := by decide +kernel
theorem dX3_tryFrom_63 : decode cX3_tryFrom 63 = .ok (.iload 5, 2) := by decide +kernel
theorem dX3_tryFrom_65 : decode cX3_tryFrom 65 = .ok (.baload, 1) := by decide +kernel
theorem dX3_tryFrom_66 : decode cX3_tryFrom 66 = .ok (.ifCond .ne 14, 3) := by decide +kernel
theorem dX3_tryFrom_69 : decode cX3_tryFrom 69 = .ok (.aload_n 0, 1) := by decide +kernel
theorem dX3_tryFrom_70 : decode cX3_tryFrom 70 = .ok (.iload 5, 2) := by decide +kernel
theorem dX3_tryFrom_72 : decode cX3_tryFrom 72 = .ok (.iload_n 1, 1) := by decide +kernel
theorem dX3_tryFrom_73 : decode cX3_tryFrom 73 = .ok (.iload_n 2, 1) := by decide +kernel
theorem dX3_tryFrom_74 : decode cX3_tryFrom 74 = .ok (.iload_n 3, 1) := by decide +kernel
theorem dX3_tryFrom_75 : decode cX3_tryFrom 75 = .ok (.aload 4, 2) := by decide +kernel
theorem dX3_tryFrom_77 : decode cX3_tryFrom 77 = .ok (.invokevirtual 101, 3) := by decide +kernel
theorem dX3_tryFrom_80 : decode cX3_tryFrom 80 = .ok (.iinc 5 1, 3) := by decide +kernel
theorem dX3_tryFrom_83 : decode cX3_tryFrom 83 = .ok (.goto (-40), 3) := by decide +kernel
theorem dX3_tryFrom_86 : decode cX3_tryFrom 86 = .ok (.return_, 1) := by decide +kernel
theorem dX3_tryNext_0 : decode cX3_tryNext 0 = .ok (.iload_n 1, 1) := by decide +kernel
theorem dX3_tryNext_1 : decode cX3_tryNext 1 = .ok (.iconst 0, 1) := by decide +kernel
theorem dX3_tryNext_2 : decode cX3_tryNext 2 = .ok (.iconst 5, 1) := by decide +kernel
theorem dX3_tryNext_3 : decode cX3_tryNext 3 = .ok (.invokestatic 93, 3) := by decide +kernel
theorem dX3_tryNext_6 : decode cX3_tryNext 6 = .ok (.ifCond .eq 12, 3) := by decide +kernel
theorem dX3_tryNext_9 : decode cX3_tryNext 9 = .ok (.iload_n 2, 1) := by decide +kernel
theorem dX3_tryNext_10 : decode cX3_tryNext 10 = .ok (.iconst 0, 1) := by decide +kernel
theorem dX3_tryNext_11 : decode cX3_tryNext 11 = .ok (.iconst 5, 1) := by decide +kernel
theorem dX3_tryNext_12 : decode cX3_tryNext 12 = .ok (.invokestatic 93, 3) := by decide +kernel
theorem dX3_tryNext_15 : decode cX3_tryNext 15 = .ok (.ifCond .ne 4, 3) := by decide +kernel
theorem dX3_tryNext_18 : decode cX3_tryNext 18 = .ok (.return_, 1) := by decide +kernel
theorem dX3_tryNext_19 : decode cX3_tryNext 19 = .ok (.iload 4, 2) := by decide +kernel
theorem dX3_tryNext_21 : decode cX3_tryNext 21 = .ok (.aload 5, 2) := by decide +kernel
theorem dX3_tryNext_23 : decode cX3_tryNext 23 = .ok (.iload_n 3, 1) := by decide +kernel
theorem dX3_tryNext_24 : decode cX3_tryNext 24 = .ok (.aload_n 0, 1) := by decide +kernel
theorem dX3_tryNext_25 : decode cX3_tryNext 25 = .ok (.getfield 15, 3) := by decide +kernel
theorem dX3_tryNext_28 : decode cX3_tryNext 28 = .ok (.iload_n 1, 1) := by decide +kernel
theorem dX3_tryNext_29 : decode cX3_tryNext 29 = .ok (.iaload, 1) := by decide +kernel
theorem dX3_tryNext_30 : decode cX3_tryNext 30 = .ok (.invokevirtual 105, 3) := by decide +kernel
theorem dX3_tryNext_33 : decode cX3_tryNext 33 = .ok (.iadd, 1) := by decide +kernel
theorem dX3_tryNext_34 : decode cX3_tryNext 34 = .ok (.istore 6, 2) := by decide +kernel
theorem dX3_tryNext_36 : decode cX3_tryNext 36 = .ok (.iload 6, 2) := by decide +kernel
theorem dX3_tryNext_38 : decode cX3_tryNext 38 = .ok (.aload_n 0, 1) := by decide +kernel
theorem dX3_tryNext_39 : decode cX3_tryNext 39 = .ok (.getfield 18, 3) := by decide +kernel
theorem dX3_tryNext_42 : decode cX3_tryNext 42 = .ok (.iload_n 1, 1) := by decide +kernel
theorem dX3_tryNext_43 : decode cX3_tryNext 43 = .ok (.iaload, 1) := by decide +kernel
theorem dX3_tryNext_44 : decode cX3_tryNext 44 = .ok (.iload 6, 2) := by decide +kernel
theorem dX3_tryNext_46 : decode cX3_tryNext 46 = .ok (.invokestatic 109, 3) := by decide +kernel
theorem dX3_tryNext_49 : decode cX3_tryNext 49 = .ok (.iadd, 1) := by decide +kernel
theorem dX3_tryNext_50 : decode cX3_tryNext 50 = .ok (.aload_n 0, 1) := by decide +kernel
theorem dX3_tryNext_51 : decode cX3_tryNext 51 = .ok (.getfield 21, 3) := by decide +kernel
theorem dX3_tryNext_54 : decode cX3_tryNext 54 = .ok (.iload_n 1, 1) := by decide +kernel
theorem dX3_tryNext_55 : decode cX3_tryNext 55 = .ok (.iaload, 1) := by decide +kernel
theorem dX3_tryNext_56 : decode cX3_tryNext 56 = .ok (.iadd, 1) := by decide +kernel
theorem dX3_tryNext_57 : decode cX3_tryNext 57 = .ok (.istore 7, 2) := by decide +kernel
theorem dX3_tryNext_59 : decode cX3_tryNext 59 = .ok (.iload 7, 2) := by decide +kernel
theorem dX3_tryNext_61 : decode cX3_tryNext 61 = .ok (.aload_n 0, 1) := by decide +kernel
theorem dX3_tryNext_62 : decode cX3_tryNext 62 = .ok (.getfield 24, 3) := by decide +kernel
theorem dX3_tryNext_65 : decode cX3_tryNext 65 = .ok (.iload_n 1, 1) := by decide +kernel
theorem dX3_tryNext_66 : decode cX3_tryNext 66 = .ok (.iaload, 1) := by decide +kernel
theorem dX3_tryNext_67 : decode cX3_tryNext 67 = .ok (.if_icmp .gt 46, 3) := by decide +kernel
theorem dX3_tryNext_70 : decode cX3_tryNext 70 = .ok (.aload_n 0, 1) := by decide +kernel
theorem dX3_tryNext_71 : decode cX3_tryNext 71 = .ok (.getfield 27, 3) := by decide +kernel
theorem dX3_tryNext_74 : decode cX3_tryNext 74 = .ok (.iload_n 1, 1) := by decide +kernel
theorem dX3_tryNext_75 : decode cX3_tryNext 75 = .ok (.iconst 1, 1) := by decide +kernel
theorem dX3_tryNext_76 : decode cX3_tryNext 76 = .ok (.bastore, 1) := by decide +kernel
theorem dX3_tryNext_77 : decode cX3_tryNext 77 = .ok (.aload_n 0, 1) := by decide +kernel
theorem dX3_tryNext_78 : decode cX3_tryNext 78 = .ok (.getfield 31, 3) := by decide +kernel
theorem dX3_tryNext_81 : decode cX3_tryNext 81 = .ok (.iload_n 2, 1) := by decide +kernel
theorem dX3_tryNext_82 : decode cX3_tryNext 82 = .ok (.aload_n 0, 1) := by decide +kernel
theorem dX3_tryNext_83 : decode cX3_tryNext 83 = .ok (.getfield 9, 3) := by decide +kernel
theorem dX3_tryNext_86 : decode cX3_tryNext 86 = .ok (.iload_n 1, 1) := by decide +kernel
theorem dX3_tryNext_87 : decode cX3_tryNext 87 = .ok (.iaload, 1) := by decide +kernel
theorem dX3_tryNext_88 : decode cX3_tryNext 88 = .ok (.iastore, 1) := by decide +kernel
theorem dX3_tryNext_89 : decode cX3_tryNext 89 = .ok (.aload_n 0, 1) := by decide +kernel
theorem dX3_tryNext_90 : decode cX3_tryNext 90 = .ok (.iload_n 2, 1) := by decide +kernel
theorem dX3_tryNext_91 : decode cX3_tryNext 91 = .ok (.iconst 1, 1) := by decide +kernel
theorem dX3_tryNext_92 : decode cX3_tryNext 92 = .ok (.iadd, 1) := by decide +kernel
theorem dX3_tryNext_93 : decode cX3_tryNext 93 = .ok (.aload_n 0, 1) := by decide +kernel
theorem dX3_tryNext_94 : decode cX3_tryNext 94 = .ok (.getfield 15, 3) := by decide +kernel
theorem dX3_tryNext_97 : decode cX3_tryNext 97 = .ok (.iload_n 1, 1) := by decide +kernel
theorem dX3_tryNext_98 : decode cX3_tryNext 98 = .ok (.iaload, 1) := by decide +kernel
theorem dX3_tryNext_99 : decode cX3_tryNext 99 = .ok (.iload 7, 2) := by decide +kernel
theorem dX3_tryNext_101 : decode cX3_tryNext 101 = .ok (.aload 5, 2) := by decide +kernel
theorem dX3_tryNext_103 : decode cX3_tryNext 103 = .ok (.invokevirtual 89, 3) := by decide +kernel
theorem dX3_tryNext_106 : decode cX3_tryNext 106 = .ok (.aload_n 0, 1) := by decide +kernel
theorem dX3_tryNext_107 : decode cX3_tryNext 107 = .ok (.getfield 27, 3) := by decide +kernel
theorem dX3_tryNext_110 : decode cX3_tryNext 110 = .ok (.iload_n 1, 1) := by decide +kernel
theorem dX3_tryNext_111 : decode cX3_tryNext 111 = .ok (.iconst 0, 1) := by decide +kernel
theorem dX3_tryNext_112 : decode cX3_tryNext 112 = .ok (.bastore, 1) := by decide +kernel
theorem dX3_tryNext_113 : decode cX3_tryNext 113 = .ok (.return_, 1) := by decide +kernel
theorem dX4_init_0 : decode cX4_init 0 = .ok (.aload_n 0, 1) := by decide +kernel
theorem dX4_init_1 : decode cX4_init 1 = .ok (.invokespecial 3, 3) := by decide +kernel
theorem dX4_init_4 : decode cX4_init 4 = .ok (.aload_n 0, 1) := by decide +kernel
theorem dX4_init_5 : decode cX4_init 5 = .ok (.iload_n 1, 1) := by decide +kernel
theorem dX4_init_6 : decode cX4_init 6 = .ok (.putfield 9, 3) := by decide +kernel
theorem dX4_init_9 : decode cX4_init 9 = .ok (.return_, 1) := by decide +kernel
theorem dX4_begin_0 : decode cX4_begin 0 = .ok (.aload_n 0, 1) := by decide +kernel
theorem dX4_begin_1 : decode cX4_begin 1 = .ok (.iload_n 1, 1) := by decide +kernel
theorem dX4_begin_2 : decode cX4_begin 2 = .ok (.putfield 15, 3) := by decide +kernel
theorem dX4_begin_5 : decode cX4_begin 5 = .ok (.aload_n 0, 1) := by decide +kernel
theorem dX4_begin_6 : decode cX4_begin 6 = .ok (.iload_n 2, 1) := by decide +kernel
theorem dX4_begin_7 : decode cX4_begin 7 = .ok (.putfield 18, 3) := by decide +kernel
theorem dX4_begin_10 : decode cX4_begin 10 = .ok (.aload_n 0, 1) := by decide +kernel
theorem dX4_begin_11 : decode cX4_begin 11 = .ok (.iload_n 3, 1) := by decide +kernel
theorem dX4_begin_12 : decode cX4_begin 12 = .ok (.putfield 21, 3) := by decide +kernel
theorem dX4_begin_15 : decode cX4_begin 15 = .ok (.aload_n 0, 1) := by decide +kernel
theorem dX4_begin_16 : decode cX4_begin 16 = .ok (.iconst (-1), 1) := by decide +kernel
theorem dX4_begin_17 : decode cX4_begin 17 = .ok (.putfield 24, 3) := by decide +kernel
theorem dX4_begin_20 : decode cX4_begin 20 = .ok (.aload_n 0, 1) := by decide +kernel
theorem dX4_begin_21 : decode cX4_begin 21 = .ok (.iconst 0, 1) := by decide +kernel
theorem dX4_begin_22 : decode cX4_begin 22 = .ok (.putfield 27, 3) := by decide +kernel
theorem dX4_begin_25 : decode cX4_begin 25 = .ok (.return_, 1) := by decide +kernel
theorem dX4_copyFrom_0 : decode cX4_copyFrom 0 = .ok (.aload_n 0, 1) := by decide +kernel
theorem dX4_copyFrom_1 : decode cX4_copyFrom 1 = .ok (.aload_n 1, 1) := by decide +kernel
theorem dX4_copyFrom_2 : decode cX4_copyFrom 2 = .ok (.getfield 15, 3) := by decide +kernel
theorem dX4_copyFrom_5 : decode cX4_copyFrom 5 = .ok (.putfield 15, 3) := by decide +kernel
theorem dX4_copyFrom_8 : decode cX4_copyFrom 8 = .ok (.aload_n 0, 1) := by decide +kernel
theorem dX4_copyFrom_9 : decode cX4_copyFrom 9 = .ok (.aload_n 1, 1) := by decide +kernel
theorem dX4_copyFrom_10 : decode cX4_copyFrom 10 = .ok (.getfield 18, 3) := by decide +kernel
theorem dX4_copyFrom_13 : decode cX4_copyFrom 13 = .ok (.putfield 18, 3) := by decide +kernel
theorem dX4_copyFrom_16 : decode cX4_copyFrom 16 = .ok (.aload_n 0, 1) := by decide +kernel
theorem dX4_copyFrom_17 : decode cX4_copyFrom 17 = .ok (.aload_n 1, 1) := by decide +kernel
theorem dX4_copyFrom_18 : decode cX4_copyFrom 18 = .ok (.getfield 21, 3) := by decide +kernel
theorem dX4_copyFrom_21 : decode cX4_copyFrom 21 = .ok (.putfield 21, 3) := by decide +kernel
theorem dX4_copyFrom_24 : decode cX4_copyFrom 24 = .ok (.aload_n 0, 1) := by decide +kernel
theorem dX4_copyFrom_25 : decode cX4_copyFrom 25 = .ok (.aload_n 1, 1) := by decide +kernel
theorem dX4_copyFrom_26 : decode cX4_copyFrom 26 = .ok (.getfield 24, 3) := by decide +kernel
theorem dX4_copyFrom_29 : decode cX4_copyFrom 29 = .ok (.putfield 24, 3) := by decide +kernel
theorem dX4_copyFrom_32 : decode cX4_copyFrom 32 = .ok (.aload_n 0, 1) := by decide +kernel
theorem dX4_copyFrom_33 : decode cX4_copyFrom 33 = .ok (.aload_n 1, 1) := by decide +kernel
theorem dX4_copyFrom_34 : decode cX4_copyFrom 34 = .ok (.getfield 27, 3) := by decide +kernel
theorem dX4_copyFrom_37 : decode cX4_copyFrom 37 = .ok (.putfield 27, 3) := by decide +kernel
theorem dX4_copyFrom_40 : decode cX4_copyFrom 40 = .ok (.return_, 1) := by decide +kernel
theorem dX4_hasDeadline_0 : decode cX4_hasDeadline 0 = .ok (.aload_n 0, 1) := by decide +kernel
theorem dX4_hasDeadline_1 : decode cX4_hasDeadline 1 = .ok (.getfield 21, 3) := by decide +kernel
theorem dX4_hasDeadline_4 : decode cX4_hasDeadline 4 = .ok (.iconst (-1), 1) := by decide +kernel
theorem dX4_hasDeadline_5 : decode cX4_hasDeadline 5 = .ok (.if_icmp .eq 7, 3) := by decide +kernel
theorem dX4_hasDeadline_8 : decode cX4_hasDeadline 8 = .ok (.iconst 1, 1) := by decide +kernel
theorem dX4_hasDeadline_9 : decode cX4_hasDeadline 9 = .ok (.goto 4, 3) := by decide +kernel
theorem dX4_hasDeadline_12 : decode cX4_hasDeadline 12 = .ok (.iconst 0, 1) := by decide +kernel
theorem dX4_hasDeadline_13 : decode cX4_hasDeadline 13 = .ok (.ireturn, 1) := by decide +kernel
theorem dX4_missedDeadline_0 : decode cX4_missedDeadline 0 = .ok (.aload_n 0, 1) := by decide +kernel
theorem dX4_missedDeadline_1 : decode cX4_missedDeadline 1 = .ok (.invokevirtual 30, 3) := by decide +kernel
theorem dX4_missedDeadline_4 : decode cX4_missedDeadline 4 = .ok (.ifCond .eq 18, 3) := by decide +kernel
theorem dX4_missedDeadline_7 : decode cX4_missedDeadline 7 = .ok (.aload_n 0, 1) := by decide +kernel
theorem dX4_missedDeadline_8 : decode cX4_missedDeadline 8 = .ok (.getfield 24, 3) := by decide +kernel
theorem dX4_missedDeadline_11 : decode cX4_missedDeadline 11 = .ok (.aload_n 0, 1) := by decide +kernel
theorem dX4_missedDeadline_12 : decode cX4_missedDeadline 12 = .ok (.getfield 21, 3) := by decide +kernel
theorem dX4_missedDeadline_15 : decode cX4_missedDeadline 15 = .ok (.if_icmp .le 7, 3) := by decide +kernel
theorem dX4_missedDeadline_18 : decode cX4_missedDeadline 18 = .ok (.iconst 1, 1) := by decide +kernel
theorem dX4_missedDeadline_19 : decode cX4_missedDeadline 19 = .ok (.goto 4, 3) := by decide +kernel
theorem dX4_missedDeadline_22 : decode cX4_missedDeadline 22 = .ok (.iconst 0, 1) := by decide +kernel
theorem dX4_missedDeadline_23 : decode cX4_missedDeadline 23 = .ok (.ireturn, 1) := by decide +kernel
theorem dX5_init_0 : decode cX5_init 0 = .ok (.aload_n 0, 1) := by decide +kernel
theorem dX5_init_1 : decode cX5_init 1 = .ok (.invokespecial 3, 3) := by decide +kernel
theorem dX5_init_4 : decode cX5_init 4 = .ok (.aload_n 0, 1) := by decide +kernel
theorem dX5_init_5 : decode cX5_init 5 = .ok (.iconst (-1), 1) := by decide +kernel
theorem dX5_init_6 : decode cX5_init 6 = .ok (.putfield 9, 3) := by decide +kernel
theorem dX5_init_9 : decode cX5_init 9 = .ok (.aload_n 0, 1) := by decide +kernel
theorem dX5_init_10 : decode cX5_init 10 = .ok (.bipush 14, 2) := by decide +kernel
theorem dX5_init_12 : decode cX5_init 12 = .ok (.newarray .int, 2) := by decide +kernel
theorem dX5_init_14 : decode cX5_init 14 = .ok (.putfield 15, 3) := by decide +kernel
theorem dX5_init_17 : decode cX5_init 17 = .ok (.aload_n 0, 1) := by decide +kernel
theorem dX5_init_18 : decode cX5_init 18 = .ok (.bipush 14, 2) := by decide +kernel
theorem dX5_init_20 : decode cX5_init 20 = .ok (.newarray .int, 2) := by decide +kernel
theorem dX5_init_22 : decode cX5_init 22 = .ok (.putfield 19, 3) := by decide +kernel
theorem dX5_init_25 : decode cX5_init 25 = .ok (.aload_n 0, 1) := by decide +kernel
theorem dX5_init_26 : decode cX5_init 26 = .ok (.bipush 14, 2) := by decide +kernel
theorem dX5_init_28 : decode cX5_init 28 = .ok (.newarray .int, 2) := by decide +kernel
theorem dX5_init_30 : decode cX5_init 30 = .ok (.putfield 22, 3) := by decide +kernel
theorem dX5_init_33 : decode cX5_init 33 = .ok (.aload_n 0, 1) := by decide +kernel
theorem dX5_init_34 : decode cX5_init 34 = .ok (.bipush 40, 2) := by decide +kernel
theorem dX5_init_36 : decode cX5_init 36 = .ok (.newarray .int, 2) := by decide +kernel
theorem dX5_init_38 : decode cX5_init 38 = .ok (.putfield 25, 3) := by decide +kernel
theorem dX5_init_41 : decode cX5_init 41 = .ok (.return_, 1) := by decide +kernel
theorem dX5_append_0 : decode cX5_append 0 = .ok (.aload_n 0, 1) := by decide +kernel
theorem dX5_append_1 : decode cX5_append 1 = .ok (.getfield 28, 3) := by decide +kernel
theorem dX5_append_4 : decode cX5_append 4 = .ok (.iconst 0, 1) := by decide +kernel
theorem dX5_append_5 : decode cX5_append 5 = .ok (.bipush 39, 2) := by decide +kernel
theorem dX5_append_7 : decode cX5_append 7 = .ok (.invokestatic 31, 3) := by decide +kernel
theorem dX5_append_10 : decode cX5_append 10 = .ok (.ifCond .ne 5, 3) := by decide +kernel
theorem dX5_append_13 : decode cX5_append 13 = .ok (.iconst 0, 1) := by decide +kernel
theorem dX5_append_14 : decode cX5_append 14 = .ok (.ireturn, 1) := by decide +kernel
theorem dX5_append_15 : decode cX5_append 15 = .ok (.aload_n 0, 1) := by decide +kernel
theorem dX5_append_16 : decode cX5_append 16 = .ok (.getfield 25, 3) := by decide +kernel
theorem dX5_append_19 : decode cX5_append 19 = .ok (.aload_n 0, 1) := by decide +kernel
theorem dX5_append_20 : decode cX5_append 20 = .ok (.getfield 28, 3) := by decide +kernel
theorem dX5_append_23 : decode cX5_append 23 = .ok (.iload_n 1, 1) := by decide +kernel
theorem dX5_append_24 : decode cX5_append 24 = .ok (.iastore, 1) := by decide +kernel
theorem dX5_append_25 : decode cX5_append 25 = .ok (.aload_n 0, 1) := by decide +kernel
theorem dX5_append_26 : decode cX5_append 26 = .ok (.dup, 1) := by decide +kernel
theorem dX5_append_27 : decode cX5_append 27 = .ok (.getfield 28, 3) := by decide +kernel
theorem dX5_append_30 : decode cX5_append 30 = .ok (.iconst 1, 1) := by decide +kernel
theorem dX5_append_31 : decode cX5_append 31 = .ok (.iadd, 1) := by decide +kernel
theorem dX5_append_32 : decode cX5_append 32 = .ok (.putfield 28, 3) := by decide +kernel
theorem dX5_append_35 : decode cX5_append 35 = .ok (.iconst 1, 1) := by decide +kernel
theorem dX5_append_36 : decode cX5_append 36 = .ok (.ireturn, 1) := by decide +kernel
theorem dX5_read_0 : decode cX5_read 0 = .ok (.aload_n 0, 1) := by decide +kernel
theorem dX5_read_1 : decode cX5_read 1 = .ok (.iconst 0, 1) := by decide +kernel
theorem dX5_read_2 : decode cX5_read 2 = .ok (.putfield 35, 3) := by decide +kernel
theorem dX5_read_5 : decode cX5_read 5 = .ok (.aload_n 0, 1) := by decide +kernel
theorem dX5_read_6 : decode cX5_read 6 = .ok (.iconst 0, 1) := by decide +kernel
theorem dX5_read_7 : decode cX5_read 7 = .ok (.putfield 38, 3) := by decide +kernel
theorem dX5_read_10 : decode cX5_read 10 = .ok (.aload_n 0, 1) := by decide +kernel
theorem dX5_read_11 : decode cX5_read 11 = .ok (.invokevirtual 41, 3) := by decide +kernel
theorem dX5_read_14 : decode cX5_read 14 = .ok (.istore_n 1, 1) := by decide +kernel
theorem dX5_read_15 : decode cX5_read 15 = .ok (.aload_n 0, 1) := by decide +kernel
theorem dX5_read_16 : decode cX5_read 16 = .ok (.iload_n 1, 1) := by decide +kernel
theorem dX5_read_17 : decode cX5_read 17 = .ok (.ifCond .eq 7, 3) := by decide +kernel
theorem dX5_read_20 : decode cX5_read 20 = .ok (.iconst (-1), 1) := by decide +kernel
theorem dX5_read_21 : decode cX5_read 21 = .ok (.goto 7, 3) := by decide +kernel
theorem dX5_read_24 : decode cX5_read 24 = .ok (.aload_n 0, 1) := by decide +kernel
theorem dX5_read_25 : decode cX5_read 25 = .ok (.getfield 35, 3) := by decide +kernel
theorem dX5_read_28 : decode cX5_read 28 = .ok (.putfield 9, 3) := by decide +kernel
theorem dX5_read_31 : decode cX5_read 31 = .ok (.aload_n 0, 1) := by decide +kernel
theorem dX5_read_32 : decode cX5_read 32 = .ok (.iconst 0, 1) := by decide +kernel
theorem dX5_read_33 : decode cX5_read 33 = .ok (.putfield 28, 3) := by decide +kernel
theorem dX5_read_36 : decode cX5_read 36 = .ok (.iload_n 1, 1) := by decide +kernel
theorem dX5_read_37 : decode cX5_read 37 = .ok (.ireturn, 1) := by decide +kernel
theorem dX5_readItems_0 : decode cX5_readItems 0 = .ok (.iconst 0, 1) := by decide +kernel
theorem dX5_readItems_1 : decode cX5_readItems 1 = .ok (.istore_n 1, 1) := by decide +kernel
theorem dX5_readItems_2 : decode cX5_readItems 2 = .ok (.iload_n 1, 1) := by decide +kernel
theorem dX5_readItems_3 : decode cX5_readItems 3 = .ok (.bipush 14, 2) := by decide +kernel
theorem dX5_readItems_5 : decode cX5_readItems 5 = .ok (.if_icmp .ge 42, 3) := by decide +kernel
theorem dX5_readItems_8 : decode cX5_readItems 8 = .ok (.aload_n 0, 1) := by decide +kernel
theorem dX5_readItems_9 : decode cX5_readItems 9 = .ok (.invokevirtual 45, 3) := by decide +kernel
theorem dX5_readItems_12 : decode cX5_readItems 12 = .ok (.ifCond .ne 5, 3) := by decide +kernel
theorem dX5_readItems_15 : decode cX5_readItems 15 = .ok (.iconst 0, 1) := by decide +kernel
theorem dX5_readItems_16 : decode cX5_readItems 16 = .ok (.ireturn, 1) := by decide +kernel
theorem dX5_readItems_17 : decode cX5_readItems 17 = .ok (.aload_n 0, 1) := by decide +kernel
theorem dX5_readItems_18 : decode cX5_readItems 18 = .ok (.getfield 35, 3) := by decide +kernel
theorem dX5_readItems_21 : decode cX5_readItems 21 = .ok (.aload_n 0, 1) := by decide +kernel
theorem dX5_readItems_22 : decode cX5_readItems 22 = .ok (.getfield 28, 3) := by decide +kernel
theorem dX5_readItems_25 : decode cX5_readItems 25 = .ok (.if_icmp .lt 5, 3) := by decide +kernel
theorem dX5_readItems_28 : decode cX5_readItems 28 = .ok (.iconst 1, 1) := by decide +kernel
theorem dX5_readItems_29 : decode cX5_readItems 29 = .ok (.ireturn, 1) := by decide +kernel
theorem dX5_readItems_30 : decode cX5_readItems 30 = .ok (.aload_n 0, 1) := by decide +kernel
theorem dX5_readItems_31 : decode cX5_readItems 31 = .ok (.bipush 44, 2) := by decide +kernel
theorem dX5_readItems_33 : decode cX5_readItems 33 = .ok (.invokevirtual 48, 3) := by decide +kernel
theorem dX5_readItems_36 : decode cX5_readItems 36 = .ok (.ifCond .ne 5, 3) := by decide +kernel
theorem dX5_readItems_39 : decode cX5_readItems 39 = .ok (.iconst 0, 1) := by decide +kernel
theorem dX5_readItems_40 : decode cX5_readItems 40 = .ok (.ireturn, 1) := by decide +kernel
theorem dX5_readItems_41 : decode cX5_readItems 41 = .ok (.iinc 1 1, 3) := by decide +kernel
theorem dX5_readItems_44 : decode cX5_readItems 44 = .ok (.goto (-42), 3) := by decide +kernel
theorem dX5_readItems_47 : decode cX5_readItems 47 = .ok (.iconst 0, 1) := by decide +kernel
theorem dX5_readItems_48 : decode cX5_readItems 48 = .ok (.ireturn, 1) := by decide +kernel
theorem dX5_readItem_0 : decode cX5_readItem 0 = .ok (.aload_n 0, 1) := by decide +kernel
theorem dX5_readItem_1 : decode cX5_readItem 1 = .ok (.bipush 114, 2) := by decide +kernel
theorem dX5_readItem_3 : decode cX5_readItem 3 = .ok (.invokevirtual 48, 3) := by decide +kernel
theorem dX5_readItem_6 : decode cX5_readItem 6 = .ok (.ifCond .eq 7, 3) := by decide +kernel
theorem dX5_readItem_9 : decode cX5_readItem 9 = .ok (.iconst 0, 1) := by decide +kernel
theorem dX5_readItem_10 : decode cX5_readItem 10 = .ok (.goto 17, 3) := by decide +kernel
theorem dX5_readItem_13 : decode cX5_readItem 13 = .ok (.aload_n 0, 1) := by decide +kernel
theorem dX5_readItem_14 : decode cX5_readItem 14 = .ok (.bipush 119, 2) := by decide +kernel
theorem dX5_readItem_16 : decode cX5_readItem 16 = .ok (.invokevirtual 48, 3) := by decide +kernel
theorem dX5_readItem_19 : decode cX5_readItem 19 = .ok (.ifCond .eq 7, 3) := by decide +kernel
theorem dX5_readItem_22 : decode cX5_readItem 22 = .ok (.iconst 1, 1) := by decide +kernel
theorem dX5_readItem_23 : decode cX5_readItem 23 = .ok (.goto 4, 3) := by decide +kernel
theorem dX5_readItem_26 : decode cX5_readItem 26 = .ok (.iconst (-1), 1) := by decide +kernel
theorem dX5_readItem_27 : decode cX5_readItem 27 = .ok (.istore_n 1, 1) := by decide +kernel
theorem dX5_readItem_28 : decode cX5_readItem 28 = .ok (.iload_n 1, 1) := by decide +kernel
theorem dX5_readItem_29 : decode cX5_readItem 29 = .ok (.iconst (-1), 1) := by decide +kernel
theorem dX5_readItem_30 : decode cX5_readItem 30 = .ok (.if_icmp .ne 5, 3) := by decide +kernel
theorem dX5_readItem_33 : decode cX5_readItem 33 = .ok (.iconst 0, 1) := by decide +kernel
theorem dX5_readItem_34 : decode cX5_readItem 34 = .ok (.ireturn, 1) := by decide +kernel
theorem dX5_readItem_35 : decode cX5_readItem 35 = .ok (.aload_n 0, 1) := by decide +kernel
theorem dX5_readItem_36 : decode cX5_readItem 36 = .ok (.iconst 3, 1) := by decide +kernel
theorem dX5_readItem_37 : decode cX5_readItem 37 = .ok (.invokevirtual 52, 3) := by decide +kernel
theorem dX5_readItem_40 : decode cX5_readItem 40 = .ok (.istore_n 2, 1) := by decide +kernel
theorem dX5_readItem_41 : decode cX5_readItem 41 = .ok (.iload_n 2, 1) := by decide +kernel
theorem dX5_readItem_42 : decode cX5_readItem 42 = .ok (.iconst (-1), 1) := by decide +kernel
theorem dX5_readItem_43 : decode cX5_readItem 43 = .ok (.if_icmp .ne 5, 3) := by decide +kernel
theorem dX5_readItem_46 : decode cX5_readItem 46 = .ok (.iconst 0, 1) := by decide +kernel
theorem dX5_readItem_47 : decode cX5_readItem 47 = .ok (.ireturn, 1) := by decide +kernel
theorem dX5_readItem_48 : decode cX5_readItem 48 = .ok (.aload_n 0, 1) := by decide +kernel
theorem dX5_readItem_49 : decode cX5_readItem 49 = .ok (.bipush 64, 2) := by decide +kernel
theorem dX5_readItem_51 : decode cX5_readItem 51 = .ok (.invokevirtual 48, 3) := by decide +kernel
theorem dX5_readItem_54 : decode cX5_readItem 54 = .ok (.ifCond .eq 11, 3) := by decide +kernel
theorem dX5_readItem_57 : decode cX5_readItem 57 = .ok (.aload_n 0, 1) := by decide +kernel
theorem dX5_readItem_58 : decode cX5_readItem 58 = .ok (.iconst 4, 1) := by decide +kernel
theorem dX5_readItem_59 : decode cX5_readItem 59 = .ok (.invokevirtual 52, 3) := by decide +kernel
theorem dX5_readItem_62 : decode cX5_readItem 62 = .ok (.goto 4, 3) := by decide +kernel
theorem dX5_readItem_65 : decode cX5_readItem 65 = .ok (.iconst 0, 1) := by decide +kernel
theorem dX5_readItem_66 : decode cX5_readItem 66 = .ok (.istore_n 3, 1) := by decide +kernel
theorem dX5_readItem_67 : decode cX5_readItem 67 = .ok (.iload_n 3, 1) := by decide +kernel
theorem dX5_readItem_68 : decode cX5_readItem 68 = .ok (.iconst (-1), 1) := by decide +kernel
theorem dX5_readItem_69 : decode cX5_readItem 69 = .ok (.if_icmp .ne 5, 3) := by decide +kernel
theorem dX5_readItem_72 : decode cX5_readItem 72 = .ok (.iconst 0, 1) := by decide +kernel
theorem dX5_readItem_73 : decode cX5_readItem 73 = .ok (.ireturn, 1) := by decide +kernel
theorem dX5_readItem_74 : decode cX5_readItem 74 = .ok (.aload_n 0, 1) := by decide +kernel
theorem dX5_readItem_75 : decode cX5_readItem 75 = .ok (.iload_n 1, 1) := by decide +kernel
theorem dX5_readItem_76 : decode cX5_readItem 76 = .ok (.iload_n 2, 1) := by decide +kernel
theorem dX5_readItem_77 : decode cX5_readItem 77 = .ok (.iload_n 3, 1) := by decide +kernel
theorem dX5_readItem_78 : decode cX5_readItem 78 = .ok (.invokevirtual 56, 3) := by decide +kernel
theorem dX5_readItem_81 : decode cX5_readItem 81 = .ok (.ireturn, 1) := by decide +kernel
theorem dX5_keepItem_0 : decode cX5_keepItem 0 = .ok (.aload_n 0, 1) := by decide +kernel
theorem dX5_keepItem_1 : decode cX5_keepItem 1 = .ok (.getfield 38, 3) := by decide +kernel
theorem dX5_keepItem_4 : decode cX5_keepItem 4 = .ok (.iconst 0, 1) := by decide +kernel
theorem dX5_keepItem_5 : decode cX5_keepItem 5 = .ok (.bipush 13, 2) := by decide +kernel
theorem dX5_keepItem_7 : decode cX5_keepItem 7 = .ok (.invokestatic 31, 3) := by decide +kernel
theorem dX5_keepItem_10 : decode cX5_keepItem 10 = .ok (.ifCond .ne 5, 3) := by decide +kernel
theorem dX5_keepItem_13 : decode cX5_keepItem 13 = .ok (.iconst 0, 1) := by decide +kernel
theorem dX5_keepItem_14 : decode cX5_keepItem 14 = .ok (.ireturn, 1) := by decide +kernel
theorem dX5_keepItem_15 : decode cX5_keepItem 15 = .ok (.aload_n 0, 1) := by decide +kernel
theorem dX5_keepItem_16 : decode cX5_keepItem 16 = .ok (.getfield 15, 3) := by decide +kernel
theorem dX5_keepItem_19 : decode cX5_keepItem 19 = .ok (.aload_n 0, 1) := by decide +kernel
theorem dX5_keepItem_20 : decode cX5_keepItem 20 = .ok (.getfield 38, 3) := by decide +kernel
theorem dX5_keepItem_23 : decode cX5_keepItem 23 = .ok (.iload_n 1, 1) := by decide +kernel
theorem dX5_keepItem_24 : decode cX5_keepItem 24 = .ok (.iastore, 1) := by decide +kernel
theorem dX5_keepItem_25 : decode cX5_keepItem 25 = .ok (.aload_n 0, 1) := by decide +kernel
theorem dX5_keepItem_26 : decode cX5_keepItem 26 = .ok (.getfield 19, 3) := by decide +kernel
theorem dX5_keepItem_29 : decode cX5_keepItem 29 = .ok (.aload_n 0, 1) := by decide +kernel
theorem dX5_keepItem_30 : decode cX5_keepItem 30 = .ok (.getfield 38, 3) := by decide +kernel
theorem dX5_keepItem_33 : decode cX5_keepItem 33 = .ok (.iload_n 2, 1) := by decide +kernel
theorem dX5_keepItem_34 : decode cX5_keepItem 34 = .ok (.iastore, 1) := by decide +kernel
theorem dX5_keepItem_35 : decode cX5_keepItem 35 = .ok (.aload_n 0, 1) := by decide +kernel
theorem dX5_keepItem_36 : decode cX5_keepItem 36 = .ok (.getfield 22, 3) := by decide +kernel
theorem dX5_keepItem_39 : decode cX5_keepItem 39 = .ok (.aload_n 0, 1) := by decide +kernel
theorem dX5_keepItem_40 : decode cX5_keepItem 40 = .ok (.getfield 38, 3) := by decide +kernel
theorem dX5_keepItem_43 : decode cX5_keepItem 43 = .ok (.iload_n 3, 1) := by decide +kernel
theorem dX5_keepItem_44 : decode cX5_keepItem 44 = .ok (.iastore, 1) := by decide +kernel
theorem dX5_keepItem_45 : decode cX5_keepItem 45 = .ok (.aload_n 0, 1) := by decide +kernel
theorem dX5_keepItem_46 : decode cX5_keepItem 46 = .ok (.dup, 1) := by decide +kernel
theorem dX5_keepItem_47 : decode cX5_keepItem 47 = .ok (.getfield 38, 3) := by decide +kernel
theorem dX5_keepItem_50 : decode cX5_keepItem 50 = .ok (.iconst 1, 1) := by decide +kernel
theorem dX5_keepItem_51 : decode cX5_keepItem 51 = .ok (.iadd, 1) := by decide +kernel
theorem dX5_keepItem_52 : decode cX5_keepItem 52 = .ok (.putfield 38, 3) := by decide +kernel
theorem dX5_keepItem_55 : decode cX5_keepItem 55 = .ok (.iconst 1, 1) := by decide +kernel
theorem dX5_keepItem_56 : decode cX5_keepItem 56 = .ok (.ireturn, 1) := by decide +kernel
theorem dX5_readNumber_0 : decode cX5_readNumber 0 = .ok (.iconst 0, 1) := by decide +kernel
theorem dX5_readNumber_1 : decode cX5_readNumber 1 = .ok (.istore_n 2, 1) := by decide +kernel
theorem dX5_readNumber_2 : decode cX5_readNumber 2 = .ok (.iconst 0, 1) := by decide +kernel
theorem dX5_readNumber_3 : decode cX5_readNumber 3 = .ok (.istore_n 3, 1) := by decide +kernel
theorem dX5_readNumber_4 : decode cX5_readNumber 4 = .ok (.iload_n 3, 1) := by decide +kernel
theorem dX5_readNumber_5 : decode cX5_readNumber 5 = .ok (.iload_n 1, 1) := by decide +kernel
theorem dX5_readNumber_6 : decode cX5_readNumber 6 = .ok (.if_icmp .ge 46, 3) := by decide +kernel
theorem dX5_readNumber_9 : decode cX5_readNumber 9 = .ok (.aload_n 0, 1) := by decide +kernel
theorem dX5_readNumber_10 : decode cX5_readNumber 10 = .ok (.invokevirtual 59, 3) := by decide +kernel
theorem dX5_readNumber_13 : decode cX5_readNumber 13 = .ok (.bipush 48, 2) := by decide +kernel
theorem dX5_readNumber_15 : decode cX5_readNumber 15 = .ok (.bipush 57, 2) := by decide +kernel
theorem dX5_readNumber_17 : decode cX5_readNumber 17 = .ok (.invokestatic 31, 3) := by decide +kernel
theorem dX5_readNumber_20 : decode cX5_readNumber 20 = .ok (.ifCond .eq 32, 3) := by decide +kernel
theorem dX5_readNumber_23 : decode cX5_readNumber 23 = .ok (.iload_n 2, 1) := by decide +kernel
theorem dX5_readNumber_24 : decode cX5_readNumber 24 = .ok (.bipush 10, 2) := by decide +kernel
theorem dX5_readNumber_26 : decode cX5_readNumber 26 = .ok (.imul, 1) := by decide +kernel
theorem dX5_readNumber_27 : decode cX5_readNumber 27 = .ok (.aload_n 0, 1) := by decide +kernel
theorem dX5_readNumber_28 : decode cX5_readNumber 28 = .ok (.invokevirtual 59, 3) := by decide +kernel
theorem dX5_readNumber_31 : decode cX5_readNumber 31 = .ok (.iadd, 1) := by decide +kernel
theorem dX5_readNumber_32 : decode cX5_readNumber 32 = .ok (.bipush 48, 2) := by decide +kernel
theorem dX5_readNumber_34 : decode cX5_readNumber 34 = .ok (.isub, 1) := by decide +kernel
theorem dX5_readNumber_35 : decode cX5_readNumber 35 = .ok (.istore_n 2, 1) := by decide +kernel
theorem dX5_readNumber_36 : decode cX5_readNumber 36 = .ok (.iinc 3 1, 3) := by decide +kernel
theorem dX5_readNumber_39 : decode cX5_readNumber 39 = .ok (.aload_n 0, 1) := by decide +kernel
theorem dX5_readNumber_40 : decode cX5_readNumber 40 = .ok (.dup, 1) := by decide +kernel
theorem dX5_readNumber_41 : decode cX5_readNumber 41 = .ok (.getfield 35, 3) := by decide +kernel
theorem dX5_readNumber_44 : decode cX5_readNumber 44 = .ok (.iconst 1, 1) := by decide +kernel
theorem dX5_readNumber_45 : decode cX5_readNumber 45 = .ok (.iadd, 1) := by decide +kernel
theorem dX5_readNumber_46 : decode cX5_readNumber 46 = .ok (.putfield 35, 3) := by decide +kernel
theorem dX5_readNumber_49 : decode cX5_readNumber 49 = .ok (.goto (-45), 3) := by decide +kernel
theorem dX5_readNumber_52 : decode cX5_readNumber 52 = .ok (.iload_n 3, 1) := by decide +kernel
theorem dX5_readNumber_53 : decode cX5_readNumber 53 = .ok (.ifCond .ne 7, 3) := by decide +kernel
theorem dX5_readNumber_56 : decode cX5_readNumber 56 = .ok (.iconst (-1), 1) := by decide +kernel
theorem dX5_readNumber_57 : decode cX5_readNumber 57 = .ok (.goto 4, 3) := by decide +kernel
theorem dX5_readNumber_60 : decode cX5_readNumber 60 = .ok (.iload_n 2, 1) := by decide +kernel
theorem dX5_readNumber_61 : decode cX5_readNumber 61 = .ok (.ireturn, 1) := by decide +kernel
theorem dX5_skip_0 : decode cX5_skip 0 = .ok (.aload_n 0, 1) := by decide +kernel
theorem dX5_skip_1 : decode cX5_skip 1 = .ok (.invokevirtual 59, 3) := by decide +kernel
theorem dX5_skip_4 : decode cX5_skip 4 = .ok (.iload_n 1, 1) := by decide +kernel
theorem dX5_skip_5 : decode cX5_skip 5 = .ok (.if_icmp .eq 5, 3) := by decide +kernel
theorem dX5_skip_8 : decode cX5_skip 8 = .ok (.iconst 0, 1) := by decide +kernel
theorem dX5_skip_9 : decode cX5_skip 9 = .ok (.ireturn, 1) := by decide +kernel
theorem dX5_skip_10 : decode cX5_skip 10 = .ok (.aload_n 0, 1) := by decide +kernel
theorem dX5_skip_11 : decode cX5_skip 11 = .ok (.dup, 1) := by decide +kernel
theorem dX5_skip_12 : decode cX5_skip 12 = .ok (.getfield 35, 3) := by decide +kernel
theorem dX5_skip_15 : decode cX5_skip 15 = .ok (.iconst 1, 1) := by decide +kernel
theorem dX5_skip_16 : decode cX5_skip 16 = .ok (.iadd, 1) := by decide +kernel
theorem dX5_skip_17 : decode cX5_skip 17 = .ok (.putfield 35, 3) := by decide +kernel
theorem dX5_skip_20 : decode cX5_skip 20 = .ok (.iconst 1, 1) := by decide +kernel
theorem dX5_skip_21 : decode cX5_skip 21 = .ok (.ireturn, 1) := by decide +kernel
theorem dX5_current_0 : decode cX5_current 0 = .ok (.aload_n 0, 1) := by decide +kernel
theorem dX5_current_1 : decode cX5_current 1 = .ok (.getfield 35, 3) := by decide +kernel
theorem dX5_current_4 : decode cX5_current 4 = .ok (.ifCond .lt 35, 3) := by decide +kernel
theorem dX5_current_7 : decode cX5_current 7 = .ok (.aload_n 0, 1) := by decide +kernel
theorem dX5_current_8 : decode cX5_current 8 = .ok (.getfield 35, 3) := by decide +kernel
theorem dX5_current_11 : decode cX5_current 11 = .ok (.aload_n 0, 1) := by decide +kernel
theorem dX5_current_12 : decode cX5_current 12 = .ok (.getfield 28, 3) := by decide +kernel
theorem dX5_current_15 : decode cX5_current 15 = .ok (.if_icmp .ge 24, 3) := by decide +kernel
theorem dX5_current_18 : decode cX5_current 18 = .ok (.aload_n 0, 1) := by decide +kernel
theorem dX5_current_19 : decode cX5_current 19 = .ok (.getfield 35, 3) := by decide +kernel
theorem dX5_current_22 : decode cX5_current 22 = .ok (.bipush 40, 2) := by decide +kernel
theorem dX5_current_24 : decode cX5_current 24 = .ok (.if_icmp .ge 15, 3) := by decide +kernel
theorem dX5_current_27 : decode cX5_current 27 = .ok (.aload_n 0, 1) := by decide +kernel
theorem dX5_current_28 : decode cX5_current 28 = .ok (.getfield 25, 3) := by decide +kernel
theorem dX5_current_31 : decode cX5_current 31 = .ok (.aload_n 0, 1) := by decide +kernel
theorem dX5_current_32 : decode cX5_current 32 = .ok (.getfield 35, 3) := by decide +kernel
theorem dX5_current_35 : decode cX5_current 35 = .ok (.iaload, 1) := by decide +kernel
theorem dX5_current_36 : decode cX5_current 36 = .ok (.goto 4, 3) := by decide +kernel
theorem dX5_current_39 : decode cX5_current 39 = .ok (.iconst (-1), 1) := by decide +kernel
theorem dX5_current_40 : decode cX5_current 40 = .ok (.ireturn, 1) := by decide +kernel
theorem dX6_init_0 : decode cX6_init 0 = .ok (.aload_n 0, 1) := by decide +kernel
theorem dX6_init_1 : decode cX6_init 1 = .ok (.invokespecial 3, 3) := by decide +kernel
theorem dX6_init_4 : decode cX6_init 4 = .ok (.aload_n 0, 1) := by decide +kernel
theorem dX6_init_5 : decode cX6_init 5 = .ok (.bipush 80, 2) := by decide +kernel
theorem dX6_init_7 : decode cX6_init 7 = .ok (.anewarray 9, 3) := by decide +kernel
theorem dX6_init_10 : decode cX6_init 10 = .ok (.putfield 11, 3) := by decide +kernel
theorem dX6_init_13 : decode cX6_init 13 = .ok (.return_, 1) := by decide +kernel
theorem dX6_copyFrom_0 : decode cX6_copyFrom 0 = .ok (.iconst 0, 1) := by decide +kernel
theorem dX6_copyFrom_1 : decode cX6_copyFrom 1 = .ok (.istore_n 2, 1) := by decide +kernel
theorem dX6_copyFrom_2 : decode cX6_copyFrom 2 = .ok (.iload_n 2, 1) := by decide +kernel
theorem dX6_copyFrom_3 : decode cX6_copyFrom 3 = .ok (.aload_n 1, 1) := by decide +kernel
theorem dX6_copyFrom_4 : decode cX6_copyFrom 4 = .ok (.getfield 17, 3) := by decide +kernel
theorem dX6_copyFrom_7 : decode cX6_copyFrom 7 = .ok (.if_icmp .ge 44, 3) := by decide +kernel
theorem dX6_copyFrom_10 : decode cX6_copyFrom 10 = .ok (.iload_n 2, 1) := by decide +kernel
theorem dX6_copyFrom_11 : decode cX6_copyFrom 11 = .ok (.bipush 80, 2) := by decide +kernel
theorem dX6_copyFrom_13 : decode cX6_copyFrom 13 = .ok (.if_icmp .ge 38, 3) := by decide +kernel
theorem dX6_copyFrom_16 : decode cX6_copyFrom 16 = .ok (.aload_n 1, 1) := by decide +kernel
theorem dX6_copyFrom_17 : decode cX6_copyFrom 17 = .ok (.getfield 11, 3) := by decide +kernel
theorem dX6_copyFrom_20 : decode cX6_copyFrom 20 = .ok (.iload_n 2, 1) := by decide +kernel
theorem dX6_copyFrom_21 : decode cX6_copyFrom 21 = .ok (.aaload, 1) := by decide +kernel
theorem dX6_copyFrom_22 : decode cX6_copyFrom 22 = .ok (.astore_n 3, 1) := by decide +kernel
theorem dX6_copyFrom_23 : decode cX6_copyFrom 23 = .ok (.aload_n 0, 1) := by decide +kernel
theorem dX6_copyFrom_24 : decode cX6_copyFrom 24 = .ok (.iload_n 2, 1) := by decide +kernel
theorem dX6_copyFrom_25 : decode cX6_copyFrom 25 = .ok (.invokevirtual 21, 3) := by decide +kernel
theorem dX6_copyFrom_28 : decode cX6_copyFrom 28 = .ok (.astore 4, 2) := by decide +kernel
theorem dX6_copyFrom_30 : decode cX6_copyFrom 30 = .ok (.aload_n 3, 1) := by decide +kernel
theorem dX6_copyFrom_31 : decode cX6_copyFrom 31 = .ok (.ifnull 14, 3) := by decide +kernel
theorem dX6_copyFrom_34 : decode cX6_copyFrom 34 = .ok (.aload 4, 2) := by decide +kernel
theorem dX6_copyFrom_36 : decode cX6_copyFrom 36 = .ok (.ifnull 9, 3) := by decide +kernel
theorem dX6_copyFrom_39 : decode cX6_copyFrom 39 = .ok (.aload 4, 2) := by decide +kernel
theorem dX6_copyFrom_41 : decode cX6_copyFrom 41 = .ok (.aload_n 3, 1) := by decide +kernel
theorem dX6_copyFrom_42 : decode cX6_copyFrom 42 = .ok (.invokevirtual 25, 3) := by decide +kernel
theorem dX6_copyFrom_45 : decode cX6_copyFrom 45 = .ok (.iinc 2 1, 3) := by decide +kernel
theorem dX6_copyFrom_48 : decode cX6_copyFrom 48 = .ok (.goto (-46), 3) := by decide +kernel
theorem dX6_copyFrom_51 : decode cX6_copyFrom 51 = .ok (.aload_n 0, 1) := by decide +kernel
theorem dX6_copyFrom_52 : decode cX6_copyFrom 52 = .ok (.aload_n 1, 1) := by decide +kernel
theorem dX6_copyFrom_53 : decode cX6_copyFrom 53 = .ok (.getfield 17, 3) := by decide +kernel
theorem dX6_copyFrom_56 : decode cX6_copyFrom 56 = .ok (.putfield 17, 3) := by decide +kernel
theorem dX6_copyFrom_59 : decode cX6_copyFrom 59 = .ok (.aload_n 0, 1) := by decide +kernel
theorem dX6_copyFrom_60 : decode cX6_copyFrom 60 = .ok (.aload_n 1, 1) := by decide +kernel
theorem dX6_copyFrom_61 : decode cX6_copyFrom 61 = .ok (.getfield 29, 3) := by decide +kernel
theorem dX6_copyFrom_64 : decode cX6_copyFrom 64 = .ok (.putfield 29, 3) := by decide +kernel
theorem dX6_copyFrom_67 : decode cX6_copyFrom 67 = .ok (.return_, 1) := by decide +kernel
theorem dX6_rowAt_0 : decode cX6_rowAt 0 = .ok (.iload_n 1, 1) := by decide +kernel
theorem dX6_rowAt_1 : decode cX6_rowAt 1 = .ok (.iconst 0, 1) := by decide +kernel
theorem dX6_rowAt_2 : decode cX6_rowAt 2 = .ok (.bipush 79, 2) := by decide +kernel
theorem dX6_rowAt_4 : decode cX6_rowAt 4 = .ok (.invokestatic 32, 3) := by decide +kernel
theorem dX6_rowAt_7 : decode cX6_rowAt 7 = .ok (.ifCond .ne 5, 3) := by decide +kernel
theorem dX6_rowAt_10 : decode cX6_rowAt 10 = .ok (.aconst_null, 1) := by decide +kernel
theorem dX6_rowAt_11 : decode cX6_rowAt 11 = .ok (.areturn, 1) := by decide +kernel
theorem dX6_rowAt_12 : decode cX6_rowAt 12 = .ok (.aload_n 0, 1) := by decide +kernel
theorem dX6_rowAt_13 : decode cX6_rowAt 13 = .ok (.getfield 11, 3) := by decide +kernel
theorem dX6_rowAt_16 : decode cX6_rowAt 16 = .ok (.iload_n 1, 1) := by decide +kernel
theorem dX6_rowAt_17 : decode cX6_rowAt 17 = .ok (.aaload, 1) := by decide +kernel
theorem dX6_rowAt_18 : decode cX6_rowAt 18 = .ok (.ifnonnull 17, 3) := by decide +kernel
theorem dX6_rowAt_21 : decode cX6_rowAt 21 = .ok (.aload_n 0, 1) := by decide +kernel
theorem dX6_rowAt_22 : decode cX6_rowAt 22 = .ok (.getfield 11, 3) := by decide +kernel
theorem dX6_rowAt_25 : decode cX6_rowAt 25 = .ok (.iload_n 1, 1) := by decide +kernel
theorem dX6_rowAt_26 : decode cX6_rowAt 26 = .ok (.new 9, 3) := by decide +kernel
theorem dX6_rowAt_29 : decode cX6_rowAt 29 = .ok (.dup, 1) := by decide +kernel
theorem dX6_rowAt_30 : decode cX6_rowAt 30 = .ok (.iload_n 1, 1) := by decide +kernel
theorem dX6_rowAt_31 : decode cX6_rowAt 31 = .ok (.invokespecial 36, 3) := by decide +kernel
theorem dX6_rowAt_34 : decode cX6_rowAt 34 = .ok (.aastore, 1) := by decide +kernel
theorem dX6_rowAt_35 : decode cX6_rowAt 35 = .ok (.aload_n 0, 1) := by decide +kernel
theorem dX6_rowAt_36 : decode cX6_rowAt 36 = .ok (.getfield 11, 3) := by decide +kernel
theorem dX6_rowAt_39 : decode cX6_rowAt 39 = .ok (.iload_n 1, 1) := by decide +kernel
theorem dX6_rowAt_40 : decode cX6_rowAt 40 = .ok (.aaload, 1) := by decide +kernel
theorem dX6_rowAt_41 : decode cX6_rowAt 41 = .ok (.areturn, 1) := by decide +kernel
theorem dX6_find_0 : decode cX6_find 0 = .ok (.iload_n 1, 1) := by decide +kernel
theorem dX6_find_1 : decode cX6_find 1 = .ok (.ifCond .lt 26, 3) := by decide +kernel
theorem dX6_find_4 : decode cX6_find 4 = .ok (.iload_n 1, 1) := by decide +kernel
theorem dX6_find_5 : decode cX6_find 5 = .ok (.aload_n 0, 1) := by decide +kernel
theorem dX6_find_6 : decode cX6_find 6 = .ok (.getfield 17, 3) := by decide +kernel
theorem dX6_find_9 : decode cX6_find 9 = .ok (.if_icmp .ge 18, 3) := by decide +kernel
theorem dX6_find_12 : decode cX6_find 12 = .ok (.iload_n 1, 1) := by decide +kernel
theorem dX6_find_13 : decode cX6_find 13 = .ok (.bipush 80, 2) := by decide +kernel
theorem dX6_find_15 : decode cX6_find 15 = .ok (.if_icmp .ge 12, 3) := by decide +kernel
theorem dX6_find_18 : decode cX6_find 18 = .ok (.aload_n 0, 1) := by decide +kernel
theorem dX6_find_19 : decode cX6_find 19 = .ok (.getfield 11, 3) := by decide +kernel
theorem dX6_find_22 : decode cX6_find 22 = .ok (.iload_n 1, 1) := by decide +kernel
theorem dX6_find_23 : decode cX6_find 23 = .ok (.aaload, 1) := by decide +kernel
theorem dX6_find_24 : decode cX6_find 24 = .ok (.goto 4, 3) := by decide +kernel
theorem dX6_find_27 : decode cX6_find 27 = .ok (.aconst_null, 1) := by decide +kernel
theorem dX6_find_28 : decode cX6_find 28 = .ok (.areturn, 1) := by decide +kernel
theorem dX6_findPending_0 : decode cX6_findPending 0 = .ok (.aload_n 0, 1) := by decide +kernel
theorem dX6_findPending_1 : decode cX6_findPending 1 = .ok (.iload_n 1, 1) := by decide +kernel
theorem dX6_findPending_2 : decode cX6_findPending 2 = .ok (.invokevirtual 39, 3) := by decide +kernel
theorem dX6_findPending_5 : decode cX6_findPending 5 = .ok (.astore_n 2, 1) := by decide +kernel
theorem dX6_findPending_6 : decode cX6_findPending 6 = .ok (.aload_n 2, 1) := by decide +kernel
theorem dX6_findPending_7 : decode cX6_findPending 7 = .ok (.ifnull 14, 3) := by decide +kernel
theorem dX6_findPending_10 : decode cX6_findPending 10 = .ok (.aload_n 2, 1) := by decide +kernel
theorem dX6_findPending_11 : decode cX6_findPending 11 = .ok (.getfield 42, 3) := by decide +kernel
theorem dX6_findPending_14 : decode cX6_findPending 14 = .ok (.ifCond .ne 7, 3) := by decide +kernel
theorem dX6_findPending_17 : decode cX6_findPending 17 = .ok (.aload_n 2, 1) := by decide +kernel
theorem dX6_findPending_18 : decode cX6_findPending 18 = .ok (.goto 4, 3) := by decide +kernel
theorem dX6_findPending_21 : decode cX6_findPending 21 = .ok (.aconst_null, 1) := by decide +kernel
theorem dX6_findPending_22 : decode cX6_findPending 22 = .ok (.areturn, 1) := by decide +kernel
theorem dX6_findFinished_0 : decode cX6_findFinished 0 = .ok (.aload_n 0, 1) := by decide +kernel
theorem dX6_findFinished_1 : decode cX6_findFinished 1 = .ok (.iload_n 1, 1) := by decide +kernel
theorem dX6_findFinished_2 : decode cX6_findFinished 2 = .ok (.invokevirtual 39, 3) := by decide +kernel
theorem dX6_findFinished_5 : decode cX6_findFinished 5 = .ok (.astore_n 2, 1) := by decide +kernel
theorem dX6_findFinished_6 : decode cX6_findFinished 6 = .ok (.aload_n 2, 1) := by decide +kernel
theorem dX6_findFinished_7 : decode cX6_findFinished 7 = .ok (.ifnull 15, 3) := by decide +kernel
theorem dX6_findFinished_10 : decode cX6_findFinished 10 = .ok (.aload_n 2, 1) := by decide +kernel
theorem dX6_findFinished_11 : decode cX6_findFinished 11 = .ok (.getfield 42, 3) := by decide +kernel
theorem dX6_findFinished_14 : decode cX6_findFinished 14 = .ok (.iconst 1, 1) := by decide +kernel
theorem dX6_findFinished_15 : decode cX6_findFinished 15 = .ok (.if_icmp .ne 7, 3) := by decide +kernel
theorem dX6_findFinished_18 : decode cX6_findFinished 18 = .ok (.aload_n 2, 1) := by decide +kernel
theorem dX6_findFinished_19 : decode cX6_findFinished 19 = .ok (.goto 4, 3) := by decide +kernel
theorem dX6_findFinished_22 : decode cX6_findFinished 22 = .ok (.aconst_null, 1) := by decide +kernel
theorem dX6_findFinished_23 : decode cX6_findFinished 23 = .ok (.areturn, 1) := by decide +kernel
theorem dX6_add_0 : decode cX6_add 0 = .ok (.aload_n 0, 1) := by decide +kernel
theorem dX6_add_1 : decode cX6_add 1 = .ok (.aload_n 0, 1) := by decide +kernel
theorem dX6_add_2 : decode cX6_add 2 = .ok (.getfield 17, 3) := by decide +kernel
theorem dX6_add_5 : decode cX6_add 5 = .ok (.invokevirtual 21, 3) := by decide +kernel
theorem dX6_add_8 : decode cX6_add 8 = .ok (.astore 4, 2) := by decide +kernel
theorem dX6_add_10 : decode cX6_add 10 = .ok (.aload 4, 2) := by decide +kernel
theorem dX6_add_12 : decode cX6_add 12 = .ok (.ifnull 31, 3) := by decide +kernel
theorem dX6_add_15 : decode cX6_add 15 = .ok (.aload 4, 2) := by decide +kernel
theorem dX6_add_17 : decode cX6_add 17 = .ok (.iload_n 1, 1) := by decide +kernel
theorem dX6_add_18 : decode cX6_add 18 = .ok (.iload_n 2, 1) := by decide +kernel
theorem dX6_add_19 : decode cX6_add 19 = .ok (.iload_n 3, 1) := by decide +kernel
theorem dX6_add_20 : decode cX6_add 20 = .ok (.invokevirtual 45, 3) := by decide +kernel
theorem dX6_add_23 : decode cX6_add 23 = .ok (.aload_n 0, 1) := by decide +kernel
theorem dX6_add_24 : decode cX6_add 24 = .ok (.dup, 1) := by decide +kernel
theorem dX6_add_25 : decode cX6_add 25 = .ok (.getfield 17, 3) := by decide +kernel
theorem dX6_add_28 : decode cX6_add 28 = .ok (.iconst 1, 1) := by decide +kernel
theorem dX6_add_29 : decode cX6_add 29 = .ok (.iadd, 1) := by decide +kernel
theorem dX6_add_30 : decode cX6_add 30 = .ok (.putfield 17, 3) := by decide +kernel
theorem dX6_add_33 : decode cX6_add 33 = .ok (.aload_n 0, 1) := by decide +kernel
theorem dX6_add_34 : decode cX6_add 34 = .ok (.dup, 1) := by decide +kernel
theorem dX6_add_35 : decode cX6_add 35 = .ok (.getfield 29, 3) := by decide +kernel
theorem dX6_add_38 : decode cX6_add 38 = .ok (.iconst 1, 1) := by decide +kernel
theorem dX6_add_39 : decode cX6_add 39 = .ok (.iadd, 1) := by decide +kernel
theorem dX6_add_40 : decode cX6_add 40 = .ok (.putfield 29, 3) := by decide +kernel
theorem dX6_add_43 : decode cX6_add 43 = .ok (.aload 4, 2) := by decide +kernel
theorem dX6_add_45 : decode cX6_add 45 = .ok (.areturn, 1) := by decide +kernel
theorem dX6_finishPending_0 : decode cX6_finishPending 0 = .ok (.aload_n 1, 1) := by decide +kernel
theorem dX6_finishPending_1 : decode cX6_finishPending 1 = .ok (.iconst 1, 1) := by decide +kernel
theorem dX6_finishPending_2 : decode cX6_finishPending 2 = .ok (.putfield 42, 3) := by decide +kernel
theorem dX6_finishPending_5 : decode cX6_finishPending 5 = .ok (.aload_n 1, 1) := by decide +kernel
theorem dX6_finishPending_6 : decode cX6_finishPending 6 = .ok (.iload_n 2, 1) := by decide +kernel
theorem dX6_finishPending_7 : decode cX6_finishPending 7 = .ok (.putfield 49, 3) := by decide +kernel
theorem dX6_finishPending_10 : decode cX6_finishPending 10 = .ok (.aload_n 0, 1) := by decide +kernel
theorem dX6_finishPending_11 : decode cX6_finishPending 11 = .ok (.dup, 1) := by decide +kernel
theorem dX6_finishPending_12 : decode cX6_finishPending 12 = .ok (.getfield 29, 3) := by decide +kernel
theorem dX6_finishPending_15 : decode cX6_finishPending 15 = .ok (.iconst 1, 1) := by decide +kernel
theorem dX6_finishPending_16 : decode cX6_finishPending 16 = .ok (.isub, 1) := by decide +kernel
theorem dX6_finishPending_17 : decode cX6_finishPending 17 = .ok (.putfield 29, 3) := by decide +kernel
theorem dX6_finishPending_20 : decode cX6_finishPending 20 = .ok (.return_, 1) := by decide +kernel
theorem dX6_cancelPending_0 : decode cX6_cancelPending 0 = .ok (.aload_n 1, 1) := by decide +kernel
theorem dX6_cancelPending_1 : decode cX6_cancelPending 1 = .ok (.iconst 2, 1) := by decide +kernel
theorem dX6_cancelPending_2 : decode cX6_cancelPending 2 = .ok (.putfield 42, 3) := by decide +kernel
theorem dX6_cancelPending_5 : decode cX6_cancelPending 5 = .ok (.aload_n 0, 1) := by decide +kernel
theorem dX6_cancelPending_6 : decode cX6_cancelPending 6 = .ok (.dup, 1) := by decide +kernel
theorem dX6_cancelPending_7 : decode cX6_cancelPending 7 = .ok (.getfield 29, 3) := by decide +kernel
theorem dX6_cancelPending_10 : decode cX6_cancelPending 10 = .ok (.iconst 1, 1) := by decide +kernel
theorem dX6_cancelPending_11 : decode cX6_cancelPending 11 = .ok (.isub, 1) := by decide +kernel
theorem dX6_cancelPending_12 : decode cX6_cancelPending 12 = .ok (.putfield 29, 3) := by decide +kernel
theorem dX6_cancelPending_15 : decode cX6_cancelPending 15 = .ok (.return_, 1) := by decide +kernel
theorem dX6_countFinished_0 : decode cX6_countFinished 0 = .ok (.iconst 0, 1) := by decide +kernel
theorem dX6_countFinished_1 : decode cX6_countFinished 1 = .ok (.istore_n 1, 1) := by decide +kernel
theorem dX6_countFinished_2 : decode cX6_countFinished 2 = .ok (.iconst 0, 1) := by decide +kernel
theorem dX6_countFinished_3 : decode cX6_countFinished 3 = .ok (.istore_n 2, 1) := by decide +kernel
theorem dX6_countFinished_4 : decode cX6_countFinished 4 = .ok (.iload_n 2, 1) := by decide +kernel
theorem dX6_countFinished_5 : decode cX6_countFinished 5 = .ok (.aload_n 0, 1) := by decide +kernel
theorem dX6_countFinished_6 : decode cX6_countFinished 6 = .ok (.getfield 17, 3) := by decide +kernel
theorem dX6_countFinished_9 : decode cX6_countFinished 9 = .ok (.if_icmp .ge 25, 3) := by decide +kernel
theorem dX6_countFinished_12 : decode cX6_countFinished 12 = .ok (.iload_n 1, 1) := by decide +kernel
theorem dX6_countFinished_13 : decode cX6_countFinished 13 = .ok (.aload_n 0, 1) := by decide +kernel
theorem dX6_countFinished_14 : decode cX6_countFinished 14 = .ok (.iload_n 2, 1) := by decide +kernel
theorem dX6_countFinished_15 : decode cX6_countFinished 15 = .ok (.invokevirtual 52, 3) := by decide +kernel
theorem dX6_countFinished_18 : decode cX6_countFinished 18 = .ok (.ifnull 7, 3) := by decide +kernel
theorem dX6_countFinished_21 : decode cX6_countFinished 21 = .ok (.iconst 1, 1) := by decide +kernel
theorem dX6_countFinished_22 : decode cX6_countFinished 22 = .ok (.goto 4, 3) := by decide +kernel
theorem dX6_countFinished_25 : decode cX6_countFinished 25 = .ok (.iconst 0, 1) := by decide +kernel
theorem dX6_countFinished_26 : decode cX6_countFinished 26 = .ok (.iadd, 1) := by decide +kernel
theorem dX6_countFinished_27 : decode cX6_countFinished 27 = .ok (.istore_n 1, 1) := by decide +kernel
theorem dX6_countFinished_28 : decode cX6_countFinished 28 = .ok (.iinc 2 1, 3) := by decide +kernel
theorem dX6_countFinished_31 : decode cX6_countFinished 31 = .ok (.goto (-27), 3) := by decide +kernel
theorem dX6_countFinished_34 : decode cX6_countFinished 34 = .ok (.iload_n 1, 1) := by decide +kernel
theorem dX6_countFinished_35 : decode cX6_countFinished 35 = .ok (.ireturn, 1) := by decide +kernel
theorem dX6_sumOfResponses_0 : decode cX6_sumOfResponses 0 = .ok (.iconst 0, 1) := by decide +kernel
theorem dX6_sumOfResponses_1 : decode cX6_sumOfResponses 1 = .ok (.istore_n 1, 1) := by decide +kernel
theorem dX6_sumOfResponses_2 : decode cX6_sumOfResponses 2 = .ok (.iconst 0, 1) := by decide +kernel
theorem dX6_sumOfResponses_3 : decode cX6_sumOfResponses 3 = .ok (.istore_n 2, 1) := by decide +kernel
theorem dX6_sumOfResponses_4 : decode cX6_sumOfResponses 4 = .ok (.iload_n 2, 1) := by decide +kernel
theorem dX6_sumOfResponses_5 : decode cX6_sumOfResponses 5 = .ok (.aload_n 0, 1) := by decide +kernel
theorem dX6_sumOfResponses_6 : decode cX6_sumOfResponses 6 = .ok (.getfield 17, 3) := by decide +kernel
theorem dX6_sumOfResponses_9 : decode cX6_sumOfResponses 9 = .ok (.if_icmp .ge 35, 3) := by decide +kernel
theorem dX6_sumOfResponses_12 : decode cX6_sumOfResponses 12 = .ok (.aload_n 0, 1) := by decide +kernel
theorem dX6_sumOfResponses_13 : decode cX6_sumOfResponses 13 = .ok (.iload_n 2, 1) := by decide +kernel
theorem dX6_sumOfResponses_14 : decode cX6_sumOfResponses 14 = .ok (.invokevirtual 52, 3) := by decide +kernel
theorem dX6_sumOfResponses_17 : decode cX6_sumOfResponses 17 = .ok (.astore_n 3, 1) := by decide +kernel
theorem dX6_sumOfResponses_18 : decode cX6_sumOfResponses 18 = .ok (.iload_n 1, 1) := by decide +kernel
theorem dX6_sumOfResponses_19 : decode cX6_sumOfResponses 19 = .ok (.aload_n 3, 1) := by decide +kernel
theorem dX6_sumOfResponses_20 : decode cX6_sumOfResponses 20 = .ok (.ifnull 15, 3) := by decide +kernel
theorem dX6_sumOfResponses_23 : decode cX6_sumOfResponses 23 = .ok (.aload_n 3, 1) := by decide +kernel
theorem dX6_sumOfResponses_24 : decode cX6_sumOfResponses 24 = .ok (.getfield 49, 3) := by decide +kernel
theorem dX6_sumOfResponses_27 : decode cX6_sumOfResponses 27 = .ok (.aload_n 3, 1) := by decide +kernel
theorem dX6_sumOfResponses_28 : decode cX6_sumOfResponses 28 = .ok (.getfield 55, 3) := by decide +kernel
theorem dX6_sumOfResponses_31 : decode cX6_sumOfResponses 31 = .ok (.isub, 1) := by decide +kernel
theorem dX6_sumOfResponses_32 : decode cX6_sumOfResponses 32 = .ok (.goto 4, 3) := by decide +kernel
theorem dX6_sumOfResponses_35 : decode cX6_sumOfResponses 35 = .ok (.iconst 0, 1) := by decide +kernel
theorem dX6_sumOfResponses_36 : decode cX6_sumOfResponses 36 = .ok (.iadd, 1) := by decide +kernel
theorem dX6_sumOfResponses_37 : decode cX6_sumOfResponses 37 = .ok (.istore_n 1, 1) := by decide +kernel
theorem dX6_sumOfResponses_38 : decode cX6_sumOfResponses 38 = .ok (.iinc 2 1, 3) := by decide +kernel
theorem dX6_sumOfResponses_41 : decode cX6_sumOfResponses 41 = .ok (.goto (-37), 3) := by decide +kernel
theorem dX6_sumOfResponses_44 : decode cX6_sumOfResponses 44 = .ok (.iload_n 1, 1) := by decide +kernel
theorem dX6_sumOfResponses_45 : decode cX6_sumOfResponses 45 = .ok (.ireturn, 1) := by decide +kernel
theorem dX6_countFinishedWithDeadline_0 : decode cX6_countFinishedWithDeadline 0 = .ok (.iconst 0, 1) := by decide +kernel
theorem dX6_countFinishedWithDeadline_1 : decode cX6_countFinishedWithDeadline 1 = .ok (.istore_n 1, 1) := by decide +kernel
theorem dX6_countFinishedWithDeadline_2 : decode cX6_countFinishedWithDeadline 2 = .ok (.iconst 0, 1) := by decide +kernel
theorem dX6_countFinishedWithDeadline_3 : decode cX6_countFinishedWithDeadline 3 = .ok (.istore_n 2, 1) := by decide +kernel
theorem dX6_countFinishedWithDeadline_4 : decode cX6_countFinishedWithDeadline 4 = .ok (.iload_n 2, 1) := by decide +kernel
theorem dX6_countFinishedWithDeadline_5 : decode cX6_countFinishedWithDeadline 5 = .ok (.aload_n 0, 1) := by decide +kernel
theorem dX6_countFinishedWithDeadline_6 : decode cX6_countFinishedWithDeadline 6 = .ok (.getfield 17, 3) := by decide +kernel
theorem dX6_countFinishedWithDeadline_9 : decode cX6_countFinishedWithDeadline 9 = .ok (.if_icmp .ge 34, 3) := by decide +kernel
theorem dX6_countFinishedWithDeadline_12 : decode cX6_countFinishedWithDeadline 12 = .ok (.aload_n 0, 1) := by decide +kernel
theorem dX6_countFinishedWithDeadline_13 : decode cX6_countFinishedWithDeadline 13 = .ok (.iload_n 2, 1) := by decide +kernel
theorem dX6_countFinishedWithDeadline_14 : decode cX6_countFinishedWithDeadline 14 = .ok (.invokevirtual 52, 3) := by decide +kernel
theorem dX6_countFinishedWithDeadline_17 : decode cX6_countFinishedWithDeadline 17 = .ok (.astore_n 3, 1) := by decide +kernel
theorem dX6_countFinishedWithDeadline_18 : decode cX6_countFinishedWithDeadline 18 = .ok (.iload_n 1, 1) := by decide +kernel
theorem dX6_countFinishedWithDeadline_19 : decode cX6_countFinishedWithDeadline 19 = .ok (.aload_n 3, 1) := by decide +kernel
theorem dX6_countFinishedWithDeadline_20 : decode cX6_countFinishedWithDeadline 20 = .ok (.ifnull 14, 3) := by decide +kernel
theorem dX6_countFinishedWithDeadline_23 : decode cX6_countFinishedWithDeadline 23 = .ok (.aload_n 3, 1) := by decide +kernel
theorem dX6_countFinishedWithDeadline_24 : decode cX6_countFinishedWithDeadline 24 = .ok (.invokevirtual 58, 3) := by decide +kernel
theorem dX6_countFinishedWithDeadline_27 : decode cX6_countFinishedWithDeadline 27 = .ok (.ifCond .eq 7, 3) := by decide +kernel
theorem dX6_countFinishedWithDeadline_30 : decode cX6_countFinishedWithDeadline 30 = .ok (.iconst 1, 1) := by decide +kernel
theorem dX6_countFinishedWithDeadline_31 : decode cX6_countFinishedWithDeadline 31 = .ok (.goto 4, 3) := by decide +kernel
theorem dX6_countFinishedWithDeadline_34 : decode cX6_countFinishedWithDeadline 34 = .ok (.iconst 0, 1) := by decide +kernel
theorem dX6_countFinishedWithDeadline_35 : decode cX6_countFinishedWithDeadline 35 = .ok (.iadd, 1) := by decide +kernel
theorem dX6_countFinishedWithDeadline_36 : decode cX6_countFinishedWithDeadline 36 = .ok (.istore_n 1, 1) := by decide +kernel
theorem dX6_countFinishedWithDeadline_37 : decode cX6_countFinishedWithDeadline 37 = .ok (.iinc 2 1, 3) := by decide +kernel
theorem dX6_countFinishedWithDeadline_40 : decode cX6_countFinishedWithDeadline 40 = .ok (.goto (-36), 3) := by decide +kernel
theorem dX6_countFinishedWithDeadline_43 : decode cX6_countFinishedWithDeadline 43 = .ok (.iload_n 1, 1) := by decide +kernel
theorem dX6_countFinishedWithDeadline_44 : decode cX6_countFinishedWithDeadline 44 = .ok (.ireturn, 1) := by decide +kernel
theorem dX6_countLate_0 : decode cX6_countLate 0 = .ok (.iconst 0, 1) := by decide +kernel
theorem dX6_countLate_1 : decode cX6_countLate 1 = .ok (.istore_n 1, 1) := by decide +kernel
theorem dX6_countLate_2 : decode cX6_countLate 2 = .ok (.iconst 0, 1) := by decide +kernel
theorem dX6_countLate_3 : decode cX6_countLate 3 = .ok (.istore_n 2, 1) := by decide +kernel
theorem dX6_countLate_4 : decode cX6_countLate 4 = .ok (.iload_n 2, 1) := by decide +kernel
theorem dX6_countLate_5 : decode cX6_countLate 5 = .ok (.aload_n 0, 1) := by decide +kernel
theorem dX6_countLate_6 : decode cX6_countLate 6 = .ok (.getfield 17, 3) := by decide +kernel
theorem dX6_countLate_9 : decode cX6_countLate 9 = .ok (.if_icmp .ge 34, 3) := by decide +kernel
theorem dX6_countLate_12 : decode cX6_countLate 12 = .ok (.aload_n 0, 1) := by decide +kernel
theorem dX6_countLate_13 : decode cX6_countLate 13 = .ok (.iload_n 2, 1) := by decide +kernel
theorem dX6_countLate_14 : decode cX6_countLate 14 = .ok (.invokevirtual 52, 3) := by decide +kernel
theorem dX6_countLate_17 : decode cX6_countLate 17 = .ok (.astore_n 3, 1) := by decide +kernel
theorem dX6_countLate_18 : decode cX6_countLate 18 = .ok (.iload_n 1, 1) := by decide +kernel
theorem dX6_countLate_19 : decode cX6_countLate 19 = .ok (.aload_n 3, 1) := by decide +kernel
theorem dX6_countLate_20 : decode cX6_countLate 20 = .ok (.ifnull 14, 3) := by decide +kernel
theorem dX6_countLate_23 : decode cX6_countLate 23 = .ok (.aload_n 3, 1) := by decide +kernel
theorem dX6_countLate_24 : decode cX6_countLate 24 = .ok (.invokevirtual 62, 3) := by decide +kernel
theorem dX6_countLate_27 : decode cX6_countLate 27 = .ok (.ifCond .eq 7, 3) := by decide +kernel
theorem dX6_countLate_30 : decode cX6_countLate 30 = .ok (.iconst 1, 1) := by decide +kernel
theorem dX6_countLate_31 : decode cX6_countLate 31 = .ok (.goto 4, 3) := by decide +kernel
theorem dX6_countLate_34 : decode cX6_countLate 34 = .ok (.iconst 0, 1) := by decide +kernel
theorem dX6_countLate_35 : decode cX6_countLate 35 = .ok (.iadd, 1) := by decide +kernel
theorem dX6_countLate_36 : decode cX6_countLate 36 = .ok (.istore_n 1, 1) := by decide +kernel
theorem dX6_countLate_37 : decode cX6_countLate 37 = .ok (.iinc 2 1, 3) := by decide +kernel
theorem dX6_countLate_40 : decode cX6_countLate 40 = .ok (.goto (-36), 3) := by decide +kernel
theorem dX6_countLate_43 : decode cX6_countLate 43 = .ok (.iload_n 1, 1) := by decide +kernel
theorem dX6_countLate_44 : decode cX6_countLate 44 = .ok (.ireturn, 1) := by decide +kernel
theorem dX7_init_0 : decode cX7_init 0 = .ok (.aload_n 0, 1) := by decide +kernel
theorem dX7_init_1 : decode cX7_init 1 = .ok (.invokespecial 3, 3) := by decide +kernel
theorem dX7_init_4 : decode cX7_init 4 = .ok (.aload_n 0, 1) := by decide +kernel
theorem dX7_init_5 : decode cX7_init 5 = .ok (.iconst 1, 1) := by decide +kernel
theorem dX7_init_6 : decode cX7_init 6 = .ok (.putfield 9, 3) := by decide +kernel
theorem dX7_init_9 : decode cX7_init 9 = .ok (.aload_n 0, 1) := by decide +kernel
theorem dX7_init_10 : decode cX7_init 10 = .ok (.sipush 200, 3) := by decide +kernel
theorem dX7_init_13 : decode cX7_init 13 = .ok (.putfield 15, 3) := by decide +kernel
theorem dX7_init_16 : decode cX7_init 16 = .ok (.aload_n 0, 1) := by decide +kernel
theorem dX7_init_17 : decode cX7_init 17 = .ok (.sipush 1000, 3) := by decide +kernel
theorem dX7_init_20 : decode cX7_init 20 = .ok (.putfield 19, 3) := by decide +kernel
theorem dX7_init_23 : decode cX7_init 23 = .ok (.return_, 1) := by decide +kernel
theorem dX7_copyFrom_0 : decode cX7_copyFrom 0 = .ok (.aload_n 0, 1) := by decide +kernel
theorem dX7_copyFrom_1 : decode cX7_copyFrom 1 = .ok (.aload_n 1, 1) := by decide +kernel
theorem dX7_copyFrom_2 : decode cX7_copyFrom 2 = .ok (.getfield 22, 3) := by decide +kernel
theorem dX7_copyFrom_5 : decode cX7_copyFrom 5 = .ok (.putfield 22, 3) := by decide +kernel
theorem dX7_copyFrom_8 : decode cX7_copyFrom 8 = .ok (.aload_n 0, 1) := by decide +kernel
theorem dX7_copyFrom_9 : decode cX7_copyFrom 9 = .ok (.aload_n 1, 1) := by decide +kernel
theorem dX7_copyFrom_10 : decode cX7_copyFrom 10 = .ok (.getfield 9, 3) := by decide +kernel
theorem dX7_copyFrom_13 : decode cX7_copyFrom 13 = .ok (.putfield 9, 3) := by decide +kernel
theorem dX7_copyFrom_16 : decode cX7_copyFrom 16 = .ok (.aload_n 0, 1) := by decide +kernel
theorem dX7_copyFrom_17 : decode cX7_copyFrom 17 = .ok (.aload_n 1, 1) := by decide +kernel
theorem dX7_copyFrom_18 : decode cX7_copyFrom 18 = .ok (.getfield 15, 3) := by decide +kernel
theorem dX7_copyFrom_21 : decode cX7_copyFrom 21 = .ok (.putfield 15, 3) := by decide +kernel
theorem dX7_copyFrom_24 : decode cX7_copyFrom 24 = .ok (.aload_n 0, 1) := by decide +kernel
theorem dX7_copyFrom_25 : decode cX7_copyFrom 25 = .ok (.aload_n 1, 1) := by decide +kernel
theorem dX7_copyFrom_26 : decode cX7_copyFrom 26 = .ok (.getfield 19, 3) := by decide +kernel
theorem dX7_copyFrom_29 : decode cX7_copyFrom 29 = .ok (.putfield 19, 3) := by decide +kernel
theorem dX7_copyFrom_32 : decode cX7_copyFrom 32 = .ok (.return_, 1) := by decide +kernel
theorem dX7_choose_0 : decode cX7_choose 0 = .ok (.aload_n 0, 1) := by decide +kernel
theorem dX7_choose_1 : decode cX7_choose 1 = .ok (.getfield 22, 3) := by decide +kernel
theorem dX7_choose_4 : decode cX7_choose 4 = .ok (.bipush 6, 2) := by decide +kernel
theorem dX7_choose_6 : decode cX7_choose 6 = .ok (.if_icmp .ne 36, 3) := by decide +kernel
theorem dX7_choose_9 : decode cX7_choose 9 = .ok (.aload_n 3, 1) := by decide +kernel
theorem dX7_choose_10 : decode cX7_choose 10 = .ok (.aload_n 1, 1) := by decide +kernel
theorem dX7_choose_11 : decode cX7_choose 11 = .ok (.aload_n 2, 1) := by decide +kernel
theorem dX7_choose_12 : decode cX7_choose 12 = .ok (.iconst 1, 1) := by decide +kernel
theorem dX7_choose_13 : decode cX7_choose 13 = .ok (.iconst 1, 1) := by decide +kernel
theorem dX7_choose_14 : decode cX7_choose 14 = .ok (.invokevirtual 25, 3) := by decide +kernel
theorem dX7_choose_17 : decode cX7_choose 17 = .ok (.aload_n 3, 1) := by decide +kernel
theorem dX7_choose_18 : decode cX7_choose 18 = .ok (.aload_n 2, 1) := by decide +kernel
theorem dX7_choose_19 : decode cX7_choose 19 = .ok (.invokevirtual 31, 3) := by decide +kernel
theorem dX7_choose_22 : decode cX7_choose 22 = .ok (.aload_n 3, 1) := by decide +kernel
theorem dX7_choose_23 : decode cX7_choose 23 = .ok (.getfield 35, 3) := by decide +kernel
theorem dX7_choose_26 : decode cX7_choose 26 = .ok (.ifCond .le 16, 3) := by decide +kernel
theorem dX7_choose_29 : decode cX7_choose 29 = .ok (.aload_n 3, 1) := by decide +kernel
theorem dX7_choose_30 : decode cX7_choose 30 = .ok (.invokevirtual 38, 3) := by decide +kernel
theorem dX7_choose_33 : decode cX7_choose 33 = .ok (.ifCond .eq 9, 3) := by decide +kernel
theorem dX7_choose_36 : decode cX7_choose 36 = .ok (.aload_n 3, 1) := by decide +kernel
theorem dX7_choose_37 : decode cX7_choose 37 = .ok (.iconst 0, 1) := by decide +kernel
theorem dX7_choose_38 : decode cX7_choose 38 = .ok (.invokevirtual 42, 3) := by decide +kernel
theorem dX7_choose_41 : decode cX7_choose 41 = .ok (.ireturn, 1) := by decide +kernel
theorem dX7_choose_42 : decode cX7_choose 42 = .ok (.iconst (-1), 1) := by decide +kernel
theorem dX7_choose_43 : decode cX7_choose 43 = .ok (.istore 4, 2) := by decide +kernel
theorem dX7_choose_45 : decode cX7_choose 45 = .ok (.ldc 46, 2) := by decide +kernel
theorem dX7_choose_47 : decode cX7_choose 47 = .ok (.istore 5, 2) := by decide +kernel
theorem dX7_choose_49 : decode cX7_choose 49 = .ok (.iconst 0, 1) := by decide +kernel
theorem dX7_choose_50 : decode cX7_choose 50 = .ok (.istore 6, 2) := by decide +kernel
theorem dX7_choose_52 : decode cX7_choose 52 = .ok (.iload 6, 2) := by decide +kernel
theorem dX7_choose_54 : decode cX7_choose 54 = .ok (.aload_n 1, 1) := by decide +kernel
theorem dX7_choose_55 : decode cX7_choose 55 = .ok (.getfield 47, 3) := by decide +kernel
theorem dX7_choose_58 : decode cX7_choose 58 = .ok (.if_icmp .ge 51, 3) := by decide +kernel
theorem dX7_choose_61 : decode cX7_choose 61 = .ok (.aload_n 1, 1) := by decide +kernel
theorem dX7_choose_62 : decode cX7_choose 62 = .ok (.iload 6, 2) := by decide +kernel
theorem dX7_choose_64 : decode cX7_choose 64 = .ok (.invokevirtual 52, 3) := by decide +kernel
theorem dX7_choose_67 : decode cX7_choose 67 = .ok (.astore 7, 2) := by decide +kernel
theorem dX7_choose_69 : decode cX7_choose 69 = .ok (.aload 7, 2) := by decide +kernel
theorem dX7_choose_71 : decode cX7_choose 71 = .ok (.ifnull 13, 3) := by decide +kernel
theorem dX7_choose_74 : decode cX7_choose 74 = .ok (.aload_n 0, 1) := by decide +kernel
theorem dX7_choose_75 : decode cX7_choose 75 = .ok (.aload 7, 2) := by decide +kernel
theorem dX7_choose_77 : decode cX7_choose 77 = .ok (.aload_n 2, 1) := by decide +kernel
theorem dX7_choose_78 : decode cX7_choose 78 = .ok (.invokevirtual 56, 3) := by decide +kernel
theorem dX7_choose_81 : decode cX7_choose 81 = .ok (.goto 5, 3) := by decide +kernel
theorem dX7_choose_84 : decode cX7_choose 84 = .ok (.ldc 46, 2) := by decide +kernel
theorem dX7_choose_86 : decode cX7_choose 86 = .ok (.istore 8, 2) := by decide +kernel
theorem dX7_choose_88 : decode cX7_choose 88 = .ok (.iload 8, 2) := by decide +kernel
theorem dX7_choose_90 : decode cX7_choose 90 = .ok (.iload 5, 2) := by decide +kernel
theorem dX7_choose_92 : decode cX7_choose 92 = .ok (.if_icmp .ge 11, 3) := by decide +kernel
theorem dX7_choose_95 : decode cX7_choose 95 = .ok (.iload 6, 2) := by decide +kernel
theorem dX7_choose_97 : decode cX7_choose 97 = .ok (.istore 4, 2) := by decide +kernel
theorem dX7_choose_99 : decode cX7_choose 99 = .ok (.iload 8, 2) := by decide +kernel
theorem dX7_choose_101 : decode cX7_choose 101 = .ok (.istore 5, 2) := by decide +kernel
theorem dX7_choose_103 : decode cX7_choose 103 = .ok (.iinc 6 1, 3) := by decide +kernel
theorem dX7_choose_106 : decode cX7_choose 106 = .ok (.goto (-54), 3) := by decide +kernel
theorem dX7_choose_109 : decode cX7_choose 109 = .ok (.iload 4, 2) := by decide +kernel
theorem dX7_choose_111 : decode cX7_choose 111 = .ok (.ireturn, 1) := by decide +kernel
theorem dX7_keyOf_0 : decode cX7_keyOf 0 = .ok (.aload_n 2, 1) := by decide +kernel
theorem dX7_keyOf_1 : decode cX7_keyOf 1 = .ok (.aload_n 1, 1) := by decide +kernel
theorem dX7_keyOf_2 : decode cX7_keyOf 2 = .ok (.getfield 60, 3) := by decide +kernel
theorem dX7_keyOf_5 : decode cX7_keyOf 5 = .ok (.invokevirtual 65, 3) := by decide +kernel
theorem dX7_keyOf_8 : decode cX7_keyOf 8 = .ok (.istore_n 3, 1) := by decide +kernel
theorem dX7_keyOf_9 : decode cX7_keyOf 9 = .ok (.iload_n 3, 1) := by decide +kernel
theorem dX7_keyOf_10 : decode cX7_keyOf 10 = .ok (.invokestatic 70, 3) := by decide +kernel
theorem dX7_keyOf_13 : decode cX7_keyOf 13 = .ok (.istore 4, 2) := by decide +kernel
theorem dX7_keyOf_15 : decode cX7_keyOf 15 = .ok (.iload 4, 2) := by decide +kernel
theorem dX7_keyOf_17 : decode cX7_keyOf 17 = .ok (.aload_n 2, 1) := by decide +kernel
theorem dX7_keyOf_18 : decode cX7_keyOf 18 = .ok (.getfield 75, 3) := by decide +kernel
theorem dX7_keyOf_21 : decode cX7_keyOf 21 = .ok (.isub, 1) := by decide +kernel
theorem dX7_keyOf_22 : decode cX7_keyOf 22 = .ok (.invokestatic 78, 3) := by decide +kernel
theorem dX7_keyOf_25 : decode cX7_keyOf 25 = .ok (.istore 5, 2) := by decide +kernel
theorem dX7_keyOf_27 : decode cX7_keyOf 27 = .ok (.aload_n 0, 1) := by decide +kernel
theorem dX7_keyOf_28 : decode cX7_keyOf 28 = .ok (.getfield 22, 3) := by decide +kernel
theorem dX7_keyOf_31 : decode cX7_keyOf 31 = .ok (.tableswitch 109 0 5 #[37, 42, 45, 69, 109, 89], 37) := by decide +kernel
theorem dX7_keyOf_68 : decode cX7_keyOf 68 = .ok (.aload_n 1, 1) := by decide +kernel
theorem dX7_keyOf_69 : decode cX7_keyOf 69 = .ok (.getfield 83, 3) := by decide +kernel
theorem dX7_keyOf_72 : decode cX7_keyOf 72 = .ok (.ireturn, 1) := by decide +kernel
theorem dX7_keyOf_73 : decode cX7_keyOf 73 = .ok (.iload 5, 2) := by decide +kernel
theorem dX7_keyOf_75 : decode cX7_keyOf 75 = .ok (.ireturn, 1) := by decide +kernel
theorem dX7_keyOf_76 : decode cX7_keyOf 76 = .ok (.aload_n 0, 1) := by decide +kernel
theorem dX7_keyOf_77 : decode cX7_keyOf 77 = .ok (.iload 4, 2) := by decide +kernel
theorem dX7_keyOf_79 : decode cX7_keyOf 79 = .ok (.aload_n 2, 1) := by decide +kernel
theorem dX7_keyOf_80 : decode cX7_keyOf 80 = .ok (.getfield 75, 3) := by decide +kernel
theorem dX7_keyOf_83 : decode cX7_keyOf 83 = .ok (.invokevirtual 86, 3) := by decide +kernel
theorem dX7_keyOf_86 : decode cX7_keyOf 86 = .ok (.ifCond .eq 8, 3) := by decide +kernel
theorem dX7_keyOf_89 : decode cX7_keyOf 89 = .ok (.iload 5, 2) := by decide +kernel
theorem dX7_keyOf_91 : decode cX7_keyOf 91 = .ok (.goto 8, 3) := by decide +kernel
theorem dX7_keyOf_94 : decode cX7_keyOf 94 = .ok (.bipush 64, 2) := by decide +kernel
theorem dX7_keyOf_96 : decode cX7_keyOf 96 = .ok (.iload 5, 2) := by decide +kernel
theorem dX7_keyOf_98 : decode cX7_keyOf 98 = .ok (.iadd, 1) := by decide +kernel
theorem dX7_keyOf_99 : decode cX7_keyOf 99 = .ok (.ireturn, 1) := by decide +kernel
theorem dX7_keyOf_100 : decode cX7_keyOf 100 = .ok (.iload 4, 2) := by decide +kernel
theorem dX7_keyOf_102 : decode cX7_keyOf 102 = .ok (.aload_n 2, 1) := by decide +kernel
theorem dX7_keyOf_103 : decode cX7_keyOf 103 = .ok (.getfield 75, 3) := by decide +kernel
theorem dX7_keyOf_106 : decode cX7_keyOf 106 = .ok (.if_icmp .lt 8, 3) := by decide +kernel
theorem dX7_keyOf_109 : decode cX7_keyOf 109 = .ok (.iload 5, 2) := by decide +kernel
theorem dX7_keyOf_111 : decode cX7_keyOf 111 = .ok (.goto 8, 3) := by decide +kernel
theorem dX7_keyOf_114 : decode cX7_keyOf 114 = .ok (.bipush 64, 2) := by decide +kernel
theorem dX7_keyOf_116 : decode cX7_keyOf 116 = .ok (.iload 4, 2) := by decide +kernel
theorem dX7_keyOf_118 : decode cX7_keyOf 118 = .ok (.iadd, 1) := by decide +kernel
theorem dX7_keyOf_119 : decode cX7_keyOf 119 = .ok (.ireturn, 1) := by decide +kernel
theorem dX7_keyOf_120 : decode cX7_keyOf 120 = .ok (.aload_n 0, 1) := by decide +kernel
theorem dX7_keyOf_121 : decode cX7_keyOf 121 = .ok (.aload_n 1, 1) := by decide +kernel
theorem dX7_keyOf_122 : decode cX7_keyOf 122 = .ok (.aload_n 2, 1) := by decide +kernel
theorem dX7_keyOf_123 : decode cX7_keyOf 123 = .ok (.getfield 90, 3) := by decide +kernel
theorem dX7_keyOf_126 : decode cX7_keyOf 126 = .ok (.invokevirtual 93, 3) := by decide +kernel
theorem dX7_keyOf_129 : decode cX7_keyOf 129 = .ok (.sipush 10000, 3) := by decide +kernel
theorem dX7_keyOf_132 : decode cX7_keyOf 132 = .ok (.imul, 1) := by decide +kernel
theorem dX7_keyOf_133 : decode cX7_keyOf 133 = .ok (.aload_n 2, 1) := by decide +kernel
theorem dX7_keyOf_134 : decode cX7_keyOf 134 = .ok (.iload_n 3, 1) := by decide +kernel
theorem dX7_keyOf_135 : decode cX7_keyOf 135 = .ok (.invokevirtual 97, 3) := by decide +kernel
theorem dX7_keyOf_138 : decode cX7_keyOf 138 = .ok (.iadd, 1) := by decide +kernel
theorem dX7_keyOf_139 : decode cX7_keyOf 139 = .ok (.ireturn, 1) := by decide +kernel
theorem dX7_keyOf_140 : decode cX7_keyOf 140 = .ok (.aload_n 2, 1) := by decide +kernel
theorem dX7_keyOf_141 : decode cX7_keyOf 141 = .ok (.iload_n 3, 1) := by decide +kernel
theorem dX7_keyOf_142 : decode cX7_keyOf 142 = .ok (.invokevirtual 97, 3) := by decide +kernel
theorem dX7_keyOf_145 : decode cX7_keyOf 145 = .ok (.ireturn, 1) := by decide +kernel
theorem dX7_isAhead_0 : decode cX7_isAhead 0 = .ok (.aload_n 0, 1) := by decide +kernel
theorem dX7_isAhead_1 : decode cX7_isAhead 1 = .ok (.getfield 9, 3) := by decide +kernel
theorem dX7_isAhead_4 : decode cX7_isAhead 4 = .ok (.ifCond .eq 16, 3) := by decide +kernel
theorem dX7_isAhead_7 : decode cX7_isAhead 7 = .ok (.iload_n 1, 1) := by decide +kernel
theorem dX7_isAhead_8 : decode cX7_isAhead 8 = .ok (.iload_n 2, 1) := by decide +kernel
theorem dX7_isAhead_9 : decode cX7_isAhead 9 = .ok (.if_icmp .lt 7, 3) := by decide +kernel
theorem dX7_isAhead_12 : decode cX7_isAhead 12 = .ok (.iconst 1, 1) := by decide +kernel
theorem dX7_isAhead_13 : decode cX7_isAhead 13 = .ok (.goto 17, 3) := by decide +kernel
theorem dX7_isAhead_16 : decode cX7_isAhead 16 = .ok (.iconst 0, 1) := by decide +kernel
theorem dX7_isAhead_17 : decode cX7_isAhead 17 = .ok (.goto 13, 3) := by decide +kernel
theorem dX7_isAhead_20 : decode cX7_isAhead 20 = .ok (.iload_n 1, 1) := by decide +kernel
theorem dX7_isAhead_21 : decode cX7_isAhead 21 = .ok (.iload_n 2, 1) := by decide +kernel
theorem dX7_isAhead_22 : decode cX7_isAhead 22 = .ok (.if_icmp .gt 7, 3) := by decide +kernel
theorem dX7_isAhead_25 : decode cX7_isAhead 25 = .ok (.iconst 1, 1) := by decide +kernel
theorem dX7_isAhead_26 : decode cX7_isAhead 26 = .ok (.goto 4, 3) := by decide +kernel
theorem dX7_isAhead_29 : decode cX7_isAhead 29 = .ok (.iconst 0, 1) := by decide +kernel
theorem dX7_isAhead_30 : decode cX7_isAhead 30 = .ok (.ireturn, 1) := by decide +kernel
theorem dX7_turnFor_0 : decode cX7_turnFor 0 = .ok (.aload_n 0, 1) := by decide +kernel
theorem dX7_turnFor_1 : decode cX7_turnFor 1 = .ok (.getfield 22, 3) := by decide +kernel
theorem dX7_turnFor_4 : decode cX7_turnFor 4 = .ok (.iconst 2, 1) := by decide +kernel
theorem dX7_turnFor_5 : decode cX7_turnFor 5 = .ok (.if_icmp .ne 28, 3) := by decide +kernel
theorem dX7_turnFor_8 : decode cX7_turnFor 8 = .ok (.aload_n 0, 1) := by decide +kernel
theorem dX7_turnFor_9 : decode cX7_turnFor 9 = .ok (.iload_n 1, 1) := by decide +kernel
theorem dX7_turnFor_10 : decode cX7_turnFor 10 = .ok (.iload_n 2, 1) := by decide +kernel
theorem dX7_turnFor_11 : decode cX7_turnFor 11 = .ok (.invokevirtual 86, 3) := by decide +kernel
theorem dX7_turnFor_14 : decode cX7_turnFor 14 = .ok (.ifCond .ne 19, 3) := by decide +kernel
theorem dX7_turnFor_17 : decode cX7_turnFor 17 = .ok (.aload_n 0, 1) := by decide +kernel
theorem dX7_turnFor_18 : decode cX7_turnFor 18 = .ok (.aload_n 0, 1) := by decide +kernel
theorem dX7_turnFor_19 : decode cX7_turnFor 19 = .ok (.getfield 9, 3) := by decide +kernel
theorem dX7_turnFor_22 : decode cX7_turnFor 22 = .ok (.ifCond .ne 7, 3) := by decide +kernel
theorem dX7_turnFor_25 : decode cX7_turnFor 25 = .ok (.iconst 1, 1) := by decide +kernel
theorem dX7_turnFor_26 : decode cX7_turnFor 26 = .ok (.goto 4, 3) := by decide +kernel
theorem dX7_turnFor_29 : decode cX7_turnFor 29 = .ok (.iconst 0, 1) := by decide +kernel
theorem dX7_turnFor_30 : decode cX7_turnFor 30 = .ok (.putfield 9, 3) := by decide +kernel
theorem dX7_turnFor_33 : decode cX7_turnFor 33 = .ok (.return_, 1) := by decide +kernel
theorem dX7_bucketOf_0 : decode cX7_bucketOf 0 = .ok (.iconst 3, 1) := by decide +kernel
theorem dX7_bucketOf_1 : decode cX7_bucketOf 1 = .ok (.istore_n 3, 1) := by decide +kernel
theorem dX7_bucketOf_2 : decode cX7_bucketOf 2 = .ok (.aload_n 1, 1) := by decide +kernel
theorem dX7_bucketOf_3 : decode cX7_bucketOf 3 = .ok (.invokevirtual 100, 3) := by decide +kernel
theorem dX7_bucketOf_6 : decode cX7_bucketOf 6 = .ok (.ifCond .eq 29, 3) := by decide +kernel
theorem dX7_bucketOf_9 : decode cX7_bucketOf 9 = .ok (.iconst 0, 1) := by decide +kernel
theorem dX7_bucketOf_10 : decode cX7_bucketOf 10 = .ok (.aload_n 1, 1) := by decide +kernel
theorem dX7_bucketOf_11 : decode cX7_bucketOf 11 = .ok (.getfield 103, 3) := by decide +kernel
theorem dX7_bucketOf_14 : decode cX7_bucketOf 14 = .ok (.iload_n 2, 1) := by decide +kernel
theorem dX7_bucketOf_15 : decode cX7_bucketOf 15 = .ok (.isub, 1) := by decide +kernel
theorem dX7_bucketOf_16 : decode cX7_bucketOf 16 = .ok (.invokestatic 106, 3) := by decide +kernel
theorem dX7_bucketOf_19 : decode cX7_bucketOf 19 = .ok (.istore 4, 2) := by decide +kernel
theorem dX7_bucketOf_21 : decode cX7_bucketOf 21 = .ok (.iconst 3, 1) := by decide +kernel
theorem dX7_bucketOf_22 : decode cX7_bucketOf 22 = .ok (.iload 4, 2) := by decide +kernel
theorem dX7_bucketOf_24 : decode cX7_bucketOf 24 = .ok (.aload_n 0, 1) := by decide +kernel
theorem dX7_bucketOf_25 : decode cX7_bucketOf 25 = .ok (.getfield 15, 3) := by decide +kernel
theorem dX7_bucketOf_28 : decode cX7_bucketOf 28 = .ok (.invokestatic 110, 3) := by decide +kernel
theorem dX7_bucketOf_31 : decode cX7_bucketOf 31 = .ok (.invokestatic 113, 3) := by decide +kernel
theorem dX7_bucketOf_34 : decode cX7_bucketOf 34 = .ok (.istore_n 3, 1) := by decide +kernel
theorem dX7_bucketOf_35 : decode cX7_bucketOf 35 = .ok (.iconst 0, 1) := by decide +kernel
theorem dX7_bucketOf_36 : decode cX7_bucketOf 36 = .ok (.iload_n 3, 1) := by decide +kernel
theorem dX7_bucketOf_37 : decode cX7_bucketOf 37 = .ok (.iload_n 2, 1) := by decide +kernel
theorem dX7_bucketOf_38 : decode cX7_bucketOf 38 = .ok (.aload_n 1, 1) := by decide +kernel
theorem dX7_bucketOf_39 : decode cX7_bucketOf 39 = .ok (.getfield 116, 3) := by decide +kernel
theorem dX7_bucketOf_42 : decode cX7_bucketOf 42 = .ok (.isub, 1) := by decide +kernel
theorem dX7_bucketOf_43 : decode cX7_bucketOf 43 = .ok (.aload_n 0, 1) := by decide +kernel
theorem dX7_bucketOf_44 : decode cX7_bucketOf 44 = .ok (.getfield 19, 3) := by decide +kernel
theorem dX7_bucketOf_47 : decode cX7_bucketOf 47 = .ok (.invokestatic 110, 3) := by decide +kernel
theorem dX7_bucketOf_50 : decode cX7_bucketOf 50 = .ok (.isub, 1) := by decide +kernel
theorem dX7_bucketOf_51 : decode cX7_bucketOf 51 = .ok (.invokestatic 106, 3) := by decide +kernel
theorem dX7_bucketOf_54 : decode cX7_bucketOf 54 = .ok (.ireturn, 1) := by decide +kernel
theorem dX8_init_0 : decode cX8_init 0 = .ok (.aload_n 0, 1) := by decide +kernel
theorem dX8_init_1 : decode cX8_init 1 = .ok (.invokespecial 3, 3) := by decide +kernel
theorem dX8_init_4 : decode cX8_init 4 = .ok (.aload_n 0, 1) := by decide +kernel
theorem dX8_init_5 : decode cX8_init 5 = .ok (.new 9, 3) := by decide +kernel
theorem dX8_init_8 : decode cX8_init 8 = .ok (.dup, 1) := by decide +kernel
theorem dX8_init_9 : decode cX8_init 9 = .ok (.invokespecial 11, 3) := by decide +kernel
theorem dX8_init_12 : decode cX8_init 12 = .ok (.putfield 12, 3) := by decide +kernel
theorem dX8_init_15 : decode cX8_init 15 = .ok (.aload_n 0, 1) := by decide +kernel
theorem dX8_init_16 : decode cX8_init 16 = .ok (.new 18, 3) := by decide +kernel
theorem dX8_init_19 : decode cX8_init 19 = .ok (.dup, 1) := by decide +kernel
theorem dX8_init_20 : decode cX8_init 20 = .ok (.invokespecial 20, 3) := by decide +kernel
theorem dX8_init_23 : decode cX8_init 23 = .ok (.putfield 21, 3) := by decide +kernel
theorem dX8_init_26 : decode cX8_init 26 = .ok (.aload_n 0, 1) := by decide +kernel
theorem dX8_init_27 : decode cX8_init 27 = .ok (.new 25, 3) := by decide +kernel
theorem dX8_init_30 : decode cX8_init 30 = .ok (.dup, 1) := by decide +kernel
theorem dX8_init_31 : decode cX8_init 31 = .ok (.invokespecial 27, 3) := by decide +kernel
theorem dX8_init_34 : decode cX8_init 34 = .ok (.putfield 28, 3) := by decide +kernel
theorem dX8_init_37 : decode cX8_init 37 = .ok (.aload_n 0, 1) := by decide +kernel
theorem dX8_init_38 : decode cX8_init 38 = .ok (.new 32, 3) := by decide +kernel
theorem dX8_init_41 : decode cX8_init 41 = .ok (.dup, 1) := by decide +kernel
theorem dX8_init_42 : decode cX8_init 42 = .ok (.invokespecial 34, 3) := by decide +kernel
theorem dX8_init_45 : decode cX8_init 45 = .ok (.putfield 35, 3) := by decide +kernel
theorem dX8_init_48 : decode cX8_init 48 = .ok (.return_, 1) := by decide +kernel
theorem dX8_copyFrom_0 : decode cX8_copyFrom 0 = .ok (.aload_n 0, 1) := by decide +kernel
theorem dX8_copyFrom_1 : decode cX8_copyFrom 1 = .ok (.getfield 12, 3) := by decide +kernel
theorem dX8_copyFrom_4 : decode cX8_copyFrom 4 = .ok (.aload_n 1, 1) := by decide +kernel
theorem dX8_copyFrom_5 : decode cX8_copyFrom 5 = .ok (.getfield 12, 3) := by decide +kernel
theorem dX8_copyFrom_8 : decode cX8_copyFrom 8 = .ok (.invokevirtual 39, 3) := by decide +kernel
theorem dX8_copyFrom_11 : decode cX8_copyFrom 11 = .ok (.aload_n 0, 1) := by decide +kernel
theorem dX8_copyFrom_12 : decode cX8_copyFrom 12 = .ok (.getfield 21, 3) := by decide +kernel
theorem dX8_copyFrom_15 : decode cX8_copyFrom 15 = .ok (.aload_n 1, 1) := by decide +kernel
theorem dX8_copyFrom_16 : decode cX8_copyFrom 16 = .ok (.getfield 21, 3) := by decide +kernel
theorem dX8_copyFrom_19 : decode cX8_copyFrom 19 = .ok (.invokevirtual 43, 3) := by decide +kernel
theorem dX8_copyFrom_22 : decode cX8_copyFrom 22 = .ok (.aload_n 0, 1) := by decide +kernel
theorem dX8_copyFrom_23 : decode cX8_copyFrom 23 = .ok (.getfield 28, 3) := by decide +kernel
theorem dX8_copyFrom_26 : decode cX8_copyFrom 26 = .ok (.aload_n 1, 1) := by decide +kernel
theorem dX8_copyFrom_27 : decode cX8_copyFrom 27 = .ok (.getfield 28, 3) := by decide +kernel
theorem dX8_copyFrom_30 : decode cX8_copyFrom 30 = .ok (.invokevirtual 46, 3) := by decide +kernel
theorem dX8_copyFrom_33 : decode cX8_copyFrom 33 = .ok (.aload_n 0, 1) := by decide +kernel
theorem dX8_copyFrom_34 : decode cX8_copyFrom 34 = .ok (.getfield 35, 3) := by decide +kernel
theorem dX8_copyFrom_37 : decode cX8_copyFrom 37 = .ok (.aload_n 1, 1) := by decide +kernel
theorem dX8_copyFrom_38 : decode cX8_copyFrom 38 = .ok (.getfield 35, 3) := by decide +kernel
theorem dX8_copyFrom_41 : decode cX8_copyFrom 41 = .ok (.invokevirtual 49, 3) := by decide +kernel
theorem dX8_copyFrom_44 : decode cX8_copyFrom 44 = .ok (.return_, 1) := by decide +kernel
theorem dX8_hasRoomFor_0 : decode cX8_hasRoomFor 0 = .ok (.aload_n 0, 1) := by decide +kernel
theorem dX8_hasRoomFor_1 : decode cX8_hasRoomFor 1 = .ok (.getfield 21, 3) := by decide +kernel
theorem dX8_hasRoomFor_4 : decode cX8_hasRoomFor 4 = .ok (.getfield 52, 3) := by decide +kernel
theorem dX8_hasRoomFor_7 : decode cX8_hasRoomFor 7 = .ok (.bipush 80, 2) := by decide +kernel
theorem dX8_hasRoomFor_9 : decode cX8_hasRoomFor 9 = .ok (.if_icmp .ge 15, 3) := by decide +kernel
theorem dX8_hasRoomFor_12 : decode cX8_hasRoomFor 12 = .ok (.aload_n 0, 1) := by decide +kernel
theorem dX8_hasRoomFor_13 : decode cX8_hasRoomFor 13 = .ok (.getfield 21, 3) := by decide +kernel
theorem dX8_hasRoomFor_16 : decode cX8_hasRoomFor 16 = .ok (.getfield 56, 3) := by decide +kernel
theorem dX8_hasRoomFor_19 : decode cX8_hasRoomFor 19 = .ok (.bipush 12, 2) := by decide +kernel
theorem dX8_hasRoomFor_21 : decode cX8_hasRoomFor 21 = .ok (.if_icmp .lt 5, 3) := by decide +kernel
theorem dX8_hasRoomFor_24 : decode cX8_hasRoomFor 24 = .ok (.iconst 0, 1) := by decide +kernel
theorem dX8_hasRoomFor_25 : decode cX8_hasRoomFor 25 = .ok (.ireturn, 1) := by decide +kernel
theorem dX8_hasRoomFor_26 : decode cX8_hasRoomFor 26 = .ok (.aload_n 0, 1) := by decide +kernel
theorem dX8_hasRoomFor_27 : decode cX8_hasRoomFor 27 = .ok (.getfield 35, 3) := by decide +kernel
theorem dX8_hasRoomFor_30 : decode cX8_hasRoomFor 30 = .ok (.getfield 59, 3) := by decide +kernel
theorem dX8_hasRoomFor_33 : decode cX8_hasRoomFor 33 = .ok (.ifCond .eq 23, 3) := by decide +kernel
theorem dX8_hasRoomFor_36 : decode cX8_hasRoomFor 36 = .ok (.iload_n 1, 1) := by decide +kernel
theorem dX8_hasRoomFor_37 : decode cX8_hasRoomFor 37 = .ok (.iconst 1, 1) := by decide +kernel
theorem dX8_hasRoomFor_38 : decode cX8_hasRoomFor 38 = .ok (.if_icmp .ne 18, 3) := by decide +kernel
theorem dX8_hasRoomFor_41 : decode cX8_hasRoomFor 41 = .ok (.aload_n 0, 1) := by decide +kernel
theorem dX8_hasRoomFor_42 : decode cX8_hasRoomFor 42 = .ok (.getfield 35, 3) := by decide +kernel
theorem dX8_hasRoomFor_45 : decode cX8_hasRoomFor 45 = .ok (.iload_n 2, 1) := by decide +kernel
theorem dX8_hasRoomFor_46 : decode cX8_hasRoomFor 46 = .ok (.invokevirtual 63, 3) := by decide +kernel
theorem dX8_hasRoomFor_49 : decode cX8_hasRoomFor 49 = .ok (.ifCond .ne 7, 3) := by decide +kernel
theorem dX8_hasRoomFor_52 : decode cX8_hasRoomFor 52 = .ok (.iconst 1, 1) := by decide +kernel
theorem dX8_hasRoomFor_53 : decode cX8_hasRoomFor 53 = .ok (.goto 4, 3) := by decide +kernel
theorem dX8_hasRoomFor_56 : decode cX8_hasRoomFor 56 = .ok (.iconst 0, 1) := by decide +kernel
theorem dX8_hasRoomFor_57 : decode cX8_hasRoomFor 57 = .ok (.istore_n 3, 1) := by decide +kernel
theorem dX8_hasRoomFor_58 : decode cX8_hasRoomFor 58 = .ok (.iload_n 3, 1) := by decide +kernel
theorem dX8_hasRoomFor_59 : decode cX8_hasRoomFor 59 = .ok (.ifCond .eq 15, 3) := by decide +kernel
theorem dX8_hasRoomFor_62 : decode cX8_hasRoomFor 62 = .ok (.aload_n 0, 1) := by decide +kernel
theorem dX8_hasRoomFor_63 : decode cX8_hasRoomFor 63 = .ok (.getfield 35, 3) := by decide +kernel
theorem dX8_hasRoomFor_66 : decode cX8_hasRoomFor 66 = .ok (.getfield 67, 3) := by decide +kernel
theorem dX8_hasRoomFor_69 : decode cX8_hasRoomFor 69 = .ok (.bipush 8, 2) := by decide +kernel
theorem dX8_hasRoomFor_71 : decode cX8_hasRoomFor 71 = .ok (.if_icmp .ge 7, 3) := by decide +kernel
theorem dX8_hasRoomFor_74 : decode cX8_hasRoomFor 74 = .ok (.iconst 1, 1) := by decide +kernel
theorem dX8_hasRoomFor_75 : decode cX8_hasRoomFor 75 = .ok (.goto 4, 3) := by decide +kernel
theorem dX8_hasRoomFor_78 : decode cX8_hasRoomFor 78 = .ok (.iconst 0, 1) := by decide +kernel
theorem dX8_hasRoomFor_79 : decode cX8_hasRoomFor 79 = .ok (.ireturn, 1) := by decide +kernel
theorem dX8_accept_0 : decode cX8_accept 0 = .ok (.aload_n 0, 1) := by decide +kernel
theorem dX8_accept_1 : decode cX8_accept 1 = .ok (.getfield 12, 3) := by decide +kernel
theorem dX8_accept_4 : decode cX8_accept 4 = .ok (.getfield 68, 3) := by decide +kernel
theorem dX8_accept_7 : decode cX8_accept 7 = .ok (.istore 4, 2) := by decide +kernel
theorem dX8_accept_9 : decode cX8_accept 9 = .ok (.aload_n 0, 1) := by decide +kernel
theorem dX8_accept_10 : decode cX8_accept 10 = .ok (.getfield 21, 3) := by decide +kernel
theorem dX8_accept_13 : decode cX8_accept 13 = .ok (.iload_n 2, 1) := by decide +kernel
theorem dX8_accept_14 : decode cX8_accept 14 = .ok (.iload 4, 2) := by decide +kernel
theorem dX8_accept_16 : decode cX8_accept 16 = .ok (.iload_n 3, 1) := by decide +kernel
theorem dX8_accept_17 : decode cX8_accept 17 = .ok (.ifCond .ne 7, 3) := by decide +kernel
theorem dX8_accept_20 : decode cX8_accept 20 = .ok (.iconst (-1), 1) := by decide +kernel
theorem dX8_accept_21 : decode cX8_accept 21 = .ok (.goto 7, 3) := by decide +kernel
theorem dX8_accept_24 : decode cX8_accept 24 = .ok (.iload 4, 2) := by decide +kernel
theorem dX8_accept_26 : decode cX8_accept 26 = .ok (.iload_n 3, 1) := by decide +kernel
theorem dX8_accept_27 : decode cX8_accept 27 = .ok (.iadd, 1) := by decide +kernel
theorem dX8_accept_28 : decode cX8_accept 28 = .ok (.invokevirtual 71, 3) := by decide +kernel
theorem dX8_accept_31 : decode cX8_accept 31 = .ok (.astore 5, 2) := by decide +kernel
theorem dX8_accept_33 : decode cX8_accept 33 = .ok (.aload 5, 2) := by decide +kernel
theorem dX8_accept_35 : decode cX8_accept 35 = .ok (.ifnonnull 5, 3) := by decide +kernel
theorem dX8_accept_38 : decode cX8_accept 38 = .ok (.iconst (-1), 1) := by decide +kernel
theorem dX8_accept_39 : decode cX8_accept 39 = .ok (.ireturn, 1) := by decide +kernel
theorem dX8_accept_40 : decode cX8_accept 40 = .ok (.aload_n 0, 1) := by decide +kernel
theorem dX8_accept_41 : decode cX8_accept 41 = .ok (.getfield 35, 3) := by decide +kernel
theorem dX8_accept_44 : decode cX8_accept 44 = .ok (.iload_n 1, 1) := by decide +kernel
theorem dX8_accept_45 : decode cX8_accept 45 = .ok (.iload_n 2, 1) := by decide +kernel
theorem dX8_accept_46 : decode cX8_accept 46 = .ok (.invokevirtual 75, 3) := by decide +kernel
theorem dX8_accept_49 : decode cX8_accept 49 = .ok (.ifCond .eq 27, 3) := by decide +kernel
theorem dX8_accept_52 : decode cX8_accept 52 = .ok (.aload_n 0, 1) := by decide +kernel
theorem dX8_accept_53 : decode cX8_accept 53 = .ok (.getfield 21, 3) := by decide +kernel
theorem dX8_accept_56 : decode cX8_accept 56 = .ok (.aload 5, 2) := by decide +kernel
theorem dX8_accept_58 : decode cX8_accept 58 = .ok (.iload 4, 2) := by decide +kernel
theorem dX8_accept_60 : decode cX8_accept 60 = .ok (.invokevirtual 79, 3) := by decide +kernel
theorem dX8_accept_63 : decode cX8_accept 63 = .ok (.iload_n 1, 1) := by decide +kernel
theorem dX8_accept_64 : decode cX8_accept 64 = .ok (.iconst 1, 1) := by decide +kernel
theorem dX8_accept_65 : decode cX8_accept 65 = .ok (.if_icmp .ne 11, 3) := by decide +kernel
theorem dX8_accept_68 : decode cX8_accept 68 = .ok (.aload_n 0, 1) := by decide +kernel
theorem dX8_accept_69 : decode cX8_accept 69 = .ok (.getfield 35, 3) := by decide +kernel
theorem dX8_accept_72 : decode cX8_accept 72 = .ok (.iload_n 2, 1) := by decide +kernel
theorem dX8_accept_73 : decode cX8_accept 73 = .ok (.invokevirtual 83, 3) := by decide +kernel
theorem dX8_accept_76 : decode cX8_accept 76 = .ok (.aload 5, 2) := by decide +kernel
theorem dX8_accept_78 : decode cX8_accept 78 = .ok (.getfield 87, 3) := by decide +kernel
theorem dX8_accept_81 : decode cX8_accept 81 = .ok (.ireturn, 1) := by decide +kernel
theorem dX8_serveChosen_0 : decode cX8_serveChosen 0 = .ok (.aload_n 0, 1) := by decide +kernel
theorem dX8_serveChosen_1 : decode cX8_serveChosen 1 = .ok (.getfield 21, 3) := by decide +kernel
theorem dX8_serveChosen_4 : decode cX8_serveChosen 4 = .ok (.aload_n 0, 1) := by decide +kernel
theorem dX8_serveChosen_5 : decode cX8_serveChosen 5 = .ok (.getfield 28, 3) := by decide +kernel
theorem dX8_serveChosen_8 : decode cX8_serveChosen 8 = .ok (.aload_n 0, 1) := by decide +kernel
theorem dX8_serveChosen_9 : decode cX8_serveChosen 9 = .ok (.getfield 21, 3) := by decide +kernel
theorem dX8_serveChosen_12 : decode cX8_serveChosen 12 = .ok (.aload_n 0, 1) := by decide +kernel
theorem dX8_serveChosen_13 : decode cX8_serveChosen 13 = .ok (.getfield 12, 3) := by decide +kernel
theorem dX8_serveChosen_16 : decode cX8_serveChosen 16 = .ok (.aload_n 1, 1) := by decide +kernel
theorem dX8_serveChosen_17 : decode cX8_serveChosen 17 = .ok (.invokevirtual 92, 3) := by decide +kernel
theorem dX8_serveChosen_20 : decode cX8_serveChosen 20 = .ok (.invokevirtual 96, 3) := by decide +kernel
theorem dX8_serveChosen_23 : decode cX8_serveChosen 23 = .ok (.astore_n 2, 1) := by decide +kernel
theorem dX8_serveChosen_24 : decode cX8_serveChosen 24 = .ok (.aload_n 2, 1) := by decide +kernel
theorem dX8_serveChosen_25 : decode cX8_serveChosen 25 = .ok (.ifnonnull 5, 3) := by decide +kernel
theorem dX8_serveChosen_28 : decode cX8_serveChosen 28 = .ok (.iconst (-1), 1) := by decide +kernel
theorem dX8_serveChosen_29 : decode cX8_serveChosen 29 = .ok (.ireturn, 1) := by decide +kernel
theorem dX8_serveChosen_30 : decode cX8_serveChosen 30 = .ok (.aload_n 0, 1) := by decide +kernel
theorem dX8_serveChosen_31 : decode cX8_serveChosen 31 = .ok (.getfield 12, 3) := by decide +kernel
theorem dX8_serveChosen_34 : decode cX8_serveChosen 34 = .ok (.aload_n 2, 1) := by decide +kernel
theorem dX8_serveChosen_35 : decode cX8_serveChosen 35 = .ok (.getfield 100, 3) := by decide +kernel
theorem dX8_serveChosen_38 : decode cX8_serveChosen 38 = .ok (.invokevirtual 103, 3) := by decide +kernel
theorem dX8_serveChosen_41 : decode cX8_serveChosen 41 = .ok (.istore_n 3, 1) := by decide +kernel
theorem dX8_serveChosen_42 : decode cX8_serveChosen 42 = .ok (.aload_n 0, 1) := by decide +kernel
theorem dX8_serveChosen_43 : decode cX8_serveChosen 43 = .ok (.getfield 28, 3) := by decide +kernel
theorem dX8_serveChosen_46 : decode cX8_serveChosen 46 = .ok (.iload_n 3, 1) := by decide +kernel
theorem dX8_serveChosen_47 : decode cX8_serveChosen 47 = .ok (.invokestatic 107, 3) := by decide +kernel
theorem dX8_serveChosen_50 : decode cX8_serveChosen 50 = .ok (.aload_n 0, 1) := by decide +kernel
theorem dX8_serveChosen_51 : decode cX8_serveChosen 51 = .ok (.getfield 12, 3) := by decide +kernel
theorem dX8_serveChosen_54 : decode cX8_serveChosen 54 = .ok (.getfield 112, 3) := by decide +kernel
theorem dX8_serveChosen_57 : decode cX8_serveChosen 57 = .ok (.invokevirtual 115, 3) := by decide +kernel
theorem dX8_serveChosen_60 : decode cX8_serveChosen 60 = .ok (.aload_n 0, 1) := by decide +kernel
theorem dX8_serveChosen_61 : decode cX8_serveChosen 61 = .ok (.getfield 12, 3) := by decide +kernel
theorem dX8_serveChosen_64 : decode cX8_serveChosen 64 = .ok (.iload_n 3, 1) := by decide +kernel
theorem dX8_serveChosen_65 : decode cX8_serveChosen 65 = .ok (.invokevirtual 119, 3) := by decide +kernel
theorem dX8_serveChosen_68 : decode cX8_serveChosen 68 = .ok (.aload_n 0, 1) := by decide +kernel
theorem dX8_serveChosen_69 : decode cX8_serveChosen 69 = .ok (.getfield 21, 3) := by decide +kernel
theorem dX8_serveChosen_72 : decode cX8_serveChosen 72 = .ok (.aload_n 2, 1) := by decide +kernel
theorem dX8_serveChosen_73 : decode cX8_serveChosen 73 = .ok (.aload_n 0, 1) := by decide +kernel
theorem dX8_serveChosen_74 : decode cX8_serveChosen 74 = .ok (.getfield 12, 3) := by decide +kernel
theorem dX8_serveChosen_77 : decode cX8_serveChosen 77 = .ok (.getfield 68, 3) := by decide +kernel
theorem dX8_serveChosen_80 : decode cX8_serveChosen 80 = .ok (.invokevirtual 79, 3) := by decide +kernel
theorem dX8_serveChosen_83 : decode cX8_serveChosen 83 = .ok (.aload_n 2, 1) := by decide +kernel
theorem dX8_serveChosen_84 : decode cX8_serveChosen 84 = .ok (.getfield 87, 3) := by decide +kernel
theorem dX8_serveChosen_87 : decode cX8_serveChosen 87 = .ok (.ireturn, 1) := by decide +kernel
theorem dX9_init_0 : decode cX9_init 0 = .ok (.aload_n 0, 1) := by decide +kernel
theorem dX9_init_1 : decode cX9_init 1 = .ok (.invokespecial 1, 3) := by decide +kernel
theorem dX9_init_4 : decode cX9_init 4 = .ok (.aload_n 0, 1) := by decide +kernel
theorem dX9_init_5 : decode cX9_init 5 = .ok (.new 7, 3) := by decide +kernel
theorem dX9_init_8 : decode cX9_init 8 = .ok (.dup, 1) := by decide +kernel
theorem dX9_init_9 : decode cX9_init 9 = .ok (.invokespecial 9, 3) := by decide +kernel
theorem dX9_init_12 : decode cX9_init 12 = .ok (.putfield 10, 3) := by decide +kernel
theorem dX9_init_15 : decode cX9_init 15 = .ok (.aload_n 0, 1) := by decide +kernel
theorem dX9_init_16 : decode cX9_init 16 = .ok (.new 16, 3) := by decide +kernel
theorem dX9_init_19 : decode cX9_init 19 = .ok (.dup, 1) := by decide +kernel
theorem dX9_init_20 : decode cX9_init 20 = .ok (.invokespecial 18, 3) := by decide +kernel
theorem dX9_init_23 : decode cX9_init 23 = .ok (.putfield 19, 3) := by decide +kernel
theorem dX9_init_26 : decode cX9_init 26 = .ok (.aload_n 0, 1) := by decide +kernel
theorem dX9_init_27 : decode cX9_init 27 = .ok (.new 23, 3) := by decide +kernel
theorem dX9_init_30 : decode cX9_init 30 = .ok (.dup, 1) := by decide +kernel
theorem dX9_init_31 : decode cX9_init 31 = .ok (.invokespecial 25, 3) := by decide +kernel
theorem dX9_init_34 : decode cX9_init 34 = .ok (.putfield 26, 3) := by decide +kernel
theorem dX9_init_37 : decode cX9_init 37 = .ok (.return_, 1) := by decide +kernel
theorem dX9_setCurve_0 : decode cX9_setCurve 0 = .ok (.iload_n 1, 1) := by decide +kernel
theorem dX9_setCurve_1 : decode cX9_setCurve 1 = .ok (.iconst 0, 1) := by decide +kernel
theorem dX9_setCurve_2 : decode cX9_setCurve 2 = .ok (.bipush 50, 2) := by decide +kernel
theorem dX9_setCurve_4 : decode cX9_setCurve 4 = .ok (.invokestatic 30, 3) := by decide +kernel
theorem dX9_setCurve_7 : decode cX9_setCurve 7 = .ok (.ifCond .eq 23, 3) := by decide +kernel
theorem dX9_setCurve_10 : decode cX9_setCurve 10 = .ok (.iload_n 2, 1) := by decide +kernel
theorem dX9_setCurve_11 : decode cX9_setCurve 11 = .ok (.iconst 0, 1) := by decide +kernel
theorem dX9_setCurve_12 : decode cX9_setCurve 12 = .ok (.bipush 20, 2) := by decide +kernel
theorem dX9_setCurve_14 : decode cX9_setCurve 14 = .ok (.invokestatic 30, 3) := by decide +kernel
theorem dX9_setCurve_17 : decode cX9_setCurve 17 = .ok (.ifCond .eq 13, 3) := by decide +kernel
theorem dX9_setCurve_20 : decode cX9_setCurve 20 = .ok (.iload_n 3, 1) := by decide +kernel
theorem dX9_setCurve_21 : decode cX9_setCurve 21 = .ok (.iconst 0, 1) := by decide +kernel
theorem dX9_setCurve_22 : decode cX9_setCurve 22 = .ok (.bipush 9, 2) := by decide +kernel
theorem dX9_setCurve_24 : decode cX9_setCurve 24 = .ok (.invokestatic 30, 3) := by decide +kernel
theorem dX9_setCurve_27 : decode cX9_setCurve 27 = .ok (.ifCond .ne 13, 3) := by decide +kernel
theorem dX9_setCurve_30 : decode cX9_setCurve 30 = .ok (.new 34, 3) := by decide +kernel
theorem dX9_setCurve_33 : decode cX9_setCurve 33 = .ok (.dup, 1) := by decide +kernel
theorem dX9_setCurve_34 : decode cX9_setCurve 34 = .ok (.ldc 36, 2) := by decide +kernel
theorem dX9_setCurve_36 : decode cX9_setCurve 36 = .ok (.invokespecial 38, 3) := by decide +kernel
theorem dX9_setCurve_39 : decode cX9_setCurve 39 = .ok (.athrow, 1) := by decide +kernel
theorem dX9_setCurve_40 : decode cX9_setCurve 40 = .ok (.aload_n 0, 1) := by decide +kernel
theorem dX9_setCurve_41 : decode cX9_setCurve 41 = .ok (.getfield 10, 3) := by decide +kernel
theorem dX9_setCurve_44 : decode cX9_setCurve 44 = .ok (.getfield 41, 3) := by decide +kernel
theorem dX9_setCurve_47 : decode cX9_setCurve 47 = .ok (.iload_n 1, 1) := by decide +kernel
theorem dX9_setCurve_48 : decode cX9_setCurve 48 = .ok (.putfield 45, 3) := by decide +kernel
theorem dX9_setCurve_51 : decode cX9_setCurve 51 = .ok (.aload_n 0, 1) := by decide +kernel
theorem dX9_setCurve_52 : decode cX9_setCurve 52 = .ok (.getfield 10, 3) := by decide +kernel
theorem dX9_setCurve_55 : decode cX9_setCurve 55 = .ok (.getfield 41, 3) := by decide +kernel
theorem dX9_setCurve_58 : decode cX9_setCurve 58 = .ok (.iload_n 2, 1) := by decide +kernel
theorem dX9_setCurve_59 : decode cX9_setCurve 59 = .ok (.putfield 51, 3) := by decide +kernel
theorem dX9_setCurve_62 : decode cX9_setCurve 62 = .ok (.aload_n 0, 1) := by decide +kernel
theorem dX9_setCurve_63 : decode cX9_setCurve 63 = .ok (.getfield 10, 3) := by decide +kernel
theorem dX9_setCurve_66 : decode cX9_setCurve 66 = .ok (.getfield 41, 3) := by decide +kernel
theorem dX9_setCurve_69 : decode cX9_setCurve 69 = .ok (.iload_n 3, 1) := by decide +kernel
theorem dX9_setCurve_70 : decode cX9_setCurve 70 = .ok (.putfield 54, 3) := by decide +kernel
theorem dX9_setCurve_73 : decode cX9_setCurve 73 = .ok (.return_, 1) := by decide +kernel
theorem dX9_setSkew_0 : decode cX9_setSkew 0 = .ok (.iload_n 1, 1) := by decide +kernel
theorem dX9_setSkew_1 : decode cX9_setSkew 1 = .ok (.iconst 0, 1) := by decide +kernel
theorem dX9_setSkew_2 : decode cX9_setSkew 2 = .ok (.bipush 40, 2) := by decide +kernel
theorem dX9_setSkew_4 : decode cX9_setSkew 4 = .ok (.invokestatic 30, 3) := by decide +kernel
theorem dX9_setSkew_7 : decode cX9_setSkew 7 = .ok (.ifCond .ne 13, 3) := by decide +kernel
theorem dX9_setSkew_10 : decode cX9_setSkew 10 = .ok (.new 34, 3) := by decide +kernel
theorem dX9_setSkew_13 : decode cX9_setSkew 13 = .ok (.dup, 1) := by decide +kernel
theorem dX9_setSkew_14 : decode cX9_setSkew 14 = .ok (.ldc 57, 2) := by decide +kernel
theorem dX9_setSkew_16 : decode cX9_setSkew 16 = .ok (.invokespecial 38, 3) := by decide +kernel
theorem dX9_setSkew_19 : decode cX9_setSkew 19 = .ok (.athrow, 1) := by decide +kernel
theorem dX9_setSkew_20 : decode cX9_setSkew 20 = .ok (.aload_n 0, 1) := by decide +kernel
theorem dX9_setSkew_21 : decode cX9_setSkew 21 = .ok (.getfield 10, 3) := by decide +kernel
theorem dX9_setSkew_24 : decode cX9_setSkew 24 = .ok (.getfield 41, 3) := by decide +kernel
theorem dX9_setSkew_27 : decode cX9_setSkew 27 = .ok (.getfield 59, 3) := by decide +kernel
theorem dX9_setSkew_30 : decode cX9_setSkew 30 = .ok (.istore_n 2, 1) := by decide +kernel
theorem dX9_setSkew_31 : decode cX9_setSkew 31 = .ok (.aload_n 0, 1) := by decide +kernel
theorem dX9_setSkew_32 : decode cX9_setSkew 32 = .ok (.getfield 10, 3) := by decide +kernel
theorem dX9_setSkew_35 : decode cX9_setSkew 35 = .ok (.getfield 41, 3) := by decide +kernel
theorem dX9_setSkew_38 : decode cX9_setSkew 38 = .ok (.iload_n 1, 1) := by decide +kernel
theorem dX9_setSkew_39 : decode cX9_setSkew 39 = .ok (.putfield 59, 3) := by decide +kernel
theorem dX9_setSkew_42 : decode cX9_setSkew 42 = .ok (.iload_n 2, 1) := by decide +kernel
theorem dX9_setSkew_43 : decode cX9_setSkew 43 = .ok (.ireturn, 1) := by decide +kernel
theorem dX9_setPolicy_0 : decode cX9_setPolicy 0 = .ok (.iload_n 1, 1) := by decide +kernel
theorem dX9_setPolicy_1 : decode cX9_setPolicy 1 = .ok (.iconst 0, 1) := by decide +kernel
theorem dX9_setPolicy_2 : decode cX9_setPolicy 2 = .ok (.bipush 6, 2) := by decide +kernel
theorem dX9_setPolicy_4 : decode cX9_setPolicy 4 = .ok (.invokestatic 30, 3) := by decide +kernel
theorem dX9_setPolicy_7 : decode cX9_setPolicy 7 = .ok (.ifCond .ne 13, 3) := by decide +kernel
theorem dX9_setPolicy_10 : decode cX9_setPolicy 10 = .ok (.new 34, 3) := by decide +kernel
theorem dX9_setPolicy_13 : decode cX9_setPolicy 13 = .ok (.dup, 1) := by decide +kernel
theorem dX9_setPolicy_14 : decode cX9_setPolicy 14 = .ok (.ldc 62, 2) := by decide +kernel
theorem dX9_setPolicy_16 : decode cX9_setPolicy 16 = .ok (.invokespecial 38, 3) := by decide +kernel
theorem dX9_setPolicy_19 : decode cX9_setPolicy 19 = .ok (.athrow, 1) := by decide +kernel
theorem dX9_setPolicy_20 : decode cX9_setPolicy 20 = .ok (.aload_n 0, 1) := by decide +kernel
theorem dX9_setPolicy_21 : decode cX9_setPolicy 21 = .ok (.getfield 10, 3) := by decide +kernel
theorem dX9_setPolicy_24 : decode cX9_setPolicy 24 = .ok (.getfield 64, 3) := by decide +kernel
theorem dX9_setPolicy_27 : decode cX9_setPolicy 27 = .ok (.getfield 68, 3) := by decide +kernel
theorem dX9_setPolicy_30 : decode cX9_setPolicy 30 = .ok (.istore_n 2, 1) := by decide +kernel
theorem dX9_setPolicy_31 : decode cX9_setPolicy 31 = .ok (.aload_n 0, 1) := by decide +kernel
theorem dX9_setPolicy_32 : decode cX9_setPolicy 32 = .ok (.getfield 10, 3) := by decide +kernel
theorem dX9_setPolicy_35 : decode cX9_setPolicy 35 = .ok (.getfield 64, 3) := by decide +kernel
theorem dX9_setPolicy_38 : decode cX9_setPolicy 38 = .ok (.iload_n 1, 1) := by decide +kernel
theorem dX9_setPolicy_39 : decode cX9_setPolicy 39 = .ok (.putfield 68, 3) := by decide +kernel
theorem dX9_setPolicy_42 : decode cX9_setPolicy 42 = .ok (.iload_n 2, 1) := by decide +kernel
theorem dX9_setPolicy_43 : decode cX9_setPolicy 43 = .ok (.ireturn, 1) := by decide +kernel
theorem dX9_setBuckets_0 : decode cX9_setBuckets 0 = .ok (.iload_n 1, 1) := by decide +kernel
theorem dX9_setBuckets_1 : decode cX9_setBuckets 1 = .ok (.iconst 1, 1) := by decide +kernel
theorem dX9_setBuckets_2 : decode cX9_setBuckets 2 = .ok (.sipush 999, 3) := by decide +kernel
theorem dX9_setBuckets_5 : decode cX9_setBuckets 5 = .ok (.invokestatic 30, 3) := by decide +kernel
theorem dX9_setBuckets_8 : decode cX9_setBuckets 8 = .ok (.ifCond .eq 14, 3) := by decide +kernel
theorem dX9_setBuckets_11 : decode cX9_setBuckets 11 = .ok (.iload_n 2, 1) := by decide +kernel
theorem dX9_setBuckets_12 : decode cX9_setBuckets 12 = .ok (.iconst 1, 1) := by decide +kernel
theorem dX9_setBuckets_13 : decode cX9_setBuckets 13 = .ok (.sipush 9999, 3) := by decide +kernel
theorem dX9_setBuckets_16 : decode cX9_setBuckets 16 = .ok (.invokestatic 30, 3) := by decide +kernel
theorem dX9_setBuckets_19 : decode cX9_setBuckets 19 = .ok (.ifCond .ne 13, 3) := by decide +kernel
theorem dX9_setBuckets_22 : decode cX9_setBuckets 22 = .ok (.new 34, 3) := by decide +kernel
theorem dX9_setBuckets_25 : decode cX9_setBuckets 25 = .ok (.dup, 1) := by decide +kernel
theorem dX9_setBuckets_26 : decode cX9_setBuckets 26 = .ok (.ldc 73, 2) := by decide +kernel
theorem dX9_setBuckets_28 : decode cX9_setBuckets 28 = .ok (.invokespecial 38, 3) := by decide +kernel
theorem dX9_setBuckets_31 : decode cX9_setBuckets 31 = .ok (.athrow, 1) := by decide +kernel
theorem dX9_setBuckets_32 : decode cX9_setBuckets 32 = .ok (.aload_n 0, 1) := by decide +kernel
theorem dX9_setBuckets_33 : decode cX9_setBuckets 33 = .ok (.getfield 10, 3) := by decide +kernel
theorem dX9_setBuckets_36 : decode cX9_setBuckets 36 = .ok (.getfield 64, 3) := by decide +kernel
theorem dX9_setBuckets_39 : decode cX9_setBuckets 39 = .ok (.iload_n 1, 1) := by decide +kernel
theorem dX9_setBuckets_40 : decode cX9_setBuckets 40 = .ok (.putfield 75, 3) := by decide +kernel
theorem dX9_setBuckets_43 : decode cX9_setBuckets 43 = .ok (.aload_n 0, 1) := by decide +kernel
theorem dX9_setBuckets_44 : decode cX9_setBuckets 44 = .ok (.getfield 10, 3) := by decide +kernel
theorem dX9_setBuckets_47 : decode cX9_setBuckets 47 = .ok (.getfield 64, 3) := by decide +kernel
theorem dX9_setBuckets_50 : decode cX9_setBuckets 50 = .ok (.iload_n 2, 1) := by decide +kernel
theorem dX9_setBuckets_51 : decode cX9_setBuckets 51 = .ok (.putfield 78, 3) := by decide +kernel
theorem dX9_setBuckets_54 : decode cX9_setBuckets 54 = .ok (.return_, 1) := by decide +kernel
theorem dX9_setWriteBack_0 : decode cX9_setWriteBack 0 = .ok (.iload_n 1, 1) := by decide +kernel
theorem dX9_setWriteBack_1 : decode cX9_setWriteBack 1 = .ok (.ifCond .ne 26, 3) := by decide +kernel
theorem dX9_setWriteBack_4 : decode cX9_setWriteBack 4 = .ok (.aload_n 0, 1) := by decide +kernel
theorem dX9_setWriteBack_5 : decode cX9_setWriteBack 5 = .ok (.getfield 10, 3) := by decide +kernel
theorem dX9_setWriteBack_8 : decode cX9_setWriteBack 8 = .ok (.getfield 81, 3) := by decide +kernel
theorem dX9_setWriteBack_11 : decode cX9_setWriteBack 11 = .ok (.getfield 85, 3) := by decide +kernel
theorem dX9_setWriteBack_14 : decode cX9_setWriteBack 14 = .ok (.ifCond .le 13, 3) := by decide +kernel
theorem dX9_setWriteBack_17 : decode cX9_setWriteBack 17 = .ok (.new 90, 3) := by decide +kernel
theorem dX9_setWriteBack_20 : decode cX9_setWriteBack 20 = .ok (.dup, 1) := by decide +kernel
theorem dX9_setWriteBack_21 : decode cX9_setWriteBack 21 = .ok (.ldc 92, 2) := by decide +kernel
theorem dX9_setWriteBack_23 : decode cX9_setWriteBack 23 = .ok (.invokespecial 94, 3) := by decide +kernel
theorem dX9_setWriteBack_26 : decode cX9_setWriteBack 26 = .ok (.athrow, 1) := by decide +kernel
theorem dX9_setWriteBack_27 : decode cX9_setWriteBack 27 = .ok (.aload_n 0, 1) := by decide +kernel
theorem dX9_setWriteBack_28 : decode cX9_setWriteBack 28 = .ok (.getfield 10, 3) := by decide +kernel
theorem dX9_setWriteBack_31 : decode cX9_setWriteBack 31 = .ok (.getfield 81, 3) := by decide +kernel
theorem dX9_setWriteBack_34 : decode cX9_setWriteBack 34 = .ok (.getfield 95, 3) := by decide +kernel
theorem dX9_setWriteBack_37 : decode cX9_setWriteBack 37 = .ok (.istore_n 2, 1) := by decide +kernel
theorem dX9_setWriteBack_38 : decode cX9_setWriteBack 38 = .ok (.aload_n 0, 1) := by decide +kernel
theorem dX9_setWriteBack_39 : decode cX9_setWriteBack 39 = .ok (.getfield 10, 3) := by decide +kernel
theorem dX9_setWriteBack_42 : decode cX9_setWriteBack 42 = .ok (.getfield 81, 3) := by decide +kernel
theorem dX9_setWriteBack_45 : decode cX9_setWriteBack 45 = .ok (.iload_n 1, 1) := by decide +kernel
theorem dX9_setWriteBack_46 : decode cX9_setWriteBack 46 = .ok (.putfield 95, 3) := by decide +kernel
theorem dX9_setWriteBack_49 : decode cX9_setWriteBack 49 = .ok (.iload_n 2, 1) := by decide +kernel
theorem dX9_setWriteBack_50 : decode cX9_setWriteBack 50 = .ok (.ireturn, 1) := by decide +kernel
theorem dX9_seekTime_0 : decode cX9_seekTime 0 = .ok (.iload_n 1, 1) := by decide +kernel
theorem dX9_seekTime_1 : decode cX9_seekTime 1 = .ok (.iconst 0, 1) := by decide +kernel
theorem dX9_seekTime_2 : decode cX9_seekTime 2 = .ok (.bipush 63, 2) := by decide +kernel
theorem dX9_seekTime_4 : decode cX9_seekTime 4 = .ok (.invokestatic 30, 3) := by decide +kernel
theorem dX9_seekTime_7 : decode cX9_seekTime 7 = .ok (.ifCond .eq 13, 3) := by decide +kernel
theorem dX9_seekTime_10 : decode cX9_seekTime 10 = .ok (.iload_n 2, 1) := by decide +kernel
theorem dX9_seekTime_11 : decode cX9_seekTime 11 = .ok (.iconst 0, 1) := by decide +kernel
theorem dX9_seekTime_12 : decode cX9_seekTime 12 = .ok (.bipush 63, 2) := by decide +kernel
theorem dX9_seekTime_14 : decode cX9_seekTime 14 = .ok (.invokestatic 30, 3) := by decide +kernel
theorem dX9_seekTime_17 : decode cX9_seekTime 17 = .ok (.ifCond .ne 13, 3) := by decide +kernel
theorem dX9_seekTime_20 : decode cX9_seekTime 20 = .ok (.new 99, 3) := by decide +kernel
theorem dX9_seekTime_23 : decode cX9_seekTime 23 = .ok (.dup, 1) := by decide +kernel
theorem dX9_seekTime_24 : decode cX9_seekTime 24 = .ok (.ldc 101, 2) := by decide +kernel
theorem dX9_seekTime_26 : decode cX9_seekTime 26 = .ok (.invokespecial 103, 3) := by decide +kernel
theorem dX9_seekTime_29 : decode cX9_seekTime 29 = .ok (.athrow, 1) := by decide +kernel
theorem dX9_seekTime_30 : decode cX9_seekTime 30 = .ok (.aload_n 0, 1) := by decide +kernel
theorem dX9_seekTime_31 : decode cX9_seekTime 31 = .ok (.getfield 10, 3) := by decide +kernel
theorem dX9_seekTime_34 : decode cX9_seekTime 34 = .ok (.getfield 41, 3) := by decide +kernel
theorem dX9_seekTime_37 : decode cX9_seekTime 37 = .ok (.iload_n 1, 1) := by decide +kernel
theorem dX9_seekTime_38 : decode cX9_seekTime 38 = .ok (.iload_n 2, 1) := by decide +kernel
theorem dX9_seekTime_39 : decode cX9_seekTime 39 = .ok (.invokevirtual 104, 3) := by decide +kernel
theorem dX9_seekTime_42 : decode cX9_seekTime 42 = .ok (.ireturn, 1) := by decide +kernel
theorem dX9_placeOf_0 : decode cX9_placeOf 0 = .ok (.iload_n 1, 1) := by decide +kernel
theorem dX9_placeOf_1 : decode cX9_placeOf 1 = .ok (.invokestatic 108, 3) := by decide +kernel
theorem dX9_placeOf_4 : decode cX9_placeOf 4 = .ok (.aload_n 0, 1) := by decide +kernel
theorem dX9_placeOf_5 : decode cX9_placeOf 5 = .ok (.getfield 10, 3) := by decide +kernel
theorem dX9_placeOf_8 : decode cX9_placeOf 8 = .ok (.getfield 41, 3) := by decide +kernel
theorem dX9_placeOf_11 : decode cX9_placeOf 11 = .ok (.iload_n 1, 1) := by decide +kernel
theorem dX9_placeOf_12 : decode cX9_placeOf 12 = .ok (.invokevirtual 112, 3) := by decide +kernel
theorem dX9_placeOf_15 : decode cX9_placeOf 15 = .ok (.ireturn, 1) := by decide +kernel
theorem dX9_cylinderOf_0 : decode cX9_cylinderOf 0 = .ok (.iload_n 1, 1) := by decide +kernel
theorem dX9_cylinderOf_1 : decode cX9_cylinderOf 1 = .ok (.invokestatic 108, 3) := by decide +kernel
theorem dX9_cylinderOf_4 : decode cX9_cylinderOf 4 = .ok (.aload_n 0, 1) := by decide +kernel
theorem dX9_cylinderOf_5 : decode cX9_cylinderOf 5 = .ok (.getfield 10, 3) := by decide +kernel
theorem dX9_cylinderOf_8 : decode cX9_cylinderOf 8 = .ok (.getfield 41, 3) := by decide +kernel
theorem dX9_cylinderOf_11 : decode cX9_cylinderOf 11 = .ok (.iload_n 1, 1) := by decide +kernel
theorem dX9_cylinderOf_12 : decode cX9_cylinderOf 12 = .ok (.invokevirtual 112, 3) := by decide +kernel
theorem dX9_cylinderOf_15 : decode cX9_cylinderOf 15 = .ok (.invokestatic 116, 3) := by decide +kernel
theorem dX9_cylinderOf_18 : decode cX9_cylinderOf 18 = .ok (.ireturn, 1) := by decide +kernel
theorem dX9_sectorOf_0 : decode cX9_sectorOf 0 = .ok (.iload_n 1, 1) := by decide +kernel
theorem dX9_sectorOf_1 : decode cX9_sectorOf 1 = .ok (.invokestatic 108, 3) := by decide +kernel
theorem dX9_sectorOf_4 : decode cX9_sectorOf 4 = .ok (.aload_n 0, 1) := by decide +kernel
theorem dX9_sectorOf_5 : decode cX9_sectorOf 5 = .ok (.getfield 10, 3) := by decide +kernel
theorem dX9_sectorOf_8 : decode cX9_sectorOf 8 = .ok (.getfield 41, 3) := by decide +kernel
theorem dX9_sectorOf_11 : decode cX9_sectorOf 11 = .ok (.iload_n 1, 1) := by decide +kernel
theorem dX9_sectorOf_12 : decode cX9_sectorOf 12 = .ok (.invokevirtual 112, 3) := by decide +kernel
theorem dX9_sectorOf_15 : decode cX9_sectorOf 15 = .ok (.invokestatic 121, 3) := by decide +kernel
theorem dX9_sectorOf_18 : decode cX9_sectorOf 18 = .ok (.ireturn, 1) := by decide +kernel
theorem dX9_startAngle_0 : decode cX9_startAngle 0 = .ok (.iload_n 1, 1) := by decide +kernel
theorem dX9_startAngle_1 : decode cX9_startAngle 1 = .ok (.invokestatic 108, 3) := by decide +kernel
theorem dX9_startAngle_4 : decode cX9_startAngle 4 = .ok (.aload_n 0, 1) := by decide +kernel
theorem dX9_startAngle_5 : decode cX9_startAngle 5 = .ok (.getfield 10, 3) := by decide +kernel
theorem dX9_startAngle_8 : decode cX9_startAngle 8 = .ok (.getfield 41, 3) := by decide +kernel
theorem dX9_startAngle_11 : decode cX9_startAngle 11 = .ok (.aload_n 0, 1) := by decide +kernel
theorem dX9_startAngle_12 : decode cX9_startAngle 12 = .ok (.getfield 10, 3) := by decide +kernel
theorem dX9_startAngle_15 : decode cX9_startAngle 15 = .ok (.getfield 41, 3) := by decide +kernel
theorem dX9_startAngle_18 : decode cX9_startAngle 18 = .ok (.iload_n 1, 1) := by decide +kernel
theorem dX9_startAngle_19 : decode cX9_startAngle 19 = .ok (.invokevirtual 112, 3) := by decide +kernel
theorem dX9_startAngle_22 : decode cX9_startAngle 22 = .ok (.invokevirtual 124, 3) := by decide +kernel
theorem dX9_startAngle_25 : decode cX9_startAngle 25 = .ok (.ireturn, 1) := by decide +kernel
theorem dX9_accessTime_0 : decode cX9_accessTime 0 = .ok (.iload_n 1, 1) := by decide +kernel
theorem dX9_accessTime_1 : decode cX9_accessTime 1 = .ok (.invokestatic 108, 3) := by decide +kernel
theorem dX9_accessTime_4 : decode cX9_accessTime 4 = .ok (.aload_n 0, 1) := by decide +kernel
theorem dX9_accessTime_5 : decode cX9_accessTime 5 = .ok (.getfield 10, 3) := by decide +kernel
theorem dX9_accessTime_8 : decode cX9_accessTime 8 = .ok (.getfield 41, 3) := by decide +kernel
theorem dX9_accessTime_11 : decode cX9_accessTime 11 = .ok (.aload_n 0, 1) := by decide +kernel
theorem dX9_accessTime_12 : decode cX9_accessTime 12 = .ok (.getfield 10, 3) := by decide +kernel
theorem dX9_accessTime_15 : decode cX9_accessTime 15 = .ok (.getfield 41, 3) := by decide +kernel
theorem dX9_accessTime_18 : decode cX9_accessTime 18 = .ok (.iload_n 1, 1) := by decide +kernel
theorem dX9_accessTime_19 : decode cX9_accessTime 19 = .ok (.invokevirtual 112, 3) := by decide +kernel
theorem dX9_accessTime_22 : decode cX9_accessTime 22 = .ok (.invokevirtual 127, 3) := by decide +kernel
theorem dX9_accessTime_25 : decode cX9_accessTime 25 = .ok (.ireturn, 1) := by decide +kernel
theorem dX9_moveToSpare_0 : decode cX9_moveToSpare 0 = .ok (.iload_n 1, 1) := by decide +kernel
theorem dX9_moveToSpare_1 : decode cX9_moveToSpare 1 = .ok (.invokestatic 108, 3) := by decide +kernel
theorem dX9_moveToSpare_4 : decode cX9_moveToSpare 4 = .ok (.aload_n 0, 1) := by decide +kernel
theorem dX9_moveToSpare_5 : decode cX9_moveToSpare 5 = .ok (.getfield 10, 3) := by decide +kernel
theorem dX9_moveToSpare_8 : decode cX9_moveToSpare 8 = .ok (.getfield 41, 3) := by decide +kernel
theorem dX9_moveToSpare_11 : decode cX9_moveToSpare 11 = .ok (.iload_n 1, 1) := by decide +kernel
theorem dX9_moveToSpare_12 : decode cX9_moveToSpare 12 = .ok (.invokevirtual 130, 3) := by decide +kernel
theorem dX9_moveToSpare_15 : decode cX9_moveToSpare 15 = .ok (.iconst (-1), 1) := by decide +kernel
theorem dX9_moveToSpare_16 : decode cX9_moveToSpare 16 = .ok (.if_icmp .eq 13, 3) := by decide +kernel
theorem dX9_moveToSpare_19 : decode cX9_moveToSpare 19 = .ok (.new 90, 3) := by decide +kernel
theorem dX9_moveToSpare_22 : decode cX9_moveToSpare 22 = .ok (.dup, 1) := by decide +kernel
theorem dX9_moveToSpare_23 : decode cX9_moveToSpare 23 = .ok (.ldc 133, 2) := by decide +kernel
theorem dX9_moveToSpare_25 : decode cX9_moveToSpare 25 = .ok (.invokespecial 94, 3) := by decide +kernel
theorem dX9_moveToSpare_28 : decode cX9_moveToSpare 28 = .ok (.athrow, 1) := by decide +kernel
theorem dX9_moveToSpare_29 : decode cX9_moveToSpare 29 = .ok (.aload_n 0, 1) := by decide +kernel
theorem dX9_moveToSpare_30 : decode cX9_moveToSpare 30 = .ok (.getfield 10, 3) := by decide +kernel
theorem dX9_moveToSpare_33 : decode cX9_moveToSpare 33 = .ok (.getfield 41, 3) := by decide +kernel
theorem dX9_moveToSpare_36 : decode cX9_moveToSpare 36 = .ok (.iload_n 1, 1) := by decide +kernel
theorem dX9_moveToSpare_37 : decode cX9_moveToSpare 37 = .ok (.invokevirtual 135, 3) := by decide +kernel
theorem dX9_moveToSpare_40 : decode cX9_moveToSpare 40 = .ok (.istore_n 2, 1) := by decide +kernel
theorem dX9_moveToSpare_41 : decode cX9_moveToSpare 41 = .ok (.iload_n 2, 1) := by decide +kernel
theorem dX9_moveToSpare_42 : decode cX9_moveToSpare 42 = .ok (.iconst (-1), 1) := by decide +kernel
theorem dX9_moveToSpare_43 : decode cX9_moveToSpare 43 = .ok (.if_icmp .ne 13, 3) := by decide +kernel
theorem dX9_moveToSpare_46 : decode cX9_moveToSpare 46 = .ok (.new 138, 3) := by decide +kernel
theorem dX9_moveToSpare_49 : decode cX9_moveToSpare 49 = .ok (.dup, 1) := by decide +kernel
theorem dX9_moveToSpare_50 : decode cX9_moveToSpare 50 = .ok (.ldc 140, 2) := by decide +kernel
theorem dX9_moveToSpare_52 : decode cX9_moveToSpare 52 = .ok (.invokespecial 142, 3) := by decide +kernel
theorem dX9_moveToSpare_55 : decode cX9_moveToSpare 55 = .ok (.athrow, 1) := by decide +kernel
theorem dX9_moveToSpare_56 : decode cX9_moveToSpare 56 = .ok (.iload_n 2, 1) := by decide +kernel
theorem dX9_moveToSpare_57 : decode cX9_moveToSpare 57 = .ok (.ireturn, 1) := by decide +kernel
theorem dX9_accessesOf_0 : decode cX9_accessesOf 0 = .ok (.iload_n 1, 1) := by decide +kernel
theorem dX9_accessesOf_1 : decode cX9_accessesOf 1 = .ok (.invokestatic 108, 3) := by decide +kernel
theorem dX9_accessesOf_4 : decode cX9_accessesOf 4 = .ok (.aload_n 0, 1) := by decide +kernel
theorem dX9_accessesOf_5 : decode cX9_accessesOf 5 = .ok (.getfield 10, 3) := by decide +kernel
theorem dX9_accessesOf_8 : decode cX9_accessesOf 8 = .ok (.getfield 41, 3) := by decide +kernel
theorem dX9_accessesOf_11 : decode cX9_accessesOf 11 = .ok (.aload_n 0, 1) := by decide +kernel
theorem dX9_accessesOf_12 : decode cX9_accessesOf 12 = .ok (.getfield 10, 3) := by decide +kernel
theorem dX9_accessesOf_15 : decode cX9_accessesOf 15 = .ok (.getfield 41, 3) := by decide +kernel
theorem dX9_accessesOf_18 : decode cX9_accessesOf 18 = .ok (.iload_n 1, 1) := by decide +kernel
theorem dX9_accessesOf_19 : decode cX9_accessesOf 19 = .ok (.invokevirtual 112, 3) := by decide +kernel
theorem dX9_accessesOf_22 : decode cX9_accessesOf 22 = .ok (.invokevirtual 143, 3) := by decide +kernel
theorem dX9_accessesOf_25 : decode cX9_accessesOf 25 = .ok (.ireturn, 1) := by decide +kernel
theorem dX9_clock_0 : decode cX9_clock 0 = .ok (.aload_n 0, 1) := by decide +kernel
theorem dX9_clock_1 : decode cX9_clock 1 = .ok (.getfield 10, 3) := by decide +kernel
theorem dX9_clock_4 : decode cX9_clock 4 = .ok (.getfield 41, 3) := by decide +kernel
theorem dX9_clock_7 : decode cX9_clock 7 = .ok (.getfield 146, 3) := by decide +kernel
theorem dX9_clock_10 : decode cX9_clock 10 = .ok (.ireturn, 1) := by decide +kernel
theorem dX9_arm_0 : decode cX9_arm 0 = .ok (.aload_n 0, 1) := by decide +kernel
theorem dX9_arm_1 : decode cX9_arm 1 = .ok (.getfield 10, 3) := by decide +kernel
theorem dX9_arm_4 : decode cX9_arm 4 = .ok (.getfield 41, 3) := by decide +kernel
theorem dX9_arm_7 : decode cX9_arm 7 = .ok (.getfield 149, 3) := by decide +kernel
theorem dX9_arm_10 : decode cX9_arm 10 = .ok (.ireturn, 1) := by decide +kernel
theorem dX9_isUpward_0 : decode cX9_isUpward 0 = .ok (.aload_n 0, 1) := by decide +kernel
theorem dX9_isUpward_1 : decode cX9_isUpward 1 = .ok (.getfield 10, 3) := by decide +kernel
theorem dX9_isUpward_4 : decode cX9_isUpward 4 = .ok (.getfield 64, 3) := by decide +kernel
theorem dX9_isUpward_7 : decode cX9_isUpward 7 = .ok (.getfield 152, 3) := by decide +kernel
theorem dX9_isUpward_10 : decode cX9_isUpward 10 = .ok (.ireturn, 1) := by decide +kernel
theorem dX9_idle_0 : decode cX9_idle 0 = .ok (.iload_n 1, 1) := by decide +kernel
theorem dX9_idle_1 : decode cX9_idle 1 = .ok (.iconst 1, 1) := by decide +kernel
theorem dX9_idle_2 : decode cX9_idle 2 = .ok (.sipush 1000, 3) := by decide +kernel
theorem dX9_idle_5 : decode cX9_idle 5 = .ok (.invokestatic 30, 3) := by decide +kernel
theorem dX9_idle_8 : decode cX9_idle 8 = .ok (.ifCond .ne 13, 3) := by decide +kernel
theorem dX9_idle_11 : decode cX9_idle 11 = .ok (.new 34, 3) := by decide +kernel
theorem dX9_idle_14 : decode cX9_idle 14 = .ok (.dup, 1) := by decide +kernel
theorem dX9_idle_15 : decode cX9_idle 15 = .ok (.ldc 155, 2) := by decide +kernel
theorem dX9_idle_17 : decode cX9_idle 17 = .ok (.invokespecial 38, 3) := by decide +kernel
theorem dX9_idle_20 : decode cX9_idle 20 = .ok (.athrow, 1) := by decide +kernel
theorem dX9_idle_21 : decode cX9_idle 21 = .ok (.aload_n 0, 1) := by decide +kernel
theorem dX9_idle_22 : decode cX9_idle 22 = .ok (.getfield 10, 3) := by decide +kernel
theorem dX9_idle_25 : decode cX9_idle 25 = .ok (.getfield 41, 3) := by decide +kernel
theorem dX9_idle_28 : decode cX9_idle 28 = .ok (.getfield 146, 3) := by decide +kernel
theorem dX9_idle_31 : decode cX9_idle 31 = .ok (.ldc 157, 2) := by decide +kernel
theorem dX9_idle_33 : decode cX9_idle 33 = .ok (.iload_n 1, 1) := by decide +kernel
theorem dX9_idle_34 : decode cX9_idle 34 = .ok (.isub, 1) := by decide +kernel
theorem dX9_idle_35 : decode cX9_idle 35 = .ok (.if_icmp .le 13, 3) := by decide +kernel
theorem dX9_idle_38 : decode cX9_idle 38 = .ok (.new 90, 3) := by decide +kernel
theorem dX9_idle_41 : decode cX9_idle 41 = .ok (.dup, 1) := by decide +kernel
theorem dX9_idle_42 : decode cX9_idle 42 = .ok (.ldc 158, 2) := by decide +kernel
theorem dX9_idle_44 : decode cX9_idle 44 = .ok (.invokespecial 94, 3) := by decide +kernel
theorem dX9_idle_47 : decode cX9_idle 47 = .ok (.athrow, 1) := by decide +kernel
theorem dX9_idle_48 : decode cX9_idle 48 = .ok (.aload_n 0, 1) := by decide +kernel
theorem dX9_idle_49 : decode cX9_idle 49 = .ok (.getfield 10, 3) := by decide +kernel
theorem dX9_idle_52 : decode cX9_idle 52 = .ok (.getfield 41, 3) := by decide +kernel
theorem dX9_idle_55 : decode cX9_idle 55 = .ok (.dup, 1) := by decide +kernel
theorem dX9_idle_56 : decode cX9_idle 56 = .ok (.getfield 146, 3) := by decide +kernel
theorem dX9_idle_59 : decode cX9_idle 59 = .ok (.iload_n 1, 1) := by decide +kernel
theorem dX9_idle_60 : decode cX9_idle 60 = .ok (.iadd, 1) := by decide +kernel
theorem dX9_idle_61 : decode cX9_idle 61 = .ok (.putfield 146, 3) := by decide +kernel
theorem dX9_idle_64 : decode cX9_idle 64 = .ok (.aload_n 0, 1) := by decide +kernel
theorem dX9_idle_65 : decode cX9_idle 65 = .ok (.getfield 10, 3) := by decide +kernel
theorem dX9_idle_68 : decode cX9_idle 68 = .ok (.getfield 41, 3) := by decide +kernel
theorem dX9_idle_71 : decode cX9_idle 71 = .ok (.getfield 146, 3) := by decide +kernel
theorem dX9_idle_74 : decode cX9_idle 74 = .ok (.ireturn, 1) := by decide +kernel
theorem dX9_submit_0 : decode cX9_submit 0 = .ok (.iload_n 1, 1) := by decide +kernel
theorem dX9_submit_1 : decode cX9_submit 1 = .ok (.iconst 0, 1) := by decide +kernel
theorem dX9_submit_2 : decode cX9_submit 2 = .ok (.iconst 1, 1) := by decide +kernel
theorem dX9_submit_3 : decode cX9_submit 3 = .ok (.invokestatic 30, 3) := by decide +kernel
theorem dX9_submit_6 : decode cX9_submit 6 = .ok (.ifCond .eq 14, 3) := by decide +kernel
theorem dX9_submit_9 : decode cX9_submit 9 = .ok (.iload_n 3, 1) := by decide +kernel
theorem dX9_submit_10 : decode cX9_submit 10 = .ok (.iconst 0, 1) := by decide +kernel
theorem dX9_submit_11 : decode cX9_submit 11 = .ok (.sipush 9999, 3) := by decide +kernel
theorem dX9_submit_14 : decode cX9_submit 14 = .ok (.invokestatic 30, 3) := by decide +kernel
theorem dX9_submit_17 : decode cX9_submit 17 = .ok (.ifCond .ne 13, 3) := by decide +kernel
theorem dX9_submit_20 : decode cX9_submit 20 = .ok (.new 34, 3) := by decide +kernel
theorem dX9_submit_23 : decode cX9_submit 23 = .ok (.dup, 1) := by decide +kernel
theorem dX9_submit_24 : decode cX9_submit 24 = .ok (.ldc 160, 2) := by decide +kernel
theorem dX9_submit_26 : decode cX9_submit 26 = .ok (.invokespecial 38, 3) := by decide +kernel
theorem dX9_submit_29 : decode cX9_submit 29 = .ok (.athrow, 1) := by decide +kernel
theorem dX9_submit_30 : decode cX9_submit 30 = .ok (.iload_n 2, 1) := by decide +kernel
theorem dX9_submit_31 : decode cX9_submit 31 = .ok (.invokestatic 108, 3) := by decide +kernel
theorem dX9_submit_34 : decode cX9_submit 34 = .ok (.aload_n 0, 1) := by decide +kernel
theorem dX9_submit_35 : decode cX9_submit 35 = .ok (.getfield 10, 3) := by decide +kernel
theorem dX9_submit_38 : decode cX9_submit 38 = .ok (.iload_n 1, 1) := by decide +kernel
theorem dX9_submit_39 : decode cX9_submit 39 = .ok (.iload_n 2, 1) := by decide +kernel
theorem dX9_submit_40 : decode cX9_submit 40 = .ok (.invokevirtual 162, 3) := by decide +kernel
theorem dX9_submit_43 : decode cX9_submit 43 = .ok (.ifCond .ne 13, 3) := by decide +kernel
theorem dX9_submit_46 : decode cX9_submit 46 = .ok (.new 90, 3) := by decide +kernel
theorem dX9_submit_49 : decode cX9_submit 49 = .ok (.dup, 1) := by decide +kernel
theorem dX9_submit_50 : decode cX9_submit 50 = .ok (.ldc 166, 2) := by decide +kernel
theorem dX9_submit_52 : decode cX9_submit 52 = .ok (.invokespecial 94, 3) := by decide +kernel
theorem dX9_submit_55 : decode cX9_submit 55 = .ok (.athrow, 1) := by decide +kernel
theorem dX9_submit_56 : decode cX9_submit 56 = .ok (.aload_n 0, 1) := by decide +kernel
theorem dX9_submit_57 : decode cX9_submit 57 = .ok (.getfield 10, 3) := by decide +kernel
theorem dX9_submit_60 : decode cX9_submit 60 = .ok (.iload_n 1, 1) := by decide +kernel
theorem dX9_submit_61 : decode cX9_submit 61 = .ok (.iload_n 2, 1) := by decide +kernel
theorem dX9_submit_62 : decode cX9_submit 62 = .ok (.iload_n 3, 1) := by decide +kernel
theorem dX9_submit_63 : decode cX9_submit 63 = .ok (.invokevirtual 168, 3) := by decide +kernel
theorem dX9_submit_66 : decode cX9_submit 66 = .ok (.ireturn, 1) := by decide +kernel
theorem dX9_appendCharacter_0 : decode cX9_appendCharacter 0 = .ok (.iload_n 1, 1) := by decide +kernel
theorem dX9_appendCharacter_1 : decode cX9_appendCharacter 1 = .ok (.bipush 33, 2) := by decide +kernel
theorem dX9_appendCharacter_3 : decode cX9_appendCharacter 3 = .ok (.bipush 126, 2) := by decide +kernel
theorem dX9_appendCharacter_5 : decode cX9_appendCharacter 5 = .ok (.invokestatic 30, 3) := by decide +kernel
theorem dX9_appendCharacter_8 : decode cX9_appendCharacter 8 = .ok (.ifCond .ne 13, 3) := by decide +kernel
theorem dX9_appendCharacter_11 : decode cX9_appendCharacter 11 = .ok (.new 34, 3) := by decide +kernel
theorem dX9_appendCharacter_14 : decode cX9_appendCharacter 14 = .ok (.dup, 1) := by decide +kernel
theorem dX9_appendCharacter_15 : decode cX9_appendCharacter 15 = .ok (.ldc 172, 2) := by decide +kernel
theorem dX9_appendCharacter_17 : decode cX9_appendCharacter 17 = .ok (.invokespecial 38, 3) := by decide +kernel
theorem dX9_appendCharacter_20 : decode cX9_appendCharacter 20 = .ok (.athrow, 1) := by decide +kernel
theorem dX9_appendCharacter_21 : decode cX9_appendCharacter 21 = .ok (.aload_n 0, 1) := by decide +kernel
theorem dX9_appendCharacter_22 : decode cX9_appendCharacter 22 = .ok (.getfield 26, 3) := by decide +kernel
theorem dX9_appendCharacter_25 : decode cX9_appendCharacter 25 = .ok (.iload_n 1, 1) := by decide +kernel
theorem dX9_appendCharacter_26 : decode cX9_appendCharacter 26 = .ok (.invokevirtual 174, 3) := by decide +kernel
theorem dX9_appendCharacter_29 : decode cX9_appendCharacter 29 = .ok (.ifCond .ne 13, 3) := by decide +kernel
theorem dX9_appendCharacter_32 : decode cX9_appendCharacter 32 = .ok (.new 90, 3) := by decide +kernel
theorem dX9_appendCharacter_35 : decode cX9_appendCharacter 35 = .ok (.dup, 1) := by decide +kernel
theorem dX9_appendCharacter_36 : decode cX9_appendCharacter 36 = .ok (.ldc 178, 2) := by decide +kernel
theorem dX9_appendCharacter_38 : decode cX9_appendCharacter 38 = .ok (.invokespecial 94, 3) := by decide +kernel
theorem dX9_appendCharacter_41 : decode cX9_appendCharacter 41 = .ok (.athrow, 1) := by decide +kernel
theorem dX9_appendCharacter_42 : decode cX9_appendCharacter 42 = .ok (.aload_n 0, 1) := by decide +kernel
theorem dX9_appendCharacter_43 : decode cX9_appendCharacter 43 = .ok (.getfield 26, 3) := by decide +kernel
theorem dX9_appendCharacter_46 : decode cX9_appendCharacter 46 = .ok (.getfield 180, 3) := by decide +kernel
theorem dX9_appendCharacter_49 : decode cX9_appendCharacter 49 = .ok (.ireturn, 1) := by decide +kernel
theorem dX9_submitText_0 : decode cX9_submitText 0 = .ok (.aload_n 0, 1) := by decide +kernel
theorem dX9_submitText_1 : decode cX9_submitText 1 = .ok (.getfield 26, 3) := by decide +kernel
theorem dX9_submitText_4 : decode cX9_submitText 4 = .ok (.invokevirtual 183, 3) := by decide +kernel
theorem dX9_submitText_7 : decode cX9_submitText 7 = .ok (.ifCond .ne 13, 3) := by decide +kernel
theorem dX9_submitText_10 : decode cX9_submitText 10 = .ok (.new 34, 3) := by decide +kernel
theorem dX9_submitText_13 : decode cX9_submitText 13 = .ok (.dup, 1) := by decide +kernel
theorem dX9_submitText_14 : decode cX9_submitText 14 = .ok (.ldc 187, 2) := by decide +kernel
theorem dX9_submitText_16 : decode cX9_submitText 16 = .ok (.invokespecial 38, 3) := by decide +kernel
theorem dX9_submitText_19 : decode cX9_submitText 19 = .ok (.athrow, 1) := by decide +kernel
theorem dX9_submitText_20 : decode cX9_submitText 20 = .ok (.iconst 0, 1) := by decide +kernel
theorem dX9_submitText_21 : decode cX9_submitText 21 = .ok (.istore_n 1, 1) := by decide +kernel
theorem dX9_submitText_22 : decode cX9_submitText 22 = .ok (.iconst 0, 1) := by decide +kernel
theorem dX9_submitText_23 : decode cX9_submitText 23 = .ok (.istore_n 2, 1) := by decide +kernel
theorem dX9_submitText_24 : decode cX9_submitText 24 = .ok (.iload_n 2, 1) := by decide +kernel
theorem dX9_submitText_25 : decode cX9_submitText 25 = .ok (.aload_n 0, 1) := by decide +kernel
theorem dX9_submitText_26 : decode cX9_submitText 26 = .ok (.getfield 26, 3) := by decide +kernel
theorem dX9_submitText_29 : decode cX9_submitText 29 = .ok (.getfield 189, 3) := by decide +kernel
theorem dX9_submitText_32 : decode cX9_submitText 32 = .ok (.if_icmp .ge 96, 3) := by decide +kernel
theorem dX9_submitText_35 : decode cX9_submitText 35 = .ok (.iload_n 2, 1) := by decide +kernel
theorem dX9_submitText_36 : decode cX9_submitText 36 = .ok (.bipush 14, 2) := by decide +kernel
theorem dX9_submitText_38 : decode cX9_submitText 38 = .ok (.if_icmp .ge 90, 3) := by decide +kernel
theorem dX9_submitText_41 : decode cX9_submitText 41 = .ok (.aload_n 0, 1) := by decide +kernel
theorem dX9_submitText_42 : decode cX9_submitText 42 = .ok (.getfield 26, 3) := by decide +kernel
theorem dX9_submitText_45 : decode cX9_submitText 45 = .ok (.getfield 192, 3) := by decide +kernel
theorem dX9_submitText_48 : decode cX9_submitText 48 = .ok (.iload_n 2, 1) := by decide +kernel
theorem dX9_submitText_49 : decode cX9_submitText 49 = .ok (.iaload, 1) := by decide +kernel
theorem dX9_submitText_50 : decode cX9_submitText 50 = .ok (.invokestatic 196, 3) := by decide +kernel
theorem dX9_submitText_53 : decode cX9_submitText 53 = .ok (.ifCond .eq 69, 3) := by decide +kernel
theorem dX9_submitText_56 : decode cX9_submitText 56 = .ok (.aload_n 0, 1) := by decide +kernel
theorem dX9_submitText_57 : decode cX9_submitText 57 = .ok (.getfield 10, 3) := by decide +kernel
theorem dX9_submitText_60 : decode cX9_submitText 60 = .ok (.aload_n 0, 1) := by decide +kernel
theorem dX9_submitText_61 : decode cX9_submitText 61 = .ok (.getfield 26, 3) := by decide +kernel
theorem dX9_submitText_64 : decode cX9_submitText 64 = .ok (.getfield 199, 3) := by decide +kernel
theorem dX9_submitText_67 : decode cX9_submitText 67 = .ok (.iload_n 2, 1) := by decide +kernel
theorem dX9_submitText_68 : decode cX9_submitText 68 = .ok (.iaload, 1) := by decide +kernel
theorem dX9_submitText_69 : decode cX9_submitText 69 = .ok (.aload_n 0, 1) := by decide +kernel
theorem dX9_submitText_70 : decode cX9_submitText 70 = .ok (.getfield 26, 3) := by decide +kernel
theorem dX9_submitText_73 : decode cX9_submitText 73 = .ok (.getfield 192, 3) := by decide +kernel
theorem dX9_submitText_76 : decode cX9_submitText 76 = .ok (.iload_n 2, 1) := by decide +kernel
theorem dX9_submitText_77 : decode cX9_submitText 77 = .ok (.iaload, 1) := by decide +kernel
theorem dX9_submitText_78 : decode cX9_submitText 78 = .ok (.invokevirtual 162, 3) := by decide +kernel
theorem dX9_submitText_81 : decode cX9_submitText 81 = .ok (.ifCond .eq 41, 3) := by decide +kernel
theorem dX9_submitText_84 : decode cX9_submitText 84 = .ok (.aload_n 0, 1) := by decide +kernel
theorem dX9_submitText_85 : decode cX9_submitText 85 = .ok (.getfield 10, 3) := by decide +kernel
theorem dX9_submitText_88 : decode cX9_submitText 88 = .ok (.aload_n 0, 1) := by decide +kernel
theorem dX9_submitText_89 : decode cX9_submitText 89 = .ok (.getfield 26, 3) := by decide +kernel
theorem dX9_submitText_92 : decode cX9_submitText 92 = .ok (.getfield 199, 3) := by decide +kernel
theorem dX9_submitText_95 : decode cX9_submitText 95 = .ok (.iload_n 2, 1) := by decide +kernel
theorem dX9_submitText_96 : decode cX9_submitText 96 = .ok (.iaload, 1) := by decide +kernel
theorem dX9_submitText_97 : decode cX9_submitText 97 = .ok (.aload_n 0, 1) := by decide +kernel
theorem dX9_submitText_98 : decode cX9_submitText 98 = .ok (.getfield 26, 3) := by decide +kernel
theorem dX9_submitText_101 : decode cX9_submitText 101 = .ok (.getfield 192, 3) := by decide +kernel
theorem dX9_submitText_104 : decode cX9_submitText 104 = .ok (.iload_n 2, 1) := by decide +kernel
theorem dX9_submitText_105 : decode cX9_submitText 105 = .ok (.iaload, 1) := by decide +kernel
theorem dX9_submitText_106 : decode cX9_submitText 106 = .ok (.aload_n 0, 1) := by decide +kernel
theorem dX9_submitText_107 : decode cX9_submitText 107 = .ok (.getfield 26, 3) := by decide +kernel
theorem dX9_submitText_110 : decode cX9_submitText 110 = .ok (.getfield 202, 3) := by decide +kernel
theorem dX9_submitText_113 : decode cX9_submitText 113 = .ok (.iload_n 2, 1) := by decide +kernel
theorem dX9_submitText_114 : decode cX9_submitText 114 = .ok (.iaload, 1) := by decide +kernel
theorem dX9_submitText_115 : decode cX9_submitText 115 = .ok (.invokevirtual 168, 3) := by decide +kernel
theorem dX9_submitText_118 : decode cX9_submitText 118 = .ok (.pop, 1) := by decide +kernel
theorem dX9_submitText_119 : decode cX9_submitText 119 = .ok (.iinc 1 1, 3) := by decide +kernel
theorem dX9_submitText_122 : decode cX9_submitText 122 = .ok (.iinc 2 1, 3) := by decide +kernel
theorem dX9_submitText_125 : decode cX9_submitText 125 = .ok (.goto (-101), 3) := by decide +kernel
theorem dX9_submitText_128 : decode cX9_submitText 128 = .ok (.iload_n 1, 1) := by decide +kernel
theorem dX9_submitText_129 : decode cX9_submitText 129 = .ok (.ireturn, 1) := by decide +kernel
theorem dX9_faultPosition_0 : decode cX9_faultPosition 0 = .ok (.aload_n 0, 1) := by decide +kernel
theorem dX9_faultPosition_1 : decode cX9_faultPosition 1 = .ok (.getfield 26, 3) := by decide +kernel
theorem dX9_faultPosition_4 : decode cX9_faultPosition 4 = .ok (.getfield 205, 3) := by decide +kernel
theorem dX9_faultPosition_7 : decode cX9_faultPosition 7 = .ok (.ireturn, 1) := by decide +kernel
theorem dX9_cancel_0 : decode cX9_cancel 0 = .ok (.aload_n 0, 1) := by decide +kernel
theorem dX9_cancel_1 : decode cX9_cancel 1 = .ok (.iload_n 1, 1) := by decide +kernel
theorem dX9_cancel_2 : decode cX9_cancel 2 = .ok (.invokevirtual 208, 3) := by decide +kernel
theorem dX9_cancel_5 : decode cX9_cancel 5 = .ok (.astore_n 2, 1) := by decide +kernel
theorem dX9_cancel_6 : decode cX9_cancel 6 = .ok (.aload_n 2, 1) := by decide +kernel
theorem dX9_cancel_7 : decode cX9_cancel 7 = .ok (.getfield 212, 3) := by decide +kernel
theorem dX9_cancel_10 : decode cX9_cancel 10 = .ok (.ifCond .eq 13, 3) := by decide +kernel
theorem dX9_cancel_13 : decode cX9_cancel 13 = .ok (.new 90, 3) := by decide +kernel
theorem dX9_cancel_16 : decode cX9_cancel 16 = .ok (.dup, 1) := by decide +kernel
theorem dX9_cancel_17 : decode cX9_cancel 17 = .ok (.ldc 217, 2) := by decide +kernel
theorem dX9_cancel_19 : decode cX9_cancel 19 = .ok (.invokespecial 94, 3) := by decide +kernel
theorem dX9_cancel_22 : decode cX9_cancel 22 = .ok (.athrow, 1) := by decide +kernel
theorem dX9_cancel_23 : decode cX9_cancel 23 = .ok (.aload_n 0, 1) := by decide +kernel
theorem dX9_cancel_24 : decode cX9_cancel 24 = .ok (.getfield 10, 3) := by decide +kernel
theorem dX9_cancel_27 : decode cX9_cancel 27 = .ok (.getfield 219, 3) := by decide +kernel
theorem dX9_cancel_30 : decode cX9_cancel 30 = .ok (.aload_n 2, 1) := by decide +kernel
theorem dX9_cancel_31 : decode cX9_cancel 31 = .ok (.invokevirtual 223, 3) := by decide +kernel
theorem dX9_cancel_34 : decode cX9_cancel 34 = .ok (.return_, 1) := by decide +kernel
theorem dX9_next_0 : decode cX9_next 0 = .ok (.aload_n 0, 1) := by decide +kernel
theorem dX9_next_1 : decode cX9_next 1 = .ok (.getfield 10, 3) := by decide +kernel
theorem dX9_next_4 : decode cX9_next 4 = .ok (.getfield 64, 3) := by decide +kernel
theorem dX9_next_7 : decode cX9_next 7 = .ok (.aload_n 0, 1) := by decide +kernel
theorem dX9_next_8 : decode cX9_next 8 = .ok (.getfield 10, 3) := by decide +kernel
theorem dX9_next_11 : decode cX9_next 11 = .ok (.getfield 219, 3) := by decide +kernel
theorem dX9_next_14 : decode cX9_next 14 = .ok (.aload_n 0, 1) := by decide +kernel
theorem dX9_next_15 : decode cX9_next 15 = .ok (.getfield 10, 3) := by decide +kernel
theorem dX9_next_18 : decode cX9_next 18 = .ok (.getfield 41, 3) := by decide +kernel
theorem dX9_next_21 : decode cX9_next 21 = .ok (.aload_n 0, 1) := by decide +kernel
theorem dX9_next_22 : decode cX9_next 22 = .ok (.getfield 19, 3) := by decide +kernel
theorem dX9_next_25 : decode cX9_next 25 = .ok (.invokevirtual 229, 3) := by decide +kernel
theorem dX9_next_28 : decode cX9_next 28 = .ok (.istore_n 1, 1) := by decide +kernel
theorem dX9_next_29 : decode cX9_next 29 = .ok (.iload_n 1, 1) := by decide +kernel
theorem dX9_next_30 : decode cX9_next 30 = .ok (.iconst (-1), 1) := by decide +kernel
theorem dX9_next_31 : decode cX9_next 31 = .ok (.if_icmp .ne 13, 3) := by decide +kernel
theorem dX9_next_34 : decode cX9_next 34 = .ok (.new 233, 3) := by decide +kernel
theorem dX9_next_37 : decode cX9_next 37 = .ok (.dup, 1) := by decide +kernel
theorem dX9_next_38 : decode cX9_next 38 = .ok (.ldc 235, 2) := by decide +kernel
theorem dX9_next_40 : decode cX9_next 40 = .ok (.invokespecial 237, 3) := by decide +kernel
theorem dX9_next_43 : decode cX9_next 43 = .ok (.athrow, 1) := by decide +kernel
theorem dX9_next_44 : decode cX9_next 44 = .ok (.iload_n 1, 1) := by decide +kernel
theorem dX9_next_45 : decode cX9_next 45 = .ok (.ireturn, 1) := by decide +kernel
theorem dX9_serve_0 : decode cX9_serve 0 = .ok (.aload_n 0, 1) := by decide +kernel
theorem dX9_serve_1 : decode cX9_serve 1 = .ok (.getfield 10, 3) := by decide +kernel
theorem dX9_serve_4 : decode cX9_serve 4 = .ok (.getfield 219, 3) := by decide +kernel
theorem dX9_serve_7 : decode cX9_serve 7 = .ok (.getfield 238, 3) := by decide +kernel
theorem dX9_serve_10 : decode cX9_serve 10 = .ok (.ifCond .ne 13, 3) := by decide +kernel
theorem dX9_serve_13 : decode cX9_serve 13 = .ok (.new 233, 3) := by decide +kernel
theorem dX9_serve_16 : decode cX9_serve 16 = .ok (.dup, 1) := by decide +kernel
theorem dX9_serve_17 : decode cX9_serve 17 = .ok (.ldc 235, 2) := by decide +kernel
theorem dX9_serve_19 : decode cX9_serve 19 = .ok (.invokespecial 237, 3) := by decide +kernel
theorem dX9_serve_22 : decode cX9_serve 22 = .ok (.athrow, 1) := by decide +kernel
theorem dX9_serve_23 : decode cX9_serve 23 = .ok (.aload_n 0, 1) := by decide +kernel
theorem dX9_serve_24 : decode cX9_serve 24 = .ok (.invokevirtual 241, 3) := by decide +kernel
theorem dX9_serve_27 : decode cX9_serve 27 = .ok (.aload_n 0, 1) := by decide +kernel
theorem dX9_serve_28 : decode cX9_serve 28 = .ok (.getfield 10, 3) := by decide +kernel
theorem dX9_serve_31 : decode cX9_serve 31 = .ok (.aload_n 0, 1) := by decide +kernel
theorem dX9_serve_32 : decode cX9_serve 32 = .ok (.getfield 19, 3) := by decide +kernel
theorem dX9_serve_35 : decode cX9_serve 35 = .ok (.invokevirtual 244, 3) := by decide +kernel
theorem dX9_serve_38 : decode cX9_serve 38 = .ok (.ireturn, 1) := by decide +kernel
theorem dX9_serveFor_0 : decode cX9_serveFor 0 = .ok (.iload_n 1, 1) := by decide +kernel
theorem dX9_serveFor_1 : decode cX9_serveFor 1 = .ok (.iconst 1, 1) := by decide +kernel
theorem dX9_serveFor_2 : decode cX9_serveFor 2 = .ok (.sipush 9999, 3) := by decide +kernel
theorem dX9_serveFor_5 : decode cX9_serveFor 5 = .ok (.invokestatic 30, 3) := by decide +kernel
theorem dX9_serveFor_8 : decode cX9_serveFor 8 = .ok (.ifCond .ne 13, 3) := by decide +kernel
theorem dX9_serveFor_11 : decode cX9_serveFor 11 = .ok (.new 34, 3) := by decide +kernel
theorem dX9_serveFor_14 : decode cX9_serveFor 14 = .ok (.dup, 1) := by decide +kernel
theorem dX9_serveFor_15 : decode cX9_serveFor 15 = .ok (.ldc 155, 2) := by decide +kernel
theorem dX9_serveFor_17 : decode cX9_serveFor 17 = .ok (.invokespecial 38, 3) := by decide +kernel
theorem dX9_serveFor_20 : decode cX9_serveFor 20 = .ok (.athrow, 1) := by decide +kernel
theorem dX9_serveFor_21 : decode cX9_serveFor 21 = .ok (.aload_n 0, 1) := by decide +kernel
theorem dX9_serveFor_22 : decode cX9_serveFor 22 = .ok (.invokevirtual 241, 3) := by decide +kernel
theorem dX9_serveFor_25 : decode cX9_serveFor 25 = .ok (.aload_n 0, 1) := by decide +kernel
theorem dX9_serveFor_26 : decode cX9_serveFor 26 = .ok (.getfield 10, 3) := by decide +kernel
theorem dX9_serveFor_29 : decode cX9_serveFor 29 = .ok (.getfield 41, 3) := by decide +kernel
theorem dX9_serveFor_32 : decode cX9_serveFor 32 = .ok (.getfield 146, 3) := by decide +kernel
theorem dX9_serveFor_35 : decode cX9_serveFor 35 = .ok (.iload_n 1, 1) := by decide +kernel
theorem dX9_serveFor_36 : decode cX9_serveFor 36 = .ok (.iadd, 1) := by decide +kernel
theorem dX9_serveFor_37 : decode cX9_serveFor 37 = .ok (.istore_n 2, 1) := by decide +kernel
theorem dX9_serveFor_38 : decode cX9_serveFor 38 = .ok (.iconst 0, 1) := by decide +kernel
theorem dX9_serveFor_39 : decode cX9_serveFor 39 = .ok (.istore_n 3, 1) := by decide +kernel
theorem dX9_serveFor_40 : decode cX9_serveFor 40 = .ok (.iload_n 3, 1) := by decide +kernel
theorem dX9_serveFor_41 : decode cX9_serveFor 41 = .ok (.bipush 12, 2) := by decide +kernel
theorem dX9_serveFor_43 : decode cX9_serveFor 43 = .ok (.if_icmp .ge 48, 3) := by decide +kernel
theorem dX9_serveFor_46 : decode cX9_serveFor 46 = .ok (.aload_n 0, 1) := by decide +kernel
theorem dX9_serveFor_47 : decode cX9_serveFor 47 = .ok (.getfield 10, 3) := by decide +kernel
theorem dX9_serveFor_50 : decode cX9_serveFor 50 = .ok (.getfield 219, 3) := by decide +kernel
theorem dX9_serveFor_53 : decode cX9_serveFor 53 = .ok (.getfield 238, 3) := by decide +kernel
theorem dX9_serveFor_56 : decode cX9_serveFor 56 = .ok (.ifCond .le 35, 3) := by decide +kernel
theorem dX9_serveFor_59 : decode cX9_serveFor 59 = .ok (.aload_n 0, 1) := by decide +kernel
theorem dX9_serveFor_60 : decode cX9_serveFor 60 = .ok (.getfield 10, 3) := by decide +kernel
theorem dX9_serveFor_63 : decode cX9_serveFor 63 = .ok (.getfield 41, 3) := by decide +kernel
theorem dX9_serveFor_66 : decode cX9_serveFor 66 = .ok (.getfield 146, 3) := by decide +kernel
theorem dX9_serveFor_69 : decode cX9_serveFor 69 = .ok (.iload_n 2, 1) := by decide +kernel
theorem dX9_serveFor_70 : decode cX9_serveFor 70 = .ok (.if_icmp .ge 21, 3) := by decide +kernel
theorem dX9_serveFor_73 : decode cX9_serveFor 73 = .ok (.aload_n 0, 1) := by decide +kernel
theorem dX9_serveFor_74 : decode cX9_serveFor 74 = .ok (.getfield 10, 3) := by decide +kernel
theorem dX9_serveFor_77 : decode cX9_serveFor 77 = .ok (.aload_n 0, 1) := by decide +kernel
theorem dX9_serveFor_78 : decode cX9_serveFor 78 = .ok (.getfield 19, 3) := by decide +kernel
theorem dX9_serveFor_81 : decode cX9_serveFor 81 = .ok (.invokevirtual 244, 3) := by decide +kernel
theorem dX9_serveFor_84 : decode cX9_serveFor 84 = .ok (.pop, 1) := by decide +kernel
theorem dX9_serveFor_85 : decode cX9_serveFor 85 = .ok (.iinc 3 1, 3) := by decide +kernel
theorem dX9_serveFor_88 : decode cX9_serveFor 88 = .ok (.goto (-48), 3) := by decide +kernel
theorem dX9_serveFor_91 : decode cX9_serveFor 91 = .ok (.iload_n 3, 1) := by decide +kernel
theorem dX9_serveFor_92 : decode cX9_serveFor 92 = .ok (.ireturn, 1) := by decide +kernel
theorem dX9_flush_0 : decode cX9_flush 0 = .ok (.aload_n 0, 1) := by decide +kernel
theorem dX9_flush_1 : decode cX9_flush 1 = .ok (.invokevirtual 241, 3) := by decide +kernel
theorem dX9_flush_4 : decode cX9_flush 4 = .ok (.aload_n 0, 1) := by decide +kernel
theorem dX9_flush_5 : decode cX9_flush 5 = .ok (.getfield 10, 3) := by decide +kernel
theorem dX9_flush_8 : decode cX9_flush 8 = .ok (.getfield 41, 3) := by decide +kernel
theorem dX9_flush_11 : decode cX9_flush 11 = .ok (.getfield 146, 3) := by decide +kernel
theorem dX9_flush_14 : decode cX9_flush 14 = .ok (.istore_n 1, 1) := by decide +kernel
theorem dX9_flush_15 : decode cX9_flush 15 = .ok (.aload_n 0, 1) := by decide +kernel
theorem dX9_flush_16 : decode cX9_flush 16 = .ok (.getfield 10, 3) := by decide +kernel
theorem dX9_flush_19 : decode cX9_flush 19 = .ok (.getfield 81, 3) := by decide +kernel
theorem dX9_flush_22 : decode cX9_flush 22 = .ok (.aload_n 0, 1) := by decide +kernel
theorem dX9_flush_23 : decode cX9_flush 23 = .ok (.getfield 10, 3) := by decide +kernel
theorem dX9_flush_26 : decode cX9_flush 26 = .ok (.getfield 41, 3) := by decide +kernel
theorem dX9_flush_29 : decode cX9_flush 29 = .ok (.invokevirtual 248, 3) := by decide +kernel
theorem dX9_flush_32 : decode cX9_flush 32 = .ok (.aload_n 0, 1) := by decide +kernel
theorem dX9_flush_33 : decode cX9_flush 33 = .ok (.getfield 10, 3) := by decide +kernel
theorem dX9_flush_36 : decode cX9_flush 36 = .ok (.getfield 41, 3) := by decide +kernel
theorem dX9_flush_39 : decode cX9_flush 39 = .ok (.getfield 146, 3) := by decide +kernel
theorem dX9_flush_42 : decode cX9_flush 42 = .ok (.iload_n 1, 1) := by decide +kernel
theorem dX9_flush_43 : decode cX9_flush 43 = .ok (.isub, 1) := by decide +kernel
theorem dX9_flush_44 : decode cX9_flush 44 = .ok (.ireturn, 1) := by decide +kernel
theorem dX9_dirtyBlocks_0 : decode cX9_dirtyBlocks 0 = .ok (.aload_n 0, 1) := by decide +kernel
theorem dX9_dirtyBlocks_1 : decode cX9_dirtyBlocks 1 = .ok (.getfield 10, 3) := by decide +kernel
theorem dX9_dirtyBlocks_4 : decode cX9_dirtyBlocks 4 = .ok (.getfield 81, 3) := by decide +kernel
theorem dX9_dirtyBlocks_7 : decode cX9_dirtyBlocks 7 = .ok (.getfield 85, 3) := by decide +kernel
theorem dX9_dirtyBlocks_10 : decode cX9_dirtyBlocks 10 = .ok (.ireturn, 1) := by decide +kernel
theorem dX9_pendingRequests_0 : decode cX9_pendingRequests 0 = .ok (.aload_n 0, 1) := by decide +kernel
theorem dX9_pendingRequests_1 : decode cX9_pendingRequests 1 = .ok (.getfield 10, 3) := by decide +kernel
theorem dX9_pendingRequests_4 : decode cX9_pendingRequests 4 = .ok (.getfield 219, 3) := by decide +kernel
theorem dX9_pendingRequests_7 : decode cX9_pendingRequests 7 = .ok (.getfield 238, 3) := by decide +kernel
theorem dX9_pendingRequests_10 : decode cX9_pendingRequests 10 = .ok (.ireturn, 1) := by decide +kernel
theorem dX9_state_0 : decode cX9_state 0 = .ok (.aload_n 0, 1) := by decide +kernel
theorem dX9_state_1 : decode cX9_state 1 = .ok (.iload_n 1, 1) := by decide +kernel
theorem dX9_state_2 : decode cX9_state 2 = .ok (.invokevirtual 208, 3) := by decide +kernel
theorem dX9_state_5 : decode cX9_state 5 = .ok (.getfield 212, 3) := by decide +kernel
theorem dX9_state_8 : decode cX9_state 8 = .ok (.ireturn, 1) := by decide +kernel
theorem dX9_bucket_0 : decode cX9_bucket 0 = .ok (.aload_n 0, 1) := by decide +kernel
theorem dX9_bucket_1 : decode cX9_bucket 1 = .ok (.iload_n 1, 1) := by decide +kernel
theorem dX9_bucket_2 : decode cX9_bucket 2 = .ok (.invokevirtual 208, 3) := by decide +kernel
theorem dX9_bucket_5 : decode cX9_bucket 5 = .ok (.astore_n 2, 1) := by decide +kernel
theorem dX9_bucket_6 : decode cX9_bucket 6 = .ok (.aload_n 2, 1) := by decide +kernel
theorem dX9_bucket_7 : decode cX9_bucket 7 = .ok (.getfield 212, 3) := by decide +kernel
theorem dX9_bucket_10 : decode cX9_bucket 10 = .ok (.ifCond .eq 13, 3) := by decide +kernel
theorem dX9_bucket_13 : decode cX9_bucket 13 = .ok (.new 90, 3) := by decide +kernel
theorem dX9_bucket_16 : decode cX9_bucket 16 = .ok (.dup, 1) := by decide +kernel
theorem dX9_bucket_17 : decode cX9_bucket 17 = .ok (.ldc 217, 2) := by decide +kernel
theorem dX9_bucket_19 : decode cX9_bucket 19 = .ok (.invokespecial 94, 3) := by decide +kernel
theorem dX9_bucket_22 : decode cX9_bucket 22 = .ok (.athrow, 1) := by decide +kernel
theorem dX9_bucket_23 : decode cX9_bucket 23 = .ok (.aload_n 0, 1) := by decide +kernel
theorem dX9_bucket_24 : decode cX9_bucket 24 = .ok (.getfield 10, 3) := by decide +kernel
theorem dX9_bucket_27 : decode cX9_bucket 27 = .ok (.getfield 64, 3) := by decide +kernel
theorem dX9_bucket_30 : decode cX9_bucket 30 = .ok (.aload_n 2, 1) := by decide +kernel
theorem dX9_bucket_31 : decode cX9_bucket 31 = .ok (.aload_n 0, 1) := by decide +kernel
theorem dX9_bucket_32 : decode cX9_bucket 32 = .ok (.getfield 10, 3) := by decide +kernel
theorem dX9_bucket_35 : decode cX9_bucket 35 = .ok (.getfield 41, 3) := by decide +kernel
theorem dX9_bucket_38 : decode cX9_bucket 38 = .ok (.getfield 146, 3) := by decide +kernel
theorem dX9_bucket_41 : decode cX9_bucket 41 = .ok (.invokevirtual 252, 3) := by decide +kernel
theorem dX9_bucket_44 : decode cX9_bucket 44 = .ok (.ireturn, 1) := by decide +kernel
theorem dX9_finish_0 : decode cX9_finish 0 = .ok (.aload_n 0, 1) := by decide +kernel
theorem dX9_finish_1 : decode cX9_finish 1 = .ok (.iload_n 1, 1) := by decide +kernel
theorem dX9_finish_2 : decode cX9_finish 2 = .ok (.invokevirtual 208, 3) := by decide +kernel
theorem dX9_finish_5 : decode cX9_finish 5 = .ok (.astore_n 2, 1) := by decide +kernel
theorem dX9_finish_6 : decode cX9_finish 6 = .ok (.aload_n 2, 1) := by decide +kernel
theorem dX9_finish_7 : decode cX9_finish 7 = .ok (.getfield 212, 3) := by decide +kernel
theorem dX9_finish_10 : decode cX9_finish 10 = .ok (.iconst 1, 1) := by decide +kernel
theorem dX9_finish_11 : decode cX9_finish 11 = .ok (.if_icmp .eq 14, 3) := by decide +kernel
theorem dX9_finish_14 : decode cX9_finish 14 = .ok (.new 90, 3) := by decide +kernel
theorem dX9_finish_17 : decode cX9_finish 17 = .ok (.dup, 1) := by decide +kernel
theorem dX9_finish_18 : decode cX9_finish 18 = .ok (.ldc_w 256, 3) := by decide +kernel
theorem dX9_finish_21 : decode cX9_finish 21 = .ok (.invokespecial 94, 3) := by decide +kernel
theorem dX9_finish_24 : decode cX9_finish 24 = .ok (.athrow, 1) := by decide +kernel
theorem dX9_finish_25 : decode cX9_finish 25 = .ok (.aload_n 2, 1) := by decide +kernel
theorem dX9_finish_26 : decode cX9_finish 26 = .ok (.getfield 258, 3) := by decide +kernel
theorem dX9_finish_29 : decode cX9_finish 29 = .ok (.ireturn, 1) := by decide +kernel
theorem dX9_isLate_0 : decode cX9_isLate 0 = .ok (.aload_n 0, 1) := by decide +kernel
theorem dX9_isLate_1 : decode cX9_isLate 1 = .ok (.iload_n 1, 1) := by decide +kernel
theorem dX9_isLate_2 : decode cX9_isLate 2 = .ok (.invokevirtual 208, 3) := by decide +kernel
theorem dX9_isLate_5 : decode cX9_isLate 5 = .ok (.astore_n 2, 1) := by decide +kernel
theorem dX9_isLate_6 : decode cX9_isLate 6 = .ok (.aload_n 2, 1) := by decide +kernel
theorem dX9_isLate_7 : decode cX9_isLate 7 = .ok (.getfield 212, 3) := by decide +kernel
theorem dX9_isLate_10 : decode cX9_isLate 10 = .ok (.iconst 1, 1) := by decide +kernel
theorem dX9_isLate_11 : decode cX9_isLate 11 = .ok (.if_icmp .eq 14, 3) := by decide +kernel
theorem dX9_isLate_14 : decode cX9_isLate 14 = .ok (.new 90, 3) := by decide +kernel
theorem dX9_isLate_17 : decode cX9_isLate 17 = .ok (.dup, 1) := by decide +kernel
theorem dX9_isLate_18 : decode cX9_isLate 18 = .ok (.ldc_w 256, 3) := by decide +kernel
theorem dX9_isLate_21 : decode cX9_isLate 21 = .ok (.invokespecial 94, 3) := by decide +kernel
theorem dX9_isLate_24 : decode cX9_isLate 24 = .ok (.athrow, 1) := by decide +kernel
theorem dX9_isLate_25 : decode cX9_isLate 25 = .ok (.aload_n 2, 1) := by decide +kernel
theorem dX9_isLate_26 : decode cX9_isLate 26 = .ok (.invokevirtual 261, 3) := by decide +kernel
theorem dX9_isLate_29 : decode cX9_isLate 29 = .ok (.ifCond .ne 14, 3) := by decide +kernel
theorem dX9_isLate_32 : decode cX9_isLate 32 = .ok (.new 138, 3) := by decide +kernel
theorem dX9_isLate_35 : decode cX9_isLate 35 = .ok (.dup, 1) := by decide +kernel
theorem dX9_isLate_36 : decode cX9_isLate 36 = .ok (.ldc_w 264, 3) := by decide +kernel
theorem dX9_isLate_39 : decode cX9_isLate 39 = .ok (.invokespecial 142, 3) := by decide +kernel
theorem dX9_isLate_42 : decode cX9_isLate 42 = .ok (.athrow, 1) := by decide +kernel
theorem dX9_isLate_43 : decode cX9_isLate 43 = .ok (.aload_n 2, 1) := by decide +kernel
theorem dX9_isLate_44 : decode cX9_isLate 44 = .ok (.invokevirtual 266, 3) := by decide +kernel
theorem dX9_isLate_47 : decode cX9_isLate 47 = .ok (.ireturn, 1) := by decide +kernel
theorem dX9_bestFinish_0 : decode cX9_bestFinish 0 = .ok (.aload_n 0, 1) := by decide +kernel
theorem dX9_bestFinish_1 : decode cX9_bestFinish 1 = .ok (.invokevirtual 269, 3) := by decide +kernel
theorem dX9_bestFinish_4 : decode cX9_bestFinish 4 = .ok (.aload_n 0, 1) := by decide +kernel
theorem dX9_bestFinish_5 : decode cX9_bestFinish 5 = .ok (.getfield 19, 3) := by decide +kernel
theorem dX9_bestFinish_8 : decode cX9_bestFinish 8 = .ok (.aload_n 0, 1) := by decide +kernel
theorem dX9_bestFinish_9 : decode cX9_bestFinish 9 = .ok (.getfield 10, 3) := by decide +kernel
theorem dX9_bestFinish_12 : decode cX9_bestFinish 12 = .ok (.getfield 219, 3) := by decide +kernel
theorem dX9_bestFinish_15 : decode cX9_bestFinish 15 = .ok (.aload_n 0, 1) := by decide +kernel
theorem dX9_bestFinish_16 : decode cX9_bestFinish 16 = .ok (.getfield 10, 3) := by decide +kernel
theorem dX9_bestFinish_19 : decode cX9_bestFinish 19 = .ok (.getfield 41, 3) := by decide +kernel
theorem dX9_bestFinish_22 : decode cX9_bestFinish 22 = .ok (.iconst 0, 1) := by decide +kernel
theorem dX9_bestFinish_23 : decode cX9_bestFinish 23 = .ok (.iconst 0, 1) := by decide +kernel
theorem dX9_bestFinish_24 : decode cX9_bestFinish 24 = .ok (.invokevirtual 272, 3) := by decide +kernel
theorem dX9_bestFinish_27 : decode cX9_bestFinish 27 = .ok (.aload_n 0, 1) := by decide +kernel
theorem dX9_bestFinish_28 : decode cX9_bestFinish 28 = .ok (.getfield 19, 3) := by decide +kernel
theorem dX9_bestFinish_31 : decode cX9_bestFinish 31 = .ok (.aload_n 0, 1) := by decide +kernel
theorem dX9_bestFinish_32 : decode cX9_bestFinish 32 = .ok (.getfield 10, 3) := by decide +kernel
theorem dX9_bestFinish_35 : decode cX9_bestFinish 35 = .ok (.getfield 41, 3) := by decide +kernel
theorem dX9_bestFinish_38 : decode cX9_bestFinish 38 = .ok (.invokevirtual 276, 3) := by decide +kernel
theorem dX9_bestFinish_41 : decode cX9_bestFinish 41 = .ok (.aload_n 0, 1) := by decide +kernel
theorem dX9_bestFinish_42 : decode cX9_bestFinish 42 = .ok (.getfield 19, 3) := by decide +kernel
theorem dX9_bestFinish_45 : decode cX9_bestFinish 45 = .ok (.getfield 279, 3) := by decide +kernel
theorem dX9_bestFinish_48 : decode cX9_bestFinish 48 = .ok (.ireturn, 1) := by decide +kernel
theorem dX9_bestRequest_0 : decode cX9_bestRequest 0 = .ok (.aload_n 0, 1) := by decide +kernel
theorem dX9_bestRequest_1 : decode cX9_bestRequest 1 = .ok (.invokevirtual 269, 3) := by decide +kernel
theorem dX9_bestRequest_4 : decode cX9_bestRequest 4 = .ok (.iload_n 1, 1) := by decide +kernel
theorem dX9_bestRequest_5 : decode cX9_bestRequest 5 = .ok (.iconst 0, 1) := by decide +kernel
theorem dX9_bestRequest_6 : decode cX9_bestRequest 6 = .ok (.aload_n 0, 1) := by decide +kernel
theorem dX9_bestRequest_7 : decode cX9_bestRequest 7 = .ok (.getfield 10, 3) := by decide +kernel
theorem dX9_bestRequest_10 : decode cX9_bestRequest 10 = .ok (.getfield 219, 3) := by decide +kernel
theorem dX9_bestRequest_13 : decode cX9_bestRequest 13 = .ok (.getfield 238, 3) := by decide +kernel
theorem dX9_bestRequest_16 : decode cX9_bestRequest 16 = .ok (.iconst 1, 1) := by decide +kernel
theorem dX9_bestRequest_17 : decode cX9_bestRequest 17 = .ok (.isub, 1) := by decide +kernel
theorem dX9_bestRequest_18 : decode cX9_bestRequest 18 = .ok (.invokestatic 30, 3) := by decide +kernel
theorem dX9_bestRequest_21 : decode cX9_bestRequest 21 = .ok (.ifCond .ne 14, 3) := by decide +kernel
theorem dX9_bestRequest_24 : decode cX9_bestRequest 24 = .ok (.new 99, 3) := by decide +kernel
theorem dX9_bestRequest_27 : decode cX9_bestRequest 27 = .ok (.dup, 1) := by decide +kernel
theorem dX9_bestRequest_28 : decode cX9_bestRequest 28 = .ok (.ldc_w 282, 3) := by decide +kernel
theorem dX9_bestRequest_31 : decode cX9_bestRequest 31 = .ok (.invokespecial 103, 3) := by decide +kernel
theorem dX9_bestRequest_34 : decode cX9_bestRequest 34 = .ok (.athrow, 1) := by decide +kernel
theorem dX9_bestRequest_35 : decode cX9_bestRequest 35 = .ok (.aload_n 0, 1) := by decide +kernel
theorem dX9_bestRequest_36 : decode cX9_bestRequest 36 = .ok (.getfield 19, 3) := by decide +kernel
theorem dX9_bestRequest_39 : decode cX9_bestRequest 39 = .ok (.aload_n 0, 1) := by decide +kernel
theorem dX9_bestRequest_40 : decode cX9_bestRequest 40 = .ok (.getfield 10, 3) := by decide +kernel
theorem dX9_bestRequest_43 : decode cX9_bestRequest 43 = .ok (.getfield 219, 3) := by decide +kernel
theorem dX9_bestRequest_46 : decode cX9_bestRequest 46 = .ok (.aload_n 0, 1) := by decide +kernel
theorem dX9_bestRequest_47 : decode cX9_bestRequest 47 = .ok (.getfield 10, 3) := by decide +kernel
theorem dX9_bestRequest_50 : decode cX9_bestRequest 50 = .ok (.getfield 41, 3) := by decide +kernel
theorem dX9_bestRequest_53 : decode cX9_bestRequest 53 = .ok (.iconst 0, 1) := by decide +kernel
theorem dX9_bestRequest_54 : decode cX9_bestRequest 54 = .ok (.iconst 0, 1) := by decide +kernel
theorem dX9_bestRequest_55 : decode cX9_bestRequest 55 = .ok (.invokevirtual 272, 3) := by decide +kernel
theorem dX9_bestRequest_58 : decode cX9_bestRequest 58 = .ok (.aload_n 0, 1) := by decide +kernel
theorem dX9_bestRequest_59 : decode cX9_bestRequest 59 = .ok (.getfield 19, 3) := by decide +kernel
theorem dX9_bestRequest_62 : decode cX9_bestRequest 62 = .ok (.aload_n 0, 1) := by decide +kernel
theorem dX9_bestRequest_63 : decode cX9_bestRequest 63 = .ok (.getfield 10, 3) := by decide +kernel
theorem dX9_bestRequest_66 : decode cX9_bestRequest 66 = .ok (.getfield 41, 3) := by decide +kernel
theorem dX9_bestRequest_69 : decode cX9_bestRequest 69 = .ok (.invokevirtual 276, 3) := by decide +kernel
theorem dX9_bestRequest_72 : decode cX9_bestRequest 72 = .ok (.aload_n 0, 1) := by decide +kernel
theorem dX9_bestRequest_73 : decode cX9_bestRequest 73 = .ok (.getfield 19, 3) := by decide +kernel
theorem dX9_bestRequest_76 : decode cX9_bestRequest 76 = .ok (.iload_n 1, 1) := by decide +kernel
theorem dX9_bestRequest_77 : decode cX9_bestRequest 77 = .ok (.invokevirtual 284, 3) := by decide +kernel
theorem dX9_bestRequest_80 : decode cX9_bestRequest 80 = .ok (.ireturn, 1) := by decide +kernel
theorem dX9_canMeetDeadlines_0 : decode cX9_canMeetDeadlines 0 = .ok (.aload_n 0, 1) := by decide +kernel
theorem dX9_canMeetDeadlines_1 : decode cX9_canMeetDeadlines 1 = .ok (.invokevirtual 269, 3) := by decide +kernel
theorem dX9_canMeetDeadlines_4 : decode cX9_canMeetDeadlines 4 = .ok (.aload_n 0, 1) := by decide +kernel
theorem dX9_canMeetDeadlines_5 : decode cX9_canMeetDeadlines 5 = .ok (.getfield 19, 3) := by decide +kernel
theorem dX9_canMeetDeadlines_8 : decode cX9_canMeetDeadlines 8 = .ok (.aload_n 0, 1) := by decide +kernel
theorem dX9_canMeetDeadlines_9 : decode cX9_canMeetDeadlines 9 = .ok (.getfield 10, 3) := by decide +kernel
theorem dX9_canMeetDeadlines_12 : decode cX9_canMeetDeadlines 12 = .ok (.getfield 219, 3) := by decide +kernel
theorem dX9_canMeetDeadlines_15 : decode cX9_canMeetDeadlines 15 = .ok (.aload_n 0, 1) := by decide +kernel
theorem dX9_canMeetDeadlines_16 : decode cX9_canMeetDeadlines 16 = .ok (.getfield 10, 3) := by decide +kernel
theorem dX9_canMeetDeadlines_19 : decode cX9_canMeetDeadlines 19 = .ok (.getfield 41, 3) := by decide +kernel
theorem dX9_canMeetDeadlines_22 : decode cX9_canMeetDeadlines 22 = .ok (.iconst 0, 1) := by decide +kernel
theorem dX9_canMeetDeadlines_23 : decode cX9_canMeetDeadlines 23 = .ok (.iconst 1, 1) := by decide +kernel
theorem dX9_canMeetDeadlines_24 : decode cX9_canMeetDeadlines 24 = .ok (.invokevirtual 272, 3) := by decide +kernel
theorem dX9_canMeetDeadlines_27 : decode cX9_canMeetDeadlines 27 = .ok (.aload_n 0, 1) := by decide +kernel
theorem dX9_canMeetDeadlines_28 : decode cX9_canMeetDeadlines 28 = .ok (.getfield 19, 3) := by decide +kernel
theorem dX9_canMeetDeadlines_31 : decode cX9_canMeetDeadlines 31 = .ok (.aload_n 0, 1) := by decide +kernel
theorem dX9_canMeetDeadlines_32 : decode cX9_canMeetDeadlines 32 = .ok (.getfield 10, 3) := by decide +kernel
theorem dX9_canMeetDeadlines_35 : decode cX9_canMeetDeadlines 35 = .ok (.getfield 41, 3) := by decide +kernel
theorem dX9_canMeetDeadlines_38 : decode cX9_canMeetDeadlines 38 = .ok (.invokevirtual 276, 3) := by decide +kernel
theorem dX9_canMeetDeadlines_41 : decode cX9_canMeetDeadlines 41 = .ok (.aload_n 0, 1) := by decide +kernel
theorem dX9_canMeetDeadlines_42 : decode cX9_canMeetDeadlines 42 = .ok (.getfield 19, 3) := by decide +kernel
theorem dX9_canMeetDeadlines_45 : decode cX9_canMeetDeadlines 45 = .ok (.invokevirtual 287, 3) := by decide +kernel
theorem dX9_canMeetDeadlines_48 : decode cX9_canMeetDeadlines 48 = .ok (.ireturn, 1) := by decide +kernel
theorem dX9_total_0 : decode cX9_total 0 = .ok (.iload_n 1, 1) := by decide +kernel
theorem dX9_total_1 : decode cX9_total 1 = .ok (.tableswitch 75 0 3 #[31, 42, 53, 64], 31) := by decide +kernel
theorem dX9_total_32 : decode cX9_total 32 = .ok (.aload_n 0, 1) := by decide +kernel
theorem dX9_total_33 : decode cX9_total 33 = .ok (.getfield 10, 3) := by decide +kernel
theorem dX9_total_36 : decode cX9_total 36 = .ok (.getfield 41, 3) := by decide +kernel
theorem dX9_total_39 : decode cX9_total 39 = .ok (.getfield 290, 3) := by decide +kernel
theorem dX9_total_42 : decode cX9_total 42 = .ok (.ireturn, 1) := by decide +kernel
theorem dX9_total_43 : decode cX9_total 43 = .ok (.aload_n 0, 1) := by decide +kernel
theorem dX9_total_44 : decode cX9_total 44 = .ok (.getfield 10, 3) := by decide +kernel
theorem dX9_total_47 : decode cX9_total 47 = .ok (.getfield 41, 3) := by decide +kernel
theorem dX9_total_50 : decode cX9_total 50 = .ok (.getfield 293, 3) := by decide +kernel
theorem dX9_total_53 : decode cX9_total 53 = .ok (.ireturn, 1) := by decide +kernel
theorem dX9_total_54 : decode cX9_total 54 = .ok (.aload_n 0, 1) := by decide +kernel
theorem dX9_total_55 : decode cX9_total 55 = .ok (.getfield 10, 3) := by decide +kernel
theorem dX9_total_58 : decode cX9_total 58 = .ok (.getfield 41, 3) := by decide +kernel
theorem dX9_total_61 : decode cX9_total 61 = .ok (.getfield 296, 3) := by decide +kernel
theorem dX9_total_64 : decode cX9_total 64 = .ok (.ireturn, 1) := by decide +kernel
theorem dX9_total_65 : decode cX9_total 65 = .ok (.aload_n 0, 1) := by decide +kernel
theorem dX9_total_66 : decode cX9_total 66 = .ok (.getfield 10, 3) := by decide +kernel
theorem dX9_total_69 : decode cX9_total 69 = .ok (.getfield 41, 3) := by decide +kernel
theorem dX9_total_72 : decode cX9_total 72 = .ok (.getfield 299, 3) := by decide +kernel
theorem dX9_total_75 : decode cX9_total 75 = .ok (.ireturn, 1) := by decide +kernel
theorem dX9_total_76 : decode cX9_total 76 = .ok (.new 34, 3) := by decide +kernel
theorem dX9_total_79 : decode cX9_total 79 = .ok (.dup, 1) := by decide +kernel
theorem dX9_total_80 : decode cX9_total 80 = .ok (.ldc_w 302, 3) := by decide +kernel
theorem dX9_total_83 : decode cX9_total 83 = .ok (.invokespecial 38, 3) := by decide +kernel
theorem dX9_total_86 : decode cX9_total 86 = .ok (.athrow, 1) := by decide +kernel
theorem dX9_utilization_0 : decode cX9_utilization 0 = .ok (.aload_n 0, 1) := by decide +kernel
theorem dX9_utilization_1 : decode cX9_utilization 1 = .ok (.getfield 10, 3) := by decide +kernel
theorem dX9_utilization_4 : decode cX9_utilization 4 = .ok (.getfield 41, 3) := by decide +kernel
theorem dX9_utilization_7 : decode cX9_utilization 7 = .ok (.getfield 146, 3) := by decide +kernel
theorem dX9_utilization_10 : decode cX9_utilization 10 = .ok (.ifCond .ne 14, 3) := by decide +kernel
theorem dX9_utilization_13 : decode cX9_utilization 13 = .ok (.new 304, 3) := by decide +kernel
theorem dX9_utilization_16 : decode cX9_utilization 16 = .ok (.dup, 1) := by decide +kernel
theorem dX9_utilization_17 : decode cX9_utilization 17 = .ok (.ldc_w 306, 3) := by decide +kernel
theorem dX9_utilization_20 : decode cX9_utilization 20 = .ok (.invokespecial 308, 3) := by decide +kernel
theorem dX9_utilization_23 : decode cX9_utilization 23 = .ok (.athrow, 1) := by decide +kernel
theorem dX9_utilization_24 : decode cX9_utilization 24 = .ok (.aload_n 0, 1) := by decide +kernel
theorem dX9_utilization_25 : decode cX9_utilization 25 = .ok (.getfield 10, 3) := by decide +kernel
theorem dX9_utilization_28 : decode cX9_utilization 28 = .ok (.getfield 41, 3) := by decide +kernel
theorem dX9_utilization_31 : decode cX9_utilization 31 = .ok (.getfield 290, 3) := by decide +kernel
theorem dX9_utilization_34 : decode cX9_utilization 34 = .ok (.aload_n 0, 1) := by decide +kernel
theorem dX9_utilization_35 : decode cX9_utilization 35 = .ok (.getfield 10, 3) := by decide +kernel
theorem dX9_utilization_38 : decode cX9_utilization 38 = .ok (.getfield 41, 3) := by decide +kernel
theorem dX9_utilization_41 : decode cX9_utilization 41 = .ok (.getfield 293, 3) := by decide +kernel
theorem dX9_utilization_44 : decode cX9_utilization 44 = .ok (.iadd, 1) := by decide +kernel
theorem dX9_utilization_45 : decode cX9_utilization 45 = .ok (.aload_n 0, 1) := by decide +kernel
theorem dX9_utilization_46 : decode cX9_utilization 46 = .ok (.getfield 10, 3) := by decide +kernel
theorem dX9_utilization_49 : decode cX9_utilization 49 = .ok (.getfield 41, 3) := by decide +kernel
theorem dX9_utilization_52 : decode cX9_utilization 52 = .ok (.getfield 296, 3) := by decide +kernel
theorem dX9_utilization_55 : decode cX9_utilization 55 = .ok (.iadd, 1) := by decide +kernel
theorem dX9_utilization_56 : decode cX9_utilization 56 = .ok (.istore_n 1, 1) := by decide +kernel
theorem dX9_utilization_57 : decode cX9_utilization 57 = .ok (.iload_n 1, 1) := by decide +kernel
theorem dX9_utilization_58 : decode cX9_utilization 58 = .ok (.i2d, 1) := by decide +kernel
theorem dX9_utilization_59 : decode cX9_utilization 59 = .ok (.aload_n 0, 1) := by decide +kernel
theorem dX9_utilization_60 : decode cX9_utilization 60 = .ok (.getfield 10, 3) := by decide +kernel
theorem dX9_utilization_63 : decode cX9_utilization 63 = .ok (.getfield 41, 3) := by decide +kernel
theorem dX9_utilization_66 : decode cX9_utilization 66 = .ok (.getfield 146, 3) := by decide +kernel
theorem dX9_utilization_69 : decode cX9_utilization 69 = .ok (.i2d, 1) := by decide +kernel
theorem dX9_utilization_70 : decode cX9_utilization 70 = .ok (.ddiv, 1) := by decide +kernel
theorem dX9_utilization_71 : decode cX9_utilization 71 = .ok (.dreturn, 1) := by decide +kernel
theorem dX9_averageResponse_0 : decode cX9_averageResponse 0 = .ok (.aload_n 0, 1) := by decide +kernel
theorem dX9_averageResponse_1 : decode cX9_averageResponse 1 = .ok (.getfield 10, 3) := by decide +kernel
theorem dX9_averageResponse_4 : decode cX9_averageResponse 4 = .ok (.getfield 219, 3) := by decide +kernel
theorem dX9_averageResponse_7 : decode cX9_averageResponse 7 = .ok (.invokevirtual 309, 3) := by decide +kernel
theorem dX9_averageResponse_10 : decode cX9_averageResponse 10 = .ok (.istore_n 1, 1) := by decide +kernel
theorem dX9_averageResponse_11 : decode cX9_averageResponse 11 = .ok (.iload_n 1, 1) := by decide +kernel
theorem dX9_averageResponse_12 : decode cX9_averageResponse 12 = .ok (.ifCond .ne 14, 3) := by decide +kernel
theorem dX9_averageResponse_15 : decode cX9_averageResponse 15 = .ok (.new 304, 3) := by decide +kernel
theorem dX9_averageResponse_18 : decode cX9_averageResponse 18 = .ok (.dup, 1) := by decide +kernel
theorem dX9_averageResponse_19 : decode cX9_averageResponse 19 = .ok (.ldc_w 313, 3) := by decide +kernel
theorem dX9_averageResponse_22 : decode cX9_averageResponse 22 = .ok (.invokespecial 308, 3) := by decide +kernel
theorem dX9_averageResponse_25 : decode cX9_averageResponse 25 = .ok (.athrow, 1) := by decide +kernel
theorem dX9_averageResponse_26 : decode cX9_averageResponse 26 = .ok (.aload_n 0, 1) := by decide +kernel
theorem dX9_averageResponse_27 : decode cX9_averageResponse 27 = .ok (.getfield 10, 3) := by decide +kernel
theorem dX9_averageResponse_30 : decode cX9_averageResponse 30 = .ok (.getfield 219, 3) := by decide +kernel
theorem dX9_averageResponse_33 : decode cX9_averageResponse 33 = .ok (.invokevirtual 315, 3) := by decide +kernel
theorem dX9_averageResponse_36 : decode cX9_averageResponse 36 = .ok (.i2d, 1) := by decide +kernel
theorem dX9_averageResponse_37 : decode cX9_averageResponse 37 = .ok (.iload_n 1, 1) := by decide +kernel
theorem dX9_averageResponse_38 : decode cX9_averageResponse 38 = .ok (.i2d, 1) := by decide +kernel
theorem dX9_averageResponse_39 : decode cX9_averageResponse 39 = .ok (.ddiv, 1) := by decide +kernel
theorem dX9_averageResponse_40 : decode cX9_averageResponse 40 = .ok (.dreturn, 1) := by decide +kernel
theorem dX9_lateShare_0 : decode cX9_lateShare 0 = .ok (.aload_n 0, 1) := by decide +kernel
theorem dX9_lateShare_1 : decode cX9_lateShare 1 = .ok (.getfield 10, 3) := by decide +kernel
theorem dX9_lateShare_4 : decode cX9_lateShare 4 = .ok (.getfield 219, 3) := by decide +kernel
theorem dX9_lateShare_7 : decode cX9_lateShare 7 = .ok (.invokevirtual 318, 3) := by decide +kernel
theorem dX9_lateShare_10 : decode cX9_lateShare 10 = .ok (.istore_n 1, 1) := by decide +kernel
theorem dX9_lateShare_11 : decode cX9_lateShare 11 = .ok (.iload_n 1, 1) := by decide +kernel
theorem dX9_lateShare_12 : decode cX9_lateShare 12 = .ok (.ifCond .ne 14, 3) := by decide +kernel
theorem dX9_lateShare_15 : decode cX9_lateShare 15 = .ok (.new 304, 3) := by decide +kernel
theorem dX9_lateShare_18 : decode cX9_lateShare 18 = .ok (.dup, 1) := by decide +kernel
theorem dX9_lateShare_19 : decode cX9_lateShare 19 = .ok (.ldc_w 321, 3) := by decide +kernel
theorem dX9_lateShare_22 : decode cX9_lateShare 22 = .ok (.invokespecial 308, 3) := by decide +kernel
theorem dX9_lateShare_25 : decode cX9_lateShare 25 = .ok (.athrow, 1) := by decide +kernel
theorem dX9_lateShare_26 : decode cX9_lateShare 26 = .ok (.aload_n 0, 1) := by decide +kernel
theorem dX9_lateShare_27 : decode cX9_lateShare 27 = .ok (.getfield 10, 3) := by decide +kernel
theorem dX9_lateShare_30 : decode cX9_lateShare 30 = .ok (.getfield 219, 3) := by decide +kernel
theorem dX9_lateShare_33 : decode cX9_lateShare 33 = .ok (.invokevirtual 323, 3) := by decide +kernel
theorem dX9_lateShare_36 : decode cX9_lateShare 36 = .ok (.i2f, 1) := by decide +kernel
theorem dX9_lateShare_37 : decode cX9_lateShare 37 = .ok (.iload_n 1, 1) := by decide +kernel
theorem dX9_lateShare_38 : decode cX9_lateShare 38 = .ok (.i2f, 1) := by decide +kernel
theorem dX9_lateShare_39 : decode cX9_lateShare 39 = .ok (.fdiv, 1) := by decide +kernel
theorem dX9_lateShare_40 : decode cX9_lateShare 40 = .ok (.freturn, 1) := by decide +kernel
theorem dX9_save_0 : decode cX9_save 0 = .ok (.aload_n 0, 1) := by decide +kernel
theorem dX9_save_1 : decode cX9_save 1 = .ok (.getfield 326, 3) := by decide +kernel
theorem dX9_save_4 : decode cX9_save 4 = .ok (.ifnonnull 14, 3) := by decide +kernel
theorem dX9_save_7 : decode cX9_save 7 = .ok (.aload_n 0, 1) := by decide +kernel
theorem dX9_save_8 : decode cX9_save 8 = .ok (.new 7, 3) := by decide +kernel
theorem dX9_save_11 : decode cX9_save 11 = .ok (.dup, 1) := by decide +kernel
theorem dX9_save_12 : decode cX9_save 12 = .ok (.invokespecial 9, 3) := by decide +kernel
theorem dX9_save_15 : decode cX9_save 15 = .ok (.putfield 326, 3) := by decide +kernel
theorem dX9_save_18 : decode cX9_save 18 = .ok (.aload_n 0, 1) := by decide +kernel
theorem dX9_save_19 : decode cX9_save 19 = .ok (.getfield 326, 3) := by decide +kernel
theorem dX9_save_22 : decode cX9_save 22 = .ok (.aload_n 0, 1) := by decide +kernel
theorem dX9_save_23 : decode cX9_save 23 = .ok (.getfield 10, 3) := by decide +kernel
theorem dX9_save_26 : decode cX9_save 26 = .ok (.invokevirtual 329, 3) := by decide +kernel
theorem dX9_save_29 : decode cX9_save 29 = .ok (.return_, 1) := by decide +kernel
theorem dX9_restore_0 : decode cX9_restore 0 = .ok (.aload_n 0, 1) := by decide +kernel
theorem dX9_restore_1 : decode cX9_restore 1 = .ok (.getfield 326, 3) := by decide +kernel
theorem dX9_restore_4 : decode cX9_restore 4 = .ok (.ifnonnull 14, 3) := by decide +kernel
theorem dX9_restore_7 : decode cX9_restore 7 = .ok (.new 90, 3) := by decide +kernel
theorem dX9_restore_10 : decode cX9_restore 10 = .ok (.dup, 1) := by decide +kernel
theorem dX9_restore_11 : decode cX9_restore 11 = .ok (.ldc_w 333, 3) := by decide +kernel
theorem dX9_restore_14 : decode cX9_restore 14 = .ok (.invokespecial 94, 3) := by decide +kernel
theorem dX9_restore_17 : decode cX9_restore 17 = .ok (.athrow, 1) := by decide +kernel
theorem dX9_restore_18 : decode cX9_restore 18 = .ok (.aload_n 0, 1) := by decide +kernel
theorem dX9_restore_19 : decode cX9_restore 19 = .ok (.getfield 10, 3) := by decide +kernel
theorem dX9_restore_22 : decode cX9_restore 22 = .ok (.aload_n 0, 1) := by decide +kernel
theorem dX9_restore_23 : decode cX9_restore 23 = .ok (.getfield 326, 3) := by decide +kernel
theorem dX9_restore_26 : decode cX9_restore 26 = .ok (.invokevirtual 329, 3) := by decide +kernel
theorem dX9_restore_29 : decode cX9_restore 29 = .ok (.aload_n 0, 1) := by decide +kernel
theorem dX9_restore_30 : decode cX9_restore 30 = .ok (.getfield 10, 3) := by decide +kernel
theorem dX9_restore_33 : decode cX9_restore 33 = .ok (.getfield 41, 3) := by decide +kernel
theorem dX9_restore_36 : decode cX9_restore 36 = .ok (.getfield 146, 3) := by decide +kernel
theorem dX9_restore_39 : decode cX9_restore 39 = .ok (.ireturn, 1) := by decide +kernel
theorem dX9_isWithin_0 : decode cX9_isWithin 0 = .ok (.iload_n 0, 1) := by decide +kernel
theorem dX9_isWithin_1 : decode cX9_isWithin 1 = .ok (.iload_n 1, 1) := by decide +kernel
theorem dX9_isWithin_2 : decode cX9_isWithin 2 = .ok (.if_icmp .lt 12, 3) := by decide +kernel
theorem dX9_isWithin_5 : decode cX9_isWithin 5 = .ok (.iload_n 0, 1) := by decide +kernel
theorem dX9_isWithin_6 : decode cX9_isWithin 6 = .ok (.iload_n 2, 1) := by decide +kernel
theorem dX9_isWithin_7 : decode cX9_isWithin 7 = .ok (.if_icmp .gt 7, 3) := by decide +kernel
theorem dX9_isWithin_10 : decode cX9_isWithin 10 = .ok (.iconst 1, 1) := by decide +kernel
theorem dX9_isWithin_11 : decode cX9_isWithin 11 = .ok (.goto 4, 3) := by decide +kernel
theorem dX9_isWithin_14 : decode cX9_isWithin 14 = .ok (.iconst 0, 1) := by decide +kernel
theorem dX9_isWithin_15 : decode cX9_isWithin 15 = .ok (.ireturn, 1) := by decide +kernel
theorem dX9_isBlock_0 : decode cX9_isBlock 0 = .ok (.iload_n 0, 1) := by decide +kernel
theorem dX9_isBlock_1 : decode cX9_isBlock 1 = .ok (.iconst 0, 1) := by decide +kernel
theorem dX9_isBlock_2 : decode cX9_isBlock 2 = .ok (.sipush 571, 3) := by decide +kernel
theorem dX9_isBlock_5 : decode cX9_isBlock 5 = .ok (.invokestatic 30, 3) := by decide +kernel
theorem dX9_isBlock_8 : decode cX9_isBlock 8 = .ok (.ireturn, 1) := by decide +kernel
theorem dX9_requireBlock_0 : decode cX9_requireBlock 0 = .ok (.iload_n 0, 1) := by decide +kernel
theorem dX9_requireBlock_1 : decode cX9_requireBlock 1 = .ok (.invokestatic 196, 3) := by decide +kernel
theorem dX9_requireBlock_4 : decode cX9_requireBlock 4 = .ok (.ifCond .ne 14, 3) := by decide +kernel
theorem dX9_requireBlock_7 : decode cX9_requireBlock 7 = .ok (.new 99, 3) := by decide +kernel
theorem dX9_requireBlock_10 : decode cX9_requireBlock 10 = .ok (.dup, 1) := by decide +kernel
theorem dX9_requireBlock_11 : decode cX9_requireBlock 11 = .ok (.ldc_w 335, 3) := by decide +kernel
theorem dX9_requireBlock_14 : decode cX9_requireBlock 14 = .ok (.invokespecial 103, 3) := by decide +kernel
theorem dX9_requireBlock_17 : decode cX9_requireBlock 17 = .ok (.athrow, 1) := by decide +kernel
theorem dX9_requireBlock_18 : decode cX9_requireBlock 18 = .ok (.return_, 1) := by decide +kernel
theorem dX9_requireRequest_0 : decode cX9_requireRequest 0 = .ok (.aload_n 0, 1) := by decide +kernel
theorem dX9_requireRequest_1 : decode cX9_requireRequest 1 = .ok (.getfield 10, 3) := by decide +kernel
theorem dX9_requireRequest_4 : decode cX9_requireRequest 4 = .ok (.getfield 219, 3) := by decide +kernel
theorem dX9_requireRequest_7 : decode cX9_requireRequest 7 = .ok (.iload_n 1, 1) := by decide +kernel
theorem dX9_requireRequest_8 : decode cX9_requireRequest 8 = .ok (.invokevirtual 337, 3) := by decide +kernel
theorem dX9_requireRequest_11 : decode cX9_requireRequest 11 = .ok (.astore_n 2, 1) := by decide +kernel
theorem dX9_requireRequest_12 : decode cX9_requireRequest 12 = .ok (.aload_n 2, 1) := by decide +kernel
theorem dX9_requireRequest_13 : decode cX9_requireRequest 13 = .ok (.ifnonnull 14, 3) := by decide +kernel
theorem dX9_requireRequest_16 : decode cX9_requireRequest 16 = .ok (.new 99, 3) := by decide +kernel
theorem dX9_requireRequest_19 : decode cX9_requireRequest 19 = .ok (.dup, 1) := by decide +kernel
theorem dX9_requireRequest_20 : decode cX9_requireRequest 20 = .ok (.ldc_w 340, 3) := by decide +kernel
theorem dX9_requireRequest_23 : decode cX9_requireRequest 23 = .ok (.invokespecial 103, 3) := by decide +kernel
theorem dX9_requireRequest_26 : decode cX9_requireRequest 26 = .ok (.athrow, 1) := by decide +kernel
theorem dX9_requireRequest_27 : decode cX9_requireRequest 27 = .ok (.aload_n 2, 1) := by decide +kernel
theorem dX9_requireRequest_28 : decode cX9_requireRequest 28 = .ok (.areturn, 1) := by decide +kernel
theorem dX9_requireFewPending_0 : decode cX9_requireFewPending 0 = .ok (.aload_n 0, 1) := by decide +kernel
theorem dX9_requireFewPending_1 : decode cX9_requireFewPending 1 = .ok (.getfield 10, 3) := by decide +kernel
theorem dX9_requireFewPending_4 : decode cX9_requireFewPending 4 = .ok (.getfield 219, 3) := by decide +kernel
theorem dX9_requireFewPending_7 : decode cX9_requireFewPending 7 = .ok (.getfield 238, 3) := by decide +kernel
theorem dX9_requireFewPending_10 : decode cX9_requireFewPending 10 = .ok (.bipush 6, 2) := by decide +kernel
theorem dX9_requireFewPending_12 : decode cX9_requireFewPending 12 = .ok (.if_icmp .le 14, 3) := by decide +kernel
theorem dX9_requireFewPending_15 : decode cX9_requireFewPending 15 = .ok (.new 138, 3) := by decide +kernel
theorem dX9_requireFewPending_18 : decode cX9_requireFewPending 18 = .ok (.dup, 1) := by decide +kernel
theorem dX9_requireFewPending_19 : decode cX9_requireFewPending 19 = .ok (.ldc_w 342, 3) := by decide +kernel
theorem dX9_requireFewPending_22 : decode cX9_requireFewPending 22 = .ok (.invokespecial 142, 3) := by decide +kernel
theorem dX9_requireFewPending_25 : decode cX9_requireFewPending 25 = .ok (.athrow, 1) := by decide +kernel
theorem dX9_requireFewPending_26 : decode cX9_requireFewPending 26 = .ok (.return_, 1) := by decide +kernel
theorem dX9_requireTimeToAccess_0 : decode cX9_requireTimeToAccess 0 = .ok (.aload_n 0, 1) := by decide +kernel
theorem dX9_requireTimeToAccess_1 : decode cX9_requireTimeToAccess 1 = .ok (.getfield 10, 3) := by decide +kernel
theorem dX9_requireTimeToAccess_4 : decode cX9_requireTimeToAccess 4 = .ok (.getfield 41, 3) := by decide +kernel
theorem dX9_requireTimeToAccess_7 : decode cX9_requireTimeToAccess 7 = .ok (.getfield 146, 3) := by decide +kernel
theorem dX9_requireTimeToAccess_10 : decode cX9_requireTimeToAccess 10 = .ok (.ldc 157, 2) := by decide +kernel
theorem dX9_requireTimeToAccess_12 : decode cX9_requireTimeToAccess 12 = .ok (.if_icmp .le 14, 3) := by decide +kernel
theorem dX9_requireTimeToAccess_15 : decode cX9_requireTimeToAccess 15 = .ok (.new 90, 3) := by decide +kernel
theorem dX9_requireTimeToAccess_18 : decode cX9_requireTimeToAccess 18 = .ok (.dup, 1) := by decide +kernel
theorem dX9_requireTimeToAccess_19 : decode cX9_requireTimeToAccess 19 = .ok (.ldc_w 344, 3) := by decide +kernel
theorem dX9_requireTimeToAccess_22 : decode cX9_requireTimeToAccess 22 = .ok (.invokespecial 94, 3) := by decide +kernel
theorem dX9_requireTimeToAccess_25 : decode cX9_requireTimeToAccess 25 = .ok (.athrow, 1) := by decide +kernel
theorem dX9_requireTimeToAccess_26 : decode cX9_requireTimeToAccess 26 = .ok (.return_, 1) := by decide +kernel
theorem dX9_copyNumbers_0 : decode cX9_copyNumbers 0 = .ok (.aload_n 0, 1) := by decide +kernel
theorem dX9_copyNumbers_1 : decode cX9_copyNumbers 1 = .ok (.iconst 0, 1) := by decide +kernel
theorem dX9_copyNumbers_2 : decode cX9_copyNumbers 2 = .ok (.aload_n 1, 1) := by decide +kernel
theorem dX9_copyNumbers_3 : decode cX9_copyNumbers 3 = .ok (.iconst 0, 1) := by decide +kernel
theorem dX9_copyNumbers_4 : decode cX9_copyNumbers 4 = .ok (.aload_n 0, 1) := by decide +kernel
theorem dX9_copyNumbers_5 : decode cX9_copyNumbers 5 = .ok (.arraylength, 1) := by decide +kernel
theorem dX9_copyNumbers_6 : decode cX9_copyNumbers 6 = .ok (.aload_n 1, 1) := by decide +kernel
theorem dX9_copyNumbers_7 : decode cX9_copyNumbers 7 = .ok (.arraylength, 1) := by decide +kernel
theorem dX9_copyNumbers_8 : decode cX9_copyNumbers 8 = .ok (.invokestatic 346, 3) := by decide +kernel
theorem dX9_copyNumbers_11 : decode cX9_copyNumbers 11 = .ok (.invokestatic 351, 3) := by decide +kernel
theorem dX9_copyNumbers_14 : decode cX9_copyNumbers 14 = .ok (.return_, 1) := by decide +kernel
theorem dX10_init_0 : decode cX10_init 0 = .ok (.aload_n 0, 1) := by decide +kernel
theorem dX10_init_1 : decode cX10_init 1 = .ok (.invokespecial 1, 3) := by decide +kernel
theorem dX10_init_4 : decode cX10_init 4 = .ok (.aload_n 0, 1) := by decide +kernel
theorem dX10_init_5 : decode cX10_init 5 = .ok (.sipush 1700, 3) := by decide +kernel
theorem dX10_init_8 : decode cX10_init 8 = .ok (.newarray .int, 2) := by decide +kernel
theorem dX10_init_10 : decode cX10_init 10 = .ok (.putfield 7, 3) := by decide +kernel
theorem dX10_init_13 : decode cX10_init 13 = .ok (.aload_n 0, 1) := by decide +kernel
theorem dX10_init_14 : decode cX10_init 14 = .ok (.sipush 1700, 3) := by decide +kernel
theorem dX10_init_17 : decode cX10_init 17 = .ok (.newarray .int, 2) := by decide +kernel
theorem dX10_init_19 : decode cX10_init 19 = .ok (.putfield 13, 3) := by decide +kernel
theorem dX10_init_22 : decode cX10_init 22 = .ok (.aload_n 0, 1) := by decide +kernel
theorem dX10_init_23 : decode cX10_init 23 = .ok (.bipush 40, 2) := by decide +kernel
theorem dX10_init_25 : decode cX10_init 25 = .ok (.newarray .int, 2) := by decide +kernel
theorem dX10_init_27 : decode cX10_init 27 = .ok (.putfield 16, 3) := by decide +kernel
theorem dX10_init_30 : decode cX10_init 30 = .ok (.aload_n 0, 1) := by decide +kernel
theorem dX10_init_31 : decode cX10_init 31 = .ok (.iconst (-1), 1) := by decide +kernel
theorem dX10_init_32 : decode cX10_init 32 = .ok (.putfield 19, 3) := by decide +kernel
theorem dX10_init_35 : decode cX10_init 35 = .ok (.aload_n 0, 1) := by decide +kernel
theorem dX10_init_36 : decode cX10_init 36 = .ok (.bipush 60, 2) := by decide +kernel
theorem dX10_init_38 : decode cX10_init 38 = .ok (.newarray .int, 2) := by decide +kernel
theorem dX10_init_40 : decode cX10_init 40 = .ok (.putfield 23, 3) := by decide +kernel
theorem dX10_init_43 : decode cX10_init 43 = .ok (.aload_n 0, 1) := by decide +kernel
theorem dX10_init_44 : decode cX10_init 44 = .ok (.bipush 12, 2) := by decide +kernel
theorem dX10_init_46 : decode cX10_init 46 = .ok (.newarray .int, 2) := by decide +kernel
theorem dX10_init_48 : decode cX10_init 48 = .ok (.putfield 26, 3) := by decide +kernel
theorem dX10_init_51 : decode cX10_init 51 = .ok (.aload_n 0, 1) := by decide +kernel
theorem dX10_init_52 : decode cX10_init 52 = .ok (.bipush 12, 2) := by decide +kernel
theorem dX10_init_54 : decode cX10_init 54 = .ok (.newarray .int, 2) := by decide +kernel
theorem dX10_init_56 : decode cX10_init 56 = .ok (.putfield 29, 3) := by decide +kernel
theorem dX10_init_59 : decode cX10_init 59 = .ok (.aload_n 0, 1) := by decide +kernel
theorem dX10_init_60 : decode cX10_init 60 = .ok (.bipush 12, 2) := by decide +kernel
theorem dX10_init_62 : decode cX10_init 62 = .ok (.newarray .int, 2) := by decide +kernel
theorem dX10_init_64 : decode cX10_init 64 = .ok (.putfield 32, 3) := by decide +kernel
theorem dX10_init_67 : decode cX10_init 67 = .ok (.aload_n 0, 1) := by decide +kernel
theorem dX10_init_68 : decode cX10_init 68 = .ok (.bipush 12, 2) := by decide +kernel
theorem dX10_init_70 : decode cX10_init 70 = .ok (.newarray .boolean, 2) := by decide +kernel
theorem dX10_init_72 : decode cX10_init 72 = .ok (.putfield 35, 3) := by decide +kernel
theorem dX10_init_75 : decode cX10_init 75 = .ok (.aload_n 0, 1) := by decide +kernel
theorem dX10_init_76 : decode cX10_init 76 = .ok (.getfield 7, 3) := by decide +kernel
theorem dX10_init_79 : decode cX10_init 79 = .ok (.iconst 0, 1) := by decide +kernel
theorem dX10_init_80 : decode cX10_init 80 = .ok (.bipush 10, 2) := by decide +kernel
theorem dX10_init_82 : decode cX10_init 82 = .ok (.iastore, 1) := by decide +kernel
theorem dX10_init_83 : decode cX10_init 83 = .ok (.aload_n 0, 1) := by decide +kernel
theorem dX10_init_84 : decode cX10_init 84 = .ok (.getfield 7, 3) := by decide +kernel
theorem dX10_init_87 : decode cX10_init 87 = .ok (.iconst 1, 1) := by decide +kernel
theorem dX10_init_88 : decode cX10_init 88 = .ok (.iconst 4, 1) := by decide +kernel
theorem dX10_init_89 : decode cX10_init 89 = .ok (.iastore, 1) := by decide +kernel
theorem dX10_init_90 : decode cX10_init 90 = .ok (.aload_n 0, 1) := by decide +kernel
theorem dX10_init_91 : decode cX10_init 91 = .ok (.getfield 7, 3) := by decide +kernel
theorem dX10_init_94 : decode cX10_init 94 = .ok (.iconst 2, 1) := by decide +kernel
theorem dX10_init_95 : decode cX10_init 95 = .ok (.iconst 1, 1) := by decide +kernel
theorem dX10_init_96 : decode cX10_init 96 = .ok (.iastore, 1) := by decide +kernel
theorem dX10_init_97 : decode cX10_init 97 = .ok (.aload_n 0, 1) := by decide +kernel
theorem dX10_init_98 : decode cX10_init 98 = .ok (.getfield 7, 3) := by decide +kernel
theorem dX10_init_101 : decode cX10_init 101 = .ok (.iconst 5, 1) := by decide +kernel
theorem dX10_init_102 : decode cX10_init 102 = .ok (.sipush 200, 3) := by decide +kernel
theorem dX10_init_105 : decode cX10_init 105 = .ok (.iastore, 1) := by decide +kernel
theorem dX10_init_106 : decode cX10_init 106 = .ok (.aload_n 0, 1) := by decide +kernel
theorem dX10_init_107 : decode cX10_init 107 = .ok (.getfield 7, 3) := by decide +kernel
theorem dX10_init_110 : decode cX10_init 110 = .ok (.bipush 6, 2) := by decide +kernel
theorem dX10_init_112 : decode cX10_init 112 = .ok (.sipush 1000, 3) := by decide +kernel
theorem dX10_init_115 : decode cX10_init 115 = .ok (.iastore, 1) := by decide +kernel
theorem dX10_init_116 : decode cX10_init 116 = .ok (.aload_n 0, 1) := by decide +kernel
theorem dX10_init_117 : decode cX10_init 117 = .ok (.getfield 7, 3) := by decide +kernel
theorem dX10_init_120 : decode cX10_init 120 = .ok (.bipush 10, 2) := by decide +kernel
theorem dX10_init_122 : decode cX10_init 122 = .ok (.iconst 1, 1) := by decide +kernel
theorem dX10_init_123 : decode cX10_init 123 = .ok (.iastore, 1) := by decide +kernel
theorem dX10_init_124 : decode cX10_init 124 = .ok (.return_, 1) := by decide +kernel
theorem dX10_thrown_0 : decode cX10_thrown 0 = .ok (.aload_n 0, 1) := by decide +kernel
theorem dX10_thrown_1 : decode cX10_thrown 1 = .ok (.getfield 39, 3) := by decide +kernel
theorem dX10_thrown_4 : decode cX10_thrown 4 = .ok (.ireturn, 1) := by decide +kernel
theorem dX10_fails_0 : decode cX10_fails 0 = .ok (.aload_n 0, 1) := by decide +kernel
theorem dX10_fails_1 : decode cX10_fails 1 = .ok (.iload_n 1, 1) := by decide +kernel
theorem dX10_fails_2 : decode cX10_fails 2 = .ok (.putfield 39, 3) := by decide +kernel
theorem dX10_fails_5 : decode cX10_fails 5 = .ok (.iconst 0, 1) := by decide +kernel
theorem dX10_fails_6 : decode cX10_fails 6 = .ok (.ireturn, 1) := by decide +kernel
theorem dX10_in_0 : decode cX10_in 0 = .ok (.iload_n 0, 1) := by decide +kernel
theorem dX10_in_1 : decode cX10_in 1 = .ok (.iload_n 1, 1) := by decide +kernel
theorem dX10_in_2 : decode cX10_in 2 = .ok (.if_icmp .lt 12, 3) := by decide +kernel
theorem dX10_in_5 : decode cX10_in 5 = .ok (.iload_n 0, 1) := by decide +kernel
theorem dX10_in_6 : decode cX10_in 6 = .ok (.iload_n 2, 1) := by decide +kernel
theorem dX10_in_7 : decode cX10_in 7 = .ok (.if_icmp .gt 7, 3) := by decide +kernel
theorem dX10_in_10 : decode cX10_in 10 = .ok (.iconst 1, 1) := by decide +kernel
theorem dX10_in_11 : decode cX10_in 11 = .ok (.goto 4, 3) := by decide +kernel
theorem dX10_in_14 : decode cX10_in 14 = .ok (.iconst 0, 1) := by decide +kernel
theorem dX10_in_15 : decode cX10_in 15 = .ok (.ireturn, 1) := by decide +kernel
theorem dX10_isBlock_0 : decode cX10_isBlock 0 = .ok (.iload_n 0, 1) := by decide +kernel
theorem dX10_isBlock_1 : decode cX10_isBlock 1 = .ok (.iconst 0, 1) := by decide +kernel
theorem dX10_isBlock_2 : decode cX10_isBlock 2 = .ok (.sipush 571, 3) := by decide +kernel
theorem dX10_isBlock_5 : decode cX10_isBlock 5 = .ok (.invokestatic 42, 3) := by decide +kernel
theorem dX10_isBlock_8 : decode cX10_isBlock 8 = .ok (.ireturn, 1) := by decide +kernel
theorem dX10_isRequest_0 : decode cX10_isRequest 0 = .ok (.iload_n 1, 1) := by decide +kernel
theorem dX10_isRequest_1 : decode cX10_isRequest 1 = .ok (.iconst 0, 1) := by decide +kernel
theorem dX10_isRequest_2 : decode cX10_isRequest 2 = .ok (.aload_n 0, 1) := by decide +kernel
theorem dX10_isRequest_3 : decode cX10_isRequest 3 = .ok (.getfield 7, 3) := by decide +kernel
theorem dX10_isRequest_6 : decode cX10_isRequest 6 = .ok (.bipush 12, 2) := by decide +kernel
theorem dX10_isRequest_8 : decode cX10_isRequest 8 = .ok (.iaload, 1) := by decide +kernel
theorem dX10_isRequest_9 : decode cX10_isRequest 9 = .ok (.iconst 1, 1) := by decide +kernel
theorem dX10_isRequest_10 : decode cX10_isRequest 10 = .ok (.isub, 1) := by decide +kernel
theorem dX10_isRequest_11 : decode cX10_isRequest 11 = .ok (.invokestatic 42, 3) := by decide +kernel
theorem dX10_isRequest_14 : decode cX10_isRequest 14 = .ok (.ireturn, 1) := by decide +kernel
theorem dX10_sectorsOf_0 : decode cX10_sectorsOf 0 = .ok (.bipush 12, 2) := by decide +kernel
theorem dX10_sectorsOf_2 : decode cX10_sectorsOf 2 = .ok (.iconst 2, 1) := by decide +kernel
theorem dX10_sectorsOf_3 : decode cX10_sectorsOf 3 = .ok (.iload_n 0, 1) := by decide +kernel
theorem dX10_sectorsOf_4 : decode cX10_sectorsOf 4 = .ok (.bipush 16, 2) := by decide +kernel
theorem dX10_sectorsOf_6 : decode cX10_sectorsOf 6 = .ok (.idiv, 1) := by decide +kernel
theorem dX10_sectorsOf_7 : decode cX10_sectorsOf 7 = .ok (.imul, 1) := by decide +kernel
theorem dX10_sectorsOf_8 : decode cX10_sectorsOf 8 = .ok (.isub, 1) := by decide +kernel
theorem dX10_sectorsOf_9 : decode cX10_sectorsOf 9 = .ok (.ireturn, 1) := by decide +kernel
theorem dX10_ticksOf_0 : decode cX10_ticksOf 0 = .ok (.bipush 120, 2) := by decide +kernel
theorem dX10_ticksOf_2 : decode cX10_ticksOf 2 = .ok (.iload_n 0, 1) := by decide +kernel
theorem dX10_ticksOf_3 : decode cX10_ticksOf 3 = .ok (.invokestatic 46, 3) := by decide +kernel
theorem dX10_ticksOf_6 : decode cX10_ticksOf 6 = .ok (.idiv, 1) := by decide +kernel
theorem dX10_ticksOf_7 : decode cX10_ticksOf 7 = .ok (.ireturn, 1) := by decide +kernel
theorem dX10_zoneAt_0 : decode cX10_zoneAt 0 = .ok (.iload_n 0, 1) := by decide +kernel
theorem dX10_zoneAt_1 : decode cX10_zoneAt 1 = .ok (.ifCond .ne 7, 3) := by decide +kernel
theorem dX10_zoneAt_4 : decode cX10_zoneAt 4 = .ok (.iconst 0, 1) := by decide +kernel
theorem dX10_zoneAt_5 : decode cX10_zoneAt 5 = .ok (.goto 28, 3) := by decide +kernel
theorem dX10_zoneAt_8 : decode cX10_zoneAt 8 = .ok (.iload_n 0, 1) := by decide +kernel
theorem dX10_zoneAt_9 : decode cX10_zoneAt 9 = .ok (.iconst 1, 1) := by decide +kernel
theorem dX10_zoneAt_10 : decode cX10_zoneAt 10 = .ok (.if_icmp .ne 9, 3) := by decide +kernel
theorem dX10_zoneAt_13 : decode cX10_zoneAt 13 = .ok (.sipush 192, 3) := by decide +kernel
theorem dX10_zoneAt_16 : decode cX10_zoneAt 16 = .ok (.goto 17, 3) := by decide +kernel
theorem dX10_zoneAt_19 : decode cX10_zoneAt 19 = .ok (.iload_n 0, 1) := by decide +kernel
theorem dX10_zoneAt_20 : decode cX10_zoneAt 20 = .ok (.iconst 2, 1) := by decide +kernel
theorem dX10_zoneAt_21 : decode cX10_zoneAt 21 = .ok (.if_icmp .ne 9, 3) := by decide +kernel
theorem dX10_zoneAt_24 : decode cX10_zoneAt 24 = .ok (.sipush 352, 3) := by decide +kernel
theorem dX10_zoneAt_27 : decode cX10_zoneAt 27 = .ok (.goto 6, 3) := by decide +kernel
theorem dX10_zoneAt_30 : decode cX10_zoneAt 30 = .ok (.sipush 480, 3) := by decide +kernel
theorem dX10_zoneAt_33 : decode cX10_zoneAt 33 = .ok (.ireturn, 1) := by decide +kernel
theorem dX10_firstOf_0 : decode cX10_firstOf 0 = .ok (.iload_n 0, 1) := by decide +kernel
theorem dX10_firstOf_1 : decode cX10_firstOf 1 = .ok (.bipush 16, 2) := by decide +kernel
theorem dX10_firstOf_3 : decode cX10_firstOf 3 = .ok (.idiv, 1) := by decide +kernel
theorem dX10_firstOf_4 : decode cX10_firstOf 4 = .ok (.invokestatic 50, 3) := by decide +kernel
theorem dX10_firstOf_7 : decode cX10_firstOf 7 = .ok (.iload_n 0, 1) := by decide +kernel
theorem dX10_firstOf_8 : decode cX10_firstOf 8 = .ok (.bipush 16, 2) := by decide +kernel
theorem dX10_firstOf_10 : decode cX10_firstOf 10 = .ok (.irem, 1) := by decide +kernel
theorem dX10_firstOf_11 : decode cX10_firstOf 11 = .ok (.iload_n 0, 1) := by decide +kernel
theorem dX10_firstOf_12 : decode cX10_firstOf 12 = .ok (.invokestatic 46, 3) := by decide +kernel
theorem dX10_firstOf_15 : decode cX10_firstOf 15 = .ok (.imul, 1) := by decide +kernel
theorem dX10_firstOf_16 : decode cX10_firstOf 16 = .ok (.iadd, 1) := by decide +kernel
theorem dX10_firstOf_17 : decode cX10_firstOf 17 = .ok (.ireturn, 1) := by decide +kernel
theorem dX10_cylinderAt_0 : decode cX10_cylinderAt 0 = .ok (.iload_n 0, 1) := by decide +kernel
theorem dX10_cylinderAt_1 : decode cX10_cylinderAt 1 = .ok (.sipush 192, 3) := by decide +kernel
theorem dX10_cylinderAt_4 : decode cX10_cylinderAt 4 = .ok (.if_icmp .ge 7, 3) := by decide +kernel
theorem dX10_cylinderAt_7 : decode cX10_cylinderAt 7 = .ok (.iconst 0, 1) := by decide +kernel
theorem dX10_cylinderAt_8 : decode cX10_cylinderAt 8 = .ok (.goto 26, 3) := by decide +kernel
theorem dX10_cylinderAt_11 : decode cX10_cylinderAt 11 = .ok (.iload_n 0, 1) := by decide +kernel
theorem dX10_cylinderAt_12 : decode cX10_cylinderAt 12 = .ok (.sipush 352, 3) := by decide +kernel
theorem dX10_cylinderAt_15 : decode cX10_cylinderAt 15 = .ok (.if_icmp .ge 7, 3) := by decide +kernel
theorem dX10_cylinderAt_18 : decode cX10_cylinderAt 18 = .ok (.iconst 1, 1) := by decide +kernel
theorem dX10_cylinderAt_19 : decode cX10_cylinderAt 19 = .ok (.goto 15, 3) := by decide +kernel
theorem dX10_cylinderAt_22 : decode cX10_cylinderAt 22 = .ok (.iload_n 0, 1) := by decide +kernel
theorem dX10_cylinderAt_23 : decode cX10_cylinderAt 23 = .ok (.sipush 480, 3) := by decide +kernel
theorem dX10_cylinderAt_26 : decode cX10_cylinderAt 26 = .ok (.if_icmp .ge 7, 3) := by decide +kernel
theorem dX10_cylinderAt_29 : decode cX10_cylinderAt 29 = .ok (.iconst 2, 1) := by decide +kernel
theorem dX10_cylinderAt_30 : decode cX10_cylinderAt 30 = .ok (.goto 4, 3) := by decide +kernel
theorem dX10_cylinderAt_33 : decode cX10_cylinderAt 33 = .ok (.iconst 3, 1) := by decide +kernel
theorem dX10_cylinderAt_34 : decode cX10_cylinderAt 34 = .ok (.istore_n 1, 1) := by decide +kernel
theorem dX10_cylinderAt_35 : decode cX10_cylinderAt 35 = .ok (.bipush 16, 2) := by decide +kernel
theorem dX10_cylinderAt_37 : decode cX10_cylinderAt 37 = .ok (.iload_n 1, 1) := by decide +kernel
theorem dX10_cylinderAt_38 : decode cX10_cylinderAt 38 = .ok (.imul, 1) := by decide +kernel
theorem dX10_cylinderAt_39 : decode cX10_cylinderAt 39 = .ok (.iload_n 0, 1) := by decide +kernel
theorem dX10_cylinderAt_40 : decode cX10_cylinderAt 40 = .ok (.iload_n 1, 1) := by decide +kernel
theorem dX10_cylinderAt_41 : decode cX10_cylinderAt 41 = .ok (.invokestatic 50, 3) := by decide +kernel
theorem dX10_cylinderAt_44 : decode cX10_cylinderAt 44 = .ok (.isub, 1) := by decide +kernel
theorem dX10_cylinderAt_45 : decode cX10_cylinderAt 45 = .ok (.bipush 16, 2) := by decide +kernel
theorem dX10_cylinderAt_47 : decode cX10_cylinderAt 47 = .ok (.iload_n 1, 1) := by decide +kernel
theorem dX10_cylinderAt_48 : decode cX10_cylinderAt 48 = .ok (.imul, 1) := by decide +kernel
theorem dX10_cylinderAt_49 : decode cX10_cylinderAt 49 = .ok (.invokestatic 46, 3) := by decide +kernel
theorem dX10_cylinderAt_52 : decode cX10_cylinderAt 52 = .ok (.idiv, 1) := by decide +kernel
theorem dX10_cylinderAt_53 : decode cX10_cylinderAt 53 = .ok (.iadd, 1) := by decide +kernel
theorem dX10_cylinderAt_54 : decode cX10_cylinderAt 54 = .ok (.ireturn, 1) := by decide +kernel
theorem dX10_place_0 : decode cX10_place 0 = .ok (.iconst 0, 1) := by decide +kernel
theorem dX10_place_1 : decode cX10_place 1 = .ok (.istore_n 2, 1) := by decide +kernel
theorem dX10_place_2 : decode cX10_place 2 = .ok (.iload_n 2, 1) := by decide +kernel
theorem dX10_place_3 : decode cX10_place 3 = .ok (.aload_n 0, 1) := by decide +kernel
theorem dX10_place_4 : decode cX10_place 4 = .ok (.getfield 7, 3) := by decide +kernel
theorem dX10_place_7 : decode cX10_place 7 = .ok (.bipush 11, 2) := by decide +kernel
theorem dX10_place_9 : decode cX10_place 9 = .ok (.iaload, 1) := by decide +kernel
theorem dX10_place_10 : decode cX10_place 10 = .ok (.if_icmp .ge 28, 3) := by decide +kernel
theorem dX10_place_13 : decode cX10_place 13 = .ok (.aload_n 0, 1) := by decide +kernel
theorem dX10_place_14 : decode cX10_place 14 = .ok (.getfield 7, 3) := by decide +kernel
theorem dX10_place_17 : decode cX10_place 17 = .ok (.bipush 20, 2) := by decide +kernel
theorem dX10_place_19 : decode cX10_place 19 = .ok (.iload_n 2, 1) := by decide +kernel
theorem dX10_place_20 : decode cX10_place 20 = .ok (.iadd, 1) := by decide +kernel
theorem dX10_place_21 : decode cX10_place 21 = .ok (.iaload, 1) := by decide +kernel
theorem dX10_place_22 : decode cX10_place 22 = .ok (.iload_n 1, 1) := by decide +kernel
theorem dX10_place_23 : decode cX10_place 23 = .ok (.if_icmp .ne 9, 3) := by decide +kernel
theorem dX10_place_26 : decode cX10_place 26 = .ok (.sipush 572, 3) := by decide +kernel
theorem dX10_place_29 : decode cX10_place 29 = .ok (.iload_n 2, 1) := by decide +kernel
theorem dX10_place_30 : decode cX10_place 30 = .ok (.iadd, 1) := by decide +kernel
theorem dX10_place_31 : decode cX10_place 31 = .ok (.ireturn, 1) := by decide +kernel
theorem dX10_place_32 : decode cX10_place 32 = .ok (.iinc 2 1, 3) := by decide +kernel
theorem dX10_place_35 : decode cX10_place 35 = .ok (.goto (-33), 3) := by decide +kernel
theorem dX10_place_38 : decode cX10_place 38 = .ok (.iload_n 1, 1) := by decide +kernel
theorem dX10_place_39 : decode cX10_place 39 = .ok (.ireturn, 1) := by decide +kernel
theorem dX10_angleAt_0 : decode cX10_angleAt 0 = .ok (.iload_n 1, 1) := by decide +kernel
theorem dX10_angleAt_1 : decode cX10_angleAt 1 = .ok (.invokestatic 53, 3) := by decide +kernel
theorem dX10_angleAt_4 : decode cX10_angleAt 4 = .ok (.istore_n 2, 1) := by decide +kernel
theorem dX10_angleAt_5 : decode cX10_angleAt 5 = .ok (.iload_n 1, 1) := by decide +kernel
theorem dX10_angleAt_6 : decode cX10_angleAt 6 = .ok (.iload_n 2, 1) := by decide +kernel
theorem dX10_angleAt_7 : decode cX10_angleAt 7 = .ok (.invokestatic 56, 3) := by decide +kernel
theorem dX10_angleAt_10 : decode cX10_angleAt 10 = .ok (.isub, 1) := by decide +kernel
theorem dX10_angleAt_11 : decode cX10_angleAt 11 = .ok (.iload_n 2, 1) := by decide +kernel
theorem dX10_angleAt_12 : decode cX10_angleAt 12 = .ok (.invokestatic 59, 3) := by decide +kernel
theorem dX10_angleAt_15 : decode cX10_angleAt 15 = .ok (.imul, 1) := by decide +kernel
theorem dX10_angleAt_16 : decode cX10_angleAt 16 = .ok (.iload_n 2, 1) := by decide +kernel
theorem dX10_angleAt_17 : decode cX10_angleAt 17 = .ok (.aload_n 0, 1) := by decide +kernel
theorem dX10_angleAt_18 : decode cX10_angleAt 18 = .ok (.getfield 7, 3) := by decide +kernel
theorem dX10_angleAt_21 : decode cX10_angleAt 21 = .ok (.iconst 3, 1) := by decide +kernel
theorem dX10_angleAt_22 : decode cX10_angleAt 22 = .ok (.iaload, 1) := by decide +kernel
theorem dX10_angleAt_23 : decode cX10_angleAt 23 = .ok (.imul, 1) := by decide +kernel
theorem dX10_angleAt_24 : decode cX10_angleAt 24 = .ok (.iadd, 1) := by decide +kernel
theorem dX10_angleAt_25 : decode cX10_angleAt 25 = .ok (.bipush 120, 2) := by decide +kernel
theorem dX10_angleAt_27 : decode cX10_angleAt 27 = .ok (.irem, 1) := by decide +kernel
theorem dX10_angleAt_28 : decode cX10_angleAt 28 = .ok (.ireturn, 1) := by decide +kernel
theorem dX10_rootOf_0 : decode cX10_rootOf 0 = .ok (.iconst 0, 1) := by decide +kernel
theorem dX10_rootOf_1 : decode cX10_rootOf 1 = .ok (.istore_n 1, 1) := by decide +kernel
theorem dX10_rootOf_2 : decode cX10_rootOf 2 = .ok (.iload_n 1, 1) := by decide +kernel
theorem dX10_rootOf_3 : decode cX10_rootOf 3 = .ok (.iconst 1, 1) := by decide +kernel
theorem dX10_rootOf_4 : decode cX10_rootOf 4 = .ok (.iadd, 1) := by decide +kernel
theorem dX10_rootOf_5 : decode cX10_rootOf 5 = .ok (.iload_n 1, 1) := by decide +kernel
theorem dX10_rootOf_6 : decode cX10_rootOf 6 = .ok (.iconst 1, 1) := by decide +kernel
theorem dX10_rootOf_7 : decode cX10_rootOf 7 = .ok (.iadd, 1) := by decide +kernel
theorem dX10_rootOf_8 : decode cX10_rootOf 8 = .ok (.imul, 1) := by decide +kernel
theorem dX10_rootOf_9 : decode cX10_rootOf 9 = .ok (.iload_n 0, 1) := by decide +kernel
theorem dX10_rootOf_10 : decode cX10_rootOf 10 = .ok (.if_icmp .gt 9, 3) := by decide +kernel
theorem dX10_rootOf_13 : decode cX10_rootOf 13 = .ok (.iinc 1 1, 3) := by decide +kernel
theorem dX10_rootOf_16 : decode cX10_rootOf 16 = .ok (.goto (-14), 3) := by decide +kernel
theorem dX10_rootOf_19 : decode cX10_rootOf 19 = .ok (.iload_n 1, 1) := by decide +kernel
theorem dX10_rootOf_20 : decode cX10_rootOf 20 = .ok (.ireturn, 1) := by decide +kernel
theorem dX10_seek_0 : decode cX10_seek 0 = .ok (.iload_n 1, 1) := by decide +kernel
theorem dX10_seek_1 : decode cX10_seek 1 = .ok (.iload_n 2, 1) := by decide +kernel
theorem dX10_seek_2 : decode cX10_seek 2 = .ok (.if_icmp .ge 9, 3) := by decide +kernel
theorem dX10_seek_5 : decode cX10_seek 5 = .ok (.iload_n 2, 1) := by decide +kernel
theorem dX10_seek_6 : decode cX10_seek 6 = .ok (.iload_n 1, 1) := by decide +kernel
theorem dX10_seek_7 : decode cX10_seek 7 = .ok (.isub, 1) := by decide +kernel
theorem dX10_seek_8 : decode cX10_seek 8 = .ok (.goto 6, 3) := by decide +kernel
theorem dX10_seek_11 : decode cX10_seek 11 = .ok (.iload_n 1, 1) := by decide +kernel
theorem dX10_seek_12 : decode cX10_seek 12 = .ok (.iload_n 2, 1) := by decide +kernel
theorem dX10_seek_13 : decode cX10_seek 13 = .ok (.isub, 1) := by decide +kernel
theorem dX10_seek_14 : decode cX10_seek 14 = .ok (.istore_n 3, 1) := by decide +kernel
theorem dX10_seek_15 : decode cX10_seek 15 = .ok (.iload_n 3, 1) := by decide +kernel
theorem dX10_seek_16 : decode cX10_seek 16 = .ok (.ifCond .ne 7, 3) := by decide +kernel
theorem dX10_seek_19 : decode cX10_seek 19 = .ok (.iconst 0, 1) := by decide +kernel
theorem dX10_seek_20 : decode cX10_seek 20 = .ok (.goto 30, 3) := by decide +kernel
theorem dX10_seek_23 : decode cX10_seek 23 = .ok (.aload_n 0, 1) := by decide +kernel
theorem dX10_seek_24 : decode cX10_seek 24 = .ok (.getfield 7, 3) := by decide +kernel
theorem dX10_seek_27 : decode cX10_seek 27 = .ok (.iconst 0, 1) := by decide +kernel
theorem dX10_seek_28 : decode cX10_seek 28 = .ok (.iaload, 1) := by decide +kernel
theorem dX10_seek_29 : decode cX10_seek 29 = .ok (.aload_n 0, 1) := by decide +kernel
theorem dX10_seek_30 : decode cX10_seek 30 = .ok (.getfield 7, 3) := by decide +kernel
theorem dX10_seek_33 : decode cX10_seek 33 = .ok (.iconst 1, 1) := by decide +kernel
theorem dX10_seek_34 : decode cX10_seek 34 = .ok (.iaload, 1) := by decide +kernel
theorem dX10_seek_35 : decode cX10_seek 35 = .ok (.iload_n 3, 1) := by decide +kernel
theorem dX10_seek_36 : decode cX10_seek 36 = .ok (.invokestatic 62, 3) := by decide +kernel
theorem dX10_seek_39 : decode cX10_seek 39 = .ok (.imul, 1) := by decide +kernel
theorem dX10_seek_40 : decode cX10_seek 40 = .ok (.iadd, 1) := by decide +kernel
theorem dX10_seek_41 : decode cX10_seek 41 = .ok (.aload_n 0, 1) := by decide +kernel
theorem dX10_seek_42 : decode cX10_seek 42 = .ok (.getfield 7, 3) := by decide +kernel
theorem dX10_seek_45 : decode cX10_seek 45 = .ok (.iconst 2, 1) := by decide +kernel
theorem dX10_seek_46 : decode cX10_seek 46 = .ok (.iaload, 1) := by decide +kernel
theorem dX10_seek_47 : decode cX10_seek 47 = .ok (.iload_n 3, 1) := by decide +kernel
theorem dX10_seek_48 : decode cX10_seek 48 = .ok (.imul, 1) := by decide +kernel
theorem dX10_seek_49 : decode cX10_seek 49 = .ok (.iadd, 1) := by decide +kernel
theorem dX10_seek_50 : decode cX10_seek 50 = .ok (.ireturn, 1) := by decide +kernel
theorem dX10_waits_0 : decode cX10_waits 0 = .ok (.aload_n 0, 1) := by decide +kernel
theorem dX10_waits_1 : decode cX10_waits 1 = .ok (.iload_n 2, 1) := by decide +kernel
theorem dX10_waits_2 : decode cX10_waits 2 = .ok (.invokevirtual 65, 3) := by decide +kernel
theorem dX10_waits_5 : decode cX10_waits 5 = .ok (.iload_n 1, 1) := by decide +kernel
theorem dX10_waits_6 : decode cX10_waits 6 = .ok (.bipush 120, 2) := by decide +kernel
theorem dX10_waits_8 : decode cX10_waits 8 = .ok (.irem, 1) := by decide +kernel
theorem dX10_waits_9 : decode cX10_waits 9 = .ok (.isub, 1) := by decide +kernel
theorem dX10_waits_10 : decode cX10_waits 10 = .ok (.bipush 120, 2) := by decide +kernel
theorem dX10_waits_12 : decode cX10_waits 12 = .ok (.iadd, 1) := by decide +kernel
theorem dX10_waits_13 : decode cX10_waits 13 = .ok (.bipush 120, 2) := by decide +kernel
theorem dX10_waits_15 : decode cX10_waits 15 = .ok (.irem, 1) := by decide +kernel
theorem dX10_waits_16 : decode cX10_waits 16 = .ok (.ireturn, 1) := by decide +kernel
theorem dX10_ends_0 : decode cX10_ends 0 = .ok (.iload_n 3, 1) := by decide +kernel
theorem dX10_ends_1 : decode cX10_ends 1 = .ok (.invokestatic 53, 3) := by decide +kernel
theorem dX10_ends_4 : decode cX10_ends 4 = .ok (.istore 4, 2) := by decide +kernel
theorem dX10_ends_6 : decode cX10_ends 6 = .ok (.iload_n 1, 1) := by decide +kernel
theorem dX10_ends_7 : decode cX10_ends 7 = .ok (.aload_n 0, 1) := by decide +kernel
theorem dX10_ends_8 : decode cX10_ends 8 = .ok (.iload_n 2, 1) := by decide +kernel
theorem dX10_ends_9 : decode cX10_ends 9 = .ok (.iload 4, 2) := by decide +kernel
theorem dX10_ends_11 : decode cX10_ends 11 = .ok (.invokevirtual 68, 3) := by decide +kernel
theorem dX10_ends_14 : decode cX10_ends 14 = .ok (.iadd, 1) := by decide +kernel
theorem dX10_ends_15 : decode cX10_ends 15 = .ok (.istore 5, 2) := by decide +kernel
theorem dX10_ends_17 : decode cX10_ends 17 = .ok (.iload 5, 2) := by decide +kernel
theorem dX10_ends_19 : decode cX10_ends 19 = .ok (.aload_n 0, 1) := by decide +kernel
theorem dX10_ends_20 : decode cX10_ends 20 = .ok (.iload 5, 2) := by decide +kernel
theorem dX10_ends_22 : decode cX10_ends 22 = .ok (.iload_n 3, 1) := by decide +kernel
theorem dX10_ends_23 : decode cX10_ends 23 = .ok (.invokevirtual 72, 3) := by decide +kernel
theorem dX10_ends_26 : decode cX10_ends 26 = .ok (.iadd, 1) := by decide +kernel
theorem dX10_ends_27 : decode cX10_ends 27 = .ok (.iload 4, 2) := by decide +kernel
theorem dX10_ends_29 : decode cX10_ends 29 = .ok (.invokestatic 59, 3) := by decide +kernel
theorem dX10_ends_32 : decode cX10_ends 32 = .ok (.iadd, 1) := by decide +kernel
theorem dX10_ends_33 : decode cX10_ends 33 = .ok (.ireturn, 1) := by decide +kernel
theorem dX10_accesses_0 : decode cX10_accesses 0 = .ok (.iload_n 1, 1) := by decide +kernel
theorem dX10_accesses_1 : decode cX10_accesses 1 = .ok (.invokestatic 53, 3) := by decide +kernel
theorem dX10_accesses_4 : decode cX10_accesses 4 = .ok (.istore_n 2, 1) := by decide +kernel
theorem dX10_accesses_5 : decode cX10_accesses 5 = .ok (.aload_n 0, 1) := by decide +kernel
theorem dX10_accesses_6 : decode cX10_accesses 6 = .ok (.aload_n 0, 1) := by decide +kernel
theorem dX10_accesses_7 : decode cX10_accesses 7 = .ok (.getfield 7, 3) := by decide +kernel
theorem dX10_accesses_10 : decode cX10_accesses 10 = .ok (.bipush 9, 2) := by decide +kernel
theorem dX10_accesses_12 : decode cX10_accesses 12 = .ok (.iaload, 1) := by decide +kernel
theorem dX10_accesses_13 : decode cX10_accesses 13 = .ok (.iload_n 2, 1) := by decide +kernel
theorem dX10_accesses_14 : decode cX10_accesses 14 = .ok (.invokevirtual 68, 3) := by decide +kernel
theorem dX10_accesses_17 : decode cX10_accesses 17 = .ok (.istore_n 3, 1) := by decide +kernel
theorem dX10_accesses_18 : decode cX10_accesses 18 = .ok (.aload_n 0, 1) := by decide +kernel
theorem dX10_accesses_19 : decode cX10_accesses 19 = .ok (.aload_n 0, 1) := by decide +kernel
theorem dX10_accesses_20 : decode cX10_accesses 20 = .ok (.getfield 7, 3) := by decide +kernel
theorem dX10_accesses_23 : decode cX10_accesses 23 = .ok (.bipush 8, 2) := by decide +kernel
theorem dX10_accesses_25 : decode cX10_accesses 25 = .ok (.iaload, 1) := by decide +kernel
theorem dX10_accesses_26 : decode cX10_accesses 26 = .ok (.iload_n 3, 1) := by decide +kernel
theorem dX10_accesses_27 : decode cX10_accesses 27 = .ok (.iadd, 1) := by decide +kernel
theorem dX10_accesses_28 : decode cX10_accesses 28 = .ok (.iload_n 1, 1) := by decide +kernel
theorem dX10_accesses_29 : decode cX10_accesses 29 = .ok (.invokevirtual 72, 3) := by decide +kernel
theorem dX10_accesses_32 : decode cX10_accesses 32 = .ok (.istore 4, 2) := by decide +kernel
theorem dX10_accesses_34 : decode cX10_accesses 34 = .ok (.aload_n 0, 1) := by decide +kernel
theorem dX10_accesses_35 : decode cX10_accesses 35 = .ok (.getfield 7, 3) := by decide +kernel
theorem dX10_accesses_38 : decode cX10_accesses 38 = .ok (.bipush 13, 2) := by decide +kernel
theorem dX10_accesses_40 : decode cX10_accesses 40 = .ok (.dup2, 1) := by decide +kernel
theorem dX10_accesses_41 : decode cX10_accesses 41 = .ok (.iaload, 1) := by decide +kernel
theorem dX10_accesses_42 : decode cX10_accesses 42 = .ok (.iload_n 3, 1) := by decide +kernel
theorem dX10_accesses_43 : decode cX10_accesses 43 = .ok (.iadd, 1) := by decide +kernel
theorem dX10_accesses_44 : decode cX10_accesses 44 = .ok (.iastore, 1) := by decide +kernel
theorem dX10_accesses_45 : decode cX10_accesses 45 = .ok (.aload_n 0, 1) := by decide +kernel
theorem dX10_accesses_46 : decode cX10_accesses 46 = .ok (.getfield 7, 3) := by decide +kernel
theorem dX10_accesses_49 : decode cX10_accesses 49 = .ok (.bipush 14, 2) := by decide +kernel
theorem dX10_accesses_51 : decode cX10_accesses 51 = .ok (.dup2, 1) := by decide +kernel
theorem dX10_accesses_52 : decode cX10_accesses 52 = .ok (.iaload, 1) := by decide +kernel
theorem dX10_accesses_53 : decode cX10_accesses 53 = .ok (.iload 4, 2) := by decide +kernel
theorem dX10_accesses_55 : decode cX10_accesses 55 = .ok (.iadd, 1) := by decide +kernel
theorem dX10_accesses_56 : decode cX10_accesses 56 = .ok (.iastore, 1) := by decide +kernel
theorem dX10_accesses_57 : decode cX10_accesses 57 = .ok (.aload_n 0, 1) := by decide +kernel
theorem dX10_accesses_58 : decode cX10_accesses 58 = .ok (.getfield 7, 3) := by decide +kernel
theorem dX10_accesses_61 : decode cX10_accesses 61 = .ok (.bipush 15, 2) := by decide +kernel
theorem dX10_accesses_63 : decode cX10_accesses 63 = .ok (.dup2, 1) := by decide +kernel
theorem dX10_accesses_64 : decode cX10_accesses 64 = .ok (.iaload, 1) := by decide +kernel
theorem dX10_accesses_65 : decode cX10_accesses 65 = .ok (.iload_n 2, 1) := by decide +kernel
theorem dX10_accesses_66 : decode cX10_accesses 66 = .ok (.invokestatic 59, 3) := by decide +kernel
theorem dX10_accesses_69 : decode cX10_accesses 69 = .ok (.iadd, 1) := by decide +kernel
theorem dX10_accesses_70 : decode cX10_accesses 70 = .ok (.iastore, 1) := by decide +kernel
theorem dX10_accesses_71 : decode cX10_accesses 71 = .ok (.aload_n 0, 1) := by decide +kernel
theorem dX10_accesses_72 : decode cX10_accesses 72 = .ok (.getfield 7, 3) := by decide +kernel
theorem dX10_accesses_75 : decode cX10_accesses 75 = .ok (.bipush 16, 2) := by decide +kernel
theorem dX10_accesses_77 : decode cX10_accesses 77 = .ok (.dup2, 1) := by decide +kernel
theorem dX10_accesses_78 : decode cX10_accesses 78 = .ok (.iaload, 1) := by decide +kernel
theorem dX10_accesses_79 : decode cX10_accesses 79 = .ok (.iconst 1, 1) := by decide +kernel
theorem dX10_accesses_80 : decode cX10_accesses 80 = .ok (.iadd, 1) := by decide +kernel
theorem dX10_accesses_81 : decode cX10_accesses 81 = .ok (.iastore, 1) := by decide +kernel
theorem dX10_accesses_82 : decode cX10_accesses 82 = .ok (.aload_n 0, 1) := by decide +kernel
theorem dX10_accesses_83 : decode cX10_accesses 83 = .ok (.getfield 7, 3) := by decide +kernel
theorem dX10_accesses_86 : decode cX10_accesses 86 = .ok (.sipush 1100, 3) := by decide +kernel
theorem dX10_accesses_89 : decode cX10_accesses 89 = .ok (.iload_n 1, 1) := by decide +kernel
theorem dX10_accesses_90 : decode cX10_accesses 90 = .ok (.iadd, 1) := by decide +kernel
theorem dX10_accesses_91 : decode cX10_accesses 91 = .ok (.dup2, 1) := by decide +kernel
theorem dX10_accesses_92 : decode cX10_accesses 92 = .ok (.iaload, 1) := by decide +kernel
theorem dX10_accesses_93 : decode cX10_accesses 93 = .ok (.iconst 1, 1) := by decide +kernel
theorem dX10_accesses_94 : decode cX10_accesses 94 = .ok (.iadd, 1) := by decide +kernel
theorem dX10_accesses_95 : decode cX10_accesses 95 = .ok (.iastore, 1) := by decide +kernel
theorem dX10_accesses_96 : decode cX10_accesses 96 = .ok (.aload_n 0, 1) := by decide +kernel
theorem dX10_accesses_97 : decode cX10_accesses 97 = .ok (.getfield 7, 3) := by decide +kernel
theorem dX10_accesses_100 : decode cX10_accesses 100 = .ok (.bipush 8, 2) := by decide +kernel
theorem dX10_accesses_102 : decode cX10_accesses 102 = .ok (.dup2, 1) := by decide +kernel
theorem dX10_accesses_103 : decode cX10_accesses 103 = .ok (.iaload, 1) := by decide +kernel
theorem dX10_accesses_104 : decode cX10_accesses 104 = .ok (.iload_n 3, 1) := by decide +kernel
theorem dX10_accesses_105 : decode cX10_accesses 105 = .ok (.iload 4, 2) := by decide +kernel
theorem dX10_accesses_107 : decode cX10_accesses 107 = .ok (.iadd, 1) := by decide +kernel
theorem dX10_accesses_108 : decode cX10_accesses 108 = .ok (.iload_n 2, 1) := by decide +kernel
theorem dX10_accesses_109 : decode cX10_accesses 109 = .ok (.invokestatic 59, 3) := by decide +kernel
theorem dX10_accesses_112 : decode cX10_accesses 112 = .ok (.iadd, 1) := by decide +kernel
theorem dX10_accesses_113 : decode cX10_accesses 113 = .ok (.iadd, 1) := by decide +kernel
theorem dX10_accesses_114 : decode cX10_accesses 114 = .ok (.iastore, 1) := by decide +kernel
theorem dX10_accesses_115 : decode cX10_accesses 115 = .ok (.aload_n 0, 1) := by decide +kernel
theorem dX10_accesses_116 : decode cX10_accesses 116 = .ok (.getfield 7, 3) := by decide +kernel
theorem dX10_accesses_119 : decode cX10_accesses 119 = .ok (.bipush 9, 2) := by decide +kernel
theorem dX10_accesses_121 : decode cX10_accesses 121 = .ok (.iload_n 2, 1) := by decide +kernel
theorem dX10_accesses_122 : decode cX10_accesses 122 = .ok (.iastore, 1) := by decide +kernel
theorem dX10_accesses_123 : decode cX10_accesses 123 = .ok (.return_, 1) := by decide +kernel
theorem dX10_setCurve_0 : decode cX10_setCurve 0 = .ok (.aload_n 0, 1) := by decide +kernel
theorem dX10_setCurve_1 : decode cX10_setCurve 1 = .ok (.iconst 0, 1) := by decide +kernel
theorem dX10_setCurve_2 : decode cX10_setCurve 2 = .ok (.putfield 39, 3) := by decide +kernel
theorem dX10_setCurve_5 : decode cX10_setCurve 5 = .ok (.iload_n 1, 1) := by decide +kernel
theorem dX10_setCurve_6 : decode cX10_setCurve 6 = .ok (.iconst 0, 1) := by decide +kernel
theorem dX10_setCurve_7 : decode cX10_setCurve 7 = .ok (.bipush 50, 2) := by decide +kernel
theorem dX10_setCurve_9 : decode cX10_setCurve 9 = .ok (.invokestatic 42, 3) := by decide +kernel
theorem dX10_setCurve_12 : decode cX10_setCurve 12 = .ok (.ifCond .eq 23, 3) := by decide +kernel
theorem dX10_setCurve_15 : decode cX10_setCurve 15 = .ok (.iload_n 2, 1) := by decide +kernel
theorem dX10_setCurve_16 : decode cX10_setCurve 16 = .ok (.iconst 0, 1) := by decide +kernel
theorem dX10_setCurve_17 : decode cX10_setCurve 17 = .ok (.bipush 20, 2) := by decide +kernel
theorem dX10_setCurve_19 : decode cX10_setCurve 19 = .ok (.invokestatic 42, 3) := by decide +kernel
theorem dX10_setCurve_22 : decode cX10_setCurve 22 = .ok (.ifCond .eq 13, 3) := by decide +kernel
theorem dX10_setCurve_25 : decode cX10_setCurve 25 = .ok (.iload_n 3, 1) := by decide +kernel
theorem dX10_setCurve_26 : decode cX10_setCurve 26 = .ok (.iconst 0, 1) := by decide +kernel
theorem dX10_setCurve_27 : decode cX10_setCurve 27 = .ok (.bipush 9, 2) := by decide +kernel
theorem dX10_setCurve_29 : decode cX10_setCurve 29 = .ok (.invokestatic 42, 3) := by decide +kernel
theorem dX10_setCurve_32 : decode cX10_setCurve 32 = .ok (.ifCond .ne 9, 3) := by decide +kernel
theorem dX10_setCurve_35 : decode cX10_setCurve 35 = .ok (.aload_n 0, 1) := by decide +kernel
theorem dX10_setCurve_36 : decode cX10_setCurve 36 = .ok (.iconst 1, 1) := by decide +kernel
theorem dX10_setCurve_37 : decode cX10_setCurve 37 = .ok (.putfield 39, 3) := by decide +kernel
theorem dX10_setCurve_40 : decode cX10_setCurve 40 = .ok (.return_, 1) := by decide +kernel
theorem dX10_setCurve_41 : decode cX10_setCurve 41 = .ok (.aload_n 0, 1) := by decide +kernel
theorem dX10_setCurve_42 : decode cX10_setCurve 42 = .ok (.getfield 7, 3) := by decide +kernel
theorem dX10_setCurve_45 : decode cX10_setCurve 45 = .ok (.iconst 0, 1) := by decide +kernel
theorem dX10_setCurve_46 : decode cX10_setCurve 46 = .ok (.iload_n 1, 1) := by decide +kernel
theorem dX10_setCurve_47 : decode cX10_setCurve 47 = .ok (.iastore, 1) := by decide +kernel
theorem dX10_setCurve_48 : decode cX10_setCurve 48 = .ok (.aload_n 0, 1) := by decide +kernel
theorem dX10_setCurve_49 : decode cX10_setCurve 49 = .ok (.getfield 7, 3) := by decide +kernel
theorem dX10_setCurve_52 : decode cX10_setCurve 52 = .ok (.iconst 1, 1) := by decide +kernel
theorem dX10_setCurve_53 : decode cX10_setCurve 53 = .ok (.iload_n 2, 1) := by decide +kernel
theorem dX10_setCurve_54 : decode cX10_setCurve 54 = .ok (.iastore, 1) := by decide +kernel
theorem dX10_setCurve_55 : decode cX10_setCurve 55 = .ok (.aload_n 0, 1) := by decide +kernel
theorem dX10_setCurve_56 : decode cX10_setCurve 56 = .ok (.getfield 7, 3) := by decide +kernel
theorem dX10_setCurve_59 : decode cX10_setCurve 59 = .ok (.iconst 2, 1) := by decide +kernel
theorem dX10_setCurve_60 : decode cX10_setCurve 60 = .ok (.iload_n 3, 1) := by decide +kernel
theorem dX10_setCurve_61 : decode cX10_setCurve 61 = .ok (.iastore, 1) := by decide +kernel
theorem dX10_setCurve_62 : decode cX10_setCurve 62 = .ok (.return_, 1) := by decide +kernel
theorem dX10_becomes_0 : decode cX10_becomes 0 = .ok (.aload_n 0, 1) := by decide +kernel
theorem dX10_becomes_1 : decode cX10_becomes 1 = .ok (.getfield 7, 3) := by decide +kernel
theorem dX10_becomes_4 : decode cX10_becomes 4 = .ok (.iload_n 1, 1) := by decide +kernel
theorem dX10_becomes_5 : decode cX10_becomes 5 = .ok (.iaload, 1) := by decide +kernel
theorem dX10_becomes_6 : decode cX10_becomes 6 = .ok (.istore_n 3, 1) := by decide +kernel
theorem dX10_becomes_7 : decode cX10_becomes 7 = .ok (.aload_n 0, 1) := by decide +kernel
theorem dX10_becomes_8 : decode cX10_becomes 8 = .ok (.getfield 7, 3) := by decide +kernel
theorem dX10_becomes_11 : decode cX10_becomes 11 = .ok (.iload_n 1, 1) := by decide +kernel
theorem dX10_becomes_12 : decode cX10_becomes 12 = .ok (.iload_n 2, 1) := by decide +kernel
theorem dX10_becomes_13 : decode cX10_becomes 13 = .ok (.iastore, 1) := by decide +kernel
theorem dX10_becomes_14 : decode cX10_becomes 14 = .ok (.iload_n 3, 1) := by decide +kernel
theorem dX10_becomes_15 : decode cX10_becomes 15 = .ok (.ireturn, 1) := by decide +kernel
theorem dX10_setSkew_0 : decode cX10_setSkew 0 = .ok (.aload_n 0, 1) := by decide +kernel
theorem dX10_setSkew_1 : decode cX10_setSkew 1 = .ok (.iconst 0, 1) := by decide +kernel
theorem dX10_setSkew_2 : decode cX10_setSkew 2 = .ok (.putfield 39, 3) := by decide +kernel
theorem dX10_setSkew_5 : decode cX10_setSkew 5 = .ok (.iload_n 1, 1) := by decide +kernel
theorem dX10_setSkew_6 : decode cX10_setSkew 6 = .ok (.iconst 0, 1) := by decide +kernel
theorem dX10_setSkew_7 : decode cX10_setSkew 7 = .ok (.bipush 40, 2) := by decide +kernel
theorem dX10_setSkew_9 : decode cX10_setSkew 9 = .ok (.invokestatic 42, 3) := by decide +kernel
theorem dX10_setSkew_12 : decode cX10_setSkew 12 = .ok (.ifCond .eq 12, 3) := by decide +kernel
theorem dX10_setSkew_15 : decode cX10_setSkew 15 = .ok (.aload_n 0, 1) := by decide +kernel
theorem dX10_setSkew_16 : decode cX10_setSkew 16 = .ok (.iconst 3, 1) := by decide +kernel
theorem dX10_setSkew_17 : decode cX10_setSkew 17 = .ok (.iload_n 1, 1) := by decide +kernel
theorem dX10_setSkew_18 : decode cX10_setSkew 18 = .ok (.invokevirtual 75, 3) := by decide +kernel
theorem dX10_setSkew_21 : decode cX10_setSkew 21 = .ok (.goto 8, 3) := by decide +kernel
theorem dX10_setSkew_24 : decode cX10_setSkew 24 = .ok (.aload_n 0, 1) := by decide +kernel
theorem dX10_setSkew_25 : decode cX10_setSkew 25 = .ok (.iconst 1, 1) := by decide +kernel
theorem dX10_setSkew_26 : decode cX10_setSkew 26 = .ok (.invokevirtual 78, 3) := by decide +kernel
theorem dX10_setSkew_29 : decode cX10_setSkew 29 = .ok (.ireturn, 1) := by decide +kernel
theorem dX10_setPolicy_0 : decode cX10_setPolicy 0 = .ok (.aload_n 0, 1) := by decide +kernel
theorem dX10_setPolicy_1 : decode cX10_setPolicy 1 = .ok (.iconst 0, 1) := by decide +kernel
theorem dX10_setPolicy_2 : decode cX10_setPolicy 2 = .ok (.putfield 39, 3) := by decide +kernel
theorem dX10_setPolicy_5 : decode cX10_setPolicy 5 = .ok (.iload_n 1, 1) := by decide +kernel
theorem dX10_setPolicy_6 : decode cX10_setPolicy 6 = .ok (.iconst 0, 1) := by decide +kernel
theorem dX10_setPolicy_7 : decode cX10_setPolicy 7 = .ok (.bipush 6, 2) := by decide +kernel
theorem dX10_setPolicy_9 : decode cX10_setPolicy 9 = .ok (.invokestatic 42, 3) := by decide +kernel
theorem dX10_setPolicy_12 : decode cX10_setPolicy 12 = .ok (.ifCond .eq 12, 3) := by decide +kernel
theorem dX10_setPolicy_15 : decode cX10_setPolicy 15 = .ok (.aload_n 0, 1) := by decide +kernel
theorem dX10_setPolicy_16 : decode cX10_setPolicy 16 = .ok (.iconst 4, 1) := by decide +kernel
theorem dX10_setPolicy_17 : decode cX10_setPolicy 17 = .ok (.iload_n 1, 1) := by decide +kernel
theorem dX10_setPolicy_18 : decode cX10_setPolicy 18 = .ok (.invokevirtual 75, 3) := by decide +kernel
theorem dX10_setPolicy_21 : decode cX10_setPolicy 21 = .ok (.goto 8, 3) := by decide +kernel
theorem dX10_setPolicy_24 : decode cX10_setPolicy 24 = .ok (.aload_n 0, 1) := by decide +kernel
theorem dX10_setPolicy_25 : decode cX10_setPolicy 25 = .ok (.iconst 1, 1) := by decide +kernel
theorem dX10_setPolicy_26 : decode cX10_setPolicy 26 = .ok (.invokevirtual 78, 3) := by decide +kernel
theorem dX10_setPolicy_29 : decode cX10_setPolicy 29 = .ok (.ireturn, 1) := by decide +kernel
theorem dX10_setBuckets_0 : decode cX10_setBuckets 0 = .ok (.aload_n 0, 1) := by decide +kernel
theorem dX10_setBuckets_1 : decode cX10_setBuckets 1 = .ok (.iconst 0, 1) := by decide +kernel
theorem dX10_setBuckets_2 : decode cX10_setBuckets 2 = .ok (.putfield 39, 3) := by decide +kernel
theorem dX10_setBuckets_5 : decode cX10_setBuckets 5 = .ok (.iload_n 1, 1) := by decide +kernel
theorem dX10_setBuckets_6 : decode cX10_setBuckets 6 = .ok (.iconst 1, 1) := by decide +kernel
theorem dX10_setBuckets_7 : decode cX10_setBuckets 7 = .ok (.sipush 999, 3) := by decide +kernel
theorem dX10_setBuckets_10 : decode cX10_setBuckets 10 = .ok (.invokestatic 42, 3) := by decide +kernel
theorem dX10_setBuckets_13 : decode cX10_setBuckets 13 = .ok (.ifCond .eq 14, 3) := by decide +kernel
theorem dX10_setBuckets_16 : decode cX10_setBuckets 16 = .ok (.iload_n 2, 1) := by decide +kernel
theorem dX10_setBuckets_17 : decode cX10_setBuckets 17 = .ok (.iconst 1, 1) := by decide +kernel
theorem dX10_setBuckets_18 : decode cX10_setBuckets 18 = .ok (.sipush 9999, 3) := by decide +kernel
theorem dX10_setBuckets_21 : decode cX10_setBuckets 21 = .ok (.invokestatic 42, 3) := by decide +kernel
theorem dX10_setBuckets_24 : decode cX10_setBuckets 24 = .ok (.ifCond .ne 9, 3) := by decide +kernel
theorem dX10_setBuckets_27 : decode cX10_setBuckets 27 = .ok (.aload_n 0, 1) := by decide +kernel
theorem dX10_setBuckets_28 : decode cX10_setBuckets 28 = .ok (.iconst 1, 1) := by decide +kernel
theorem dX10_setBuckets_29 : decode cX10_setBuckets 29 = .ok (.putfield 39, 3) := by decide +kernel
theorem dX10_setBuckets_32 : decode cX10_setBuckets 32 = .ok (.return_, 1) := by decide +kernel
theorem dX10_setBuckets_33 : decode cX10_setBuckets 33 = .ok (.aload_n 0, 1) := by decide +kernel
theorem dX10_setBuckets_34 : decode cX10_setBuckets 34 = .ok (.getfield 7, 3) := by decide +kernel
theorem dX10_setBuckets_37 : decode cX10_setBuckets 37 = .ok (.iconst 5, 1) := by decide +kernel
theorem dX10_setBuckets_38 : decode cX10_setBuckets 38 = .ok (.iload_n 1, 1) := by decide +kernel
theorem dX10_setBuckets_39 : decode cX10_setBuckets 39 = .ok (.iastore, 1) := by decide +kernel
theorem dX10_setBuckets_40 : decode cX10_setBuckets 40 = .ok (.aload_n 0, 1) := by decide +kernel
theorem dX10_setBuckets_41 : decode cX10_setBuckets 41 = .ok (.getfield 7, 3) := by decide +kernel
theorem dX10_setBuckets_44 : decode cX10_setBuckets 44 = .ok (.bipush 6, 2) := by decide +kernel
theorem dX10_setBuckets_46 : decode cX10_setBuckets 46 = .ok (.iload_n 2, 1) := by decide +kernel
theorem dX10_setBuckets_47 : decode cX10_setBuckets 47 = .ok (.iastore, 1) := by decide +kernel
theorem dX10_setBuckets_48 : decode cX10_setBuckets 48 = .ok (.return_, 1) := by decide +kernel
theorem dX10_dirty_0 : decode cX10_dirty 0 = .ok (.iconst 0, 1) := by decide +kernel
theorem dX10_dirty_1 : decode cX10_dirty 1 = .ok (.istore_n 1, 1) := by decide +kernel
theorem dX10_dirty_2 : decode cX10_dirty 2 = .ok (.iconst 0, 1) := by decide +kernel
theorem dX10_dirty_3 : decode cX10_dirty 3 = .ok (.istore_n 2, 1) := by decide +kernel
theorem dX10_dirty_4 : decode cX10_dirty 4 = .ok (.iload_n 2, 1) := by decide +kernel
theorem dX10_dirty_5 : decode cX10_dirty 5 = .ok (.sipush 572, 3) := by decide +kernel
theorem dX10_dirty_8 : decode cX10_dirty 8 = .ok (.if_icmp .ge 22, 3) := by decide +kernel
theorem dX10_dirty_11 : decode cX10_dirty 11 = .ok (.iload_n 1, 1) := by decide +kernel
theorem dX10_dirty_12 : decode cX10_dirty 12 = .ok (.aload_n 0, 1) := by decide +kernel
theorem dX10_dirty_13 : decode cX10_dirty 13 = .ok (.getfield 7, 3) := by decide +kernel
theorem dX10_dirty_16 : decode cX10_dirty 16 = .ok (.sipush 510, 3) := by decide +kernel
theorem dX10_dirty_19 : decode cX10_dirty 19 = .ok (.iload_n 2, 1) := by decide +kernel
theorem dX10_dirty_20 : decode cX10_dirty 20 = .ok (.iadd, 1) := by decide +kernel
theorem dX10_dirty_21 : decode cX10_dirty 21 = .ok (.iaload, 1) := by decide +kernel
theorem dX10_dirty_22 : decode cX10_dirty 22 = .ok (.iadd, 1) := by decide +kernel
theorem dX10_dirty_23 : decode cX10_dirty 23 = .ok (.istore_n 1, 1) := by decide +kernel
theorem dX10_dirty_24 : decode cX10_dirty 24 = .ok (.iinc 2 1, 3) := by decide +kernel
theorem dX10_dirty_27 : decode cX10_dirty 27 = .ok (.goto (-23), 3) := by decide +kernel
theorem dX10_dirty_30 : decode cX10_dirty 30 = .ok (.iload_n 1, 1) := by decide +kernel
theorem dX10_dirty_31 : decode cX10_dirty 31 = .ok (.ireturn, 1) := by decide +kernel
theorem dX10_setWriteBack_0 : decode cX10_setWriteBack 0 = .ok (.aload_n 0, 1) := by decide +kernel
theorem dX10_setWriteBack_1 : decode cX10_setWriteBack 1 = .ok (.iconst 0, 1) := by decide +kernel
theorem dX10_setWriteBack_2 : decode cX10_setWriteBack 2 = .ok (.putfield 39, 3) := by decide +kernel
theorem dX10_setWriteBack_5 : decode cX10_setWriteBack 5 = .ok (.iload_n 1, 1) := by decide +kernel
theorem dX10_setWriteBack_6 : decode cX10_setWriteBack 6 = .ok (.ifCond .ne 17, 3) := by decide +kernel
theorem dX10_setWriteBack_9 : decode cX10_setWriteBack 9 = .ok (.aload_n 0, 1) := by decide +kernel
theorem dX10_setWriteBack_10 : decode cX10_setWriteBack 10 = .ok (.invokevirtual 81, 3) := by decide +kernel
theorem dX10_setWriteBack_13 : decode cX10_setWriteBack 13 = .ok (.ifCond .le 10, 3) := by decide +kernel
theorem dX10_setWriteBack_16 : decode cX10_setWriteBack 16 = .ok (.aload_n 0, 1) := by decide +kernel
theorem dX10_setWriteBack_17 : decode cX10_setWriteBack 17 = .ok (.iconst 1, 1) := by decide +kernel
theorem dX10_setWriteBack_18 : decode cX10_setWriteBack 18 = .ok (.putfield 39, 3) := by decide +kernel
theorem dX10_setWriteBack_21 : decode cX10_setWriteBack 21 = .ok (.iconst 0, 1) := by decide +kernel
theorem dX10_setWriteBack_22 : decode cX10_setWriteBack 22 = .ok (.ireturn, 1) := by decide +kernel
theorem dX10_setWriteBack_23 : decode cX10_setWriteBack 23 = .ok (.aload_n 0, 1) := by decide +kernel
theorem dX10_setWriteBack_24 : decode cX10_setWriteBack 24 = .ok (.bipush 7, 2) := by decide +kernel
theorem dX10_setWriteBack_26 : decode cX10_setWriteBack 26 = .ok (.iload_n 1, 1) := by decide +kernel
theorem dX10_setWriteBack_27 : decode cX10_setWriteBack 27 = .ok (.ifCond .eq 7, 3) := by decide +kernel
theorem dX10_setWriteBack_30 : decode cX10_setWriteBack 30 = .ok (.iconst 1, 1) := by decide +kernel
theorem dX10_setWriteBack_31 : decode cX10_setWriteBack 31 = .ok (.goto 4, 3) := by decide +kernel
theorem dX10_setWriteBack_34 : decode cX10_setWriteBack 34 = .ok (.iconst 0, 1) := by decide +kernel
theorem dX10_setWriteBack_35 : decode cX10_setWriteBack 35 = .ok (.invokevirtual 75, 3) := by decide +kernel
theorem dX10_setWriteBack_38 : decode cX10_setWriteBack 38 = .ok (.iconst 1, 1) := by decide +kernel
theorem dX10_setWriteBack_39 : decode cX10_setWriteBack 39 = .ok (.if_icmp .ne 7, 3) := by decide +kernel
theorem dX10_setWriteBack_42 : decode cX10_setWriteBack 42 = .ok (.iconst 1, 1) := by decide +kernel
theorem dX10_setWriteBack_43 : decode cX10_setWriteBack 43 = .ok (.goto 4, 3) := by decide +kernel
theorem dX10_setWriteBack_46 : decode cX10_setWriteBack 46 = .ok (.iconst 0, 1) := by decide +kernel
theorem dX10_setWriteBack_47 : decode cX10_setWriteBack 47 = .ok (.ireturn, 1) := by decide +kernel
theorem dX10_seekTime_0 : decode cX10_seekTime 0 = .ok (.aload_n 0, 1) := by decide +kernel
theorem dX10_seekTime_1 : decode cX10_seekTime 1 = .ok (.iconst 0, 1) := by decide +kernel
theorem dX10_seekTime_2 : decode cX10_seekTime 2 = .ok (.putfield 39, 3) := by decide +kernel
theorem dX10_seekTime_5 : decode cX10_seekTime 5 = .ok (.iload_n 1, 1) := by decide +kernel
theorem dX10_seekTime_6 : decode cX10_seekTime 6 = .ok (.iconst 0, 1) := by decide +kernel
theorem dX10_seekTime_7 : decode cX10_seekTime 7 = .ok (.bipush 63, 2) := by decide +kernel
theorem dX10_seekTime_9 : decode cX10_seekTime 9 = .ok (.invokestatic 42, 3) := by decide +kernel
theorem dX10_seekTime_12 : decode cX10_seekTime 12 = .ok (.ifCond .eq 22, 3) := by decide +kernel
theorem dX10_seekTime_15 : decode cX10_seekTime 15 = .ok (.iload_n 2, 1) := by decide +kernel
theorem dX10_seekTime_16 : decode cX10_seekTime 16 = .ok (.iconst 0, 1) := by decide +kernel
theorem dX10_seekTime_17 : decode cX10_seekTime 17 = .ok (.bipush 63, 2) := by decide +kernel
theorem dX10_seekTime_19 : decode cX10_seekTime 19 = .ok (.invokestatic 42, 3) := by decide +kernel
theorem dX10_seekTime_22 : decode cX10_seekTime 22 = .ok (.ifCond .eq 12, 3) := by decide +kernel
theorem dX10_seekTime_25 : decode cX10_seekTime 25 = .ok (.aload_n 0, 1) := by decide +kernel
theorem dX10_seekTime_26 : decode cX10_seekTime 26 = .ok (.iload_n 1, 1) := by decide +kernel
theorem dX10_seekTime_27 : decode cX10_seekTime 27 = .ok (.iload_n 2, 1) := by decide +kernel
theorem dX10_seekTime_28 : decode cX10_seekTime 28 = .ok (.invokevirtual 68, 3) := by decide +kernel
theorem dX10_seekTime_31 : decode cX10_seekTime 31 = .ok (.goto 8, 3) := by decide +kernel
theorem dX10_seekTime_34 : decode cX10_seekTime 34 = .ok (.aload_n 0, 1) := by decide +kernel
theorem dX10_seekTime_35 : decode cX10_seekTime 35 = .ok (.iconst 1, 1) := by decide +kernel
theorem dX10_seekTime_36 : decode cX10_seekTime 36 = .ok (.invokevirtual 78, 3) := by decide +kernel
theorem dX10_seekTime_39 : decode cX10_seekTime 39 = .ok (.ireturn, 1) := by decide +kernel
theorem dX10_placeOf_0 : decode cX10_placeOf 0 = .ok (.aload_n 0, 1) := by decide +kernel
theorem dX10_placeOf_1 : decode cX10_placeOf 1 = .ok (.iconst 0, 1) := by decide +kernel
theorem dX10_placeOf_2 : decode cX10_placeOf 2 = .ok (.putfield 39, 3) := by decide +kernel
theorem dX10_placeOf_5 : decode cX10_placeOf 5 = .ok (.iload_n 1, 1) := by decide +kernel
theorem dX10_placeOf_6 : decode cX10_placeOf 6 = .ok (.invokestatic 85, 3) := by decide +kernel
theorem dX10_placeOf_9 : decode cX10_placeOf 9 = .ok (.ifCond .eq 11, 3) := by decide +kernel
theorem dX10_placeOf_12 : decode cX10_placeOf 12 = .ok (.aload_n 0, 1) := by decide +kernel
theorem dX10_placeOf_13 : decode cX10_placeOf 13 = .ok (.iload_n 1, 1) := by decide +kernel
theorem dX10_placeOf_14 : decode cX10_placeOf 14 = .ok (.invokevirtual 89, 3) := by decide +kernel
theorem dX10_placeOf_17 : decode cX10_placeOf 17 = .ok (.goto 8, 3) := by decide +kernel
theorem dX10_placeOf_20 : decode cX10_placeOf 20 = .ok (.aload_n 0, 1) := by decide +kernel
theorem dX10_placeOf_21 : decode cX10_placeOf 21 = .ok (.iconst 1, 1) := by decide +kernel
theorem dX10_placeOf_22 : decode cX10_placeOf 22 = .ok (.invokevirtual 78, 3) := by decide +kernel
theorem dX10_placeOf_25 : decode cX10_placeOf 25 = .ok (.ireturn, 1) := by decide +kernel
theorem dX10_cylinderOf_0 : decode cX10_cylinderOf 0 = .ok (.aload_n 0, 1) := by decide +kernel
theorem dX10_cylinderOf_1 : decode cX10_cylinderOf 1 = .ok (.iconst 0, 1) := by decide +kernel
theorem dX10_cylinderOf_2 : decode cX10_cylinderOf 2 = .ok (.putfield 39, 3) := by decide +kernel
theorem dX10_cylinderOf_5 : decode cX10_cylinderOf 5 = .ok (.iload_n 1, 1) := by decide +kernel
theorem dX10_cylinderOf_6 : decode cX10_cylinderOf 6 = .ok (.invokestatic 85, 3) := by decide +kernel
theorem dX10_cylinderOf_9 : decode cX10_cylinderOf 9 = .ok (.ifCond .eq 14, 3) := by decide +kernel
theorem dX10_cylinderOf_12 : decode cX10_cylinderOf 12 = .ok (.aload_n 0, 1) := by decide +kernel
theorem dX10_cylinderOf_13 : decode cX10_cylinderOf 13 = .ok (.iload_n 1, 1) := by decide +kernel
theorem dX10_cylinderOf_14 : decode cX10_cylinderOf 14 = .ok (.invokevirtual 89, 3) := by decide +kernel
theorem dX10_cylinderOf_17 : decode cX10_cylinderOf 17 = .ok (.invokestatic 53, 3) := by decide +kernel
theorem dX10_cylinderOf_20 : decode cX10_cylinderOf 20 = .ok (.goto 8, 3) := by decide +kernel
theorem dX10_cylinderOf_23 : decode cX10_cylinderOf 23 = .ok (.aload_n 0, 1) := by decide +kernel
theorem dX10_cylinderOf_24 : decode cX10_cylinderOf 24 = .ok (.iconst 1, 1) := by decide +kernel
theorem dX10_cylinderOf_25 : decode cX10_cylinderOf 25 = .ok (.invokevirtual 78, 3) := by decide +kernel
theorem dX10_cylinderOf_28 : decode cX10_cylinderOf 28 = .ok (.ireturn, 1) := by decide +kernel
theorem dX10_sectorOf_0 : decode cX10_sectorOf 0 = .ok (.aload_n 0, 1) := by decide +kernel
theorem dX10_sectorOf_1 : decode cX10_sectorOf 1 = .ok (.iconst 0, 1) := by decide +kernel
theorem dX10_sectorOf_2 : decode cX10_sectorOf 2 = .ok (.putfield 39, 3) := by decide +kernel
theorem dX10_sectorOf_5 : decode cX10_sectorOf 5 = .ok (.iload_n 1, 1) := by decide +kernel
theorem dX10_sectorOf_6 : decode cX10_sectorOf 6 = .ok (.invokestatic 85, 3) := by decide +kernel
theorem dX10_sectorOf_9 : decode cX10_sectorOf 9 = .ok (.ifCond .eq 23, 3) := by decide +kernel
theorem dX10_sectorOf_12 : decode cX10_sectorOf 12 = .ok (.aload_n 0, 1) := by decide +kernel
theorem dX10_sectorOf_13 : decode cX10_sectorOf 13 = .ok (.iload_n 1, 1) := by decide +kernel
theorem dX10_sectorOf_14 : decode cX10_sectorOf 14 = .ok (.invokevirtual 89, 3) := by decide +kernel
theorem dX10_sectorOf_17 : decode cX10_sectorOf 17 = .ok (.aload_n 0, 1) := by decide +kernel
theorem dX10_sectorOf_18 : decode cX10_sectorOf 18 = .ok (.iload_n 1, 1) := by decide +kernel
theorem dX10_sectorOf_19 : decode cX10_sectorOf 19 = .ok (.invokevirtual 89, 3) := by decide +kernel
theorem dX10_sectorOf_22 : decode cX10_sectorOf 22 = .ok (.invokestatic 53, 3) := by decide +kernel
theorem dX10_sectorOf_25 : decode cX10_sectorOf 25 = .ok (.invokestatic 56, 3) := by decide +kernel
theorem dX10_sectorOf_28 : decode cX10_sectorOf 28 = .ok (.isub, 1) := by decide +kernel
theorem dX10_sectorOf_29 : decode cX10_sectorOf 29 = .ok (.goto 8, 3) := by decide +kernel
theorem dX10_sectorOf_32 : decode cX10_sectorOf 32 = .ok (.aload_n 0, 1) := by decide +kernel
theorem dX10_sectorOf_33 : decode cX10_sectorOf 33 = .ok (.iconst 1, 1) := by decide +kernel
theorem dX10_sectorOf_34 : decode cX10_sectorOf 34 = .ok (.invokevirtual 78, 3) := by decide +kernel
theorem dX10_sectorOf_37 : decode cX10_sectorOf 37 = .ok (.ireturn, 1) := by decide +kernel
theorem dX10_startAngle_0 : decode cX10_startAngle 0 = .ok (.aload_n 0, 1) := by decide +kernel
theorem dX10_startAngle_1 : decode cX10_startAngle 1 = .ok (.iconst 0, 1) := by decide +kernel
theorem dX10_startAngle_2 : decode cX10_startAngle 2 = .ok (.putfield 39, 3) := by decide +kernel
theorem dX10_startAngle_5 : decode cX10_startAngle 5 = .ok (.iload_n 1, 1) := by decide +kernel
theorem dX10_startAngle_6 : decode cX10_startAngle 6 = .ok (.invokestatic 85, 3) := by decide +kernel
theorem dX10_startAngle_9 : decode cX10_startAngle 9 = .ok (.ifCond .eq 15, 3) := by decide +kernel
theorem dX10_startAngle_12 : decode cX10_startAngle 12 = .ok (.aload_n 0, 1) := by decide +kernel
theorem dX10_startAngle_13 : decode cX10_startAngle 13 = .ok (.aload_n 0, 1) := by decide +kernel
theorem dX10_startAngle_14 : decode cX10_startAngle 14 = .ok (.iload_n 1, 1) := by decide +kernel
theorem dX10_startAngle_15 : decode cX10_startAngle 15 = .ok (.invokevirtual 89, 3) := by decide +kernel
theorem dX10_startAngle_18 : decode cX10_startAngle 18 = .ok (.invokevirtual 65, 3) := by decide +kernel
theorem dX10_startAngle_21 : decode cX10_startAngle 21 = .ok (.goto 8, 3) := by decide +kernel
theorem dX10_startAngle_24 : decode cX10_startAngle 24 = .ok (.aload_n 0, 1) := by decide +kernel
theorem dX10_startAngle_25 : decode cX10_startAngle 25 = .ok (.iconst 1, 1) := by decide +kernel
theorem dX10_startAngle_26 : decode cX10_startAngle 26 = .ok (.invokevirtual 78, 3) := by decide +kernel
theorem dX10_startAngle_29 : decode cX10_startAngle 29 = .ok (.ireturn, 1) := by decide +kernel
theorem dX10_takes_0 : decode cX10_takes 0 = .ok (.aload_n 0, 1) := by decide +kernel
theorem dX10_takes_1 : decode cX10_takes 1 = .ok (.aload_n 0, 1) := by decide +kernel
theorem dX10_takes_2 : decode cX10_takes 2 = .ok (.getfield 7, 3) := by decide +kernel
theorem dX10_takes_5 : decode cX10_takes 5 = .ok (.bipush 8, 2) := by decide +kernel
theorem dX10_takes_7 : decode cX10_takes 7 = .ok (.iaload, 1) := by decide +kernel
theorem dX10_takes_8 : decode cX10_takes 8 = .ok (.aload_n 0, 1) := by decide +kernel
theorem dX10_takes_9 : decode cX10_takes 9 = .ok (.getfield 7, 3) := by decide +kernel
theorem dX10_takes_12 : decode cX10_takes 12 = .ok (.bipush 9, 2) := by decide +kernel
theorem dX10_takes_14 : decode cX10_takes 14 = .ok (.iaload, 1) := by decide +kernel
theorem dX10_takes_15 : decode cX10_takes 15 = .ok (.aload_n 0, 1) := by decide +kernel
theorem dX10_takes_16 : decode cX10_takes 16 = .ok (.iload_n 1, 1) := by decide +kernel
theorem dX10_takes_17 : decode cX10_takes 17 = .ok (.invokevirtual 89, 3) := by decide +kernel
theorem dX10_takes_20 : decode cX10_takes 20 = .ok (.invokevirtual 92, 3) := by decide +kernel
theorem dX10_takes_23 : decode cX10_takes 23 = .ok (.aload_n 0, 1) := by decide +kernel
theorem dX10_takes_24 : decode cX10_takes 24 = .ok (.getfield 7, 3) := by decide +kernel
theorem dX10_takes_27 : decode cX10_takes 27 = .ok (.bipush 8, 2) := by decide +kernel
theorem dX10_takes_29 : decode cX10_takes 29 = .ok (.iaload, 1) := by decide +kernel
theorem dX10_takes_30 : decode cX10_takes 30 = .ok (.isub, 1) := by decide +kernel
theorem dX10_takes_31 : decode cX10_takes 31 = .ok (.ireturn, 1) := by decide +kernel
theorem dX10_accessTime_0 : decode cX10_accessTime 0 = .ok (.aload_n 0, 1) := by decide +kernel
theorem dX10_accessTime_1 : decode cX10_accessTime 1 = .ok (.iconst 0, 1) := by decide +kernel
theorem dX10_accessTime_2 : decode cX10_accessTime 2 = .ok (.putfield 39, 3) := by decide +kernel
theorem dX10_accessTime_5 : decode cX10_accessTime 5 = .ok (.iload_n 1, 1) := by decide +kernel
theorem dX10_accessTime_6 : decode cX10_accessTime 6 = .ok (.invokestatic 85, 3) := by decide +kernel
theorem dX10_accessTime_9 : decode cX10_accessTime 9 = .ok (.ifCond .eq 11, 3) := by decide +kernel
theorem dX10_accessTime_12 : decode cX10_accessTime 12 = .ok (.aload_n 0, 1) := by decide +kernel
theorem dX10_accessTime_13 : decode cX10_accessTime 13 = .ok (.iload_n 1, 1) := by decide +kernel
theorem dX10_accessTime_14 : decode cX10_accessTime 14 = .ok (.invokevirtual 96, 3) := by decide +kernel
theorem dX10_accessTime_17 : decode cX10_accessTime 17 = .ok (.goto 8, 3) := by decide +kernel
theorem dX10_accessTime_20 : decode cX10_accessTime 20 = .ok (.aload_n 0, 1) := by decide +kernel
theorem dX10_accessTime_21 : decode cX10_accessTime 21 = .ok (.iconst 1, 1) := by decide +kernel
theorem dX10_accessTime_22 : decode cX10_accessTime 22 = .ok (.invokevirtual 78, 3) := by decide +kernel
theorem dX10_accessTime_25 : decode cX10_accessTime 25 = .ok (.ireturn, 1) := by decide +kernel
theorem dX10_moveToSpare_0 : decode cX10_moveToSpare 0 = .ok (.aload_n 0, 1) := by decide +kernel
theorem dX10_moveToSpare_1 : decode cX10_moveToSpare 1 = .ok (.iconst 0, 1) := by decide +kernel
theorem dX10_moveToSpare_2 : decode cX10_moveToSpare 2 = .ok (.putfield 39, 3) := by decide +kernel
theorem dX10_moveToSpare_5 : decode cX10_moveToSpare 5 = .ok (.iload_n 1, 1) := by decide +kernel
theorem dX10_moveToSpare_6 : decode cX10_moveToSpare 6 = .ok (.invokestatic 85, 3) := by decide +kernel
theorem dX10_moveToSpare_9 : decode cX10_moveToSpare 9 = .ok (.ifCond .ne 9, 3) := by decide +kernel
theorem dX10_moveToSpare_12 : decode cX10_moveToSpare 12 = .ok (.aload_n 0, 1) := by decide +kernel
theorem dX10_moveToSpare_13 : decode cX10_moveToSpare 13 = .ok (.iconst 1, 1) := by decide +kernel
theorem dX10_moveToSpare_14 : decode cX10_moveToSpare 14 = .ok (.invokevirtual 78, 3) := by decide +kernel
theorem dX10_moveToSpare_17 : decode cX10_moveToSpare 17 = .ok (.ireturn, 1) := by decide +kernel
theorem dX10_moveToSpare_18 : decode cX10_moveToSpare 18 = .ok (.aload_n 0, 1) := by decide +kernel
theorem dX10_moveToSpare_19 : decode cX10_moveToSpare 19 = .ok (.iload_n 1, 1) := by decide +kernel
theorem dX10_moveToSpare_20 : decode cX10_moveToSpare 20 = .ok (.invokevirtual 89, 3) := by decide +kernel
theorem dX10_moveToSpare_23 : decode cX10_moveToSpare 23 = .ok (.sipush 572, 3) := by decide +kernel
theorem dX10_moveToSpare_26 : decode cX10_moveToSpare 26 = .ok (.if_icmp .lt 9, 3) := by decide +kernel
theorem dX10_moveToSpare_29 : decode cX10_moveToSpare 29 = .ok (.aload_n 0, 1) := by decide +kernel
theorem dX10_moveToSpare_30 : decode cX10_moveToSpare 30 = .ok (.iconst 2, 1) := by decide +kernel
theorem dX10_moveToSpare_31 : decode cX10_moveToSpare 31 = .ok (.invokevirtual 78, 3) := by decide +kernel
theorem dX10_moveToSpare_34 : decode cX10_moveToSpare 34 = .ok (.ireturn, 1) := by decide +kernel
theorem dX10_moveToSpare_35 : decode cX10_moveToSpare 35 = .ok (.aload_n 0, 1) := by decide +kernel
theorem dX10_moveToSpare_36 : decode cX10_moveToSpare 36 = .ok (.getfield 7, 3) := by decide +kernel
theorem dX10_moveToSpare_39 : decode cX10_moveToSpare 39 = .ok (.bipush 11, 2) := by decide +kernel
theorem dX10_moveToSpare_41 : decode cX10_moveToSpare 41 = .ok (.iaload, 1) := by decide +kernel
theorem dX10_moveToSpare_42 : decode cX10_moveToSpare 42 = .ok (.iconst 4, 1) := by decide +kernel
theorem dX10_moveToSpare_43 : decode cX10_moveToSpare 43 = .ok (.if_icmp .ne 9, 3) := by decide +kernel
theorem dX10_moveToSpare_46 : decode cX10_moveToSpare 46 = .ok (.aload_n 0, 1) := by decide +kernel
theorem dX10_moveToSpare_47 : decode cX10_moveToSpare 47 = .ok (.iconst 3, 1) := by decide +kernel
theorem dX10_moveToSpare_48 : decode cX10_moveToSpare 48 = .ok (.invokevirtual 78, 3) := by decide +kernel
theorem dX10_moveToSpare_51 : decode cX10_moveToSpare 51 = .ok (.ireturn, 1) := by decide +kernel
theorem dX10_moveToSpare_52 : decode cX10_moveToSpare 52 = .ok (.aload_n 0, 1) := by decide +kernel
theorem dX10_moveToSpare_53 : decode cX10_moveToSpare 53 = .ok (.getfield 7, 3) := by decide +kernel
theorem dX10_moveToSpare_56 : decode cX10_moveToSpare 56 = .ok (.bipush 20, 2) := by decide +kernel
theorem dX10_moveToSpare_58 : decode cX10_moveToSpare 58 = .ok (.aload_n 0, 1) := by decide +kernel
theorem dX10_moveToSpare_59 : decode cX10_moveToSpare 59 = .ok (.getfield 7, 3) := by decide +kernel
theorem dX10_moveToSpare_62 : decode cX10_moveToSpare 62 = .ok (.bipush 11, 2) := by decide +kernel
theorem dX10_moveToSpare_64 : decode cX10_moveToSpare 64 = .ok (.iaload, 1) := by decide +kernel
theorem dX10_moveToSpare_65 : decode cX10_moveToSpare 65 = .ok (.iadd, 1) := by decide +kernel
theorem dX10_moveToSpare_66 : decode cX10_moveToSpare 66 = .ok (.iload_n 1, 1) := by decide +kernel
theorem dX10_moveToSpare_67 : decode cX10_moveToSpare 67 = .ok (.iastore, 1) := by decide +kernel
theorem dX10_moveToSpare_68 : decode cX10_moveToSpare 68 = .ok (.aload_n 0, 1) := by decide +kernel
theorem dX10_moveToSpare_69 : decode cX10_moveToSpare 69 = .ok (.getfield 7, 3) := by decide +kernel
theorem dX10_moveToSpare_72 : decode cX10_moveToSpare 72 = .ok (.bipush 11, 2) := by decide +kernel
theorem dX10_moveToSpare_74 : decode cX10_moveToSpare 74 = .ok (.dup2, 1) := by decide +kernel
theorem dX10_moveToSpare_75 : decode cX10_moveToSpare 75 = .ok (.iaload, 1) := by decide +kernel
theorem dX10_moveToSpare_76 : decode cX10_moveToSpare 76 = .ok (.iconst 1, 1) := by decide +kernel
theorem dX10_moveToSpare_77 : decode cX10_moveToSpare 77 = .ok (.iadd, 1) := by decide +kernel
theorem dX10_moveToSpare_78 : decode cX10_moveToSpare 78 = .ok (.iastore, 1) := by decide +kernel
theorem dX10_moveToSpare_79 : decode cX10_moveToSpare 79 = .ok (.sipush 572, 3) := by decide +kernel
theorem dX10_moveToSpare_82 : decode cX10_moveToSpare 82 = .ok (.aload_n 0, 1) := by decide +kernel
theorem dX10_moveToSpare_83 : decode cX10_moveToSpare 83 = .ok (.getfield 7, 3) := by decide +kernel
theorem dX10_moveToSpare_86 : decode cX10_moveToSpare 86 = .ok (.bipush 11, 2) := by decide +kernel
theorem dX10_moveToSpare_88 : decode cX10_moveToSpare 88 = .ok (.iaload, 1) := by decide +kernel
theorem dX10_moveToSpare_89 : decode cX10_moveToSpare 89 = .ok (.iadd, 1) := by decide +kernel
theorem dX10_moveToSpare_90 : decode cX10_moveToSpare 90 = .ok (.iconst 1, 1) := by decide +kernel
theorem dX10_moveToSpare_91 : decode cX10_moveToSpare 91 = .ok (.isub, 1) := by decide +kernel
theorem dX10_moveToSpare_92 : decode cX10_moveToSpare 92 = .ok (.ireturn, 1) := by decide +kernel
theorem dX10_accessesOf_0 : decode cX10_accessesOf 0 = .ok (.aload_n 0, 1) := by decide +kernel
theorem dX10_accessesOf_1 : decode cX10_accessesOf 1 = .ok (.iconst 0, 1) := by decide +kernel
theorem dX10_accessesOf_2 : decode cX10_accessesOf 2 = .ok (.putfield 39, 3) := by decide +kernel
theorem dX10_accessesOf_5 : decode cX10_accessesOf 5 = .ok (.iload_n 1, 1) := by decide +kernel
theorem dX10_accessesOf_6 : decode cX10_accessesOf 6 = .ok (.invokestatic 85, 3) := by decide +kernel
theorem dX10_accessesOf_9 : decode cX10_accessesOf 9 = .ok (.ifCond .eq 20, 3) := by decide +kernel
theorem dX10_accessesOf_12 : decode cX10_accessesOf 12 = .ok (.aload_n 0, 1) := by decide +kernel
theorem dX10_accessesOf_13 : decode cX10_accessesOf 13 = .ok (.getfield 7, 3) := by decide +kernel
theorem dX10_accessesOf_16 : decode cX10_accessesOf 16 = .ok (.sipush 1100, 3) := by decide +kernel
theorem dX10_accessesOf_19 : decode cX10_accessesOf 19 = .ok (.aload_n 0, 1) := by decide +kernel
theorem dX10_accessesOf_20 : decode cX10_accessesOf 20 = .ok (.iload_n 1, 1) := by decide +kernel
theorem dX10_accessesOf_21 : decode cX10_accessesOf 21 = .ok (.invokevirtual 89, 3) := by decide +kernel
theorem dX10_accessesOf_24 : decode cX10_accessesOf 24 = .ok (.iadd, 1) := by decide +kernel
theorem dX10_accessesOf_25 : decode cX10_accessesOf 25 = .ok (.iaload, 1) := by decide +kernel
theorem dX10_accessesOf_26 : decode cX10_accessesOf 26 = .ok (.goto 8, 3) := by decide +kernel
theorem dX10_accessesOf_29 : decode cX10_accessesOf 29 = .ok (.aload_n 0, 1) := by decide +kernel
theorem dX10_accessesOf_30 : decode cX10_accessesOf 30 = .ok (.iconst 1, 1) := by decide +kernel
theorem dX10_accessesOf_31 : decode cX10_accessesOf 31 = .ok (.invokevirtual 78, 3) := by decide +kernel
theorem dX10_accessesOf_34 : decode cX10_accessesOf 34 = .ok (.ireturn, 1) := by decide +kernel
theorem dX10_clock_0 : decode cX10_clock 0 = .ok (.aload_n 0, 1) := by decide +kernel
theorem dX10_clock_1 : decode cX10_clock 1 = .ok (.iconst 0, 1) := by decide +kernel
theorem dX10_clock_2 : decode cX10_clock 2 = .ok (.putfield 39, 3) := by decide +kernel
theorem dX10_clock_5 : decode cX10_clock 5 = .ok (.aload_n 0, 1) := by decide +kernel
theorem dX10_clock_6 : decode cX10_clock 6 = .ok (.getfield 7, 3) := by decide +kernel
theorem dX10_clock_9 : decode cX10_clock 9 = .ok (.bipush 8, 2) := by decide +kernel
theorem dX10_clock_11 : decode cX10_clock 11 = .ok (.iaload, 1) := by decide +kernel
theorem dX10_clock_12 : decode cX10_clock 12 = .ok (.ireturn, 1) := by decide +kernel
theorem dX10_arm_0 : decode cX10_arm 0 = .ok (.aload_n 0, 1) := by decide +kernel
theorem dX10_arm_1 : decode cX10_arm 1 = .ok (.iconst 0, 1) := by decide +kernel
theorem dX10_arm_2 : decode cX10_arm 2 = .ok (.putfield 39, 3) := by decide +kernel
theorem dX10_arm_5 : decode cX10_arm 5 = .ok (.aload_n 0, 1) := by decide +kernel
theorem dX10_arm_6 : decode cX10_arm 6 = .ok (.getfield 7, 3) := by decide +kernel
theorem dX10_arm_9 : decode cX10_arm 9 = .ok (.bipush 9, 2) := by decide +kernel
theorem dX10_arm_11 : decode cX10_arm 11 = .ok (.iaload, 1) := by decide +kernel
theorem dX10_arm_12 : decode cX10_arm 12 = .ok (.ireturn, 1) := by decide +kernel
theorem dX10_isUpward_0 : decode cX10_isUpward 0 = .ok (.aload_n 0, 1) := by decide +kernel
theorem dX10_isUpward_1 : decode cX10_isUpward 1 = .ok (.iconst 0, 1) := by decide +kernel
theorem dX10_isUpward_2 : decode cX10_isUpward 2 = .ok (.putfield 39, 3) := by decide +kernel
theorem dX10_isUpward_5 : decode cX10_isUpward 5 = .ok (.aload_n 0, 1) := by decide +kernel
theorem dX10_isUpward_6 : decode cX10_isUpward 6 = .ok (.getfield 7, 3) := by decide +kernel
theorem dX10_isUpward_9 : decode cX10_isUpward 9 = .ok (.bipush 10, 2) := by decide +kernel
theorem dX10_isUpward_11 : decode cX10_isUpward 11 = .ok (.iaload, 1) := by decide +kernel
theorem dX10_isUpward_12 : decode cX10_isUpward 12 = .ok (.iconst 1, 1) := by decide +kernel
theorem dX10_isUpward_13 : decode cX10_isUpward 13 = .ok (.if_icmp .ne 7, 3) := by decide +kernel
theorem dX10_isUpward_16 : decode cX10_isUpward 16 = .ok (.iconst 1, 1) := by decide +kernel
theorem dX10_isUpward_17 : decode cX10_isUpward 17 = .ok (.goto 4, 3) := by decide +kernel
end
section
theorem dX10_isUpward_20 : decode cX10_isUpward 20 = .ok (.iconst 0, 1) := by decide +kernel
theorem dX10_isUpward_21 : decode cX10_isUpward 21 = .ok (.ireturn, 1) := by decide +kernel
theorem dX10_idle_0 : decode cX10_idle 0 = .ok (.aload_n 0, 1) := by decide +kernel
theorem dX10_idle_1 : decode cX10_idle 1 = .ok (.iconst 0, 1) := by decide +kernel
theorem dX10_idle_2 : decode cX10_idle 2 = .ok (.putfield 39, 3) := by decide +kernel
theorem dX10_idle_5 : decode cX10_idle 5 = .ok (.iload_n 1, 1) := by decide +kernel
theorem dX10_idle_6 : decode cX10_idle 6 = .ok (.iconst 1, 1) := by decide +kernel
theorem dX10_idle_7 : decode cX10_idle 7 = .ok (.sipush 1000, 3) := by decide +kernel
theorem dX10_idle_10 : decode cX10_idle 10 = .ok (.invokestatic 42, 3) := by decide +kernel
theorem dX10_idle_13 : decode cX10_idle 13 = .ok (.ifCond .ne 9, 3) := by decide +kernel
theorem dX10_idle_16 : decode cX10_idle 16 = .ok (.aload_n 0, 1) := by decide +kernel
theorem dX10_idle_17 : decode cX10_idle 17 = .ok (.iconst 1, 1) := by decide +kernel
theorem dX10_idle_18 : decode cX10_idle 18 = .ok (.invokevirtual 78, 3) := by decide +kernel
theorem dX10_idle_21 : decode cX10_idle 21 = .ok (.ireturn, 1) := by decide +kernel
theorem dX10_idle_22 : decode cX10_idle 22 = .ok (.aload_n 0, 1) := by decide +kernel
theorem dX10_idle_23 : decode cX10_idle 23 = .ok (.getfield 7, 3) := by decide +kernel
theorem dX10_idle_26 : decode cX10_idle 26 = .ok (.bipush 8, 2) := by decide +kernel
theorem dX10_idle_28 : decode cX10_idle 28 = .ok (.iaload, 1) := by decide +kernel
theorem dX10_idle_29 : decode cX10_idle 29 = .ok (.iload_n 1, 1) := by decide +kernel
theorem dX10_idle_30 : decode cX10_idle 30 = .ok (.iadd, 1) := by decide +kernel
theorem dX10_idle_31 : decode cX10_idle 31 = .ok (.ldc 99, 2) := by decide +kernel
theorem dX10_idle_33 : decode cX10_idle 33 = .ok (.if_icmp .le 9, 3) := by decide +kernel
theorem dX10_idle_36 : decode cX10_idle 36 = .ok (.aload_n 0, 1) := by decide +kernel
theorem dX10_idle_37 : decode cX10_idle 37 = .ok (.iconst 2, 1) := by decide +kernel
theorem dX10_idle_38 : decode cX10_idle 38 = .ok (.invokevirtual 78, 3) := by decide +kernel
theorem dX10_idle_41 : decode cX10_idle 41 = .ok (.ireturn, 1) := by decide +kernel
theorem dX10_idle_42 : decode cX10_idle 42 = .ok (.aload_n 0, 1) := by decide +kernel
theorem dX10_idle_43 : decode cX10_idle 43 = .ok (.getfield 7, 3) := by decide +kernel
theorem dX10_idle_46 : decode cX10_idle 46 = .ok (.bipush 8, 2) := by decide +kernel
theorem dX10_idle_48 : decode cX10_idle 48 = .ok (.dup2, 1) := by decide +kernel
theorem dX10_idle_49 : decode cX10_idle 49 = .ok (.iaload, 1) := by decide +kernel
theorem dX10_idle_50 : decode cX10_idle 50 = .ok (.iload_n 1, 1) := by decide +kernel
theorem dX10_idle_51 : decode cX10_idle 51 = .ok (.iadd, 1) := by decide +kernel
theorem dX10_idle_52 : decode cX10_idle 52 = .ok (.iastore, 1) := by decide +kernel
theorem dX10_idle_53 : decode cX10_idle 53 = .ok (.aload_n 0, 1) := by decide +kernel
theorem dX10_idle_54 : decode cX10_idle 54 = .ok (.getfield 7, 3) := by decide +kernel
theorem dX10_idle_57 : decode cX10_idle 57 = .ok (.bipush 8, 2) := by decide +kernel
theorem dX10_idle_59 : decode cX10_idle 59 = .ok (.iaload, 1) := by decide +kernel
theorem dX10_idle_60 : decode cX10_idle 60 = .ok (.ireturn, 1) := by decide +kernel
theorem dX10_isPending_0 : decode cX10_isPending 0 = .ok (.aload_n 0, 1) := by decide +kernel
theorem dX10_isPending_1 : decode cX10_isPending 1 = .ok (.getfield 7, 3) := by decide +kernel
theorem dX10_isPending_4 : decode cX10_isPending 4 = .ok (.sipush 350, 3) := by decide +kernel
theorem dX10_isPending_7 : decode cX10_isPending 7 = .ok (.iload_n 1, 1) := by decide +kernel
theorem dX10_isPending_8 : decode cX10_isPending 8 = .ok (.iadd, 1) := by decide +kernel
theorem dX10_isPending_9 : decode cX10_isPending 9 = .ok (.iaload, 1) := by decide +kernel
theorem dX10_isPending_10 : decode cX10_isPending 10 = .ok (.ifCond .ne 7, 3) := by decide +kernel
theorem dX10_isPending_13 : decode cX10_isPending 13 = .ok (.iconst 1, 1) := by decide +kernel
theorem dX10_isPending_14 : decode cX10_isPending 14 = .ok (.goto 4, 3) := by decide +kernel
theorem dX10_isPending_17 : decode cX10_isPending 17 = .ok (.iconst 0, 1) := by decide +kernel
theorem dX10_isPending_18 : decode cX10_isPending 18 = .ok (.ireturn, 1) := by decide +kernel
theorem dX10_pending_0 : decode cX10_pending 0 = .ok (.iconst 0, 1) := by decide +kernel
theorem dX10_pending_1 : decode cX10_pending 1 = .ok (.istore_n 1, 1) := by decide +kernel
theorem dX10_pending_2 : decode cX10_pending 2 = .ok (.iconst 0, 1) := by decide +kernel
theorem dX10_pending_3 : decode cX10_pending 3 = .ok (.istore_n 2, 1) := by decide +kernel
theorem dX10_pending_4 : decode cX10_pending 4 = .ok (.iload_n 2, 1) := by decide +kernel
theorem dX10_pending_5 : decode cX10_pending 5 = .ok (.aload_n 0, 1) := by decide +kernel
theorem dX10_pending_6 : decode cX10_pending 6 = .ok (.getfield 7, 3) := by decide +kernel
theorem dX10_pending_9 : decode cX10_pending 9 = .ok (.bipush 12, 2) := by decide +kernel
theorem dX10_pending_11 : decode cX10_pending 11 = .ok (.iaload, 1) := by decide +kernel
theorem dX10_pending_12 : decode cX10_pending 12 = .ok (.if_icmp .ge 25, 3) := by decide +kernel
theorem dX10_pending_15 : decode cX10_pending 15 = .ok (.iload_n 1, 1) := by decide +kernel
theorem dX10_pending_16 : decode cX10_pending 16 = .ok (.aload_n 0, 1) := by decide +kernel
theorem dX10_pending_17 : decode cX10_pending 17 = .ok (.iload_n 2, 1) := by decide +kernel
theorem dX10_pending_18 : decode cX10_pending 18 = .ok (.invokevirtual 100, 3) := by decide +kernel
theorem dX10_pending_21 : decode cX10_pending 21 = .ok (.ifCond .eq 7, 3) := by decide +kernel
theorem dX10_pending_24 : decode cX10_pending 24 = .ok (.iconst 1, 1) := by decide +kernel
theorem dX10_pending_25 : decode cX10_pending 25 = .ok (.goto 4, 3) := by decide +kernel
theorem dX10_pending_28 : decode cX10_pending 28 = .ok (.iconst 0, 1) := by decide +kernel
theorem dX10_pending_29 : decode cX10_pending 29 = .ok (.iadd, 1) := by decide +kernel
theorem dX10_pending_30 : decode cX10_pending 30 = .ok (.istore_n 1, 1) := by decide +kernel
theorem dX10_pending_31 : decode cX10_pending 31 = .ok (.iinc 2 1, 3) := by decide +kernel
theorem dX10_pending_34 : decode cX10_pending 34 = .ok (.goto (-30), 3) := by decide +kernel
theorem dX10_pending_37 : decode cX10_pending 37 = .ok (.iload_n 1, 1) := by decide +kernel
theorem dX10_pending_38 : decode cX10_pending 38 = .ok (.ireturn, 1) := by decide +kernel
theorem dX10_refusal_0 : decode cX10_refusal 0 = .ok (.iload_n 1, 1) := by decide +kernel
theorem dX10_refusal_1 : decode cX10_refusal 1 = .ok (.iconst 0, 1) := by decide +kernel
theorem dX10_refusal_2 : decode cX10_refusal 2 = .ok (.iconst 1, 1) := by decide +kernel
theorem dX10_refusal_3 : decode cX10_refusal 3 = .ok (.invokestatic 42, 3) := by decide +kernel
theorem dX10_refusal_6 : decode cX10_refusal 6 = .ok (.ifCond .eq 14, 3) := by decide +kernel
theorem dX10_refusal_9 : decode cX10_refusal 9 = .ok (.iload_n 3, 1) := by decide +kernel
theorem dX10_refusal_10 : decode cX10_refusal 10 = .ok (.iconst 0, 1) := by decide +kernel
theorem dX10_refusal_11 : decode cX10_refusal 11 = .ok (.sipush 9999, 3) := by decide +kernel
theorem dX10_refusal_14 : decode cX10_refusal 14 = .ok (.invokestatic 42, 3) := by decide +kernel
theorem dX10_refusal_17 : decode cX10_refusal 17 = .ok (.ifCond .ne 5, 3) := by decide +kernel
theorem dX10_refusal_20 : decode cX10_refusal 20 = .ok (.iconst 1, 1) := by decide +kernel
theorem dX10_refusal_21 : decode cX10_refusal 21 = .ok (.ireturn, 1) := by decide +kernel
theorem dX10_refusal_22 : decode cX10_refusal 22 = .ok (.iload_n 2, 1) := by decide +kernel
theorem dX10_refusal_23 : decode cX10_refusal 23 = .ok (.invokestatic 85, 3) := by decide +kernel
theorem dX10_refusal_26 : decode cX10_refusal 26 = .ok (.ifCond .ne 5, 3) := by decide +kernel
theorem dX10_refusal_29 : decode cX10_refusal 29 = .ok (.iconst 2, 1) := by decide +kernel
theorem dX10_refusal_30 : decode cX10_refusal 30 = .ok (.ireturn, 1) := by decide +kernel
theorem dX10_refusal_31 : decode cX10_refusal 31 = .ok (.aload_n 0, 1) := by decide +kernel
theorem dX10_refusal_32 : decode cX10_refusal 32 = .ok (.getfield 7, 3) := by decide +kernel
theorem dX10_refusal_35 : decode cX10_refusal 35 = .ok (.bipush 7, 2) := by decide +kernel
theorem dX10_refusal_37 : decode cX10_refusal 37 = .ok (.iaload, 1) := by decide +kernel
theorem dX10_refusal_38 : decode cX10_refusal 38 = .ok (.iconst 1, 1) := by decide +kernel
theorem dX10_refusal_39 : decode cX10_refusal 39 = .ok (.if_icmp .ne 34, 3) := by decide +kernel
theorem dX10_refusal_42 : decode cX10_refusal 42 = .ok (.iload_n 1, 1) := by decide +kernel
theorem dX10_refusal_43 : decode cX10_refusal 43 = .ok (.iconst 1, 1) := by decide +kernel
theorem dX10_refusal_44 : decode cX10_refusal 44 = .ok (.if_icmp .ne 29, 3) := by decide +kernel
theorem dX10_refusal_47 : decode cX10_refusal 47 = .ok (.aload_n 0, 1) := by decide +kernel
theorem dX10_refusal_48 : decode cX10_refusal 48 = .ok (.getfield 7, 3) := by decide +kernel
theorem dX10_refusal_51 : decode cX10_refusal 51 = .ok (.sipush 510, 3) := by decide +kernel
theorem dX10_refusal_54 : decode cX10_refusal 54 = .ok (.iload_n 2, 1) := by decide +kernel
theorem dX10_refusal_55 : decode cX10_refusal 55 = .ok (.iadd, 1) := by decide +kernel
theorem dX10_refusal_56 : decode cX10_refusal 56 = .ok (.iaload, 1) := by decide +kernel
theorem dX10_refusal_57 : decode cX10_refusal 57 = .ok (.ifCond .ne 16, 3) := by decide +kernel
theorem dX10_refusal_60 : decode cX10_refusal 60 = .ok (.aload_n 0, 1) := by decide +kernel
theorem dX10_refusal_61 : decode cX10_refusal 61 = .ok (.invokevirtual 81, 3) := by decide +kernel
theorem dX10_refusal_64 : decode cX10_refusal 64 = .ok (.bipush 8, 2) := by decide +kernel
theorem dX10_refusal_66 : decode cX10_refusal 66 = .ok (.if_icmp .ne 7, 3) := by decide +kernel
theorem dX10_refusal_69 : decode cX10_refusal 69 = .ok (.iconst 1, 1) := by decide +kernel
theorem dX10_refusal_70 : decode cX10_refusal 70 = .ok (.goto 4, 3) := by decide +kernel
theorem dX10_refusal_73 : decode cX10_refusal 73 = .ok (.iconst 0, 1) := by decide +kernel
theorem dX10_refusal_74 : decode cX10_refusal 74 = .ok (.istore 4, 2) := by decide +kernel
theorem dX10_refusal_76 : decode cX10_refusal 76 = .ok (.aload_n 0, 1) := by decide +kernel
theorem dX10_refusal_77 : decode cX10_refusal 77 = .ok (.getfield 7, 3) := by decide +kernel
theorem dX10_refusal_80 : decode cX10_refusal 80 = .ok (.bipush 12, 2) := by decide +kernel
theorem dX10_refusal_82 : decode cX10_refusal 82 = .ok (.iaload, 1) := by decide +kernel
theorem dX10_refusal_83 : decode cX10_refusal 83 = .ok (.bipush 80, 2) := by decide +kernel
theorem dX10_refusal_85 : decode cX10_refusal 85 = .ok (.if_icmp .eq 17, 3) := by decide +kernel
theorem dX10_refusal_88 : decode cX10_refusal 88 = .ok (.aload_n 0, 1) := by decide +kernel
theorem dX10_refusal_89 : decode cX10_refusal 89 = .ok (.invokevirtual 103, 3) := by decide +kernel
theorem dX10_refusal_92 : decode cX10_refusal 92 = .ok (.bipush 12, 2) := by decide +kernel
theorem dX10_refusal_94 : decode cX10_refusal 94 = .ok (.if_icmp .eq 8, 3) := by decide +kernel
theorem dX10_refusal_97 : decode cX10_refusal 97 = .ok (.iload 4, 2) := by decide +kernel
theorem dX10_refusal_99 : decode cX10_refusal 99 = .ok (.ifCond .eq 7, 3) := by decide +kernel
theorem dX10_refusal_102 : decode cX10_refusal 102 = .ok (.iconst 3, 1) := by decide +kernel
theorem dX10_refusal_103 : decode cX10_refusal 103 = .ok (.goto 4, 3) := by decide +kernel
theorem dX10_refusal_106 : decode cX10_refusal 106 = .ok (.iconst 0, 1) := by decide +kernel
theorem dX10_refusal_107 : decode cX10_refusal 107 = .ok (.ireturn, 1) := by decide +kernel
theorem dX10_comes_0 : decode cX10_comes 0 = .ok (.aload_n 0, 1) := by decide +kernel
theorem dX10_comes_1 : decode cX10_comes 1 = .ok (.getfield 7, 3) := by decide +kernel
theorem dX10_comes_4 : decode cX10_comes 4 = .ok (.bipush 12, 2) := by decide +kernel
theorem dX10_comes_6 : decode cX10_comes 6 = .ok (.iaload, 1) := by decide +kernel
theorem dX10_comes_7 : decode cX10_comes 7 = .ok (.istore 4, 2) := by decide +kernel
theorem dX10_comes_9 : decode cX10_comes 9 = .ok (.aload_n 0, 1) := by decide +kernel
theorem dX10_comes_10 : decode cX10_comes 10 = .ok (.getfield 7, 3) := by decide +kernel
theorem dX10_comes_13 : decode cX10_comes 13 = .ok (.bipush 12, 2) := by decide +kernel
theorem dX10_comes_15 : decode cX10_comes 15 = .ok (.dup2, 1) := by decide +kernel
theorem dX10_comes_16 : decode cX10_comes 16 = .ok (.iaload, 1) := by decide +kernel
theorem dX10_comes_17 : decode cX10_comes 17 = .ok (.iconst 1, 1) := by decide +kernel
theorem dX10_comes_18 : decode cX10_comes 18 = .ok (.iadd, 1) := by decide +kernel
theorem dX10_comes_19 : decode cX10_comes 19 = .ok (.iastore, 1) := by decide +kernel
theorem dX10_comes_20 : decode cX10_comes 20 = .ok (.aload_n 0, 1) := by decide +kernel
theorem dX10_comes_21 : decode cX10_comes 21 = .ok (.getfield 7, 3) := by decide +kernel
theorem dX10_comes_24 : decode cX10_comes 24 = .ok (.bipush 30, 2) := by decide +kernel
theorem dX10_comes_26 : decode cX10_comes 26 = .ok (.iload 4, 2) := by decide +kernel
theorem dX10_comes_28 : decode cX10_comes 28 = .ok (.iadd, 1) := by decide +kernel
theorem dX10_comes_29 : decode cX10_comes 29 = .ok (.iload_n 1, 1) := by decide +kernel
theorem dX10_comes_30 : decode cX10_comes 30 = .ok (.iastore, 1) := by decide +kernel
theorem dX10_comes_31 : decode cX10_comes 31 = .ok (.aload_n 0, 1) := by decide +kernel
theorem dX10_comes_32 : decode cX10_comes 32 = .ok (.getfield 7, 3) := by decide +kernel
theorem dX10_comes_35 : decode cX10_comes 35 = .ok (.bipush 110, 2) := by decide +kernel
theorem dX10_comes_37 : decode cX10_comes 37 = .ok (.iload 4, 2) := by decide +kernel
theorem dX10_comes_39 : decode cX10_comes 39 = .ok (.iadd, 1) := by decide +kernel
theorem dX10_comes_40 : decode cX10_comes 40 = .ok (.iload_n 2, 1) := by decide +kernel
theorem dX10_comes_41 : decode cX10_comes 41 = .ok (.iastore, 1) := by decide +kernel
theorem dX10_comes_42 : decode cX10_comes 42 = .ok (.aload_n 0, 1) := by decide +kernel
theorem dX10_comes_43 : decode cX10_comes 43 = .ok (.getfield 7, 3) := by decide +kernel
theorem dX10_comes_46 : decode cX10_comes 46 = .ok (.sipush 190, 3) := by decide +kernel
theorem dX10_comes_49 : decode cX10_comes 49 = .ok (.iload 4, 2) := by decide +kernel
theorem dX10_comes_51 : decode cX10_comes 51 = .ok (.iadd, 1) := by decide +kernel
theorem dX10_comes_52 : decode cX10_comes 52 = .ok (.aload_n 0, 1) := by decide +kernel
theorem dX10_comes_53 : decode cX10_comes 53 = .ok (.getfield 7, 3) := by decide +kernel
theorem dX10_comes_56 : decode cX10_comes 56 = .ok (.bipush 8, 2) := by decide +kernel
theorem dX10_comes_58 : decode cX10_comes 58 = .ok (.iaload, 1) := by decide +kernel
theorem dX10_comes_59 : decode cX10_comes 59 = .ok (.iastore, 1) := by decide +kernel
theorem dX10_comes_60 : decode cX10_comes 60 = .ok (.aload_n 0, 1) := by decide +kernel
theorem dX10_comes_61 : decode cX10_comes 61 = .ok (.getfield 7, 3) := by decide +kernel
theorem dX10_comes_64 : decode cX10_comes 64 = .ok (.sipush 270, 3) := by decide +kernel
theorem dX10_comes_67 : decode cX10_comes 67 = .ok (.iload 4, 2) := by decide +kernel
theorem dX10_comes_69 : decode cX10_comes 69 = .ok (.iadd, 1) := by decide +kernel
theorem dX10_comes_70 : decode cX10_comes 70 = .ok (.iload_n 3, 1) := by decide +kernel
theorem dX10_comes_71 : decode cX10_comes 71 = .ok (.ifCond .ne 7, 3) := by decide +kernel
theorem dX10_comes_74 : decode cX10_comes 74 = .ok (.iconst (-1), 1) := by decide +kernel
theorem dX10_comes_75 : decode cX10_comes 75 = .ok (.goto 12, 3) := by decide +kernel
theorem dX10_comes_78 : decode cX10_comes 78 = .ok (.aload_n 0, 1) := by decide +kernel
theorem dX10_comes_79 : decode cX10_comes 79 = .ok (.getfield 7, 3) := by decide +kernel
theorem dX10_comes_82 : decode cX10_comes 82 = .ok (.bipush 8, 2) := by decide +kernel
theorem dX10_comes_84 : decode cX10_comes 84 = .ok (.iaload, 1) := by decide +kernel
theorem dX10_comes_85 : decode cX10_comes 85 = .ok (.iload_n 3, 1) := by decide +kernel
theorem dX10_comes_86 : decode cX10_comes 86 = .ok (.iadd, 1) := by decide +kernel
theorem dX10_comes_87 : decode cX10_comes 87 = .ok (.iastore, 1) := by decide +kernel
theorem dX10_comes_88 : decode cX10_comes 88 = .ok (.aload_n 0, 1) := by decide +kernel
theorem dX10_comes_89 : decode cX10_comes 89 = .ok (.getfield 7, 3) := by decide +kernel
theorem dX10_comes_92 : decode cX10_comes 92 = .ok (.sipush 350, 3) := by decide +kernel
theorem dX10_comes_95 : decode cX10_comes 95 = .ok (.iload 4, 2) := by decide +kernel
theorem dX10_comes_97 : decode cX10_comes 97 = .ok (.iadd, 1) := by decide +kernel
theorem dX10_comes_98 : decode cX10_comes 98 = .ok (.iconst 0, 1) := by decide +kernel
theorem dX10_comes_99 : decode cX10_comes 99 = .ok (.iastore, 1) := by decide +kernel
theorem dX10_comes_100 : decode cX10_comes 100 = .ok (.aload_n 0, 1) := by decide +kernel
theorem dX10_comes_101 : decode cX10_comes 101 = .ok (.getfield 7, 3) := by decide +kernel
theorem dX10_comes_104 : decode cX10_comes 104 = .ok (.sipush 430, 3) := by decide +kernel
theorem dX10_comes_107 : decode cX10_comes 107 = .ok (.iload 4, 2) := by decide +kernel
theorem dX10_comes_109 : decode cX10_comes 109 = .ok (.iadd, 1) := by decide +kernel
theorem dX10_comes_110 : decode cX10_comes 110 = .ok (.iconst 0, 1) := by decide +kernel
theorem dX10_comes_111 : decode cX10_comes 111 = .ok (.iastore, 1) := by decide +kernel
theorem dX10_comes_112 : decode cX10_comes 112 = .ok (.aload_n 0, 1) := by decide +kernel
theorem dX10_comes_113 : decode cX10_comes 113 = .ok (.getfield 7, 3) := by decide +kernel
theorem dX10_comes_116 : decode cX10_comes 116 = .ok (.bipush 7, 2) := by decide +kernel
theorem dX10_comes_118 : decode cX10_comes 118 = .ok (.iaload, 1) := by decide +kernel
theorem dX10_comes_119 : decode cX10_comes 119 = .ok (.iconst 1, 1) := by decide +kernel
theorem dX10_comes_120 : decode cX10_comes 120 = .ok (.if_icmp .ne 63, 3) := by decide +kernel
theorem dX10_comes_123 : decode cX10_comes 123 = .ok (.iload_n 1, 1) := by decide +kernel
theorem dX10_comes_124 : decode cX10_comes 124 = .ok (.iconst 1, 1) := by decide +kernel
theorem dX10_comes_125 : decode cX10_comes 125 = .ok (.if_icmp .eq 17, 3) := by decide +kernel
theorem dX10_comes_128 : decode cX10_comes 128 = .ok (.aload_n 0, 1) := by decide +kernel
theorem dX10_comes_129 : decode cX10_comes 129 = .ok (.getfield 7, 3) := by decide +kernel
theorem dX10_comes_132 : decode cX10_comes 132 = .ok (.sipush 510, 3) := by decide +kernel
theorem dX10_comes_135 : decode cX10_comes 135 = .ok (.iload_n 2, 1) := by decide +kernel
theorem dX10_comes_136 : decode cX10_comes 136 = .ok (.iadd, 1) := by decide +kernel
theorem dX10_comes_137 : decode cX10_comes 137 = .ok (.iaload, 1) := by decide +kernel
theorem dX10_comes_138 : decode cX10_comes 138 = .ok (.iconst 1, 1) := by decide +kernel
theorem dX10_comes_139 : decode cX10_comes 139 = .ok (.if_icmp .ne 44, 3) := by decide +kernel
theorem dX10_comes_142 : decode cX10_comes 142 = .ok (.aload_n 0, 1) := by decide +kernel
theorem dX10_comes_143 : decode cX10_comes 143 = .ok (.getfield 7, 3) := by decide +kernel
theorem dX10_comes_146 : decode cX10_comes 146 = .ok (.sipush 510, 3) := by decide +kernel
theorem dX10_comes_149 : decode cX10_comes 149 = .ok (.iload_n 2, 1) := by decide +kernel
theorem dX10_comes_150 : decode cX10_comes 150 = .ok (.iadd, 1) := by decide +kernel
theorem dX10_comes_151 : decode cX10_comes 151 = .ok (.iconst 1, 1) := by decide +kernel
theorem dX10_comes_152 : decode cX10_comes 152 = .ok (.iastore, 1) := by decide +kernel
theorem dX10_comes_153 : decode cX10_comes 153 = .ok (.aload_n 0, 1) := by decide +kernel
theorem dX10_comes_154 : decode cX10_comes 154 = .ok (.getfield 7, 3) := by decide +kernel
theorem dX10_comes_157 : decode cX10_comes 157 = .ok (.sipush 350, 3) := by decide +kernel
theorem dX10_comes_160 : decode cX10_comes 160 = .ok (.iload 4, 2) := by decide +kernel
theorem dX10_comes_162 : decode cX10_comes 162 = .ok (.iadd, 1) := by decide +kernel
theorem dX10_comes_163 : decode cX10_comes 163 = .ok (.iconst 1, 1) := by decide +kernel
theorem dX10_comes_164 : decode cX10_comes 164 = .ok (.iastore, 1) := by decide +kernel
theorem dX10_comes_165 : decode cX10_comes 165 = .ok (.aload_n 0, 1) := by decide +kernel
theorem dX10_comes_166 : decode cX10_comes 166 = .ok (.getfield 7, 3) := by decide +kernel
theorem dX10_comes_169 : decode cX10_comes 169 = .ok (.sipush 430, 3) := by decide +kernel
theorem dX10_comes_172 : decode cX10_comes 172 = .ok (.iload 4, 2) := by decide +kernel
theorem dX10_comes_174 : decode cX10_comes 174 = .ok (.iadd, 1) := by decide +kernel
theorem dX10_comes_175 : decode cX10_comes 175 = .ok (.aload_n 0, 1) := by decide +kernel
theorem dX10_comes_176 : decode cX10_comes 176 = .ok (.getfield 7, 3) := by decide +kernel
theorem dX10_comes_179 : decode cX10_comes 179 = .ok (.bipush 8, 2) := by decide +kernel
theorem dX10_comes_181 : decode cX10_comes 181 = .ok (.iaload, 1) := by decide +kernel
theorem dX10_comes_182 : decode cX10_comes 182 = .ok (.iastore, 1) := by decide +kernel
theorem dX10_comes_183 : decode cX10_comes 183 = .ok (.iload 4, 2) := by decide +kernel
theorem dX10_comes_185 : decode cX10_comes 185 = .ok (.ireturn, 1) := by decide +kernel
theorem dX10_submit_0 : decode cX10_submit 0 = .ok (.aload_n 0, 1) := by decide +kernel
theorem dX10_submit_1 : decode cX10_submit 1 = .ok (.iconst 0, 1) := by decide +kernel
theorem dX10_submit_2 : decode cX10_submit 2 = .ok (.putfield 39, 3) := by decide +kernel
theorem dX10_submit_5 : decode cX10_submit 5 = .ok (.aload_n 0, 1) := by decide +kernel
theorem dX10_submit_6 : decode cX10_submit 6 = .ok (.iload_n 1, 1) := by decide +kernel
theorem dX10_submit_7 : decode cX10_submit 7 = .ok (.iload_n 2, 1) := by decide +kernel
theorem dX10_submit_8 : decode cX10_submit 8 = .ok (.iload_n 3, 1) := by decide +kernel
theorem dX10_submit_9 : decode cX10_submit 9 = .ok (.invokevirtual 106, 3) := by decide +kernel
theorem dX10_submit_12 : decode cX10_submit 12 = .ok (.istore 4, 2) := by decide +kernel
theorem dX10_submit_14 : decode cX10_submit 14 = .ok (.iload 4, 2) := by decide +kernel
theorem dX10_submit_16 : decode cX10_submit 16 = .ok (.ifCond .le 12, 3) := by decide +kernel
theorem dX10_submit_19 : decode cX10_submit 19 = .ok (.aload_n 0, 1) := by decide +kernel
theorem dX10_submit_20 : decode cX10_submit 20 = .ok (.iload 4, 2) := by decide +kernel
theorem dX10_submit_22 : decode cX10_submit 22 = .ok (.invokevirtual 78, 3) := by decide +kernel
theorem dX10_submit_25 : decode cX10_submit 25 = .ok (.goto 10, 3) := by decide +kernel
theorem dX10_submit_28 : decode cX10_submit 28 = .ok (.aload_n 0, 1) := by decide +kernel
theorem dX10_submit_29 : decode cX10_submit 29 = .ok (.iload_n 1, 1) := by decide +kernel
theorem dX10_submit_30 : decode cX10_submit 30 = .ok (.iload_n 2, 1) := by decide +kernel
theorem dX10_submit_31 : decode cX10_submit 31 = .ok (.iload_n 3, 1) := by decide +kernel
theorem dX10_submit_32 : decode cX10_submit 32 = .ok (.invokevirtual 109, 3) := by decide +kernel
theorem dX10_submit_35 : decode cX10_submit 35 = .ok (.ireturn, 1) := by decide +kernel
theorem dX10_appendCharacter_0 : decode cX10_appendCharacter 0 = .ok (.aload_n 0, 1) := by decide +kernel
theorem dX10_appendCharacter_1 : decode cX10_appendCharacter 1 = .ok (.iconst 0, 1) := by decide +kernel
theorem dX10_appendCharacter_2 : decode cX10_appendCharacter 2 = .ok (.putfield 39, 3) := by decide +kernel
theorem dX10_appendCharacter_5 : decode cX10_appendCharacter 5 = .ok (.iload_n 1, 1) := by decide +kernel
theorem dX10_appendCharacter_6 : decode cX10_appendCharacter 6 = .ok (.bipush 33, 2) := by decide +kernel
theorem dX10_appendCharacter_8 : decode cX10_appendCharacter 8 = .ok (.bipush 126, 2) := by decide +kernel
theorem dX10_appendCharacter_10 : decode cX10_appendCharacter 10 = .ok (.invokestatic 42, 3) := by decide +kernel
theorem dX10_appendCharacter_13 : decode cX10_appendCharacter 13 = .ok (.ifCond .ne 9, 3) := by decide +kernel
theorem dX10_appendCharacter_16 : decode cX10_appendCharacter 16 = .ok (.aload_n 0, 1) := by decide +kernel
theorem dX10_appendCharacter_17 : decode cX10_appendCharacter 17 = .ok (.iconst 1, 1) := by decide +kernel
theorem dX10_appendCharacter_18 : decode cX10_appendCharacter 18 = .ok (.invokevirtual 78, 3) := by decide +kernel
theorem dX10_appendCharacter_21 : decode cX10_appendCharacter 21 = .ok (.ireturn, 1) := by decide +kernel
theorem dX10_appendCharacter_22 : decode cX10_appendCharacter 22 = .ok (.aload_n 0, 1) := by decide +kernel
theorem dX10_appendCharacter_23 : decode cX10_appendCharacter 23 = .ok (.getfield 112, 3) := by decide +kernel
theorem dX10_appendCharacter_26 : decode cX10_appendCharacter 26 = .ok (.bipush 40, 2) := by decide +kernel
theorem dX10_appendCharacter_28 : decode cX10_appendCharacter 28 = .ok (.if_icmp .ne 9, 3) := by decide +kernel
theorem dX10_appendCharacter_31 : decode cX10_appendCharacter 31 = .ok (.aload_n 0, 1) := by decide +kernel
theorem dX10_appendCharacter_32 : decode cX10_appendCharacter 32 = .ok (.iconst 2, 1) := by decide +kernel
theorem dX10_appendCharacter_33 : decode cX10_appendCharacter 33 = .ok (.invokevirtual 78, 3) := by decide +kernel
theorem dX10_appendCharacter_36 : decode cX10_appendCharacter 36 = .ok (.ireturn, 1) := by decide +kernel
theorem dX10_appendCharacter_37 : decode cX10_appendCharacter 37 = .ok (.aload_n 0, 1) := by decide +kernel
theorem dX10_appendCharacter_38 : decode cX10_appendCharacter 38 = .ok (.getfield 16, 3) := by decide +kernel
theorem dX10_appendCharacter_41 : decode cX10_appendCharacter 41 = .ok (.aload_n 0, 1) := by decide +kernel
theorem dX10_appendCharacter_42 : decode cX10_appendCharacter 42 = .ok (.getfield 112, 3) := by decide +kernel
theorem dX10_appendCharacter_45 : decode cX10_appendCharacter 45 = .ok (.iload_n 1, 1) := by decide +kernel
theorem dX10_appendCharacter_46 : decode cX10_appendCharacter 46 = .ok (.iastore, 1) := by decide +kernel
theorem dX10_appendCharacter_47 : decode cX10_appendCharacter 47 = .ok (.aload_n 0, 1) := by decide +kernel
theorem dX10_appendCharacter_48 : decode cX10_appendCharacter 48 = .ok (.dup, 1) := by decide +kernel
theorem dX10_appendCharacter_49 : decode cX10_appendCharacter 49 = .ok (.getfield 112, 3) := by decide +kernel
theorem dX10_appendCharacter_52 : decode cX10_appendCharacter 52 = .ok (.iconst 1, 1) := by decide +kernel
theorem dX10_appendCharacter_53 : decode cX10_appendCharacter 53 = .ok (.iadd, 1) := by decide +kernel
theorem dX10_appendCharacter_54 : decode cX10_appendCharacter 54 = .ok (.putfield 112, 3) := by decide +kernel
theorem dX10_appendCharacter_57 : decode cX10_appendCharacter 57 = .ok (.aload_n 0, 1) := by decide +kernel
theorem dX10_appendCharacter_58 : decode cX10_appendCharacter 58 = .ok (.getfield 112, 3) := by decide +kernel
theorem dX10_appendCharacter_61 : decode cX10_appendCharacter 61 = .ok (.ireturn, 1) := by decide +kernel
theorem dX10_here_0 : decode cX10_here 0 = .ok (.aload_n 0, 1) := by decide +kernel
theorem dX10_here_1 : decode cX10_here 1 = .ok (.getfield 115, 3) := by decide +kernel
theorem dX10_here_4 : decode cX10_here 4 = .ok (.aload_n 0, 1) := by decide +kernel
theorem dX10_here_5 : decode cX10_here 5 = .ok (.getfield 112, 3) := by decide +kernel
theorem dX10_here_8 : decode cX10_here 8 = .ok (.if_icmp .ge 15, 3) := by decide +kernel
theorem dX10_here_11 : decode cX10_here 11 = .ok (.aload_n 0, 1) := by decide +kernel
theorem dX10_here_12 : decode cX10_here 12 = .ok (.getfield 16, 3) := by decide +kernel
theorem dX10_here_15 : decode cX10_here 15 = .ok (.aload_n 0, 1) := by decide +kernel
theorem dX10_here_16 : decode cX10_here 16 = .ok (.getfield 115, 3) := by decide +kernel
theorem dX10_here_19 : decode cX10_here 19 = .ok (.iaload, 1) := by decide +kernel
theorem dX10_here_20 : decode cX10_here 20 = .ok (.goto 4, 3) := by decide +kernel
theorem dX10_here_23 : decode cX10_here 23 = .ok (.iconst (-1), 1) := by decide +kernel
theorem dX10_here_24 : decode cX10_here 24 = .ok (.ireturn, 1) := by decide +kernel
theorem dX10_skips_0 : decode cX10_skips 0 = .ok (.aload_n 0, 1) := by decide +kernel
theorem dX10_skips_1 : decode cX10_skips 1 = .ok (.invokevirtual 118, 3) := by decide +kernel
theorem dX10_skips_4 : decode cX10_skips 4 = .ok (.iload_n 1, 1) := by decide +kernel
theorem dX10_skips_5 : decode cX10_skips 5 = .ok (.if_icmp .eq 5, 3) := by decide +kernel
theorem dX10_skips_8 : decode cX10_skips 8 = .ok (.iconst 0, 1) := by decide +kernel
theorem dX10_skips_9 : decode cX10_skips 9 = .ok (.ireturn, 1) := by decide +kernel
theorem dX10_skips_10 : decode cX10_skips 10 = .ok (.aload_n 0, 1) := by decide +kernel
theorem dX10_skips_11 : decode cX10_skips 11 = .ok (.dup, 1) := by decide +kernel
theorem dX10_skips_12 : decode cX10_skips 12 = .ok (.getfield 115, 3) := by decide +kernel
theorem dX10_skips_15 : decode cX10_skips 15 = .ok (.iconst 1, 1) := by decide +kernel
theorem dX10_skips_16 : decode cX10_skips 16 = .ok (.iadd, 1) := by decide +kernel
theorem dX10_skips_17 : decode cX10_skips 17 = .ok (.putfield 115, 3) := by decide +kernel
theorem dX10_skips_20 : decode cX10_skips 20 = .ok (.iconst 1, 1) := by decide +kernel
theorem dX10_skips_21 : decode cX10_skips 21 = .ok (.ireturn, 1) := by decide +kernel
theorem dX10_digits_0 : decode cX10_digits 0 = .ok (.aload_n 0, 1) := by decide +kernel
theorem dX10_digits_1 : decode cX10_digits 1 = .ok (.iconst 0, 1) := by decide +kernel
theorem dX10_digits_2 : decode cX10_digits 2 = .ok (.putfield 121, 3) := by decide +kernel
theorem dX10_digits_5 : decode cX10_digits 5 = .ok (.iconst 0, 1) := by decide +kernel
theorem dX10_digits_6 : decode cX10_digits 6 = .ok (.istore_n 2, 1) := by decide +kernel
theorem dX10_digits_7 : decode cX10_digits 7 = .ok (.iload_n 2, 1) := by decide +kernel
theorem dX10_digits_8 : decode cX10_digits 8 = .ok (.iload_n 1, 1) := by decide +kernel
theorem dX10_digits_9 : decode cX10_digits 9 = .ok (.if_icmp .ge 52, 3) := by decide +kernel
theorem dX10_digits_12 : decode cX10_digits 12 = .ok (.aload_n 0, 1) := by decide +kernel
theorem dX10_digits_13 : decode cX10_digits 13 = .ok (.invokevirtual 118, 3) := by decide +kernel
theorem dX10_digits_16 : decode cX10_digits 16 = .ok (.bipush 48, 2) := by decide +kernel
theorem dX10_digits_18 : decode cX10_digits 18 = .ok (.bipush 57, 2) := by decide +kernel
theorem dX10_digits_20 : decode cX10_digits 20 = .ok (.invokestatic 42, 3) := by decide +kernel
theorem dX10_digits_23 : decode cX10_digits 23 = .ok (.ifCond .eq 38, 3) := by decide +kernel
theorem dX10_digits_26 : decode cX10_digits 26 = .ok (.aload_n 0, 1) := by decide +kernel
theorem dX10_digits_27 : decode cX10_digits 27 = .ok (.bipush 10, 2) := by decide +kernel
theorem dX10_digits_29 : decode cX10_digits 29 = .ok (.aload_n 0, 1) := by decide +kernel
theorem dX10_digits_30 : decode cX10_digits 30 = .ok (.getfield 121, 3) := by decide +kernel
theorem dX10_digits_33 : decode cX10_digits 33 = .ok (.imul, 1) := by decide +kernel
theorem dX10_digits_34 : decode cX10_digits 34 = .ok (.aload_n 0, 1) := by decide +kernel
theorem dX10_digits_35 : decode cX10_digits 35 = .ok (.invokevirtual 118, 3) := by decide +kernel
theorem dX10_digits_38 : decode cX10_digits 38 = .ok (.iadd, 1) := by decide +kernel
theorem dX10_digits_39 : decode cX10_digits 39 = .ok (.bipush 48, 2) := by decide +kernel
theorem dX10_digits_41 : decode cX10_digits 41 = .ok (.isub, 1) := by decide +kernel
theorem dX10_digits_42 : decode cX10_digits 42 = .ok (.putfield 121, 3) := by decide +kernel
theorem dX10_digits_45 : decode cX10_digits 45 = .ok (.aload_n 0, 1) := by decide +kernel
theorem dX10_digits_46 : decode cX10_digits 46 = .ok (.dup, 1) := by decide +kernel
theorem dX10_digits_47 : decode cX10_digits 47 = .ok (.getfield 115, 3) := by decide +kernel
theorem dX10_digits_50 : decode cX10_digits 50 = .ok (.iconst 1, 1) := by decide +kernel
theorem dX10_digits_51 : decode cX10_digits 51 = .ok (.iadd, 1) := by decide +kernel
theorem dX10_digits_52 : decode cX10_digits 52 = .ok (.putfield 115, 3) := by decide +kernel
theorem dX10_digits_55 : decode cX10_digits 55 = .ok (.iinc 2 1, 3) := by decide +kernel
theorem dX10_digits_58 : decode cX10_digits 58 = .ok (.goto (-51), 3) := by decide +kernel
theorem dX10_digits_61 : decode cX10_digits 61 = .ok (.iload_n 2, 1) := by decide +kernel
theorem dX10_digits_62 : decode cX10_digits 62 = .ok (.ifCond .le 7, 3) := by decide +kernel
theorem dX10_digits_65 : decode cX10_digits 65 = .ok (.iconst 1, 1) := by decide +kernel
theorem dX10_digits_66 : decode cX10_digits 66 = .ok (.goto 4, 3) := by decide +kernel
theorem dX10_digits_69 : decode cX10_digits 69 = .ok (.iconst 0, 1) := by decide +kernel
theorem dX10_digits_70 : decode cX10_digits 70 = .ok (.ireturn, 1) := by decide +kernel
theorem dX10_isItem_0 : decode cX10_isItem 0 = .ok (.aload_n 0, 1) := by decide +kernel
theorem dX10_isItem_1 : decode cX10_isItem 1 = .ok (.invokevirtual 118, 3) := by decide +kernel
theorem dX10_isItem_4 : decode cX10_isItem 4 = .ok (.bipush 119, 2) := by decide +kernel
theorem dX10_isItem_6 : decode cX10_isItem 6 = .ok (.if_icmp .ne 7, 3) := by decide +kernel
theorem dX10_isItem_9 : decode cX10_isItem 9 = .ok (.iconst 1, 1) := by decide +kernel
theorem dX10_isItem_10 : decode cX10_isItem 10 = .ok (.goto 4, 3) := by decide +kernel
theorem dX10_isItem_13 : decode cX10_isItem 13 = .ok (.iconst 0, 1) := by decide +kernel
theorem dX10_isItem_14 : decode cX10_isItem 14 = .ok (.istore_n 1, 1) := by decide +kernel
theorem dX10_isItem_15 : decode cX10_isItem 15 = .ok (.aload_n 0, 1) := by decide +kernel
theorem dX10_isItem_16 : decode cX10_isItem 16 = .ok (.bipush 114, 2) := by decide +kernel
theorem dX10_isItem_18 : decode cX10_isItem 18 = .ok (.invokevirtual 124, 3) := by decide +kernel
theorem dX10_isItem_21 : decode cX10_isItem 21 = .ok (.ifCond .ne 12, 3) := by decide +kernel
theorem dX10_isItem_24 : decode cX10_isItem 24 = .ok (.aload_n 0, 1) := by decide +kernel
theorem dX10_isItem_25 : decode cX10_isItem 25 = .ok (.bipush 119, 2) := by decide +kernel
theorem dX10_isItem_27 : decode cX10_isItem 27 = .ok (.invokevirtual 124, 3) := by decide +kernel
theorem dX10_isItem_30 : decode cX10_isItem 30 = .ok (.ifCond .eq 11, 3) := by decide +kernel
theorem dX10_isItem_33 : decode cX10_isItem 33 = .ok (.aload_n 0, 1) := by decide +kernel
theorem dX10_isItem_34 : decode cX10_isItem 34 = .ok (.iconst 3, 1) := by decide +kernel
theorem dX10_isItem_35 : decode cX10_isItem 35 = .ok (.invokevirtual 127, 3) := by decide +kernel
theorem dX10_isItem_38 : decode cX10_isItem 38 = .ok (.ifCond .ne 5, 3) := by decide +kernel
theorem dX10_isItem_41 : decode cX10_isItem 41 = .ok (.iconst 0, 1) := by decide +kernel
theorem dX10_isItem_42 : decode cX10_isItem 42 = .ok (.ireturn, 1) := by decide +kernel
theorem dX10_isItem_43 : decode cX10_isItem 43 = .ok (.aload_n 0, 1) := by decide +kernel
theorem dX10_isItem_44 : decode cX10_isItem 44 = .ok (.getfield 23, 3) := by decide +kernel
theorem dX10_isItem_47 : decode cX10_isItem 47 = .ok (.iconst 3, 1) := by decide +kernel
theorem dX10_isItem_48 : decode cX10_isItem 48 = .ok (.aload_n 0, 1) := by decide +kernel
theorem dX10_isItem_49 : decode cX10_isItem 49 = .ok (.getfield 130, 3) := by decide +kernel
theorem dX10_isItem_52 : decode cX10_isItem 52 = .ok (.imul, 1) := by decide +kernel
theorem dX10_isItem_53 : decode cX10_isItem 53 = .ok (.iload_n 1, 1) := by decide +kernel
theorem dX10_isItem_54 : decode cX10_isItem 54 = .ok (.iastore, 1) := by decide +kernel
theorem dX10_isItem_55 : decode cX10_isItem 55 = .ok (.aload_n 0, 1) := by decide +kernel
theorem dX10_isItem_56 : decode cX10_isItem 56 = .ok (.getfield 23, 3) := by decide +kernel
theorem dX10_isItem_59 : decode cX10_isItem 59 = .ok (.iconst 3, 1) := by decide +kernel
theorem dX10_isItem_60 : decode cX10_isItem 60 = .ok (.aload_n 0, 1) := by decide +kernel
theorem dX10_isItem_61 : decode cX10_isItem 61 = .ok (.getfield 130, 3) := by decide +kernel
theorem dX10_isItem_64 : decode cX10_isItem 64 = .ok (.imul, 1) := by decide +kernel
theorem dX10_isItem_65 : decode cX10_isItem 65 = .ok (.iconst 1, 1) := by decide +kernel
theorem dX10_isItem_66 : decode cX10_isItem 66 = .ok (.iadd, 1) := by decide +kernel
theorem dX10_isItem_67 : decode cX10_isItem 67 = .ok (.aload_n 0, 1) := by decide +kernel
theorem dX10_isItem_68 : decode cX10_isItem 68 = .ok (.getfield 121, 3) := by decide +kernel
theorem dX10_isItem_71 : decode cX10_isItem 71 = .ok (.iastore, 1) := by decide +kernel
theorem dX10_isItem_72 : decode cX10_isItem 72 = .ok (.aload_n 0, 1) := by decide +kernel
theorem dX10_isItem_73 : decode cX10_isItem 73 = .ok (.getfield 23, 3) := by decide +kernel
theorem dX10_isItem_76 : decode cX10_isItem 76 = .ok (.iconst 3, 1) := by decide +kernel
theorem dX10_isItem_77 : decode cX10_isItem 77 = .ok (.aload_n 0, 1) := by decide +kernel
theorem dX10_isItem_78 : decode cX10_isItem 78 = .ok (.getfield 130, 3) := by decide +kernel
theorem dX10_isItem_81 : decode cX10_isItem 81 = .ok (.imul, 1) := by decide +kernel
theorem dX10_isItem_82 : decode cX10_isItem 82 = .ok (.iconst 2, 1) := by decide +kernel
theorem dX10_isItem_83 : decode cX10_isItem 83 = .ok (.iadd, 1) := by decide +kernel
theorem dX10_isItem_84 : decode cX10_isItem 84 = .ok (.iconst 0, 1) := by decide +kernel
theorem dX10_isItem_85 : decode cX10_isItem 85 = .ok (.iastore, 1) := by decide +kernel
theorem dX10_isItem_86 : decode cX10_isItem 86 = .ok (.aload_n 0, 1) := by decide +kernel
theorem dX10_isItem_87 : decode cX10_isItem 87 = .ok (.bipush 64, 2) := by decide +kernel
theorem dX10_isItem_89 : decode cX10_isItem 89 = .ok (.invokevirtual 124, 3) := by decide +kernel
theorem dX10_isItem_92 : decode cX10_isItem 92 = .ok (.ifCond .eq 30, 3) := by decide +kernel
theorem dX10_isItem_95 : decode cX10_isItem 95 = .ok (.aload_n 0, 1) := by decide +kernel
theorem dX10_isItem_96 : decode cX10_isItem 96 = .ok (.iconst 4, 1) := by decide +kernel
theorem dX10_isItem_97 : decode cX10_isItem 97 = .ok (.invokevirtual 127, 3) := by decide +kernel
theorem dX10_isItem_100 : decode cX10_isItem 100 = .ok (.ifCond .ne 5, 3) := by decide +kernel
theorem dX10_isItem_103 : decode cX10_isItem 103 = .ok (.iconst 0, 1) := by decide +kernel
theorem dX10_isItem_104 : decode cX10_isItem 104 = .ok (.ireturn, 1) := by decide +kernel
theorem dX10_isItem_105 : decode cX10_isItem 105 = .ok (.aload_n 0, 1) := by decide +kernel
theorem dX10_isItem_106 : decode cX10_isItem 106 = .ok (.getfield 23, 3) := by decide +kernel
theorem dX10_isItem_109 : decode cX10_isItem 109 = .ok (.iconst 3, 1) := by decide +kernel
theorem dX10_isItem_110 : decode cX10_isItem 110 = .ok (.aload_n 0, 1) := by decide +kernel
theorem dX10_isItem_111 : decode cX10_isItem 111 = .ok (.getfield 130, 3) := by decide +kernel
theorem dX10_isItem_114 : decode cX10_isItem 114 = .ok (.imul, 1) := by decide +kernel
theorem dX10_isItem_115 : decode cX10_isItem 115 = .ok (.iconst 2, 1) := by decide +kernel
theorem dX10_isItem_116 : decode cX10_isItem 116 = .ok (.iadd, 1) := by decide +kernel
theorem dX10_isItem_117 : decode cX10_isItem 117 = .ok (.aload_n 0, 1) := by decide +kernel
theorem dX10_isItem_118 : decode cX10_isItem 118 = .ok (.getfield 121, 3) := by decide +kernel
theorem dX10_isItem_121 : decode cX10_isItem 121 = .ok (.iastore, 1) := by decide +kernel
theorem dX10_isItem_122 : decode cX10_isItem 122 = .ok (.aload_n 0, 1) := by decide +kernel
theorem dX10_isItem_123 : decode cX10_isItem 123 = .ok (.dup, 1) := by decide +kernel
theorem dX10_isItem_124 : decode cX10_isItem 124 = .ok (.getfield 130, 3) := by decide +kernel
theorem dX10_isItem_127 : decode cX10_isItem 127 = .ok (.iconst 1, 1) := by decide +kernel
theorem dX10_isItem_128 : decode cX10_isItem 128 = .ok (.iadd, 1) := by decide +kernel
theorem dX10_isItem_129 : decode cX10_isItem 129 = .ok (.putfield 130, 3) := by decide +kernel
theorem dX10_isItem_132 : decode cX10_isItem 132 = .ok (.iconst 1, 1) := by decide +kernel
theorem dX10_isItem_133 : decode cX10_isItem 133 = .ok (.ireturn, 1) := by decide +kernel
theorem dX10_faultOf_0 : decode cX10_faultOf 0 = .ok (.aload_n 0, 1) := by decide +kernel
theorem dX10_faultOf_1 : decode cX10_faultOf 1 = .ok (.iconst 0, 1) := by decide +kernel
theorem dX10_faultOf_2 : decode cX10_faultOf 2 = .ok (.putfield 115, 3) := by decide +kernel
theorem dX10_faultOf_5 : decode cX10_faultOf 5 = .ok (.aload_n 0, 1) := by decide +kernel
theorem dX10_faultOf_6 : decode cX10_faultOf 6 = .ok (.iconst 0, 1) := by decide +kernel
theorem dX10_faultOf_7 : decode cX10_faultOf 7 = .ok (.putfield 130, 3) := by decide +kernel
theorem dX10_faultOf_10 : decode cX10_faultOf 10 = .ok (.aload_n 0, 1) := by decide +kernel
theorem dX10_faultOf_11 : decode cX10_faultOf 11 = .ok (.invokevirtual 133, 3) := by decide +kernel
theorem dX10_faultOf_14 : decode cX10_faultOf 14 = .ok (.ifCond .ne 8, 3) := by decide +kernel
theorem dX10_faultOf_17 : decode cX10_faultOf 17 = .ok (.aload_n 0, 1) := by decide +kernel
theorem dX10_faultOf_18 : decode cX10_faultOf 18 = .ok (.getfield 115, 3) := by decide +kernel
theorem dX10_faultOf_21 : decode cX10_faultOf 21 = .ok (.ireturn, 1) := by decide +kernel
theorem dX10_faultOf_22 : decode cX10_faultOf 22 = .ok (.aload_n 0, 1) := by decide +kernel
theorem dX10_faultOf_23 : decode cX10_faultOf 23 = .ok (.bipush 44, 2) := by decide +kernel
theorem dX10_faultOf_25 : decode cX10_faultOf 25 = .ok (.invokevirtual 124, 3) := by decide +kernel
theorem dX10_faultOf_28 : decode cX10_faultOf 28 = .ok (.ifCond .ne (-18), 3) := by decide +kernel
theorem dX10_faultOf_31 : decode cX10_faultOf 31 = .ok (.aload_n 0, 1) := by decide +kernel
theorem dX10_faultOf_32 : decode cX10_faultOf 32 = .ok (.getfield 115, 3) := by decide +kernel
theorem dX10_faultOf_35 : decode cX10_faultOf 35 = .ok (.aload_n 0, 1) := by decide +kernel
theorem dX10_faultOf_36 : decode cX10_faultOf 36 = .ok (.getfield 112, 3) := by decide +kernel
theorem dX10_faultOf_39 : decode cX10_faultOf 39 = .ok (.if_icmp .ge 10, 3) := by decide +kernel
theorem dX10_faultOf_42 : decode cX10_faultOf 42 = .ok (.aload_n 0, 1) := by decide +kernel
theorem dX10_faultOf_43 : decode cX10_faultOf 43 = .ok (.getfield 115, 3) := by decide +kernel
theorem dX10_faultOf_46 : decode cX10_faultOf 46 = .ok (.goto 4, 3) := by decide +kernel
theorem dX10_faultOf_49 : decode cX10_faultOf 49 = .ok (.iconst (-1), 1) := by decide +kernel
theorem dX10_faultOf_50 : decode cX10_faultOf 50 = .ok (.ireturn, 1) := by decide +kernel
theorem dX10_submitText_0 : decode cX10_submitText 0 = .ok (.aload_n 0, 1) := by decide +kernel
theorem dX10_submitText_1 : decode cX10_submitText 1 = .ok (.iconst 0, 1) := by decide +kernel
theorem dX10_submitText_2 : decode cX10_submitText 2 = .ok (.putfield 39, 3) := by decide +kernel
theorem dX10_submitText_5 : decode cX10_submitText 5 = .ok (.aload_n 0, 1) := by decide +kernel
theorem dX10_submitText_6 : decode cX10_submitText 6 = .ok (.aload_n 0, 1) := by decide +kernel
theorem dX10_submitText_7 : decode cX10_submitText 7 = .ok (.invokevirtual 137, 3) := by decide +kernel
theorem dX10_submitText_10 : decode cX10_submitText 10 = .ok (.putfield 19, 3) := by decide +kernel
theorem dX10_submitText_13 : decode cX10_submitText 13 = .ok (.aload_n 0, 1) := by decide +kernel
theorem dX10_submitText_14 : decode cX10_submitText 14 = .ok (.iconst 0, 1) := by decide +kernel
theorem dX10_submitText_15 : decode cX10_submitText 15 = .ok (.putfield 112, 3) := by decide +kernel
theorem dX10_submitText_18 : decode cX10_submitText 18 = .ok (.aload_n 0, 1) := by decide +kernel
theorem dX10_submitText_19 : decode cX10_submitText 19 = .ok (.getfield 19, 3) := by decide +kernel
theorem dX10_submitText_22 : decode cX10_submitText 22 = .ok (.ifCond .lt 9, 3) := by decide +kernel
theorem dX10_submitText_25 : decode cX10_submitText 25 = .ok (.aload_n 0, 1) := by decide +kernel
theorem dX10_submitText_26 : decode cX10_submitText 26 = .ok (.iconst 1, 1) := by decide +kernel
theorem dX10_submitText_27 : decode cX10_submitText 27 = .ok (.invokevirtual 78, 3) := by decide +kernel
theorem dX10_submitText_30 : decode cX10_submitText 30 = .ok (.ireturn, 1) := by decide +kernel
theorem dX10_submitText_31 : decode cX10_submitText 31 = .ok (.iconst 0, 1) := by decide +kernel
theorem dX10_submitText_32 : decode cX10_submitText 32 = .ok (.istore_n 1, 1) := by decide +kernel
theorem dX10_submitText_33 : decode cX10_submitText 33 = .ok (.iconst 0, 1) := by decide +kernel
theorem dX10_submitText_34 : decode cX10_submitText 34 = .ok (.istore_n 2, 1) := by decide +kernel
theorem dX10_submitText_35 : decode cX10_submitText 35 = .ok (.iload_n 2, 1) := by decide +kernel
theorem dX10_submitText_36 : decode cX10_submitText 36 = .ok (.aload_n 0, 1) := by decide +kernel
theorem dX10_submitText_37 : decode cX10_submitText 37 = .ok (.getfield 130, 3) := by decide +kernel
theorem dX10_submitText_40 : decode cX10_submitText 40 = .ok (.if_icmp .ge 80, 3) := by decide +kernel
theorem dX10_submitText_43 : decode cX10_submitText 43 = .ok (.aload_n 0, 1) := by decide +kernel
theorem dX10_submitText_44 : decode cX10_submitText 44 = .ok (.aload_n 0, 1) := by decide +kernel
theorem dX10_submitText_45 : decode cX10_submitText 45 = .ok (.getfield 23, 3) := by decide +kernel
theorem dX10_submitText_48 : decode cX10_submitText 48 = .ok (.iconst 3, 1) := by decide +kernel
theorem dX10_submitText_49 : decode cX10_submitText 49 = .ok (.iload_n 2, 1) := by decide +kernel
theorem dX10_submitText_50 : decode cX10_submitText 50 = .ok (.imul, 1) := by decide +kernel
theorem dX10_submitText_51 : decode cX10_submitText 51 = .ok (.iaload, 1) := by decide +kernel
theorem dX10_submitText_52 : decode cX10_submitText 52 = .ok (.aload_n 0, 1) := by decide +kernel
theorem dX10_submitText_53 : decode cX10_submitText 53 = .ok (.getfield 23, 3) := by decide +kernel
theorem dX10_submitText_56 : decode cX10_submitText 56 = .ok (.iconst 3, 1) := by decide +kernel
theorem dX10_submitText_57 : decode cX10_submitText 57 = .ok (.iload_n 2, 1) := by decide +kernel
theorem dX10_submitText_58 : decode cX10_submitText 58 = .ok (.imul, 1) := by decide +kernel
theorem dX10_submitText_59 : decode cX10_submitText 59 = .ok (.iconst 1, 1) := by decide +kernel
theorem dX10_submitText_60 : decode cX10_submitText 60 = .ok (.iadd, 1) := by decide +kernel
theorem dX10_submitText_61 : decode cX10_submitText 61 = .ok (.iaload, 1) := by decide +kernel
theorem dX10_submitText_62 : decode cX10_submitText 62 = .ok (.aload_n 0, 1) := by decide +kernel
theorem dX10_submitText_63 : decode cX10_submitText 63 = .ok (.getfield 23, 3) := by decide +kernel
theorem dX10_submitText_66 : decode cX10_submitText 66 = .ok (.iconst 3, 1) := by decide +kernel
theorem dX10_submitText_67 : decode cX10_submitText 67 = .ok (.iload_n 2, 1) := by decide +kernel
theorem dX10_submitText_68 : decode cX10_submitText 68 = .ok (.imul, 1) := by decide +kernel
theorem dX10_submitText_69 : decode cX10_submitText 69 = .ok (.iconst 2, 1) := by decide +kernel
theorem dX10_submitText_70 : decode cX10_submitText 70 = .ok (.iadd, 1) := by decide +kernel
theorem dX10_submitText_71 : decode cX10_submitText 71 = .ok (.iaload, 1) := by decide +kernel
theorem dX10_submitText_72 : decode cX10_submitText 72 = .ok (.invokevirtual 106, 3) := by decide +kernel
theorem dX10_submitText_75 : decode cX10_submitText 75 = .ok (.ifCond .ne 39, 3) := by decide +kernel
theorem dX10_submitText_78 : decode cX10_submitText 78 = .ok (.aload_n 0, 1) := by decide +kernel
theorem dX10_submitText_79 : decode cX10_submitText 79 = .ok (.aload_n 0, 1) := by decide +kernel
theorem dX10_submitText_80 : decode cX10_submitText 80 = .ok (.getfield 23, 3) := by decide +kernel
theorem dX10_submitText_83 : decode cX10_submitText 83 = .ok (.iconst 3, 1) := by decide +kernel
theorem dX10_submitText_84 : decode cX10_submitText 84 = .ok (.iload_n 2, 1) := by decide +kernel
theorem dX10_submitText_85 : decode cX10_submitText 85 = .ok (.imul, 1) := by decide +kernel
theorem dX10_submitText_86 : decode cX10_submitText 86 = .ok (.iaload, 1) := by decide +kernel
theorem dX10_submitText_87 : decode cX10_submitText 87 = .ok (.aload_n 0, 1) := by decide +kernel
theorem dX10_submitText_88 : decode cX10_submitText 88 = .ok (.getfield 23, 3) := by decide +kernel
theorem dX10_submitText_91 : decode cX10_submitText 91 = .ok (.iconst 3, 1) := by decide +kernel
theorem dX10_submitText_92 : decode cX10_submitText 92 = .ok (.iload_n 2, 1) := by decide +kernel
theorem dX10_submitText_93 : decode cX10_submitText 93 = .ok (.imul, 1) := by decide +kernel
theorem dX10_submitText_94 : decode cX10_submitText 94 = .ok (.iconst 1, 1) := by decide +kernel
theorem dX10_submitText_95 : decode cX10_submitText 95 = .ok (.iadd, 1) := by decide +kernel
theorem dX10_submitText_96 : decode cX10_submitText 96 = .ok (.iaload, 1) := by decide +kernel
theorem dX10_submitText_97 : decode cX10_submitText 97 = .ok (.aload_n 0, 1) := by decide +kernel
theorem dX10_submitText_98 : decode cX10_submitText 98 = .ok (.getfield 23, 3) := by decide +kernel
theorem dX10_submitText_101 : decode cX10_submitText 101 = .ok (.iconst 3, 1) := by decide +kernel
theorem dX10_submitText_102 : decode cX10_submitText 102 = .ok (.iload_n 2, 1) := by decide +kernel
theorem dX10_submitText_103 : decode cX10_submitText 103 = .ok (.imul, 1) := by decide +kernel
theorem dX10_submitText_104 : decode cX10_submitText 104 = .ok (.iconst 2, 1) := by decide +kernel
theorem dX10_submitText_105 : decode cX10_submitText 105 = .ok (.iadd, 1) := by decide +kernel
theorem dX10_submitText_106 : decode cX10_submitText 106 = .ok (.iaload, 1) := by decide +kernel
theorem dX10_submitText_107 : decode cX10_submitText 107 = .ok (.invokevirtual 109, 3) := by decide +kernel
theorem dX10_submitText_110 : decode cX10_submitText 110 = .ok (.pop, 1) := by decide +kernel
theorem dX10_submitText_111 : decode cX10_submitText 111 = .ok (.iinc 1 1, 3) := by decide +kernel
theorem dX10_submitText_114 : decode cX10_submitText 114 = .ok (.iinc 2 1, 3) := by decide +kernel
theorem dX10_submitText_117 : decode cX10_submitText 117 = .ok (.goto (-82), 3) := by decide +kernel
theorem dX10_submitText_120 : decode cX10_submitText 120 = .ok (.iload_n 1, 1) := by decide +kernel
theorem dX10_submitText_121 : decode cX10_submitText 121 = .ok (.ireturn, 1) := by decide +kernel
theorem dX10_faultPosition_0 : decode cX10_faultPosition 0 = .ok (.aload_n 0, 1) := by decide +kernel
theorem dX10_faultPosition_1 : decode cX10_faultPosition 1 = .ok (.iconst 0, 1) := by decide +kernel
theorem dX10_faultPosition_2 : decode cX10_faultPosition 2 = .ok (.putfield 39, 3) := by decide +kernel
theorem dX10_faultPosition_5 : decode cX10_faultPosition 5 = .ok (.aload_n 0, 1) := by decide +kernel
theorem dX10_faultPosition_6 : decode cX10_faultPosition 6 = .ok (.getfield 19, 3) := by decide +kernel
theorem dX10_faultPosition_9 : decode cX10_faultPosition 9 = .ok (.ireturn, 1) := by decide +kernel
theorem dX10_cancel_0 : decode cX10_cancel 0 = .ok (.aload_n 0, 1) := by decide +kernel
theorem dX10_cancel_1 : decode cX10_cancel 1 = .ok (.aload_n 0, 1) := by decide +kernel
theorem dX10_cancel_2 : decode cX10_cancel 2 = .ok (.iload_n 1, 1) := by decide +kernel
theorem dX10_cancel_3 : decode cX10_cancel 3 = .ok (.invokevirtual 140, 3) := by decide +kernel
theorem dX10_cancel_6 : decode cX10_cancel 6 = .ok (.ifCond .eq 19, 3) := by decide +kernel
theorem dX10_cancel_9 : decode cX10_cancel 9 = .ok (.aload_n 0, 1) := by decide +kernel
theorem dX10_cancel_10 : decode cX10_cancel 10 = .ok (.iload_n 1, 1) := by decide +kernel
theorem dX10_cancel_11 : decode cX10_cancel 11 = .ok (.invokevirtual 100, 3) := by decide +kernel
theorem dX10_cancel_14 : decode cX10_cancel 14 = .ok (.ifCond .eq 7, 3) := by decide +kernel
theorem dX10_cancel_17 : decode cX10_cancel 17 = .ok (.iconst 0, 1) := by decide +kernel
theorem dX10_cancel_18 : decode cX10_cancel 18 = .ok (.goto 8, 3) := by decide +kernel
theorem dX10_cancel_21 : decode cX10_cancel 21 = .ok (.iconst 2, 1) := by decide +kernel
theorem dX10_cancel_22 : decode cX10_cancel 22 = .ok (.goto 4, 3) := by decide +kernel
theorem dX10_cancel_25 : decode cX10_cancel 25 = .ok (.iconst 1, 1) := by decide +kernel
theorem dX10_cancel_26 : decode cX10_cancel 26 = .ok (.putfield 39, 3) := by decide +kernel
theorem dX10_cancel_29 : decode cX10_cancel 29 = .ok (.aload_n 0, 1) := by decide +kernel
theorem dX10_cancel_30 : decode cX10_cancel 30 = .ok (.getfield 39, 3) := by decide +kernel
theorem dX10_cancel_33 : decode cX10_cancel 33 = .ok (.ifCond .ne 14, 3) := by decide +kernel
theorem dX10_cancel_36 : decode cX10_cancel 36 = .ok (.aload_n 0, 1) := by decide +kernel
theorem dX10_cancel_37 : decode cX10_cancel 37 = .ok (.getfield 7, 3) := by decide +kernel
theorem dX10_cancel_40 : decode cX10_cancel 40 = .ok (.sipush 350, 3) := by decide +kernel
theorem dX10_cancel_43 : decode cX10_cancel 43 = .ok (.iload_n 1, 1) := by decide +kernel
theorem dX10_cancel_44 : decode cX10_cancel 44 = .ok (.iadd, 1) := by decide +kernel
theorem dX10_cancel_45 : decode cX10_cancel 45 = .ok (.iconst 2, 1) := by decide +kernel
theorem dX10_cancel_46 : decode cX10_cancel 46 = .ok (.iastore, 1) := by decide +kernel
theorem dX10_cancel_47 : decode cX10_cancel 47 = .ok (.return_, 1) := by decide +kernel
theorem dX10_cylinder_0 : decode cX10_cylinder 0 = .ok (.aload_n 0, 1) := by decide +kernel
theorem dX10_cylinder_1 : decode cX10_cylinder 1 = .ok (.aload_n 0, 1) := by decide +kernel
theorem dX10_cylinder_2 : decode cX10_cylinder 2 = .ok (.getfield 7, 3) := by decide +kernel
theorem dX10_cylinder_5 : decode cX10_cylinder 5 = .ok (.bipush 110, 2) := by decide +kernel
theorem dX10_cylinder_7 : decode cX10_cylinder 7 = .ok (.iload_n 1, 1) := by decide +kernel
theorem dX10_cylinder_8 : decode cX10_cylinder 8 = .ok (.iadd, 1) := by decide +kernel
theorem dX10_cylinder_9 : decode cX10_cylinder 9 = .ok (.iaload, 1) := by decide +kernel
theorem dX10_cylinder_10 : decode cX10_cylinder 10 = .ok (.invokevirtual 89, 3) := by decide +kernel
theorem dX10_cylinder_13 : decode cX10_cylinder 13 = .ok (.invokestatic 53, 3) := by decide +kernel
theorem dX10_cylinder_16 : decode cX10_cylinder 16 = .ok (.ireturn, 1) := by decide +kernel
theorem dX10_distance_0 : decode cX10_distance 0 = .ok (.aload_n 0, 1) := by decide +kernel
theorem dX10_distance_1 : decode cX10_distance 1 = .ok (.iload_n 1, 1) := by decide +kernel
theorem dX10_distance_2 : decode cX10_distance 2 = .ok (.invokevirtual 143, 3) := by decide +kernel
theorem dX10_distance_5 : decode cX10_distance 5 = .ok (.aload_n 0, 1) := by decide +kernel
theorem dX10_distance_6 : decode cX10_distance 6 = .ok (.getfield 7, 3) := by decide +kernel
theorem dX10_distance_9 : decode cX10_distance 9 = .ok (.bipush 9, 2) := by decide +kernel
theorem dX10_distance_11 : decode cX10_distance 11 = .ok (.iaload, 1) := by decide +kernel
theorem dX10_distance_12 : decode cX10_distance 12 = .ok (.isub, 1) := by decide +kernel
theorem dX10_distance_13 : decode cX10_distance 13 = .ok (.istore_n 2, 1) := by decide +kernel
theorem dX10_distance_14 : decode cX10_distance 14 = .ok (.iload_n 2, 1) := by decide +kernel
theorem dX10_distance_15 : decode cX10_distance 15 = .ok (.ifCond .ge 8, 3) := by decide +kernel
theorem dX10_distance_18 : decode cX10_distance 18 = .ok (.iload_n 2, 1) := by decide +kernel
theorem dX10_distance_19 : decode cX10_distance 19 = .ok (.ineg, 1) := by decide +kernel
theorem dX10_distance_20 : decode cX10_distance 20 = .ok (.goto 4, 3) := by decide +kernel
theorem dX10_distance_23 : decode cX10_distance 23 = .ok (.iload_n 2, 1) := by decide +kernel
theorem dX10_distance_24 : decode cX10_distance 24 = .ok (.ireturn, 1) := by decide +kernel
theorem dX10_isAhead_0 : decode cX10_isAhead 0 = .ok (.aload_n 0, 1) := by decide +kernel
theorem dX10_isAhead_1 : decode cX10_isAhead 1 = .ok (.getfield 7, 3) := by decide +kernel
theorem dX10_isAhead_4 : decode cX10_isAhead 4 = .ok (.bipush 10, 2) := by decide +kernel
theorem dX10_isAhead_6 : decode cX10_isAhead 6 = .ok (.iaload, 1) := by decide +kernel
theorem dX10_isAhead_7 : decode cX10_isAhead 7 = .ok (.iconst 1, 1) := by decide +kernel
theorem dX10_isAhead_8 : decode cX10_isAhead 8 = .ok (.if_icmp .ne 26, 3) := by decide +kernel
theorem dX10_isAhead_11 : decode cX10_isAhead 11 = .ok (.aload_n 0, 1) := by decide +kernel
theorem dX10_isAhead_12 : decode cX10_isAhead 12 = .ok (.iload_n 1, 1) := by decide +kernel
theorem dX10_isAhead_13 : decode cX10_isAhead 13 = .ok (.invokevirtual 143, 3) := by decide +kernel
theorem dX10_isAhead_16 : decode cX10_isAhead 16 = .ok (.aload_n 0, 1) := by decide +kernel
theorem dX10_isAhead_17 : decode cX10_isAhead 17 = .ok (.getfield 7, 3) := by decide +kernel
theorem dX10_isAhead_20 : decode cX10_isAhead 20 = .ok (.bipush 9, 2) := by decide +kernel
theorem dX10_isAhead_22 : decode cX10_isAhead 22 = .ok (.iaload, 1) := by decide +kernel
theorem dX10_isAhead_23 : decode cX10_isAhead 23 = .ok (.if_icmp .lt 7, 3) := by decide +kernel
theorem dX10_isAhead_26 : decode cX10_isAhead 26 = .ok (.iconst 1, 1) := by decide +kernel
theorem dX10_isAhead_27 : decode cX10_isAhead 27 = .ok (.goto 27, 3) := by decide +kernel
theorem dX10_isAhead_30 : decode cX10_isAhead 30 = .ok (.iconst 0, 1) := by decide +kernel
theorem dX10_isAhead_31 : decode cX10_isAhead 31 = .ok (.goto 23, 3) := by decide +kernel
theorem dX10_isAhead_34 : decode cX10_isAhead 34 = .ok (.aload_n 0, 1) := by decide +kernel
theorem dX10_isAhead_35 : decode cX10_isAhead 35 = .ok (.iload_n 1, 1) := by decide +kernel
theorem dX10_isAhead_36 : decode cX10_isAhead 36 = .ok (.invokevirtual 143, 3) := by decide +kernel
theorem dX10_isAhead_39 : decode cX10_isAhead 39 = .ok (.aload_n 0, 1) := by decide +kernel
theorem dX10_isAhead_40 : decode cX10_isAhead 40 = .ok (.getfield 7, 3) := by decide +kernel
theorem dX10_isAhead_43 : decode cX10_isAhead 43 = .ok (.bipush 9, 2) := by decide +kernel
theorem dX10_isAhead_45 : decode cX10_isAhead 45 = .ok (.iaload, 1) := by decide +kernel
theorem dX10_isAhead_46 : decode cX10_isAhead 46 = .ok (.if_icmp .gt 7, 3) := by decide +kernel
theorem dX10_isAhead_49 : decode cX10_isAhead 49 = .ok (.iconst 1, 1) := by decide +kernel
theorem dX10_isAhead_50 : decode cX10_isAhead 50 = .ok (.goto 4, 3) := by decide +kernel
theorem dX10_isAhead_53 : decode cX10_isAhead 53 = .ok (.iconst 0, 1) := by decide +kernel
theorem dX10_isAhead_54 : decode cX10_isAhead 54 = .ok (.ireturn, 1) := by decide +kernel
theorem dX10_bucketOf_0 : decode cX10_bucketOf 0 = .ok (.iconst 3, 1) := by decide +kernel
theorem dX10_bucketOf_1 : decode cX10_bucketOf 1 = .ok (.istore_n 2, 1) := by decide +kernel
theorem dX10_bucketOf_2 : decode cX10_bucketOf 2 = .ok (.aload_n 0, 1) := by decide +kernel
theorem dX10_bucketOf_3 : decode cX10_bucketOf 3 = .ok (.getfield 7, 3) := by decide +kernel
theorem dX10_bucketOf_6 : decode cX10_bucketOf 6 = .ok (.sipush 270, 3) := by decide +kernel
theorem dX10_bucketOf_9 : decode cX10_bucketOf 9 = .ok (.iload_n 1, 1) := by decide +kernel
theorem dX10_bucketOf_10 : decode cX10_bucketOf 10 = .ok (.iadd, 1) := by decide +kernel
theorem dX10_bucketOf_11 : decode cX10_bucketOf 11 = .ok (.iaload, 1) := by decide +kernel
theorem dX10_bucketOf_12 : decode cX10_bucketOf 12 = .ok (.ifCond .lt 50, 3) := by decide +kernel
theorem dX10_bucketOf_15 : decode cX10_bucketOf 15 = .ok (.aload_n 0, 1) := by decide +kernel
theorem dX10_bucketOf_16 : decode cX10_bucketOf 16 = .ok (.getfield 7, 3) := by decide +kernel
theorem dX10_bucketOf_19 : decode cX10_bucketOf 19 = .ok (.sipush 270, 3) := by decide +kernel
theorem dX10_bucketOf_22 : decode cX10_bucketOf 22 = .ok (.iload_n 1, 1) := by decide +kernel
theorem dX10_bucketOf_23 : decode cX10_bucketOf 23 = .ok (.iadd, 1) := by decide +kernel
theorem dX10_bucketOf_24 : decode cX10_bucketOf 24 = .ok (.iaload, 1) := by decide +kernel
theorem dX10_bucketOf_25 : decode cX10_bucketOf 25 = .ok (.aload_n 0, 1) := by decide +kernel
theorem dX10_bucketOf_26 : decode cX10_bucketOf 26 = .ok (.getfield 7, 3) := by decide +kernel
theorem dX10_bucketOf_29 : decode cX10_bucketOf 29 = .ok (.bipush 8, 2) := by decide +kernel
theorem dX10_bucketOf_31 : decode cX10_bucketOf 31 = .ok (.iaload, 1) := by decide +kernel
theorem dX10_bucketOf_32 : decode cX10_bucketOf 32 = .ok (.isub, 1) := by decide +kernel
theorem dX10_bucketOf_33 : decode cX10_bucketOf 33 = .ok (.istore_n 3, 1) := by decide +kernel
theorem dX10_bucketOf_34 : decode cX10_bucketOf 34 = .ok (.iload_n 3, 1) := by decide +kernel
theorem dX10_bucketOf_35 : decode cX10_bucketOf 35 = .ok (.ifCond .ge 7, 3) := by decide +kernel
theorem dX10_bucketOf_38 : decode cX10_bucketOf 38 = .ok (.iconst 0, 1) := by decide +kernel
theorem dX10_bucketOf_39 : decode cX10_bucketOf 39 = .ok (.goto 11, 3) := by decide +kernel
theorem dX10_bucketOf_42 : decode cX10_bucketOf 42 = .ok (.iload_n 3, 1) := by decide +kernel
theorem dX10_bucketOf_43 : decode cX10_bucketOf 43 = .ok (.aload_n 0, 1) := by decide +kernel
theorem dX10_bucketOf_44 : decode cX10_bucketOf 44 = .ok (.getfield 7, 3) := by decide +kernel
theorem dX10_bucketOf_47 : decode cX10_bucketOf 47 = .ok (.iconst 5, 1) := by decide +kernel
theorem dX10_bucketOf_48 : decode cX10_bucketOf 48 = .ok (.iaload, 1) := by decide +kernel
theorem dX10_bucketOf_49 : decode cX10_bucketOf 49 = .ok (.idiv, 1) := by decide +kernel
theorem dX10_bucketOf_50 : decode cX10_bucketOf 50 = .ok (.istore_n 2, 1) := by decide +kernel
theorem dX10_bucketOf_51 : decode cX10_bucketOf 51 = .ok (.iload_n 2, 1) := by decide +kernel
theorem dX10_bucketOf_52 : decode cX10_bucketOf 52 = .ok (.iconst 3, 1) := by decide +kernel
theorem dX10_bucketOf_53 : decode cX10_bucketOf 53 = .ok (.if_icmp .le 7, 3) := by decide +kernel
theorem dX10_bucketOf_56 : decode cX10_bucketOf 56 = .ok (.iconst 3, 1) := by decide +kernel
theorem dX10_bucketOf_57 : decode cX10_bucketOf 57 = .ok (.goto 4, 3) := by decide +kernel
theorem dX10_bucketOf_60 : decode cX10_bucketOf 60 = .ok (.iload_n 2, 1) := by decide +kernel
theorem dX10_bucketOf_61 : decode cX10_bucketOf 61 = .ok (.istore_n 2, 1) := by decide +kernel
theorem dX10_bucketOf_62 : decode cX10_bucketOf 62 = .ok (.iload_n 2, 1) := by decide +kernel
theorem dX10_bucketOf_63 : decode cX10_bucketOf 63 = .ok (.aload_n 0, 1) := by decide +kernel
theorem dX10_bucketOf_64 : decode cX10_bucketOf 64 = .ok (.getfield 7, 3) := by decide +kernel
theorem dX10_bucketOf_67 : decode cX10_bucketOf 67 = .ok (.bipush 8, 2) := by decide +kernel
theorem dX10_bucketOf_69 : decode cX10_bucketOf 69 = .ok (.iaload, 1) := by decide +kernel
theorem dX10_bucketOf_70 : decode cX10_bucketOf 70 = .ok (.aload_n 0, 1) := by decide +kernel
theorem dX10_bucketOf_71 : decode cX10_bucketOf 71 = .ok (.getfield 7, 3) := by decide +kernel
theorem dX10_bucketOf_74 : decode cX10_bucketOf 74 = .ok (.sipush 190, 3) := by decide +kernel
theorem dX10_bucketOf_77 : decode cX10_bucketOf 77 = .ok (.iload_n 1, 1) := by decide +kernel
theorem dX10_bucketOf_78 : decode cX10_bucketOf 78 = .ok (.iadd, 1) := by decide +kernel
theorem dX10_bucketOf_79 : decode cX10_bucketOf 79 = .ok (.iaload, 1) := by decide +kernel
theorem dX10_bucketOf_80 : decode cX10_bucketOf 80 = .ok (.isub, 1) := by decide +kernel
theorem dX10_bucketOf_81 : decode cX10_bucketOf 81 = .ok (.aload_n 0, 1) := by decide +kernel
theorem dX10_bucketOf_82 : decode cX10_bucketOf 82 = .ok (.getfield 7, 3) := by decide +kernel
theorem dX10_bucketOf_85 : decode cX10_bucketOf 85 = .ok (.bipush 6, 2) := by decide +kernel
theorem dX10_bucketOf_87 : decode cX10_bucketOf 87 = .ok (.iaload, 1) := by decide +kernel
theorem dX10_bucketOf_88 : decode cX10_bucketOf 88 = .ok (.idiv, 1) := by decide +kernel
theorem dX10_bucketOf_89 : decode cX10_bucketOf 89 = .ok (.isub, 1) := by decide +kernel
theorem dX10_bucketOf_90 : decode cX10_bucketOf 90 = .ok (.istore_n 2, 1) := by decide +kernel
theorem dX10_bucketOf_91 : decode cX10_bucketOf 91 = .ok (.iload_n 2, 1) := by decide +kernel
theorem dX10_bucketOf_92 : decode cX10_bucketOf 92 = .ok (.ifCond .ge 7, 3) := by decide +kernel
theorem dX10_bucketOf_95 : decode cX10_bucketOf 95 = .ok (.iconst 0, 1) := by decide +kernel
theorem dX10_bucketOf_96 : decode cX10_bucketOf 96 = .ok (.goto 4, 3) := by decide +kernel
theorem dX10_bucketOf_99 : decode cX10_bucketOf 99 = .ok (.iload_n 2, 1) := by decide +kernel
theorem dX10_bucketOf_100 : decode cX10_bucketOf 100 = .ok (.ireturn, 1) := by decide +kernel
theorem dX10_keyOf_0 : decode cX10_keyOf 0 = .ok (.iload_n 2, 1) := by decide +kernel
theorem dX10_keyOf_1 : decode cX10_keyOf 1 = .ok (.tableswitch 116 0 4 #[35, 37, 43, 69, 102], 35) := by decide +kernel
theorem dX10_keyOf_36 : decode cX10_keyOf 36 = .ok (.iload_n 1, 1) := by decide +kernel
theorem dX10_keyOf_37 : decode cX10_keyOf 37 = .ok (.ireturn, 1) := by decide +kernel
theorem dX10_keyOf_38 : decode cX10_keyOf 38 = .ok (.aload_n 0, 1) := by decide +kernel
theorem dX10_keyOf_39 : decode cX10_keyOf 39 = .ok (.iload_n 1, 1) := by decide +kernel
theorem dX10_keyOf_40 : decode cX10_keyOf 40 = .ok (.invokevirtual 146, 3) := by decide +kernel
theorem dX10_keyOf_43 : decode cX10_keyOf 43 = .ok (.ireturn, 1) := by decide +kernel
theorem dX10_keyOf_44 : decode cX10_keyOf 44 = .ok (.aload_n 0, 1) := by decide +kernel
theorem dX10_keyOf_45 : decode cX10_keyOf 45 = .ok (.iload_n 1, 1) := by decide +kernel
theorem dX10_keyOf_46 : decode cX10_keyOf 46 = .ok (.invokevirtual 149, 3) := by decide +kernel
theorem dX10_keyOf_49 : decode cX10_keyOf 49 = .ok (.ifCond .eq 11, 3) := by decide +kernel
theorem dX10_keyOf_52 : decode cX10_keyOf 52 = .ok (.aload_n 0, 1) := by decide +kernel
theorem dX10_keyOf_53 : decode cX10_keyOf 53 = .ok (.iload_n 1, 1) := by decide +kernel
theorem dX10_keyOf_54 : decode cX10_keyOf 54 = .ok (.invokevirtual 146, 3) := by decide +kernel
theorem dX10_keyOf_57 : decode cX10_keyOf 57 = .ok (.goto 12, 3) := by decide +kernel
theorem dX10_keyOf_60 : decode cX10_keyOf 60 = .ok (.sipush 1000, 3) := by decide +kernel
theorem dX10_keyOf_63 : decode cX10_keyOf 63 = .ok (.aload_n 0, 1) := by decide +kernel
theorem dX10_keyOf_64 : decode cX10_keyOf 64 = .ok (.iload_n 1, 1) := by decide +kernel
theorem dX10_keyOf_65 : decode cX10_keyOf 65 = .ok (.invokevirtual 146, 3) := by decide +kernel
theorem dX10_keyOf_68 : decode cX10_keyOf 68 = .ok (.iadd, 1) := by decide +kernel
theorem dX10_keyOf_69 : decode cX10_keyOf 69 = .ok (.ireturn, 1) := by decide +kernel
theorem dX10_keyOf_70 : decode cX10_keyOf 70 = .ok (.aload_n 0, 1) := by decide +kernel
theorem dX10_keyOf_71 : decode cX10_keyOf 71 = .ok (.iload_n 1, 1) := by decide +kernel
theorem dX10_keyOf_72 : decode cX10_keyOf 72 = .ok (.invokevirtual 143, 3) := by decide +kernel
theorem dX10_keyOf_75 : decode cX10_keyOf 75 = .ok (.aload_n 0, 1) := by decide +kernel
theorem dX10_keyOf_76 : decode cX10_keyOf 76 = .ok (.getfield 7, 3) := by decide +kernel
theorem dX10_keyOf_79 : decode cX10_keyOf 79 = .ok (.bipush 9, 2) := by decide +kernel
theorem dX10_keyOf_81 : decode cX10_keyOf 81 = .ok (.iaload, 1) := by decide +kernel
theorem dX10_keyOf_82 : decode cX10_keyOf 82 = .ok (.if_icmp .lt 11, 3) := by decide +kernel
theorem dX10_keyOf_85 : decode cX10_keyOf 85 = .ok (.aload_n 0, 1) := by decide +kernel
theorem dX10_keyOf_86 : decode cX10_keyOf 86 = .ok (.iload_n 1, 1) := by decide +kernel
theorem dX10_keyOf_87 : decode cX10_keyOf 87 = .ok (.invokevirtual 146, 3) := by decide +kernel
theorem dX10_keyOf_90 : decode cX10_keyOf 90 = .ok (.goto 12, 3) := by decide +kernel
theorem dX10_keyOf_93 : decode cX10_keyOf 93 = .ok (.sipush 1000, 3) := by decide +kernel
theorem dX10_keyOf_96 : decode cX10_keyOf 96 = .ok (.aload_n 0, 1) := by decide +kernel
theorem dX10_keyOf_97 : decode cX10_keyOf 97 = .ok (.iload_n 1, 1) := by decide +kernel
theorem dX10_keyOf_98 : decode cX10_keyOf 98 = .ok (.invokevirtual 143, 3) := by decide +kernel
theorem dX10_keyOf_101 : decode cX10_keyOf 101 = .ok (.iadd, 1) := by decide +kernel
theorem dX10_keyOf_102 : decode cX10_keyOf 102 = .ok (.ireturn, 1) := by decide +kernel
theorem dX10_keyOf_103 : decode cX10_keyOf 103 = .ok (.aload_n 0, 1) := by decide +kernel
theorem dX10_keyOf_104 : decode cX10_keyOf 104 = .ok (.aload_n 0, 1) := by decide +kernel
theorem dX10_keyOf_105 : decode cX10_keyOf 105 = .ok (.getfield 7, 3) := by decide +kernel
theorem dX10_keyOf_108 : decode cX10_keyOf 108 = .ok (.bipush 110, 2) := by decide +kernel
theorem dX10_keyOf_110 : decode cX10_keyOf 110 = .ok (.iload_n 1, 1) := by decide +kernel
theorem dX10_keyOf_111 : decode cX10_keyOf 111 = .ok (.iadd, 1) := by decide +kernel
theorem dX10_keyOf_112 : decode cX10_keyOf 112 = .ok (.iaload, 1) := by decide +kernel
theorem dX10_keyOf_113 : decode cX10_keyOf 113 = .ok (.invokevirtual 96, 3) := by decide +kernel
theorem dX10_keyOf_116 : decode cX10_keyOf 116 = .ok (.ireturn, 1) := by decide +kernel
theorem dX10_keyOf_117 : decode cX10_keyOf 117 = .ok (.ldc 99, 2) := by decide +kernel
theorem dX10_keyOf_119 : decode cX10_keyOf 119 = .ok (.aload_n 0, 1) := by decide +kernel
theorem dX10_keyOf_120 : decode cX10_keyOf 120 = .ok (.iload_n 1, 1) := by decide +kernel
theorem dX10_keyOf_121 : decode cX10_keyOf 121 = .ok (.invokevirtual 152, 3) := by decide +kernel
theorem dX10_keyOf_124 : decode cX10_keyOf 124 = .ok (.imul, 1) := by decide +kernel
theorem dX10_keyOf_125 : decode cX10_keyOf 125 = .ok (.aload_n 0, 1) := by decide +kernel
theorem dX10_keyOf_126 : decode cX10_keyOf 126 = .ok (.aload_n 0, 1) := by decide +kernel
theorem dX10_keyOf_127 : decode cX10_keyOf 127 = .ok (.getfield 7, 3) := by decide +kernel
theorem dX10_keyOf_130 : decode cX10_keyOf 130 = .ok (.bipush 110, 2) := by decide +kernel
theorem dX10_keyOf_132 : decode cX10_keyOf 132 = .ok (.iload_n 1, 1) := by decide +kernel
theorem dX10_keyOf_133 : decode cX10_keyOf 133 = .ok (.iadd, 1) := by decide +kernel
theorem dX10_keyOf_134 : decode cX10_keyOf 134 = .ok (.iaload, 1) := by decide +kernel
theorem dX10_keyOf_135 : decode cX10_keyOf 135 = .ok (.invokevirtual 96, 3) := by decide +kernel
theorem dX10_keyOf_138 : decode cX10_keyOf 138 = .ok (.iadd, 1) := by decide +kernel
theorem dX10_keyOf_139 : decode cX10_keyOf 139 = .ok (.ireturn, 1) := by decide +kernel
theorem dX10_least_0 : decode cX10_least 0 = .ok (.iconst (-1), 1) := by decide +kernel
theorem dX10_least_1 : decode cX10_least 1 = .ok (.istore_n 2, 1) := by decide +kernel
theorem dX10_least_2 : decode cX10_least 2 = .ok (.iconst 0, 1) := by decide +kernel
theorem dX10_least_3 : decode cX10_least 3 = .ok (.istore_n 3, 1) := by decide +kernel
theorem dX10_least_4 : decode cX10_least 4 = .ok (.iload_n 3, 1) := by decide +kernel
theorem dX10_least_5 : decode cX10_least 5 = .ok (.aload_n 0, 1) := by decide +kernel
theorem dX10_least_6 : decode cX10_least 6 = .ok (.getfield 7, 3) := by decide +kernel
theorem dX10_least_9 : decode cX10_least 9 = .ok (.bipush 12, 2) := by decide +kernel
theorem dX10_least_11 : decode cX10_least 11 = .ok (.iaload, 1) := by decide +kernel
theorem dX10_least_12 : decode cX10_least 12 = .ok (.if_icmp .ge 38, 3) := by decide +kernel
theorem dX10_least_15 : decode cX10_least 15 = .ok (.aload_n 0, 1) := by decide +kernel
theorem dX10_least_16 : decode cX10_least 16 = .ok (.iload_n 3, 1) := by decide +kernel
theorem dX10_least_17 : decode cX10_least 17 = .ok (.invokevirtual 100, 3) := by decide +kernel
theorem dX10_least_20 : decode cX10_least 20 = .ok (.ifCond .eq 24, 3) := by decide +kernel
theorem dX10_least_23 : decode cX10_least 23 = .ok (.iload_n 2, 1) := by decide +kernel
theorem dX10_least_24 : decode cX10_least 24 = .ok (.ifCond .lt 18, 3) := by decide +kernel
theorem dX10_least_27 : decode cX10_least 27 = .ok (.aload_n 0, 1) := by decide +kernel
theorem dX10_least_28 : decode cX10_least 28 = .ok (.iload_n 3, 1) := by decide +kernel
theorem dX10_least_29 : decode cX10_least 29 = .ok (.iload_n 1, 1) := by decide +kernel
theorem dX10_least_30 : decode cX10_least 30 = .ok (.invokevirtual 155, 3) := by decide +kernel
theorem dX10_least_33 : decode cX10_least 33 = .ok (.aload_n 0, 1) := by decide +kernel
theorem dX10_least_34 : decode cX10_least 34 = .ok (.iload_n 2, 1) := by decide +kernel
theorem dX10_least_35 : decode cX10_least 35 = .ok (.iload_n 1, 1) := by decide +kernel
theorem dX10_least_36 : decode cX10_least 36 = .ok (.invokevirtual 155, 3) := by decide +kernel
theorem dX10_least_39 : decode cX10_least 39 = .ok (.if_icmp .ge 5, 3) := by decide +kernel
theorem dX10_least_42 : decode cX10_least 42 = .ok (.iload_n 3, 1) := by decide +kernel
theorem dX10_least_43 : decode cX10_least 43 = .ok (.istore_n 2, 1) := by decide +kernel
theorem dX10_least_44 : decode cX10_least 44 = .ok (.iinc 3 1, 3) := by decide +kernel
theorem dX10_least_47 : decode cX10_least 47 = .ok (.goto (-43), 3) := by decide +kernel
theorem dX10_least_50 : decode cX10_least 50 = .ok (.iload_n 2, 1) := by decide +kernel
theorem dX10_least_51 : decode cX10_least 51 = .ok (.ireturn, 1) := by decide +kernel
theorem dX10_goes_0 : decode cX10_goes 0 = .ok (.iload_n 1, 1) := by decide +kernel
theorem dX10_goes_1 : decode cX10_goes 1 = .ok (.aload_n 0, 1) := by decide +kernel
theorem dX10_goes_2 : decode cX10_goes 2 = .ok (.getfield 158, 3) := by decide +kernel
theorem dX10_goes_5 : decode cX10_goes 5 = .ok (.if_icmp .ne 56, 3) := by decide +kernel
theorem dX10_goes_8 : decode cX10_goes 8 = .ok (.aload_n 0, 1) := by decide +kernel
theorem dX10_goes_9 : decode cX10_goes 9 = .ok (.getfield 161, 3) := by decide +kernel
theorem dX10_goes_12 : decode cX10_goes 12 = .ok (.ifCond .lt 11, 3) := by decide +kernel
theorem dX10_goes_15 : decode cX10_goes 15 = .ok (.iload_n 2, 1) := by decide +kernel
theorem dX10_goes_16 : decode cX10_goes 16 = .ok (.aload_n 0, 1) := by decide +kernel
theorem dX10_goes_17 : decode cX10_goes 17 = .ok (.getfield 161, 3) := by decide +kernel
theorem dX10_goes_20 : decode cX10_goes 20 = .ok (.if_icmp .ge 40, 3) := by decide +kernel
theorem dX10_goes_23 : decode cX10_goes 23 = .ok (.aload_n 0, 1) := by decide +kernel
theorem dX10_goes_24 : decode cX10_goes 24 = .ok (.iload_n 2, 1) := by decide +kernel
theorem dX10_goes_25 : decode cX10_goes 25 = .ok (.putfield 161, 3) := by decide +kernel
theorem dX10_goes_28 : decode cX10_goes 28 = .ok (.iconst 0, 1) := by decide +kernel
theorem dX10_goes_29 : decode cX10_goes 29 = .ok (.istore 4, 2) := by decide +kernel
theorem dX10_goes_31 : decode cX10_goes 31 = .ok (.iload 4, 2) := by decide +kernel
theorem dX10_goes_33 : decode cX10_goes 33 = .ok (.aload_n 0, 1) := by decide +kernel
theorem dX10_goes_34 : decode cX10_goes 34 = .ok (.getfield 158, 3) := by decide +kernel
theorem dX10_goes_37 : decode cX10_goes 37 = .ok (.if_icmp .ge 23, 3) := by decide +kernel
theorem dX10_goes_40 : decode cX10_goes 40 = .ok (.aload_n 0, 1) := by decide +kernel
theorem dX10_goes_41 : decode cX10_goes 41 = .ok (.getfield 32, 3) := by decide +kernel
theorem dX10_goes_44 : decode cX10_goes 44 = .ok (.iload 4, 2) := by decide +kernel
theorem dX10_goes_46 : decode cX10_goes 46 = .ok (.aload_n 0, 1) := by decide +kernel
theorem dX10_goes_47 : decode cX10_goes 47 = .ok (.getfield 29, 3) := by decide +kernel
theorem dX10_goes_50 : decode cX10_goes 50 = .ok (.iload 4, 2) := by decide +kernel
theorem dX10_goes_52 : decode cX10_goes 52 = .ok (.iaload, 1) := by decide +kernel
theorem dX10_goes_53 : decode cX10_goes 53 = .ok (.iastore, 1) := by decide +kernel
theorem dX10_goes_54 : decode cX10_goes 54 = .ok (.iinc 4 1, 3) := by decide +kernel
theorem dX10_goes_57 : decode cX10_goes 57 = .ok (.goto (-26), 3) := by decide +kernel
theorem dX10_goes_60 : decode cX10_goes 60 = .ok (.return_, 1) := by decide +kernel
theorem dX10_goes_61 : decode cX10_goes 61 = .ok (.iconst 0, 1) := by decide +kernel
theorem dX10_goes_62 : decode cX10_goes 62 = .ok (.istore 4, 2) := by decide +kernel
theorem dX10_goes_64 : decode cX10_goes 64 = .ok (.iload 4, 2) := by decide +kernel
theorem dX10_goes_66 : decode cX10_goes 66 = .ok (.aload_n 0, 1) := by decide +kernel
theorem dX10_goes_67 : decode cX10_goes 67 = .ok (.getfield 158, 3) := by decide +kernel
theorem dX10_goes_70 : decode cX10_goes 70 = .ok (.if_icmp .ge 132, 3) := by decide +kernel
theorem dX10_goes_73 : decode cX10_goes 73 = .ok (.aload_n 0, 1) := by decide +kernel
theorem dX10_goes_74 : decode cX10_goes 74 = .ok (.getfield 26, 3) := by decide +kernel
theorem dX10_goes_77 : decode cX10_goes 77 = .ok (.iload 4, 2) := by decide +kernel
theorem dX10_goes_79 : decode cX10_goes 79 = .ok (.iaload, 1) := by decide +kernel
theorem dX10_goes_80 : decode cX10_goes 80 = .ok (.istore 5, 2) := by decide +kernel
theorem dX10_goes_82 : decode cX10_goes 82 = .ok (.aload_n 0, 1) := by decide +kernel
theorem dX10_goes_83 : decode cX10_goes 83 = .ok (.getfield 35, 3) := by decide +kernel
theorem dX10_goes_86 : decode cX10_goes 86 = .ok (.iload 4, 2) := by decide +kernel
theorem dX10_goes_88 : decode cX10_goes 88 = .ok (.baload, 1) := by decide +kernel
theorem dX10_goes_89 : decode cX10_goes 89 = .ok (.ifCond .eq 6, 3) := by decide +kernel
theorem dX10_goes_92 : decode cX10_goes 92 = .ok (.goto 104, 3) := by decide +kernel
theorem dX10_goes_95 : decode cX10_goes 95 = .ok (.aload_n 0, 1) := by decide +kernel
theorem dX10_goes_96 : decode cX10_goes 96 = .ok (.iload_n 2, 1) := by decide +kernel
theorem dX10_goes_97 : decode cX10_goes 97 = .ok (.iload_n 3, 1) := by decide +kernel
theorem dX10_goes_98 : decode cX10_goes 98 = .ok (.aload_n 0, 1) := by decide +kernel
theorem dX10_goes_99 : decode cX10_goes 99 = .ok (.aload_n 0, 1) := by decide +kernel
theorem dX10_goes_100 : decode cX10_goes 100 = .ok (.getfield 7, 3) := by decide +kernel
theorem dX10_goes_103 : decode cX10_goes 103 = .ok (.bipush 110, 2) := by decide +kernel
theorem dX10_goes_105 : decode cX10_goes 105 = .ok (.iload 5, 2) := by decide +kernel
theorem dX10_goes_107 : decode cX10_goes 107 = .ok (.iadd, 1) := by decide +kernel
theorem dX10_goes_108 : decode cX10_goes 108 = .ok (.iaload, 1) := by decide +kernel
theorem dX10_goes_109 : decode cX10_goes 109 = .ok (.invokevirtual 89, 3) := by decide +kernel
theorem dX10_goes_112 : decode cX10_goes 112 = .ok (.invokevirtual 92, 3) := by decide +kernel
theorem dX10_goes_115 : decode cX10_goes 115 = .ok (.istore 6, 2) := by decide +kernel
theorem dX10_goes_117 : decode cX10_goes 117 = .ok (.aload_n 0, 1) := by decide +kernel
theorem dX10_goes_118 : decode cX10_goes 118 = .ok (.getfield 164, 3) := by decide +kernel
theorem dX10_goes_121 : decode cX10_goes 121 = .ok (.ifCond .eq 36, 3) := by decide +kernel
theorem dX10_goes_124 : decode cX10_goes 124 = .ok (.aload_n 0, 1) := by decide +kernel
theorem dX10_goes_125 : decode cX10_goes 125 = .ok (.getfield 7, 3) := by decide +kernel
theorem dX10_goes_128 : decode cX10_goes 128 = .ok (.sipush 270, 3) := by decide +kernel
theorem dX10_goes_131 : decode cX10_goes 131 = .ok (.iload 5, 2) := by decide +kernel
theorem dX10_goes_133 : decode cX10_goes 133 = .ok (.iadd, 1) := by decide +kernel
theorem dX10_goes_134 : decode cX10_goes 134 = .ok (.iaload, 1) := by decide +kernel
theorem dX10_goes_135 : decode cX10_goes 135 = .ok (.ifCond .lt 22, 3) := by decide +kernel
theorem dX10_goes_138 : decode cX10_goes 138 = .ok (.iload 6, 2) := by decide +kernel
theorem dX10_goes_140 : decode cX10_goes 140 = .ok (.aload_n 0, 1) := by decide +kernel
theorem dX10_goes_141 : decode cX10_goes 141 = .ok (.getfield 7, 3) := by decide +kernel
theorem dX10_goes_144 : decode cX10_goes 144 = .ok (.sipush 270, 3) := by decide +kernel
theorem dX10_goes_147 : decode cX10_goes 147 = .ok (.iload 5, 2) := by decide +kernel
theorem dX10_goes_149 : decode cX10_goes 149 = .ok (.iadd, 1) := by decide +kernel
theorem dX10_goes_150 : decode cX10_goes 150 = .ok (.iaload, 1) := by decide +kernel
theorem dX10_goes_151 : decode cX10_goes 151 = .ok (.if_icmp .le 6, 3) := by decide +kernel
theorem dX10_goes_154 : decode cX10_goes 154 = .ok (.goto 42, 3) := by decide +kernel
theorem dX10_goes_157 : decode cX10_goes 157 = .ok (.aload_n 0, 1) := by decide +kernel
theorem dX10_goes_158 : decode cX10_goes 158 = .ok (.getfield 35, 3) := by decide +kernel
theorem dX10_goes_161 : decode cX10_goes 161 = .ok (.iload 4, 2) := by decide +kernel
theorem dX10_goes_163 : decode cX10_goes 163 = .ok (.iconst 1, 1) := by decide +kernel
theorem dX10_goes_164 : decode cX10_goes 164 = .ok (.bastore, 1) := by decide +kernel
theorem dX10_goes_165 : decode cX10_goes 165 = .ok (.aload_n 0, 1) := by decide +kernel
theorem dX10_goes_166 : decode cX10_goes 166 = .ok (.getfield 29, 3) := by decide +kernel
theorem dX10_goes_169 : decode cX10_goes 169 = .ok (.iload_n 1, 1) := by decide +kernel
theorem dX10_goes_170 : decode cX10_goes 170 = .ok (.iload 5, 2) := by decide +kernel
theorem dX10_goes_172 : decode cX10_goes 172 = .ok (.iastore, 1) := by decide +kernel
theorem dX10_goes_173 : decode cX10_goes 173 = .ok (.aload_n 0, 1) := by decide +kernel
theorem dX10_goes_174 : decode cX10_goes 174 = .ok (.iload_n 1, 1) := by decide +kernel
theorem dX10_goes_175 : decode cX10_goes 175 = .ok (.iconst 1, 1) := by decide +kernel
theorem dX10_goes_176 : decode cX10_goes 176 = .ok (.iadd, 1) := by decide +kernel
theorem dX10_goes_177 : decode cX10_goes 177 = .ok (.iload 6, 2) := by decide +kernel
theorem dX10_goes_179 : decode cX10_goes 179 = .ok (.aload_n 0, 1) := by decide +kernel
theorem dX10_goes_180 : decode cX10_goes 180 = .ok (.iload 5, 2) := by decide +kernel
theorem dX10_goes_182 : decode cX10_goes 182 = .ok (.invokevirtual 143, 3) := by decide +kernel
theorem dX10_goes_185 : decode cX10_goes 185 = .ok (.invokevirtual 168, 3) := by decide +kernel
theorem dX10_goes_188 : decode cX10_goes 188 = .ok (.aload_n 0, 1) := by decide +kernel
theorem dX10_goes_189 : decode cX10_goes 189 = .ok (.getfield 35, 3) := by decide +kernel
theorem dX10_goes_192 : decode cX10_goes 192 = .ok (.iload 4, 2) := by decide +kernel
theorem dX10_goes_194 : decode cX10_goes 194 = .ok (.iconst 0, 1) := by decide +kernel
theorem dX10_goes_195 : decode cX10_goes 195 = .ok (.bastore, 1) := by decide +kernel
theorem dX10_goes_196 : decode cX10_goes 196 = .ok (.iinc 4 1, 3) := by decide +kernel
theorem dX10_goes_199 : decode cX10_goes 199 = .ok (.goto (-135), 3) := by decide +kernel
theorem dX10_goes_202 : decode cX10_goes 202 = .ok (.return_, 1) := by decide +kernel
theorem dX10_searches_0 : decode cX10_searches 0 = .ok (.aload_n 0, 1) := by decide +kernel
theorem dX10_searches_1 : decode cX10_searches 1 = .ok (.iconst 0, 1) := by decide +kernel
theorem dX10_searches_2 : decode cX10_searches 2 = .ok (.putfield 158, 3) := by decide +kernel
theorem dX10_searches_5 : decode cX10_searches 5 = .ok (.iconst 0, 1) := by decide +kernel
theorem dX10_searches_6 : decode cX10_searches 6 = .ok (.istore 4, 2) := by decide +kernel
theorem dX10_searches_8 : decode cX10_searches 8 = .ok (.iload 4, 2) := by decide +kernel
theorem dX10_searches_10 : decode cX10_searches 10 = .ok (.aload_n 0, 1) := by decide +kernel
theorem dX10_searches_11 : decode cX10_searches 11 = .ok (.getfield 7, 3) := by decide +kernel
theorem dX10_searches_14 : decode cX10_searches 14 = .ok (.bipush 12, 2) := by decide +kernel
theorem dX10_searches_16 : decode cX10_searches 16 = .ok (.iaload, 1) := by decide +kernel
theorem dX10_searches_17 : decode cX10_searches 17 = .ok (.if_icmp .ge 75, 3) := by decide +kernel
theorem dX10_searches_20 : decode cX10_searches 20 = .ok (.aload_n 0, 1) := by decide +kernel
theorem dX10_searches_21 : decode cX10_searches 21 = .ok (.getfield 158, 3) := by decide +kernel
theorem dX10_searches_24 : decode cX10_searches 24 = .ok (.iload_n 3, 1) := by decide +kernel
theorem dX10_searches_25 : decode cX10_searches 25 = .ok (.if_icmp .ge 67, 3) := by decide +kernel
theorem dX10_searches_28 : decode cX10_searches 28 = .ok (.aload_n 0, 1) := by decide +kernel
theorem dX10_searches_29 : decode cX10_searches 29 = .ok (.iload 4, 2) := by decide +kernel
theorem dX10_searches_31 : decode cX10_searches 31 = .ok (.invokevirtual 100, 3) := by decide +kernel
theorem dX10_searches_34 : decode cX10_searches 34 = .ok (.ifCond .eq 52, 3) := by decide +kernel
theorem dX10_searches_37 : decode cX10_searches 37 = .ok (.iload_n 1, 1) := by decide +kernel
theorem dX10_searches_38 : decode cX10_searches 38 = .ok (.ifCond .eq 17, 3) := by decide +kernel
theorem dX10_searches_41 : decode cX10_searches 41 = .ok (.aload_n 0, 1) := by decide +kernel
theorem dX10_searches_42 : decode cX10_searches 42 = .ok (.getfield 7, 3) := by decide +kernel
theorem dX10_searches_45 : decode cX10_searches 45 = .ok (.sipush 270, 3) := by decide +kernel
theorem dX10_searches_48 : decode cX10_searches 48 = .ok (.iload 4, 2) := by decide +kernel
theorem dX10_searches_50 : decode cX10_searches 50 = .ok (.iadd, 1) := by decide +kernel
theorem dX10_searches_51 : decode cX10_searches 51 = .ok (.iaload, 1) := by decide +kernel
theorem dX10_searches_52 : decode cX10_searches 52 = .ok (.ifCond .lt 34, 3) := by decide +kernel
theorem dX10_searches_55 : decode cX10_searches 55 = .ok (.aload_n 0, 1) := by decide +kernel
theorem dX10_searches_56 : decode cX10_searches 56 = .ok (.getfield 26, 3) := by decide +kernel
theorem dX10_searches_59 : decode cX10_searches 59 = .ok (.aload_n 0, 1) := by decide +kernel
theorem dX10_searches_60 : decode cX10_searches 60 = .ok (.getfield 158, 3) := by decide +kernel
theorem dX10_searches_63 : decode cX10_searches 63 = .ok (.iload 4, 2) := by decide +kernel
theorem dX10_searches_65 : decode cX10_searches 65 = .ok (.iastore, 1) := by decide +kernel
theorem dX10_searches_66 : decode cX10_searches 66 = .ok (.aload_n 0, 1) := by decide +kernel
theorem dX10_searches_67 : decode cX10_searches 67 = .ok (.getfield 35, 3) := by decide +kernel
theorem dX10_searches_70 : decode cX10_searches 70 = .ok (.aload_n 0, 1) := by decide +kernel
theorem dX10_searches_71 : decode cX10_searches 71 = .ok (.getfield 158, 3) := by decide +kernel
theorem dX10_searches_74 : decode cX10_searches 74 = .ok (.iconst 0, 1) := by decide +kernel
theorem dX10_searches_75 : decode cX10_searches 75 = .ok (.bastore, 1) := by decide +kernel
theorem dX10_searches_76 : decode cX10_searches 76 = .ok (.aload_n 0, 1) := by decide +kernel
theorem dX10_searches_77 : decode cX10_searches 77 = .ok (.dup, 1) := by decide +kernel
theorem dX10_searches_78 : decode cX10_searches 78 = .ok (.getfield 158, 3) := by decide +kernel
theorem dX10_searches_81 : decode cX10_searches 81 = .ok (.iconst 1, 1) := by decide +kernel
theorem dX10_searches_82 : decode cX10_searches 82 = .ok (.iadd, 1) := by decide +kernel
theorem dX10_searches_83 : decode cX10_searches 83 = .ok (.putfield 158, 3) := by decide +kernel
theorem dX10_searches_86 : decode cX10_searches 86 = .ok (.iinc 4 1, 3) := by decide +kernel
theorem dX10_searches_89 : decode cX10_searches 89 = .ok (.goto (-81), 3) := by decide +kernel
theorem dX10_searches_92 : decode cX10_searches 92 = .ok (.aload_n 0, 1) := by decide +kernel
theorem dX10_searches_93 : decode cX10_searches 93 = .ok (.iload_n 2, 1) := by decide +kernel
theorem dX10_searches_94 : decode cX10_searches 94 = .ok (.putfield 164, 3) := by decide +kernel
theorem dX10_searches_97 : decode cX10_searches 97 = .ok (.aload_n 0, 1) := by decide +kernel
theorem dX10_searches_98 : decode cX10_searches 98 = .ok (.iconst (-1), 1) := by decide +kernel
theorem dX10_searches_99 : decode cX10_searches 99 = .ok (.putfield 161, 3) := by decide +kernel
theorem dX10_searches_102 : decode cX10_searches 102 = .ok (.aload_n 0, 1) := by decide +kernel
theorem dX10_searches_103 : decode cX10_searches 103 = .ok (.iconst 0, 1) := by decide +kernel
theorem dX10_searches_104 : decode cX10_searches 104 = .ok (.aload_n 0, 1) := by decide +kernel
theorem dX10_searches_105 : decode cX10_searches 105 = .ok (.getfield 7, 3) := by decide +kernel
theorem dX10_searches_108 : decode cX10_searches 108 = .ok (.bipush 8, 2) := by decide +kernel
theorem dX10_searches_110 : decode cX10_searches 110 = .ok (.iaload, 1) := by decide +kernel
theorem dX10_searches_111 : decode cX10_searches 111 = .ok (.aload_n 0, 1) := by decide +kernel
theorem dX10_searches_112 : decode cX10_searches 112 = .ok (.getfield 7, 3) := by decide +kernel
theorem dX10_searches_115 : decode cX10_searches 115 = .ok (.bipush 9, 2) := by decide +kernel
theorem dX10_searches_117 : decode cX10_searches 117 = .ok (.iaload, 1) := by decide +kernel
theorem dX10_searches_118 : decode cX10_searches 118 = .ok (.invokevirtual 168, 3) := by decide +kernel
theorem dX10_searches_121 : decode cX10_searches 121 = .ok (.return_, 1) := by decide +kernel
theorem dX10_chosen_0 : decode cX10_chosen 0 = .ok (.aload_n 0, 1) := by decide +kernel
theorem dX10_chosen_1 : decode cX10_chosen 1 = .ok (.getfield 7, 3) := by decide +kernel
theorem dX10_chosen_4 : decode cX10_chosen 4 = .ok (.iconst 4, 1) := by decide +kernel
theorem dX10_chosen_5 : decode cX10_chosen 5 = .ok (.iaload, 1) := by decide +kernel
theorem dX10_chosen_6 : decode cX10_chosen 6 = .ok (.bipush 6, 2) := by decide +kernel
theorem dX10_chosen_8 : decode cX10_chosen 8 = .ok (.if_icmp .ge 14, 3) := by decide +kernel
theorem dX10_chosen_11 : decode cX10_chosen 11 = .ok (.aload_n 0, 1) := by decide +kernel
theorem dX10_chosen_12 : decode cX10_chosen 12 = .ok (.aload_n 0, 1) := by decide +kernel
theorem dX10_chosen_13 : decode cX10_chosen 13 = .ok (.getfield 7, 3) := by decide +kernel
theorem dX10_chosen_16 : decode cX10_chosen 16 = .ok (.iconst 4, 1) := by decide +kernel
theorem dX10_chosen_17 : decode cX10_chosen 17 = .ok (.iaload, 1) := by decide +kernel
theorem dX10_chosen_18 : decode cX10_chosen 18 = .ok (.invokevirtual 172, 3) := by decide +kernel
theorem dX10_chosen_21 : decode cX10_chosen 21 = .ok (.ireturn, 1) := by decide +kernel
theorem dX10_chosen_22 : decode cX10_chosen 22 = .ok (.aload_n 0, 1) := by decide +kernel
theorem dX10_chosen_23 : decode cX10_chosen 23 = .ok (.iconst 1, 1) := by decide +kernel
theorem dX10_chosen_24 : decode cX10_chosen 24 = .ok (.iconst 1, 1) := by decide +kernel
theorem dX10_chosen_25 : decode cX10_chosen 25 = .ok (.bipush 6, 2) := by decide +kernel
theorem dX10_chosen_27 : decode cX10_chosen 27 = .ok (.invokevirtual 175, 3) := by decide +kernel
theorem dX10_chosen_30 : decode cX10_chosen 30 = .ok (.aload_n 0, 1) := by decide +kernel
theorem dX10_chosen_31 : decode cX10_chosen 31 = .ok (.getfield 158, 3) := by decide +kernel
theorem dX10_chosen_34 : decode cX10_chosen 34 = .ok (.ifCond .le 19, 3) := by decide +kernel
theorem dX10_chosen_37 : decode cX10_chosen 37 = .ok (.aload_n 0, 1) := by decide +kernel
theorem dX10_chosen_38 : decode cX10_chosen 38 = .ok (.getfield 161, 3) := by decide +kernel
theorem dX10_chosen_41 : decode cX10_chosen 41 = .ok (.ifCond .lt 12, 3) := by decide +kernel
theorem dX10_chosen_44 : decode cX10_chosen 44 = .ok (.aload_n 0, 1) := by decide +kernel
theorem dX10_chosen_45 : decode cX10_chosen 45 = .ok (.getfield 32, 3) := by decide +kernel
theorem dX10_chosen_48 : decode cX10_chosen 48 = .ok (.iconst 0, 1) := by decide +kernel
theorem dX10_chosen_49 : decode cX10_chosen 49 = .ok (.iaload, 1) := by decide +kernel
theorem dX10_chosen_50 : decode cX10_chosen 50 = .ok (.goto 8, 3) := by decide +kernel
theorem dX10_chosen_53 : decode cX10_chosen 53 = .ok (.aload_n 0, 1) := by decide +kernel
theorem dX10_chosen_54 : decode cX10_chosen 54 = .ok (.iconst 4, 1) := by decide +kernel
theorem dX10_chosen_55 : decode cX10_chosen 55 = .ok (.invokevirtual 172, 3) := by decide +kernel
theorem dX10_chosen_58 : decode cX10_chosen 58 = .ok (.ireturn, 1) := by decide +kernel
theorem dX10_next_0 : decode cX10_next 0 = .ok (.aload_n 0, 1) := by decide +kernel
theorem dX10_next_1 : decode cX10_next 1 = .ok (.iconst 0, 1) := by decide +kernel
theorem dX10_next_2 : decode cX10_next 2 = .ok (.putfield 39, 3) := by decide +kernel
theorem dX10_next_5 : decode cX10_next 5 = .ok (.aload_n 0, 1) := by decide +kernel
theorem dX10_next_6 : decode cX10_next 6 = .ok (.invokevirtual 103, 3) := by decide +kernel
theorem dX10_next_9 : decode cX10_next 9 = .ok (.ifCond .ne 11, 3) := by decide +kernel
theorem dX10_next_12 : decode cX10_next 12 = .ok (.aload_n 0, 1) := by decide +kernel
theorem dX10_next_13 : decode cX10_next 13 = .ok (.iconst 1, 1) := by decide +kernel
theorem dX10_next_14 : decode cX10_next 14 = .ok (.invokevirtual 78, 3) := by decide +kernel
theorem dX10_next_17 : decode cX10_next 17 = .ok (.goto 7, 3) := by decide +kernel
theorem dX10_next_20 : decode cX10_next 20 = .ok (.aload_n 0, 1) := by decide +kernel
theorem dX10_next_21 : decode cX10_next 21 = .ok (.invokevirtual 179, 3) := by decide +kernel
theorem dX10_next_24 : decode cX10_next 24 = .ok (.ireturn, 1) := by decide +kernel
theorem dX10_serves_0 : decode cX10_serves 0 = .ok (.aload_n 0, 1) := by decide +kernel
theorem dX10_serves_1 : decode cX10_serves 1 = .ok (.invokevirtual 179, 3) := by decide +kernel
theorem dX10_serves_4 : decode cX10_serves 4 = .ok (.istore_n 1, 1) := by decide +kernel
theorem dX10_serves_5 : decode cX10_serves 5 = .ok (.aload_n 0, 1) := by decide +kernel
theorem dX10_serves_6 : decode cX10_serves 6 = .ok (.getfield 7, 3) := by decide +kernel
theorem dX10_serves_9 : decode cX10_serves 9 = .ok (.iconst 4, 1) := by decide +kernel
theorem dX10_serves_10 : decode cX10_serves 10 = .ok (.iaload, 1) := by decide +kernel
theorem dX10_serves_11 : decode cX10_serves 11 = .ok (.iconst 2, 1) := by decide +kernel
theorem dX10_serves_12 : decode cX10_serves 12 = .ok (.if_icmp .ne 27, 3) := by decide +kernel
theorem dX10_serves_15 : decode cX10_serves 15 = .ok (.aload_n 0, 1) := by decide +kernel
theorem dX10_serves_16 : decode cX10_serves 16 = .ok (.iload_n 1, 1) := by decide +kernel
theorem dX10_serves_17 : decode cX10_serves 17 = .ok (.invokevirtual 149, 3) := by decide +kernel
theorem dX10_serves_20 : decode cX10_serves 20 = .ok (.ifCond .ne 19, 3) := by decide +kernel
theorem dX10_serves_23 : decode cX10_serves 23 = .ok (.aload_n 0, 1) := by decide +kernel
theorem dX10_serves_24 : decode cX10_serves 24 = .ok (.getfield 7, 3) := by decide +kernel
theorem dX10_serves_27 : decode cX10_serves 27 = .ok (.bipush 10, 2) := by decide +kernel
theorem dX10_serves_29 : decode cX10_serves 29 = .ok (.iconst 1, 1) := by decide +kernel
theorem dX10_serves_30 : decode cX10_serves 30 = .ok (.aload_n 0, 1) := by decide +kernel
theorem dX10_serves_31 : decode cX10_serves 31 = .ok (.getfield 7, 3) := by decide +kernel
theorem dX10_serves_34 : decode cX10_serves 34 = .ok (.bipush 10, 2) := by decide +kernel
theorem dX10_serves_36 : decode cX10_serves 36 = .ok (.iaload, 1) := by decide +kernel
theorem dX10_serves_37 : decode cX10_serves 37 = .ok (.isub, 1) := by decide +kernel
theorem dX10_serves_38 : decode cX10_serves 38 = .ok (.iastore, 1) := by decide +kernel
theorem dX10_serves_39 : decode cX10_serves 39 = .ok (.aload_n 0, 1) := by decide +kernel
theorem dX10_serves_40 : decode cX10_serves 40 = .ok (.aload_n 0, 1) := by decide +kernel
theorem dX10_serves_41 : decode cX10_serves 41 = .ok (.aload_n 0, 1) := by decide +kernel
theorem dX10_serves_42 : decode cX10_serves 42 = .ok (.getfield 7, 3) := by decide +kernel
theorem dX10_serves_45 : decode cX10_serves 45 = .ok (.bipush 110, 2) := by decide +kernel
theorem dX10_serves_47 : decode cX10_serves 47 = .ok (.iload_n 1, 1) := by decide +kernel
theorem dX10_serves_48 : decode cX10_serves 48 = .ok (.iadd, 1) := by decide +kernel
theorem dX10_serves_49 : decode cX10_serves 49 = .ok (.iaload, 1) := by decide +kernel
theorem dX10_serves_50 : decode cX10_serves 50 = .ok (.invokevirtual 89, 3) := by decide +kernel
theorem dX10_serves_53 : decode cX10_serves 53 = .ok (.invokevirtual 182, 3) := by decide +kernel
theorem dX10_serves_56 : decode cX10_serves 56 = .ok (.aload_n 0, 1) := by decide +kernel
theorem dX10_serves_57 : decode cX10_serves 57 = .ok (.getfield 7, 3) := by decide +kernel
theorem dX10_serves_60 : decode cX10_serves 60 = .ok (.sipush 350, 3) := by decide +kernel
theorem dX10_serves_63 : decode cX10_serves 63 = .ok (.iload_n 1, 1) := by decide +kernel
theorem dX10_serves_64 : decode cX10_serves 64 = .ok (.iadd, 1) := by decide +kernel
theorem dX10_serves_65 : decode cX10_serves 65 = .ok (.iconst 1, 1) := by decide +kernel
theorem dX10_serves_66 : decode cX10_serves 66 = .ok (.iastore, 1) := by decide +kernel
theorem dX10_serves_67 : decode cX10_serves 67 = .ok (.aload_n 0, 1) := by decide +kernel
theorem dX10_serves_68 : decode cX10_serves 68 = .ok (.getfield 7, 3) := by decide +kernel
theorem dX10_serves_71 : decode cX10_serves 71 = .ok (.sipush 430, 3) := by decide +kernel
theorem dX10_serves_74 : decode cX10_serves 74 = .ok (.iload_n 1, 1) := by decide +kernel
theorem dX10_serves_75 : decode cX10_serves 75 = .ok (.iadd, 1) := by decide +kernel
theorem dX10_serves_76 : decode cX10_serves 76 = .ok (.aload_n 0, 1) := by decide +kernel
theorem dX10_serves_77 : decode cX10_serves 77 = .ok (.getfield 7, 3) := by decide +kernel
theorem dX10_serves_80 : decode cX10_serves 80 = .ok (.bipush 8, 2) := by decide +kernel
theorem dX10_serves_82 : decode cX10_serves 82 = .ok (.iaload, 1) := by decide +kernel
theorem dX10_serves_83 : decode cX10_serves 83 = .ok (.iastore, 1) := by decide +kernel
theorem dX10_serves_84 : decode cX10_serves 84 = .ok (.iload_n 1, 1) := by decide +kernel
theorem dX10_serves_85 : decode cX10_serves 85 = .ok (.ireturn, 1) := by decide +kernel
theorem dX10_serve_0 : decode cX10_serve 0 = .ok (.aload_n 0, 1) := by decide +kernel
theorem dX10_serve_1 : decode cX10_serve 1 = .ok (.iconst 0, 1) := by decide +kernel
theorem dX10_serve_2 : decode cX10_serve 2 = .ok (.putfield 39, 3) := by decide +kernel
theorem dX10_serve_5 : decode cX10_serve 5 = .ok (.aload_n 0, 1) := by decide +kernel
theorem dX10_serve_6 : decode cX10_serve 6 = .ok (.invokevirtual 103, 3) := by decide +kernel
theorem dX10_serve_9 : decode cX10_serve 9 = .ok (.ifCond .ne 9, 3) := by decide +kernel
theorem dX10_serve_12 : decode cX10_serve 12 = .ok (.aload_n 0, 1) := by decide +kernel
theorem dX10_serve_13 : decode cX10_serve 13 = .ok (.iconst 1, 1) := by decide +kernel
theorem dX10_serve_14 : decode cX10_serve 14 = .ok (.invokevirtual 78, 3) := by decide +kernel
theorem dX10_serve_17 : decode cX10_serve 17 = .ok (.ireturn, 1) := by decide +kernel
theorem dX10_serve_18 : decode cX10_serve 18 = .ok (.aload_n 0, 1) := by decide +kernel
theorem dX10_serve_19 : decode cX10_serve 19 = .ok (.getfield 7, 3) := by decide +kernel
theorem dX10_serve_22 : decode cX10_serve 22 = .ok (.bipush 8, 2) := by decide +kernel
theorem dX10_serve_24 : decode cX10_serve 24 = .ok (.iaload, 1) := by decide +kernel
theorem dX10_serve_25 : decode cX10_serve 25 = .ok (.ldc 99, 2) := by decide +kernel
theorem dX10_serve_27 : decode cX10_serve 27 = .ok (.if_icmp .le 11, 3) := by decide +kernel
theorem dX10_serve_30 : decode cX10_serve 30 = .ok (.aload_n 0, 1) := by decide +kernel
theorem dX10_serve_31 : decode cX10_serve 31 = .ok (.iconst 2, 1) := by decide +kernel
theorem dX10_serve_32 : decode cX10_serve 32 = .ok (.invokevirtual 78, 3) := by decide +kernel
theorem dX10_serve_35 : decode cX10_serve 35 = .ok (.goto 7, 3) := by decide +kernel
theorem dX10_serve_38 : decode cX10_serve 38 = .ok (.aload_n 0, 1) := by decide +kernel
theorem dX10_serve_39 : decode cX10_serve 39 = .ok (.invokevirtual 186, 3) := by decide +kernel
theorem dX10_serve_42 : decode cX10_serve 42 = .ok (.ireturn, 1) := by decide +kernel
theorem dX10_serveFor_0 : decode cX10_serveFor 0 = .ok (.aload_n 0, 1) := by decide +kernel
theorem dX10_serveFor_1 : decode cX10_serveFor 1 = .ok (.iconst 0, 1) := by decide +kernel
theorem dX10_serveFor_2 : decode cX10_serveFor 2 = .ok (.putfield 39, 3) := by decide +kernel
theorem dX10_serveFor_5 : decode cX10_serveFor 5 = .ok (.iload_n 1, 1) := by decide +kernel
theorem dX10_serveFor_6 : decode cX10_serveFor 6 = .ok (.iconst 1, 1) := by decide +kernel
theorem dX10_serveFor_7 : decode cX10_serveFor 7 = .ok (.sipush 9999, 3) := by decide +kernel
theorem dX10_serveFor_10 : decode cX10_serveFor 10 = .ok (.invokestatic 42, 3) := by decide +kernel
theorem dX10_serveFor_13 : decode cX10_serveFor 13 = .ok (.ifCond .ne 9, 3) := by decide +kernel
theorem dX10_serveFor_16 : decode cX10_serveFor 16 = .ok (.aload_n 0, 1) := by decide +kernel
theorem dX10_serveFor_17 : decode cX10_serveFor 17 = .ok (.iconst 1, 1) := by decide +kernel
theorem dX10_serveFor_18 : decode cX10_serveFor 18 = .ok (.invokevirtual 78, 3) := by decide +kernel
theorem dX10_serveFor_21 : decode cX10_serveFor 21 = .ok (.ireturn, 1) := by decide +kernel
theorem dX10_serveFor_22 : decode cX10_serveFor 22 = .ok (.aload_n 0, 1) := by decide +kernel
theorem dX10_serveFor_23 : decode cX10_serveFor 23 = .ok (.getfield 7, 3) := by decide +kernel
theorem dX10_serveFor_26 : decode cX10_serveFor 26 = .ok (.bipush 8, 2) := by decide +kernel
theorem dX10_serveFor_28 : decode cX10_serveFor 28 = .ok (.iaload, 1) := by decide +kernel
theorem dX10_serveFor_29 : decode cX10_serveFor 29 = .ok (.ldc 99, 2) := by decide +kernel
theorem dX10_serveFor_31 : decode cX10_serveFor 31 = .ok (.if_icmp .le 9, 3) := by decide +kernel
theorem dX10_serveFor_34 : decode cX10_serveFor 34 = .ok (.aload_n 0, 1) := by decide +kernel
theorem dX10_serveFor_35 : decode cX10_serveFor 35 = .ok (.iconst 2, 1) := by decide +kernel
theorem dX10_serveFor_36 : decode cX10_serveFor 36 = .ok (.invokevirtual 78, 3) := by decide +kernel
theorem dX10_serveFor_39 : decode cX10_serveFor 39 = .ok (.ireturn, 1) := by decide +kernel
theorem dX10_serveFor_40 : decode cX10_serveFor 40 = .ok (.aload_n 0, 1) := by decide +kernel
theorem dX10_serveFor_41 : decode cX10_serveFor 41 = .ok (.getfield 7, 3) := by decide +kernel
theorem dX10_serveFor_44 : decode cX10_serveFor 44 = .ok (.bipush 8, 2) := by decide +kernel
theorem dX10_serveFor_46 : decode cX10_serveFor 46 = .ok (.iaload, 1) := by decide +kernel
theorem dX10_serveFor_47 : decode cX10_serveFor 47 = .ok (.iload_n 1, 1) := by decide +kernel
theorem dX10_serveFor_48 : decode cX10_serveFor 48 = .ok (.iadd, 1) := by decide +kernel
theorem dX10_serveFor_49 : decode cX10_serveFor 49 = .ok (.istore_n 2, 1) := by decide +kernel
theorem dX10_serveFor_50 : decode cX10_serveFor 50 = .ok (.iconst 0, 1) := by decide +kernel
theorem dX10_serveFor_51 : decode cX10_serveFor 51 = .ok (.istore_n 3, 1) := by decide +kernel
theorem dX10_serveFor_52 : decode cX10_serveFor 52 = .ok (.aload_n 0, 1) := by decide +kernel
theorem dX10_serveFor_53 : decode cX10_serveFor 53 = .ok (.invokevirtual 103, 3) := by decide +kernel
theorem dX10_serveFor_56 : decode cX10_serveFor 56 = .ok (.ifCond .le 25, 3) := by decide +kernel
theorem dX10_serveFor_59 : decode cX10_serveFor 59 = .ok (.aload_n 0, 1) := by decide +kernel
theorem dX10_serveFor_60 : decode cX10_serveFor 60 = .ok (.getfield 7, 3) := by decide +kernel
theorem dX10_serveFor_63 : decode cX10_serveFor 63 = .ok (.bipush 8, 2) := by decide +kernel
theorem dX10_serveFor_65 : decode cX10_serveFor 65 = .ok (.iaload, 1) := by decide +kernel
theorem dX10_serveFor_66 : decode cX10_serveFor 66 = .ok (.iload_n 2, 1) := by decide +kernel
theorem dX10_serveFor_67 : decode cX10_serveFor 67 = .ok (.if_icmp .ge 14, 3) := by decide +kernel
theorem dX10_serveFor_70 : decode cX10_serveFor 70 = .ok (.aload_n 0, 1) := by decide +kernel
theorem dX10_serveFor_71 : decode cX10_serveFor 71 = .ok (.invokevirtual 186, 3) := by decide +kernel
theorem dX10_serveFor_74 : decode cX10_serveFor 74 = .ok (.pop, 1) := by decide +kernel
theorem dX10_serveFor_75 : decode cX10_serveFor 75 = .ok (.iinc 3 1, 3) := by decide +kernel
theorem dX10_serveFor_78 : decode cX10_serveFor 78 = .ok (.goto (-26), 3) := by decide +kernel
theorem dX10_serveFor_81 : decode cX10_serveFor 81 = .ok (.iload_n 3, 1) := by decide +kernel
theorem dX10_serveFor_82 : decode cX10_serveFor 82 = .ok (.ireturn, 1) := by decide +kernel
theorem dX10_dirtyFrom_0 : decode cX10_dirtyFrom 0 = .ok (.iconst (-1), 1) := by decide +kernel
theorem dX10_dirtyFrom_1 : decode cX10_dirtyFrom 1 = .ok (.istore_n 3, 1) := by decide +kernel
theorem dX10_dirtyFrom_2 : decode cX10_dirtyFrom 2 = .ok (.iconst 0, 1) := by decide +kernel
theorem dX10_dirtyFrom_3 : decode cX10_dirtyFrom 3 = .ok (.istore 4, 2) := by decide +kernel
theorem dX10_dirtyFrom_5 : decode cX10_dirtyFrom 5 = .ok (.iload 4, 2) := by decide +kernel
theorem dX10_dirtyFrom_7 : decode cX10_dirtyFrom 7 = .ok (.sipush 572, 3) := by decide +kernel
theorem dX10_dirtyFrom_10 : decode cX10_dirtyFrom 10 = .ok (.if_icmp .ge 61, 3) := by decide +kernel
theorem dX10_dirtyFrom_13 : decode cX10_dirtyFrom 13 = .ok (.aload_n 0, 1) := by decide +kernel
theorem dX10_dirtyFrom_14 : decode cX10_dirtyFrom 14 = .ok (.getfield 7, 3) := by decide +kernel
theorem dX10_dirtyFrom_17 : decode cX10_dirtyFrom 17 = .ok (.sipush 510, 3) := by decide +kernel
theorem dX10_dirtyFrom_20 : decode cX10_dirtyFrom 20 = .ok (.iload 4, 2) := by decide +kernel
theorem dX10_dirtyFrom_22 : decode cX10_dirtyFrom 22 = .ok (.iadd, 1) := by decide +kernel
theorem dX10_dirtyFrom_23 : decode cX10_dirtyFrom 23 = .ok (.iaload, 1) := by decide +kernel
theorem dX10_dirtyFrom_24 : decode cX10_dirtyFrom 24 = .ok (.iconst 1, 1) := by decide +kernel
theorem dX10_dirtyFrom_25 : decode cX10_dirtyFrom 25 = .ok (.if_icmp .ne 40, 3) := by decide +kernel
theorem dX10_dirtyFrom_28 : decode cX10_dirtyFrom 28 = .ok (.aload_n 0, 1) := by decide +kernel
theorem dX10_dirtyFrom_29 : decode cX10_dirtyFrom 29 = .ok (.iload 4, 2) := by decide +kernel
theorem dX10_dirtyFrom_31 : decode cX10_dirtyFrom 31 = .ok (.invokevirtual 89, 3) := by decide +kernel
theorem dX10_dirtyFrom_34 : decode cX10_dirtyFrom 34 = .ok (.iload_n 1, 1) := by decide +kernel
theorem dX10_dirtyFrom_35 : decode cX10_dirtyFrom 35 = .ok (.iload_n 2, 1) := by decide +kernel
theorem dX10_dirtyFrom_36 : decode cX10_dirtyFrom 36 = .ok (.iconst 1, 1) := by decide +kernel
theorem dX10_dirtyFrom_37 : decode cX10_dirtyFrom 37 = .ok (.isub, 1) := by decide +kernel
theorem dX10_dirtyFrom_38 : decode cX10_dirtyFrom 38 = .ok (.invokestatic 42, 3) := by decide +kernel
theorem dX10_dirtyFrom_41 : decode cX10_dirtyFrom 41 = .ok (.ifCond .eq 24, 3) := by decide +kernel
theorem dX10_dirtyFrom_44 : decode cX10_dirtyFrom 44 = .ok (.iload_n 3, 1) := by decide +kernel
theorem dX10_dirtyFrom_45 : decode cX10_dirtyFrom 45 = .ok (.ifCond .lt 17, 3) := by decide +kernel
theorem dX10_dirtyFrom_48 : decode cX10_dirtyFrom 48 = .ok (.aload_n 0, 1) := by decide +kernel
theorem dX10_dirtyFrom_49 : decode cX10_dirtyFrom 49 = .ok (.iload 4, 2) := by decide +kernel
theorem dX10_dirtyFrom_51 : decode cX10_dirtyFrom 51 = .ok (.invokevirtual 89, 3) := by decide +kernel
theorem dX10_dirtyFrom_54 : decode cX10_dirtyFrom 54 = .ok (.aload_n 0, 1) := by decide +kernel
theorem dX10_dirtyFrom_55 : decode cX10_dirtyFrom 55 = .ok (.iload_n 3, 1) := by decide +kernel
theorem dX10_dirtyFrom_56 : decode cX10_dirtyFrom 56 = .ok (.invokevirtual 89, 3) := by decide +kernel
theorem dX10_dirtyFrom_59 : decode cX10_dirtyFrom 59 = .ok (.if_icmp .ge 6, 3) := by decide +kernel
theorem dX10_dirtyFrom_62 : decode cX10_dirtyFrom 62 = .ok (.iload 4, 2) := by decide +kernel
theorem dX10_dirtyFrom_64 : decode cX10_dirtyFrom 64 = .ok (.istore_n 3, 1) := by decide +kernel
theorem dX10_dirtyFrom_65 : decode cX10_dirtyFrom 65 = .ok (.iinc 4 1, 3) := by decide +kernel
theorem dX10_dirtyFrom_68 : decode cX10_dirtyFrom 68 = .ok (.goto (-63), 3) := by decide +kernel
theorem dX10_dirtyFrom_71 : decode cX10_dirtyFrom 71 = .ok (.iload_n 3, 1) := by decide +kernel
theorem dX10_dirtyFrom_72 : decode cX10_dirtyFrom 72 = .ok (.ireturn, 1) := by decide +kernel
theorem dX10_flush_0 : decode cX10_flush 0 = .ok (.aload_n 0, 1) := by decide +kernel
theorem dX10_flush_1 : decode cX10_flush 1 = .ok (.iconst 0, 1) := by decide +kernel
theorem dX10_flush_2 : decode cX10_flush 2 = .ok (.putfield 39, 3) := by decide +kernel
theorem dX10_flush_5 : decode cX10_flush 5 = .ok (.aload_n 0, 1) := by decide +kernel
theorem dX10_flush_6 : decode cX10_flush 6 = .ok (.getfield 7, 3) := by decide +kernel
theorem dX10_flush_9 : decode cX10_flush 9 = .ok (.bipush 8, 2) := by decide +kernel
theorem dX10_flush_11 : decode cX10_flush 11 = .ok (.iaload, 1) := by decide +kernel
theorem dX10_flush_12 : decode cX10_flush 12 = .ok (.ldc 99, 2) := by decide +kernel
theorem dX10_flush_14 : decode cX10_flush 14 = .ok (.if_icmp .le 9, 3) := by decide +kernel
theorem dX10_flush_17 : decode cX10_flush 17 = .ok (.aload_n 0, 1) := by decide +kernel
theorem dX10_flush_18 : decode cX10_flush 18 = .ok (.iconst 1, 1) := by decide +kernel
theorem dX10_flush_19 : decode cX10_flush 19 = .ok (.invokevirtual 78, 3) := by decide +kernel
theorem dX10_flush_22 : decode cX10_flush 22 = .ok (.ireturn, 1) := by decide +kernel
theorem dX10_flush_23 : decode cX10_flush 23 = .ok (.aload_n 0, 1) := by decide +kernel
theorem dX10_flush_24 : decode cX10_flush 24 = .ok (.getfield 7, 3) := by decide +kernel
theorem dX10_flush_27 : decode cX10_flush 27 = .ok (.bipush 8, 2) := by decide +kernel
theorem dX10_flush_29 : decode cX10_flush 29 = .ok (.iaload, 1) := by decide +kernel
theorem dX10_flush_30 : decode cX10_flush 30 = .ok (.istore_n 1, 1) := by decide +kernel
theorem dX10_flush_31 : decode cX10_flush 31 = .ok (.aload_n 0, 1) := by decide +kernel
theorem dX10_flush_32 : decode cX10_flush 32 = .ok (.getfield 7, 3) := by decide +kernel
theorem dX10_flush_35 : decode cX10_flush 35 = .ok (.bipush 9, 2) := by decide +kernel
theorem dX10_flush_37 : decode cX10_flush 37 = .ok (.iaload, 1) := by decide +kernel
theorem dX10_flush_38 : decode cX10_flush 38 = .ok (.invokestatic 56, 3) := by decide +kernel
theorem dX10_flush_41 : decode cX10_flush 41 = .ok (.istore_n 2, 1) := by decide +kernel
theorem dX10_flush_42 : decode cX10_flush 42 = .ok (.aload_n 0, 1) := by decide +kernel
theorem dX10_flush_43 : decode cX10_flush 43 = .ok (.iload_n 2, 1) := by decide +kernel
theorem dX10_flush_44 : decode cX10_flush 44 = .ok (.sipush 576, 3) := by decide +kernel
theorem dX10_flush_47 : decode cX10_flush 47 = .ok (.invokevirtual 189, 3) := by decide +kernel
theorem dX10_flush_50 : decode cX10_flush 50 = .ok (.istore_n 3, 1) := by decide +kernel
theorem dX10_flush_51 : decode cX10_flush 51 = .ok (.iload_n 3, 1) := by decide +kernel
theorem dX10_flush_52 : decode cX10_flush 52 = .ok (.ifCond .lt 35, 3) := by decide +kernel
theorem dX10_flush_55 : decode cX10_flush 55 = .ok (.aload_n 0, 1) := by decide +kernel
theorem dX10_flush_56 : decode cX10_flush 56 = .ok (.aload_n 0, 1) := by decide +kernel
theorem dX10_flush_57 : decode cX10_flush 57 = .ok (.iload_n 3, 1) := by decide +kernel
theorem dX10_flush_58 : decode cX10_flush 58 = .ok (.invokevirtual 89, 3) := by decide +kernel
theorem dX10_flush_61 : decode cX10_flush 61 = .ok (.invokevirtual 182, 3) := by decide +kernel
theorem dX10_flush_64 : decode cX10_flush 64 = .ok (.aload_n 0, 1) := by decide +kernel
theorem dX10_flush_65 : decode cX10_flush 65 = .ok (.getfield 7, 3) := by decide +kernel
theorem dX10_flush_68 : decode cX10_flush 68 = .ok (.sipush 510, 3) := by decide +kernel
theorem dX10_flush_71 : decode cX10_flush 71 = .ok (.iload_n 3, 1) := by decide +kernel
theorem dX10_flush_72 : decode cX10_flush 72 = .ok (.iadd, 1) := by decide +kernel
theorem dX10_flush_73 : decode cX10_flush 73 = .ok (.iconst 0, 1) := by decide +kernel
theorem dX10_flush_74 : decode cX10_flush 74 = .ok (.iastore, 1) := by decide +kernel
theorem dX10_flush_75 : decode cX10_flush 75 = .ok (.aload_n 0, 1) := by decide +kernel
theorem dX10_flush_76 : decode cX10_flush 76 = .ok (.iload_n 2, 1) := by decide +kernel
theorem dX10_flush_77 : decode cX10_flush 77 = .ok (.sipush 576, 3) := by decide +kernel
theorem dX10_flush_80 : decode cX10_flush 80 = .ok (.invokevirtual 189, 3) := by decide +kernel
theorem dX10_flush_83 : decode cX10_flush 83 = .ok (.istore_n 3, 1) := by decide +kernel
theorem dX10_flush_84 : decode cX10_flush 84 = .ok (.goto (-33), 3) := by decide +kernel
theorem dX10_flush_87 : decode cX10_flush 87 = .ok (.aload_n 0, 1) := by decide +kernel
theorem dX10_flush_88 : decode cX10_flush 88 = .ok (.iconst 0, 1) := by decide +kernel
theorem dX10_flush_89 : decode cX10_flush 89 = .ok (.iload_n 2, 1) := by decide +kernel
theorem dX10_flush_90 : decode cX10_flush 90 = .ok (.invokevirtual 189, 3) := by decide +kernel
theorem dX10_flush_93 : decode cX10_flush 93 = .ok (.istore_n 3, 1) := by decide +kernel
theorem dX10_flush_94 : decode cX10_flush 94 = .ok (.iload_n 3, 1) := by decide +kernel
theorem dX10_flush_95 : decode cX10_flush 95 = .ok (.ifCond .lt 33, 3) := by decide +kernel
theorem dX10_flush_98 : decode cX10_flush 98 = .ok (.aload_n 0, 1) := by decide +kernel
theorem dX10_flush_99 : decode cX10_flush 99 = .ok (.aload_n 0, 1) := by decide +kernel
theorem dX10_flush_100 : decode cX10_flush 100 = .ok (.iload_n 3, 1) := by decide +kernel
theorem dX10_flush_101 : decode cX10_flush 101 = .ok (.invokevirtual 89, 3) := by decide +kernel
theorem dX10_flush_104 : decode cX10_flush 104 = .ok (.invokevirtual 182, 3) := by decide +kernel
theorem dX10_flush_107 : decode cX10_flush 107 = .ok (.aload_n 0, 1) := by decide +kernel
theorem dX10_flush_108 : decode cX10_flush 108 = .ok (.getfield 7, 3) := by decide +kernel
theorem dX10_flush_111 : decode cX10_flush 111 = .ok (.sipush 510, 3) := by decide +kernel
theorem dX10_flush_114 : decode cX10_flush 114 = .ok (.iload_n 3, 1) := by decide +kernel
theorem dX10_flush_115 : decode cX10_flush 115 = .ok (.iadd, 1) := by decide +kernel
theorem dX10_flush_116 : decode cX10_flush 116 = .ok (.iconst 0, 1) := by decide +kernel
theorem dX10_flush_117 : decode cX10_flush 117 = .ok (.iastore, 1) := by decide +kernel
theorem dX10_flush_118 : decode cX10_flush 118 = .ok (.aload_n 0, 1) := by decide +kernel
theorem dX10_flush_119 : decode cX10_flush 119 = .ok (.iconst 0, 1) := by decide +kernel
theorem dX10_flush_120 : decode cX10_flush 120 = .ok (.iload_n 2, 1) := by decide +kernel
theorem dX10_flush_121 : decode cX10_flush 121 = .ok (.invokevirtual 189, 3) := by decide +kernel
theorem dX10_flush_124 : decode cX10_flush 124 = .ok (.istore_n 3, 1) := by decide +kernel
theorem dX10_flush_125 : decode cX10_flush 125 = .ok (.goto (-31), 3) := by decide +kernel
theorem dX10_flush_128 : decode cX10_flush 128 = .ok (.aload_n 0, 1) := by decide +kernel
theorem dX10_flush_129 : decode cX10_flush 129 = .ok (.getfield 7, 3) := by decide +kernel
theorem dX10_flush_132 : decode cX10_flush 132 = .ok (.bipush 8, 2) := by decide +kernel
theorem dX10_flush_134 : decode cX10_flush 134 = .ok (.iaload, 1) := by decide +kernel
theorem dX10_flush_135 : decode cX10_flush 135 = .ok (.iload_n 1, 1) := by decide +kernel
theorem dX10_flush_136 : decode cX10_flush 136 = .ok (.isub, 1) := by decide +kernel
theorem dX10_flush_137 : decode cX10_flush 137 = .ok (.ireturn, 1) := by decide +kernel
theorem dX10_dirtyBlocks_0 : decode cX10_dirtyBlocks 0 = .ok (.aload_n 0, 1) := by decide +kernel
theorem dX10_dirtyBlocks_1 : decode cX10_dirtyBlocks 1 = .ok (.iconst 0, 1) := by decide +kernel
theorem dX10_dirtyBlocks_2 : decode cX10_dirtyBlocks 2 = .ok (.putfield 39, 3) := by decide +kernel
theorem dX10_dirtyBlocks_5 : decode cX10_dirtyBlocks 5 = .ok (.aload_n 0, 1) := by decide +kernel
theorem dX10_dirtyBlocks_6 : decode cX10_dirtyBlocks 6 = .ok (.invokevirtual 81, 3) := by decide +kernel
theorem dX10_dirtyBlocks_9 : decode cX10_dirtyBlocks 9 = .ok (.ireturn, 1) := by decide +kernel
theorem dX10_pendingRequests_0 : decode cX10_pendingRequests 0 = .ok (.aload_n 0, 1) := by decide +kernel
theorem dX10_pendingRequests_1 : decode cX10_pendingRequests 1 = .ok (.iconst 0, 1) := by decide +kernel
theorem dX10_pendingRequests_2 : decode cX10_pendingRequests 2 = .ok (.putfield 39, 3) := by decide +kernel
theorem dX10_pendingRequests_5 : decode cX10_pendingRequests 5 = .ok (.aload_n 0, 1) := by decide +kernel
theorem dX10_pendingRequests_6 : decode cX10_pendingRequests 6 = .ok (.invokevirtual 103, 3) := by decide +kernel
theorem dX10_pendingRequests_9 : decode cX10_pendingRequests 9 = .ok (.ireturn, 1) := by decide +kernel
theorem dX10_state_0 : decode cX10_state 0 = .ok (.aload_n 0, 1) := by decide +kernel
theorem dX10_state_1 : decode cX10_state 1 = .ok (.iconst 0, 1) := by decide +kernel
theorem dX10_state_2 : decode cX10_state 2 = .ok (.putfield 39, 3) := by decide +kernel
theorem dX10_state_5 : decode cX10_state 5 = .ok (.aload_n 0, 1) := by decide +kernel
theorem dX10_state_6 : decode cX10_state 6 = .ok (.iload_n 1, 1) := by decide +kernel
theorem dX10_state_7 : decode cX10_state 7 = .ok (.invokevirtual 140, 3) := by decide +kernel
theorem dX10_state_10 : decode cX10_state 10 = .ok (.ifCond .eq 16, 3) := by decide +kernel
theorem dX10_state_13 : decode cX10_state 13 = .ok (.aload_n 0, 1) := by decide +kernel
theorem dX10_state_14 : decode cX10_state 14 = .ok (.getfield 7, 3) := by decide +kernel
theorem dX10_state_17 : decode cX10_state 17 = .ok (.sipush 350, 3) := by decide +kernel
theorem dX10_state_20 : decode cX10_state 20 = .ok (.iload_n 1, 1) := by decide +kernel
theorem dX10_state_21 : decode cX10_state 21 = .ok (.iadd, 1) := by decide +kernel
theorem dX10_state_22 : decode cX10_state 22 = .ok (.iaload, 1) := by decide +kernel
theorem dX10_state_23 : decode cX10_state 23 = .ok (.goto 8, 3) := by decide +kernel
theorem dX10_state_26 : decode cX10_state 26 = .ok (.aload_n 0, 1) := by decide +kernel
theorem dX10_state_27 : decode cX10_state 27 = .ok (.iconst 1, 1) := by decide +kernel
theorem dX10_state_28 : decode cX10_state 28 = .ok (.invokevirtual 78, 3) := by decide +kernel
theorem dX10_state_31 : decode cX10_state 31 = .ok (.ireturn, 1) := by decide +kernel
theorem dX10_bucket_0 : decode cX10_bucket 0 = .ok (.aload_n 0, 1) := by decide +kernel
theorem dX10_bucket_1 : decode cX10_bucket 1 = .ok (.iconst 0, 1) := by decide +kernel
theorem dX10_bucket_2 : decode cX10_bucket 2 = .ok (.putfield 39, 3) := by decide +kernel
theorem dX10_bucket_5 : decode cX10_bucket 5 = .ok (.aload_n 0, 1) := by decide +kernel
theorem dX10_bucket_6 : decode cX10_bucket 6 = .ok (.iload_n 1, 1) := by decide +kernel
theorem dX10_bucket_7 : decode cX10_bucket 7 = .ok (.invokevirtual 140, 3) := by decide +kernel
theorem dX10_bucket_10 : decode cX10_bucket 10 = .ok (.ifCond .ne 9, 3) := by decide +kernel
theorem dX10_bucket_13 : decode cX10_bucket 13 = .ok (.aload_n 0, 1) := by decide +kernel
theorem dX10_bucket_14 : decode cX10_bucket 14 = .ok (.iconst 1, 1) := by decide +kernel
theorem dX10_bucket_15 : decode cX10_bucket 15 = .ok (.invokevirtual 78, 3) := by decide +kernel
theorem dX10_bucket_18 : decode cX10_bucket 18 = .ok (.ireturn, 1) := by decide +kernel
theorem dX10_bucket_19 : decode cX10_bucket 19 = .ok (.aload_n 0, 1) := by decide +kernel
theorem dX10_bucket_20 : decode cX10_bucket 20 = .ok (.iload_n 1, 1) := by decide +kernel
theorem dX10_bucket_21 : decode cX10_bucket 21 = .ok (.invokevirtual 100, 3) := by decide +kernel
theorem dX10_bucket_24 : decode cX10_bucket 24 = .ok (.ifCond .eq 11, 3) := by decide +kernel
theorem dX10_bucket_27 : decode cX10_bucket 27 = .ok (.aload_n 0, 1) := by decide +kernel
theorem dX10_bucket_28 : decode cX10_bucket 28 = .ok (.iload_n 1, 1) := by decide +kernel
theorem dX10_bucket_29 : decode cX10_bucket 29 = .ok (.invokevirtual 152, 3) := by decide +kernel
theorem dX10_bucket_32 : decode cX10_bucket 32 = .ok (.goto 8, 3) := by decide +kernel
theorem dX10_bucket_35 : decode cX10_bucket 35 = .ok (.aload_n 0, 1) := by decide +kernel
theorem dX10_bucket_36 : decode cX10_bucket 36 = .ok (.iconst 2, 1) := by decide +kernel
theorem dX10_bucket_37 : decode cX10_bucket 37 = .ok (.invokevirtual 78, 3) := by decide +kernel
theorem dX10_bucket_40 : decode cX10_bucket 40 = .ok (.ireturn, 1) := by decide +kernel
theorem dX10_finish_0 : decode cX10_finish 0 = .ok (.aload_n 0, 1) := by decide +kernel
theorem dX10_finish_1 : decode cX10_finish 1 = .ok (.iconst 0, 1) := by decide +kernel
theorem dX10_finish_2 : decode cX10_finish 2 = .ok (.putfield 39, 3) := by decide +kernel
theorem dX10_finish_5 : decode cX10_finish 5 = .ok (.aload_n 0, 1) := by decide +kernel
theorem dX10_finish_6 : decode cX10_finish 6 = .ok (.iload_n 1, 1) := by decide +kernel
theorem dX10_finish_7 : decode cX10_finish 7 = .ok (.invokevirtual 140, 3) := by decide +kernel
theorem dX10_finish_10 : decode cX10_finish 10 = .ok (.ifCond .ne 9, 3) := by decide +kernel
theorem dX10_finish_13 : decode cX10_finish 13 = .ok (.aload_n 0, 1) := by decide +kernel
theorem dX10_finish_14 : decode cX10_finish 14 = .ok (.iconst 1, 1) := by decide +kernel
theorem dX10_finish_15 : decode cX10_finish 15 = .ok (.invokevirtual 78, 3) := by decide +kernel
theorem dX10_finish_18 : decode cX10_finish 18 = .ok (.ireturn, 1) := by decide +kernel
theorem dX10_finish_19 : decode cX10_finish 19 = .ok (.aload_n 0, 1) := by decide +kernel
theorem dX10_finish_20 : decode cX10_finish 20 = .ok (.getfield 7, 3) := by decide +kernel
theorem dX10_finish_23 : decode cX10_finish 23 = .ok (.sipush 350, 3) := by decide +kernel
theorem dX10_finish_26 : decode cX10_finish 26 = .ok (.iload_n 1, 1) := by decide +kernel
theorem dX10_finish_27 : decode cX10_finish 27 = .ok (.iadd, 1) := by decide +kernel
theorem dX10_finish_28 : decode cX10_finish 28 = .ok (.iaload, 1) := by decide +kernel
theorem dX10_finish_29 : decode cX10_finish 29 = .ok (.iconst 1, 1) := by decide +kernel
theorem dX10_finish_30 : decode cX10_finish 30 = .ok (.if_icmp .ne 16, 3) := by decide +kernel
theorem dX10_finish_33 : decode cX10_finish 33 = .ok (.aload_n 0, 1) := by decide +kernel
theorem dX10_finish_34 : decode cX10_finish 34 = .ok (.getfield 7, 3) := by decide +kernel
theorem dX10_finish_37 : decode cX10_finish 37 = .ok (.sipush 430, 3) := by decide +kernel
theorem dX10_finish_40 : decode cX10_finish 40 = .ok (.iload_n 1, 1) := by decide +kernel
theorem dX10_finish_41 : decode cX10_finish 41 = .ok (.iadd, 1) := by decide +kernel
theorem dX10_finish_42 : decode cX10_finish 42 = .ok (.iaload, 1) := by decide +kernel
theorem dX10_finish_43 : decode cX10_finish 43 = .ok (.goto 8, 3) := by decide +kernel
theorem dX10_finish_46 : decode cX10_finish 46 = .ok (.aload_n 0, 1) := by decide +kernel
theorem dX10_finish_47 : decode cX10_finish 47 = .ok (.iconst 2, 1) := by decide +kernel
theorem dX10_finish_48 : decode cX10_finish 48 = .ok (.invokevirtual 78, 3) := by decide +kernel
theorem dX10_finish_51 : decode cX10_finish 51 = .ok (.ireturn, 1) := by decide +kernel
theorem dX10_isBehind_0 : decode cX10_isBehind 0 = .ok (.aload_n 0, 1) := by decide +kernel
theorem dX10_isBehind_1 : decode cX10_isBehind 1 = .ok (.getfield 7, 3) := by decide +kernel
theorem dX10_isBehind_4 : decode cX10_isBehind 4 = .ok (.sipush 270, 3) := by decide +kernel
theorem dX10_isBehind_7 : decode cX10_isBehind 7 = .ok (.iload_n 1, 1) := by decide +kernel
theorem dX10_isBehind_8 : decode cX10_isBehind 8 = .ok (.iadd, 1) := by decide +kernel
theorem dX10_isBehind_9 : decode cX10_isBehind 9 = .ok (.iaload, 1) := by decide +kernel
theorem dX10_isBehind_10 : decode cX10_isBehind 10 = .ok (.ifCond .lt 30, 3) := by decide +kernel
theorem dX10_isBehind_13 : decode cX10_isBehind 13 = .ok (.aload_n 0, 1) := by decide +kernel
theorem dX10_isBehind_14 : decode cX10_isBehind 14 = .ok (.getfield 7, 3) := by decide +kernel
theorem dX10_isBehind_17 : decode cX10_isBehind 17 = .ok (.sipush 430, 3) := by decide +kernel
theorem dX10_isBehind_20 : decode cX10_isBehind 20 = .ok (.iload_n 1, 1) := by decide +kernel
theorem dX10_isBehind_21 : decode cX10_isBehind 21 = .ok (.iadd, 1) := by decide +kernel
theorem dX10_isBehind_22 : decode cX10_isBehind 22 = .ok (.iaload, 1) := by decide +kernel
theorem dX10_isBehind_23 : decode cX10_isBehind 23 = .ok (.aload_n 0, 1) := by decide +kernel
theorem dX10_isBehind_24 : decode cX10_isBehind 24 = .ok (.getfield 7, 3) := by decide +kernel
theorem dX10_isBehind_27 : decode cX10_isBehind 27 = .ok (.sipush 270, 3) := by decide +kernel
theorem dX10_isBehind_30 : decode cX10_isBehind 30 = .ok (.iload_n 1, 1) := by decide +kernel
theorem dX10_isBehind_31 : decode cX10_isBehind 31 = .ok (.iadd, 1) := by decide +kernel
theorem dX10_isBehind_32 : decode cX10_isBehind 32 = .ok (.iaload, 1) := by decide +kernel
theorem dX10_isBehind_33 : decode cX10_isBehind 33 = .ok (.if_icmp .le 7, 3) := by decide +kernel
theorem dX10_isBehind_36 : decode cX10_isBehind 36 = .ok (.iconst 1, 1) := by decide +kernel
theorem dX10_isBehind_37 : decode cX10_isBehind 37 = .ok (.goto 4, 3) := by decide +kernel
theorem dX10_isBehind_40 : decode cX10_isBehind 40 = .ok (.iconst 0, 1) := by decide +kernel
theorem dX10_isBehind_41 : decode cX10_isBehind 41 = .ok (.ireturn, 1) := by decide +kernel
theorem dX10_isLate_0 : decode cX10_isLate 0 = .ok (.aload_n 0, 1) := by decide +kernel
theorem dX10_isLate_1 : decode cX10_isLate 1 = .ok (.aload_n 0, 1) := by decide +kernel
theorem dX10_isLate_2 : decode cX10_isLate 2 = .ok (.iload_n 1, 1) := by decide +kernel
theorem dX10_isLate_3 : decode cX10_isLate 3 = .ok (.invokevirtual 140, 3) := by decide +kernel
theorem dX10_isLate_6 : decode cX10_isLate 6 = .ok (.ifCond .ne 7, 3) := by decide +kernel
theorem dX10_isLate_9 : decode cX10_isLate 9 = .ok (.iconst 1, 1) := by decide +kernel
theorem dX10_isLate_10 : decode cX10_isLate 10 = .ok (.goto 39, 3) := by decide +kernel
theorem dX10_isLate_13 : decode cX10_isLate 13 = .ok (.aload_n 0, 1) := by decide +kernel
theorem dX10_isLate_14 : decode cX10_isLate 14 = .ok (.getfield 7, 3) := by decide +kernel
theorem dX10_isLate_17 : decode cX10_isLate 17 = .ok (.sipush 350, 3) := by decide +kernel
theorem dX10_isLate_20 : decode cX10_isLate 20 = .ok (.iload_n 1, 1) := by decide +kernel
theorem dX10_isLate_21 : decode cX10_isLate 21 = .ok (.iadd, 1) := by decide +kernel
theorem dX10_isLate_22 : decode cX10_isLate 22 = .ok (.iaload, 1) := by decide +kernel
theorem dX10_isLate_23 : decode cX10_isLate 23 = .ok (.iconst 1, 1) := by decide +kernel
theorem dX10_isLate_24 : decode cX10_isLate 24 = .ok (.if_icmp .eq 7, 3) := by decide +kernel
theorem dX10_isLate_27 : decode cX10_isLate 27 = .ok (.iconst 2, 1) := by decide +kernel
theorem dX10_isLate_28 : decode cX10_isLate 28 = .ok (.goto 21, 3) := by decide +kernel
theorem dX10_isLate_31 : decode cX10_isLate 31 = .ok (.aload_n 0, 1) := by decide +kernel
theorem dX10_isLate_32 : decode cX10_isLate 32 = .ok (.getfield 7, 3) := by decide +kernel
theorem dX10_isLate_35 : decode cX10_isLate 35 = .ok (.sipush 270, 3) := by decide +kernel
theorem dX10_isLate_38 : decode cX10_isLate 38 = .ok (.iload_n 1, 1) := by decide +kernel
theorem dX10_isLate_39 : decode cX10_isLate 39 = .ok (.iadd, 1) := by decide +kernel
theorem dX10_isLate_40 : decode cX10_isLate 40 = .ok (.iaload, 1) := by decide +kernel
theorem dX10_isLate_41 : decode cX10_isLate 41 = .ok (.ifCond .ge 7, 3) := by decide +kernel
theorem dX10_isLate_44 : decode cX10_isLate 44 = .ok (.iconst 3, 1) := by decide +kernel
theorem dX10_isLate_45 : decode cX10_isLate 45 = .ok (.goto 4, 3) := by decide +kernel
theorem dX10_isLate_48 : decode cX10_isLate 48 = .ok (.iconst 0, 1) := by decide +kernel
theorem dX10_isLate_49 : decode cX10_isLate 49 = .ok (.putfield 39, 3) := by decide +kernel
theorem dX10_isLate_52 : decode cX10_isLate 52 = .ok (.aload_n 0, 1) := by decide +kernel
theorem dX10_isLate_53 : decode cX10_isLate 53 = .ok (.getfield 39, 3) := by decide +kernel
theorem dX10_isLate_56 : decode cX10_isLate 56 = .ok (.ifCond .ne 15, 3) := by decide +kernel
theorem dX10_isLate_59 : decode cX10_isLate 59 = .ok (.aload_n 0, 1) := by decide +kernel
theorem dX10_isLate_60 : decode cX10_isLate 60 = .ok (.iload_n 1, 1) := by decide +kernel
theorem dX10_isLate_61 : decode cX10_isLate 61 = .ok (.invokevirtual 192, 3) := by decide +kernel
theorem dX10_isLate_64 : decode cX10_isLate 64 = .ok (.ifCond .eq 7, 3) := by decide +kernel
theorem dX10_isLate_67 : decode cX10_isLate 67 = .ok (.iconst 1, 1) := by decide +kernel
theorem dX10_isLate_68 : decode cX10_isLate 68 = .ok (.goto 4, 3) := by decide +kernel
theorem dX10_isLate_71 : decode cX10_isLate 71 = .ok (.iconst 0, 1) := by decide +kernel
theorem dX10_isLate_72 : decode cX10_isLate 72 = .ok (.ireturn, 1) := by decide +kernel
theorem dX10_bestFinish_0 : decode cX10_bestFinish 0 = .ok (.aload_n 0, 1) := by decide +kernel
theorem dX10_bestFinish_1 : decode cX10_bestFinish 1 = .ok (.iconst 0, 1) := by decide +kernel
theorem dX10_bestFinish_2 : decode cX10_bestFinish 2 = .ok (.putfield 39, 3) := by decide +kernel
theorem dX10_bestFinish_5 : decode cX10_bestFinish 5 = .ok (.aload_n 0, 1) := by decide +kernel
theorem dX10_bestFinish_6 : decode cX10_bestFinish 6 = .ok (.invokevirtual 103, 3) := by decide +kernel
theorem dX10_bestFinish_9 : decode cX10_bestFinish 9 = .ok (.bipush 6, 2) := by decide +kernel
theorem dX10_bestFinish_11 : decode cX10_bestFinish 11 = .ok (.if_icmp .le 9, 3) := by decide +kernel
theorem dX10_bestFinish_14 : decode cX10_bestFinish 14 = .ok (.aload_n 0, 1) := by decide +kernel
theorem dX10_bestFinish_15 : decode cX10_bestFinish 15 = .ok (.iconst 1, 1) := by decide +kernel
theorem dX10_bestFinish_16 : decode cX10_bestFinish 16 = .ok (.invokevirtual 78, 3) := by decide +kernel
theorem dX10_bestFinish_19 : decode cX10_bestFinish 19 = .ok (.ireturn, 1) := by decide +kernel
theorem dX10_bestFinish_20 : decode cX10_bestFinish 20 = .ok (.aload_n 0, 1) := by decide +kernel
theorem dX10_bestFinish_21 : decode cX10_bestFinish 21 = .ok (.iconst 0, 1) := by decide +kernel
theorem dX10_bestFinish_22 : decode cX10_bestFinish 22 = .ok (.iconst 0, 1) := by decide +kernel
theorem dX10_bestFinish_23 : decode cX10_bestFinish 23 = .ok (.bipush 6, 2) := by decide +kernel
theorem dX10_bestFinish_25 : decode cX10_bestFinish 25 = .ok (.invokevirtual 175, 3) := by decide +kernel
theorem dX10_bestFinish_28 : decode cX10_bestFinish 28 = .ok (.aload_n 0, 1) := by decide +kernel
theorem dX10_bestFinish_29 : decode cX10_bestFinish 29 = .ok (.getfield 161, 3) := by decide +kernel
theorem dX10_bestFinish_32 : decode cX10_bestFinish 32 = .ok (.ireturn, 1) := by decide +kernel
theorem dX10_bestRequest_0 : decode cX10_bestRequest 0 = .ok (.aload_n 0, 1) := by decide +kernel
theorem dX10_bestRequest_1 : decode cX10_bestRequest 1 = .ok (.iconst 0, 1) := by decide +kernel
theorem dX10_bestRequest_2 : decode cX10_bestRequest 2 = .ok (.putfield 39, 3) := by decide +kernel
theorem dX10_bestRequest_5 : decode cX10_bestRequest 5 = .ok (.aload_n 0, 1) := by decide +kernel
theorem dX10_bestRequest_6 : decode cX10_bestRequest 6 = .ok (.invokevirtual 103, 3) := by decide +kernel
theorem dX10_bestRequest_9 : decode cX10_bestRequest 9 = .ok (.bipush 6, 2) := by decide +kernel
theorem dX10_bestRequest_11 : decode cX10_bestRequest 11 = .ok (.if_icmp .le 9, 3) := by decide +kernel
theorem dX10_bestRequest_14 : decode cX10_bestRequest 14 = .ok (.aload_n 0, 1) := by decide +kernel
theorem dX10_bestRequest_15 : decode cX10_bestRequest 15 = .ok (.iconst 1, 1) := by decide +kernel
theorem dX10_bestRequest_16 : decode cX10_bestRequest 16 = .ok (.invokevirtual 78, 3) := by decide +kernel
theorem dX10_bestRequest_19 : decode cX10_bestRequest 19 = .ok (.ireturn, 1) := by decide +kernel
theorem dX10_bestRequest_20 : decode cX10_bestRequest 20 = .ok (.aload_n 0, 1) := by decide +kernel
theorem dX10_bestRequest_21 : decode cX10_bestRequest 21 = .ok (.iconst 0, 1) := by decide +kernel
theorem dX10_bestRequest_22 : decode cX10_bestRequest 22 = .ok (.iconst 0, 1) := by decide +kernel
theorem dX10_bestRequest_23 : decode cX10_bestRequest 23 = .ok (.bipush 6, 2) := by decide +kernel
theorem dX10_bestRequest_25 : decode cX10_bestRequest 25 = .ok (.invokevirtual 175, 3) := by decide +kernel
theorem dX10_bestRequest_28 : decode cX10_bestRequest 28 = .ok (.iload_n 1, 1) := by decide +kernel
theorem dX10_bestRequest_29 : decode cX10_bestRequest 29 = .ok (.iconst 0, 1) := by decide +kernel
theorem dX10_bestRequest_30 : decode cX10_bestRequest 30 = .ok (.aload_n 0, 1) := by decide +kernel
theorem dX10_bestRequest_31 : decode cX10_bestRequest 31 = .ok (.getfield 158, 3) := by decide +kernel
theorem dX10_bestRequest_34 : decode cX10_bestRequest 34 = .ok (.iconst 1, 1) := by decide +kernel
theorem dX10_bestRequest_35 : decode cX10_bestRequest 35 = .ok (.isub, 1) := by decide +kernel
theorem dX10_bestRequest_36 : decode cX10_bestRequest 36 = .ok (.invokestatic 42, 3) := by decide +kernel
theorem dX10_bestRequest_39 : decode cX10_bestRequest 39 = .ok (.ifCond .eq 12, 3) := by decide +kernel
theorem dX10_bestRequest_42 : decode cX10_bestRequest 42 = .ok (.aload_n 0, 1) := by decide +kernel
theorem dX10_bestRequest_43 : decode cX10_bestRequest 43 = .ok (.getfield 32, 3) := by decide +kernel
theorem dX10_bestRequest_46 : decode cX10_bestRequest 46 = .ok (.iload_n 1, 1) := by decide +kernel
theorem dX10_bestRequest_47 : decode cX10_bestRequest 47 = .ok (.iaload, 1) := by decide +kernel
theorem dX10_bestRequest_48 : decode cX10_bestRequest 48 = .ok (.goto 8, 3) := by decide +kernel
theorem dX10_bestRequest_51 : decode cX10_bestRequest 51 = .ok (.aload_n 0, 1) := by decide +kernel
theorem dX10_bestRequest_52 : decode cX10_bestRequest 52 = .ok (.iconst 2, 1) := by decide +kernel
theorem dX10_bestRequest_53 : decode cX10_bestRequest 53 = .ok (.invokevirtual 78, 3) := by decide +kernel
theorem dX10_bestRequest_56 : decode cX10_bestRequest 56 = .ok (.ireturn, 1) := by decide +kernel
theorem dX10_canMeetDeadlines_0 : decode cX10_canMeetDeadlines 0 = .ok (.aload_n 0, 1) := by decide +kernel
theorem dX10_canMeetDeadlines_1 : decode cX10_canMeetDeadlines 1 = .ok (.iconst 0, 1) := by decide +kernel
theorem dX10_canMeetDeadlines_2 : decode cX10_canMeetDeadlines 2 = .ok (.putfield 39, 3) := by decide +kernel
theorem dX10_canMeetDeadlines_5 : decode cX10_canMeetDeadlines 5 = .ok (.aload_n 0, 1) := by decide +kernel
theorem dX10_canMeetDeadlines_6 : decode cX10_canMeetDeadlines 6 = .ok (.invokevirtual 103, 3) := by decide +kernel
theorem dX10_canMeetDeadlines_9 : decode cX10_canMeetDeadlines 9 = .ok (.bipush 6, 2) := by decide +kernel
theorem dX10_canMeetDeadlines_11 : decode cX10_canMeetDeadlines 11 = .ok (.if_icmp .le 10, 3) := by decide +kernel
theorem dX10_canMeetDeadlines_14 : decode cX10_canMeetDeadlines 14 = .ok (.aload_n 0, 1) := by decide +kernel
theorem dX10_canMeetDeadlines_15 : decode cX10_canMeetDeadlines 15 = .ok (.iconst 1, 1) := by decide +kernel
theorem dX10_canMeetDeadlines_16 : decode cX10_canMeetDeadlines 16 = .ok (.putfield 39, 3) := by decide +kernel
theorem dX10_canMeetDeadlines_19 : decode cX10_canMeetDeadlines 19 = .ok (.iconst 0, 1) := by decide +kernel
theorem dX10_canMeetDeadlines_20 : decode cX10_canMeetDeadlines 20 = .ok (.ireturn, 1) := by decide +kernel
theorem dX10_canMeetDeadlines_21 : decode cX10_canMeetDeadlines 21 = .ok (.aload_n 0, 1) := by decide +kernel
theorem dX10_canMeetDeadlines_22 : decode cX10_canMeetDeadlines 22 = .ok (.iconst 0, 1) := by decide +kernel
theorem dX10_canMeetDeadlines_23 : decode cX10_canMeetDeadlines 23 = .ok (.iconst 1, 1) := by decide +kernel
theorem dX10_canMeetDeadlines_24 : decode cX10_canMeetDeadlines 24 = .ok (.bipush 6, 2) := by decide +kernel
theorem dX10_canMeetDeadlines_26 : decode cX10_canMeetDeadlines 26 = .ok (.invokevirtual 175, 3) := by decide +kernel
theorem dX10_canMeetDeadlines_29 : decode cX10_canMeetDeadlines 29 = .ok (.aload_n 0, 1) := by decide +kernel
theorem dX10_canMeetDeadlines_30 : decode cX10_canMeetDeadlines 30 = .ok (.getfield 161, 3) := by decide +kernel
theorem dX10_canMeetDeadlines_33 : decode cX10_canMeetDeadlines 33 = .ok (.ifCond .lt 7, 3) := by decide +kernel
theorem dX10_canMeetDeadlines_36 : decode cX10_canMeetDeadlines 36 = .ok (.iconst 1, 1) := by decide +kernel
theorem dX10_canMeetDeadlines_37 : decode cX10_canMeetDeadlines 37 = .ok (.goto 4, 3) := by decide +kernel
theorem dX10_canMeetDeadlines_40 : decode cX10_canMeetDeadlines 40 = .ok (.iconst 0, 1) := by decide +kernel
theorem dX10_canMeetDeadlines_41 : decode cX10_canMeetDeadlines 41 = .ok (.ireturn, 1) := by decide +kernel
theorem dX10_total_0 : decode cX10_total 0 = .ok (.aload_n 0, 1) := by decide +kernel
theorem dX10_total_1 : decode cX10_total 1 = .ok (.iconst 0, 1) := by decide +kernel
theorem dX10_total_2 : decode cX10_total 2 = .ok (.putfield 39, 3) := by decide +kernel
theorem dX10_total_5 : decode cX10_total 5 = .ok (.iload_n 1, 1) := by decide +kernel
theorem dX10_total_6 : decode cX10_total 6 = .ok (.iconst 0, 1) := by decide +kernel
theorem dX10_total_7 : decode cX10_total 7 = .ok (.iconst 3, 1) := by decide +kernel
theorem dX10_total_8 : decode cX10_total 8 = .ok (.invokestatic 42, 3) := by decide +kernel
theorem dX10_total_11 : decode cX10_total 11 = .ok (.ifCond .eq 15, 3) := by decide +kernel
theorem dX10_total_14 : decode cX10_total 14 = .ok (.aload_n 0, 1) := by decide +kernel
theorem dX10_total_15 : decode cX10_total 15 = .ok (.getfield 7, 3) := by decide +kernel
theorem dX10_total_18 : decode cX10_total 18 = .ok (.bipush 13, 2) := by decide +kernel
theorem dX10_total_20 : decode cX10_total 20 = .ok (.iload_n 1, 1) := by decide +kernel
theorem dX10_total_21 : decode cX10_total 21 = .ok (.iadd, 1) := by decide +kernel
theorem dX10_total_22 : decode cX10_total 22 = .ok (.iaload, 1) := by decide +kernel
theorem dX10_total_23 : decode cX10_total 23 = .ok (.goto 8, 3) := by decide +kernel
theorem dX10_total_26 : decode cX10_total 26 = .ok (.aload_n 0, 1) := by decide +kernel
theorem dX10_total_27 : decode cX10_total 27 = .ok (.iconst 1, 1) := by decide +kernel
theorem dX10_total_28 : decode cX10_total 28 = .ok (.invokevirtual 78, 3) := by decide +kernel
theorem dX10_total_31 : decode cX10_total 31 = .ok (.ireturn, 1) := by decide +kernel
theorem dX10_utilization_0 : decode cX10_utilization 0 = .ok (.aload_n 0, 1) := by decide +kernel
theorem dX10_utilization_1 : decode cX10_utilization 1 = .ok (.aload_n 0, 1) := by decide +kernel
theorem dX10_utilization_2 : decode cX10_utilization 2 = .ok (.getfield 7, 3) := by decide +kernel
theorem dX10_utilization_5 : decode cX10_utilization 5 = .ok (.bipush 8, 2) := by decide +kernel
theorem dX10_utilization_7 : decode cX10_utilization 7 = .ok (.iaload, 1) := by decide +kernel
theorem dX10_utilization_8 : decode cX10_utilization 8 = .ok (.ifCond .ne 7, 3) := by decide +kernel
theorem dX10_utilization_11 : decode cX10_utilization 11 = .ok (.iconst 1, 1) := by decide +kernel
theorem dX10_utilization_12 : decode cX10_utilization 12 = .ok (.goto 4, 3) := by decide +kernel
theorem dX10_utilization_15 : decode cX10_utilization 15 = .ok (.iconst 0, 1) := by decide +kernel
theorem dX10_utilization_16 : decode cX10_utilization 16 = .ok (.putfield 39, 3) := by decide +kernel
theorem dX10_utilization_19 : decode cX10_utilization 19 = .ok (.aload_n 0, 1) := by decide +kernel
theorem dX10_utilization_20 : decode cX10_utilization 20 = .ok (.getfield 39, 3) := by decide +kernel
theorem dX10_utilization_23 : decode cX10_utilization 23 = .ok (.ifCond .le 7, 3) := by decide +kernel
theorem dX10_utilization_26 : decode cX10_utilization 26 = .ok (.dconst 0, 1) := by decide +kernel
theorem dX10_utilization_27 : decode cX10_utilization 27 = .ok (.goto 36, 3) := by decide +kernel
theorem dX10_utilization_30 : decode cX10_utilization 30 = .ok (.aload_n 0, 1) := by decide +kernel
theorem dX10_utilization_31 : decode cX10_utilization 31 = .ok (.getfield 7, 3) := by decide +kernel
theorem dX10_utilization_34 : decode cX10_utilization 34 = .ok (.bipush 13, 2) := by decide +kernel
theorem dX10_utilization_36 : decode cX10_utilization 36 = .ok (.iaload, 1) := by decide +kernel
theorem dX10_utilization_37 : decode cX10_utilization 37 = .ok (.aload_n 0, 1) := by decide +kernel
theorem dX10_utilization_38 : decode cX10_utilization 38 = .ok (.getfield 7, 3) := by decide +kernel
theorem dX10_utilization_41 : decode cX10_utilization 41 = .ok (.bipush 14, 2) := by decide +kernel
theorem dX10_utilization_43 : decode cX10_utilization 43 = .ok (.iaload, 1) := by decide +kernel
theorem dX10_utilization_44 : decode cX10_utilization 44 = .ok (.iadd, 1) := by decide +kernel
theorem dX10_utilization_45 : decode cX10_utilization 45 = .ok (.aload_n 0, 1) := by decide +kernel
theorem dX10_utilization_46 : decode cX10_utilization 46 = .ok (.getfield 7, 3) := by decide +kernel
theorem dX10_utilization_49 : decode cX10_utilization 49 = .ok (.bipush 15, 2) := by decide +kernel
theorem dX10_utilization_51 : decode cX10_utilization 51 = .ok (.iaload, 1) := by decide +kernel
theorem dX10_utilization_52 : decode cX10_utilization 52 = .ok (.iadd, 1) := by decide +kernel
theorem dX10_utilization_53 : decode cX10_utilization 53 = .ok (.i2d, 1) := by decide +kernel
theorem dX10_utilization_54 : decode cX10_utilization 54 = .ok (.aload_n 0, 1) := by decide +kernel
theorem dX10_utilization_55 : decode cX10_utilization 55 = .ok (.getfield 7, 3) := by decide +kernel
theorem dX10_utilization_58 : decode cX10_utilization 58 = .ok (.bipush 8, 2) := by decide +kernel
theorem dX10_utilization_60 : decode cX10_utilization 60 = .ok (.iaload, 1) := by decide +kernel
theorem dX10_utilization_61 : decode cX10_utilization 61 = .ok (.i2d, 1) := by decide +kernel
theorem dX10_utilization_62 : decode cX10_utilization 62 = .ok (.ddiv, 1) := by decide +kernel
theorem dX10_utilization_63 : decode cX10_utilization 63 = .ok (.dreturn, 1) := by decide +kernel
theorem dX10_averageResponse_0 : decode cX10_averageResponse 0 = .ok (.iconst 0, 1) := by decide +kernel
theorem dX10_averageResponse_1 : decode cX10_averageResponse 1 = .ok (.istore_n 1, 1) := by decide +kernel
theorem dX10_averageResponse_2 : decode cX10_averageResponse 2 = .ok (.iconst 0, 1) := by decide +kernel
theorem dX10_averageResponse_3 : decode cX10_averageResponse 3 = .ok (.istore_n 2, 1) := by decide +kernel
theorem dX10_averageResponse_4 : decode cX10_averageResponse 4 = .ok (.iconst 0, 1) := by decide +kernel
theorem dX10_averageResponse_5 : decode cX10_averageResponse 5 = .ok (.istore_n 3, 1) := by decide +kernel
theorem dX10_averageResponse_6 : decode cX10_averageResponse 6 = .ok (.iload_n 3, 1) := by decide +kernel
theorem dX10_averageResponse_7 : decode cX10_averageResponse 7 = .ok (.aload_n 0, 1) := by decide +kernel
theorem dX10_averageResponse_8 : decode cX10_averageResponse 8 = .ok (.getfield 7, 3) := by decide +kernel
theorem dX10_averageResponse_11 : decode cX10_averageResponse 11 = .ok (.bipush 12, 2) := by decide +kernel
theorem dX10_averageResponse_13 : decode cX10_averageResponse 13 = .ok (.iaload, 1) := by decide +kernel
theorem dX10_averageResponse_14 : decode cX10_averageResponse 14 = .ok (.if_icmp .ge 50, 3) := by decide +kernel
theorem dX10_averageResponse_17 : decode cX10_averageResponse 17 = .ok (.aload_n 0, 1) := by decide +kernel
theorem dX10_averageResponse_18 : decode cX10_averageResponse 18 = .ok (.getfield 7, 3) := by decide +kernel
theorem dX10_averageResponse_21 : decode cX10_averageResponse 21 = .ok (.sipush 350, 3) := by decide +kernel
theorem dX10_averageResponse_24 : decode cX10_averageResponse 24 = .ok (.iload_n 3, 1) := by decide +kernel
theorem dX10_averageResponse_25 : decode cX10_averageResponse 25 = .ok (.iadd, 1) := by decide +kernel
theorem dX10_averageResponse_26 : decode cX10_averageResponse 26 = .ok (.iaload, 1) := by decide +kernel
theorem dX10_averageResponse_27 : decode cX10_averageResponse 27 = .ok (.iconst 1, 1) := by decide +kernel
theorem dX10_averageResponse_28 : decode cX10_averageResponse 28 = .ok (.if_icmp .ne 30, 3) := by decide +kernel
theorem dX10_averageResponse_31 : decode cX10_averageResponse 31 = .ok (.iinc 1 1, 3) := by decide +kernel
theorem dX10_averageResponse_34 : decode cX10_averageResponse 34 = .ok (.iload_n 2, 1) := by decide +kernel
theorem dX10_averageResponse_35 : decode cX10_averageResponse 35 = .ok (.aload_n 0, 1) := by decide +kernel
theorem dX10_averageResponse_36 : decode cX10_averageResponse 36 = .ok (.getfield 7, 3) := by decide +kernel
theorem dX10_averageResponse_39 : decode cX10_averageResponse 39 = .ok (.sipush 430, 3) := by decide +kernel
theorem dX10_averageResponse_42 : decode cX10_averageResponse 42 = .ok (.iload_n 3, 1) := by decide +kernel
theorem dX10_averageResponse_43 : decode cX10_averageResponse 43 = .ok (.iadd, 1) := by decide +kernel
theorem dX10_averageResponse_44 : decode cX10_averageResponse 44 = .ok (.iaload, 1) := by decide +kernel
theorem dX10_averageResponse_45 : decode cX10_averageResponse 45 = .ok (.aload_n 0, 1) := by decide +kernel
theorem dX10_averageResponse_46 : decode cX10_averageResponse 46 = .ok (.getfield 7, 3) := by decide +kernel
theorem dX10_averageResponse_49 : decode cX10_averageResponse 49 = .ok (.sipush 190, 3) := by decide +kernel
theorem dX10_averageResponse_52 : decode cX10_averageResponse 52 = .ok (.iload_n 3, 1) := by decide +kernel
theorem dX10_averageResponse_53 : decode cX10_averageResponse 53 = .ok (.iadd, 1) := by decide +kernel
theorem dX10_averageResponse_54 : decode cX10_averageResponse 54 = .ok (.iaload, 1) := by decide +kernel
theorem dX10_averageResponse_55 : decode cX10_averageResponse 55 = .ok (.isub, 1) := by decide +kernel
theorem dX10_averageResponse_56 : decode cX10_averageResponse 56 = .ok (.iadd, 1) := by decide +kernel
theorem dX10_averageResponse_57 : decode cX10_averageResponse 57 = .ok (.istore_n 2, 1) := by decide +kernel
theorem dX10_averageResponse_58 : decode cX10_averageResponse 58 = .ok (.iinc 3 1, 3) := by decide +kernel
theorem dX10_averageResponse_61 : decode cX10_averageResponse 61 = .ok (.goto (-55), 3) := by decide +kernel
theorem dX10_averageResponse_64 : decode cX10_averageResponse 64 = .ok (.aload_n 0, 1) := by decide +kernel
theorem dX10_averageResponse_65 : decode cX10_averageResponse 65 = .ok (.iload_n 1, 1) := by decide +kernel
theorem dX10_averageResponse_66 : decode cX10_averageResponse 66 = .ok (.ifCond .ne 7, 3) := by decide +kernel
theorem dX10_averageResponse_69 : decode cX10_averageResponse 69 = .ok (.iconst 1, 1) := by decide +kernel
theorem dX10_averageResponse_70 : decode cX10_averageResponse 70 = .ok (.goto 4, 3) := by decide +kernel
theorem dX10_averageResponse_73 : decode cX10_averageResponse 73 = .ok (.iconst 0, 1) := by decide +kernel
theorem dX10_averageResponse_74 : decode cX10_averageResponse 74 = .ok (.putfield 39, 3) := by decide +kernel
theorem dX10_averageResponse_77 : decode cX10_averageResponse 77 = .ok (.iload_n 1, 1) := by decide +kernel
theorem dX10_averageResponse_78 : decode cX10_averageResponse 78 = .ok (.ifCond .ne 7, 3) := by decide +kernel
theorem dX10_averageResponse_81 : decode cX10_averageResponse 81 = .ok (.dconst 0, 1) := by decide +kernel
theorem dX10_averageResponse_82 : decode cX10_averageResponse 82 = .ok (.goto 8, 3) := by decide +kernel
theorem dX10_averageResponse_85 : decode cX10_averageResponse 85 = .ok (.iload_n 2, 1) := by decide +kernel
theorem dX10_averageResponse_86 : decode cX10_averageResponse 86 = .ok (.i2d, 1) := by decide +kernel
theorem dX10_averageResponse_87 : decode cX10_averageResponse 87 = .ok (.iload_n 1, 1) := by decide +kernel
theorem dX10_averageResponse_88 : decode cX10_averageResponse 88 = .ok (.i2d, 1) := by decide +kernel
theorem dX10_averageResponse_89 : decode cX10_averageResponse 89 = .ok (.ddiv, 1) := by decide +kernel
theorem dX10_averageResponse_90 : decode cX10_averageResponse 90 = .ok (.dreturn, 1) := by decide +kernel
theorem dX10_lateShare_0 : decode cX10_lateShare 0 = .ok (.iconst 0, 1) := by decide +kernel
theorem dX10_lateShare_1 : decode cX10_lateShare 1 = .ok (.istore_n 1, 1) := by decide +kernel
theorem dX10_lateShare_2 : decode cX10_lateShare 2 = .ok (.iconst 0, 1) := by decide +kernel
theorem dX10_lateShare_3 : decode cX10_lateShare 3 = .ok (.istore_n 2, 1) := by decide +kernel
theorem dX10_lateShare_4 : decode cX10_lateShare 4 = .ok (.iconst 0, 1) := by decide +kernel
theorem dX10_lateShare_5 : decode cX10_lateShare 5 = .ok (.istore_n 3, 1) := by decide +kernel
theorem dX10_lateShare_6 : decode cX10_lateShare 6 = .ok (.iload_n 3, 1) := by decide +kernel
theorem dX10_lateShare_7 : decode cX10_lateShare 7 = .ok (.aload_n 0, 1) := by decide +kernel
theorem dX10_lateShare_8 : decode cX10_lateShare 8 = .ok (.getfield 7, 3) := by decide +kernel
theorem dX10_lateShare_11 : decode cX10_lateShare 11 = .ok (.bipush 12, 2) := by decide +kernel
theorem dX10_lateShare_13 : decode cX10_lateShare 13 = .ok (.iaload, 1) := by decide +kernel
theorem dX10_lateShare_14 : decode cX10_lateShare 14 = .ok (.if_icmp .ge 55, 3) := by decide +kernel
theorem dX10_lateShare_17 : decode cX10_lateShare 17 = .ok (.aload_n 0, 1) := by decide +kernel
theorem dX10_lateShare_18 : decode cX10_lateShare 18 = .ok (.getfield 7, 3) := by decide +kernel
theorem dX10_lateShare_21 : decode cX10_lateShare 21 = .ok (.sipush 350, 3) := by decide +kernel
theorem dX10_lateShare_24 : decode cX10_lateShare 24 = .ok (.iload_n 3, 1) := by decide +kernel
theorem dX10_lateShare_25 : decode cX10_lateShare 25 = .ok (.iadd, 1) := by decide +kernel
theorem dX10_lateShare_26 : decode cX10_lateShare 26 = .ok (.iaload, 1) := by decide +kernel
theorem dX10_lateShare_27 : decode cX10_lateShare 27 = .ok (.iconst 1, 1) := by decide +kernel
theorem dX10_lateShare_28 : decode cX10_lateShare 28 = .ok (.if_icmp .ne 35, 3) := by decide +kernel
theorem dX10_lateShare_31 : decode cX10_lateShare 31 = .ok (.aload_n 0, 1) := by decide +kernel
theorem dX10_lateShare_32 : decode cX10_lateShare 32 = .ok (.getfield 7, 3) := by decide +kernel
theorem dX10_lateShare_35 : decode cX10_lateShare 35 = .ok (.sipush 270, 3) := by decide +kernel
theorem dX10_lateShare_38 : decode cX10_lateShare 38 = .ok (.iload_n 3, 1) := by decide +kernel
theorem dX10_lateShare_39 : decode cX10_lateShare 39 = .ok (.iadd, 1) := by decide +kernel
theorem dX10_lateShare_40 : decode cX10_lateShare 40 = .ok (.iaload, 1) := by decide +kernel
theorem dX10_lateShare_41 : decode cX10_lateShare 41 = .ok (.ifCond .lt 22, 3) := by decide +kernel
theorem dX10_lateShare_44 : decode cX10_lateShare 44 = .ok (.iinc 1 1, 3) := by decide +kernel
theorem dX10_lateShare_47 : decode cX10_lateShare 47 = .ok (.iload_n 2, 1) := by decide +kernel
theorem dX10_lateShare_48 : decode cX10_lateShare 48 = .ok (.aload_n 0, 1) := by decide +kernel
theorem dX10_lateShare_49 : decode cX10_lateShare 49 = .ok (.iload_n 3, 1) := by decide +kernel
theorem dX10_lateShare_50 : decode cX10_lateShare 50 = .ok (.invokevirtual 192, 3) := by decide +kernel
theorem dX10_lateShare_53 : decode cX10_lateShare 53 = .ok (.ifCond .eq 7, 3) := by decide +kernel
theorem dX10_lateShare_56 : decode cX10_lateShare 56 = .ok (.iconst 1, 1) := by decide +kernel
theorem dX10_lateShare_57 : decode cX10_lateShare 57 = .ok (.goto 4, 3) := by decide +kernel
theorem dX10_lateShare_60 : decode cX10_lateShare 60 = .ok (.iconst 0, 1) := by decide +kernel
theorem dX10_lateShare_61 : decode cX10_lateShare 61 = .ok (.iadd, 1) := by decide +kernel
theorem dX10_lateShare_62 : decode cX10_lateShare 62 = .ok (.istore_n 2, 1) := by decide +kernel
theorem dX10_lateShare_63 : decode cX10_lateShare 63 = .ok (.iinc 3 1, 3) := by decide +kernel
theorem dX10_lateShare_66 : decode cX10_lateShare 66 = .ok (.goto (-60), 3) := by decide +kernel
theorem dX10_lateShare_69 : decode cX10_lateShare 69 = .ok (.aload_n 0, 1) := by decide +kernel
theorem dX10_lateShare_70 : decode cX10_lateShare 70 = .ok (.iload_n 1, 1) := by decide +kernel
theorem dX10_lateShare_71 : decode cX10_lateShare 71 = .ok (.ifCond .ne 7, 3) := by decide +kernel
theorem dX10_lateShare_74 : decode cX10_lateShare 74 = .ok (.iconst 1, 1) := by decide +kernel
theorem dX10_lateShare_75 : decode cX10_lateShare 75 = .ok (.goto 4, 3) := by decide +kernel
theorem dX10_lateShare_78 : decode cX10_lateShare 78 = .ok (.iconst 0, 1) := by decide +kernel
theorem dX10_lateShare_79 : decode cX10_lateShare 79 = .ok (.putfield 39, 3) := by decide +kernel
theorem dX10_lateShare_82 : decode cX10_lateShare 82 = .ok (.iload_n 1, 1) := by decide +kernel
theorem dX10_lateShare_83 : decode cX10_lateShare 83 = .ok (.ifCond .ne 7, 3) := by decide +kernel
theorem dX10_lateShare_86 : decode cX10_lateShare 86 = .ok (.fconst 0, 1) := by decide +kernel
theorem dX10_lateShare_87 : decode cX10_lateShare 87 = .ok (.goto 8, 3) := by decide +kernel
theorem dX10_lateShare_90 : decode cX10_lateShare 90 = .ok (.iload_n 2, 1) := by decide +kernel
theorem dX10_lateShare_91 : decode cX10_lateShare 91 = .ok (.i2f, 1) := by decide +kernel
theorem dX10_lateShare_92 : decode cX10_lateShare 92 = .ok (.iload_n 1, 1) := by decide +kernel
theorem dX10_lateShare_93 : decode cX10_lateShare 93 = .ok (.i2f, 1) := by decide +kernel
theorem dX10_lateShare_94 : decode cX10_lateShare 94 = .ok (.fdiv, 1) := by decide +kernel
theorem dX10_lateShare_95 : decode cX10_lateShare 95 = .ok (.freturn, 1) := by decide +kernel
theorem dX10_save_0 : decode cX10_save 0 = .ok (.aload_n 0, 1) := by decide +kernel
theorem dX10_save_1 : decode cX10_save 1 = .ok (.iconst 0, 1) := by decide +kernel
theorem dX10_save_2 : decode cX10_save 2 = .ok (.putfield 39, 3) := by decide +kernel
theorem dX10_save_5 : decode cX10_save 5 = .ok (.aload_n 0, 1) := by decide +kernel
theorem dX10_save_6 : decode cX10_save 6 = .ok (.iconst 1, 1) := by decide +kernel
theorem dX10_save_7 : decode cX10_save 7 = .ok (.putfield 195, 3) := by decide +kernel
theorem dX10_save_10 : decode cX10_save 10 = .ok (.iconst 0, 1) := by decide +kernel
theorem dX10_save_11 : decode cX10_save 11 = .ok (.istore_n 1, 1) := by decide +kernel
theorem dX10_save_12 : decode cX10_save 12 = .ok (.iload_n 1, 1) := by decide +kernel
theorem dX10_save_13 : decode cX10_save 13 = .ok (.sipush 1700, 3) := by decide +kernel
theorem dX10_save_16 : decode cX10_save 16 = .ok (.if_icmp .ge 21, 3) := by decide +kernel
theorem dX10_save_19 : decode cX10_save 19 = .ok (.aload_n 0, 1) := by decide +kernel
theorem dX10_save_20 : decode cX10_save 20 = .ok (.getfield 13, 3) := by decide +kernel
theorem dX10_save_23 : decode cX10_save 23 = .ok (.iload_n 1, 1) := by decide +kernel
theorem dX10_save_24 : decode cX10_save 24 = .ok (.aload_n 0, 1) := by decide +kernel
theorem dX10_save_25 : decode cX10_save 25 = .ok (.getfield 7, 3) := by decide +kernel
theorem dX10_save_28 : decode cX10_save 28 = .ok (.iload_n 1, 1) := by decide +kernel
theorem dX10_save_29 : decode cX10_save 29 = .ok (.iaload, 1) := by decide +kernel
theorem dX10_save_30 : decode cX10_save 30 = .ok (.iastore, 1) := by decide +kernel
theorem dX10_save_31 : decode cX10_save 31 = .ok (.iinc 1 1, 3) := by decide +kernel
theorem dX10_save_34 : decode cX10_save 34 = .ok (.goto (-22), 3) := by decide +kernel
theorem dX10_save_37 : decode cX10_save 37 = .ok (.return_, 1) := by decide +kernel
theorem dX10_restore_0 : decode cX10_restore 0 = .ok (.aload_n 0, 1) := by decide +kernel
theorem dX10_restore_1 : decode cX10_restore 1 = .ok (.iconst 0, 1) := by decide +kernel
theorem dX10_restore_2 : decode cX10_restore 2 = .ok (.putfield 39, 3) := by decide +kernel
theorem dX10_restore_5 : decode cX10_restore 5 = .ok (.aload_n 0, 1) := by decide +kernel
theorem dX10_restore_6 : decode cX10_restore 6 = .ok (.getfield 195, 3) := by decide +kernel
theorem dX10_restore_9 : decode cX10_restore 9 = .ok (.ifCond .ne 9, 3) := by decide +kernel
theorem dX10_restore_12 : decode cX10_restore 12 = .ok (.aload_n 0, 1) := by decide +kernel
theorem dX10_restore_13 : decode cX10_restore 13 = .ok (.iconst 1, 1) := by decide +kernel
theorem dX10_restore_14 : decode cX10_restore 14 = .ok (.invokevirtual 78, 3) := by decide +kernel
theorem dX10_restore_17 : decode cX10_restore 17 = .ok (.ireturn, 1) := by decide +kernel
theorem dX10_restore_18 : decode cX10_restore 18 = .ok (.iconst 0, 1) := by decide +kernel
theorem dX10_restore_19 : decode cX10_restore 19 = .ok (.istore_n 1, 1) := by decide +kernel
theorem dX10_restore_20 : decode cX10_restore 20 = .ok (.iload_n 1, 1) := by decide +kernel
theorem dX10_restore_21 : decode cX10_restore 21 = .ok (.sipush 1700, 3) := by decide +kernel
theorem dX10_restore_24 : decode cX10_restore 24 = .ok (.if_icmp .ge 21, 3) := by decide +kernel
theorem dX10_restore_27 : decode cX10_restore 27 = .ok (.aload_n 0, 1) := by decide +kernel
theorem dX10_restore_28 : decode cX10_restore 28 = .ok (.getfield 7, 3) := by decide +kernel
theorem dX10_restore_31 : decode cX10_restore 31 = .ok (.iload_n 1, 1) := by decide +kernel
theorem dX10_restore_32 : decode cX10_restore 32 = .ok (.aload_n 0, 1) := by decide +kernel
theorem dX10_restore_33 : decode cX10_restore 33 = .ok (.getfield 13, 3) := by decide +kernel
theorem dX10_restore_36 : decode cX10_restore 36 = .ok (.iload_n 1, 1) := by decide +kernel
theorem dX10_restore_37 : decode cX10_restore 37 = .ok (.iaload, 1) := by decide +kernel
theorem dX10_restore_38 : decode cX10_restore 38 = .ok (.iastore, 1) := by decide +kernel
theorem dX10_restore_39 : decode cX10_restore 39 = .ok (.iinc 1 1, 3) := by decide +kernel
theorem dX10_restore_42 : decode cX10_restore 42 = .ok (.goto (-22), 3) := by decide +kernel
theorem dX10_restore_45 : decode cX10_restore 45 = .ok (.aload_n 0, 1) := by decide +kernel
theorem dX10_restore_46 : decode cX10_restore 46 = .ok (.getfield 7, 3) := by decide +kernel
theorem dX10_restore_49 : decode cX10_restore 49 = .ok (.bipush 8, 2) := by decide +kernel
theorem dX10_restore_51 : decode cX10_restore 51 = .ok (.iaload, 1) := by decide +kernel
theorem dX10_restore_52 : decode cX10_restore 52 = .ok (.ireturn, 1) := by decide +kernel
theorem dJ9_floorMod_7cf53_0 : decode cJ9_floorMod_7cf53 0 = .ok (.iload_n 0, 1) := by decide +kernel
theorem dJ9_floorMod_7cf53_1 : decode cJ9_floorMod_7cf53 1 = .ok (.iload_n 1, 1) := by decide +kernel
theorem dJ9_floorMod_7cf53_2 : decode cJ9_floorMod_7cf53 2 = .ok (.irem, 1) := by decide +kernel
theorem dJ9_floorMod_7cf53_3 : decode cJ9_floorMod_7cf53 3 = .ok (.istore_n 2, 1) := by decide +kernel
theorem dJ9_floorMod_7cf53_4 : decode cJ9_floorMod_7cf53 4 = .ok (.iload_n 0, 1) := by decide +kernel
theorem dJ9_floorMod_7cf53_5 : decode cJ9_floorMod_7cf53 5 = .ok (.iload_n 1, 1) := by decide +kernel
theorem dJ9_floorMod_7cf53_6 : decode cJ9_floorMod_7cf53 6 = .ok (.ixor, 1) := by decide +kernel
theorem dJ9_floorMod_7cf53_7 : decode cJ9_floorMod_7cf53 7 = .ok (.ifCond .ge 11, 3) := by decide +kernel
theorem dJ9_floorMod_7cf53_10 : decode cJ9_floorMod_7cf53 10 = .ok (.iload_n 2, 1) := by decide +kernel
theorem dJ9_floorMod_7cf53_11 : decode cJ9_floorMod_7cf53 11 = .ok (.ifCond .eq 7, 3) := by decide +kernel
theorem dJ9_floorMod_7cf53_14 : decode cJ9_floorMod_7cf53 14 = .ok (.iload_n 2, 1) := by decide +kernel
theorem dJ9_floorMod_7cf53_15 : decode cJ9_floorMod_7cf53 15 = .ok (.iload_n 1, 1) := by decide +kernel
theorem dJ9_floorMod_7cf53_16 : decode cJ9_floorMod_7cf53 16 = .ok (.iadd, 1) := by decide +kernel
theorem dJ9_floorMod_7cf53_17 : decode cJ9_floorMod_7cf53 17 = .ok (.ireturn, 1) := by decide +kernel
theorem dJ9_floorMod_7cf53_18 : decode cJ9_floorMod_7cf53 18 = .ok (.iload_n 2, 1) := by decide +kernel
theorem dJ9_floorMod_7cf53_19 : decode cJ9_floorMod_7cf53 19 = .ok (.ireturn, 1) := by decide +kernel
theorem dJ9_abs_0f7a4_0 : decode cJ9_abs_0f7a4 0 = .ok (.iload_n 0, 1) := by decide +kernel
theorem dJ9_abs_0f7a4_1 : decode cJ9_abs_0f7a4 1 = .ok (.ifCond .ge 8, 3) := by decide +kernel
theorem dJ9_abs_0f7a4_4 : decode cJ9_abs_0f7a4 4 = .ok (.iload_n 0, 1) := by decide +kernel
theorem dJ9_abs_0f7a4_5 : decode cJ9_abs_0f7a4 5 = .ok (.ineg, 1) := by decide +kernel
theorem dJ9_abs_0f7a4_6 : decode cJ9_abs_0f7a4 6 = .ok (.goto 4, 3) := by decide +kernel
theorem dJ9_abs_0f7a4_9 : decode cJ9_abs_0f7a4 9 = .ok (.iload_n 0, 1) := by decide +kernel
theorem dJ9_abs_0f7a4_10 : decode cJ9_abs_0f7a4 10 = .ok (.ireturn, 1) := by decide +kernel
theorem dJ9_max_7cf53_0 : decode cJ9_max_7cf53 0 = .ok (.iload_n 0, 1) := by decide +kernel
theorem dJ9_max_7cf53_1 : decode cJ9_max_7cf53 1 = .ok (.iload_n 1, 1) := by decide +kernel
theorem dJ9_max_7cf53_2 : decode cJ9_max_7cf53 2 = .ok (.if_icmp .lt 7, 3) := by decide +kernel
theorem dJ9_max_7cf53_5 : decode cJ9_max_7cf53 5 = .ok (.iload_n 0, 1) := by decide +kernel
theorem dJ9_max_7cf53_6 : decode cJ9_max_7cf53 6 = .ok (.goto 4, 3) := by decide +kernel
theorem dJ9_max_7cf53_9 : decode cJ9_max_7cf53 9 = .ok (.iload_n 1, 1) := by decide +kernel
theorem dJ9_max_7cf53_10 : decode cJ9_max_7cf53 10 = .ok (.ireturn, 1) := by decide +kernel
theorem dJ9_min_7cf53_0 : decode cJ9_min_7cf53 0 = .ok (.iload_n 0, 1) := by decide +kernel
theorem dJ9_min_7cf53_1 : decode cJ9_min_7cf53 1 = .ok (.iload_n 1, 1) := by decide +kernel
theorem dJ9_min_7cf53_2 : decode cJ9_min_7cf53 2 = .ok (.if_icmp .gt 7, 3) := by decide +kernel
theorem dJ9_min_7cf53_5 : decode cJ9_min_7cf53 5 = .ok (.iload_n 0, 1) := by decide +kernel
theorem dJ9_min_7cf53_6 : decode cJ9_min_7cf53 6 = .ok (.goto 4, 3) := by decide +kernel
theorem dJ9_min_7cf53_9 : decode cJ9_min_7cf53 9 = .ok (.iload_n 1, 1) := by decide +kernel
theorem dJ9_min_7cf53_10 : decode cJ9_min_7cf53 10 = .ok (.ireturn, 1) := by decide +kernel
theorem dL_setCurve_0 : decode cL_setCurve 0 = .ok (.aload_n 0, 1) := by decide +kernel
theorem dL_setCurve_1 : decode cL_setCurve 1 = .ok (.iload_n 1, 1) := by decide +kernel
theorem dL_setCurve_2 : decode cL_setCurve 2 = .ok (.iload_n 2, 1) := by decide +kernel
theorem dL_setCurve_3 : decode cL_setCurve 3 = .ok (.iload_n 3, 1) := by decide +kernel
theorem dL_setCurve_4 : decode cL_setCurve 4 = .ok (.invokevirtual 7, 3) := by decide +kernel
theorem dL_setCurve_7 : decode cL_setCurve 7 = .ok (.goto 7, 3) := by decide +kernel
theorem dL_setCurve_10 : decode cL_setCurve 10 = .ok (.astore 4, 2) := by decide +kernel
theorem dL_setCurve_12 : decode cL_setCurve 12 = .ok (.iconst 1, 1) := by decide +kernel
theorem dL_setCurve_13 : decode cL_setCurve 13 = .ok (.ireturn, 1) := by decide +kernel
theorem dL_setCurve_14 : decode cL_setCurve 14 = .ok (.iconst 0, 1) := by decide +kernel
theorem dL_setCurve_15 : decode cL_setCurve 15 = .ok (.ireturn, 1) := by decide +kernel
theorem dL_setSkew_0 : decode cL_setSkew 0 = .ok (.aload_n 2, 1) := by decide +kernel
theorem dL_setSkew_1 : decode cL_setSkew 1 = .ok (.iconst 0, 1) := by decide +kernel
theorem dL_setSkew_2 : decode cL_setSkew 2 = .ok (.aload_n 0, 1) := by decide +kernel
theorem dL_setSkew_3 : decode cL_setSkew 3 = .ok (.iload_n 1, 1) := by decide +kernel
theorem dL_setSkew_4 : decode cL_setSkew 4 = .ok (.invokevirtual 15, 3) := by decide +kernel
theorem dL_setSkew_7 : decode cL_setSkew 7 = .ok (.i2l, 1) := by decide +kernel
theorem dL_setSkew_8 : decode cL_setSkew 8 = .ok (.lastore, 1) := by decide +kernel
theorem dL_setSkew_9 : decode cL_setSkew 9 = .ok (.goto 6, 3) := by decide +kernel
theorem dL_setSkew_12 : decode cL_setSkew 12 = .ok (.astore_n 3, 1) := by decide +kernel
theorem dL_setSkew_13 : decode cL_setSkew 13 = .ok (.iconst 1, 1) := by decide +kernel
theorem dL_setSkew_14 : decode cL_setSkew 14 = .ok (.ireturn, 1) := by decide +kernel
theorem dL_setSkew_15 : decode cL_setSkew 15 = .ok (.iconst 0, 1) := by decide +kernel
theorem dL_setSkew_16 : decode cL_setSkew 16 = .ok (.ireturn, 1) := by decide +kernel
theorem dL_setPolicy_0 : decode cL_setPolicy 0 = .ok (.aload_n 2, 1) := by decide +kernel
theorem dL_setPolicy_1 : decode cL_setPolicy 1 = .ok (.iconst 0, 1) := by decide +kernel
theorem dL_setPolicy_2 : decode cL_setPolicy 2 = .ok (.aload_n 0, 1) := by decide +kernel
theorem dL_setPolicy_3 : decode cL_setPolicy 3 = .ok (.iload_n 1, 1) := by decide +kernel
theorem dL_setPolicy_4 : decode cL_setPolicy 4 = .ok (.invokevirtual 19, 3) := by decide +kernel
theorem dL_setPolicy_7 : decode cL_setPolicy 7 = .ok (.i2l, 1) := by decide +kernel
theorem dL_setPolicy_8 : decode cL_setPolicy 8 = .ok (.lastore, 1) := by decide +kernel
theorem dL_setPolicy_9 : decode cL_setPolicy 9 = .ok (.goto 6, 3) := by decide +kernel
theorem dL_setPolicy_12 : decode cL_setPolicy 12 = .ok (.astore_n 3, 1) := by decide +kernel
theorem dL_setPolicy_13 : decode cL_setPolicy 13 = .ok (.iconst 1, 1) := by decide +kernel
theorem dL_setPolicy_14 : decode cL_setPolicy 14 = .ok (.ireturn, 1) := by decide +kernel
theorem dL_setPolicy_15 : decode cL_setPolicy 15 = .ok (.iconst 0, 1) := by decide +kernel
theorem dL_setPolicy_16 : decode cL_setPolicy 16 = .ok (.ireturn, 1) := by decide +kernel
theorem dL_setBuckets_0 : decode cL_setBuckets 0 = .ok (.aload_n 0, 1) := by decide +kernel
theorem dL_setBuckets_1 : decode cL_setBuckets 1 = .ok (.iload_n 1, 1) := by decide +kernel
theorem dL_setBuckets_2 : decode cL_setBuckets 2 = .ok (.iload_n 2, 1) := by decide +kernel
theorem dL_setBuckets_3 : decode cL_setBuckets 3 = .ok (.invokevirtual 22, 3) := by decide +kernel
theorem dL_setBuckets_6 : decode cL_setBuckets 6 = .ok (.goto 6, 3) := by decide +kernel
theorem dL_setBuckets_9 : decode cL_setBuckets 9 = .ok (.astore_n 3, 1) := by decide +kernel
theorem dL_setBuckets_10 : decode cL_setBuckets 10 = .ok (.iconst 1, 1) := by decide +kernel
theorem dL_setBuckets_11 : decode cL_setBuckets 11 = .ok (.ireturn, 1) := by decide +kernel
theorem dL_setBuckets_12 : decode cL_setBuckets 12 = .ok (.iconst 0, 1) := by decide +kernel
theorem dL_setBuckets_13 : decode cL_setBuckets 13 = .ok (.ireturn, 1) := by decide +kernel
theorem dL_setWriteBack_0 : decode cL_setWriteBack 0 = .ok (.aload_n 2, 1) := by decide +kernel
theorem dL_setWriteBack_1 : decode cL_setWriteBack 1 = .ok (.iconst 0, 1) := by decide +kernel
theorem dL_setWriteBack_2 : decode cL_setWriteBack 2 = .ok (.aload_n 0, 1) := by decide +kernel
theorem dL_setWriteBack_3 : decode cL_setWriteBack 3 = .ok (.iload_n 1, 1) := by decide +kernel
theorem dL_setWriteBack_4 : decode cL_setWriteBack 4 = .ok (.invokevirtual 26, 3) := by decide +kernel
theorem dL_setWriteBack_7 : decode cL_setWriteBack 7 = .ok (.ifCond .eq 7, 3) := by decide +kernel
theorem dL_setWriteBack_10 : decode cL_setWriteBack 10 = .ok (.lconst 1, 1) := by decide +kernel
theorem dL_setWriteBack_11 : decode cL_setWriteBack 11 = .ok (.goto 4, 3) := by decide +kernel
theorem dL_setWriteBack_14 : decode cL_setWriteBack 14 = .ok (.lconst 0, 1) := by decide +kernel
theorem dL_setWriteBack_15 : decode cL_setWriteBack 15 = .ok (.lastore, 1) := by decide +kernel
theorem dL_setWriteBack_16 : decode cL_setWriteBack 16 = .ok (.goto 6, 3) := by decide +kernel
theorem dL_setWriteBack_19 : decode cL_setWriteBack 19 = .ok (.astore_n 3, 1) := by decide +kernel
theorem dL_setWriteBack_20 : decode cL_setWriteBack 20 = .ok (.iconst 1, 1) := by decide +kernel
theorem dL_setWriteBack_21 : decode cL_setWriteBack 21 = .ok (.ireturn, 1) := by decide +kernel
theorem dL_setWriteBack_22 : decode cL_setWriteBack 22 = .ok (.iconst 0, 1) := by decide +kernel
theorem dL_setWriteBack_23 : decode cL_setWriteBack 23 = .ok (.ireturn, 1) := by decide +kernel
theorem dL_seekTime_0 : decode cL_seekTime 0 = .ok (.aload_n 3, 1) := by decide +kernel
theorem dL_seekTime_1 : decode cL_seekTime 1 = .ok (.iconst 0, 1) := by decide +kernel
theorem dL_seekTime_2 : decode cL_seekTime 2 = .ok (.aload_n 0, 1) := by decide +kernel
theorem dL_seekTime_3 : decode cL_seekTime 3 = .ok (.iload_n 1, 1) := by decide +kernel
theorem dL_seekTime_4 : decode cL_seekTime 4 = .ok (.iload_n 2, 1) := by decide +kernel
theorem dL_seekTime_5 : decode cL_seekTime 5 = .ok (.invokevirtual 32, 3) := by decide +kernel
theorem dL_seekTime_8 : decode cL_seekTime 8 = .ok (.i2l, 1) := by decide +kernel
theorem dL_seekTime_9 : decode cL_seekTime 9 = .ok (.lastore, 1) := by decide +kernel
theorem dL_seekTime_10 : decode cL_seekTime 10 = .ok (.goto 7, 3) := by decide +kernel
theorem dL_seekTime_13 : decode cL_seekTime 13 = .ok (.astore 4, 2) := by decide +kernel
theorem dL_seekTime_15 : decode cL_seekTime 15 = .ok (.iconst 1, 1) := by decide +kernel
theorem dL_seekTime_16 : decode cL_seekTime 16 = .ok (.ireturn, 1) := by decide +kernel
theorem dL_seekTime_17 : decode cL_seekTime 17 = .ok (.iconst 0, 1) := by decide +kernel
theorem dL_seekTime_18 : decode cL_seekTime 18 = .ok (.ireturn, 1) := by decide +kernel
theorem dL_placeOf_0 : decode cL_placeOf 0 = .ok (.aload_n 2, 1) := by decide +kernel
theorem dL_placeOf_1 : decode cL_placeOf 1 = .ok (.iconst 0, 1) := by decide +kernel
theorem dL_placeOf_2 : decode cL_placeOf 2 = .ok (.aload_n 0, 1) := by decide +kernel
theorem dL_placeOf_3 : decode cL_placeOf 3 = .ok (.iload_n 1, 1) := by decide +kernel
theorem dL_placeOf_4 : decode cL_placeOf 4 = .ok (.invokevirtual 38, 3) := by decide +kernel
theorem dL_placeOf_7 : decode cL_placeOf 7 = .ok (.i2l, 1) := by decide +kernel
theorem dL_placeOf_8 : decode cL_placeOf 8 = .ok (.lastore, 1) := by decide +kernel
theorem dL_placeOf_9 : decode cL_placeOf 9 = .ok (.goto 6, 3) := by decide +kernel
theorem dL_placeOf_12 : decode cL_placeOf 12 = .ok (.astore_n 3, 1) := by decide +kernel
theorem dL_placeOf_13 : decode cL_placeOf 13 = .ok (.iconst 1, 1) := by decide +kernel
theorem dL_placeOf_14 : decode cL_placeOf 14 = .ok (.ireturn, 1) := by decide +kernel
theorem dL_placeOf_15 : decode cL_placeOf 15 = .ok (.iconst 0, 1) := by decide +kernel
theorem dL_placeOf_16 : decode cL_placeOf 16 = .ok (.ireturn, 1) := by decide +kernel
theorem dL_cylinderOf_0 : decode cL_cylinderOf 0 = .ok (.aload_n 2, 1) := by decide +kernel
theorem dL_cylinderOf_1 : decode cL_cylinderOf 1 = .ok (.iconst 0, 1) := by decide +kernel
theorem dL_cylinderOf_2 : decode cL_cylinderOf 2 = .ok (.aload_n 0, 1) := by decide +kernel
theorem dL_cylinderOf_3 : decode cL_cylinderOf 3 = .ok (.iload_n 1, 1) := by decide +kernel
theorem dL_cylinderOf_4 : decode cL_cylinderOf 4 = .ok (.invokevirtual 41, 3) := by decide +kernel
theorem dL_cylinderOf_7 : decode cL_cylinderOf 7 = .ok (.i2l, 1) := by decide +kernel
theorem dL_cylinderOf_8 : decode cL_cylinderOf 8 = .ok (.lastore, 1) := by decide +kernel
theorem dL_cylinderOf_9 : decode cL_cylinderOf 9 = .ok (.goto 6, 3) := by decide +kernel
theorem dL_cylinderOf_12 : decode cL_cylinderOf 12 = .ok (.astore_n 3, 1) := by decide +kernel
theorem dL_cylinderOf_13 : decode cL_cylinderOf 13 = .ok (.iconst 1, 1) := by decide +kernel
theorem dL_cylinderOf_14 : decode cL_cylinderOf 14 = .ok (.ireturn, 1) := by decide +kernel
theorem dL_cylinderOf_15 : decode cL_cylinderOf 15 = .ok (.iconst 0, 1) := by decide +kernel
theorem dL_cylinderOf_16 : decode cL_cylinderOf 16 = .ok (.ireturn, 1) := by decide +kernel
theorem dL_sectorOf_0 : decode cL_sectorOf 0 = .ok (.aload_n 2, 1) := by decide +kernel
theorem dL_sectorOf_1 : decode cL_sectorOf 1 = .ok (.iconst 0, 1) := by decide +kernel
theorem dL_sectorOf_2 : decode cL_sectorOf 2 = .ok (.aload_n 0, 1) := by decide +kernel
theorem dL_sectorOf_3 : decode cL_sectorOf 3 = .ok (.iload_n 1, 1) := by decide +kernel
theorem dL_sectorOf_4 : decode cL_sectorOf 4 = .ok (.invokevirtual 44, 3) := by decide +kernel
theorem dL_sectorOf_7 : decode cL_sectorOf 7 = .ok (.i2l, 1) := by decide +kernel
theorem dL_sectorOf_8 : decode cL_sectorOf 8 = .ok (.lastore, 1) := by decide +kernel
theorem dL_sectorOf_9 : decode cL_sectorOf 9 = .ok (.goto 6, 3) := by decide +kernel
theorem dL_sectorOf_12 : decode cL_sectorOf 12 = .ok (.astore_n 3, 1) := by decide +kernel
theorem dL_sectorOf_13 : decode cL_sectorOf 13 = .ok (.iconst 1, 1) := by decide +kernel
theorem dL_sectorOf_14 : decode cL_sectorOf 14 = .ok (.ireturn, 1) := by decide +kernel
theorem dL_sectorOf_15 : decode cL_sectorOf 15 = .ok (.iconst 0, 1) := by decide +kernel
theorem dL_sectorOf_16 : decode cL_sectorOf 16 = .ok (.ireturn, 1) := by decide +kernel
theorem dL_startAngle_0 : decode cL_startAngle 0 = .ok (.aload_n 2, 1) := by decide +kernel
theorem dL_startAngle_1 : decode cL_startAngle 1 = .ok (.iconst 0, 1) := by decide +kernel
theorem dL_startAngle_2 : decode cL_startAngle 2 = .ok (.aload_n 0, 1) := by decide +kernel
theorem dL_startAngle_3 : decode cL_startAngle 3 = .ok (.iload_n 1, 1) := by decide +kernel
theorem dL_startAngle_4 : decode cL_startAngle 4 = .ok (.invokevirtual 47, 3) := by decide +kernel
theorem dL_startAngle_7 : decode cL_startAngle 7 = .ok (.i2l, 1) := by decide +kernel
theorem dL_startAngle_8 : decode cL_startAngle 8 = .ok (.lastore, 1) := by decide +kernel
theorem dL_startAngle_9 : decode cL_startAngle 9 = .ok (.goto 6, 3) := by decide +kernel
theorem dL_startAngle_12 : decode cL_startAngle 12 = .ok (.astore_n 3, 1) := by decide +kernel
theorem dL_startAngle_13 : decode cL_startAngle 13 = .ok (.iconst 1, 1) := by decide +kernel
theorem dL_startAngle_14 : decode cL_startAngle 14 = .ok (.ireturn, 1) := by decide +kernel
theorem dL_startAngle_15 : decode cL_startAngle 15 = .ok (.iconst 0, 1) := by decide +kernel
theorem dL_startAngle_16 : decode cL_startAngle 16 = .ok (.ireturn, 1) := by decide +kernel
theorem dL_accessTime_0 : decode cL_accessTime 0 = .ok (.aload_n 2, 1) := by decide +kernel
theorem dL_accessTime_1 : decode cL_accessTime 1 = .ok (.iconst 0, 1) := by decide +kernel
theorem dL_accessTime_2 : decode cL_accessTime 2 = .ok (.aload_n 0, 1) := by decide +kernel
theorem dL_accessTime_3 : decode cL_accessTime 3 = .ok (.iload_n 1, 1) := by decide +kernel
theorem dL_accessTime_4 : decode cL_accessTime 4 = .ok (.invokevirtual 50, 3) := by decide +kernel
theorem dL_accessTime_7 : decode cL_accessTime 7 = .ok (.i2l, 1) := by decide +kernel
theorem dL_accessTime_8 : decode cL_accessTime 8 = .ok (.lastore, 1) := by decide +kernel
theorem dL_accessTime_9 : decode cL_accessTime 9 = .ok (.goto 6, 3) := by decide +kernel
theorem dL_accessTime_12 : decode cL_accessTime 12 = .ok (.astore_n 3, 1) := by decide +kernel
theorem dL_accessTime_13 : decode cL_accessTime 13 = .ok (.iconst 1, 1) := by decide +kernel
theorem dL_accessTime_14 : decode cL_accessTime 14 = .ok (.ireturn, 1) := by decide +kernel
theorem dL_accessTime_15 : decode cL_accessTime 15 = .ok (.iconst 0, 1) := by decide +kernel
theorem dL_accessTime_16 : decode cL_accessTime 16 = .ok (.ireturn, 1) := by decide +kernel
theorem dL_moveToSpare_0 : decode cL_moveToSpare 0 = .ok (.aload_n 2, 1) := by decide +kernel
theorem dL_moveToSpare_1 : decode cL_moveToSpare 1 = .ok (.iconst 0, 1) := by decide +kernel
theorem dL_moveToSpare_2 : decode cL_moveToSpare 2 = .ok (.aload_n 0, 1) := by decide +kernel
theorem dL_moveToSpare_3 : decode cL_moveToSpare 3 = .ok (.iload_n 1, 1) := by decide +kernel
theorem dL_moveToSpare_4 : decode cL_moveToSpare 4 = .ok (.invokevirtual 53, 3) := by decide +kernel
theorem dL_moveToSpare_7 : decode cL_moveToSpare 7 = .ok (.i2l, 1) := by decide +kernel
theorem dL_moveToSpare_8 : decode cL_moveToSpare 8 = .ok (.lastore, 1) := by decide +kernel
theorem dL_moveToSpare_9 : decode cL_moveToSpare 9 = .ok (.goto 12, 3) := by decide +kernel
theorem dL_moveToSpare_12 : decode cL_moveToSpare 12 = .ok (.astore_n 3, 1) := by decide +kernel
theorem dL_moveToSpare_13 : decode cL_moveToSpare 13 = .ok (.iconst 1, 1) := by decide +kernel
theorem dL_moveToSpare_14 : decode cL_moveToSpare 14 = .ok (.ireturn, 1) := by decide +kernel
theorem dL_moveToSpare_15 : decode cL_moveToSpare 15 = .ok (.astore_n 3, 1) := by decide +kernel
theorem dL_moveToSpare_16 : decode cL_moveToSpare 16 = .ok (.iconst 2, 1) := by decide +kernel
theorem dL_moveToSpare_17 : decode cL_moveToSpare 17 = .ok (.ireturn, 1) := by decide +kernel
theorem dL_moveToSpare_18 : decode cL_moveToSpare 18 = .ok (.astore_n 3, 1) := by decide +kernel
theorem dL_moveToSpare_19 : decode cL_moveToSpare 19 = .ok (.iconst 3, 1) := by decide +kernel
theorem dL_moveToSpare_20 : decode cL_moveToSpare 20 = .ok (.ireturn, 1) := by decide +kernel
theorem dL_moveToSpare_21 : decode cL_moveToSpare 21 = .ok (.iconst 0, 1) := by decide +kernel
theorem dL_moveToSpare_22 : decode cL_moveToSpare 22 = .ok (.ireturn, 1) := by decide +kernel
theorem dL_accessesOf_0 : decode cL_accessesOf 0 = .ok (.aload_n 2, 1) := by decide +kernel
theorem dL_accessesOf_1 : decode cL_accessesOf 1 = .ok (.iconst 0, 1) := by decide +kernel
theorem dL_accessesOf_2 : decode cL_accessesOf 2 = .ok (.aload_n 0, 1) := by decide +kernel
theorem dL_accessesOf_3 : decode cL_accessesOf 3 = .ok (.iload_n 1, 1) := by decide +kernel
theorem dL_accessesOf_4 : decode cL_accessesOf 4 = .ok (.invokevirtual 58, 3) := by decide +kernel
theorem dL_accessesOf_7 : decode cL_accessesOf 7 = .ok (.i2l, 1) := by decide +kernel
theorem dL_accessesOf_8 : decode cL_accessesOf 8 = .ok (.lastore, 1) := by decide +kernel
theorem dL_accessesOf_9 : decode cL_accessesOf 9 = .ok (.goto 6, 3) := by decide +kernel
theorem dL_accessesOf_12 : decode cL_accessesOf 12 = .ok (.astore_n 3, 1) := by decide +kernel
theorem dL_accessesOf_13 : decode cL_accessesOf 13 = .ok (.iconst 1, 1) := by decide +kernel
theorem dL_accessesOf_14 : decode cL_accessesOf 14 = .ok (.ireturn, 1) := by decide +kernel
theorem dL_accessesOf_15 : decode cL_accessesOf 15 = .ok (.iconst 0, 1) := by decide +kernel
theorem dL_accessesOf_16 : decode cL_accessesOf 16 = .ok (.ireturn, 1) := by decide +kernel
theorem dL_idle_0 : decode cL_idle 0 = .ok (.aload_n 2, 1) := by decide +kernel
theorem dL_idle_1 : decode cL_idle 1 = .ok (.iconst 0, 1) := by decide +kernel
theorem dL_idle_2 : decode cL_idle 2 = .ok (.aload_n 0, 1) := by decide +kernel
theorem dL_idle_3 : decode cL_idle 3 = .ok (.iload_n 1, 1) := by decide +kernel
theorem dL_idle_4 : decode cL_idle 4 = .ok (.invokevirtual 61, 3) := by decide +kernel
theorem dL_idle_7 : decode cL_idle 7 = .ok (.i2l, 1) := by decide +kernel
theorem dL_idle_8 : decode cL_idle 8 = .ok (.lastore, 1) := by decide +kernel
theorem dL_idle_9 : decode cL_idle 9 = .ok (.goto 9, 3) := by decide +kernel
theorem dL_idle_12 : decode cL_idle 12 = .ok (.astore_n 3, 1) := by decide +kernel
theorem dL_idle_13 : decode cL_idle 13 = .ok (.iconst 1, 1) := by decide +kernel
theorem dL_idle_14 : decode cL_idle 14 = .ok (.ireturn, 1) := by decide +kernel
theorem dL_idle_15 : decode cL_idle 15 = .ok (.astore_n 3, 1) := by decide +kernel
theorem dL_idle_16 : decode cL_idle 16 = .ok (.iconst 2, 1) := by decide +kernel
theorem dL_idle_17 : decode cL_idle 17 = .ok (.ireturn, 1) := by decide +kernel
theorem dL_idle_18 : decode cL_idle 18 = .ok (.iconst 0, 1) := by decide +kernel
theorem dL_idle_19 : decode cL_idle 19 = .ok (.ireturn, 1) := by decide +kernel
theorem dL_submit_0 : decode cL_submit 0 = .ok (.aload 4, 2) := by decide +kernel
theorem dL_submit_2 : decode cL_submit 2 = .ok (.iconst 0, 1) := by decide +kernel
theorem dL_submit_3 : decode cL_submit 3 = .ok (.aload_n 0, 1) := by decide +kernel
theorem dL_submit_4 : decode cL_submit 4 = .ok (.iload_n 1, 1) := by decide +kernel
theorem dL_submit_5 : decode cL_submit 5 = .ok (.iload_n 2, 1) := by decide +kernel
theorem dL_submit_6 : decode cL_submit 6 = .ok (.iload_n 3, 1) := by decide +kernel
theorem dL_submit_7 : decode cL_submit 7 = .ok (.invokevirtual 64, 3) := by decide +kernel
theorem dL_submit_10 : decode cL_submit 10 = .ok (.i2l, 1) := by decide +kernel
theorem dL_submit_11 : decode cL_submit 11 = .ok (.lastore, 1) := by decide +kernel
theorem dL_submit_12 : decode cL_submit 12 = .ok (.goto 15, 3) := by decide +kernel
theorem dL_submit_15 : decode cL_submit 15 = .ok (.astore 5, 2) := by decide +kernel
theorem dL_submit_17 : decode cL_submit 17 = .ok (.iconst 1, 1) := by decide +kernel
theorem dL_submit_18 : decode cL_submit 18 = .ok (.ireturn, 1) := by decide +kernel
theorem dL_submit_19 : decode cL_submit 19 = .ok (.astore 5, 2) := by decide +kernel
theorem dL_submit_21 : decode cL_submit 21 = .ok (.iconst 2, 1) := by decide +kernel
theorem dL_submit_22 : decode cL_submit 22 = .ok (.ireturn, 1) := by decide +kernel
theorem dL_submit_23 : decode cL_submit 23 = .ok (.astore 5, 2) := by decide +kernel
theorem dL_submit_25 : decode cL_submit 25 = .ok (.iconst 3, 1) := by decide +kernel
theorem dL_submit_26 : decode cL_submit 26 = .ok (.ireturn, 1) := by decide +kernel
theorem dL_submit_27 : decode cL_submit 27 = .ok (.iconst 0, 1) := by decide +kernel
theorem dL_submit_28 : decode cL_submit 28 = .ok (.ireturn, 1) := by decide +kernel
theorem dL_appendCharacter_0 : decode cL_appendCharacter 0 = .ok (.aload_n 2, 1) := by decide +kernel
theorem dL_appendCharacter_1 : decode cL_appendCharacter 1 = .ok (.iconst 0, 1) := by decide +kernel
theorem dL_appendCharacter_2 : decode cL_appendCharacter 2 = .ok (.aload_n 0, 1) := by decide +kernel
theorem dL_appendCharacter_3 : decode cL_appendCharacter 3 = .ok (.iload_n 1, 1) := by decide +kernel
theorem dL_appendCharacter_4 : decode cL_appendCharacter 4 = .ok (.invokevirtual 68, 3) := by decide +kernel
theorem dL_appendCharacter_7 : decode cL_appendCharacter 7 = .ok (.i2l, 1) := by decide +kernel
theorem dL_appendCharacter_8 : decode cL_appendCharacter 8 = .ok (.lastore, 1) := by decide +kernel
theorem dL_appendCharacter_9 : decode cL_appendCharacter 9 = .ok (.goto 9, 3) := by decide +kernel
theorem dL_appendCharacter_12 : decode cL_appendCharacter 12 = .ok (.astore_n 3, 1) := by decide +kernel
theorem dL_appendCharacter_13 : decode cL_appendCharacter 13 = .ok (.iconst 1, 1) := by decide +kernel
theorem dL_appendCharacter_14 : decode cL_appendCharacter 14 = .ok (.ireturn, 1) := by decide +kernel
theorem dL_appendCharacter_15 : decode cL_appendCharacter 15 = .ok (.astore_n 3, 1) := by decide +kernel
theorem dL_appendCharacter_16 : decode cL_appendCharacter 16 = .ok (.iconst 2, 1) := by decide +kernel
theorem dL_appendCharacter_17 : decode cL_appendCharacter 17 = .ok (.ireturn, 1) := by decide +kernel
theorem dL_appendCharacter_18 : decode cL_appendCharacter 18 = .ok (.iconst 0, 1) := by decide +kernel
theorem dL_appendCharacter_19 : decode cL_appendCharacter 19 = .ok (.ireturn, 1) := by decide +kernel
theorem dL_submitText_0 : decode cL_submitText 0 = .ok (.aload_n 1, 1) := by decide +kernel
theorem dL_submitText_1 : decode cL_submitText 1 = .ok (.iconst 0, 1) := by decide +kernel
theorem dL_submitText_2 : decode cL_submitText 2 = .ok (.aload_n 0, 1) := by decide +kernel
theorem dL_submitText_3 : decode cL_submitText 3 = .ok (.invokevirtual 71, 3) := by decide +kernel
theorem dL_submitText_6 : decode cL_submitText 6 = .ok (.i2l, 1) := by decide +kernel
theorem dL_submitText_7 : decode cL_submitText 7 = .ok (.lastore, 1) := by decide +kernel
theorem dL_submitText_8 : decode cL_submitText 8 = .ok (.goto 6, 3) := by decide +kernel
theorem dL_submitText_11 : decode cL_submitText 11 = .ok (.astore_n 2, 1) := by decide +kernel
theorem dL_submitText_12 : decode cL_submitText 12 = .ok (.iconst 1, 1) := by decide +kernel
theorem dL_submitText_13 : decode cL_submitText 13 = .ok (.ireturn, 1) := by decide +kernel
theorem dL_submitText_14 : decode cL_submitText 14 = .ok (.iconst 0, 1) := by decide +kernel
theorem dL_submitText_15 : decode cL_submitText 15 = .ok (.ireturn, 1) := by decide +kernel
theorem dL_cancel_0 : decode cL_cancel 0 = .ok (.aload_n 0, 1) := by decide +kernel
theorem dL_cancel_1 : decode cL_cancel 1 = .ok (.iload_n 1, 1) := by decide +kernel
theorem dL_cancel_2 : decode cL_cancel 2 = .ok (.invokevirtual 75, 3) := by decide +kernel
theorem dL_cancel_5 : decode cL_cancel 5 = .ok (.goto 9, 3) := by decide +kernel
theorem dL_cancel_8 : decode cL_cancel 8 = .ok (.astore_n 2, 1) := by decide +kernel
theorem dL_cancel_9 : decode cL_cancel 9 = .ok (.iconst 1, 1) := by decide +kernel
theorem dL_cancel_10 : decode cL_cancel 10 = .ok (.ireturn, 1) := by decide +kernel
theorem dL_cancel_11 : decode cL_cancel 11 = .ok (.astore_n 2, 1) := by decide +kernel
theorem dL_cancel_12 : decode cL_cancel 12 = .ok (.iconst 2, 1) := by decide +kernel
theorem dL_cancel_13 : decode cL_cancel 13 = .ok (.ireturn, 1) := by decide +kernel
theorem dL_cancel_14 : decode cL_cancel 14 = .ok (.iconst 0, 1) := by decide +kernel
theorem dL_cancel_15 : decode cL_cancel 15 = .ok (.ireturn, 1) := by decide +kernel
theorem dL_next_0 : decode cL_next 0 = .ok (.aload_n 1, 1) := by decide +kernel
theorem dL_next_1 : decode cL_next 1 = .ok (.iconst 0, 1) := by decide +kernel
theorem dL_next_2 : decode cL_next 2 = .ok (.aload_n 0, 1) := by decide +kernel
theorem dL_next_3 : decode cL_next 3 = .ok (.invokevirtual 79, 3) := by decide +kernel
theorem dL_next_6 : decode cL_next 6 = .ok (.i2l, 1) := by decide +kernel
theorem dL_next_7 : decode cL_next 7 = .ok (.lastore, 1) := by decide +kernel
theorem dL_next_8 : decode cL_next 8 = .ok (.goto 6, 3) := by decide +kernel
theorem dL_next_11 : decode cL_next 11 = .ok (.astore_n 2, 1) := by decide +kernel
theorem dL_next_12 : decode cL_next 12 = .ok (.iconst 1, 1) := by decide +kernel
theorem dL_next_13 : decode cL_next 13 = .ok (.ireturn, 1) := by decide +kernel
theorem dL_next_14 : decode cL_next 14 = .ok (.iconst 0, 1) := by decide +kernel
theorem dL_next_15 : decode cL_next 15 = .ok (.ireturn, 1) := by decide +kernel
theorem dL_serve_0 : decode cL_serve 0 = .ok (.aload_n 1, 1) := by decide +kernel
theorem dL_serve_1 : decode cL_serve 1 = .ok (.iconst 0, 1) := by decide +kernel
theorem dL_serve_2 : decode cL_serve 2 = .ok (.aload_n 0, 1) := by decide +kernel
theorem dL_serve_3 : decode cL_serve 3 = .ok (.invokevirtual 84, 3) := by decide +kernel
theorem dL_serve_6 : decode cL_serve 6 = .ok (.i2l, 1) := by decide +kernel
theorem dL_serve_7 : decode cL_serve 7 = .ok (.lastore, 1) := by decide +kernel
theorem dL_serve_8 : decode cL_serve 8 = .ok (.goto 9, 3) := by decide +kernel
theorem dL_serve_11 : decode cL_serve 11 = .ok (.astore_n 2, 1) := by decide +kernel
theorem dL_serve_12 : decode cL_serve 12 = .ok (.iconst 1, 1) := by decide +kernel
theorem dL_serve_13 : decode cL_serve 13 = .ok (.ireturn, 1) := by decide +kernel
theorem dL_serve_14 : decode cL_serve 14 = .ok (.astore_n 2, 1) := by decide +kernel
theorem dL_serve_15 : decode cL_serve 15 = .ok (.iconst 2, 1) := by decide +kernel
theorem dL_serve_16 : decode cL_serve 16 = .ok (.ireturn, 1) := by decide +kernel
theorem dL_serve_17 : decode cL_serve 17 = .ok (.iconst 0, 1) := by decide +kernel
theorem dL_serve_18 : decode cL_serve 18 = .ok (.ireturn, 1) := by decide +kernel
theorem dL_serveFor_0 : decode cL_serveFor 0 = .ok (.aload_n 2, 1) := by decide +kernel
theorem dL_serveFor_1 : decode cL_serveFor 1 = .ok (.iconst 0, 1) := by decide +kernel
theorem dL_serveFor_2 : decode cL_serveFor 2 = .ok (.aload_n 0, 1) := by decide +kernel
theorem dL_serveFor_3 : decode cL_serveFor 3 = .ok (.iload_n 1, 1) := by decide +kernel
theorem dL_serveFor_4 : decode cL_serveFor 4 = .ok (.invokevirtual 87, 3) := by decide +kernel
theorem dL_serveFor_7 : decode cL_serveFor 7 = .ok (.i2l, 1) := by decide +kernel
theorem dL_serveFor_8 : decode cL_serveFor 8 = .ok (.lastore, 1) := by decide +kernel
theorem dL_serveFor_9 : decode cL_serveFor 9 = .ok (.goto 9, 3) := by decide +kernel
theorem dL_serveFor_12 : decode cL_serveFor 12 = .ok (.astore_n 3, 1) := by decide +kernel
theorem dL_serveFor_13 : decode cL_serveFor 13 = .ok (.iconst 1, 1) := by decide +kernel
theorem dL_serveFor_14 : decode cL_serveFor 14 = .ok (.ireturn, 1) := by decide +kernel
theorem dL_serveFor_15 : decode cL_serveFor 15 = .ok (.astore_n 3, 1) := by decide +kernel
theorem dL_serveFor_16 : decode cL_serveFor 16 = .ok (.iconst 2, 1) := by decide +kernel
theorem dL_serveFor_17 : decode cL_serveFor 17 = .ok (.ireturn, 1) := by decide +kernel
theorem dL_serveFor_18 : decode cL_serveFor 18 = .ok (.iconst 0, 1) := by decide +kernel
theorem dL_serveFor_19 : decode cL_serveFor 19 = .ok (.ireturn, 1) := by decide +kernel
theorem dL_flush_0 : decode cL_flush 0 = .ok (.aload_n 1, 1) := by decide +kernel
theorem dL_flush_1 : decode cL_flush 1 = .ok (.iconst 0, 1) := by decide +kernel
theorem dL_flush_2 : decode cL_flush 2 = .ok (.aload_n 0, 1) := by decide +kernel
theorem dL_flush_3 : decode cL_flush 3 = .ok (.invokevirtual 90, 3) := by decide +kernel
theorem dL_flush_6 : decode cL_flush 6 = .ok (.i2l, 1) := by decide +kernel
theorem dL_flush_7 : decode cL_flush 7 = .ok (.lastore, 1) := by decide +kernel
theorem dL_flush_8 : decode cL_flush 8 = .ok (.goto 6, 3) := by decide +kernel
theorem dL_flush_11 : decode cL_flush 11 = .ok (.astore_n 2, 1) := by decide +kernel
theorem dL_flush_12 : decode cL_flush 12 = .ok (.iconst 1, 1) := by decide +kernel
theorem dL_flush_13 : decode cL_flush 13 = .ok (.ireturn, 1) := by decide +kernel
theorem dL_flush_14 : decode cL_flush 14 = .ok (.iconst 0, 1) := by decide +kernel
theorem dL_flush_15 : decode cL_flush 15 = .ok (.ireturn, 1) := by decide +kernel
theorem dL_state_0 : decode cL_state 0 = .ok (.aload_n 2, 1) := by decide +kernel
theorem dL_state_1 : decode cL_state 1 = .ok (.iconst 0, 1) := by decide +kernel
theorem dL_state_2 : decode cL_state 2 = .ok (.aload_n 0, 1) := by decide +kernel
theorem dL_state_3 : decode cL_state 3 = .ok (.iload_n 1, 1) := by decide +kernel
theorem dL_state_4 : decode cL_state 4 = .ok (.invokevirtual 93, 3) := by decide +kernel
theorem dL_state_7 : decode cL_state 7 = .ok (.i2l, 1) := by decide +kernel
theorem dL_state_8 : decode cL_state 8 = .ok (.lastore, 1) := by decide +kernel
theorem dL_state_9 : decode cL_state 9 = .ok (.goto 6, 3) := by decide +kernel
theorem dL_state_12 : decode cL_state 12 = .ok (.astore_n 3, 1) := by decide +kernel
theorem dL_state_13 : decode cL_state 13 = .ok (.iconst 1, 1) := by decide +kernel
theorem dL_state_14 : decode cL_state 14 = .ok (.ireturn, 1) := by decide +kernel
theorem dL_state_15 : decode cL_state 15 = .ok (.iconst 0, 1) := by decide +kernel
theorem dL_state_16 : decode cL_state 16 = .ok (.ireturn, 1) := by decide +kernel
theorem dL_bucket_0 : decode cL_bucket 0 = .ok (.aload_n 2, 1) := by decide +kernel
theorem dL_bucket_1 : decode cL_bucket 1 = .ok (.iconst 0, 1) := by decide +kernel
theorem dL_bucket_2 : decode cL_bucket 2 = .ok (.aload_n 0, 1) := by decide +kernel
theorem dL_bucket_3 : decode cL_bucket 3 = .ok (.iload_n 1, 1) := by decide +kernel
theorem dL_bucket_4 : decode cL_bucket 4 = .ok (.invokevirtual 96, 3) := by decide +kernel
theorem dL_bucket_7 : decode cL_bucket 7 = .ok (.i2l, 1) := by decide +kernel
theorem dL_bucket_8 : decode cL_bucket 8 = .ok (.lastore, 1) := by decide +kernel
theorem dL_bucket_9 : decode cL_bucket 9 = .ok (.goto 9, 3) := by decide +kernel
theorem dL_bucket_12 : decode cL_bucket 12 = .ok (.astore_n 3, 1) := by decide +kernel
theorem dL_bucket_13 : decode cL_bucket 13 = .ok (.iconst 1, 1) := by decide +kernel
theorem dL_bucket_14 : decode cL_bucket 14 = .ok (.ireturn, 1) := by decide +kernel
theorem dL_bucket_15 : decode cL_bucket 15 = .ok (.astore_n 3, 1) := by decide +kernel
theorem dL_bucket_16 : decode cL_bucket 16 = .ok (.iconst 2, 1) := by decide +kernel
theorem dL_bucket_17 : decode cL_bucket 17 = .ok (.ireturn, 1) := by decide +kernel
theorem dL_bucket_18 : decode cL_bucket 18 = .ok (.iconst 0, 1) := by decide +kernel
theorem dL_bucket_19 : decode cL_bucket 19 = .ok (.ireturn, 1) := by decide +kernel
theorem dL_finish_0 : decode cL_finish 0 = .ok (.aload_n 2, 1) := by decide +kernel
theorem dL_finish_1 : decode cL_finish 1 = .ok (.iconst 0, 1) := by decide +kernel
theorem dL_finish_2 : decode cL_finish 2 = .ok (.aload_n 0, 1) := by decide +kernel
theorem dL_finish_3 : decode cL_finish 3 = .ok (.iload_n 1, 1) := by decide +kernel
theorem dL_finish_4 : decode cL_finish 4 = .ok (.invokevirtual 99, 3) := by decide +kernel
theorem dL_finish_7 : decode cL_finish 7 = .ok (.i2l, 1) := by decide +kernel
theorem dL_finish_8 : decode cL_finish 8 = .ok (.lastore, 1) := by decide +kernel
theorem dL_finish_9 : decode cL_finish 9 = .ok (.goto 9, 3) := by decide +kernel
theorem dL_finish_12 : decode cL_finish 12 = .ok (.astore_n 3, 1) := by decide +kernel
theorem dL_finish_13 : decode cL_finish 13 = .ok (.iconst 1, 1) := by decide +kernel
theorem dL_finish_14 : decode cL_finish 14 = .ok (.ireturn, 1) := by decide +kernel
theorem dL_finish_15 : decode cL_finish 15 = .ok (.astore_n 3, 1) := by decide +kernel
theorem dL_finish_16 : decode cL_finish 16 = .ok (.iconst 2, 1) := by decide +kernel
theorem dL_finish_17 : decode cL_finish 17 = .ok (.ireturn, 1) := by decide +kernel
theorem dL_finish_18 : decode cL_finish 18 = .ok (.iconst 0, 1) := by decide +kernel
theorem dL_finish_19 : decode cL_finish 19 = .ok (.ireturn, 1) := by decide +kernel
theorem dL_isLate_0 : decode cL_isLate 0 = .ok (.aload_n 2, 1) := by decide +kernel
theorem dL_isLate_1 : decode cL_isLate 1 = .ok (.iconst 0, 1) := by decide +kernel
theorem dL_isLate_2 : decode cL_isLate 2 = .ok (.aload_n 0, 1) := by decide +kernel
theorem dL_isLate_3 : decode cL_isLate 3 = .ok (.iload_n 1, 1) := by decide +kernel
theorem dL_isLate_4 : decode cL_isLate 4 = .ok (.invokevirtual 102, 3) := by decide +kernel
theorem dL_isLate_7 : decode cL_isLate 7 = .ok (.ifCond .eq 7, 3) := by decide +kernel
theorem dL_isLate_10 : decode cL_isLate 10 = .ok (.lconst 1, 1) := by decide +kernel
theorem dL_isLate_11 : decode cL_isLate 11 = .ok (.goto 4, 3) := by decide +kernel
theorem dL_isLate_14 : decode cL_isLate 14 = .ok (.lconst 0, 1) := by decide +kernel
theorem dL_isLate_15 : decode cL_isLate 15 = .ok (.lastore, 1) := by decide +kernel
theorem dL_isLate_16 : decode cL_isLate 16 = .ok (.goto 12, 3) := by decide +kernel
theorem dL_isLate_19 : decode cL_isLate 19 = .ok (.astore_n 3, 1) := by decide +kernel
theorem dL_isLate_20 : decode cL_isLate 20 = .ok (.iconst 1, 1) := by decide +kernel
theorem dL_isLate_21 : decode cL_isLate 21 = .ok (.ireturn, 1) := by decide +kernel
theorem dL_isLate_22 : decode cL_isLate 22 = .ok (.astore_n 3, 1) := by decide +kernel
theorem dL_isLate_23 : decode cL_isLate 23 = .ok (.iconst 2, 1) := by decide +kernel
theorem dL_isLate_24 : decode cL_isLate 24 = .ok (.ireturn, 1) := by decide +kernel
theorem dL_isLate_25 : decode cL_isLate 25 = .ok (.astore_n 3, 1) := by decide +kernel
theorem dL_isLate_26 : decode cL_isLate 26 = .ok (.iconst 3, 1) := by decide +kernel
theorem dL_isLate_27 : decode cL_isLate 27 = .ok (.ireturn, 1) := by decide +kernel
theorem dL_isLate_28 : decode cL_isLate 28 = .ok (.iconst 0, 1) := by decide +kernel
theorem dL_isLate_29 : decode cL_isLate 29 = .ok (.ireturn, 1) := by decide +kernel
theorem dL_bestFinish_0 : decode cL_bestFinish 0 = .ok (.aload_n 1, 1) := by decide +kernel
theorem dL_bestFinish_1 : decode cL_bestFinish 1 = .ok (.iconst 0, 1) := by decide +kernel
theorem dL_bestFinish_2 : decode cL_bestFinish 2 = .ok (.aload_n 0, 1) := by decide +kernel
theorem dL_bestFinish_3 : decode cL_bestFinish 3 = .ok (.invokevirtual 106, 3) := by decide +kernel
theorem dL_bestFinish_6 : decode cL_bestFinish 6 = .ok (.i2l, 1) := by decide +kernel
theorem dL_bestFinish_7 : decode cL_bestFinish 7 = .ok (.lastore, 1) := by decide +kernel
theorem dL_bestFinish_8 : decode cL_bestFinish 8 = .ok (.goto 6, 3) := by decide +kernel
theorem dL_bestFinish_11 : decode cL_bestFinish 11 = .ok (.astore_n 2, 1) := by decide +kernel
theorem dL_bestFinish_12 : decode cL_bestFinish 12 = .ok (.iconst 1, 1) := by decide +kernel
theorem dL_bestFinish_13 : decode cL_bestFinish 13 = .ok (.ireturn, 1) := by decide +kernel
theorem dL_bestFinish_14 : decode cL_bestFinish 14 = .ok (.iconst 0, 1) := by decide +kernel
theorem dL_bestFinish_15 : decode cL_bestFinish 15 = .ok (.ireturn, 1) := by decide +kernel
theorem dL_bestRequest_0 : decode cL_bestRequest 0 = .ok (.aload_n 2, 1) := by decide +kernel
theorem dL_bestRequest_1 : decode cL_bestRequest 1 = .ok (.iconst 0, 1) := by decide +kernel
theorem dL_bestRequest_2 : decode cL_bestRequest 2 = .ok (.aload_n 0, 1) := by decide +kernel
theorem dL_bestRequest_3 : decode cL_bestRequest 3 = .ok (.iload_n 1, 1) := by decide +kernel
theorem dL_bestRequest_4 : decode cL_bestRequest 4 = .ok (.invokevirtual 109, 3) := by decide +kernel
theorem dL_bestRequest_7 : decode cL_bestRequest 7 = .ok (.i2l, 1) := by decide +kernel
theorem dL_bestRequest_8 : decode cL_bestRequest 8 = .ok (.lastore, 1) := by decide +kernel
theorem dL_bestRequest_9 : decode cL_bestRequest 9 = .ok (.goto 9, 3) := by decide +kernel
theorem dL_bestRequest_12 : decode cL_bestRequest 12 = .ok (.astore_n 3, 1) := by decide +kernel
theorem dL_bestRequest_13 : decode cL_bestRequest 13 = .ok (.iconst 1, 1) := by decide +kernel
theorem dL_bestRequest_14 : decode cL_bestRequest 14 = .ok (.ireturn, 1) := by decide +kernel
theorem dL_bestRequest_15 : decode cL_bestRequest 15 = .ok (.astore_n 3, 1) := by decide +kernel
theorem dL_bestRequest_16 : decode cL_bestRequest 16 = .ok (.iconst 2, 1) := by decide +kernel
theorem dL_bestRequest_17 : decode cL_bestRequest 17 = .ok (.ireturn, 1) := by decide +kernel
theorem dL_bestRequest_18 : decode cL_bestRequest 18 = .ok (.iconst 0, 1) := by decide +kernel
theorem dL_bestRequest_19 : decode cL_bestRequest 19 = .ok (.ireturn, 1) := by decide +kernel
theorem dL_canMeetDeadlines_0 : decode cL_canMeetDeadlines 0 = .ok (.aload_n 1, 1) := by decide +kernel
theorem dL_canMeetDeadlines_1 : decode cL_canMeetDeadlines 1 = .ok (.iconst 0, 1) := by decide +kernel
theorem dL_canMeetDeadlines_2 : decode cL_canMeetDeadlines 2 = .ok (.aload_n 0, 1) := by decide +kernel
theorem dL_canMeetDeadlines_3 : decode cL_canMeetDeadlines 3 = .ok (.invokevirtual 112, 3) := by decide +kernel
theorem dL_canMeetDeadlines_6 : decode cL_canMeetDeadlines 6 = .ok (.ifCond .eq 7, 3) := by decide +kernel
theorem dL_canMeetDeadlines_9 : decode cL_canMeetDeadlines 9 = .ok (.lconst 1, 1) := by decide +kernel
theorem dL_canMeetDeadlines_10 : decode cL_canMeetDeadlines 10 = .ok (.goto 4, 3) := by decide +kernel
theorem dL_canMeetDeadlines_13 : decode cL_canMeetDeadlines 13 = .ok (.lconst 0, 1) := by decide +kernel
theorem dL_canMeetDeadlines_14 : decode cL_canMeetDeadlines 14 = .ok (.lastore, 1) := by decide +kernel
theorem dL_canMeetDeadlines_15 : decode cL_canMeetDeadlines 15 = .ok (.goto 6, 3) := by decide +kernel
theorem dL_canMeetDeadlines_18 : decode cL_canMeetDeadlines 18 = .ok (.astore_n 2, 1) := by decide +kernel
theorem dL_canMeetDeadlines_19 : decode cL_canMeetDeadlines 19 = .ok (.iconst 1, 1) := by decide +kernel
theorem dL_canMeetDeadlines_20 : decode cL_canMeetDeadlines 20 = .ok (.ireturn, 1) := by decide +kernel
theorem dL_canMeetDeadlines_21 : decode cL_canMeetDeadlines 21 = .ok (.iconst 0, 1) := by decide +kernel
theorem dL_canMeetDeadlines_22 : decode cL_canMeetDeadlines 22 = .ok (.ireturn, 1) := by decide +kernel
theorem dL_total_0 : decode cL_total 0 = .ok (.aload_n 2, 1) := by decide +kernel
theorem dL_total_1 : decode cL_total 1 = .ok (.iconst 0, 1) := by decide +kernel
theorem dL_total_2 : decode cL_total 2 = .ok (.aload_n 0, 1) := by decide +kernel
theorem dL_total_3 : decode cL_total 3 = .ok (.iload_n 1, 1) := by decide +kernel
theorem dL_total_4 : decode cL_total 4 = .ok (.invokevirtual 116, 3) := by decide +kernel
theorem dL_total_7 : decode cL_total 7 = .ok (.i2l, 1) := by decide +kernel
theorem dL_total_8 : decode cL_total 8 = .ok (.lastore, 1) := by decide +kernel
theorem dL_total_9 : decode cL_total 9 = .ok (.goto 6, 3) := by decide +kernel
theorem dL_total_12 : decode cL_total 12 = .ok (.astore_n 3, 1) := by decide +kernel
theorem dL_total_13 : decode cL_total 13 = .ok (.iconst 1, 1) := by decide +kernel
theorem dL_total_14 : decode cL_total 14 = .ok (.ireturn, 1) := by decide +kernel
theorem dL_total_15 : decode cL_total 15 = .ok (.iconst 0, 1) := by decide +kernel
theorem dL_total_16 : decode cL_total 16 = .ok (.ireturn, 1) := by decide +kernel
theorem dL_utilization_0 : decode cL_utilization 0 = .ok (.aload_n 1, 1) := by decide +kernel
theorem dL_utilization_1 : decode cL_utilization 1 = .ok (.iconst 0, 1) := by decide +kernel
theorem dL_utilization_2 : decode cL_utilization 2 = .ok (.aload_n 0, 1) := by decide +kernel
theorem dL_utilization_3 : decode cL_utilization 3 = .ok (.invokevirtual 119, 3) := by decide +kernel
theorem dL_utilization_6 : decode cL_utilization 6 = .ok (.dastore, 1) := by decide +kernel
theorem dL_utilization_7 : decode cL_utilization 7 = .ok (.goto 6, 3) := by decide +kernel
theorem dL_utilization_10 : decode cL_utilization 10 = .ok (.astore_n 2, 1) := by decide +kernel
theorem dL_utilization_11 : decode cL_utilization 11 = .ok (.iconst 1, 1) := by decide +kernel
theorem dL_utilization_12 : decode cL_utilization 12 = .ok (.ireturn, 1) := by decide +kernel
theorem dL_utilization_13 : decode cL_utilization 13 = .ok (.iconst 0, 1) := by decide +kernel
theorem dL_utilization_14 : decode cL_utilization 14 = .ok (.ireturn, 1) := by decide +kernel
theorem dL_averageResponse_0 : decode cL_averageResponse 0 = .ok (.aload_n 1, 1) := by decide +kernel
theorem dL_averageResponse_1 : decode cL_averageResponse 1 = .ok (.iconst 0, 1) := by decide +kernel
theorem dL_averageResponse_2 : decode cL_averageResponse 2 = .ok (.aload_n 0, 1) := by decide +kernel
theorem dL_averageResponse_3 : decode cL_averageResponse 3 = .ok (.invokevirtual 125, 3) := by decide +kernel
theorem dL_averageResponse_6 : decode cL_averageResponse 6 = .ok (.dastore, 1) := by decide +kernel
theorem dL_averageResponse_7 : decode cL_averageResponse 7 = .ok (.goto 6, 3) := by decide +kernel
theorem dL_averageResponse_10 : decode cL_averageResponse 10 = .ok (.astore_n 2, 1) := by decide +kernel
theorem dL_averageResponse_11 : decode cL_averageResponse 11 = .ok (.iconst 1, 1) := by decide +kernel
theorem dL_averageResponse_12 : decode cL_averageResponse 12 = .ok (.ireturn, 1) := by decide +kernel
theorem dL_averageResponse_13 : decode cL_averageResponse 13 = .ok (.iconst 0, 1) := by decide +kernel
theorem dL_averageResponse_14 : decode cL_averageResponse 14 = .ok (.ireturn, 1) := by decide +kernel
theorem dL_lateShare_0 : decode cL_lateShare 0 = .ok (.aload_n 1, 1) := by decide +kernel
theorem dL_lateShare_1 : decode cL_lateShare 1 = .ok (.iconst 0, 1) := by decide +kernel
theorem dL_lateShare_2 : decode cL_lateShare 2 = .ok (.aload_n 0, 1) := by decide +kernel
theorem dL_lateShare_3 : decode cL_lateShare 3 = .ok (.invokevirtual 128, 3) := by decide +kernel
theorem dL_lateShare_6 : decode cL_lateShare 6 = .ok (.f2d, 1) := by decide +kernel
theorem dL_lateShare_7 : decode cL_lateShare 7 = .ok (.dastore, 1) := by decide +kernel
theorem dL_lateShare_8 : decode cL_lateShare 8 = .ok (.goto 6, 3) := by decide +kernel
theorem dL_lateShare_11 : decode cL_lateShare 11 = .ok (.astore_n 2, 1) := by decide +kernel
theorem dL_lateShare_12 : decode cL_lateShare 12 = .ok (.iconst 1, 1) := by decide +kernel
theorem dL_lateShare_13 : decode cL_lateShare 13 = .ok (.ireturn, 1) := by decide +kernel
theorem dL_lateShare_14 : decode cL_lateShare 14 = .ok (.iconst 0, 1) := by decide +kernel
theorem dL_lateShare_15 : decode cL_lateShare 15 = .ok (.ireturn, 1) := by decide +kernel
theorem dL_restore_0 : decode cL_restore 0 = .ok (.aload_n 1, 1) := by decide +kernel
theorem dL_restore_1 : decode cL_restore 1 = .ok (.iconst 0, 1) := by decide +kernel
theorem dL_restore_2 : decode cL_restore 2 = .ok (.aload_n 0, 1) := by decide +kernel
theorem dL_restore_3 : decode cL_restore 3 = .ok (.invokevirtual 132, 3) := by decide +kernel
theorem dL_restore_6 : decode cL_restore 6 = .ok (.i2l, 1) := by decide +kernel
theorem dL_restore_7 : decode cL_restore 7 = .ok (.lastore, 1) := by decide +kernel
theorem dL_restore_8 : decode cL_restore 8 = .ok (.goto 6, 3) := by decide +kernel
theorem dL_restore_11 : decode cL_restore 11 = .ok (.astore_n 2, 1) := by decide +kernel
theorem dL_restore_12 : decode cL_restore 12 = .ok (.iconst 1, 1) := by decide +kernel
theorem dL_restore_13 : decode cL_restore 13 = .ok (.ireturn, 1) := by decide +kernel
theorem dL_restore_14 : decode cL_restore 14 = .ok (.iconst 0, 1) := by decide +kernel
theorem dL_restore_15 : decode cL_restore 15 = .ok (.ireturn, 1) := by decide +kernel
theorem dL_law_0 : decode cL_law 0 = .ok (.new 8, 3) := by decide +kernel
theorem dL_law_3 : decode cL_law 3 = .ok (.dup, 1) := by decide +kernel
theorem dL_law_4 : decode cL_law 4 = .ok (.invokespecial 135, 3) := by decide +kernel
theorem dL_law_7 : decode cL_law 7 = .ok (.astore_n 1, 1) := by decide +kernel
theorem dL_law_8 : decode cL_law 8 = .ok (.new 136, 3) := by decide +kernel
theorem dL_law_11 : decode cL_law 11 = .ok (.dup, 1) := by decide +kernel
theorem dL_law_12 : decode cL_law 12 = .ok (.invokespecial 138, 3) := by decide +kernel
theorem dL_law_15 : decode cL_law 15 = .ok (.astore_n 2, 1) := by decide +kernel
theorem dL_law_16 : decode cL_law 16 = .ok (.iconst 1, 1) := by decide +kernel
theorem dL_law_17 : decode cL_law 17 = .ok (.newarray .long, 2) := by decide +kernel
theorem dL_law_19 : decode cL_law 19 = .ok (.astore_n 3, 1) := by decide +kernel
theorem dL_law_20 : decode cL_law 20 = .ok (.iconst 1, 1) := by decide +kernel
theorem dL_law_21 : decode cL_law 21 = .ok (.newarray .double, 2) := by decide +kernel
theorem dL_law_23 : decode cL_law 23 = .ok (.astore 4, 2) := by decide +kernel
theorem dL_law_25 : decode cL_law 25 = .ok (.iconst 0, 1) := by decide +kernel
theorem dL_law_26 : decode cL_law 26 = .ok (.istore 5, 2) := by decide +kernel
theorem dL_law_28 : decode cL_law 28 = .ok (.iload 5, 2) := by decide +kernel
theorem dL_law_30 : decode cL_law 30 = .ok (.aload_n 0, 1) := by decide +kernel
theorem dL_law_31 : decode cL_law 31 = .ok (.arraylength, 1) := by decide +kernel
theorem dL_law_32 : decode cL_law 32 = .ok (.iconst 4, 1) := by decide +kernel
theorem dL_law_33 : decode cL_law 33 = .ok (.isub, 1) := by decide +kernel
theorem dL_law_34 : decode cL_law 34 = .ok (.if_icmp .gt 2182, 3) := by decide +kernel
theorem dL_law_37 : decode cL_law 37 = .ok (.aload_n 0, 1) := by decide +kernel
theorem dL_law_38 : decode cL_law 38 = .ok (.iload 5, 2) := by decide +kernel
theorem dL_law_40 : decode cL_law 40 = .ok (.iaload, 1) := by decide +kernel
theorem dL_law_41 : decode cL_law 41 = .ok (.bipush 63, 2) := by decide +kernel
theorem dL_law_43 : decode cL_law 43 = .ok (.iand, 1) := by decide +kernel
theorem dL_law_44 : decode cL_law 44 = .ok (.tableswitch 2166 0 40 #[180, 240, 296, 352, 400, 479, 547, 603, 659, 715, 771, 827, 883, 939, 952, 965, 978, 1034, 1114, 1170, 1214, 1227, 1263, 1307, 1351, 1407, 1451, 1464, 1477, 1533, 1589, 1645, 1708, 1752, 1808, 1859, 1915, 1980, 2045, 2111, 2122], 180) := by decide +kernel
theorem dL_law_224 : decode cL_law 224 = .ok (.aload_n 1, 1) := by decide +kernel
theorem dL_law_225 : decode cL_law 225 = .ok (.aload_n 0, 1) := by decide +kernel
theorem dL_law_226 : decode cL_law 226 = .ok (.iload 5, 2) := by decide +kernel
theorem dL_law_228 : decode cL_law 228 = .ok (.iconst 1, 1) := by decide +kernel
theorem dL_law_229 : decode cL_law 229 = .ok (.iadd, 1) := by decide +kernel
theorem dL_law_230 : decode cL_law 230 = .ok (.iaload, 1) := by decide +kernel
theorem dL_law_231 : decode cL_law 231 = .ok (.aload_n 0, 1) := by decide +kernel
theorem dL_law_232 : decode cL_law 232 = .ok (.iload 5, 2) := by decide +kernel
theorem dL_law_234 : decode cL_law 234 = .ok (.iconst 2, 1) := by decide +kernel
theorem dL_law_235 : decode cL_law 235 = .ok (.iadd, 1) := by decide +kernel
theorem dL_law_236 : decode cL_law 236 = .ok (.iaload, 1) := by decide +kernel
theorem dL_law_237 : decode cL_law 237 = .ok (.aload_n 0, 1) := by decide +kernel
theorem dL_law_238 : decode cL_law 238 = .ok (.iload 5, 2) := by decide +kernel
theorem dL_law_240 : decode cL_law 240 = .ok (.iconst 3, 1) := by decide +kernel
theorem dL_law_241 : decode cL_law 241 = .ok (.iadd, 1) := by decide +kernel
theorem dL_law_242 : decode cL_law 242 = .ok (.iaload, 1) := by decide +kernel
theorem dL_law_243 : decode cL_law 243 = .ok (.invokestatic 139, 3) := by decide +kernel
theorem dL_law_246 : decode cL_law 246 = .ok (.istore 6, 2) := by decide +kernel
theorem dL_law_248 : decode cL_law 248 = .ok (.aload_n 2, 1) := by decide +kernel
theorem dL_law_249 : decode cL_law 249 = .ok (.aload_n 0, 1) := by decide +kernel
theorem dL_law_250 : decode cL_law 250 = .ok (.iload 5, 2) := by decide +kernel
theorem dL_law_252 : decode cL_law 252 = .ok (.iconst 1, 1) := by decide +kernel
theorem dL_law_253 : decode cL_law 253 = .ok (.iadd, 1) := by decide +kernel
theorem dL_law_254 : decode cL_law 254 = .ok (.iaload, 1) := by decide +kernel
theorem dL_law_255 : decode cL_law 255 = .ok (.aload_n 0, 1) := by decide +kernel
theorem dL_law_256 : decode cL_law 256 = .ok (.iload 5, 2) := by decide +kernel
theorem dL_law_258 : decode cL_law 258 = .ok (.iconst 2, 1) := by decide +kernel
theorem dL_law_259 : decode cL_law 259 = .ok (.iadd, 1) := by decide +kernel
theorem dL_law_260 : decode cL_law 260 = .ok (.iaload, 1) := by decide +kernel
theorem dL_law_261 : decode cL_law 261 = .ok (.aload_n 0, 1) := by decide +kernel
theorem dL_law_262 : decode cL_law 262 = .ok (.iload 5, 2) := by decide +kernel
theorem dL_law_264 : decode cL_law 264 = .ok (.iconst 3, 1) := by decide +kernel
theorem dL_law_265 : decode cL_law 265 = .ok (.iadd, 1) := by decide +kernel
theorem dL_law_266 : decode cL_law 266 = .ok (.iaload, 1) := by decide +kernel
theorem dL_law_267 : decode cL_law 267 = .ok (.invokevirtual 144, 3) := by decide +kernel
theorem dL_law_270 : decode cL_law 270 = .ok (.aload_n 2, 1) := by decide +kernel
theorem dL_law_271 : decode cL_law 271 = .ok (.invokevirtual 145, 3) := by decide +kernel
theorem dL_law_274 : decode cL_law 274 = .ok (.iload 6, 2) := by decide +kernel
theorem dL_law_276 : decode cL_law 276 = .ok (.if_icmp .eq 5, 3) := by decide +kernel
theorem dL_law_279 : decode cL_law 279 = .ok (.iconst 0, 1) := by decide +kernel
theorem dL_law_280 : decode cL_law 280 = .ok (.ireturn, 1) := by decide +kernel
theorem dL_law_281 : decode cL_law 281 = .ok (.goto 1929, 3) := by decide +kernel
theorem dL_law_284 : decode cL_law 284 = .ok (.aload_n 1, 1) := by decide +kernel
theorem dL_law_285 : decode cL_law 285 = .ok (.aload_n 0, 1) := by decide +kernel
theorem dL_law_286 : decode cL_law 286 = .ok (.iload 5, 2) := by decide +kernel
theorem dL_law_288 : decode cL_law 288 = .ok (.iconst 1, 1) := by decide +kernel
theorem dL_law_289 : decode cL_law 289 = .ok (.iadd, 1) := by decide +kernel
theorem dL_law_290 : decode cL_law 290 = .ok (.iaload, 1) := by decide +kernel
theorem dL_law_291 : decode cL_law 291 = .ok (.aload_n 3, 1) := by decide +kernel
theorem dL_law_292 : decode cL_law 292 = .ok (.invokestatic 148, 3) := by decide +kernel
theorem dL_law_295 : decode cL_law 295 = .ok (.istore 6, 2) := by decide +kernel
theorem dL_law_297 : decode cL_law 297 = .ok (.aload_n 2, 1) := by decide +kernel
theorem dL_law_298 : decode cL_law 298 = .ok (.aload_n 0, 1) := by decide +kernel
theorem dL_law_299 : decode cL_law 299 = .ok (.iload 5, 2) := by decide +kernel
theorem dL_law_301 : decode cL_law 301 = .ok (.iconst 1, 1) := by decide +kernel
theorem dL_law_302 : decode cL_law 302 = .ok (.iadd, 1) := by decide +kernel
theorem dL_law_303 : decode cL_law 303 = .ok (.iaload, 1) := by decide +kernel
theorem dL_law_304 : decode cL_law 304 = .ok (.invokevirtual 151, 3) := by decide +kernel
theorem dL_law_307 : decode cL_law 307 = .ok (.istore 7, 2) := by decide +kernel
theorem dL_law_309 : decode cL_law 309 = .ok (.aload_n 2, 1) := by decide +kernel
theorem dL_law_310 : decode cL_law 310 = .ok (.invokevirtual 145, 3) := by decide +kernel
theorem dL_law_313 : decode cL_law 313 = .ok (.iload 6, 2) := by decide +kernel
theorem dL_law_315 : decode cL_law 315 = .ok (.if_icmp .eq 5, 3) := by decide +kernel
theorem dL_law_318 : decode cL_law 318 = .ok (.iconst 0, 1) := by decide +kernel
theorem dL_law_319 : decode cL_law 319 = .ok (.ireturn, 1) := by decide +kernel
theorem dL_law_320 : decode cL_law 320 = .ok (.iload 6, 2) := by decide +kernel
theorem dL_law_322 : decode cL_law 322 = .ok (.ifCond .ne 15, 3) := by decide +kernel
theorem dL_law_325 : decode cL_law 325 = .ok (.aload_n 3, 1) := by decide +kernel
theorem dL_law_326 : decode cL_law 326 = .ok (.iconst 0, 1) := by decide +kernel
theorem dL_law_327 : decode cL_law 327 = .ok (.laload, 1) := by decide +kernel
theorem dL_law_328 : decode cL_law 328 = .ok (.iload 7, 2) := by decide +kernel
theorem dL_law_330 : decode cL_law 330 = .ok (.i2l, 1) := by decide +kernel
theorem dL_law_331 : decode cL_law 331 = .ok (.lcmp, 1) := by decide +kernel
theorem dL_law_332 : decode cL_law 332 = .ok (.ifCond .eq 5, 3) := by decide +kernel
theorem dL_law_335 : decode cL_law 335 = .ok (.iconst 0, 1) := by decide +kernel
theorem dL_law_336 : decode cL_law 336 = .ok (.ireturn, 1) := by decide +kernel
theorem dL_law_337 : decode cL_law 337 = .ok (.goto 1873, 3) := by decide +kernel
theorem dL_law_340 : decode cL_law 340 = .ok (.aload_n 1, 1) := by decide +kernel
theorem dL_law_341 : decode cL_law 341 = .ok (.aload_n 0, 1) := by decide +kernel
theorem dL_law_342 : decode cL_law 342 = .ok (.iload 5, 2) := by decide +kernel
theorem dL_law_344 : decode cL_law 344 = .ok (.iconst 1, 1) := by decide +kernel
theorem dL_law_345 : decode cL_law 345 = .ok (.iadd, 1) := by decide +kernel
theorem dL_law_346 : decode cL_law 346 = .ok (.iaload, 1) := by decide +kernel
theorem dL_law_347 : decode cL_law 347 = .ok (.aload_n 3, 1) := by decide +kernel
theorem dL_law_348 : decode cL_law 348 = .ok (.invokestatic 152, 3) := by decide +kernel
theorem dL_law_351 : decode cL_law 351 = .ok (.istore 6, 2) := by decide +kernel
theorem dL_law_353 : decode cL_law 353 = .ok (.aload_n 2, 1) := by decide +kernel
theorem dL_law_354 : decode cL_law 354 = .ok (.aload_n 0, 1) := by decide +kernel
theorem dL_law_355 : decode cL_law 355 = .ok (.iload 5, 2) := by decide +kernel
theorem dL_law_357 : decode cL_law 357 = .ok (.iconst 1, 1) := by decide +kernel
theorem dL_law_358 : decode cL_law 358 = .ok (.iadd, 1) := by decide +kernel
theorem dL_law_359 : decode cL_law 359 = .ok (.iaload, 1) := by decide +kernel
theorem dL_law_360 : decode cL_law 360 = .ok (.invokevirtual 154, 3) := by decide +kernel
theorem dL_law_363 : decode cL_law 363 = .ok (.istore 7, 2) := by decide +kernel
theorem dL_law_365 : decode cL_law 365 = .ok (.aload_n 2, 1) := by decide +kernel
theorem dL_law_366 : decode cL_law 366 = .ok (.invokevirtual 145, 3) := by decide +kernel
theorem dL_law_369 : decode cL_law 369 = .ok (.iload 6, 2) := by decide +kernel
theorem dL_law_371 : decode cL_law 371 = .ok (.if_icmp .eq 5, 3) := by decide +kernel
theorem dL_law_374 : decode cL_law 374 = .ok (.iconst 0, 1) := by decide +kernel
theorem dL_law_375 : decode cL_law 375 = .ok (.ireturn, 1) := by decide +kernel
theorem dL_law_376 : decode cL_law 376 = .ok (.iload 6, 2) := by decide +kernel
theorem dL_law_378 : decode cL_law 378 = .ok (.ifCond .ne 15, 3) := by decide +kernel
theorem dL_law_381 : decode cL_law 381 = .ok (.aload_n 3, 1) := by decide +kernel
theorem dL_law_382 : decode cL_law 382 = .ok (.iconst 0, 1) := by decide +kernel
theorem dL_law_383 : decode cL_law 383 = .ok (.laload, 1) := by decide +kernel
theorem dL_law_384 : decode cL_law 384 = .ok (.iload 7, 2) := by decide +kernel
theorem dL_law_386 : decode cL_law 386 = .ok (.i2l, 1) := by decide +kernel
theorem dL_law_387 : decode cL_law 387 = .ok (.lcmp, 1) := by decide +kernel
theorem dL_law_388 : decode cL_law 388 = .ok (.ifCond .eq 5, 3) := by decide +kernel
theorem dL_law_391 : decode cL_law 391 = .ok (.iconst 0, 1) := by decide +kernel
theorem dL_law_392 : decode cL_law 392 = .ok (.ireturn, 1) := by decide +kernel
theorem dL_law_393 : decode cL_law 393 = .ok (.goto 1817, 3) := by decide +kernel
theorem dL_law_396 : decode cL_law 396 = .ok (.aload_n 1, 1) := by decide +kernel
theorem dL_law_397 : decode cL_law 397 = .ok (.aload_n 0, 1) := by decide +kernel
theorem dL_law_398 : decode cL_law 398 = .ok (.iload 5, 2) := by decide +kernel
theorem dL_law_400 : decode cL_law 400 = .ok (.iconst 1, 1) := by decide +kernel
theorem dL_law_401 : decode cL_law 401 = .ok (.iadd, 1) := by decide +kernel
theorem dL_law_402 : decode cL_law 402 = .ok (.iaload, 1) := by decide +kernel
theorem dL_law_403 : decode cL_law 403 = .ok (.aload_n 0, 1) := by decide +kernel
theorem dL_law_404 : decode cL_law 404 = .ok (.iload 5, 2) := by decide +kernel
theorem dL_law_406 : decode cL_law 406 = .ok (.iconst 2, 1) := by decide +kernel
theorem dL_law_407 : decode cL_law 407 = .ok (.iadd, 1) := by decide +kernel
theorem dL_law_408 : decode cL_law 408 = .ok (.iaload, 1) := by decide +kernel
theorem dL_law_409 : decode cL_law 409 = .ok (.invokestatic 155, 3) := by decide +kernel
theorem dL_law_412 : decode cL_law 412 = .ok (.istore 6, 2) := by decide +kernel
theorem dL_law_414 : decode cL_law 414 = .ok (.aload_n 2, 1) := by decide +kernel
theorem dL_law_415 : decode cL_law 415 = .ok (.aload_n 0, 1) := by decide +kernel
theorem dL_law_416 : decode cL_law 416 = .ok (.iload 5, 2) := by decide +kernel
theorem dL_law_418 : decode cL_law 418 = .ok (.iconst 1, 1) := by decide +kernel
theorem dL_law_419 : decode cL_law 419 = .ok (.iadd, 1) := by decide +kernel
theorem dL_law_420 : decode cL_law 420 = .ok (.iaload, 1) := by decide +kernel
theorem dL_law_421 : decode cL_law 421 = .ok (.aload_n 0, 1) := by decide +kernel
theorem dL_law_422 : decode cL_law 422 = .ok (.iload 5, 2) := by decide +kernel
theorem dL_law_424 : decode cL_law 424 = .ok (.iconst 2, 1) := by decide +kernel
theorem dL_law_425 : decode cL_law 425 = .ok (.iadd, 1) := by decide +kernel
theorem dL_law_426 : decode cL_law 426 = .ok (.iaload, 1) := by decide +kernel
theorem dL_law_427 : decode cL_law 427 = .ok (.invokevirtual 158, 3) := by decide +kernel
theorem dL_law_430 : decode cL_law 430 = .ok (.aload_n 2, 1) := by decide +kernel
theorem dL_law_431 : decode cL_law 431 = .ok (.invokevirtual 145, 3) := by decide +kernel
theorem dL_law_434 : decode cL_law 434 = .ok (.iload 6, 2) := by decide +kernel
theorem dL_law_436 : decode cL_law 436 = .ok (.if_icmp .eq 5, 3) := by decide +kernel
theorem dL_law_439 : decode cL_law 439 = .ok (.iconst 0, 1) := by decide +kernel
theorem dL_law_440 : decode cL_law 440 = .ok (.ireturn, 1) := by decide +kernel
theorem dL_law_441 : decode cL_law 441 = .ok (.goto 1769, 3) := by decide +kernel
theorem dL_law_444 : decode cL_law 444 = .ok (.aload_n 1, 1) := by decide +kernel
theorem dL_law_445 : decode cL_law 445 = .ok (.aload_n 0, 1) := by decide +kernel
theorem dL_law_446 : decode cL_law 446 = .ok (.iload 5, 2) := by decide +kernel
theorem dL_law_448 : decode cL_law 448 = .ok (.iconst 1, 1) := by decide +kernel
theorem dL_law_449 : decode cL_law 449 = .ok (.iadd, 1) := by decide +kernel
theorem dL_law_450 : decode cL_law 450 = .ok (.iaload, 1) := by decide +kernel
theorem dL_law_451 : decode cL_law 451 = .ok (.ifCond .eq 7, 3) := by decide +kernel
theorem dL_law_454 : decode cL_law 454 = .ok (.iconst 1, 1) := by decide +kernel
theorem dL_law_455 : decode cL_law 455 = .ok (.goto 4, 3) := by decide +kernel
theorem dL_law_458 : decode cL_law 458 = .ok (.iconst 0, 1) := by decide +kernel
theorem dL_law_459 : decode cL_law 459 = .ok (.aload_n 3, 1) := by decide +kernel
theorem dL_law_460 : decode cL_law 460 = .ok (.invokestatic 159, 3) := by decide +kernel
theorem dL_law_463 : decode cL_law 463 = .ok (.istore 6, 2) := by decide +kernel
theorem dL_law_465 : decode cL_law 465 = .ok (.aload_n 2, 1) := by decide +kernel
theorem dL_law_466 : decode cL_law 466 = .ok (.aload_n 0, 1) := by decide +kernel
theorem dL_law_467 : decode cL_law 467 = .ok (.iload 5, 2) := by decide +kernel
theorem dL_law_469 : decode cL_law 469 = .ok (.iconst 1, 1) := by decide +kernel
theorem dL_law_470 : decode cL_law 470 = .ok (.iadd, 1) := by decide +kernel
theorem dL_law_471 : decode cL_law 471 = .ok (.iaload, 1) := by decide +kernel
theorem dL_law_472 : decode cL_law 472 = .ok (.ifCond .eq 7, 3) := by decide +kernel
theorem dL_law_475 : decode cL_law 475 = .ok (.iconst 1, 1) := by decide +kernel
theorem dL_law_476 : decode cL_law 476 = .ok (.goto 4, 3) := by decide +kernel
theorem dL_law_479 : decode cL_law 479 = .ok (.iconst 0, 1) := by decide +kernel
theorem dL_law_480 : decode cL_law 480 = .ok (.invokevirtual 162, 3) := by decide +kernel
theorem dL_law_483 : decode cL_law 483 = .ok (.istore 7, 2) := by decide +kernel
theorem dL_law_485 : decode cL_law 485 = .ok (.aload_n 2, 1) := by decide +kernel
theorem dL_law_486 : decode cL_law 486 = .ok (.invokevirtual 145, 3) := by decide +kernel
theorem dL_law_489 : decode cL_law 489 = .ok (.iload 6, 2) := by decide +kernel
theorem dL_law_491 : decode cL_law 491 = .ok (.if_icmp .eq 5, 3) := by decide +kernel
theorem dL_law_494 : decode cL_law 494 = .ok (.iconst 0, 1) := by decide +kernel
theorem dL_law_495 : decode cL_law 495 = .ok (.ireturn, 1) := by decide +kernel
theorem dL_law_496 : decode cL_law 496 = .ok (.iload 6, 2) := by decide +kernel
theorem dL_law_498 : decode cL_law 498 = .ok (.ifCond .ne 22, 3) := by decide +kernel
theorem dL_law_501 : decode cL_law 501 = .ok (.aload_n 3, 1) := by decide +kernel
theorem dL_law_502 : decode cL_law 502 = .ok (.iconst 0, 1) := by decide +kernel
theorem dL_law_503 : decode cL_law 503 = .ok (.laload, 1) := by decide +kernel
theorem dL_law_504 : decode cL_law 504 = .ok (.iload 7, 2) := by decide +kernel
theorem dL_law_506 : decode cL_law 506 = .ok (.ifCond .eq 7, 3) := by decide +kernel
theorem dL_law_509 : decode cL_law 509 = .ok (.lconst 1, 1) := by decide +kernel
theorem dL_law_510 : decode cL_law 510 = .ok (.goto 4, 3) := by decide +kernel
theorem dL_law_513 : decode cL_law 513 = .ok (.lconst 0, 1) := by decide +kernel
theorem dL_law_514 : decode cL_law 514 = .ok (.lcmp, 1) := by decide +kernel
theorem dL_law_515 : decode cL_law 515 = .ok (.ifCond .eq 5, 3) := by decide +kernel
theorem dL_law_518 : decode cL_law 518 = .ok (.iconst 0, 1) := by decide +kernel
theorem dL_law_519 : decode cL_law 519 = .ok (.ireturn, 1) := by decide +kernel
theorem dL_law_520 : decode cL_law 520 = .ok (.goto 1690, 3) := by decide +kernel
theorem dL_law_523 : decode cL_law 523 = .ok (.aload_n 1, 1) := by decide +kernel
theorem dL_law_524 : decode cL_law 524 = .ok (.aload_n 0, 1) := by decide +kernel
theorem dL_law_525 : decode cL_law 525 = .ok (.iload 5, 2) := by decide +kernel
theorem dL_law_527 : decode cL_law 527 = .ok (.iconst 1, 1) := by decide +kernel
theorem dL_law_528 : decode cL_law 528 = .ok (.iadd, 1) := by decide +kernel
theorem dL_law_529 : decode cL_law 529 = .ok (.iaload, 1) := by decide +kernel
theorem dL_law_530 : decode cL_law 530 = .ok (.aload_n 0, 1) := by decide +kernel
theorem dL_law_531 : decode cL_law 531 = .ok (.iload 5, 2) := by decide +kernel
theorem dL_law_533 : decode cL_law 533 = .ok (.iconst 2, 1) := by decide +kernel
theorem dL_law_534 : decode cL_law 534 = .ok (.iadd, 1) := by decide +kernel
theorem dL_law_535 : decode cL_law 535 = .ok (.iaload, 1) := by decide +kernel
theorem dL_law_536 : decode cL_law 536 = .ok (.aload_n 3, 1) := by decide +kernel
theorem dL_law_537 : decode cL_law 537 = .ok (.invokestatic 163, 3) := by decide +kernel
theorem dL_law_540 : decode cL_law 540 = .ok (.istore 6, 2) := by decide +kernel
theorem dL_law_542 : decode cL_law 542 = .ok (.aload_n 2, 1) := by decide +kernel
theorem dL_law_543 : decode cL_law 543 = .ok (.aload_n 0, 1) := by decide +kernel
theorem dL_law_544 : decode cL_law 544 = .ok (.iload 5, 2) := by decide +kernel
theorem dL_law_546 : decode cL_law 546 = .ok (.iconst 1, 1) := by decide +kernel
theorem dL_law_547 : decode cL_law 547 = .ok (.iadd, 1) := by decide +kernel
theorem dL_law_548 : decode cL_law 548 = .ok (.iaload, 1) := by decide +kernel
theorem dL_law_549 : decode cL_law 549 = .ok (.aload_n 0, 1) := by decide +kernel
theorem dL_law_550 : decode cL_law 550 = .ok (.iload 5, 2) := by decide +kernel
theorem dL_law_552 : decode cL_law 552 = .ok (.iconst 2, 1) := by decide +kernel
theorem dL_law_553 : decode cL_law 553 = .ok (.iadd, 1) := by decide +kernel
theorem dL_law_554 : decode cL_law 554 = .ok (.iaload, 1) := by decide +kernel
theorem dL_law_555 : decode cL_law 555 = .ok (.invokevirtual 166, 3) := by decide +kernel
theorem dL_law_558 : decode cL_law 558 = .ok (.istore 7, 2) := by decide +kernel
theorem dL_law_560 : decode cL_law 560 = .ok (.aload_n 2, 1) := by decide +kernel
theorem dL_law_561 : decode cL_law 561 = .ok (.invokevirtual 145, 3) := by decide +kernel
theorem dL_law_564 : decode cL_law 564 = .ok (.iload 6, 2) := by decide +kernel
theorem dL_law_566 : decode cL_law 566 = .ok (.if_icmp .eq 5, 3) := by decide +kernel
theorem dL_law_569 : decode cL_law 569 = .ok (.iconst 0, 1) := by decide +kernel
theorem dL_law_570 : decode cL_law 570 = .ok (.ireturn, 1) := by decide +kernel
theorem dL_law_571 : decode cL_law 571 = .ok (.iload 6, 2) := by decide +kernel
theorem dL_law_573 : decode cL_law 573 = .ok (.ifCond .ne 15, 3) := by decide +kernel
theorem dL_law_576 : decode cL_law 576 = .ok (.aload_n 3, 1) := by decide +kernel
theorem dL_law_577 : decode cL_law 577 = .ok (.iconst 0, 1) := by decide +kernel
theorem dL_law_578 : decode cL_law 578 = .ok (.laload, 1) := by decide +kernel
theorem dL_law_579 : decode cL_law 579 = .ok (.iload 7, 2) := by decide +kernel
theorem dL_law_581 : decode cL_law 581 = .ok (.i2l, 1) := by decide +kernel
theorem dL_law_582 : decode cL_law 582 = .ok (.lcmp, 1) := by decide +kernel
theorem dL_law_583 : decode cL_law 583 = .ok (.ifCond .eq 5, 3) := by decide +kernel
theorem dL_law_586 : decode cL_law 586 = .ok (.iconst 0, 1) := by decide +kernel
theorem dL_law_587 : decode cL_law 587 = .ok (.ireturn, 1) := by decide +kernel
theorem dL_law_588 : decode cL_law 588 = .ok (.goto 1622, 3) := by decide +kernel
theorem dL_law_591 : decode cL_law 591 = .ok (.aload_n 1, 1) := by decide +kernel
theorem dL_law_592 : decode cL_law 592 = .ok (.aload_n 0, 1) := by decide +kernel
theorem dL_law_593 : decode cL_law 593 = .ok (.iload 5, 2) := by decide +kernel
theorem dL_law_595 : decode cL_law 595 = .ok (.iconst 1, 1) := by decide +kernel
theorem dL_law_596 : decode cL_law 596 = .ok (.iadd, 1) := by decide +kernel
theorem dL_law_597 : decode cL_law 597 = .ok (.iaload, 1) := by decide +kernel
theorem dL_law_598 : decode cL_law 598 = .ok (.aload_n 3, 1) := by decide +kernel
theorem dL_law_599 : decode cL_law 599 = .ok (.invokestatic 167, 3) := by decide +kernel
theorem dL_law_602 : decode cL_law 602 = .ok (.istore 6, 2) := by decide +kernel
theorem dL_law_604 : decode cL_law 604 = .ok (.aload_n 2, 1) := by decide +kernel
theorem dL_law_605 : decode cL_law 605 = .ok (.aload_n 0, 1) := by decide +kernel
theorem dL_law_606 : decode cL_law 606 = .ok (.iload 5, 2) := by decide +kernel
theorem dL_law_608 : decode cL_law 608 = .ok (.iconst 1, 1) := by decide +kernel
theorem dL_law_609 : decode cL_law 609 = .ok (.iadd, 1) := by decide +kernel
theorem dL_law_610 : decode cL_law 610 = .ok (.iaload, 1) := by decide +kernel
theorem dL_law_611 : decode cL_law 611 = .ok (.invokevirtual 169, 3) := by decide +kernel
theorem dL_law_614 : decode cL_law 614 = .ok (.istore 7, 2) := by decide +kernel
theorem dL_law_616 : decode cL_law 616 = .ok (.aload_n 2, 1) := by decide +kernel
theorem dL_law_617 : decode cL_law 617 = .ok (.invokevirtual 145, 3) := by decide +kernel
theorem dL_law_620 : decode cL_law 620 = .ok (.iload 6, 2) := by decide +kernel
theorem dL_law_622 : decode cL_law 622 = .ok (.if_icmp .eq 5, 3) := by decide +kernel
theorem dL_law_625 : decode cL_law 625 = .ok (.iconst 0, 1) := by decide +kernel
theorem dL_law_626 : decode cL_law 626 = .ok (.ireturn, 1) := by decide +kernel
theorem dL_law_627 : decode cL_law 627 = .ok (.iload 6, 2) := by decide +kernel
theorem dL_law_629 : decode cL_law 629 = .ok (.ifCond .ne 15, 3) := by decide +kernel
theorem dL_law_632 : decode cL_law 632 = .ok (.aload_n 3, 1) := by decide +kernel
theorem dL_law_633 : decode cL_law 633 = .ok (.iconst 0, 1) := by decide +kernel
theorem dL_law_634 : decode cL_law 634 = .ok (.laload, 1) := by decide +kernel
theorem dL_law_635 : decode cL_law 635 = .ok (.iload 7, 2) := by decide +kernel
theorem dL_law_637 : decode cL_law 637 = .ok (.i2l, 1) := by decide +kernel
theorem dL_law_638 : decode cL_law 638 = .ok (.lcmp, 1) := by decide +kernel
theorem dL_law_639 : decode cL_law 639 = .ok (.ifCond .eq 5, 3) := by decide +kernel
theorem dL_law_642 : decode cL_law 642 = .ok (.iconst 0, 1) := by decide +kernel
theorem dL_law_643 : decode cL_law 643 = .ok (.ireturn, 1) := by decide +kernel
theorem dL_law_644 : decode cL_law 644 = .ok (.goto 1566, 3) := by decide +kernel
theorem dL_law_647 : decode cL_law 647 = .ok (.aload_n 1, 1) := by decide +kernel
theorem dL_law_648 : decode cL_law 648 = .ok (.aload_n 0, 1) := by decide +kernel
theorem dL_law_649 : decode cL_law 649 = .ok (.iload 5, 2) := by decide +kernel
theorem dL_law_651 : decode cL_law 651 = .ok (.iconst 1, 1) := by decide +kernel
theorem dL_law_652 : decode cL_law 652 = .ok (.iadd, 1) := by decide +kernel
theorem dL_law_653 : decode cL_law 653 = .ok (.iaload, 1) := by decide +kernel
theorem dL_law_654 : decode cL_law 654 = .ok (.aload_n 3, 1) := by decide +kernel
theorem dL_law_655 : decode cL_law 655 = .ok (.invokestatic 170, 3) := by decide +kernel
theorem dL_law_658 : decode cL_law 658 = .ok (.istore 6, 2) := by decide +kernel
theorem dL_law_660 : decode cL_law 660 = .ok (.aload_n 2, 1) := by decide +kernel
theorem dL_law_661 : decode cL_law 661 = .ok (.aload_n 0, 1) := by decide +kernel
theorem dL_law_662 : decode cL_law 662 = .ok (.iload 5, 2) := by decide +kernel
theorem dL_law_664 : decode cL_law 664 = .ok (.iconst 1, 1) := by decide +kernel
theorem dL_law_665 : decode cL_law 665 = .ok (.iadd, 1) := by decide +kernel
theorem dL_law_666 : decode cL_law 666 = .ok (.iaload, 1) := by decide +kernel
theorem dL_law_667 : decode cL_law 667 = .ok (.invokevirtual 172, 3) := by decide +kernel
theorem dL_law_670 : decode cL_law 670 = .ok (.istore 7, 2) := by decide +kernel
theorem dL_law_672 : decode cL_law 672 = .ok (.aload_n 2, 1) := by decide +kernel
theorem dL_law_673 : decode cL_law 673 = .ok (.invokevirtual 145, 3) := by decide +kernel
theorem dL_law_676 : decode cL_law 676 = .ok (.iload 6, 2) := by decide +kernel
theorem dL_law_678 : decode cL_law 678 = .ok (.if_icmp .eq 5, 3) := by decide +kernel
theorem dL_law_681 : decode cL_law 681 = .ok (.iconst 0, 1) := by decide +kernel
theorem dL_law_682 : decode cL_law 682 = .ok (.ireturn, 1) := by decide +kernel
theorem dL_law_683 : decode cL_law 683 = .ok (.iload 6, 2) := by decide +kernel
theorem dL_law_685 : decode cL_law 685 = .ok (.ifCond .ne 15, 3) := by decide +kernel
theorem dL_law_688 : decode cL_law 688 = .ok (.aload_n 3, 1) := by decide +kernel
theorem dL_law_689 : decode cL_law 689 = .ok (.iconst 0, 1) := by decide +kernel
theorem dL_law_690 : decode cL_law 690 = .ok (.laload, 1) := by decide +kernel
theorem dL_law_691 : decode cL_law 691 = .ok (.iload 7, 2) := by decide +kernel
theorem dL_law_693 : decode cL_law 693 = .ok (.i2l, 1) := by decide +kernel
theorem dL_law_694 : decode cL_law 694 = .ok (.lcmp, 1) := by decide +kernel
theorem dL_law_695 : decode cL_law 695 = .ok (.ifCond .eq 5, 3) := by decide +kernel
theorem dL_law_698 : decode cL_law 698 = .ok (.iconst 0, 1) := by decide +kernel
theorem dL_law_699 : decode cL_law 699 = .ok (.ireturn, 1) := by decide +kernel
theorem dL_law_700 : decode cL_law 700 = .ok (.goto 1510, 3) := by decide +kernel
theorem dL_law_703 : decode cL_law 703 = .ok (.aload_n 1, 1) := by decide +kernel
theorem dL_law_704 : decode cL_law 704 = .ok (.aload_n 0, 1) := by decide +kernel
theorem dL_law_705 : decode cL_law 705 = .ok (.iload 5, 2) := by decide +kernel
theorem dL_law_707 : decode cL_law 707 = .ok (.iconst 1, 1) := by decide +kernel
theorem dL_law_708 : decode cL_law 708 = .ok (.iadd, 1) := by decide +kernel
theorem dL_law_709 : decode cL_law 709 = .ok (.iaload, 1) := by decide +kernel
theorem dL_law_710 : decode cL_law 710 = .ok (.aload_n 3, 1) := by decide +kernel
theorem dL_law_711 : decode cL_law 711 = .ok (.invokestatic 173, 3) := by decide +kernel
theorem dL_law_714 : decode cL_law 714 = .ok (.istore 6, 2) := by decide +kernel
theorem dL_law_716 : decode cL_law 716 = .ok (.aload_n 2, 1) := by decide +kernel
theorem dL_law_717 : decode cL_law 717 = .ok (.aload_n 0, 1) := by decide +kernel
theorem dL_law_718 : decode cL_law 718 = .ok (.iload 5, 2) := by decide +kernel
theorem dL_law_720 : decode cL_law 720 = .ok (.iconst 1, 1) := by decide +kernel
theorem dL_law_721 : decode cL_law 721 = .ok (.iadd, 1) := by decide +kernel
theorem dL_law_722 : decode cL_law 722 = .ok (.iaload, 1) := by decide +kernel
theorem dL_law_723 : decode cL_law 723 = .ok (.invokevirtual 175, 3) := by decide +kernel
theorem dL_law_726 : decode cL_law 726 = .ok (.istore 7, 2) := by decide +kernel
theorem dL_law_728 : decode cL_law 728 = .ok (.aload_n 2, 1) := by decide +kernel
theorem dL_law_729 : decode cL_law 729 = .ok (.invokevirtual 145, 3) := by decide +kernel
theorem dL_law_732 : decode cL_law 732 = .ok (.iload 6, 2) := by decide +kernel
theorem dL_law_734 : decode cL_law 734 = .ok (.if_icmp .eq 5, 3) := by decide +kernel
theorem dL_law_737 : decode cL_law 737 = .ok (.iconst 0, 1) := by decide +kernel
theorem dL_law_738 : decode cL_law 738 = .ok (.ireturn, 1) := by decide +kernel
theorem dL_law_739 : decode cL_law 739 = .ok (.iload 6, 2) := by decide +kernel
theorem dL_law_741 : decode cL_law 741 = .ok (.ifCond .ne 15, 3) := by decide +kernel
theorem dL_law_744 : decode cL_law 744 = .ok (.aload_n 3, 1) := by decide +kernel
theorem dL_law_745 : decode cL_law 745 = .ok (.iconst 0, 1) := by decide +kernel
theorem dL_law_746 : decode cL_law 746 = .ok (.laload, 1) := by decide +kernel
theorem dL_law_747 : decode cL_law 747 = .ok (.iload 7, 2) := by decide +kernel
theorem dL_law_749 : decode cL_law 749 = .ok (.i2l, 1) := by decide +kernel
theorem dL_law_750 : decode cL_law 750 = .ok (.lcmp, 1) := by decide +kernel
theorem dL_law_751 : decode cL_law 751 = .ok (.ifCond .eq 5, 3) := by decide +kernel
theorem dL_law_754 : decode cL_law 754 = .ok (.iconst 0, 1) := by decide +kernel
theorem dL_law_755 : decode cL_law 755 = .ok (.ireturn, 1) := by decide +kernel
theorem dL_law_756 : decode cL_law 756 = .ok (.goto 1454, 3) := by decide +kernel
theorem dL_law_759 : decode cL_law 759 = .ok (.aload_n 1, 1) := by decide +kernel
theorem dL_law_760 : decode cL_law 760 = .ok (.aload_n 0, 1) := by decide +kernel
theorem dL_law_761 : decode cL_law 761 = .ok (.iload 5, 2) := by decide +kernel
theorem dL_law_763 : decode cL_law 763 = .ok (.iconst 1, 1) := by decide +kernel
theorem dL_law_764 : decode cL_law 764 = .ok (.iadd, 1) := by decide +kernel
theorem dL_law_765 : decode cL_law 765 = .ok (.iaload, 1) := by decide +kernel
theorem dL_law_766 : decode cL_law 766 = .ok (.aload_n 3, 1) := by decide +kernel
theorem dL_law_767 : decode cL_law 767 = .ok (.invokestatic 176, 3) := by decide +kernel
theorem dL_law_770 : decode cL_law 770 = .ok (.istore 6, 2) := by decide +kernel
theorem dL_law_772 : decode cL_law 772 = .ok (.aload_n 2, 1) := by decide +kernel
theorem dL_law_773 : decode cL_law 773 = .ok (.aload_n 0, 1) := by decide +kernel
theorem dL_law_774 : decode cL_law 774 = .ok (.iload 5, 2) := by decide +kernel
theorem dL_law_776 : decode cL_law 776 = .ok (.iconst 1, 1) := by decide +kernel
theorem dL_law_777 : decode cL_law 777 = .ok (.iadd, 1) := by decide +kernel
theorem dL_law_778 : decode cL_law 778 = .ok (.iaload, 1) := by decide +kernel
theorem dL_law_779 : decode cL_law 779 = .ok (.invokevirtual 178, 3) := by decide +kernel
theorem dL_law_782 : decode cL_law 782 = .ok (.istore 7, 2) := by decide +kernel
theorem dL_law_784 : decode cL_law 784 = .ok (.aload_n 2, 1) := by decide +kernel
theorem dL_law_785 : decode cL_law 785 = .ok (.invokevirtual 145, 3) := by decide +kernel
theorem dL_law_788 : decode cL_law 788 = .ok (.iload 6, 2) := by decide +kernel
theorem dL_law_790 : decode cL_law 790 = .ok (.if_icmp .eq 5, 3) := by decide +kernel
theorem dL_law_793 : decode cL_law 793 = .ok (.iconst 0, 1) := by decide +kernel
theorem dL_law_794 : decode cL_law 794 = .ok (.ireturn, 1) := by decide +kernel
theorem dL_law_795 : decode cL_law 795 = .ok (.iload 6, 2) := by decide +kernel
theorem dL_law_797 : decode cL_law 797 = .ok (.ifCond .ne 15, 3) := by decide +kernel
theorem dL_law_800 : decode cL_law 800 = .ok (.aload_n 3, 1) := by decide +kernel
theorem dL_law_801 : decode cL_law 801 = .ok (.iconst 0, 1) := by decide +kernel
theorem dL_law_802 : decode cL_law 802 = .ok (.laload, 1) := by decide +kernel
theorem dL_law_803 : decode cL_law 803 = .ok (.iload 7, 2) := by decide +kernel
theorem dL_law_805 : decode cL_law 805 = .ok (.i2l, 1) := by decide +kernel
theorem dL_law_806 : decode cL_law 806 = .ok (.lcmp, 1) := by decide +kernel
theorem dL_law_807 : decode cL_law 807 = .ok (.ifCond .eq 5, 3) := by decide +kernel
theorem dL_law_810 : decode cL_law 810 = .ok (.iconst 0, 1) := by decide +kernel
theorem dL_law_811 : decode cL_law 811 = .ok (.ireturn, 1) := by decide +kernel
theorem dL_law_812 : decode cL_law 812 = .ok (.goto 1398, 3) := by decide +kernel
theorem dL_law_815 : decode cL_law 815 = .ok (.aload_n 1, 1) := by decide +kernel
theorem dL_law_816 : decode cL_law 816 = .ok (.aload_n 0, 1) := by decide +kernel
theorem dL_law_817 : decode cL_law 817 = .ok (.iload 5, 2) := by decide +kernel
theorem dL_law_819 : decode cL_law 819 = .ok (.iconst 1, 1) := by decide +kernel
theorem dL_law_820 : decode cL_law 820 = .ok (.iadd, 1) := by decide +kernel
theorem dL_law_821 : decode cL_law 821 = .ok (.iaload, 1) := by decide +kernel
theorem dL_law_822 : decode cL_law 822 = .ok (.aload_n 3, 1) := by decide +kernel
theorem dL_law_823 : decode cL_law 823 = .ok (.invokestatic 179, 3) := by decide +kernel
theorem dL_law_826 : decode cL_law 826 = .ok (.istore 6, 2) := by decide +kernel
theorem dL_law_828 : decode cL_law 828 = .ok (.aload_n 2, 1) := by decide +kernel
theorem dL_law_829 : decode cL_law 829 = .ok (.aload_n 0, 1) := by decide +kernel
theorem dL_law_830 : decode cL_law 830 = .ok (.iload 5, 2) := by decide +kernel
theorem dL_law_832 : decode cL_law 832 = .ok (.iconst 1, 1) := by decide +kernel
theorem dL_law_833 : decode cL_law 833 = .ok (.iadd, 1) := by decide +kernel
theorem dL_law_834 : decode cL_law 834 = .ok (.iaload, 1) := by decide +kernel
theorem dL_law_835 : decode cL_law 835 = .ok (.invokevirtual 181, 3) := by decide +kernel
theorem dL_law_838 : decode cL_law 838 = .ok (.istore 7, 2) := by decide +kernel
theorem dL_law_840 : decode cL_law 840 = .ok (.aload_n 2, 1) := by decide +kernel
theorem dL_law_841 : decode cL_law 841 = .ok (.invokevirtual 145, 3) := by decide +kernel
theorem dL_law_844 : decode cL_law 844 = .ok (.iload 6, 2) := by decide +kernel
theorem dL_law_846 : decode cL_law 846 = .ok (.if_icmp .eq 5, 3) := by decide +kernel
theorem dL_law_849 : decode cL_law 849 = .ok (.iconst 0, 1) := by decide +kernel
theorem dL_law_850 : decode cL_law 850 = .ok (.ireturn, 1) := by decide +kernel
theorem dL_law_851 : decode cL_law 851 = .ok (.iload 6, 2) := by decide +kernel
theorem dL_law_853 : decode cL_law 853 = .ok (.ifCond .ne 15, 3) := by decide +kernel
theorem dL_law_856 : decode cL_law 856 = .ok (.aload_n 3, 1) := by decide +kernel
theorem dL_law_857 : decode cL_law 857 = .ok (.iconst 0, 1) := by decide +kernel
theorem dL_law_858 : decode cL_law 858 = .ok (.laload, 1) := by decide +kernel
theorem dL_law_859 : decode cL_law 859 = .ok (.iload 7, 2) := by decide +kernel
theorem dL_law_861 : decode cL_law 861 = .ok (.i2l, 1) := by decide +kernel
theorem dL_law_862 : decode cL_law 862 = .ok (.lcmp, 1) := by decide +kernel
theorem dL_law_863 : decode cL_law 863 = .ok (.ifCond .eq 5, 3) := by decide +kernel
theorem dL_law_866 : decode cL_law 866 = .ok (.iconst 0, 1) := by decide +kernel
theorem dL_law_867 : decode cL_law 867 = .ok (.ireturn, 1) := by decide +kernel
theorem dL_law_868 : decode cL_law 868 = .ok (.goto 1342, 3) := by decide +kernel
theorem dL_law_871 : decode cL_law 871 = .ok (.aload_n 1, 1) := by decide +kernel
theorem dL_law_872 : decode cL_law 872 = .ok (.aload_n 0, 1) := by decide +kernel
theorem dL_law_873 : decode cL_law 873 = .ok (.iload 5, 2) := by decide +kernel
theorem dL_law_875 : decode cL_law 875 = .ok (.iconst 1, 1) := by decide +kernel
theorem dL_law_876 : decode cL_law 876 = .ok (.iadd, 1) := by decide +kernel
theorem dL_law_877 : decode cL_law 877 = .ok (.iaload, 1) := by decide +kernel
theorem dL_law_878 : decode cL_law 878 = .ok (.aload_n 3, 1) := by decide +kernel
theorem dL_law_879 : decode cL_law 879 = .ok (.invokestatic 182, 3) := by decide +kernel
theorem dL_law_882 : decode cL_law 882 = .ok (.istore 6, 2) := by decide +kernel
theorem dL_law_884 : decode cL_law 884 = .ok (.aload_n 2, 1) := by decide +kernel
theorem dL_law_885 : decode cL_law 885 = .ok (.aload_n 0, 1) := by decide +kernel
theorem dL_law_886 : decode cL_law 886 = .ok (.iload 5, 2) := by decide +kernel
theorem dL_law_888 : decode cL_law 888 = .ok (.iconst 1, 1) := by decide +kernel
theorem dL_law_889 : decode cL_law 889 = .ok (.iadd, 1) := by decide +kernel
theorem dL_law_890 : decode cL_law 890 = .ok (.iaload, 1) := by decide +kernel
theorem dL_law_891 : decode cL_law 891 = .ok (.invokevirtual 184, 3) := by decide +kernel
theorem dL_law_894 : decode cL_law 894 = .ok (.istore 7, 2) := by decide +kernel
theorem dL_law_896 : decode cL_law 896 = .ok (.aload_n 2, 1) := by decide +kernel
theorem dL_law_897 : decode cL_law 897 = .ok (.invokevirtual 145, 3) := by decide +kernel
theorem dL_law_900 : decode cL_law 900 = .ok (.iload 6, 2) := by decide +kernel
theorem dL_law_902 : decode cL_law 902 = .ok (.if_icmp .eq 5, 3) := by decide +kernel
theorem dL_law_905 : decode cL_law 905 = .ok (.iconst 0, 1) := by decide +kernel
theorem dL_law_906 : decode cL_law 906 = .ok (.ireturn, 1) := by decide +kernel
theorem dL_law_907 : decode cL_law 907 = .ok (.iload 6, 2) := by decide +kernel
theorem dL_law_909 : decode cL_law 909 = .ok (.ifCond .ne 15, 3) := by decide +kernel
theorem dL_law_912 : decode cL_law 912 = .ok (.aload_n 3, 1) := by decide +kernel
theorem dL_law_913 : decode cL_law 913 = .ok (.iconst 0, 1) := by decide +kernel
theorem dL_law_914 : decode cL_law 914 = .ok (.laload, 1) := by decide +kernel
theorem dL_law_915 : decode cL_law 915 = .ok (.iload 7, 2) := by decide +kernel
theorem dL_law_917 : decode cL_law 917 = .ok (.i2l, 1) := by decide +kernel
theorem dL_law_918 : decode cL_law 918 = .ok (.lcmp, 1) := by decide +kernel
theorem dL_law_919 : decode cL_law 919 = .ok (.ifCond .eq 5, 3) := by decide +kernel
theorem dL_law_922 : decode cL_law 922 = .ok (.iconst 0, 1) := by decide +kernel
theorem dL_law_923 : decode cL_law 923 = .ok (.ireturn, 1) := by decide +kernel
theorem dL_law_924 : decode cL_law 924 = .ok (.goto 1286, 3) := by decide +kernel
theorem dL_law_927 : decode cL_law 927 = .ok (.aload_n 1, 1) := by decide +kernel
theorem dL_law_928 : decode cL_law 928 = .ok (.aload_n 0, 1) := by decide +kernel
theorem dL_law_929 : decode cL_law 929 = .ok (.iload 5, 2) := by decide +kernel
theorem dL_law_931 : decode cL_law 931 = .ok (.iconst 1, 1) := by decide +kernel
theorem dL_law_932 : decode cL_law 932 = .ok (.iadd, 1) := by decide +kernel
theorem dL_law_933 : decode cL_law 933 = .ok (.iaload, 1) := by decide +kernel
theorem dL_law_934 : decode cL_law 934 = .ok (.aload_n 3, 1) := by decide +kernel
theorem dL_law_935 : decode cL_law 935 = .ok (.invokestatic 185, 3) := by decide +kernel
theorem dL_law_938 : decode cL_law 938 = .ok (.istore 6, 2) := by decide +kernel
theorem dL_law_940 : decode cL_law 940 = .ok (.aload_n 2, 1) := by decide +kernel
theorem dL_law_941 : decode cL_law 941 = .ok (.aload_n 0, 1) := by decide +kernel
theorem dL_law_942 : decode cL_law 942 = .ok (.iload 5, 2) := by decide +kernel
theorem dL_law_944 : decode cL_law 944 = .ok (.iconst 1, 1) := by decide +kernel
theorem dL_law_945 : decode cL_law 945 = .ok (.iadd, 1) := by decide +kernel
theorem dL_law_946 : decode cL_law 946 = .ok (.iaload, 1) := by decide +kernel
theorem dL_law_947 : decode cL_law 947 = .ok (.invokevirtual 187, 3) := by decide +kernel
theorem dL_law_950 : decode cL_law 950 = .ok (.istore 7, 2) := by decide +kernel
theorem dL_law_952 : decode cL_law 952 = .ok (.aload_n 2, 1) := by decide +kernel
theorem dL_law_953 : decode cL_law 953 = .ok (.invokevirtual 145, 3) := by decide +kernel
theorem dL_law_956 : decode cL_law 956 = .ok (.iload 6, 2) := by decide +kernel
theorem dL_law_958 : decode cL_law 958 = .ok (.if_icmp .eq 5, 3) := by decide +kernel
theorem dL_law_961 : decode cL_law 961 = .ok (.iconst 0, 1) := by decide +kernel
theorem dL_law_962 : decode cL_law 962 = .ok (.ireturn, 1) := by decide +kernel
theorem dL_law_963 : decode cL_law 963 = .ok (.iload 6, 2) := by decide +kernel
theorem dL_law_965 : decode cL_law 965 = .ok (.ifCond .ne 15, 3) := by decide +kernel
theorem dL_law_968 : decode cL_law 968 = .ok (.aload_n 3, 1) := by decide +kernel
theorem dL_law_969 : decode cL_law 969 = .ok (.iconst 0, 1) := by decide +kernel
theorem dL_law_970 : decode cL_law 970 = .ok (.laload, 1) := by decide +kernel
theorem dL_law_971 : decode cL_law 971 = .ok (.iload 7, 2) := by decide +kernel
theorem dL_law_973 : decode cL_law 973 = .ok (.i2l, 1) := by decide +kernel
theorem dL_law_974 : decode cL_law 974 = .ok (.lcmp, 1) := by decide +kernel
theorem dL_law_975 : decode cL_law 975 = .ok (.ifCond .eq 5, 3) := by decide +kernel
theorem dL_law_978 : decode cL_law 978 = .ok (.iconst 0, 1) := by decide +kernel
theorem dL_law_979 : decode cL_law 979 = .ok (.ireturn, 1) := by decide +kernel
theorem dL_law_980 : decode cL_law 980 = .ok (.goto 1230, 3) := by decide +kernel
theorem dL_law_983 : decode cL_law 983 = .ok (.aload_n 1, 1) := by decide +kernel
theorem dL_law_984 : decode cL_law 984 = .ok (.invokevirtual 188, 3) := by decide +kernel
theorem dL_law_987 : decode cL_law 987 = .ok (.aload_n 2, 1) := by decide +kernel
theorem dL_law_988 : decode cL_law 988 = .ok (.invokevirtual 191, 3) := by decide +kernel
theorem dL_law_991 : decode cL_law 991 = .ok (.if_icmp .eq 1219, 3) := by decide +kernel
theorem dL_law_994 : decode cL_law 994 = .ok (.iconst 0, 1) := by decide +kernel
theorem dL_law_995 : decode cL_law 995 = .ok (.ireturn, 1) := by decide +kernel
theorem dL_law_996 : decode cL_law 996 = .ok (.aload_n 1, 1) := by decide +kernel
theorem dL_law_997 : decode cL_law 997 = .ok (.invokevirtual 192, 3) := by decide +kernel
theorem dL_law_1000 : decode cL_law 1000 = .ok (.aload_n 2, 1) := by decide +kernel
theorem dL_law_1001 : decode cL_law 1001 = .ok (.invokevirtual 195, 3) := by decide +kernel
theorem dL_law_1004 : decode cL_law 1004 = .ok (.if_icmp .eq 1206, 3) := by decide +kernel
theorem dL_law_1007 : decode cL_law 1007 = .ok (.iconst 0, 1) := by decide +kernel
theorem dL_law_1008 : decode cL_law 1008 = .ok (.ireturn, 1) := by decide +kernel
theorem dL_law_1009 : decode cL_law 1009 = .ok (.aload_n 1, 1) := by decide +kernel
theorem dL_law_1010 : decode cL_law 1010 = .ok (.invokevirtual 196, 3) := by decide +kernel
theorem dL_law_1013 : decode cL_law 1013 = .ok (.aload_n 2, 1) := by decide +kernel
theorem dL_law_1014 : decode cL_law 1014 = .ok (.invokevirtual 199, 3) := by decide +kernel
theorem dL_law_1017 : decode cL_law 1017 = .ok (.if_icmp .eq 1193, 3) := by decide +kernel
theorem dL_law_1020 : decode cL_law 1020 = .ok (.iconst 0, 1) := by decide +kernel
theorem dL_law_1021 : decode cL_law 1021 = .ok (.ireturn, 1) := by decide +kernel
theorem dL_law_1022 : decode cL_law 1022 = .ok (.aload_n 1, 1) := by decide +kernel
theorem dL_law_1023 : decode cL_law 1023 = .ok (.aload_n 0, 1) := by decide +kernel
theorem dL_law_1024 : decode cL_law 1024 = .ok (.iload 5, 2) := by decide +kernel
theorem dL_law_1026 : decode cL_law 1026 = .ok (.iconst 1, 1) := by decide +kernel
theorem dL_law_1027 : decode cL_law 1027 = .ok (.iadd, 1) := by decide +kernel
theorem dL_law_1028 : decode cL_law 1028 = .ok (.iaload, 1) := by decide +kernel
theorem dL_law_1029 : decode cL_law 1029 = .ok (.aload_n 3, 1) := by decide +kernel
theorem dL_law_1030 : decode cL_law 1030 = .ok (.invokestatic 200, 3) := by decide +kernel
theorem dL_law_1033 : decode cL_law 1033 = .ok (.istore 6, 2) := by decide +kernel
theorem dL_law_1035 : decode cL_law 1035 = .ok (.aload_n 2, 1) := by decide +kernel
theorem dL_law_1036 : decode cL_law 1036 = .ok (.aload_n 0, 1) := by decide +kernel
theorem dL_law_1037 : decode cL_law 1037 = .ok (.iload 5, 2) := by decide +kernel
theorem dL_law_1039 : decode cL_law 1039 = .ok (.iconst 1, 1) := by decide +kernel
theorem dL_law_1040 : decode cL_law 1040 = .ok (.iadd, 1) := by decide +kernel
theorem dL_law_1041 : decode cL_law 1041 = .ok (.iaload, 1) := by decide +kernel
theorem dL_law_1042 : decode cL_law 1042 = .ok (.invokevirtual 202, 3) := by decide +kernel
theorem dL_law_1045 : decode cL_law 1045 = .ok (.istore 7, 2) := by decide +kernel
theorem dL_law_1047 : decode cL_law 1047 = .ok (.aload_n 2, 1) := by decide +kernel
theorem dL_law_1048 : decode cL_law 1048 = .ok (.invokevirtual 145, 3) := by decide +kernel
theorem dL_law_1051 : decode cL_law 1051 = .ok (.iload 6, 2) := by decide +kernel
theorem dL_law_1053 : decode cL_law 1053 = .ok (.if_icmp .eq 5, 3) := by decide +kernel
theorem dL_law_1056 : decode cL_law 1056 = .ok (.iconst 0, 1) := by decide +kernel
theorem dL_law_1057 : decode cL_law 1057 = .ok (.ireturn, 1) := by decide +kernel
theorem dL_law_1058 : decode cL_law 1058 = .ok (.iload 6, 2) := by decide +kernel
theorem dL_law_1060 : decode cL_law 1060 = .ok (.ifCond .ne 15, 3) := by decide +kernel
theorem dL_law_1063 : decode cL_law 1063 = .ok (.aload_n 3, 1) := by decide +kernel
theorem dL_law_1064 : decode cL_law 1064 = .ok (.iconst 0, 1) := by decide +kernel
theorem dL_law_1065 : decode cL_law 1065 = .ok (.laload, 1) := by decide +kernel
theorem dL_law_1066 : decode cL_law 1066 = .ok (.iload 7, 2) := by decide +kernel
theorem dL_law_1068 : decode cL_law 1068 = .ok (.i2l, 1) := by decide +kernel
theorem dL_law_1069 : decode cL_law 1069 = .ok (.lcmp, 1) := by decide +kernel
theorem dL_law_1070 : decode cL_law 1070 = .ok (.ifCond .eq 5, 3) := by decide +kernel
theorem dL_law_1073 : decode cL_law 1073 = .ok (.iconst 0, 1) := by decide +kernel
theorem dL_law_1074 : decode cL_law 1074 = .ok (.ireturn, 1) := by decide +kernel
theorem dL_law_1075 : decode cL_law 1075 = .ok (.goto 1135, 3) := by decide +kernel
theorem dL_law_1078 : decode cL_law 1078 = .ok (.aload_n 1, 1) := by decide +kernel
theorem dL_law_1079 : decode cL_law 1079 = .ok (.aload_n 0, 1) := by decide +kernel
theorem dL_law_1080 : decode cL_law 1080 = .ok (.iload 5, 2) := by decide +kernel
theorem dL_law_1082 : decode cL_law 1082 = .ok (.iconst 1, 1) := by decide +kernel
theorem dL_law_1083 : decode cL_law 1083 = .ok (.iadd, 1) := by decide +kernel
theorem dL_law_1084 : decode cL_law 1084 = .ok (.iaload, 1) := by decide +kernel
theorem dL_law_1085 : decode cL_law 1085 = .ok (.aload_n 0, 1) := by decide +kernel
theorem dL_law_1086 : decode cL_law 1086 = .ok (.iload 5, 2) := by decide +kernel
theorem dL_law_1088 : decode cL_law 1088 = .ok (.iconst 2, 1) := by decide +kernel
theorem dL_law_1089 : decode cL_law 1089 = .ok (.iadd, 1) := by decide +kernel
theorem dL_law_1090 : decode cL_law 1090 = .ok (.iaload, 1) := by decide +kernel
theorem dL_law_1091 : decode cL_law 1091 = .ok (.aload_n 0, 1) := by decide +kernel
theorem dL_law_1092 : decode cL_law 1092 = .ok (.iload 5, 2) := by decide +kernel
theorem dL_law_1094 : decode cL_law 1094 = .ok (.iconst 3, 1) := by decide +kernel
theorem dL_law_1095 : decode cL_law 1095 = .ok (.iadd, 1) := by decide +kernel
theorem dL_law_1096 : decode cL_law 1096 = .ok (.iaload, 1) := by decide +kernel
theorem dL_law_1097 : decode cL_law 1097 = .ok (.aload_n 3, 1) := by decide +kernel
theorem dL_law_1098 : decode cL_law 1098 = .ok (.invokestatic 203, 3) := by decide +kernel
theorem dL_law_1101 : decode cL_law 1101 = .ok (.istore 6, 2) := by decide +kernel
theorem dL_law_1103 : decode cL_law 1103 = .ok (.aload_n 2, 1) := by decide +kernel
theorem dL_law_1104 : decode cL_law 1104 = .ok (.aload_n 0, 1) := by decide +kernel
theorem dL_law_1105 : decode cL_law 1105 = .ok (.iload 5, 2) := by decide +kernel
theorem dL_law_1107 : decode cL_law 1107 = .ok (.iconst 1, 1) := by decide +kernel
theorem dL_law_1108 : decode cL_law 1108 = .ok (.iadd, 1) := by decide +kernel
theorem dL_law_1109 : decode cL_law 1109 = .ok (.iaload, 1) := by decide +kernel
theorem dL_law_1110 : decode cL_law 1110 = .ok (.aload_n 0, 1) := by decide +kernel
theorem dL_law_1111 : decode cL_law 1111 = .ok (.iload 5, 2) := by decide +kernel
theorem dL_law_1113 : decode cL_law 1113 = .ok (.iconst 2, 1) := by decide +kernel
theorem dL_law_1114 : decode cL_law 1114 = .ok (.iadd, 1) := by decide +kernel
theorem dL_law_1115 : decode cL_law 1115 = .ok (.iaload, 1) := by decide +kernel
theorem dL_law_1116 : decode cL_law 1116 = .ok (.aload_n 0, 1) := by decide +kernel
theorem dL_law_1117 : decode cL_law 1117 = .ok (.iload 5, 2) := by decide +kernel
theorem dL_law_1119 : decode cL_law 1119 = .ok (.iconst 3, 1) := by decide +kernel
theorem dL_law_1120 : decode cL_law 1120 = .ok (.iadd, 1) := by decide +kernel
theorem dL_law_1121 : decode cL_law 1121 = .ok (.iaload, 1) := by decide +kernel
theorem dL_law_1122 : decode cL_law 1122 = .ok (.invokevirtual 206, 3) := by decide +kernel
theorem dL_law_1125 : decode cL_law 1125 = .ok (.istore 7, 2) := by decide +kernel
theorem dL_law_1127 : decode cL_law 1127 = .ok (.aload_n 2, 1) := by decide +kernel
theorem dL_law_1128 : decode cL_law 1128 = .ok (.invokevirtual 145, 3) := by decide +kernel
theorem dL_law_1131 : decode cL_law 1131 = .ok (.iload 6, 2) := by decide +kernel
theorem dL_law_1133 : decode cL_law 1133 = .ok (.if_icmp .eq 5, 3) := by decide +kernel
theorem dL_law_1136 : decode cL_law 1136 = .ok (.iconst 0, 1) := by decide +kernel
theorem dL_law_1137 : decode cL_law 1137 = .ok (.ireturn, 1) := by decide +kernel
theorem dL_law_1138 : decode cL_law 1138 = .ok (.iload 6, 2) := by decide +kernel
theorem dL_law_1140 : decode cL_law 1140 = .ok (.ifCond .ne 15, 3) := by decide +kernel
theorem dL_law_1143 : decode cL_law 1143 = .ok (.aload_n 3, 1) := by decide +kernel
theorem dL_law_1144 : decode cL_law 1144 = .ok (.iconst 0, 1) := by decide +kernel
theorem dL_law_1145 : decode cL_law 1145 = .ok (.laload, 1) := by decide +kernel
theorem dL_law_1146 : decode cL_law 1146 = .ok (.iload 7, 2) := by decide +kernel
theorem dL_law_1148 : decode cL_law 1148 = .ok (.i2l, 1) := by decide +kernel
theorem dL_law_1149 : decode cL_law 1149 = .ok (.lcmp, 1) := by decide +kernel
theorem dL_law_1150 : decode cL_law 1150 = .ok (.ifCond .eq 5, 3) := by decide +kernel
theorem dL_law_1153 : decode cL_law 1153 = .ok (.iconst 0, 1) := by decide +kernel
theorem dL_law_1154 : decode cL_law 1154 = .ok (.ireturn, 1) := by decide +kernel
theorem dL_law_1155 : decode cL_law 1155 = .ok (.goto 1055, 3) := by decide +kernel
theorem dL_law_1158 : decode cL_law 1158 = .ok (.aload_n 1, 1) := by decide +kernel
theorem dL_law_1159 : decode cL_law 1159 = .ok (.aload_n 0, 1) := by decide +kernel
theorem dL_law_1160 : decode cL_law 1160 = .ok (.iload 5, 2) := by decide +kernel
theorem dL_law_1162 : decode cL_law 1162 = .ok (.iconst 1, 1) := by decide +kernel
theorem dL_law_1163 : decode cL_law 1163 = .ok (.iadd, 1) := by decide +kernel
theorem dL_law_1164 : decode cL_law 1164 = .ok (.iaload, 1) := by decide +kernel
theorem dL_law_1165 : decode cL_law 1165 = .ok (.aload_n 3, 1) := by decide +kernel
theorem dL_law_1166 : decode cL_law 1166 = .ok (.invokestatic 207, 3) := by decide +kernel
theorem dL_law_1169 : decode cL_law 1169 = .ok (.istore 6, 2) := by decide +kernel
theorem dL_law_1171 : decode cL_law 1171 = .ok (.aload_n 2, 1) := by decide +kernel
theorem dL_law_1172 : decode cL_law 1172 = .ok (.aload_n 0, 1) := by decide +kernel
theorem dL_law_1173 : decode cL_law 1173 = .ok (.iload 5, 2) := by decide +kernel
theorem dL_law_1175 : decode cL_law 1175 = .ok (.iconst 1, 1) := by decide +kernel
theorem dL_law_1176 : decode cL_law 1176 = .ok (.iadd, 1) := by decide +kernel
theorem dL_law_1177 : decode cL_law 1177 = .ok (.iaload, 1) := by decide +kernel
theorem dL_law_1178 : decode cL_law 1178 = .ok (.invokevirtual 209, 3) := by decide +kernel
theorem dL_law_1181 : decode cL_law 1181 = .ok (.istore 7, 2) := by decide +kernel
theorem dL_law_1183 : decode cL_law 1183 = .ok (.aload_n 2, 1) := by decide +kernel
theorem dL_law_1184 : decode cL_law 1184 = .ok (.invokevirtual 145, 3) := by decide +kernel
theorem dL_law_1187 : decode cL_law 1187 = .ok (.iload 6, 2) := by decide +kernel
theorem dL_law_1189 : decode cL_law 1189 = .ok (.if_icmp .eq 5, 3) := by decide +kernel
theorem dL_law_1192 : decode cL_law 1192 = .ok (.iconst 0, 1) := by decide +kernel
theorem dL_law_1193 : decode cL_law 1193 = .ok (.ireturn, 1) := by decide +kernel
theorem dL_law_1194 : decode cL_law 1194 = .ok (.iload 6, 2) := by decide +kernel
theorem dL_law_1196 : decode cL_law 1196 = .ok (.ifCond .ne 15, 3) := by decide +kernel
theorem dL_law_1199 : decode cL_law 1199 = .ok (.aload_n 3, 1) := by decide +kernel
theorem dL_law_1200 : decode cL_law 1200 = .ok (.iconst 0, 1) := by decide +kernel
theorem dL_law_1201 : decode cL_law 1201 = .ok (.laload, 1) := by decide +kernel
theorem dL_law_1202 : decode cL_law 1202 = .ok (.iload 7, 2) := by decide +kernel
theorem dL_law_1204 : decode cL_law 1204 = .ok (.i2l, 1) := by decide +kernel
theorem dL_law_1205 : decode cL_law 1205 = .ok (.lcmp, 1) := by decide +kernel
theorem dL_law_1206 : decode cL_law 1206 = .ok (.ifCond .eq 5, 3) := by decide +kernel
theorem dL_law_1209 : decode cL_law 1209 = .ok (.iconst 0, 1) := by decide +kernel
theorem dL_law_1210 : decode cL_law 1210 = .ok (.ireturn, 1) := by decide +kernel
theorem dL_law_1211 : decode cL_law 1211 = .ok (.goto 999, 3) := by decide +kernel
theorem dL_law_1214 : decode cL_law 1214 = .ok (.aload_n 1, 1) := by decide +kernel
theorem dL_law_1215 : decode cL_law 1215 = .ok (.aload_n 3, 1) := by decide +kernel
theorem dL_law_1216 : decode cL_law 1216 = .ok (.invokestatic 210, 3) := by decide +kernel
theorem dL_law_1219 : decode cL_law 1219 = .ok (.istore 6, 2) := by decide +kernel
theorem dL_law_1221 : decode cL_law 1221 = .ok (.aload_n 2, 1) := by decide +kernel
theorem dL_law_1222 : decode cL_law 1222 = .ok (.invokevirtual 213, 3) := by decide +kernel
theorem dL_law_1225 : decode cL_law 1225 = .ok (.istore 7, 2) := by decide +kernel
theorem dL_law_1227 : decode cL_law 1227 = .ok (.aload_n 2, 1) := by decide +kernel
theorem dL_law_1228 : decode cL_law 1228 = .ok (.invokevirtual 145, 3) := by decide +kernel
theorem dL_law_1231 : decode cL_law 1231 = .ok (.iload 6, 2) := by decide +kernel
theorem dL_law_1233 : decode cL_law 1233 = .ok (.if_icmp .eq 5, 3) := by decide +kernel
theorem dL_law_1236 : decode cL_law 1236 = .ok (.iconst 0, 1) := by decide +kernel
theorem dL_law_1237 : decode cL_law 1237 = .ok (.ireturn, 1) := by decide +kernel
theorem dL_law_1238 : decode cL_law 1238 = .ok (.iload 6, 2) := by decide +kernel
theorem dL_law_1240 : decode cL_law 1240 = .ok (.ifCond .ne 15, 3) := by decide +kernel
theorem dL_law_1243 : decode cL_law 1243 = .ok (.aload_n 3, 1) := by decide +kernel
theorem dL_law_1244 : decode cL_law 1244 = .ok (.iconst 0, 1) := by decide +kernel
theorem dL_law_1245 : decode cL_law 1245 = .ok (.laload, 1) := by decide +kernel
theorem dL_law_1246 : decode cL_law 1246 = .ok (.iload 7, 2) := by decide +kernel
theorem dL_law_1248 : decode cL_law 1248 = .ok (.i2l, 1) := by decide +kernel
theorem dL_law_1249 : decode cL_law 1249 = .ok (.lcmp, 1) := by decide +kernel
theorem dL_law_1250 : decode cL_law 1250 = .ok (.ifCond .eq 5, 3) := by decide +kernel
theorem dL_law_1253 : decode cL_law 1253 = .ok (.iconst 0, 1) := by decide +kernel
theorem dL_law_1254 : decode cL_law 1254 = .ok (.ireturn, 1) := by decide +kernel
theorem dL_law_1255 : decode cL_law 1255 = .ok (.goto 955, 3) := by decide +kernel
theorem dL_law_1258 : decode cL_law 1258 = .ok (.aload_n 1, 1) := by decide +kernel
theorem dL_law_1259 : decode cL_law 1259 = .ok (.invokevirtual 214, 3) := by decide +kernel
theorem dL_law_1262 : decode cL_law 1262 = .ok (.aload_n 2, 1) := by decide +kernel
theorem dL_law_1263 : decode cL_law 1263 = .ok (.invokevirtual 217, 3) := by decide +kernel
theorem dL_law_1266 : decode cL_law 1266 = .ok (.if_icmp .eq 944, 3) := by decide +kernel
theorem dL_law_1269 : decode cL_law 1269 = .ok (.iconst 0, 1) := by decide +kernel
theorem dL_law_1270 : decode cL_law 1270 = .ok (.ireturn, 1) := by decide +kernel
theorem dL_law_1271 : decode cL_law 1271 = .ok (.aload_n 1, 1) := by decide +kernel
theorem dL_law_1272 : decode cL_law 1272 = .ok (.aload_n 0, 1) := by decide +kernel
theorem dL_law_1273 : decode cL_law 1273 = .ok (.iload 5, 2) := by decide +kernel
theorem dL_law_1275 : decode cL_law 1275 = .ok (.iconst 1, 1) := by decide +kernel
theorem dL_law_1276 : decode cL_law 1276 = .ok (.iadd, 1) := by decide +kernel
theorem dL_law_1277 : decode cL_law 1277 = .ok (.iaload, 1) := by decide +kernel
theorem dL_law_1278 : decode cL_law 1278 = .ok (.invokestatic 218, 3) := by decide +kernel
theorem dL_law_1281 : decode cL_law 1281 = .ok (.istore 6, 2) := by decide +kernel
theorem dL_law_1283 : decode cL_law 1283 = .ok (.aload_n 2, 1) := by decide +kernel
theorem dL_law_1284 : decode cL_law 1284 = .ok (.aload_n 0, 1) := by decide +kernel
theorem dL_law_1285 : decode cL_law 1285 = .ok (.iload 5, 2) := by decide +kernel
theorem dL_law_1287 : decode cL_law 1287 = .ok (.iconst 1, 1) := by decide +kernel
theorem dL_law_1288 : decode cL_law 1288 = .ok (.iadd, 1) := by decide +kernel
theorem dL_law_1289 : decode cL_law 1289 = .ok (.iaload, 1) := by decide +kernel
theorem dL_law_1290 : decode cL_law 1290 = .ok (.invokevirtual 221, 3) := by decide +kernel
theorem dL_law_1293 : decode cL_law 1293 = .ok (.aload_n 2, 1) := by decide +kernel
theorem dL_law_1294 : decode cL_law 1294 = .ok (.invokevirtual 145, 3) := by decide +kernel
theorem dL_law_1297 : decode cL_law 1297 = .ok (.iload 6, 2) := by decide +kernel
theorem dL_law_1299 : decode cL_law 1299 = .ok (.if_icmp .eq 5, 3) := by decide +kernel
theorem dL_law_1302 : decode cL_law 1302 = .ok (.iconst 0, 1) := by decide +kernel
theorem dL_law_1303 : decode cL_law 1303 = .ok (.ireturn, 1) := by decide +kernel
theorem dL_law_1304 : decode cL_law 1304 = .ok (.goto 906, 3) := by decide +kernel
theorem dL_law_1307 : decode cL_law 1307 = .ok (.aload_n 1, 1) := by decide +kernel
theorem dL_law_1308 : decode cL_law 1308 = .ok (.aload_n 3, 1) := by decide +kernel
theorem dL_law_1309 : decode cL_law 1309 = .ok (.invokestatic 222, 3) := by decide +kernel
theorem dL_law_1312 : decode cL_law 1312 = .ok (.istore 6, 2) := by decide +kernel
theorem dL_law_1314 : decode cL_law 1314 = .ok (.aload_n 2, 1) := by decide +kernel
theorem dL_law_1315 : decode cL_law 1315 = .ok (.invokevirtual 224, 3) := by decide +kernel
theorem dL_law_1318 : decode cL_law 1318 = .ok (.istore 7, 2) := by decide +kernel
theorem dL_law_1320 : decode cL_law 1320 = .ok (.aload_n 2, 1) := by decide +kernel
theorem dL_law_1321 : decode cL_law 1321 = .ok (.invokevirtual 145, 3) := by decide +kernel
theorem dL_law_1324 : decode cL_law 1324 = .ok (.iload 6, 2) := by decide +kernel
theorem dL_law_1326 : decode cL_law 1326 = .ok (.if_icmp .eq 5, 3) := by decide +kernel
theorem dL_law_1329 : decode cL_law 1329 = .ok (.iconst 0, 1) := by decide +kernel
theorem dL_law_1330 : decode cL_law 1330 = .ok (.ireturn, 1) := by decide +kernel
theorem dL_law_1331 : decode cL_law 1331 = .ok (.iload 6, 2) := by decide +kernel
theorem dL_law_1333 : decode cL_law 1333 = .ok (.ifCond .ne 15, 3) := by decide +kernel
theorem dL_law_1336 : decode cL_law 1336 = .ok (.aload_n 3, 1) := by decide +kernel
theorem dL_law_1337 : decode cL_law 1337 = .ok (.iconst 0, 1) := by decide +kernel
theorem dL_law_1338 : decode cL_law 1338 = .ok (.laload, 1) := by decide +kernel
theorem dL_law_1339 : decode cL_law 1339 = .ok (.iload 7, 2) := by decide +kernel
theorem dL_law_1341 : decode cL_law 1341 = .ok (.i2l, 1) := by decide +kernel
theorem dL_law_1342 : decode cL_law 1342 = .ok (.lcmp, 1) := by decide +kernel
theorem dL_law_1343 : decode cL_law 1343 = .ok (.ifCond .eq 5, 3) := by decide +kernel
theorem dL_law_1346 : decode cL_law 1346 = .ok (.iconst 0, 1) := by decide +kernel
theorem dL_law_1347 : decode cL_law 1347 = .ok (.ireturn, 1) := by decide +kernel
theorem dL_law_1348 : decode cL_law 1348 = .ok (.goto 862, 3) := by decide +kernel
theorem dL_law_1351 : decode cL_law 1351 = .ok (.aload_n 1, 1) := by decide +kernel
theorem dL_law_1352 : decode cL_law 1352 = .ok (.aload_n 3, 1) := by decide +kernel
theorem dL_law_1353 : decode cL_law 1353 = .ok (.invokestatic 225, 3) := by decide +kernel
theorem dL_law_1356 : decode cL_law 1356 = .ok (.istore 6, 2) := by decide +kernel
theorem dL_law_1358 : decode cL_law 1358 = .ok (.aload_n 2, 1) := by decide +kernel
theorem dL_law_1359 : decode cL_law 1359 = .ok (.invokevirtual 227, 3) := by decide +kernel
theorem dL_law_1362 : decode cL_law 1362 = .ok (.istore 7, 2) := by decide +kernel
theorem dL_law_1364 : decode cL_law 1364 = .ok (.aload_n 2, 1) := by decide +kernel
theorem dL_law_1365 : decode cL_law 1365 = .ok (.invokevirtual 145, 3) := by decide +kernel
theorem dL_law_1368 : decode cL_law 1368 = .ok (.iload 6, 2) := by decide +kernel
theorem dL_law_1370 : decode cL_law 1370 = .ok (.if_icmp .eq 5, 3) := by decide +kernel
theorem dL_law_1373 : decode cL_law 1373 = .ok (.iconst 0, 1) := by decide +kernel
theorem dL_law_1374 : decode cL_law 1374 = .ok (.ireturn, 1) := by decide +kernel
theorem dL_law_1375 : decode cL_law 1375 = .ok (.iload 6, 2) := by decide +kernel
theorem dL_law_1377 : decode cL_law 1377 = .ok (.ifCond .ne 15, 3) := by decide +kernel
theorem dL_law_1380 : decode cL_law 1380 = .ok (.aload_n 3, 1) := by decide +kernel
theorem dL_law_1381 : decode cL_law 1381 = .ok (.iconst 0, 1) := by decide +kernel
theorem dL_law_1382 : decode cL_law 1382 = .ok (.laload, 1) := by decide +kernel
theorem dL_law_1383 : decode cL_law 1383 = .ok (.iload 7, 2) := by decide +kernel
theorem dL_law_1385 : decode cL_law 1385 = .ok (.i2l, 1) := by decide +kernel
theorem dL_law_1386 : decode cL_law 1386 = .ok (.lcmp, 1) := by decide +kernel
theorem dL_law_1387 : decode cL_law 1387 = .ok (.ifCond .eq 5, 3) := by decide +kernel
theorem dL_law_1390 : decode cL_law 1390 = .ok (.iconst 0, 1) := by decide +kernel
theorem dL_law_1391 : decode cL_law 1391 = .ok (.ireturn, 1) := by decide +kernel
theorem dL_law_1392 : decode cL_law 1392 = .ok (.goto 818, 3) := by decide +kernel
theorem dL_law_1395 : decode cL_law 1395 = .ok (.aload_n 1, 1) := by decide +kernel
theorem dL_law_1396 : decode cL_law 1396 = .ok (.aload_n 0, 1) := by decide +kernel
theorem dL_law_1397 : decode cL_law 1397 = .ok (.iload 5, 2) := by decide +kernel
theorem dL_law_1399 : decode cL_law 1399 = .ok (.iconst 1, 1) := by decide +kernel
theorem dL_law_1400 : decode cL_law 1400 = .ok (.iadd, 1) := by decide +kernel
theorem dL_law_1401 : decode cL_law 1401 = .ok (.iaload, 1) := by decide +kernel
theorem dL_law_1402 : decode cL_law 1402 = .ok (.aload_n 3, 1) := by decide +kernel
theorem dL_law_1403 : decode cL_law 1403 = .ok (.invokestatic 228, 3) := by decide +kernel
theorem dL_law_1406 : decode cL_law 1406 = .ok (.istore 6, 2) := by decide +kernel
theorem dL_law_1408 : decode cL_law 1408 = .ok (.aload_n 2, 1) := by decide +kernel
theorem dL_law_1409 : decode cL_law 1409 = .ok (.aload_n 0, 1) := by decide +kernel
theorem dL_law_1410 : decode cL_law 1410 = .ok (.iload 5, 2) := by decide +kernel
theorem dL_law_1412 : decode cL_law 1412 = .ok (.iconst 1, 1) := by decide +kernel
theorem dL_law_1413 : decode cL_law 1413 = .ok (.iadd, 1) := by decide +kernel
theorem dL_law_1414 : decode cL_law 1414 = .ok (.iaload, 1) := by decide +kernel
theorem dL_law_1415 : decode cL_law 1415 = .ok (.invokevirtual 230, 3) := by decide +kernel
theorem dL_law_1418 : decode cL_law 1418 = .ok (.istore 7, 2) := by decide +kernel
theorem dL_law_1420 : decode cL_law 1420 = .ok (.aload_n 2, 1) := by decide +kernel
theorem dL_law_1421 : decode cL_law 1421 = .ok (.invokevirtual 145, 3) := by decide +kernel
theorem dL_law_1424 : decode cL_law 1424 = .ok (.iload 6, 2) := by decide +kernel
theorem dL_law_1426 : decode cL_law 1426 = .ok (.if_icmp .eq 5, 3) := by decide +kernel
theorem dL_law_1429 : decode cL_law 1429 = .ok (.iconst 0, 1) := by decide +kernel
theorem dL_law_1430 : decode cL_law 1430 = .ok (.ireturn, 1) := by decide +kernel
theorem dL_law_1431 : decode cL_law 1431 = .ok (.iload 6, 2) := by decide +kernel
theorem dL_law_1433 : decode cL_law 1433 = .ok (.ifCond .ne 15, 3) := by decide +kernel
theorem dL_law_1436 : decode cL_law 1436 = .ok (.aload_n 3, 1) := by decide +kernel
theorem dL_law_1437 : decode cL_law 1437 = .ok (.iconst 0, 1) := by decide +kernel
theorem dL_law_1438 : decode cL_law 1438 = .ok (.laload, 1) := by decide +kernel
theorem dL_law_1439 : decode cL_law 1439 = .ok (.iload 7, 2) := by decide +kernel
theorem dL_law_1441 : decode cL_law 1441 = .ok (.i2l, 1) := by decide +kernel
theorem dL_law_1442 : decode cL_law 1442 = .ok (.lcmp, 1) := by decide +kernel
theorem dL_law_1443 : decode cL_law 1443 = .ok (.ifCond .eq 5, 3) := by decide +kernel
theorem dL_law_1446 : decode cL_law 1446 = .ok (.iconst 0, 1) := by decide +kernel
theorem dL_law_1447 : decode cL_law 1447 = .ok (.ireturn, 1) := by decide +kernel
theorem dL_law_1448 : decode cL_law 1448 = .ok (.goto 762, 3) := by decide +kernel
theorem dL_law_1451 : decode cL_law 1451 = .ok (.aload_n 1, 1) := by decide +kernel
theorem dL_law_1452 : decode cL_law 1452 = .ok (.aload_n 3, 1) := by decide +kernel
theorem dL_law_1453 : decode cL_law 1453 = .ok (.invokestatic 231, 3) := by decide +kernel
theorem dL_law_1456 : decode cL_law 1456 = .ok (.istore 6, 2) := by decide +kernel
theorem dL_law_1458 : decode cL_law 1458 = .ok (.aload_n 2, 1) := by decide +kernel
theorem dL_law_1459 : decode cL_law 1459 = .ok (.invokevirtual 233, 3) := by decide +kernel
theorem dL_law_1462 : decode cL_law 1462 = .ok (.istore 7, 2) := by decide +kernel
theorem dL_law_1464 : decode cL_law 1464 = .ok (.aload_n 2, 1) := by decide +kernel
theorem dL_law_1465 : decode cL_law 1465 = .ok (.invokevirtual 145, 3) := by decide +kernel
theorem dL_law_1468 : decode cL_law 1468 = .ok (.iload 6, 2) := by decide +kernel
theorem dL_law_1470 : decode cL_law 1470 = .ok (.if_icmp .eq 5, 3) := by decide +kernel
theorem dL_law_1473 : decode cL_law 1473 = .ok (.iconst 0, 1) := by decide +kernel
theorem dL_law_1474 : decode cL_law 1474 = .ok (.ireturn, 1) := by decide +kernel
theorem dL_law_1475 : decode cL_law 1475 = .ok (.iload 6, 2) := by decide +kernel
theorem dL_law_1477 : decode cL_law 1477 = .ok (.ifCond .ne 15, 3) := by decide +kernel
theorem dL_law_1480 : decode cL_law 1480 = .ok (.aload_n 3, 1) := by decide +kernel
theorem dL_law_1481 : decode cL_law 1481 = .ok (.iconst 0, 1) := by decide +kernel
theorem dL_law_1482 : decode cL_law 1482 = .ok (.laload, 1) := by decide +kernel
theorem dL_law_1483 : decode cL_law 1483 = .ok (.iload 7, 2) := by decide +kernel
theorem dL_law_1485 : decode cL_law 1485 = .ok (.i2l, 1) := by decide +kernel
theorem dL_law_1486 : decode cL_law 1486 = .ok (.lcmp, 1) := by decide +kernel
theorem dL_law_1487 : decode cL_law 1487 = .ok (.ifCond .eq 5, 3) := by decide +kernel
theorem dL_law_1490 : decode cL_law 1490 = .ok (.iconst 0, 1) := by decide +kernel
theorem dL_law_1491 : decode cL_law 1491 = .ok (.ireturn, 1) := by decide +kernel
theorem dL_law_1492 : decode cL_law 1492 = .ok (.goto 718, 3) := by decide +kernel
theorem dL_law_1495 : decode cL_law 1495 = .ok (.aload_n 1, 1) := by decide +kernel
theorem dL_law_1496 : decode cL_law 1496 = .ok (.invokevirtual 234, 3) := by decide +kernel
theorem dL_law_1499 : decode cL_law 1499 = .ok (.aload_n 2, 1) := by decide +kernel
theorem dL_law_1500 : decode cL_law 1500 = .ok (.invokevirtual 237, 3) := by decide +kernel
theorem dL_law_1503 : decode cL_law 1503 = .ok (.if_icmp .eq 707, 3) := by decide +kernel
theorem dL_law_1506 : decode cL_law 1506 = .ok (.iconst 0, 1) := by decide +kernel
theorem dL_law_1507 : decode cL_law 1507 = .ok (.ireturn, 1) := by decide +kernel
theorem dL_law_1508 : decode cL_law 1508 = .ok (.aload_n 1, 1) := by decide +kernel
theorem dL_law_1509 : decode cL_law 1509 = .ok (.invokevirtual 238, 3) := by decide +kernel
theorem dL_law_1512 : decode cL_law 1512 = .ok (.aload_n 2, 1) := by decide +kernel
theorem dL_law_1513 : decode cL_law 1513 = .ok (.invokevirtual 241, 3) := by decide +kernel
theorem dL_law_1516 : decode cL_law 1516 = .ok (.if_icmp .eq 694, 3) := by decide +kernel
theorem dL_law_1519 : decode cL_law 1519 = .ok (.iconst 0, 1) := by decide +kernel
theorem dL_law_1520 : decode cL_law 1520 = .ok (.ireturn, 1) := by decide +kernel
theorem dL_law_1521 : decode cL_law 1521 = .ok (.aload_n 1, 1) := by decide +kernel
theorem dL_law_1522 : decode cL_law 1522 = .ok (.aload_n 0, 1) := by decide +kernel
theorem dL_law_1523 : decode cL_law 1523 = .ok (.iload 5, 2) := by decide +kernel
theorem dL_law_1525 : decode cL_law 1525 = .ok (.iconst 1, 1) := by decide +kernel
theorem dL_law_1526 : decode cL_law 1526 = .ok (.iadd, 1) := by decide +kernel
theorem dL_law_1527 : decode cL_law 1527 = .ok (.iaload, 1) := by decide +kernel
theorem dL_law_1528 : decode cL_law 1528 = .ok (.aload_n 3, 1) := by decide +kernel
theorem dL_law_1529 : decode cL_law 1529 = .ok (.invokestatic 242, 3) := by decide +kernel
theorem dL_law_1532 : decode cL_law 1532 = .ok (.istore 6, 2) := by decide +kernel
theorem dL_law_1534 : decode cL_law 1534 = .ok (.aload_n 2, 1) := by decide +kernel
theorem dL_law_1535 : decode cL_law 1535 = .ok (.aload_n 0, 1) := by decide +kernel
theorem dL_law_1536 : decode cL_law 1536 = .ok (.iload 5, 2) := by decide +kernel
theorem dL_law_1538 : decode cL_law 1538 = .ok (.iconst 1, 1) := by decide +kernel
theorem dL_law_1539 : decode cL_law 1539 = .ok (.iadd, 1) := by decide +kernel
theorem dL_law_1540 : decode cL_law 1540 = .ok (.iaload, 1) := by decide +kernel
theorem dL_law_1541 : decode cL_law 1541 = .ok (.invokevirtual 244, 3) := by decide +kernel
theorem dL_law_1544 : decode cL_law 1544 = .ok (.istore 7, 2) := by decide +kernel
theorem dL_law_1546 : decode cL_law 1546 = .ok (.aload_n 2, 1) := by decide +kernel
theorem dL_law_1547 : decode cL_law 1547 = .ok (.invokevirtual 145, 3) := by decide +kernel
theorem dL_law_1550 : decode cL_law 1550 = .ok (.iload 6, 2) := by decide +kernel
theorem dL_law_1552 : decode cL_law 1552 = .ok (.if_icmp .eq 5, 3) := by decide +kernel
theorem dL_law_1555 : decode cL_law 1555 = .ok (.iconst 0, 1) := by decide +kernel
theorem dL_law_1556 : decode cL_law 1556 = .ok (.ireturn, 1) := by decide +kernel
theorem dL_law_1557 : decode cL_law 1557 = .ok (.iload 6, 2) := by decide +kernel
theorem dL_law_1559 : decode cL_law 1559 = .ok (.ifCond .ne 15, 3) := by decide +kernel
theorem dL_law_1562 : decode cL_law 1562 = .ok (.aload_n 3, 1) := by decide +kernel
theorem dL_law_1563 : decode cL_law 1563 = .ok (.iconst 0, 1) := by decide +kernel
theorem dL_law_1564 : decode cL_law 1564 = .ok (.laload, 1) := by decide +kernel
theorem dL_law_1565 : decode cL_law 1565 = .ok (.iload 7, 2) := by decide +kernel
theorem dL_law_1567 : decode cL_law 1567 = .ok (.i2l, 1) := by decide +kernel
theorem dL_law_1568 : decode cL_law 1568 = .ok (.lcmp, 1) := by decide +kernel
theorem dL_law_1569 : decode cL_law 1569 = .ok (.ifCond .eq 5, 3) := by decide +kernel
theorem dL_law_1572 : decode cL_law 1572 = .ok (.iconst 0, 1) := by decide +kernel
theorem dL_law_1573 : decode cL_law 1573 = .ok (.ireturn, 1) := by decide +kernel
theorem dL_law_1574 : decode cL_law 1574 = .ok (.goto 636, 3) := by decide +kernel
theorem dL_law_1577 : decode cL_law 1577 = .ok (.aload_n 1, 1) := by decide +kernel
theorem dL_law_1578 : decode cL_law 1578 = .ok (.aload_n 0, 1) := by decide +kernel
theorem dL_law_1579 : decode cL_law 1579 = .ok (.iload 5, 2) := by decide +kernel
theorem dL_law_1581 : decode cL_law 1581 = .ok (.iconst 1, 1) := by decide +kernel
theorem dL_law_1582 : decode cL_law 1582 = .ok (.iadd, 1) := by decide +kernel
theorem dL_law_1583 : decode cL_law 1583 = .ok (.iaload, 1) := by decide +kernel
theorem dL_law_1584 : decode cL_law 1584 = .ok (.aload_n 3, 1) := by decide +kernel
theorem dL_law_1585 : decode cL_law 1585 = .ok (.invokestatic 245, 3) := by decide +kernel
theorem dL_law_1588 : decode cL_law 1588 = .ok (.istore 6, 2) := by decide +kernel
theorem dL_law_1590 : decode cL_law 1590 = .ok (.aload_n 2, 1) := by decide +kernel
theorem dL_law_1591 : decode cL_law 1591 = .ok (.aload_n 0, 1) := by decide +kernel
theorem dL_law_1592 : decode cL_law 1592 = .ok (.iload 5, 2) := by decide +kernel
theorem dL_law_1594 : decode cL_law 1594 = .ok (.iconst 1, 1) := by decide +kernel
theorem dL_law_1595 : decode cL_law 1595 = .ok (.iadd, 1) := by decide +kernel
theorem dL_law_1596 : decode cL_law 1596 = .ok (.iaload, 1) := by decide +kernel
theorem dL_law_1597 : decode cL_law 1597 = .ok (.invokevirtual 247, 3) := by decide +kernel
theorem dL_law_1600 : decode cL_law 1600 = .ok (.istore 7, 2) := by decide +kernel
theorem dL_law_1602 : decode cL_law 1602 = .ok (.aload_n 2, 1) := by decide +kernel
theorem dL_law_1603 : decode cL_law 1603 = .ok (.invokevirtual 145, 3) := by decide +kernel
theorem dL_law_1606 : decode cL_law 1606 = .ok (.iload 6, 2) := by decide +kernel
theorem dL_law_1608 : decode cL_law 1608 = .ok (.if_icmp .eq 5, 3) := by decide +kernel
theorem dL_law_1611 : decode cL_law 1611 = .ok (.iconst 0, 1) := by decide +kernel
theorem dL_law_1612 : decode cL_law 1612 = .ok (.ireturn, 1) := by decide +kernel
theorem dL_law_1613 : decode cL_law 1613 = .ok (.iload 6, 2) := by decide +kernel
theorem dL_law_1615 : decode cL_law 1615 = .ok (.ifCond .ne 15, 3) := by decide +kernel
theorem dL_law_1618 : decode cL_law 1618 = .ok (.aload_n 3, 1) := by decide +kernel
theorem dL_law_1619 : decode cL_law 1619 = .ok (.iconst 0, 1) := by decide +kernel
theorem dL_law_1620 : decode cL_law 1620 = .ok (.laload, 1) := by decide +kernel
theorem dL_law_1621 : decode cL_law 1621 = .ok (.iload 7, 2) := by decide +kernel
theorem dL_law_1623 : decode cL_law 1623 = .ok (.i2l, 1) := by decide +kernel
theorem dL_law_1624 : decode cL_law 1624 = .ok (.lcmp, 1) := by decide +kernel
theorem dL_law_1625 : decode cL_law 1625 = .ok (.ifCond .eq 5, 3) := by decide +kernel
theorem dL_law_1628 : decode cL_law 1628 = .ok (.iconst 0, 1) := by decide +kernel
theorem dL_law_1629 : decode cL_law 1629 = .ok (.ireturn, 1) := by decide +kernel
theorem dL_law_1630 : decode cL_law 1630 = .ok (.goto 580, 3) := by decide +kernel
theorem dL_law_1633 : decode cL_law 1633 = .ok (.aload_n 1, 1) := by decide +kernel
theorem dL_law_1634 : decode cL_law 1634 = .ok (.aload_n 0, 1) := by decide +kernel
theorem dL_law_1635 : decode cL_law 1635 = .ok (.iload 5, 2) := by decide +kernel
theorem dL_law_1637 : decode cL_law 1637 = .ok (.iconst 1, 1) := by decide +kernel
theorem dL_law_1638 : decode cL_law 1638 = .ok (.iadd, 1) := by decide +kernel
theorem dL_law_1639 : decode cL_law 1639 = .ok (.iaload, 1) := by decide +kernel
theorem dL_law_1640 : decode cL_law 1640 = .ok (.aload_n 3, 1) := by decide +kernel
theorem dL_law_1641 : decode cL_law 1641 = .ok (.invokestatic 248, 3) := by decide +kernel
theorem dL_law_1644 : decode cL_law 1644 = .ok (.istore 6, 2) := by decide +kernel
theorem dL_law_1646 : decode cL_law 1646 = .ok (.aload_n 2, 1) := by decide +kernel
theorem dL_law_1647 : decode cL_law 1647 = .ok (.aload_n 0, 1) := by decide +kernel
theorem dL_law_1648 : decode cL_law 1648 = .ok (.iload 5, 2) := by decide +kernel
theorem dL_law_1650 : decode cL_law 1650 = .ok (.iconst 1, 1) := by decide +kernel
theorem dL_law_1651 : decode cL_law 1651 = .ok (.iadd, 1) := by decide +kernel
theorem dL_law_1652 : decode cL_law 1652 = .ok (.iaload, 1) := by decide +kernel
theorem dL_law_1653 : decode cL_law 1653 = .ok (.invokevirtual 250, 3) := by decide +kernel
theorem dL_law_1656 : decode cL_law 1656 = .ok (.istore 7, 2) := by decide +kernel
theorem dL_law_1658 : decode cL_law 1658 = .ok (.aload_n 2, 1) := by decide +kernel
theorem dL_law_1659 : decode cL_law 1659 = .ok (.invokevirtual 145, 3) := by decide +kernel
theorem dL_law_1662 : decode cL_law 1662 = .ok (.iload 6, 2) := by decide +kernel
theorem dL_law_1664 : decode cL_law 1664 = .ok (.if_icmp .eq 5, 3) := by decide +kernel
theorem dL_law_1667 : decode cL_law 1667 = .ok (.iconst 0, 1) := by decide +kernel
theorem dL_law_1668 : decode cL_law 1668 = .ok (.ireturn, 1) := by decide +kernel
theorem dL_law_1669 : decode cL_law 1669 = .ok (.iload 6, 2) := by decide +kernel
theorem dL_law_1671 : decode cL_law 1671 = .ok (.ifCond .ne 15, 3) := by decide +kernel
theorem dL_law_1674 : decode cL_law 1674 = .ok (.aload_n 3, 1) := by decide +kernel
theorem dL_law_1675 : decode cL_law 1675 = .ok (.iconst 0, 1) := by decide +kernel
theorem dL_law_1676 : decode cL_law 1676 = .ok (.laload, 1) := by decide +kernel
theorem dL_law_1677 : decode cL_law 1677 = .ok (.iload 7, 2) := by decide +kernel
theorem dL_law_1679 : decode cL_law 1679 = .ok (.i2l, 1) := by decide +kernel
theorem dL_law_1680 : decode cL_law 1680 = .ok (.lcmp, 1) := by decide +kernel
theorem dL_law_1681 : decode cL_law 1681 = .ok (.ifCond .eq 5, 3) := by decide +kernel
theorem dL_law_1684 : decode cL_law 1684 = .ok (.iconst 0, 1) := by decide +kernel
theorem dL_law_1685 : decode cL_law 1685 = .ok (.ireturn, 1) := by decide +kernel
theorem dL_law_1686 : decode cL_law 1686 = .ok (.goto 524, 3) := by decide +kernel
theorem dL_law_1689 : decode cL_law 1689 = .ok (.aload_n 1, 1) := by decide +kernel
theorem dL_law_1690 : decode cL_law 1690 = .ok (.aload_n 0, 1) := by decide +kernel
theorem dL_law_1691 : decode cL_law 1691 = .ok (.iload 5, 2) := by decide +kernel
theorem dL_law_1693 : decode cL_law 1693 = .ok (.iconst 1, 1) := by decide +kernel
theorem dL_law_1694 : decode cL_law 1694 = .ok (.iadd, 1) := by decide +kernel
theorem dL_law_1695 : decode cL_law 1695 = .ok (.iaload, 1) := by decide +kernel
theorem dL_law_1696 : decode cL_law 1696 = .ok (.aload_n 3, 1) := by decide +kernel
theorem dL_law_1697 : decode cL_law 1697 = .ok (.invokestatic 251, 3) := by decide +kernel
theorem dL_law_1700 : decode cL_law 1700 = .ok (.istore 6, 2) := by decide +kernel
theorem dL_law_1702 : decode cL_law 1702 = .ok (.aload_n 2, 1) := by decide +kernel
theorem dL_law_1703 : decode cL_law 1703 = .ok (.aload_n 0, 1) := by decide +kernel
theorem dL_law_1704 : decode cL_law 1704 = .ok (.iload 5, 2) := by decide +kernel
theorem dL_law_1706 : decode cL_law 1706 = .ok (.iconst 1, 1) := by decide +kernel
theorem dL_law_1707 : decode cL_law 1707 = .ok (.iadd, 1) := by decide +kernel
theorem dL_law_1708 : decode cL_law 1708 = .ok (.iaload, 1) := by decide +kernel
theorem dL_law_1709 : decode cL_law 1709 = .ok (.invokevirtual 253, 3) := by decide +kernel
theorem dL_law_1712 : decode cL_law 1712 = .ok (.istore 7, 2) := by decide +kernel
theorem dL_law_1714 : decode cL_law 1714 = .ok (.aload_n 2, 1) := by decide +kernel
theorem dL_law_1715 : decode cL_law 1715 = .ok (.invokevirtual 145, 3) := by decide +kernel
theorem dL_law_1718 : decode cL_law 1718 = .ok (.iload 6, 2) := by decide +kernel
theorem dL_law_1720 : decode cL_law 1720 = .ok (.if_icmp .eq 5, 3) := by decide +kernel
theorem dL_law_1723 : decode cL_law 1723 = .ok (.iconst 0, 1) := by decide +kernel
theorem dL_law_1724 : decode cL_law 1724 = .ok (.ireturn, 1) := by decide +kernel
theorem dL_law_1725 : decode cL_law 1725 = .ok (.iload 6, 2) := by decide +kernel
theorem dL_law_1727 : decode cL_law 1727 = .ok (.ifCond .ne 22, 3) := by decide +kernel
theorem dL_law_1730 : decode cL_law 1730 = .ok (.aload_n 3, 1) := by decide +kernel
theorem dL_law_1731 : decode cL_law 1731 = .ok (.iconst 0, 1) := by decide +kernel
theorem dL_law_1732 : decode cL_law 1732 = .ok (.laload, 1) := by decide +kernel
theorem dL_law_1733 : decode cL_law 1733 = .ok (.iload 7, 2) := by decide +kernel
theorem dL_law_1735 : decode cL_law 1735 = .ok (.ifCond .eq 7, 3) := by decide +kernel
theorem dL_law_1738 : decode cL_law 1738 = .ok (.lconst 1, 1) := by decide +kernel
theorem dL_law_1739 : decode cL_law 1739 = .ok (.goto 4, 3) := by decide +kernel
theorem dL_law_1742 : decode cL_law 1742 = .ok (.lconst 0, 1) := by decide +kernel
theorem dL_law_1743 : decode cL_law 1743 = .ok (.lcmp, 1) := by decide +kernel
theorem dL_law_1744 : decode cL_law 1744 = .ok (.ifCond .eq 5, 3) := by decide +kernel
theorem dL_law_1747 : decode cL_law 1747 = .ok (.iconst 0, 1) := by decide +kernel
theorem dL_law_1748 : decode cL_law 1748 = .ok (.ireturn, 1) := by decide +kernel
theorem dL_law_1749 : decode cL_law 1749 = .ok (.goto 461, 3) := by decide +kernel
theorem dL_law_1752 : decode cL_law 1752 = .ok (.aload_n 1, 1) := by decide +kernel
theorem dL_law_1753 : decode cL_law 1753 = .ok (.aload_n 3, 1) := by decide +kernel
theorem dL_law_1754 : decode cL_law 1754 = .ok (.invokestatic 254, 3) := by decide +kernel
theorem dL_law_1757 : decode cL_law 1757 = .ok (.istore 6, 2) := by decide +kernel
theorem dL_law_1759 : decode cL_law 1759 = .ok (.aload_n 2, 1) := by decide +kernel
theorem dL_law_1760 : decode cL_law 1760 = .ok (.invokevirtual 256, 3) := by decide +kernel
theorem dL_law_1763 : decode cL_law 1763 = .ok (.istore 7, 2) := by decide +kernel
theorem dL_law_1765 : decode cL_law 1765 = .ok (.aload_n 2, 1) := by decide +kernel
theorem dL_law_1766 : decode cL_law 1766 = .ok (.invokevirtual 145, 3) := by decide +kernel
theorem dL_law_1769 : decode cL_law 1769 = .ok (.iload 6, 2) := by decide +kernel
theorem dL_law_1771 : decode cL_law 1771 = .ok (.if_icmp .eq 5, 3) := by decide +kernel
theorem dL_law_1774 : decode cL_law 1774 = .ok (.iconst 0, 1) := by decide +kernel
theorem dL_law_1775 : decode cL_law 1775 = .ok (.ireturn, 1) := by decide +kernel
theorem dL_law_1776 : decode cL_law 1776 = .ok (.iload 6, 2) := by decide +kernel
theorem dL_law_1778 : decode cL_law 1778 = .ok (.ifCond .ne 15, 3) := by decide +kernel
theorem dL_law_1781 : decode cL_law 1781 = .ok (.aload_n 3, 1) := by decide +kernel
theorem dL_law_1782 : decode cL_law 1782 = .ok (.iconst 0, 1) := by decide +kernel
theorem dL_law_1783 : decode cL_law 1783 = .ok (.laload, 1) := by decide +kernel
theorem dL_law_1784 : decode cL_law 1784 = .ok (.iload 7, 2) := by decide +kernel
theorem dL_law_1786 : decode cL_law 1786 = .ok (.i2l, 1) := by decide +kernel
theorem dL_law_1787 : decode cL_law 1787 = .ok (.lcmp, 1) := by decide +kernel
theorem dL_law_1788 : decode cL_law 1788 = .ok (.ifCond .eq 5, 3) := by decide +kernel
theorem dL_law_1791 : decode cL_law 1791 = .ok (.iconst 0, 1) := by decide +kernel
theorem dL_law_1792 : decode cL_law 1792 = .ok (.ireturn, 1) := by decide +kernel
theorem dL_law_1793 : decode cL_law 1793 = .ok (.goto 417, 3) := by decide +kernel
theorem dL_law_1796 : decode cL_law 1796 = .ok (.aload_n 1, 1) := by decide +kernel
theorem dL_law_1797 : decode cL_law 1797 = .ok (.aload_n 0, 1) := by decide +kernel
theorem dL_law_1798 : decode cL_law 1798 = .ok (.iload 5, 2) := by decide +kernel
theorem dL_law_1800 : decode cL_law 1800 = .ok (.iconst 1, 1) := by decide +kernel
theorem dL_law_1801 : decode cL_law 1801 = .ok (.iadd, 1) := by decide +kernel
theorem dL_law_1802 : decode cL_law 1802 = .ok (.iaload, 1) := by decide +kernel
theorem dL_law_1803 : decode cL_law 1803 = .ok (.aload_n 3, 1) := by decide +kernel
theorem dL_law_1804 : decode cL_law 1804 = .ok (.invokestatic 257, 3) := by decide +kernel
theorem dL_law_1807 : decode cL_law 1807 = .ok (.istore 6, 2) := by decide +kernel
theorem dL_law_1809 : decode cL_law 1809 = .ok (.aload_n 2, 1) := by decide +kernel
theorem dL_law_1810 : decode cL_law 1810 = .ok (.aload_n 0, 1) := by decide +kernel
theorem dL_law_1811 : decode cL_law 1811 = .ok (.iload 5, 2) := by decide +kernel
theorem dL_law_1813 : decode cL_law 1813 = .ok (.iconst 1, 1) := by decide +kernel
theorem dL_law_1814 : decode cL_law 1814 = .ok (.iadd, 1) := by decide +kernel
theorem dL_law_1815 : decode cL_law 1815 = .ok (.iaload, 1) := by decide +kernel
theorem dL_law_1816 : decode cL_law 1816 = .ok (.invokevirtual 259, 3) := by decide +kernel
theorem dL_law_1819 : decode cL_law 1819 = .ok (.istore 7, 2) := by decide +kernel
theorem dL_law_1821 : decode cL_law 1821 = .ok (.aload_n 2, 1) := by decide +kernel
theorem dL_law_1822 : decode cL_law 1822 = .ok (.invokevirtual 145, 3) := by decide +kernel
theorem dL_law_1825 : decode cL_law 1825 = .ok (.iload 6, 2) := by decide +kernel
theorem dL_law_1827 : decode cL_law 1827 = .ok (.if_icmp .eq 5, 3) := by decide +kernel
theorem dL_law_1830 : decode cL_law 1830 = .ok (.iconst 0, 1) := by decide +kernel
theorem dL_law_1831 : decode cL_law 1831 = .ok (.ireturn, 1) := by decide +kernel
theorem dL_law_1832 : decode cL_law 1832 = .ok (.iload 6, 2) := by decide +kernel
theorem dL_law_1834 : decode cL_law 1834 = .ok (.ifCond .ne 15, 3) := by decide +kernel
theorem dL_law_1837 : decode cL_law 1837 = .ok (.aload_n 3, 1) := by decide +kernel
theorem dL_law_1838 : decode cL_law 1838 = .ok (.iconst 0, 1) := by decide +kernel
theorem dL_law_1839 : decode cL_law 1839 = .ok (.laload, 1) := by decide +kernel
theorem dL_law_1840 : decode cL_law 1840 = .ok (.iload 7, 2) := by decide +kernel
theorem dL_law_1842 : decode cL_law 1842 = .ok (.i2l, 1) := by decide +kernel
theorem dL_law_1843 : decode cL_law 1843 = .ok (.lcmp, 1) := by decide +kernel
theorem dL_law_1844 : decode cL_law 1844 = .ok (.ifCond .eq 5, 3) := by decide +kernel
theorem dL_law_1847 : decode cL_law 1847 = .ok (.iconst 0, 1) := by decide +kernel
theorem dL_law_1848 : decode cL_law 1848 = .ok (.ireturn, 1) := by decide +kernel
theorem dL_law_1849 : decode cL_law 1849 = .ok (.goto 361, 3) := by decide +kernel
theorem dL_law_1852 : decode cL_law 1852 = .ok (.aload_n 1, 1) := by decide +kernel
theorem dL_law_1853 : decode cL_law 1853 = .ok (.aload_n 3, 1) := by decide +kernel
theorem dL_law_1854 : decode cL_law 1854 = .ok (.invokestatic 260, 3) := by decide +kernel
theorem dL_law_1857 : decode cL_law 1857 = .ok (.istore 6, 2) := by decide +kernel
theorem dL_law_1859 : decode cL_law 1859 = .ok (.aload_n 2, 1) := by decide +kernel
theorem dL_law_1860 : decode cL_law 1860 = .ok (.invokevirtual 262, 3) := by decide +kernel
theorem dL_law_1863 : decode cL_law 1863 = .ok (.istore 7, 2) := by decide +kernel
theorem dL_law_1865 : decode cL_law 1865 = .ok (.aload_n 2, 1) := by decide +kernel
theorem dL_law_1866 : decode cL_law 1866 = .ok (.invokevirtual 145, 3) := by decide +kernel
theorem dL_law_1869 : decode cL_law 1869 = .ok (.iload 6, 2) := by decide +kernel
theorem dL_law_1871 : decode cL_law 1871 = .ok (.if_icmp .eq 5, 3) := by decide +kernel
theorem dL_law_1874 : decode cL_law 1874 = .ok (.iconst 0, 1) := by decide +kernel
theorem dL_law_1875 : decode cL_law 1875 = .ok (.ireturn, 1) := by decide +kernel
theorem dL_law_1876 : decode cL_law 1876 = .ok (.iload 6, 2) := by decide +kernel
theorem dL_law_1878 : decode cL_law 1878 = .ok (.ifCond .ne 22, 3) := by decide +kernel
theorem dL_law_1881 : decode cL_law 1881 = .ok (.aload_n 3, 1) := by decide +kernel
theorem dL_law_1882 : decode cL_law 1882 = .ok (.iconst 0, 1) := by decide +kernel
theorem dL_law_1883 : decode cL_law 1883 = .ok (.laload, 1) := by decide +kernel
theorem dL_law_1884 : decode cL_law 1884 = .ok (.iload 7, 2) := by decide +kernel
theorem dL_law_1886 : decode cL_law 1886 = .ok (.ifCond .eq 7, 3) := by decide +kernel
theorem dL_law_1889 : decode cL_law 1889 = .ok (.lconst 1, 1) := by decide +kernel
theorem dL_law_1890 : decode cL_law 1890 = .ok (.goto 4, 3) := by decide +kernel
theorem dL_law_1893 : decode cL_law 1893 = .ok (.lconst 0, 1) := by decide +kernel
theorem dL_law_1894 : decode cL_law 1894 = .ok (.lcmp, 1) := by decide +kernel
theorem dL_law_1895 : decode cL_law 1895 = .ok (.ifCond .eq 5, 3) := by decide +kernel
theorem dL_law_1898 : decode cL_law 1898 = .ok (.iconst 0, 1) := by decide +kernel
theorem dL_law_1899 : decode cL_law 1899 = .ok (.ireturn, 1) := by decide +kernel
theorem dL_law_1900 : decode cL_law 1900 = .ok (.goto 310, 3) := by decide +kernel
theorem dL_law_1903 : decode cL_law 1903 = .ok (.aload_n 1, 1) := by decide +kernel
theorem dL_law_1904 : decode cL_law 1904 = .ok (.aload_n 0, 1) := by decide +kernel
theorem dL_law_1905 : decode cL_law 1905 = .ok (.iload 5, 2) := by decide +kernel
theorem dL_law_1907 : decode cL_law 1907 = .ok (.iconst 1, 1) := by decide +kernel
theorem dL_law_1908 : decode cL_law 1908 = .ok (.iadd, 1) := by decide +kernel
theorem dL_law_1909 : decode cL_law 1909 = .ok (.iaload, 1) := by decide +kernel
theorem dL_law_1910 : decode cL_law 1910 = .ok (.aload_n 3, 1) := by decide +kernel
theorem dL_law_1911 : decode cL_law 1911 = .ok (.invokestatic 263, 3) := by decide +kernel
theorem dL_law_1914 : decode cL_law 1914 = .ok (.istore 6, 2) := by decide +kernel
theorem dL_law_1916 : decode cL_law 1916 = .ok (.aload_n 2, 1) := by decide +kernel
theorem dL_law_1917 : decode cL_law 1917 = .ok (.aload_n 0, 1) := by decide +kernel
theorem dL_law_1918 : decode cL_law 1918 = .ok (.iload 5, 2) := by decide +kernel
theorem dL_law_1920 : decode cL_law 1920 = .ok (.iconst 1, 1) := by decide +kernel
theorem dL_law_1921 : decode cL_law 1921 = .ok (.iadd, 1) := by decide +kernel
theorem dL_law_1922 : decode cL_law 1922 = .ok (.iaload, 1) := by decide +kernel
theorem dL_law_1923 : decode cL_law 1923 = .ok (.invokevirtual 265, 3) := by decide +kernel
theorem dL_law_1926 : decode cL_law 1926 = .ok (.istore 7, 2) := by decide +kernel
theorem dL_law_1928 : decode cL_law 1928 = .ok (.aload_n 2, 1) := by decide +kernel
theorem dL_law_1929 : decode cL_law 1929 = .ok (.invokevirtual 145, 3) := by decide +kernel
theorem dL_law_1932 : decode cL_law 1932 = .ok (.iload 6, 2) := by decide +kernel
theorem dL_law_1934 : decode cL_law 1934 = .ok (.if_icmp .eq 5, 3) := by decide +kernel
theorem dL_law_1937 : decode cL_law 1937 = .ok (.iconst 0, 1) := by decide +kernel
theorem dL_law_1938 : decode cL_law 1938 = .ok (.ireturn, 1) := by decide +kernel
theorem dL_law_1939 : decode cL_law 1939 = .ok (.iload 6, 2) := by decide +kernel
theorem dL_law_1941 : decode cL_law 1941 = .ok (.ifCond .ne 15, 3) := by decide +kernel
theorem dL_law_1944 : decode cL_law 1944 = .ok (.aload_n 3, 1) := by decide +kernel
theorem dL_law_1945 : decode cL_law 1945 = .ok (.iconst 0, 1) := by decide +kernel
theorem dL_law_1946 : decode cL_law 1946 = .ok (.laload, 1) := by decide +kernel
theorem dL_law_1947 : decode cL_law 1947 = .ok (.iload 7, 2) := by decide +kernel
theorem dL_law_1949 : decode cL_law 1949 = .ok (.i2l, 1) := by decide +kernel
theorem dL_law_1950 : decode cL_law 1950 = .ok (.lcmp, 1) := by decide +kernel
theorem dL_law_1951 : decode cL_law 1951 = .ok (.ifCond .eq 5, 3) := by decide +kernel
theorem dL_law_1954 : decode cL_law 1954 = .ok (.iconst 0, 1) := by decide +kernel
theorem dL_law_1955 : decode cL_law 1955 = .ok (.ireturn, 1) := by decide +kernel
theorem dL_law_1956 : decode cL_law 1956 = .ok (.goto 254, 3) := by decide +kernel
theorem dL_law_1959 : decode cL_law 1959 = .ok (.aload_n 1, 1) := by decide +kernel
theorem dL_law_1960 : decode cL_law 1960 = .ok (.aload 4, 2) := by decide +kernel
theorem dL_law_1962 : decode cL_law 1962 = .ok (.invokestatic 266, 3) := by decide +kernel
theorem dL_law_1965 : decode cL_law 1965 = .ok (.istore 6, 2) := by decide +kernel
theorem dL_law_1967 : decode cL_law 1967 = .ok (.aload_n 2, 1) := by decide +kernel
theorem dL_law_1968 : decode cL_law 1968 = .ok (.invokevirtual 269, 3) := by decide +kernel
theorem dL_law_1971 : decode cL_law 1971 = .ok (.dstore 7, 2) := by decide +kernel
theorem dL_law_1973 : decode cL_law 1973 = .ok (.aload_n 2, 1) := by decide +kernel
theorem dL_law_1974 : decode cL_law 1974 = .ok (.invokevirtual 145, 3) := by decide +kernel
theorem dL_law_1977 : decode cL_law 1977 = .ok (.iload 6, 2) := by decide +kernel
theorem dL_law_1979 : decode cL_law 1979 = .ok (.if_icmp .eq 5, 3) := by decide +kernel
theorem dL_law_1982 : decode cL_law 1982 = .ok (.iconst 0, 1) := by decide +kernel
theorem dL_law_1983 : decode cL_law 1983 = .ok (.ireturn, 1) := by decide +kernel
theorem dL_law_1984 : decode cL_law 1984 = .ok (.iload 6, 2) := by decide +kernel
theorem dL_law_1986 : decode cL_law 1986 = .ok (.ifCond .ne 35, 3) := by decide +kernel
theorem dL_law_1989 : decode cL_law 1989 = .ok (.aload 4, 2) := by decide +kernel
theorem dL_law_1991 : decode cL_law 1991 = .ok (.iconst 0, 1) := by decide +kernel
theorem dL_law_1992 : decode cL_law 1992 = .ok (.daload, 1) := by decide +kernel
theorem dL_law_1993 : decode cL_law 1993 = .ok (.dload 7, 2) := by decide +kernel
theorem dL_law_1995 : decode cL_law 1995 = .ok (.dcmp .l, 1) := by decide +kernel
theorem dL_law_1996 : decode cL_law 1996 = .ok (.ifCond .eq 25, 3) := by decide +kernel
theorem dL_law_1999 : decode cL_law 1999 = .ok (.aload 4, 2) := by decide +kernel
theorem dL_law_2001 : decode cL_law 2001 = .ok (.iconst 0, 1) := by decide +kernel
theorem dL_law_2002 : decode cL_law 2002 = .ok (.daload, 1) := by decide +kernel
theorem dL_law_2003 : decode cL_law 2003 = .ok (.aload 4, 2) := by decide +kernel
theorem dL_law_2005 : decode cL_law 2005 = .ok (.iconst 0, 1) := by decide +kernel
theorem dL_law_2006 : decode cL_law 2006 = .ok (.daload, 1) := by decide +kernel
theorem dL_law_2007 : decode cL_law 2007 = .ok (.dcmp .l, 1) := by decide +kernel
theorem dL_law_2008 : decode cL_law 2008 = .ok (.ifCond .eq 11, 3) := by decide +kernel
theorem dL_law_2011 : decode cL_law 2011 = .ok (.dload 7, 2) := by decide +kernel
theorem dL_law_2013 : decode cL_law 2013 = .ok (.dload 7, 2) := by decide +kernel
theorem dL_law_2015 : decode cL_law 2015 = .ok (.dcmp .l, 1) := by decide +kernel
theorem dL_law_2016 : decode cL_law 2016 = .ok (.ifCond .ne 5, 3) := by decide +kernel
theorem dL_law_2019 : decode cL_law 2019 = .ok (.iconst 0, 1) := by decide +kernel
theorem dL_law_2020 : decode cL_law 2020 = .ok (.ireturn, 1) := by decide +kernel
theorem dL_law_2021 : decode cL_law 2021 = .ok (.goto 189, 3) := by decide +kernel
theorem dL_law_2024 : decode cL_law 2024 = .ok (.aload_n 1, 1) := by decide +kernel
theorem dL_law_2025 : decode cL_law 2025 = .ok (.aload 4, 2) := by decide +kernel
theorem dL_law_2027 : decode cL_law 2027 = .ok (.invokestatic 270, 3) := by decide +kernel
theorem dL_law_2030 : decode cL_law 2030 = .ok (.istore 6, 2) := by decide +kernel
theorem dL_law_2032 : decode cL_law 2032 = .ok (.aload_n 2, 1) := by decide +kernel
theorem dL_law_2033 : decode cL_law 2033 = .ok (.invokevirtual 272, 3) := by decide +kernel
theorem dL_law_2036 : decode cL_law 2036 = .ok (.dstore 7, 2) := by decide +kernel
theorem dL_law_2038 : decode cL_law 2038 = .ok (.aload_n 2, 1) := by decide +kernel
theorem dL_law_2039 : decode cL_law 2039 = .ok (.invokevirtual 145, 3) := by decide +kernel
theorem dL_law_2042 : decode cL_law 2042 = .ok (.iload 6, 2) := by decide +kernel
theorem dL_law_2044 : decode cL_law 2044 = .ok (.if_icmp .eq 5, 3) := by decide +kernel
theorem dL_law_2047 : decode cL_law 2047 = .ok (.iconst 0, 1) := by decide +kernel
theorem dL_law_2048 : decode cL_law 2048 = .ok (.ireturn, 1) := by decide +kernel
theorem dL_law_2049 : decode cL_law 2049 = .ok (.iload 6, 2) := by decide +kernel
theorem dL_law_2051 : decode cL_law 2051 = .ok (.ifCond .ne 35, 3) := by decide +kernel
theorem dL_law_2054 : decode cL_law 2054 = .ok (.aload 4, 2) := by decide +kernel
theorem dL_law_2056 : decode cL_law 2056 = .ok (.iconst 0, 1) := by decide +kernel
theorem dL_law_2057 : decode cL_law 2057 = .ok (.daload, 1) := by decide +kernel
theorem dL_law_2058 : decode cL_law 2058 = .ok (.dload 7, 2) := by decide +kernel
theorem dL_law_2060 : decode cL_law 2060 = .ok (.dcmp .l, 1) := by decide +kernel
theorem dL_law_2061 : decode cL_law 2061 = .ok (.ifCond .eq 25, 3) := by decide +kernel
theorem dL_law_2064 : decode cL_law 2064 = .ok (.aload 4, 2) := by decide +kernel
theorem dL_law_2066 : decode cL_law 2066 = .ok (.iconst 0, 1) := by decide +kernel
theorem dL_law_2067 : decode cL_law 2067 = .ok (.daload, 1) := by decide +kernel
theorem dL_law_2068 : decode cL_law 2068 = .ok (.aload 4, 2) := by decide +kernel
theorem dL_law_2070 : decode cL_law 2070 = .ok (.iconst 0, 1) := by decide +kernel
theorem dL_law_2071 : decode cL_law 2071 = .ok (.daload, 1) := by decide +kernel
theorem dL_law_2072 : decode cL_law 2072 = .ok (.dcmp .l, 1) := by decide +kernel
theorem dL_law_2073 : decode cL_law 2073 = .ok (.ifCond .eq 11, 3) := by decide +kernel
theorem dL_law_2076 : decode cL_law 2076 = .ok (.dload 7, 2) := by decide +kernel
theorem dL_law_2078 : decode cL_law 2078 = .ok (.dload 7, 2) := by decide +kernel
theorem dL_law_2080 : decode cL_law 2080 = .ok (.dcmp .l, 1) := by decide +kernel
theorem dL_law_2081 : decode cL_law 2081 = .ok (.ifCond .ne 5, 3) := by decide +kernel
theorem dL_law_2084 : decode cL_law 2084 = .ok (.iconst 0, 1) := by decide +kernel
theorem dL_law_2085 : decode cL_law 2085 = .ok (.ireturn, 1) := by decide +kernel
theorem dL_law_2086 : decode cL_law 2086 = .ok (.goto 124, 3) := by decide +kernel
theorem dL_law_2089 : decode cL_law 2089 = .ok (.aload_n 1, 1) := by decide +kernel
theorem dL_law_2090 : decode cL_law 2090 = .ok (.aload 4, 2) := by decide +kernel
theorem dL_law_2092 : decode cL_law 2092 = .ok (.invokestatic 273, 3) := by decide +kernel
theorem dL_law_2095 : decode cL_law 2095 = .ok (.istore 6, 2) := by decide +kernel
theorem dL_law_2097 : decode cL_law 2097 = .ok (.aload_n 2, 1) := by decide +kernel
theorem dL_law_2098 : decode cL_law 2098 = .ok (.invokevirtual 275, 3) := by decide +kernel
theorem dL_law_2101 : decode cL_law 2101 = .ok (.fstore 7, 2) := by decide +kernel
theorem dL_law_2103 : decode cL_law 2103 = .ok (.aload_n 2, 1) := by decide +kernel
theorem dL_law_2104 : decode cL_law 2104 = .ok (.invokevirtual 145, 3) := by decide +kernel
theorem dL_law_2107 : decode cL_law 2107 = .ok (.iload 6, 2) := by decide +kernel
theorem dL_law_2109 : decode cL_law 2109 = .ok (.if_icmp .eq 5, 3) := by decide +kernel
theorem dL_law_2112 : decode cL_law 2112 = .ok (.iconst 0, 1) := by decide +kernel
theorem dL_law_2113 : decode cL_law 2113 = .ok (.ireturn, 1) := by decide +kernel
theorem dL_law_2114 : decode cL_law 2114 = .ok (.iload 6, 2) := by decide +kernel
theorem dL_law_2116 : decode cL_law 2116 = .ok (.ifCond .ne 36, 3) := by decide +kernel
theorem dL_law_2119 : decode cL_law 2119 = .ok (.aload 4, 2) := by decide +kernel
theorem dL_law_2121 : decode cL_law 2121 = .ok (.iconst 0, 1) := by decide +kernel
theorem dL_law_2122 : decode cL_law 2122 = .ok (.daload, 1) := by decide +kernel
theorem dL_law_2123 : decode cL_law 2123 = .ok (.fload 7, 2) := by decide +kernel
theorem dL_law_2125 : decode cL_law 2125 = .ok (.f2d, 1) := by decide +kernel
theorem dL_law_2126 : decode cL_law 2126 = .ok (.dcmp .l, 1) := by decide +kernel
theorem dL_law_2127 : decode cL_law 2127 = .ok (.ifCond .eq 25, 3) := by decide +kernel
theorem dL_law_2130 : decode cL_law 2130 = .ok (.aload 4, 2) := by decide +kernel
theorem dL_law_2132 : decode cL_law 2132 = .ok (.iconst 0, 1) := by decide +kernel
theorem dL_law_2133 : decode cL_law 2133 = .ok (.daload, 1) := by decide +kernel
theorem dL_law_2134 : decode cL_law 2134 = .ok (.aload 4, 2) := by decide +kernel
theorem dL_law_2136 : decode cL_law 2136 = .ok (.iconst 0, 1) := by decide +kernel
theorem dL_law_2137 : decode cL_law 2137 = .ok (.daload, 1) := by decide +kernel
theorem dL_law_2138 : decode cL_law 2138 = .ok (.dcmp .l, 1) := by decide +kernel
theorem dL_law_2139 : decode cL_law 2139 = .ok (.ifCond .eq 11, 3) := by decide +kernel
theorem dL_law_2142 : decode cL_law 2142 = .ok (.fload 7, 2) := by decide +kernel
theorem dL_law_2144 : decode cL_law 2144 = .ok (.fload 7, 2) := by decide +kernel
theorem dL_law_2146 : decode cL_law 2146 = .ok (.fcmp .l, 1) := by decide +kernel
theorem dL_law_2147 : decode cL_law 2147 = .ok (.ifCond .ne 5, 3) := by decide +kernel
theorem dL_law_2150 : decode cL_law 2150 = .ok (.iconst 0, 1) := by decide +kernel
theorem dL_law_2151 : decode cL_law 2151 = .ok (.ireturn, 1) := by decide +kernel
theorem dL_law_2152 : decode cL_law 2152 = .ok (.goto 58, 3) := by decide +kernel
theorem dL_law_2155 : decode cL_law 2155 = .ok (.aload_n 1, 1) := by decide +kernel
theorem dL_law_2156 : decode cL_law 2156 = .ok (.invokevirtual 276, 3) := by decide +kernel
theorem dL_law_2159 : decode cL_law 2159 = .ok (.aload_n 2, 1) := by decide +kernel
theorem dL_law_2160 : decode cL_law 2160 = .ok (.invokevirtual 279, 3) := by decide +kernel
theorem dL_law_2163 : decode cL_law 2163 = .ok (.goto 47, 3) := by decide +kernel
theorem dL_law_2166 : decode cL_law 2166 = .ok (.aload_n 1, 1) := by decide +kernel
theorem dL_law_2167 : decode cL_law 2167 = .ok (.aload_n 3, 1) := by decide +kernel
theorem dL_law_2168 : decode cL_law 2168 = .ok (.invokestatic 280, 3) := by decide +kernel
theorem dL_law_2171 : decode cL_law 2171 = .ok (.istore 6, 2) := by decide +kernel
theorem dL_law_2173 : decode cL_law 2173 = .ok (.aload_n 2, 1) := by decide +kernel
theorem dL_law_2174 : decode cL_law 2174 = .ok (.invokevirtual 282, 3) := by decide +kernel
theorem dL_law_2177 : decode cL_law 2177 = .ok (.istore 7, 2) := by decide +kernel
theorem dL_law_2179 : decode cL_law 2179 = .ok (.aload_n 2, 1) := by decide +kernel
theorem dL_law_2180 : decode cL_law 2180 = .ok (.invokevirtual 145, 3) := by decide +kernel
theorem dL_law_2183 : decode cL_law 2183 = .ok (.iload 6, 2) := by decide +kernel
theorem dL_law_2185 : decode cL_law 2185 = .ok (.if_icmp .eq 5, 3) := by decide +kernel
theorem dL_law_2188 : decode cL_law 2188 = .ok (.iconst 0, 1) := by decide +kernel
theorem dL_law_2189 : decode cL_law 2189 = .ok (.ireturn, 1) := by decide +kernel
theorem dL_law_2190 : decode cL_law 2190 = .ok (.iload 6, 2) := by decide +kernel
theorem dL_law_2192 : decode cL_law 2192 = .ok (.ifCond .ne 15, 3) := by decide +kernel
theorem dL_law_2195 : decode cL_law 2195 = .ok (.aload_n 3, 1) := by decide +kernel
theorem dL_law_2196 : decode cL_law 2196 = .ok (.iconst 0, 1) := by decide +kernel
theorem dL_law_2197 : decode cL_law 2197 = .ok (.laload, 1) := by decide +kernel
theorem dL_law_2198 : decode cL_law 2198 = .ok (.iload 7, 2) := by decide +kernel
theorem dL_law_2200 : decode cL_law 2200 = .ok (.i2l, 1) := by decide +kernel
theorem dL_law_2201 : decode cL_law 2201 = .ok (.lcmp, 1) := by decide +kernel
theorem dL_law_2202 : decode cL_law 2202 = .ok (.ifCond .eq 5, 3) := by decide +kernel
theorem dL_law_2205 : decode cL_law 2205 = .ok (.iconst 0, 1) := by decide +kernel
theorem dL_law_2206 : decode cL_law 2206 = .ok (.ireturn, 1) := by decide +kernel
theorem dL_law_2207 : decode cL_law 2207 = .ok (.goto 3, 3) := by decide +kernel
theorem dL_law_2210 : decode cL_law 2210 = .ok (.iinc 5 4, 3) := by decide +kernel
theorem dL_law_2213 : decode cL_law 2213 = .ok (.goto (-2185), 3) := by decide +kernel
theorem dL_law_2216 : decode cL_law 2216 = .ok (.iconst 1, 1) := by decide +kernel
theorem dL_law_2217 : decode cL_law 2217 = .ok (.ireturn, 1) := by decide +kernel
end
