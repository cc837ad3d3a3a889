section
-- ===== PART A: goes FIRST, ahead of the names: the tables' words, and 'selects' of the private methods out of them =====
/-- a private method of a class that the tables say can be made, by its rows of tables_1 -/
def lw_okq (q : MethodName × Nat) : Prop := (q.1.cls ≠ "java/lang/invoke/MethodHandle" ∧ q.1.cls ≠ "java/lang/invoke/VarHandle") ∧ Cond.instantiable q.1.cls q.2 ∈ tables_1 ∧ Cond.privateMethod q.1 ∈ tables_1 ∧ Cond.instanceMethod q.1 ∈ tables_1
theorem lw_p0 : lw_okq (⟨"WordGrid", "newList", "(IIIJ)LWordGrid$WordList;"⟩, 14) := ⟨⟨by decide +kernel, by decide +kernel⟩, List.mem_of_getElem? (i := 18) (by decide +kernel), List.mem_of_getElem? (i := 353) (by decide +kernel), List.mem_of_getElem? (i := 354) (by decide +kernel)⟩
theorem lw_p1 : lw_okq (⟨"WordGrid", "lookAtEntries", "(I)Z"⟩, 14) := ⟨⟨by decide +kernel, by decide +kernel⟩, List.mem_of_getElem? (i := 18) (by decide +kernel), List.mem_of_getElem? (i := 627) (by decide +kernel), List.mem_of_getElem? (i := 628) (by decide +kernel)⟩
theorem lw_p2 : lw_okq (⟨"WordGrid", "fillOn", "(I)I"⟩, 14) := ⟨⟨by decide +kernel, by decide +kernel⟩, List.mem_of_getElem? (i := 18) (by decide +kernel), List.mem_of_getElem? (i := 733) (by decide +kernel), List.mem_of_getElem? (i := 734) (by decide +kernel)⟩
theorem lw_p3 : lw_okq (⟨"WordGrid", "tellSearch", "(LWordGrid$Search;I)V"⟩, 14) := ⟨⟨by decide +kernel, by decide +kernel⟩, List.mem_of_getElem? (i := 18) (by decide +kernel), List.mem_of_getElem? (i := 768) (by decide +kernel), List.mem_of_getElem? (i := 769) (by decide +kernel)⟩
theorem lw_p4 : lw_okq (⟨"WordGrid", "keepFilling", "(I)V"⟩, 14) := ⟨⟨by decide +kernel, by decide +kernel⟩, List.mem_of_getElem? (i := 18) (by decide +kernel), List.mem_of_getElem? (i := 780) (by decide +kernel), List.mem_of_getElem? (i := 781) (by decide +kernel)⟩
theorem lw_p5 : lw_okq (⟨"WordGrid", "turnRefused", "(I)I"⟩, 14) := ⟨⟨by decide +kernel, by decide +kernel⟩, List.mem_of_getElem? (i := 18) (by decide +kernel), List.mem_of_getElem? (i := 872) (by decide +kernel), List.mem_of_getElem? (i := 873) (by decide +kernel)⟩
theorem lw_p6 : lw_okq (⟨"WordGrid", "gridsThere", "()I"⟩, 14) := ⟨⟨by decide +kernel, by decide +kernel⟩, List.mem_of_getElem? (i := 18) (by decide +kernel), List.mem_of_getElem? (i := 937) (by decide +kernel), List.mem_of_getElem? (i := 938) (by decide +kernel)⟩
theorem lw_p7 : lw_okq (⟨"WordGridModel", "met", "(I)I"⟩, 65) := ⟨⟨by decide +kernel, by decide +kernel⟩, List.mem_of_getElem? (i := 941) (by decide +kernel), List.mem_of_getElem? (i := 1153) (by decide +kernel), List.mem_of_getElem? (i := 1154) (by decide +kernel)⟩
theorem lw_p8 : lw_okq (⟨"WordGridModel", "changed", "()V"⟩, 65) := ⟨⟨by decide +kernel, by decide +kernel⟩, List.mem_of_getElem? (i := 941) (by decide +kernel), List.mem_of_getElem? (i := 1157) (by decide +kernel), List.mem_of_getElem? (i := 1158) (by decide +kernel)⟩
theorem lw_p9 : lw_okq (⟨"WordGridModel", "rowOf", "(II)I"⟩, 65) := ⟨⟨by decide +kernel, by decide +kernel⟩, List.mem_of_getElem? (i := 941) (by decide +kernel), List.mem_of_getElem? (i := 1165) (by decide +kernel), List.mem_of_getElem? (i := 1166) (by decide +kernel)⟩
theorem lw_p10 : lw_okq (⟨"WordGridModel", "wrong", "(III)I"⟩, 65) := ⟨⟨by decide +kernel, by decide +kernel⟩, List.mem_of_getElem? (i := 941) (by decide +kernel), List.mem_of_getElem? (i := 1173) (by decide +kernel), List.mem_of_getElem? (i := 1174) (by decide +kernel)⟩
theorem lw_p11 : lw_okq (⟨"WordGridModel", "told", "(I)I"⟩, 65) := ⟨⟨by decide +kernel, by decide +kernel⟩, List.mem_of_getElem? (i := 941) (by decide +kernel), List.mem_of_getElem? (i := 1192) (by decide +kernel), List.mem_of_getElem? (i := 1193) (by decide +kernel)⟩
theorem lw_p12 : lw_okq (⟨"WordGridModel", "isList", "(I)Z"⟩, 65) := ⟨⟨by decide +kernel, by decide +kernel⟩, List.mem_of_getElem? (i := 941) (by decide +kernel), List.mem_of_getElem? (i := 1200) (by decide +kernel), List.mem_of_getElem? (i := 1201) (by decide +kernel)⟩
theorem lw_p13 : lw_okq (⟨"WordGridModel", "standsAt", "(IJ)I"⟩, 65) := ⟨⟨by decide +kernel, by decide +kernel⟩, List.mem_of_getElem? (i := 941) (by decide +kernel), List.mem_of_getElem? (i := 1221) (by decide +kernel), List.mem_of_getElem? (i := 1222) (by decide +kernel)⟩
theorem lw_p14 : lw_okq (⟨"WordGridModel", "asks", "(IIJ)Z"⟩, 65) := ⟨⟨by decide +kernel, by decide +kernel⟩, List.mem_of_getElem? (i := 941) (by decide +kernel), List.mem_of_getElem? (i := 1229) (by decide +kernel), List.mem_of_getElem? (i := 1230) (by decide +kernel)⟩
theorem lw_p15 : lw_okq (⟨"WordGridModel", "push", "(IIJ)V"⟩, 65) := ⟨⟨by decide +kernel, by decide +kernel⟩, List.mem_of_getElem? (i := 941) (by decide +kernel), List.mem_of_getElem? (i := 1233) (by decide +kernel), List.mem_of_getElem? (i := 1234) (by decide +kernel)⟩
def lw_privs_1 : List (MethodName × Nat) := [(⟨"WordGrid", "newList", "(IIIJ)LWordGrid$WordList;"⟩, 14), (⟨"WordGrid", "lookAtEntries", "(I)Z"⟩, 14), (⟨"WordGrid", "fillOn", "(I)I"⟩, 14), (⟨"WordGrid", "tellSearch", "(LWordGrid$Search;I)V"⟩, 14), (⟨"WordGrid", "keepFilling", "(I)V"⟩, 14), (⟨"WordGrid", "turnRefused", "(I)I"⟩, 14), (⟨"WordGrid", "gridsThere", "()I"⟩, 14), (⟨"WordGridModel", "met", "(I)I"⟩, 65), (⟨"WordGridModel", "changed", "()V"⟩, 65), (⟨"WordGridModel", "rowOf", "(II)I"⟩, 65), (⟨"WordGridModel", "wrong", "(III)I"⟩, 65), (⟨"WordGridModel", "told", "(I)I"⟩, 65), (⟨"WordGridModel", "isList", "(I)Z"⟩, 65), (⟨"WordGridModel", "standsAt", "(IJ)I"⟩, 65), (⟨"WordGridModel", "asks", "(IIJ)Z"⟩, 65), (⟨"WordGridModel", "push", "(IIJ)V"⟩, 65)]
theorem lw_r1 : ∀ q ∈ lw_privs_1, lw_okq q := List.forall_mem_cons.mpr ⟨lw_p0, List.forall_mem_cons.mpr ⟨lw_p1, List.forall_mem_cons.mpr ⟨lw_p2, List.forall_mem_cons.mpr ⟨lw_p3, List.forall_mem_cons.mpr ⟨lw_p4, List.forall_mem_cons.mpr ⟨lw_p5, List.forall_mem_cons.mpr ⟨lw_p6, List.forall_mem_cons.mpr ⟨lw_p7, List.forall_mem_cons.mpr ⟨lw_p8, List.forall_mem_cons.mpr ⟨lw_p9, List.forall_mem_cons.mpr ⟨lw_p10, List.forall_mem_cons.mpr ⟨lw_p11, List.forall_mem_cons.mpr ⟨lw_p12, List.forall_mem_cons.mpr ⟨lw_p13, List.forall_mem_cons.mpr ⟨lw_p14, List.forall_mem_cons.mpr ⟨lw_p15, fun _ h => absurd h List.not_mem_nil⟩⟩⟩⟩⟩⟩⟩⟩⟩⟩⟩⟩⟩⟩⟩⟩
theorem lw_p16 : lw_okq (⟨"WordGridModel", "plain", "(IIJ)V"⟩, 65) := ⟨⟨by decide +kernel, by decide +kernel⟩, List.mem_of_getElem? (i := 941) (by decide +kernel), List.mem_of_getElem? (i := 1237) (by decide +kernel), List.mem_of_getElem? (i := 1238) (by decide +kernel)⟩
theorem lw_p17 : lw_okq (⟨"WordGridModel", "began", "(I)V"⟩, 65) := ⟨⟨by decide +kernel, by decide +kernel⟩, List.mem_of_getElem? (i := 941) (by decide +kernel), List.mem_of_getElem? (i := 1241) (by decide +kernel), List.mem_of_getElem? (i := 1242) (by decide +kernel)⟩
theorem lw_p18 : lw_okq (⟨"WordGridModel", "pop", "(J)V"⟩, 65) := ⟨⟨by decide +kernel, by decide +kernel⟩, List.mem_of_getElem? (i := 941) (by decide +kernel), List.mem_of_getElem? (i := 1245) (by decide +kernel), List.mem_of_getElem? (i := 1246) (by decide +kernel)⟩
theorem lw_p19 : lw_okq (⟨"WordGridModel", "patterned", "(IIIJI)V"⟩, 65) := ⟨⟨by decide +kernel, by decide +kernel⟩, List.mem_of_getElem? (i := 941) (by decide +kernel), List.mem_of_getElem? (i := 1249) (by decide +kernel), List.mem_of_getElem? (i := 1250) (by decide +kernel)⟩
theorem lw_p20 : lw_okq (⟨"WordGridModel", "fits", "(IJ)Z"⟩, 65) := ⟨⟨by decide +kernel, by decide +kernel⟩, List.mem_of_getElem? (i := 941) (by decide +kernel), List.mem_of_getElem? (i := 1253) (by decide +kernel), List.mem_of_getElem? (i := 1254) (by decide +kernel)⟩
theorem lw_p21 : lw_okq (⟨"WordGridModel", "joined", "(IIIJI)V"⟩, 65) := ⟨⟨by decide +kernel, by decide +kernel⟩, List.mem_of_getElem? (i := 941) (by decide +kernel), List.mem_of_getElem? (i := 1257) (by decide +kernel), List.mem_of_getElem? (i := 1258) (by decide +kernel)⟩
theorem lw_p22 : lw_okq (⟨"WordGridModel", "metLong", "(I)J"⟩, 65) := ⟨⟨by decide +kernel, by decide +kernel⟩, List.mem_of_getElem? (i := 941) (by decide +kernel), List.mem_of_getElem? (i := 1265) (by decide +kernel), List.mem_of_getElem? (i := 1266) (by decide +kernel)⟩
theorem lw_p23 : lw_okq (⟨"WordGridModel", "findEntries", "(I)V"⟩, 65) := ⟨⟨by decide +kernel, by decide +kernel⟩, List.mem_of_getElem? (i := 941) (by decide +kernel), List.mem_of_getElem? (i := 1277) (by decide +kernel), List.mem_of_getElem? (i := 1278) (by decide +kernel)⟩
theorem lw_p24 : lw_okq (⟨"WordGridModel", "begins", "(IIIZ)Z"⟩, 65) := ⟨⟨by decide +kernel, by decide +kernel⟩, List.mem_of_getElem? (i := 941) (by decide +kernel), List.mem_of_getElem? (i := 1281) (by decide +kernel), List.mem_of_getElem? (i := 1282) (by decide +kernel)⟩
theorem lw_p25 : lw_okq (⟨"WordGridModel", "goesOn", "(IIIZ)Z"⟩, 65) := ⟨⟨by decide +kernel, by decide +kernel⟩, List.mem_of_getElem? (i := 941) (by decide +kernel), List.mem_of_getElem? (i := 1285) (by decide +kernel), List.mem_of_getElem? (i := 1286) (by decide +kernel)⟩
theorem lw_p26 : lw_okq (⟨"WordGridModel", "isWhite", "(III)Z"⟩, 65) := ⟨⟨by decide +kernel, by decide +kernel⟩, List.mem_of_getElem? (i := 941) (by decide +kernel), List.mem_of_getElem? (i := 1289) (by decide +kernel), List.mem_of_getElem? (i := 1290) (by decide +kernel)⟩
theorem lw_p27 : lw_okq (⟨"WordGridModel", "isThere", "(III)Z"⟩, 65) := ⟨⟨by decide +kernel, by decide +kernel⟩, List.mem_of_getElem? (i := 941) (by decide +kernel), List.mem_of_getElem? (i := 1293) (by decide +kernel), List.mem_of_getElem? (i := 1294) (by decide +kernel)⟩
theorem lw_p28 : lw_okq (⟨"WordGridModel", "addEntry", "(IIIZI)I"⟩, 65) := ⟨⟨by decide +kernel, by decide +kernel⟩, List.mem_of_getElem? (i := 941) (by decide +kernel), List.mem_of_getElem? (i := 1297) (by decide +kernel), List.mem_of_getElem? (i := 1298) (by decide +kernel)⟩
theorem lw_p29 : lw_okq (⟨"WordGridModel", "placeOf", "(II)I"⟩, 65) := ⟨⟨by decide +kernel, by decide +kernel⟩, List.mem_of_getElem? (i := 941) (by decide +kernel), List.mem_of_getElem? (i := 1309) (by decide +kernel), List.mem_of_getElem? (i := 1310) (by decide +kernel)⟩
theorem lw_p30 : lw_okq (⟨"WordGridModel", "beginSearch", "(II)Z"⟩, 65) := ⟨⟨by decide +kernel, by decide +kernel⟩, List.mem_of_getElem? (i := 941) (by decide +kernel), List.mem_of_getElem? (i := 1321) (by decide +kernel), List.mem_of_getElem? (i := 1322) (by decide +kernel)⟩
theorem lw_p31 : lw_okq (⟨"WordGridModel", "findCandidates", "(III)Z"⟩, 65) := ⟨⟨by decide +kernel, by decide +kernel⟩, List.mem_of_getElem? (i := 941) (by decide +kernel), List.mem_of_getElem? (i := 1325) (by decide +kernel), List.mem_of_getElem? (i := 1326) (by decide +kernel)⟩
def lw_privs_2 : List (MethodName × Nat) := [(⟨"WordGridModel", "plain", "(IIJ)V"⟩, 65), (⟨"WordGridModel", "began", "(I)V"⟩, 65), (⟨"WordGridModel", "pop", "(J)V"⟩, 65), (⟨"WordGridModel", "patterned", "(IIIJI)V"⟩, 65), (⟨"WordGridModel", "fits", "(IJ)Z"⟩, 65), (⟨"WordGridModel", "joined", "(IIIJI)V"⟩, 65), (⟨"WordGridModel", "metLong", "(I)J"⟩, 65), (⟨"WordGridModel", "findEntries", "(I)V"⟩, 65), (⟨"WordGridModel", "begins", "(IIIZ)Z"⟩, 65), (⟨"WordGridModel", "goesOn", "(IIIZ)Z"⟩, 65), (⟨"WordGridModel", "isWhite", "(III)Z"⟩, 65), (⟨"WordGridModel", "isThere", "(III)Z"⟩, 65), (⟨"WordGridModel", "addEntry", "(IIIZI)I"⟩, 65), (⟨"WordGridModel", "placeOf", "(II)I"⟩, 65), (⟨"WordGridModel", "beginSearch", "(II)Z"⟩, 65), (⟨"WordGridModel", "findCandidates", "(III)Z"⟩, 65)]
theorem lw_r2 : ∀ q ∈ lw_privs_2, lw_okq q := List.forall_mem_cons.mpr ⟨lw_p16, List.forall_mem_cons.mpr ⟨lw_p17, List.forall_mem_cons.mpr ⟨lw_p18, List.forall_mem_cons.mpr ⟨lw_p19, List.forall_mem_cons.mpr ⟨lw_p20, List.forall_mem_cons.mpr ⟨lw_p21, List.forall_mem_cons.mpr ⟨lw_p22, List.forall_mem_cons.mpr ⟨lw_p23, List.forall_mem_cons.mpr ⟨lw_p24, List.forall_mem_cons.mpr ⟨lw_p25, List.forall_mem_cons.mpr ⟨lw_p26, List.forall_mem_cons.mpr ⟨lw_p27, List.forall_mem_cons.mpr ⟨lw_p28, List.forall_mem_cons.mpr ⟨lw_p29, List.forall_mem_cons.mpr ⟨lw_p30, List.forall_mem_cons.mpr ⟨lw_p31, fun _ h => absurd h List.not_mem_nil⟩⟩⟩⟩⟩⟩⟩⟩⟩⟩⟩⟩⟩⟩⟩⟩
theorem lw_p32 : lw_okq (⟨"WordGridModel", "agrees", "(IIJ)Z"⟩, 65) := ⟨⟨by decide +kernel, by decide +kernel⟩, List.mem_of_getElem? (i := 941) (by decide +kernel), List.mem_of_getElem? (i := 1329) (by decide +kernel), List.mem_of_getElem? (i := 1330) (by decide +kernel)⟩
theorem lw_p33 : lw_okq (⟨"WordGridModel", "addCandidate", "(IJI)V"⟩, 65) := ⟨⟨by decide +kernel, by decide +kernel⟩, List.mem_of_getElem? (i := 941) (by decide +kernel), List.mem_of_getElem? (i := 1333) (by decide +kernel), List.mem_of_getElem? (i := 1334) (by decide +kernel)⟩
theorem lw_p34 : lw_okq (⟨"WordGridModel", "fillOn", "(II)I"⟩, 65) := ⟨⟨by decide +kernel, by decide +kernel⟩, List.mem_of_getElem? (i := 941) (by decide +kernel), List.mem_of_getElem? (i := 1340) (by decide +kernel), List.mem_of_getElem? (i := 1341) (by decide +kernel)⟩
theorem lw_p35 : lw_okq (⟨"WordGridModel", "goes", "(III)I"⟩, 65) := ⟨⟨by decide +kernel, by decide +kernel⟩, List.mem_of_getElem? (i := 941) (by decide +kernel), List.mem_of_getElem? (i := 1344) (by decide +kernel), List.mem_of_getElem? (i := 1345) (by decide +kernel)⟩
theorem lw_p36 : lw_okq (⟨"WordGridModel", "remember", "(I)V"⟩, 65) := ⟨⟨by decide +kernel, by decide +kernel⟩, List.mem_of_getElem? (i := 941) (by decide +kernel), List.mem_of_getElem? (i := 1348) (by decide +kernel), List.mem_of_getElem? (i := 1349) (by decide +kernel)⟩
theorem lw_p37 : lw_okq (⟨"WordGridModel", "takeBack", "(I)V"⟩, 65) := ⟨⟨by decide +kernel, by decide +kernel⟩, List.mem_of_getElem? (i := 941) (by decide +kernel), List.mem_of_getElem? (i := 1352) (by decide +kernel), List.mem_of_getElem? (i := 1353) (by decide +kernel)⟩
theorem lw_p38 : lw_okq (⟨"WordGridModel", "isTaken", "(IJ)Z"⟩, 65) := ⟨⟨by decide +kernel, by decide +kernel⟩, List.mem_of_getElem? (i := 941) (by decide +kernel), List.mem_of_getElem? (i := 1356) (by decide +kernel), List.mem_of_getElem? (i := 1357) (by decide +kernel)⟩
theorem lw_p39 : lw_okq (⟨"WordGridModel", "setWord", "(IIJ)V"⟩, 65) := ⟨⟨by decide +kernel, by decide +kernel⟩, List.mem_of_getElem? (i := 941) (by decide +kernel), List.mem_of_getElem? (i := 1360) (by decide +kernel), List.mem_of_getElem? (i := 1361) (by decide +kernel)⟩
theorem lw_p40 : lw_okq (⟨"WordGridModel", "whites", "(II)I"⟩, 65) := ⟨⟨by decide +kernel, by decide +kernel⟩, List.mem_of_getElem? (i := 941) (by decide +kernel), List.mem_of_getElem? (i := 1384) (by decide +kernel), List.mem_of_getElem? (i := 1385) (by decide +kernel)⟩
theorem lw_p41 : lw_okq (⟨"WordGridModel", "entriesOver", "(I)I"⟩, 65) := ⟨⟨by decide +kernel, by decide +kernel⟩, List.mem_of_getElem? (i := 941) (by decide +kernel), List.mem_of_getElem? (i := 1388) (by decide +kernel), List.mem_of_getElem? (i := 1389) (by decide +kernel)⟩
theorem lw_p42 : lw_okq (⟨"WordGridModel", "islands", "(I)I"⟩, 65) := ⟨⟨by decide +kernel, by decide +kernel⟩, List.mem_of_getElem? (i := 941) (by decide +kernel), List.mem_of_getElem? (i := 1392) (by decide +kernel), List.mem_of_getElem? (i := 1393) (by decide +kernel)⟩
theorem lw_p43 : lw_okq (⟨"WordGridModel", "unite", "(II)Z"⟩, 65) := ⟨⟨by decide +kernel, by decide +kernel⟩, List.mem_of_getElem? (i := 941) (by decide +kernel), List.mem_of_getElem? (i := 1396) (by decide +kernel), List.mem_of_getElem? (i := 1397) (by decide +kernel)⟩
theorem lw_p44 : lw_okq (⟨"WordGridModel", "shortest", "()I"⟩, 65) := ⟨⟨by decide +kernel, by decide +kernel⟩, List.mem_of_getElem? (i := 941) (by decide +kernel), List.mem_of_getElem? (i := 1400) (by decide +kernel), List.mem_of_getElem? (i := 1401) (by decide +kernel)⟩
theorem lw_p45 : lw_okq (⟨"WordGridModel", "isTurnedLike", "(I)Z"⟩, 65) := ⟨⟨by decide +kernel, by decide +kernel⟩, List.mem_of_getElem? (i := 941) (by decide +kernel), List.mem_of_getElem? (i := 1404) (by decide +kernel), List.mem_of_getElem? (i := 1405) (by decide +kernel)⟩
theorem lw_p46 : lw_okq (⟨"WordGridModel", "bringWrong", "(IIIIIII)I"⟩, 65) := ⟨⟨by decide +kernel, by decide +kernel⟩, List.mem_of_getElem? (i := 941) (by decide +kernel), List.mem_of_getElem? (i := 1412) (by decide +kernel), List.mem_of_getElem? (i := 1413) (by decide +kernel)⟩
theorem lw_p47 : lw_okq (⟨"WordGridModel", "rowWrong", "(II)I"⟩, 65) := ⟨⟨by decide +kernel, by decide +kernel⟩, List.mem_of_getElem? (i := 941) (by decide +kernel), List.mem_of_getElem? (i := 1416) (by decide +kernel), List.mem_of_getElem? (i := 1417) (by decide +kernel)⟩
def lw_privs_3 : List (MethodName × Nat) := [(⟨"WordGridModel", "agrees", "(IIJ)Z"⟩, 65), (⟨"WordGridModel", "addCandidate", "(IJI)V"⟩, 65), (⟨"WordGridModel", "fillOn", "(II)I"⟩, 65), (⟨"WordGridModel", "goes", "(III)I"⟩, 65), (⟨"WordGridModel", "remember", "(I)V"⟩, 65), (⟨"WordGridModel", "takeBack", "(I)V"⟩, 65), (⟨"WordGridModel", "isTaken", "(IJ)Z"⟩, 65), (⟨"WordGridModel", "setWord", "(IIJ)V"⟩, 65), (⟨"WordGridModel", "whites", "(II)I"⟩, 65), (⟨"WordGridModel", "entriesOver", "(I)I"⟩, 65), (⟨"WordGridModel", "islands", "(I)I"⟩, 65), (⟨"WordGridModel", "unite", "(II)Z"⟩, 65), (⟨"WordGridModel", "shortest", "()I"⟩, 65), (⟨"WordGridModel", "isTurnedLike", "(I)Z"⟩, 65), (⟨"WordGridModel", "bringWrong", "(IIIIIII)I"⟩, 65), (⟨"WordGridModel", "rowWrong", "(II)I"⟩, 65)]
theorem lw_r3 : ∀ q ∈ lw_privs_3, lw_okq q := List.forall_mem_cons.mpr ⟨lw_p32, List.forall_mem_cons.mpr ⟨lw_p33, List.forall_mem_cons.mpr ⟨lw_p34, List.forall_mem_cons.mpr ⟨lw_p35, List.forall_mem_cons.mpr ⟨lw_p36, List.forall_mem_cons.mpr ⟨lw_p37, List.forall_mem_cons.mpr ⟨lw_p38, List.forall_mem_cons.mpr ⟨lw_p39, List.forall_mem_cons.mpr ⟨lw_p40, List.forall_mem_cons.mpr ⟨lw_p41, List.forall_mem_cons.mpr ⟨lw_p42, List.forall_mem_cons.mpr ⟨lw_p43, List.forall_mem_cons.mpr ⟨lw_p44, List.forall_mem_cons.mpr ⟨lw_p45, List.forall_mem_cons.mpr ⟨lw_p46, List.forall_mem_cons.mpr ⟨lw_p47, fun _ h => absurd h List.not_mem_nil⟩⟩⟩⟩⟩⟩⟩⟩⟩⟩⟩⟩⟩⟩⟩⟩
theorem lw_p48 : lw_okq (⟨"WordGridModel", "bring", "(IIIIIII)V"⟩, 65) := ⟨⟨by decide +kernel, by decide +kernel⟩, List.mem_of_getElem? (i := 941) (by decide +kernel), List.mem_of_getElem? (i := 1420) (by decide +kernel), List.mem_of_getElem? (i := 1421) (by decide +kernel)⟩
theorem lw_p49 : lw_okq (⟨"WordGridModel", "hold", "(I)V"⟩, 65) := ⟨⟨by decide +kernel, by decide +kernel⟩, List.mem_of_getElem? (i := 941) (by decide +kernel), List.mem_of_getElem? (i := 1424) (by decide +kernel), List.mem_of_getElem? (i := 1425) (by decide +kernel)⟩
theorem lw_p50 : lw_okq (⟨"WordGridModel", "unfit", "(I)I"⟩, 65) := ⟨⟨by decide +kernel, by decide +kernel⟩, List.mem_of_getElem? (i := 941) (by decide +kernel), List.mem_of_getElem? (i := 1436) (by decide +kernel), List.mem_of_getElem? (i := 1437) (by decide +kernel)⟩
theorem lw_p51 : lw_okq (⟨"WordGridModel", "clear", "(I)V"⟩, 65) := ⟨⟨by decide +kernel, by decide +kernel⟩, List.mem_of_getElem? (i := 941) (by decide +kernel), List.mem_of_getElem? (i := 1440) (by decide +kernel), List.mem_of_getElem? (i := 1441) (by decide +kernel)⟩
def lw_privs_4 : List (MethodName × Nat) := [(⟨"WordGridModel", "bring", "(IIIIIII)V"⟩, 65), (⟨"WordGridModel", "hold", "(I)V"⟩, 65), (⟨"WordGridModel", "unfit", "(I)I"⟩, 65), (⟨"WordGridModel", "clear", "(I)V"⟩, 65)]
theorem lw_r4 : ∀ q ∈ lw_privs_4, lw_okq q := List.forall_mem_cons.mpr ⟨lw_p48, List.forall_mem_cons.mpr ⟨lw_p49, List.forall_mem_cons.mpr ⟨lw_p50, List.forall_mem_cons.mpr ⟨lw_p51, fun _ h => absurd h List.not_mem_nil⟩⟩⟩⟩
def lw_privs : List (MethodName × Nat) := lw_privs_1 ++ (lw_privs_2 ++ (lw_privs_3 ++ (lw_privs_4)))
def lw_tbl : List Cond := k2_sels lw_privs ++ tables_1
theorem lw_privs_ok : ∀ q ∈ lw_privs, lw_okq q := by
  show ∀ q ∈ lw_privs_1 ++ (lw_privs_2 ++ (lw_privs_3 ++ (lw_privs_4))), lw_okq q
  exact List.forall_mem_append.mpr ⟨lw_r1, List.forall_mem_append.mpr ⟨lw_r2, List.forall_mem_append.mpr ⟨lw_r3, lw_r4⟩⟩⟩
end
section
/-! A SMALL MACHINE: places for addresses, blocks for jumps; its runs are runs of the machine (shown behind). -/
abbrev sm_I : Type := Jvm.ClassFile.Instr
abbrev sm_L : Type := List (Nat × Value)
abbrev sm_W : Type := List va_E
abbrev sm_O : Type := Option (Option Value × sm_W)
def sm_get : sm_L → Nat → Option Value
  | [], _ => none
  | (k, v) :: r, i => bif Nat.beq k i then some v else sm_get r i
def sm_put (lv : sm_L) (i : Nat) (v : Value) : sm_L := (i, v) :: lv.filter (fun q => !(q.1 == i) && !(q.1 + 1 == i && q.2.category == 2))
def sm_put2 (lv : sm_L) (i : Nat) (v : Value) : sm_L := (i, v) :: lv.filter (fun q => !(q.1 == i) && (!(q.1 == i + 1) && !(q.1 + 1 == i && q.2.category == 2)))
/-- kinds of objects: 0 .. 11; 12 all lists' common one; 13 any -/
def sm_sub (ci d : Nat) : Bool := Nat.beq ci d || (Nat.beq d 12 && (Nat.ble 7 ci && Nat.ble ci 11)) || (Nat.beq d 7 && (Nat.beq ci 8 || Nat.beq ci 9)) || Nat.beq d 13
def sm_fd (w : sm_W) (a n : Nat) : Option Value := match w[a]? with
  | some (.inr (ci, fs)) => bif sm_sub ci (n / 512) then fs[n / 4 % 128]? else none
  | _ => none
def sm_fok (t : Nat) (v : Value) : Bool := match v with
  | .int x => Nat.beq t 0 || (Nat.beq t 2 && (x == 0 || x == 1))
  | .long _ => Nat.beq t 1
  | .ref _ => Nat.beq t 3
  | .null => Nat.beq t 3
  | _ => false
def sm_pf (w : sm_W) (a n : Nat) (v : Value) : Option sm_W := match w[a]? with
  | some (.inr (ci, fs)) => bif sm_sub ci (n / 512) && (Nat.ble (n / 4 % 128 + 1) fs.length && sm_fok (n % 4) v) then some (w.set a (.inr (ci, fs.set (n / 4 % 128) v))) else none
  | _ => none
def sm_out (i : Int32) (n : Nat) : Prop := i < 0 ∨ n ≤ i.toNatClampNeg
/-- what a new object of a kind holds -/
def sm_dflt : List (List Value) := [
  [.null, .null, .null, .null, .null, .null, .null, .int 0, .int 0, .null, .int 0, .int 0, .int 0, .int 0],
  [.null, .null, .int 0, .int 0, .int 0, .int 0],
  [.null, .null, .null, .int 0],
  [.null, .null, .null, .null, .int 0],
  [.null, .null, .null, .null, .null, .null, .null, .null, .null, .null, .null, .null, .int 0, .int 0, .int 0, .int 0, .int 0],
  [.null, .null, .null, .null, .int 0, .int 0, .int 0, .int 0, .int 0],
  [.null, .null, .null, .null, .null, .null, .null, .null, .null, .int 0, .null, .null, .null, .null, .null, .null, .null, .null, .null, .int 0, .null, .null, .int 0, .int 0, .int 0, .null, .null, .null, .null, .null, .long 0, .int 0, .int 0, .null, .null, .null, .null, .null, .int 0, .int 0, .null, .null, .null, .null, .null, .null, .null, .null, .null, .null, .null, .null, .null, .int 0, .int 0, .int 0, .int 0, .null, .int 0, .int 0, .null, .int 0, .null, .null, .null],
  [.int 0, .null, .null, .int 0],
  [.int 0, .null, .null, .int 0, .null],
  [.int 0, .null, .null, .int 0],
  [.int 0, .null, .null, .int 0, .int 0, .long 0, .long 0],
  [.int 0, .null, .null, .int 0, .int 0]]
def sm_op (L : Nat) (xs : Nat → Int32) (i : sm_I) (lv : sm_L) (st : List Value) (w : sm_W) : Option (sm_L × List Value × sm_W) :=
  match i with
  | .iconst n => some (lv, .int (Int32.ofInt n) :: st, w)
  | .ldc2_w n => some (lv, .long (Int64.ofNat n) :: st, w)
  | .aconst_null => some (lv, .null :: st, w)
  | .iload k => (match sm_get lv k with | some (.int x) => some (lv, .int x :: st, w) | _ => none)
  | .lload k => (match sm_get lv k with | some (.long x) => some (lv, .long x :: st, w) | _ => none)
  | .aload k => (match sm_get lv k with | some (.ref x) => some (lv, .ref x :: st, w) | some .null => some (lv, .null :: st, w) | some (.retAddr x) => some (lv, .retAddr x :: st, w) | _ => none)
  | .istore k => (match st with | .int x :: r => some (sm_put lv k (.int x), r, w) | _ => none)
  | .lstore k => (match st with | .long x :: r => some (sm_put2 lv k (.long x), r, w) | _ => none)
  | .astore k => (match st with | .ref x :: r => some (sm_put lv k (.ref x), r, w) | .null :: r => some (sm_put lv k .null, r, w) | _ => none)
  | .iinc k n => (match sm_get lv k with | some (.int x) => some (sm_put lv k (.int (x + Int32.ofInt n)), st, w) | _ => none)
  | .iadd => (match st with | .int y :: .int x :: r => some (lv, .int (x + y) :: r, w) | _ => none)
  | .isub => (match st with | .int y :: .int x :: r => some (lv, .int (x - y) :: r, w) | _ => none)
  | .imul => (match st with | .int y :: .int x :: r => some (lv, .int (x * y) :: r, w) | _ => none)
  | .idiv => (match st with | .int y :: .int x :: r => if y = 0 then none else some (lv, .int (x / y) :: r, w) | _ => none)
  | .irem => (match st with | .int y :: .int x :: r => if y = 0 then none else some (lv, .int (x - x / y * y) :: r, w) | _ => none)
  | .iand => (match st with | .int y :: .int x :: r => some (lv, .int (x &&& y) :: r, w) | _ => none)
  | .ior => (match st with | .int y :: .int x :: r => some (lv, .int (x ||| y) :: r, w) | _ => none)
  | .ixor => (match st with | .int y :: .int x :: r => some (lv, .int (x ^^^ y) :: r, w) | _ => none)
  | .ishl => (match st with | .int y :: .int x :: r => some (lv, .int (x <<< (y &&& 31)) :: r, w) | _ => none)
  | .ishr => (match st with | .int y :: .int x :: r => some (lv, .int (x >>> (y &&& 31)) :: r, w) | _ => none)
  | .ladd => (match st with | .long y :: .long x :: r => some (lv, .long (x + y) :: r, w) | _ => none)
  | .lsub => (match st with | .long y :: .long x :: r => some (lv, .long (x - y) :: r, w) | _ => none)
  | .lmul => (match st with | .long y :: .long x :: r => some (lv, .long (x * y) :: r, w) | _ => none)
  | .land => (match st with | .long y :: .long x :: r => some (lv, .long (x &&& y) :: r, w) | _ => none)
  | .lor => (match st with | .long y :: .long x :: r => some (lv, .long (x ||| y) :: r, w) | _ => none)
  | .lxor => (match st with | .long y :: .long x :: r => some (lv, .long (x ^^^ y) :: r, w) | _ => none)
  | .lshl => (match st with | .int y :: .long x :: r => some (lv, .long (x <<< (y.toInt64 &&& 63)) :: r, w) | _ => none)
  | .lushr => (match st with | .int y :: .long x :: r => some (lv, .long (x.toUInt64 >>> (y.toInt64.toUInt64 &&& Int64.toUInt64 63)).toInt64 :: r, w) | _ => none)
  | .lcmp => (match st with | .long y :: .long x :: r => some (lv, .int (lg_cmp x y) :: r, w) | _ => none)
  | .i2l => (match st with | .int x :: r => some (lv, .long x.toInt64 :: r, w) | _ => none)
  | .l2i => (match st with | .long x :: r => some (lv, .int x.toInt32 :: r, w) | _ => none)
  | .dup => (match st with | .int x :: r => some (lv, .int x :: .int x :: r, w) | .ref x :: r => some (lv, .ref x :: .ref x :: r, w) | _ => none)
  | .dup2 => (match st with | .int y :: .ref x :: r => some (lv, .int y :: .ref x :: .int y :: .ref x :: r, w) | _ => none)
  | .pop => (match st with | .int _ :: r => some (lv, r, w) | _ => none)
  | .getfield n => (match st with | .ref a :: r => (match sm_fd w a n with | some v => some (lv, v :: r, w) | none => none) | _ => none)
  | .putfield n => (match st with | v :: .ref a :: r => (match sm_pf w a n v with | some w' => some (lv, r, w') | none => none) | _ => none)
  | .iaload => (match st with
    | .int i :: .ref a :: r => (match w[a]? with | some (.inl (0, n, .inl f)) => if i < 0 ∨ n ≤ i.toNatClampNeg then none else some (lv, .int (f i.toNatClampNeg) :: r, w) | _ => none)
    | .int i :: .retAddr _ :: r => if i < 0 ∨ L ≤ i.toNatClampNeg then none else some (lv, .int (xs i.toNatClampNeg) :: r, w)
    | _ => none)
  | .baload => (match st with
    | .int i :: .ref a :: r => (match w[a]? with | some (.inl (2, n, .inl f)) => if i < 0 ∨ n ≤ i.toNatClampNeg then none else some (lv, .int (f i.toNatClampNeg) :: r, w) | _ => none)
    | _ => none)
  | .laload => (match st with
    | .int i :: .ref a :: r => (match w[a]? with | some (.inl (1, n, .inr (.inl f))) => if i < 0 ∨ n ≤ i.toNatClampNeg then none else some (lv, .long (f i.toNatClampNeg) :: r, w) | _ => none)
    | _ => none)
  | .aaload => (match st with
    | .int i :: .ref a :: r => (match w[a]? with | some (.inl (t, n, .inr (.inr (.inr (.inr f))))) => bif Nat.beq t 3 || Nat.beq t 4 then (if i < 0 ∨ n ≤ i.toNatClampNeg then none else some (lv, va_rf (f i.toNatClampNeg) :: r, w)) else none | _ => none)
    | _ => none)
  | .iastore => (match st with
    | .int x :: .int i :: .ref a :: r => (match w[a]? with | some (.inl (0, n, .inl f)) => if i < 0 ∨ n ≤ i.toNatClampNeg then none else some (lv, r, w.set a (.inl (0, n, .inl (upd f i.toNatClampNeg x)))) | _ => none)
    | _ => none)
  | .bastore => (match st with
    | .int x :: .int i :: .ref a :: r => (match w[a]? with | some (.inl (2, n, .inl f)) => if (i < 0 ∨ n ≤ i.toNatClampNeg) ∨ ¬ (x = 0 ∨ x = 1) then none else some (lv, r, w.set a (.inl (2, n, .inl (upd f i.toNatClampNeg x)))) | _ => none)
    | _ => none)
  | .lastore => (match st with
    | .long x :: .int i :: .ref a :: r => (match w[a]? with | some (.inl (1, n, .inr (.inl f))) => if i < 0 ∨ n ≤ i.toNatClampNeg then none else some (lv, r, w.set a (.inl (1, n, .inr (.inl (vp_updL f i.toNatClampNeg x))))) | _ => none)
    | _ => none)
  | .aastore => (match st with
    | .ref v :: .int i :: .ref a :: r => (match w[a]?, w[v]? with
      | some (.inl (t, n, .inr (.inr (.inr (.inr f))))), some (.inr (ci, _)) => bif (Nat.beq t 3 && Nat.beq ci 5) || (Nat.beq t 4 && sm_sub ci 12) then (if i < 0 ∨ n ≤ i.toNatClampNeg then none else some (lv, r, w.set a (.inl (t, n, .inr (.inr (.inr (.inr (va_up f i.toNatClampNeg (some v))))))))) else none
      | _, _ => none)
    | .null :: .int i :: .ref a :: r => (match w[a]? with
      | some (.inl (t, n, .inr (.inr (.inr (.inr f))))) => bif Nat.beq t 4 then (if i < 0 ∨ n ≤ i.toNatClampNeg then none else some (lv, r, w.set a (.inl (t, n, .inr (.inr (.inr (.inr (va_up f i.toNatClampNeg none)))))))) else none
      | _ => none)
    | _ => none)
  | .arraylength => (match st with
    | .ref a :: r => (match w[a]? with | some (.inl (0, n, .inl _)) => some (lv, .int (Int32.ofNat n) :: r, w) | _ => none)
    | .retAddr _ :: r => some (lv, .int (Int32.ofNat L) :: r, w)
    | _ => none)
  | .new ci => (match sm_dflt[ci]? with | some fs => some (lv, .ref w.length :: st, w ++ [.inr (ci, fs)]) | none => none)
  | .newarray t => (match st with
    | .int n :: r => if n < 0 ∨ 100000 ≤ n then none else (match t with
      | .int => some (lv, .ref w.length :: r, w ++ [.inl (0, n.toNatClampNeg, .inl (fun _ => 0))])
      | .long => some (lv, .ref w.length :: r, w ++ [.inl (1, n.toNatClampNeg, .inr (.inl (fun _ => 0)))])
      | .boolean => some (lv, .ref w.length :: r, w ++ [.inl (2, n.toNatClampNeg, .inl (fun _ => 0))])
      | _ => none)
    | _ => none)
  | .anewarray t => (match st with
    | .int n :: r => if n < 0 ∨ 100000 ≤ n then none else bif Nat.beq t 3 || Nat.beq t 4 then some (lv, .ref w.length :: r, w ++ [.inl (t, n.toNatClampNeg, .inr (.inr (.inr (.inr (fun _ => none)))))]) else none
    | _ => none)
  | .checkcast n => (match st with
    | .ref a :: r => (match w[a]? with | some (.inr (ci, _)) => bif sm_sub ci n then some (lv, .ref a :: r, w) else none | _ => none)
    | _ => none)
  | .instanceof n => (match st with
    | .ref a :: r => (match w[a]? with | some (.inr (ci, _)) => bif sm_sub ci 12 then some (lv, .int (bif sm_sub ci n then 1 else 0) :: r, w) else none | _ => none)
    | _ => none)
  | _ => none
def sm_br (c : Jvm.ClassFile.Cond) (x y : Int32) (a b : sm_O) : sm_O := match c with
  | .eq => if x = y then a else b
  | .ne => if x = y then b else a
  | .lt => if x < y then a else b
  | .ge => if y ≤ x then a else b
  | .gt => if y < x then a else b
  | .le => if x ≤ y then a else b
def sm_copy (as : List Value) (w : sm_W) : sm_O := match as with
  | [.ref a, .int sp, .ref b, .int dp, .int n] => (match w[a]?, w[b]? with
    | some (.inl (0, n0, .inl f)), some (.inl (0, n1, .inl g)) => if sp < 0 ∨ dp < 0 ∨ n < 0 ∨ n0 < sp.toNatClampNeg + n.toNatClampNeg ∨ n1 < dp.toNatClampNeg + n.toNatClampNeg then none else some (none, w.set b (.inl (0, n1, .inl (va_cpy f g sp.toNatClampNeg dp.toNatClampNeg n.toNatClampNeg))))
    | _, _ => none)
  | _ => none
def sm_words (st : List Value) : Nat := (st.map fun v => v.category).sum
end
section
/-! printed by wip/gen.py: the program of the small machine, block by block, and where the words stand -/
def q_D_init : List (List sm_I) := [[.aload 0, .invokespecial 102865, .aload 0, .new 1, .dup, .invokespecial 529, .putfield 3, .aload 0, .new 2, .dup, .aload 0, .getfield 3, .invokespecial 802, .putfield 7, .aload 0, .iconst (4), .anewarray 3, .putfield 11, .aload 0, .new 3, .dup, .invokespecial 1073, .putfield 15, .aload 0, .new 4, .dup, .aload 0, .getfield 3, .aload 0, .getfield 7, .invokespecial 1347, .putfield 19, .aload 0, .new 4, .dup, .aload 0, .getfield 3, .aload 0, .getfield 7, .invokespecial 1347, .putfield 23, .aload 0, .iconst (126), .newarray .long, .putfield 27, .aload 0, .iconst (4), .newarray .int, .putfield 39, .iconst (0), .istore 1, .goto_w 1],
  [.iload 1, .iconst (4), .if_icmp .ge 3],
  [.aload 0, .getfield 11, .iload 1, .new 5, .dup, .invokespecial 1617, .aastore, .iinc 1 (1), .goto 1],
  [.return_]]
def q_Object_init : List (List sm_I) := [[.return_]]
def q_Notes_init : List (List sm_I) := [[.aload 0, .invokespecial 102865, .aload 0, .iconst (100), .newarray .int, .putfield 515, .aload 0, .iconst (6), .newarray .int, .putfield 519, .return_]]
def q_Shelf_init : List (List sm_I) := [[.aload 0, .invokespecial 102865, .aload 0, .iconst (16), .anewarray 4, .putfield 1031, .aload 0, .iconst (16), .newarray .int, .putfield 1035, .aload 0, .aload 1, .putfield 1027, .return_]]
def q_EntryTable_init : List (List sm_I) := [[.aload 0, .invokespecial 102865, .aload 0, .iconst (42), .newarray .int, .putfield 1539, .aload 0, .iconst (42), .newarray .boolean, .putfield 1543, .aload 0, .iconst (42), .newarray .int, .putfield 1547, .aload 0, .iconst (42), .newarray .int, .putfield 1551, .return_]]
def q_Search_init : List (List sm_I) := [[.aload 0, .invokespecial 102865, .aload 0, .new 3, .dup, .invokespecial 1073, .putfield 2059, .aload 0, .iconst (1680), .newarray .long, .putfield 2063, .aload 0, .iconst (42), .newarray .int, .putfield 2067, .aload 0, .iconst (40), .newarray .int, .putfield 2071, .aload 0, .iconst (42), .newarray .int, .putfield 2075, .aload 0, .iconst (49), .newarray .int, .putfield 2079, .aload 0, .iconst (42), .newarray .int, .putfield 2083, .aload 0, .iconst (42), .newarray .long, .putfield 2087, .aload 0, .iconst (42), .newarray .long, .putfield 2091, .aload 0, .iconst (42), .newarray .long, .putfield 2095, .aload 0, .aload 1, .putfield 2051, .aload 0, .aload 2, .putfield 2055, .return_]]
def q_Grid_init : List (List sm_I) := [[.aload 0, .invokespecial 102865, .aload 0, .iconst (49), .newarray .int, .putfield 2563, .aload 0, .iconst (7), .newarray .int, .putfield 2567, .aload 0, .iconst (49), .newarray .int, .putfield 2571, .aload 0, .iconst (49), .newarray .int, .putfield 2575, .aload 0, .iconst (Int.negSucc 0), .putfield 2588, .aload 0, .iconst (Int.negSucc 0), .putfield 2592, .return_]]
def q_D_grid : List (List sm_I) := [[.aload 0, .getfield 3, .invokevirtual 2065, .iload 1, .invokestatic 2545, .ifCond .eq 3],
  [.iload 2, .iconst (7), .if_icmp .gt 3],
  [.iload 3, .iconst (7), .if_icmp .le 4],
  [.iconst (Int.negSucc 0), .ireturn],
  [.iload 2, .ifCond .lt 6],
  [.iload 3, .ifCond .ge 7],
  [.aload 0, .getfield 3, .iconst (4), .invokevirtual 2578, .ireturn],
  [.aload 0, .getfield 11, .iload 1, .aaload, .iload 2, .iload 3, .invokevirtual 3155, .aload 0, .iconst (0), .putfield 46, .iload 2, .ireturn]]
def q_Notes_clear : List (List sm_I) := [[.aload 0, .iconst (0), .putfield 532, .return_]]
def q_D_isGridNumber : List (List sm_I) := [[.iload 0, .ifCond .lt 3],
  [.iload 0, .iconst (4), .if_icmp .ge 3],
  [.iconst (1), .goto 4],
  [.iconst (0), .goto_w 4],
  [.ireturn]]
def q_Notes_find : List (List sm_I) := [[.aload 0, .iload 1, .putfield 532, .aload 0, .getfield 519, .iload 1, .dup2, .iaload, .iconst (1), .iadd, .iastore, .aload 0, .invokevirtual 2833, .ireturn]]
def q_Notes_answer : List (List sm_I) := [[.iconst (Int.negSucc 9), .aload 0, .getfield 532, .isub, .ireturn]]
def q_Grid_begin : List (List sm_I) := [[.aload 0, .iconst (1), .putfield 2578, .aload 0, .iload 1, .putfield 2580, .aload 0, .iload 2, .putfield 2584, .aload 0, .getfield 2563, .iconst (0), .invokestatic 3570, .aload 0, .getfield 2567, .iload 2, .invokestatic 3570, .aload 0, .iconst (Int.negSucc 0), .putfield 2588, .aload 0, .iconst (Int.negSucc 0), .putfield 2592, .return_]]
def q_Arrays_fill : List (List sm_I) := [[.iconst (0), .istore 2, .aload 0, .arraylength, .istore 3, .goto_w 1],
  [.iload 2, .iload 3, .if_icmp .ge 3],
  [.aload 0, .iload 2, .iload 1, .iastore, .iinc 2 (1), .goto 1],
  [.return_]]
def q_D_cut : List (List sm_I) := [[.aload 0, .getfield 3, .invokevirtual 2065, .iload 1, .invokestatic 2545, .ifCond .eq 2],
  [.iload 3, .iconst (Int.negSucc 0), .if_icmp .ge 3],
  [.iconst (Int.negSucc 0), .ireturn],
  [.aload 0, .getfield 11, .iload 1, .aaload, .astore 4, .aload 4, .iload 2, .invokevirtual 3922, .istore 5, .iload 5, .ifCond .eq 5],
  [.aload 0, .getfield 3, .iload 5, .invokevirtual 2578, .ireturn],
  [.aload 4, .getfield 2567, .iload 2, .iaload, .istore 6, .iload 3, .iload 6, .if_icmp .le 7],
  [.aload 0, .getfield 3, .iconst (2), .invokevirtual 2578, .ireturn],
  [.aload 4, .getfield 2567, .iload 2, .iload 3, .iastore, .aload 0, .iconst (0), .putfield 46, .iload 6, .ireturn]]
def q_Grid_rowRefusal : List (List sm_I) := [[.aload 0, .getfield 2578, .ifCond .ne 2],
  [.iconst (1), .ireturn],
  [.aload 0, .iload 1, .invokevirtual 4178, .ifCond .ne 4],
  [.iconst (2), .ireturn],
  [.aload 0, .getfield 2567, .iload 1, .iaload, .ifCond .ge 6],
  [.iconst (1), .goto 7],
  [.iconst (0), .goto_w 7],
  [.ireturn]]
def q_Grid_hasRow : List (List sm_I) := [[.iload 1, .ifCond .lt 3],
  [.iload 1, .aload 0, .getfield 2580, .if_icmp .ge 3],
  [.iconst (1), .goto 4],
  [.iconst (0), .goto_w 4],
  [.ireturn]]
def q_D_letter : List (List sm_I) := [[.aload 0, .getfield 3, .invokevirtual 2065, .iload 1, .invokestatic 2545, .ifCond .eq 3],
  [.iload 4, .ifCond .lt 3],
  [.iload 4, .iconst (26), .if_icmp .le 4],
  [.iconst (Int.negSucc 0), .ireturn],
  [.aload 0, .getfield 11, .iload 1, .aaload, .astore 5, .aload 5, .iload 2, .iload 3, .invokevirtual 4691, .istore 6, .iload 6, .ifCond .eq 6],
  [.aload 0, .getfield 3, .iload 6, .invokevirtual 2578, .ireturn],
  [.aload 5, .iload 2, .iload 3, .invokevirtual 5203, .istore 7, .iload 7, .iconst (27), .if_icmp .ne 8],
  [.iconst (Int.negSucc 1), .ireturn],
  [.aload 5, .iload 2, .iload 3, .iload 4, .invokevirtual 5460, .aload 0, .iconst (0), .putfield 46, .iload 7, .ireturn]]
def q_Grid_squareRefusal : List (List sm_I) := [[.aload 0, .iload 1, .invokevirtual 3922, .istore 3, .iload 3, .ifCond .eq 2],
  [.iload 3, .ireturn],
  [.aload 0, .iload 1, .iload 2, .iconst (1), .invokevirtual 4948, .ifCond .eq 4],
  [.iconst (0), .goto 5],
  [.iconst (2), .goto_w 5],
  [.ireturn]]
def q_Grid_hasPlaces : List (List sm_I) := [[.iload 2, .ifCond .lt 3],
  [.iload 2, .aload 0, .getfield 2567, .iload 1, .iaload, .iload 3, .isub, .if_icmp .gt 3],
  [.iconst (1), .goto 4],
  [.iconst (0), .goto_w 4],
  [.ireturn]]
def q_Grid_signOf : List (List sm_I) := [[.aload 0, .getfield 2563, .iload 1, .iconst (7), .imul, .iload 2, .iadd, .iaload, .iconst (31), .iand, .ireturn]]
def q_Grid_putSign : List (List sm_I) := [[.iload 1, .iconst (7), .imul, .iload 2, .iadd, .istore 4, .aload 0, .getfield 2563, .iload 4, .aload 0, .getfield 2563, .iload 4, .iaload, .iconst (Int.negSucc 31), .iand, .iload 3, .ior, .iastore, .return_]]
def q_D_black : List (List sm_I) := [[.aload 0, .getfield 3, .invokevirtual 2065, .iload 1, .invokestatic 2545, .ifCond .ne 2],
  [.iconst (Int.negSucc 0), .ireturn],
  [.aload 0, .getfield 11, .iload 1, .aaload, .astore 5, .aload 5, .iload 2, .iload 3, .invokevirtual 4691, .istore 6, .iload 6, .ifCond .eq 4],
  [.aload 0, .getfield 3, .iload 6, .invokevirtual 2578, .ireturn],
  [.aload 5, .iload 2, .iload 3, .invokevirtual 5203, .istore 7, .iload 4, .ifCond .eq 6],
  [.aload 5, .iload 2, .iload 3, .iconst (27), .invokevirtual 5460, .goto 8],
  [.iload 7, .iconst (27), .if_icmp .ne 8],
  [.aload 5, .iload 2, .iload 3, .iconst (0), .invokevirtual 5460, .goto_w 8],
  [.aload 0, .iconst (0), .putfield 46, .iload 7, .ireturn]]
def q_D_bar : List (List sm_I) := [[.aload 0, .getfield 3, .invokevirtual 2065, .iload 1, .invokestatic 2545, .ifCond .ne 2],
  [.iconst (Int.negSucc 0), .ireturn],
  [.aload 0, .getfield 11, .iload 1, .aaload, .astore 6, .aload 6, .iload 2, .iload 3, .invokevirtual 4691, .istore 7, .iload 7, .ifCond .eq 4],
  [.aload 0, .getfield 3, .iload 7, .invokevirtual 2578, .ireturn],
  [.iload 4, .ifCond .eq 7],
  [.iload 2, .aload 6, .getfield 2580, .iconst (1), .isub, .if_icmp .ne 9],
  [.goto 8],
  [.iload 3, .aload 6, .getfield 2584, .iconst (1), .isub, .if_icmp .ne 9],
  [.iconst (Int.negSucc 1), .ireturn],
  [.aload 0, .iconst (0), .putfield 46, .aload 6, .iload 2, .iload 3, .iload 4, .ifCond .eq 11],
  [.iconst (64), .goto 12],
  [.iconst (32), .goto_w 12],
  [.iload 5, .invokevirtual 6229, .ifCond .eq 14],
  [.iconst (1), .goto 15],
  [.iconst (0), .goto_w 15],
  [.ireturn]]
def q_Grid_putBar : List (List sm_I) := [[.iload 1, .iconst (7), .imul, .iload 2, .iadd, .istore 5, .aload 0, .getfield 2563, .iload 5, .iaload, .iload 3, .iand, .ifCond .eq 2],
  [.iconst (1), .goto 3],
  [.iconst (0), .goto_w 3],
  [.istore 6, .aload 0, .getfield 2563, .iload 5, .iload 4, .ifCond .eq 5],
  [.aload 0, .getfield 2563, .iload 5, .iaload, .iload 3, .ior, .goto 6],
  [.aload 0, .getfield 2563, .iload 5, .iaload, .iload 3, .iconst (Int.negSucc 0), .ixor, .iand, .goto_w 6],
  [.iastore, .iload 6, .ireturn]]
def q_D_at : List (List sm_I) := [[.aload 0, .getfield 3, .invokevirtual 2065, .iload 1, .invokestatic 2545, .ifCond .ne 2],
  [.iconst (Int.negSucc 0), .ireturn],
  [.aload 0, .getfield 11, .iload 1, .aaload, .iload 2, .iload 3, .invokevirtual 4691, .istore 4, .iload 4, .ifCond .eq 4],
  [.aload 0, .getfield 3, .iload 4, .invokevirtual 2578, .ireturn],
  [.aload 0, .getfield 11, .iload 1, .aaload, .getfield 2563, .iload 2, .iconst (7), .imul, .iload 3, .iadd, .iaload, .ireturn]]
def q_D_list : List (List sm_I) := [[.aload 0, .getfield 3, .invokevirtual 2065, .iload 1, .ifCond .lt 2],
  [.iload 1, .iconst (4), .if_icmp .le 3],
  [.iconst (Int.negSucc 0), .ireturn],
  [.iload 1, .iconst (3), .if_icmp .lt 5],
  [.aload 0, .getfield 7, .iload 2, .invokevirtual 6946, .ifCond .eq 7],
  [.iload 1, .iconst (4), .if_icmp .ne 8],
  [.aload 0, .getfield 7, .iload 3, .invokevirtual 6946, .ifCond .ne 8],
  [.iconst (Int.negSucc 0), .ireturn],
  [.iload 1, .iconst (3), .if_icmp .ne 11],
  [.lload 4, .iconst (27), .invokestatic 7410, .ifCond .ne 11],
  [.iconst (Int.negSucc 0), .ireturn],
  [.aload 0, .getfield 7, .iload 1, .iload 2, .iload 3, .invokevirtual 7460, .istore 6, .aload 0, .getfield 7, .getfield 1036, .iconst (16), .if_icmp .eq 13],
  [.iload 6, .iconst (30), .if_icmp .le 14],
  [.iconst (Int.negSucc 2), .ireturn],
  [.aload 0, .iconst (0), .putfield 46, .aload 0, .getfield 7, .aload 0, .iload 1, .iload 2, .iload 3, .lload 4, .invokevirtual 7685, .iload 6, .invokevirtual 10019, .ireturn]]
def q_Shelf_wasMade : List (List sm_I) := [[.iload 1, .ifCond .lt 3],
  [.iload 1, .aload 0, .getfield 1036, .if_icmp .ge 3],
  [.iconst (1), .goto 4],
  [.iconst (0), .goto_w 4],
  [.ireturn]]
def q_D_lengthUpTo : List (List sm_I) := [[.lload 0, .lstore 3, .iconst (0), .istore 5, .goto_w 1],
  [.iload 5, .iconst (7), .if_icmp .ge 5],
  [.lload 3, .ldc2_w 31, .land, .ldc2_w 0, .lcmp, .ifCond .eq 5],
  [.lload 3, .ldc2_w 31, .land, .iload 2, .i2l, .lcmp, .ifCond .gt 5],
  [.lload 3, .iconst (5), .lushr, .lstore 3, .iinc 5 (1), .goto 1],
  [.lload 3, .ldc2_w 0, .lcmp, .ifCond .ne 8],
  [.iload 5, .iconst (2), .if_icmp .lt 8],
  [.iload 5, .goto 9],
  [.iconst (0), .goto_w 9],
  [.ireturn]]
def q_Shelf_weightOf : List (List sm_I) := [[.iconst (1), .istore 4, .iload 1, .iconst (3), .if_icmp .lt 2],
  [.iload 4, .aload 0, .getfield 1035, .iload 2, .iaload, .iadd, .istore 4, .goto_w 2],
  [.iload 1, .iconst (4), .if_icmp .ne 4],
  [.iload 4, .aload 0, .getfield 1035, .iload 3, .iaload, .iadd, .istore 4, .goto_w 4],
  [.iload 4, .ireturn]]
def q_D_newList : List (List sm_I) := [[.iload 1, .tableswitch 5 (1) 4 #[1, 2, 3, 4]],
  [.new 8, .dup, .aload 0, .getfield 3, .invokespecial 8066, .areturn],
  [.new 9, .dup, .aload 0, .getfield 3, .invokespecial 8850, .areturn],
  [.new 10, .dup, .aload 0, .getfield 3, .aload 0, .getfield 7, .iload 2, .lload 4, .invokespecial 9125, .areturn],
  [.new 11, .dup, .aload 0, .getfield 3, .aload 0, .getfield 7, .iload 2, .iload 3, .invokespecial 9909, .areturn],
  [.new 7, .dup, .iconst (0), .aload 0, .getfield 3, .invokespecial 8307, .areturn]]
def q_Scored_init : List (List sm_I) := [[.aload 0, .iconst (1), .aload 1, .invokespecial 8307, .aload 0, .iconst (40), .newarray .int, .putfield 4115, .return_]]
def q_Plain_init : List (List sm_I) := [[.aload 0, .iload 1, .aload 2, .invokespecial 8643, .aload 0, .iconst (40), .newarray .long, .putfield 3595, .return_]]
def q_WordList_init : List (List sm_I) := [[.aload 0, .invokespecial 102865, .aload 0, .iload 1, .putfield 6144, .aload 0, .aload 2, .putfield 6151, .return_]]
def q_Banned_init : List (List sm_I) := [[.aload 0, .iconst (2), .aload 1, .invokespecial 8307, .return_]]
def q_Pattern_init : List (List sm_I) := [[.aload 0, .iconst (3), .aload 1, .invokespecial 8643, .aload 0, .aload 2, .putfield 5131, .aload 0, .iload 3, .putfield 5132, .aload 0, .lload 4, .iconst (27), .invokestatic 7410, .putfield 5136, .ldc2_w 0, .lstore 6, .iconst (0), .istore 8, .goto_w 1],
  [.iload 8, .aload 0, .getfield 5136, .if_icmp .ge 5],
  [.lload 4, .iload 8, .invokestatic 9458, .istore 9, .iload 9, .iconst (27), .if_icmp .eq 4],
  [.lload 6, .iload 9, .i2l, .iconst (5), .iload 8, .imul, .lshl, .lor, .lstore 6, .goto_w 4],
  [.iinc 8 (1), .goto 1],
  [.aload 0, .lload 6, .putfield 5141, .aload 0, .lload 6, .invokestatic 9713, .putfield 5145, .return_]]
def q_D_letterOf : List (List sm_I) := [[.lload 0, .iconst (5), .iload 2, .imul, .lushr, .ldc2_w 31, .land, .l2i, .ireturn]]
def q_D_maskOf : List (List sm_I) := [[.ldc2_w 0, .lstore 2, .iconst (0), .istore 4, .goto_w 1],
  [.iload 4, .iconst (7), .if_icmp .ge 5],
  [.lload 0, .iload 4, .invokestatic 9458, .ifCond .eq 4],
  [.lload 2, .ldc2_w 31, .iconst (5), .iload 4, .imul, .lshl, .lor, .lstore 2, .goto_w 4],
  [.iinc 4 (1), .goto 1],
  [.lload 2, .lreturn]]
def q_Joined_init : List (List sm_I) := [[.aload 0, .iconst (4), .aload 1, .invokespecial 8643, .aload 0, .aload 2, .putfield 5643, .aload 0, .iload 3, .putfield 5644, .aload 0, .iload 4, .putfield 5648, .return_]]
def q_Shelf_place : List (List sm_I) := [[.aload 0, .getfield 1036, .istore 3, .aload 0, .getfield 1031, .iload 3, .aload 1, .aastore, .aload 0, .getfield 1035, .iload 3, .iload 2, .iastore, .aload 0, .dup, .getfield 1036, .iconst (1), .iadd, .putfield 1036, .iload 3, .ireturn]]
def q_D_drop : List (List sm_I) := [[.aload 0, .getfield 3, .invokevirtual 2065, .aload 0, .getfield 7, .iload 1, .invokevirtual 6946, .ifCond .ne 2],
  [.iconst (Int.negSucc 0), .ireturn],
  [.aload 0, .getfield 7, .iload 1, .invokevirtual 10530, .ifnonnull 4],
  [.aload 0, .getfield 3, .invokevirtual 2833, .ireturn],
  [.aload 0, .getfield 7, .getfield 1031, .iload 1, .aconst_null, .aastore, .aload 0, .iconst (0), .putfield 46, .iconst (1), .ireturn]]
def q_Shelf_wanted : List (List sm_I) := [[.aload 0, .iload 1, .invokevirtual 6946, .ifCond .eq 2],
  [.aload 0, .getfield 1031, .iload 1, .aaload, .goto 3],
  [.aconst_null, .goto_w 3],
  [.astore 2, .aload 2, .ifnonnull 5],
  [.aload 0, .getfield 1027, .iconst (1), .invokevirtual 2578, .pop, .goto_w 5],
  [.aload 2, .areturn]]
def q_D_word : List (List sm_I) := [[.aload 0, .getfield 3, .invokevirtual 2065, .aload 0, .getfield 7, .iload 1, .invokevirtual 6946, .ifCond .eq 4],
  [.lload 2, .invokestatic 11249, .ifCond .eq 4],
  [.iload 4, .iconst (Int.negSucc 99), .if_icmp .lt 4],
  [.iload 4, .iconst (100), .if_icmp .le 5],
  [.iconst (Int.negSucc 0), .ireturn],
  [.aload 0, .getfield 7, .iload 1, .invokevirtual 10530, .astore 5, .aload 5, .ifnonnull 7],
  [.aload 0, .getfield 3, .invokevirtual 2833, .ireturn],
  [.aload 5, .instanceof 7, .ifCond .eq 11],
  [.aload 5, .checkcast 7, .astore 6, .aload 6, .lload 2, .iload 4, .invokevirtual 11891, .ifCond .ne 10],
  [.iconst (Int.negSucc 2), .ireturn],
  [.aload 0, .iconst (0), .putfield 46, .aload 6, .getfield 3596, .ireturn],
  [.aload 0, .getfield 3, .iconst (3), .invokevirtual 2578, .ireturn]]
def q_D_isWord : List (List sm_I) := [[.lload 0, .iconst (26), .invokestatic 7410, .ifCond .eq 2],
  [.iconst (1), .goto 3],
  [.iconst (0), .goto_w 3],
  [.ireturn]]
def q_Scored_take : List (List sm_I) := [[.aload 0, .lload 1, .iload 3, .invokespecial 11891, .istore 4, .aload 0, .lload 1, .invokevirtual 77954, .istore 5, .iload 5, .ifCond .lt 2],
  [.aload 0, .getfield 4115, .iload 5, .iload 3, .iastore, .goto_w 2],
  [.iload 4, .ireturn]]
def q_Plain_placeOf : List (List sm_I) := [[.iconst (0), .istore 3, .goto_w 1],
  [.iload 3, .aload 0, .getfield 3596, .if_icmp .ge 5],
  [.aload 0, .getfield 3595, .iload 3, .laload, .lload 1, .lcmp, .ifCond .ne 4],
  [.iload 3, .ireturn],
  [.iinc 3 (1), .goto 1],
  [.iconst (Int.negSucc 0), .ireturn]]
def q_Plain_take : List (List sm_I) := [[.aload 0, .lload 1, .invokevirtual 11634, .ifCond .lt 2],
  [.iconst (1), .ireturn],
  [.aload 0, .getfield 3596, .iconst (40), .if_icmp .ne 4],
  [.iconst (0), .ireturn],
  [.aload 0, .getfield 3595, .aload 0, .getfield 3596, .lload 1, .lastore, .aload 0, .dup, .getfield 3596, .iconst (1), .iadd, .putfield 3596, .iconst (1), .ireturn]]
def q_D_ask : List (List sm_I) := [[.aload 0, .getfield 3, .invokevirtual 2065, .aload 0, .getfield 7, .iload 1, .invokevirtual 6946, .ifCond .eq 4],
  [.iload 2, .ifCond .lt 4],
  [.iload 2, .iconst (4), .if_icmp .gt 4],
  [.iload 2, .iconst (2), .if_icmp .ne 5],
  [.iconst (Int.negSucc 0), .ireturn],
  [.iload 2, .ifCond .eq 7],
  [.iload 2, .iconst (3), .if_icmp .ne 9],
  [.lload 3, .invokestatic 11249, .ifCond .ne 9],
  [.iconst (Int.negSucc 0), .ireturn],
  [.aload 0, .getfield 7, .iload 1, .invokevirtual 10530, .astore 5, .aload 5, .ifnonnull 11],
  [.iconst (0), .goto 12],
  [.aload 5, .iload 2, .lload 3, .invokestatic 12531, .goto_w 12],
  [.istore 6, .aload 0, .getfield 3, .invokevirtual 14353, .ifCond .eq 14],
  [.aload 0, .getfield 3, .invokevirtual 2833, .goto 15],
  [.iload 6, .goto_w 15],
  [.ireturn]]
def q_D_askedOf : List (List sm_I) := [[.iload 1, .tableswitch 7 (0) 3 #[1, 5, 7, 6]],
  [.aload 0, .lload 2, .invokevirtual 76994, .ifCond .eq 3],
  [.iconst (1), .goto 4],
  [.iconst (0), .goto_w 4],
  [.ireturn],
  [.aload 0, .invokevirtual 77249, .ireturn],
  [.aload 0, .lload 2, .invokevirtual 77762, .ireturn],
  [.aload 0, .getfield 6144, .ireturn]]
def q_Banned_allows : List (List sm_I) := [[.aload 0, .getfield 6151, .iconst (2), .iconst (0), .invokevirtual 12819, .aload 0, .lload 1, .invokespecial 13426, .ifCond .ne 2],
  [.iconst (1), .goto 3],
  [.iconst (0), .goto_w 3],
  [.ireturn]]
def q_Notes_begin : List (List sm_I) := [[.aload 0, .getfield 515, .aload 0, .getfield 520, .iconst (10), .iload 1, .imul, .iload 2, .iadd, .iastore, .aload 0, .aload 0, .getfield 520, .iconst (1), .iadd, .iconst (100), .if_icmp .ge 2],
  [.aload 0, .getfield 520, .iconst (1), .iadd, .goto 3],
  [.iconst (0), .goto_w 3],
  [.putfield 520, .aload 0, .aload 0, .getfield 524, .iconst (1), .iadd, .iconst (100), .invokestatic 13298, .putfield 524, .aload 0, .dup, .getfield 528, .iconst (1), .iadd, .putfield 528, .return_]]
def q_Math_min : List (List sm_I) := [[.iload 0, .iload 1, .if_icmp .gt 2],
  [.iload 0, .goto 3],
  [.iload 1, .goto_w 3],
  [.ireturn]]
def q_Plain_allows : List (List sm_I) := [[.aload 0, .getfield 6151, .iconst (0), .iconst (0), .invokevirtual 12819, .aload 0, .lload 1, .invokevirtual 11634, .ifCond .lt 2],
  [.iconst (1), .goto 3],
  [.iconst (0), .goto_w 3],
  [.ireturn]]
def q_Joined_allows : List (List sm_I) := [[.aload 0, .getfield 6151, .iconst (4), .iconst (0), .invokevirtual 12819, .aload 0, .getfield 5643, .aload 0, .getfield 5644, .invokevirtual 10530, .astore 3, .aload 3, .ifnull 3],
  [.aload 3, .lload 1, .invokevirtual 76994, .ifCond .eq 3],
  [.iconst (1), .goto 4],
  [.iconst (0), .goto_w 4],
  [.istore 4, .iload 4, .ifCond .eq 8],
  [.aload 0, .getfield 6151, .invokevirtual 14353, .ifCond .ne 8],
  [.aload 0, .lload 1, .invokevirtual 14770, .ifCond .eq 8],
  [.iconst (1), .goto 9],
  [.iconst (0), .goto_w 9],
  [.ireturn]]
def q_Pattern_allows : List (List sm_I) := [[.aload 0, .getfield 6151, .iconst (3), .iconst (0), .invokevirtual 12819, .aload 0, .lload 1, .invokevirtual 14242, .ifCond .ne 2],
  [.iconst (0), .ireturn],
  [.aload 0, .getfield 5131, .aload 0, .getfield 5132, .invokevirtual 10530, .astore 3, .aload 3, .ifnull 5],
  [.aload 3, .lload 1, .invokevirtual 76994, .ifCond .eq 5],
  [.iconst (1), .goto 6],
  [.iconst (0), .goto_w 6],
  [.ireturn]]
def q_Pattern_fits : List (List sm_I) := [[.lload 1, .iconst (26), .invokestatic 7410, .aload 0, .getfield 5136, .if_icmp .ne 3],
  [.lload 1, .aload 0, .getfield 5141, .lxor, .aload 0, .getfield 5145, .land, .ldc2_w 0, .lcmp, .ifCond .ne 3],
  [.iconst (1), .goto 4],
  [.iconst (0), .goto_w 4],
  [.ireturn]]
def q_Notes_met : List (List sm_I) := [[.aload 0, .getfield 532, .ifCond .eq 2],
  [.iconst (1), .goto 3],
  [.iconst (0), .goto_w 3],
  [.ireturn]]
def q_Joined_otherAllows : List (List sm_I) := [[.aload 0, .getfield 5643, .aload 0, .getfield 5648, .invokevirtual 10530, .astore 3, .aload 3, .ifnull 3],
  [.aload 3, .lload 1, .invokevirtual 76994, .ifCond .eq 3],
  [.iconst (1), .goto 4],
  [.iconst (0), .goto_w 4],
  [.ireturn]]
def q_Banned_many : List (List sm_I) := [[.aload 0, .getfield 6151, .iconst (2), .iconst (1), .invokevirtual 12819, .iconst (0), .ireturn]]
def q_Joined_many : List (List sm_I) := [[.aload 0, .getfield 6151, .iconst (4), .iconst (1), .invokevirtual 12819, .aload 0, .getfield 5643, .aload 0, .getfield 5644, .invokevirtual 10530, .astore 1, .aload 1, .ifnonnull 2],
  [.iconst (0), .goto 3],
  [.aload 1, .invokevirtual 77249, .goto_w 3],
  [.ireturn]]
def q_Pattern_many : List (List sm_I) := [[.aload 0, .getfield 6151, .iconst (3), .iconst (1), .invokevirtual 12819, .aload 0, .getfield 5131, .aload 0, .getfield 5132, .invokevirtual 10530, .astore 1, .aload 1, .ifnonnull 2],
  [.iconst (0), .goto 3],
  [.aload 1, .invokevirtual 77249, .goto_w 3],
  [.ireturn]]
def q_Plain_many : List (List sm_I) := [[.aload 0, .getfield 6151, .iconst (0), .iconst (1), .invokevirtual 12819, .aload 0, .getfield 3596, .ireturn]]
def q_Plain_scoreOf : List (List sm_I) := [[.aload 0, .getfield 6151, .iconst (0), .iconst (3), .invokevirtual 12819, .iconst (0), .ireturn]]
def q_Joined_scoreOf : List (List sm_I) := [[.aload 0, .getfield 6151, .iconst (4), .iconst (3), .invokevirtual 12819, .aload 0, .getfield 5643, .aload 0, .getfield 5644, .invokevirtual 10530, .astore 3, .aload 3, .ifnonnull 2],
  [.iconst (0), .goto 3],
  [.aload 3, .lload 1, .invokevirtual 77762, .goto_w 3],
  [.istore 4, .aload 0, .getfield 6151, .invokevirtual 14353, .ifCond .eq 5],
  [.iconst (0), .ireturn],
  [.aload 0, .getfield 5643, .aload 0, .getfield 5648, .invokevirtual 10530, .astore 5, .aload 5, .ifnonnull 7],
  [.iconst (0), .goto 8],
  [.iload 4, .aload 5, .lload 1, .invokevirtual 77762, .iadd, .goto_w 8],
  [.ireturn]]
def q_Pattern_scoreOf : List (List sm_I) := [[.aload 0, .getfield 6151, .iconst (3), .iconst (3), .invokevirtual 12819, .aload 0, .getfield 5131, .aload 0, .getfield 5132, .invokevirtual 10530, .astore 3, .aload 3, .ifnonnull 2],
  [.iconst (0), .goto 3],
  [.aload 3, .lload 1, .invokevirtual 77762, .iconst (1), .iadd, .goto_w 3],
  [.ireturn]]
def q_Scored_scoreOf : List (List sm_I) := [[.aload 0, .getfield 6151, .iconst (1), .iconst (3), .invokevirtual 12819, .aload 0, .lload 1, .invokespecial 15986, .istore 3, .aload 0, .lload 1, .invokevirtual 77954, .istore 4, .iload 4, .ifCond .ge 2],
  [.iload 3, .goto 3],
  [.iload 3, .aload 0, .getfield 4115, .iload 4, .iaload, .iadd, .goto_w 3],
  [.ireturn]]
def q_D_wordOf : List (List sm_I) := [[.aload 0, .getfield 3, .invokevirtual 2065, .aload 0, .getfield 7, .iload 1, .invokevirtual 6946, .ifCond .ne 2],
  [.ldc2_w 0, .lreturn],
  [.aload 0, .getfield 7, .iload 1, .invokevirtual 10530, .astore 3, .aload 3, .ifnonnull 4],
  [.ldc2_w 0, .goto 5],
  [.aload 3, .iload 2, .invokevirtual 77506, .goto_w 5],
  [.lstore 4, .aload 0, .getfield 3, .invokevirtual 14353, .ifCond .eq 7],
  [.ldc2_w 0, .goto 8],
  [.lload 4, .goto_w 8],
  [.lreturn]]
def q_Plain_wordNumber : List (List sm_I) := [[.aload 0, .getfield 6151, .iconst (0), .iconst (2), .invokevirtual 12819, .iload 1, .ifCond .lt 2],
  [.iload 1, .aload 0, .getfield 3596, .if_icmp .lt 3],
  [.aload 0, .getfield 6151, .iconst (2), .invokevirtual 2578, .pop, .ldc2_w 0, .lreturn],
  [.aload 0, .getfield 3595, .iload 1, .laload, .lreturn]]
def q_Joined_wordNumber : List (List sm_I) := [[.aload 0, .getfield 6151, .iconst (4), .iconst (2), .invokevirtual 12819, .aload 0, .getfield 5643, .aload 0, .getfield 5644, .invokevirtual 10530, .astore 2, .aload 2, .ifnonnull 2],
  [.ldc2_w 0, .goto 3],
  [.aload 2, .iload 1, .invokevirtual 77506, .goto_w 3],
  [.lstore 3, .lload 3, .ldc2_w 0, .lcmp, .ifCond .eq 7],
  [.aload 0, .getfield 6151, .invokevirtual 14353, .ifCond .ne 7],
  [.aload 0, .lload 3, .invokevirtual 14770, .ifCond .eq 7],
  [.lload 3, .goto 8],
  [.ldc2_w 0, .goto_w 8],
  [.lreturn]]
def q_Pattern_wordNumber : List (List sm_I) := [[.aload 0, .getfield 6151, .iconst (3), .iconst (2), .invokevirtual 12819, .aload 0, .getfield 5131, .aload 0, .getfield 5132, .invokevirtual 10530, .astore 2, .aload 2, .ifnonnull 2],
  [.ldc2_w 0, .goto 3],
  [.aload 2, .iload 1, .invokevirtual 77506, .goto_w 3],
  [.lstore 3, .aload 0, .lload 3, .invokevirtual 14242, .ifCond .eq 5],
  [.lload 3, .goto 6],
  [.ldc2_w 0, .goto_w 6],
  [.lreturn]]
def q_D_uses : List (List sm_I) := [[.aload 0, .getfield 3, .invokevirtual 2065, .iload 1, .invokestatic 2545, .ifCond .eq 3],
  [.iload 3, .iconst (Int.negSucc 0), .if_icmp .eq 4],
  [.aload 0, .getfield 7, .iload 3, .invokevirtual 6946, .ifCond .ne 4],
  [.iconst (Int.negSucc 0), .ireturn],
  [.aload 0, .getfield 11, .iload 1, .aaload, .astore 4, .aload 4, .getfield 2578, .ifCond .ne 6],
  [.aload 0, .getfield 3, .iconst (1), .invokevirtual 2578, .ireturn],
  [.aload 4, .iload 2, .invokevirtual 18258, .istore 5, .iload 2, .ifCond .eq 8],
  [.aload 4, .iload 3, .putfield 2592, .goto 9],
  [.aload 4, .iload 3, .putfield 2588, .goto_w 9],
  [.aload 0, .iconst (0), .putfield 46, .iload 5, .ireturn]]
def q_Grid_listFor : List (List sm_I) := [[.iload 1, .ifCond .eq 2],
  [.aload 0, .getfield 2592, .goto 3],
  [.aload 0, .getfield 2588, .goto_w 3],
  [.ireturn]]
def q_D_entries : List (List sm_I) := [[.aload 0, .getfield 3, .invokevirtual 2065, .iload 1, .invokestatic 2545, .ifCond .ne 2],
  [.iconst (Int.negSucc 0), .ireturn],
  [.aload 0, .iload 1, .invokevirtual 18690, .ifCond .ne 4],
  [.aload 0, .getfield 3, .invokevirtual 2833, .ireturn],
  [.aload 0, .getfield 15, .getfield 1552, .ireturn]]
def q_D_lookAtEntries : List (List sm_I) := [[.aload 0, .getfield 11, .iload 1, .aaload, .getfield 2578, .ifCond .ne 2],
  [.aload 0, .getfield 3, .iconst (1), .invokevirtual 2578, .pop, .iconst (0), .ireturn],
  [.aload 0, .getfield 15, .aload 0, .getfield 11, .iload 1, .aaload, .invokevirtual 18994, .iconst (1), .ireturn]]
def q_EntryTable_lookAt : List (List sm_I) := [[.aload 0, .iconst (0), .putfield 1552, .iconst (0), .istore 2, .iconst (0), .istore 3, .goto_w 1],
  [.iload 3, .aload 1, .getfield 2580, .if_icmp .ge 21],
  [.iconst (0), .istore 4, .goto_w 3],
  [.iload 4, .aload 1, .getfield 2584, .if_icmp .ge 20],
  [.aload 1, .iload 3, .iload 4, .invokevirtual 19283, .ifCond .eq 7],
  [.aload 1, .iload 3, .iload 4, .iconst (1), .isub, .invokevirtual 19283, .ifCond .ne 7],
  [.iconst (1), .goto 8],
  [.iconst (0), .goto_w 8],
  [.istore 5, .aload 1, .iload 3, .iload 4, .invokevirtual 19795, .ifCond .eq 11],
  [.aload 1, .iload 3, .iconst (1), .isub, .iload 4, .invokevirtual 19795, .ifCond .ne 11],
  [.iconst (1), .goto 12],
  [.iconst (0), .goto_w 12],
  [.istore 6, .iload 5, .ifCond .ne 14],
  [.iload 6, .ifCond .eq 15],
  [.iinc 2 (1), .goto_w 15],
  [.iload 5, .ifCond .eq 17],
  [.aload 0, .iload 3, .iconst (7), .imul, .iload 4, .iadd, .iconst (0), .aload 1, .iload 3, .iload 4, .invokestatic 20211, .iload 2, .invokevirtual 20277, .goto_w 17],
  [.iload 6, .ifCond .eq 19],
  [.aload 0, .iload 3, .iconst (7), .imul, .iload 4, .iadd, .iconst (1), .aload 1, .iload 3, .iload 4, .invokestatic 20723, .iload 2, .invokevirtual 20277, .goto_w 19],
  [.iinc 4 (1), .goto 3],
  [.iinc 3 (1), .goto 1],
  [.return_]]
def q_Grid_joinsRight : List (List sm_I) := [[.aload 0, .iload 1, .iload 2, .invokevirtual 19539, .ifCond .eq 4],
  [.aload 0, .iload 1, .iload 2, .iconst (1), .iadd, .invokevirtual 19539, .ifCond .eq 4],
  [.aload 0, .getfield 2563, .iload 1, .iconst (7), .imul, .iload 2, .iadd, .iaload, .iconst (32), .iand, .ifCond .ne 4],
  [.iconst (1), .goto 5],
  [.iconst (0), .goto_w 5],
  [.ireturn]]
def q_Grid_isWhite : List (List sm_I) := [[.aload 0, .iload 1, .invokevirtual 4178, .ifCond .eq 4],
  [.aload 0, .iload 1, .iload 2, .iconst (1), .invokevirtual 4948, .ifCond .eq 4],
  [.aload 0, .iload 1, .iload 2, .invokevirtual 5203, .iconst (27), .if_icmp .eq 4],
  [.iconst (1), .goto 5],
  [.iconst (0), .goto_w 5],
  [.ireturn]]
def q_Grid_joinsBelow : List (List sm_I) := [[.aload 0, .iload 1, .iload 2, .invokevirtual 19539, .ifCond .eq 4],
  [.aload 0, .iload 1, .iconst (1), .iadd, .iload 2, .invokevirtual 19539, .ifCond .eq 4],
  [.aload 0, .getfield 2563, .iload 1, .iconst (7), .imul, .iload 2, .iadd, .iaload, .iconst (64), .iand, .ifCond .ne 4],
  [.iconst (1), .goto 5],
  [.iconst (0), .goto_w 5],
  [.ireturn]]
def q_EntryTable_acrossLength : List (List sm_I) := [[.iconst (1), .istore 3, .goto_w 1],
  [.iload 3, .iconst (7), .if_icmp .ge 4],
  [.aload 0, .iload 1, .iload 2, .iload 3, .iadd, .iconst (1), .isub, .invokevirtual 19283, .ifCond .eq 4],
  [.iinc 3 (1), .goto 1],
  [.iload 3, .ireturn]]
def q_EntryTable_add : List (List sm_I) := [[.aload 0, .getfield 1552, .iconst (42), .if_icmp .ge 2],
  [.aload 0, .getfield 1539, .aload 0, .getfield 1552, .iload 1, .iastore, .aload 0, .getfield 1543, .aload 0, .getfield 1552, .iload 2, .bastore, .aload 0, .getfield 1547, .aload 0, .getfield 1552, .iload 3, .iastore, .aload 0, .getfield 1551, .aload 0, .getfield 1552, .iload 4, .iastore, .aload 0, .dup, .getfield 1552, .iconst (1), .iadd, .putfield 1552, .goto_w 2],
  [.return_]]
def q_EntryTable_downLength : List (List sm_I) := [[.iconst (1), .istore 3, .goto_w 1],
  [.iload 3, .iconst (7), .if_icmp .ge 4],
  [.aload 0, .iload 1, .iload 3, .iadd, .iconst (1), .isub, .iload 2, .invokevirtual 19795, .ifCond .eq 4],
  [.iinc 3 (1), .goto 1],
  [.iload 3, .ireturn]]
def q_D_entry : List (List sm_I) := [[.aload 0, .getfield 3, .invokevirtual 2065, .iload 1, .invokestatic 2545, .ifCond .eq 3],
  [.iload 3, .ifCond .lt 3],
  [.iload 3, .iconst (4), .if_icmp .le 4],
  [.iconst (Int.negSucc 0), .ireturn],
  [.aload 0, .iload 1, .invokevirtual 18690, .ifCond .ne 6],
  [.aload 0, .getfield 3, .invokevirtual 2833, .ireturn],
  [.aload 0, .getfield 15, .iload 2, .invokevirtual 21042, .ifCond .ne 8],
  [.aload 0, .getfield 3, .iconst (2), .invokevirtual 2578, .ireturn],
  [.iload 3, .tableswitch 16 (0) 3 #[9, 10, 11, 15]],
  [.aload 0, .getfield 15, .getfield 1539, .iload 2, .iaload, .iconst (7), .idiv, .ireturn],
  [.aload 0, .getfield 15, .getfield 1539, .iload 2, .iaload, .iconst (7), .irem, .ireturn],
  [.aload 0, .getfield 15, .getfield 1543, .iload 2, .baload, .ifCond .eq 13],
  [.iconst (1), .goto 14],
  [.iconst (0), .goto_w 14],
  [.ireturn],
  [.aload 0, .getfield 15, .getfield 1547, .iload 2, .iaload, .ireturn],
  [.aload 0, .getfield 15, .getfield 1551, .iload 2, .iaload, .ireturn]]
def q_EntryTable_has : List (List sm_I) := [[.iload 1, .ifCond .lt 3],
  [.iload 1, .aload 0, .getfield 1552, .if_icmp .ge 3],
  [.iconst (1), .goto 4],
  [.iconst (0), .goto_w 4],
  [.ireturn]]
def q_D_stands : List (List sm_I) := [[.aload 0, .getfield 3, .invokevirtual 2065, .iload 1, .invokestatic 2545, .ifCond .eq 2],
  [.aload 0, .iload 1, .invokevirtual 18690, .ifCond .ne 3],
  [.ldc2_w 0, .lreturn],
  [.aload 0, .getfield 15, .iload 2, .invokevirtual 21042, .ifCond .ne 5],
  [.aload 0, .getfield 3, .iconst (2), .invokevirtual 2578, .pop, .ldc2_w 0, .lreturn],
  [.aload 0, .getfield 15, .iload 2, .aload 0, .getfield 11, .iload 1, .aaload, .getfield 2563, .invokevirtual 21555, .lstore 3, .lload 3, .invokestatic 9713, .ldc2_w 1, .iconst (5), .aload 0, .getfield 15, .getfield 1547, .iload 2, .iaload, .imul, .lshl, .ldc2_w 1, .lsub, .lcmp, .ifCond .ne 7],
  [.iconst (1), .goto 8],
  [.iconst (0), .goto_w 8],
  [.istore 5, .iload 5, .ifCond .eq 10],
  [.lload 3, .goto 11],
  [.ldc2_w 0, .goto_w 11],
  [.lreturn]]
def q_EntryTable_standing : List (List sm_I) := [[.ldc2_w 0, .lstore 3, .iconst (0), .istore 5, .goto_w 1],
  [.iload 5, .aload 0, .getfield 1547, .iload 1, .iaload, .if_icmp .ge 3],
  [.lload 3, .aload 2, .aload 0, .iload 1, .iload 5, .invokevirtual 21811, .iaload, .iconst (31), .iand, .i2l, .iconst (5), .iload 5, .imul, .lshl, .lor, .lstore 3, .iinc 5 (1), .goto 1],
  [.lload 3, .lreturn]]
def q_EntryTable_cellOf : List (List sm_I) := [[.aload 0, .getfield 1539, .iload 1, .iaload, .iload 2, .aload 0, .getfield 1543, .iload 1, .baload, .ifCond .eq 2],
  [.iconst (7), .goto 3],
  [.iconst (1), .goto_w 3],
  [.imul, .iadd, .ireturn]]
def q_D_crossing : List (List sm_I) := [[.aload 0, .getfield 3, .invokevirtual 2065, .iload 1, .invokestatic 2545, .ifCond .ne 2],
  [.iconst (Int.negSucc 0), .ireturn],
  [.aload 0, .iload 1, .invokevirtual 18690, .ifCond .ne 4],
  [.aload 0, .getfield 3, .invokevirtual 2833, .ireturn],
  [.aload 0, .getfield 15, .iload 2, .invokevirtual 21042, .ifCond .eq 6],
  [.aload 0, .getfield 15, .iload 3, .invokevirtual 21042, .ifCond .ne 7],
  [.aload 0, .getfield 3, .iconst (2), .invokevirtual 2578, .ireturn],
  [.aload 0, .getfield 15, .iload 2, .iload 3, .invokevirtual 22323, .ireturn]]
def q_EntryTable_crossingOf : List (List sm_I) := [[.iload 1, .iload 2, .if_icmp .ne 2],
  [.iconst (Int.negSucc 4), .ireturn],
  [.iconst (0), .istore 3, .goto_w 3],
  [.iload 3, .aload 0, .getfield 1547, .iload 1, .iaload, .if_icmp .ge 10],
  [.iconst (0), .istore 4, .goto_w 5],
  [.iload 4, .aload 0, .getfield 1547, .iload 2, .iaload, .if_icmp .ge 9],
  [.aload 0, .iload 1, .iload 3, .invokevirtual 21811, .aload 0, .iload 2, .iload 4, .invokevirtual 21811, .if_icmp .ne 8],
  [.iconst (8), .iload 3, .imul, .iload 4, .iadd, .ireturn],
  [.iinc 4 (1), .goto 5],
  [.iinc 3 (1), .goto 3],
  [.iconst (Int.negSucc 4), .ireturn]]
def q_D_fill : List (List sm_I) := [[.aload 0, .getfield 3, .invokevirtual 2065, .iload 1, .invokestatic 2545, .ifCond .eq 2],
  [.iload 2, .invokestatic 23025, .ifCond .ne 3],
  [.iconst (Int.negSucc 0), .ireturn],
  [.aload 0, .iconst (0), .putfield 46, .aload 0, .getfield 11, .iload 1, .aaload, .getfield 2578, .ifCond .ne 5],
  [.aload 0, .getfield 3, .iconst (1), .invokevirtual 2578, .ireturn],
  [.aload 0, .getfield 19, .aload 0, .getfield 11, .iload 1, .aaload, .invokevirtual 23106, .ifCond .ne 7],
  [.aload 0, .getfield 3, .invokevirtual 2833, .ireturn],
  [.aload 0, .iload 1, .putfield 40, .aload 0, .iload 2, .invokevirtual 24834, .ireturn]]
def q_D_isStepNumber : List (List sm_I) := [[.iload 0, .iconst (1), .if_icmp .lt 3],
  [.iload 0, .iconst (5000), .if_icmp .gt 3],
  [.iconst (1), .goto 4],
  [.iconst (0), .goto_w 4],
  [.ireturn]]
def q_Search_gather : List (List sm_I) := [[.aload 0, .getfield 2059, .aload 1, .invokevirtual 18994, .aload 1, .getfield 2563, .iconst (0), .aload 0, .getfield 2079, .iconst (0), .iconst (49), .invokestatic 102645, .aload 0, .iconst (0), .putfield 2104, .iconst (0), .istore 2, .goto_w 1],
  [.iload 2, .aload 0, .getfield 2059, .getfield 1552, .if_icmp .ge 5],
  [.aload 0, .iload 2, .aload 1, .aload 0, .getfield 2059, .getfield 1543, .iload 2, .baload, .invokevirtual 18258, .invokevirtual 23363, .ifCond .ne 4],
  [.iconst (0), .ireturn],
  [.aload 0, .dup, .getfield 2104, .aload 0, .getfield 2067, .iload 2, .iaload, .iadd, .putfield 2104, .iinc 2 (1), .goto 1],
  [.aload 0, .invokevirtual 24385, .aload 0, .iconst (0), .putfield 2096, .aload 0, .iconst (0), .putfield 2102, .aload 0, .invokevirtual 24641, .iconst (1), .ireturn]]
def q_Search_gatherFor : List (List sm_I) := [[.aload 0, .getfield 2067, .iload 1, .iconst (0), .iastore, .aload 0, .getfield 2055, .iload 2, .invokevirtual 10530, .astore 3, .aload 3, .ifnonnull 2],
  [.iconst (0), .ireturn],
  [.aload 3, .invokevirtual 77249, .istore 4, .aload 0, .getfield 2059, .iload 1, .aload 0, .getfield 2079, .invokevirtual 21555, .lstore 5, .lload 5, .invokestatic 9713, .lstore 7, .iconst (0), .istore 9, .goto_w 3],
  [.iload 9, .iload 4, .if_icmp .ge 13],
  [.aload 0, .getfield 2051, .invokevirtual 14353, .ifCond .ne 13],
  [.aload 3, .iload 9, .invokevirtual 77506, .lstore 10, .lload 10, .iconst (26), .invokestatic 7410, .aload 0, .getfield 2059, .getfield 1547, .iload 1, .iaload, .if_icmp .ne 8],
  [.lload 10, .lload 5, .lxor, .lload 7, .land, .ldc2_w 0, .lcmp, .ifCond .ne 8],
  [.iconst (1), .goto 9],
  [.iconst (0), .goto_w 9],
  [.istore 12, .iload 12, .ifCond .eq 12],
  [.aload 0, .getfield 2051, .invokevirtual 14353, .ifCond .ne 12],
  [.aload 0, .iload 1, .lload 10, .aload 3, .lload 10, .invokevirtual 77762, .invokevirtual 23620, .goto_w 12],
  [.iinc 9 (1), .goto 3],
  [.aload 0, .getfield 2051, .invokevirtual 14353, .ifCond .ne 15],
  [.iconst (1), .goto 16],
  [.iconst (0), .goto_w 16],
  [.ireturn]]
def q_Search_addCandidate : List (List sm_I) := [[.aload 0, .getfield 2067, .iload 1, .iaload, .iconst (40), .if_icmp .lt 2],
  [.return_],
  [.iload 1, .iconst (40), .imul, .istore 5, .aload 0, .getfield 2067, .iload 1, .iaload, .istore 6, .goto_w 3],
  [.iload 6, .ifCond .le 6],
  [.lload 2, .iload 4, .aload 0, .getfield 2063, .iload 5, .iload 6, .iadd, .iconst (1), .isub, .laload, .aload 0, .getfield 2071, .iload 6, .iconst (1), .isub, .iaload, .invokestatic 24052, .ifCond .eq 6],
  [.aload 0, .getfield 2063, .iload 5, .iload 6, .iadd, .aload 0, .getfield 2063, .iload 5, .iload 6, .iadd, .iconst (1), .isub, .laload, .lastore, .aload 0, .getfield 2071, .iload 6, .aload 0, .getfield 2071, .iload 6, .iconst (1), .isub, .iaload, .iastore, .iinc 6 (Int.negSucc 0), .goto 3],
  [.aload 0, .getfield 2063, .iload 5, .iload 6, .iadd, .lload 2, .lastore, .aload 0, .getfield 2071, .iload 6, .iload 4, .iastore, .aload 0, .getfield 2067, .iload 1, .dup2, .iaload, .iconst (1), .iadd, .iastore, .return_]]
def q_Search_isAhead : List (List sm_I) := [[.iload 2, .iload 5, .if_icmp .eq 4],
  [.iload 2, .iload 5, .if_icmp .le 3],
  [.iconst (1), .goto 5],
  [.iconst (0), .goto 5],
  [.lload 0, .lload 3, .invokestatic 24306, .goto_w 5],
  [.ireturn]]
def q_D_isBefore : List (List sm_I) := [[.iconst (0), .istore 4, .goto_w 1],
  [.iload 4, .iconst (7), .if_icmp .ge 8],
  [.lload 0, .iload 4, .invokestatic 9458, .lload 2, .iload 4, .invokestatic 9458, .isub, .istore 5, .iload 5, .ifCond .eq 7],
  [.iload 5, .ifCond .ge 5],
  [.iconst (1), .goto 6],
  [.iconst (0), .goto_w 6],
  [.ireturn],
  [.iinc 4 (1), .goto 1],
  [.iconst (0), .ireturn]]
def q_Search_putInOrder : List (List sm_I) := [[.iconst (0), .istore 1, .goto_w 1],
  [.iload 1, .aload 0, .getfield 2059, .getfield 1552, .if_icmp .ge 7],
  [.iload 1, .istore 2, .goto_w 3],
  [.iload 2, .ifCond .le 6],
  [.aload 0, .getfield 2067, .aload 0, .getfield 2075, .iload 2, .iconst (1), .isub, .iaload, .iaload, .aload 0, .getfield 2067, .iload 1, .iaload, .if_icmp .le 6],
  [.aload 0, .getfield 2075, .iload 2, .aload 0, .getfield 2075, .iload 2, .iconst (1), .isub, .iaload, .iastore, .iinc 2 (Int.negSucc 0), .goto 3],
  [.aload 0, .getfield 2075, .iload 2, .iload 1, .iastore, .iinc 1 (1), .goto 1],
  [.return_]]
def q_Search_arrive : List (List sm_I) := [[.aload 0, .getfield 2096, .aload 0, .getfield 2059, .getfield 1552, .if_icmp .ge 2],
  [.aload 0, .getfield 2083, .aload 0, .getfield 2096, .iconst (0), .iastore, .aload 0, .getfield 2087, .aload 0, .getfield 2096, .aload 0, .getfield 2059, .aload 0, .getfield 2075, .aload 0, .getfield 2096, .iaload, .aload 0, .getfield 2079, .invokevirtual 21555, .lastore, .aload 0, .getfield 2091, .aload 0, .getfield 2096, .aload 0, .getfield 2087, .aload 0, .getfield 2096, .laload, .invokestatic 9713, .lastore, .goto_w 2],
  [.return_]]
def q_D_fillOn : List (List sm_I) := [[.aload 0, .getfield 19, .iload 1, .invokevirtual 25154, .aload 0, .getfield 19, .invokevirtual 25409, .istore 2, .aload 0, .iload 2, .iconst (Int.negSucc 3), .if_icmp .ne 2],
  [.iconst (1), .goto 3],
  [.iconst (0), .goto_w 3],
  [.putfield 46, .iload 2, .iconst (1), .if_icmp .ne 5],
  [.aload 0, .getfield 19, .aload 0, .getfield 11, .aload 0, .getfield 40, .aaload, .invokevirtual 26690, .goto_w 5],
  [.aload 0, .aload 0, .getfield 19, .iload 2, .iconst (1), .if_icmp .ne 7],
  [.iconst (1), .goto 8],
  [.iconst (0), .goto_w 8],
  [.invokevirtual 26883, .iload 2, .ireturn]]
def q_Search_allow : List (List sm_I) := [[.aload 0, .iconst (0), .putfield 2108, .aload 0, .iload 1, .putfield 2112, .return_]]
def q_Search_nextFilling : List (List sm_I) := [[.aload 0, .getfield 2102, .ifCond .eq 2],
  [.aload 0, .iconst (0), .putfield 2102, .aload 0, .invokevirtual 25665, .goto_w 2],
  [.iconst (0), .istore 1, .goto_w 3],
  [.iload 1, .iconst (1000000), .if_icmp .ge 13],
  [.aload 0, .getfield 2096, .ifCond .lt 13],
  [.aload 0, .getfield 2096, .aload 0, .getfield 2059, .getfield 1552, .if_icmp .ne 7],
  [.aload 0, .iconst (1), .putfield 2102, .iconst (1), .ireturn],
  [.aload 0, .getfield 2083, .aload 0, .getfield 2096, .iaload, .aload 0, .getfield 2067, .aload 0, .getfield 2075, .aload 0, .getfield 2096, .iaload, .iaload, .if_icmp .lt 9],
  [.aload 0, .invokevirtual 25665, .goto 12],
  [.aload 0, .getfield 2108, .aload 0, .getfield 2112, .if_icmp .ne 11],
  [.iconst (Int.negSucc 3), .ireturn],
  [.aload 0, .invokevirtual 26177, .goto_w 12],
  [.iinc 1 (1), .goto 3],
  [.iconst (0), .ireturn]]
def q_Search_goBack : List (List sm_I) := [[.aload 0, .dup, .getfield 2096, .iconst (1), .isub, .putfield 2096, .aload 0, .getfield 2096, .ifCond .lt 2],
  [.aload 0, .aload 0, .getfield 2075, .aload 0, .getfield 2096, .iaload, .aload 0, .getfield 2087, .aload 0, .getfield 2096, .laload, .invokevirtual 25923, .goto_w 2],
  [.return_]]
def q_Search_write : List (List sm_I) := [[.iconst (0), .istore 4, .goto_w 1],
  [.iload 4, .aload 0, .getfield 2059, .getfield 1547, .iload 1, .iaload, .if_icmp .ge 3],
  [.aload 0, .getfield 2079, .aload 0, .getfield 2059, .iload 1, .iload 4, .invokevirtual 21811, .lload 2, .iload 4, .invokestatic 9458, .iastore, .iinc 4 (1), .goto 1],
  [.return_]]
def q_Search_lookAtNext : List (List sm_I) := [[.aload 0, .getfield 2075, .aload 0, .getfield 2096, .iaload, .istore 1, .aload 0, .getfield 2063, .iload 1, .iconst (40), .imul, .aload 0, .getfield 2083, .aload 0, .getfield 2096, .iaload, .iadd, .laload, .lstore 2, .aload 0, .getfield 2083, .aload 0, .getfield 2096, .dup2, .iaload, .iconst (1), .iadd, .iastore, .aload 0, .dup, .getfield 2108, .iconst (1), .iadd, .putfield 2108, .lload 2, .aload 0, .getfield 2087, .aload 0, .getfield 2096, .laload, .lxor, .aload 0, .getfield 2091, .aload 0, .getfield 2096, .laload, .land, .ldc2_w 0, .lcmp, .ifCond .ne 3],
  [.aload 0, .lload 2, .invokevirtual 26434, .ifCond .ne 3],
  [.aload 0, .getfield 2095, .aload 0, .getfield 2096, .lload 2, .lastore, .aload 0, .iload 1, .lload 2, .invokevirtual 25923, .aload 0, .dup, .getfield 2096, .iconst (1), .iadd, .putfield 2096, .aload 0, .invokevirtual 24641, .goto_w 3],
  [.return_]]
def q_Search_isSetBefore : List (List sm_I) := [[.iconst (0), .istore 3, .goto_w 1],
  [.iload 3, .aload 0, .getfield 2096, .if_icmp .ge 5],
  [.aload 0, .getfield 2095, .iload 3, .laload, .lload 1, .lcmp, .ifCond .ne 4],
  [.iconst (1), .ireturn],
  [.iinc 3 (1), .goto 1],
  [.iconst (0), .ireturn]]
def q_Search_writeInto : List (List sm_I) := [[.iconst (0), .istore 2, .goto_w 1],
  [.iload 2, .aload 0, .getfield 2059, .getfield 1552, .if_icmp .ge 6],
  [.iconst (0), .istore 3, .goto_w 3],
  [.iload 3, .aload 0, .getfield 2059, .getfield 1547, .iload 2, .iaload, .if_icmp .ge 5],
  [.aload 0, .getfield 2059, .iload 2, .iload 3, .invokevirtual 21811, .istore 4, .aload 1, .getfield 2563, .iload 4, .aload 1, .getfield 2563, .iload 4, .iaload, .iconst (Int.negSucc 31), .iand, .aload 0, .getfield 2079, .iload 4, .iaload, .iconst (31), .iand, .ior, .iastore, .iinc 3 (1), .goto 3],
  [.iinc 2 (1), .goto 1],
  [.return_]]
def q_D_tellSearch : List (List sm_I) := [[.aload 0, .getfield 39, .iconst (0), .aload 1, .getfield 2108, .iastore, .aload 0, .getfield 39, .iconst (1), .iload 2, .iastore, .aload 0, .getfield 39, .iconst (2), .aload 1, .getfield 2059, .getfield 1552, .iastore, .aload 0, .getfield 39, .iconst (3), .aload 1, .getfield 2104, .iastore, .aload 0, .dup, .getfield 48, .aload 1, .getfield 2108, .iadd, .putfield 48, .return_]]
def q_D_goOn : List (List sm_I) := [[.aload 0, .getfield 3, .invokevirtual 2065, .iload 1, .invokestatic 23025, .ifCond .ne 2],
  [.iconst (Int.negSucc 0), .ireturn],
  [.aload 0, .getfield 46, .ifCond .ne 4],
  [.iconst (Int.negSucc 1), .ireturn],
  [.aload 0, .iload 1, .invokevirtual 24834, .ireturn]]
def q_D_solve : List (List sm_I) := [[.aload 0, .getfield 3, .invokevirtual 2065, .iload 1, .invokestatic 2545, .ifCond .eq 4],
  [.iload 2, .iconst (1), .if_icmp .lt 4],
  [.iload 2, .iconst (1000), .if_icmp .gt 4],
  [.iload 3, .invokestatic 23025, .ifCond .ne 5],
  [.iconst (Int.negSucc 0), .ireturn],
  [.aload 0, .getfield 11, .iload 1, .aaload, .getfield 2578, .ifCond .ne 7],
  [.aload 0, .getfield 3, .iconst (1), .invokevirtual 2578, .ireturn],
  [.aload 0, .getfield 23, .aload 0, .getfield 11, .iload 1, .aaload, .invokevirtual 23106, .ifCond .ne 9],
  [.aload 0, .getfield 3, .invokevirtual 2833, .ireturn],
  [.aload 0, .getfield 23, .iload 3, .invokevirtual 25154, .aload 0, .iconst (0), .putfield 28, .aload 0, .aload 0, .getfield 23, .getfield 2059, .getfield 1552, .putfield 32, .iconst (0), .istore 4, .iconst (1), .istore 5, .goto_w 10],
  [.iload 5, .iconst (1), .if_icmp .ne 14],
  [.iload 4, .iload 2, .if_icmp .ge 14],
  [.aload 0, .getfield 23, .invokevirtual 25409, .istore 5, .iload 5, .iconst (1), .if_icmp .ne 10],
  [.aload 0, .iload 4, .invokevirtual 27650, .iinc 4 (1), .goto 10],
  [.aload 0, .aload 0, .getfield 23, .iload 4, .invokevirtual 26883, .iload 5, .iconst (Int.negSucc 3), .if_icmp .ne 16],
  [.iconst (Int.negSucc 3), .goto 17],
  [.iload 4, .goto_w 17],
  [.ireturn]]
def q_D_keepFilling : List (List sm_I) := [[.iload 1, .iconst (3), .if_icmp .ge 2],
  [.aload 0, .getfield 23, .aload 0, .getfield 27, .iload 1, .iconst (42), .imul, .invokevirtual 27971, .aload 0, .iload 1, .iconst (1), .iadd, .putfield 28, .goto_w 2],
  [.return_]]
def q_Search_tellFilling : List (List sm_I) := [[.iconst (0), .istore 3, .goto_w 1],
  [.iload 3, .aload 0, .getfield 2059, .getfield 1552, .if_icmp .ge 3],
  [.aload 1, .iload 2, .aload 0, .getfield 2075, .iload 3, .iaload, .iadd, .aload 0, .getfield 2095, .iload 3, .laload, .lastore, .iinc 3 (1), .goto 1],
  [.return_]]
def q_D_first : List (List sm_I) := [[.aload 0, .getfield 3, .invokevirtual 2065, .iload 1, .ifCond .lt 4],
  [.iload 1, .aload 0, .getfield 28, .if_icmp .ge 4],
  [.iload 2, .ifCond .lt 4],
  [.iload 2, .aload 0, .getfield 32, .if_icmp .lt 5],
  [.ldc2_w 0, .lreturn],
  [.aload 0, .getfield 27, .iload 1, .iconst (42), .imul, .iload 2, .iadd, .laload, .lreturn]]
def q_D_searched : List (List sm_I) := [[.aload 0, .getfield 3, .invokevirtual 2065, .iload 1, .ifCond .lt 2],
  [.iload 1, .aload 0, .getfield 39, .arraylength, .if_icmp .lt 3],
  [.iconst (Int.negSucc 0), .goto 4],
  [.aload 0, .getfield 39, .iload 1, .iaload, .goto_w 4],
  [.ireturn]]
def q_D_judge : List (List sm_I) := [[.aload 0, .getfield 3, .invokevirtual 2065, .iload 1, .invokestatic 2545, .ifCond .eq 3],
  [.iload 2, .ifCond .lt 3],
  [.iload 2, .iconst (10), .if_icmp .le 4],
  [.iconst (Int.negSucc 0), .ireturn],
  [.aload 0, .iload 1, .invokevirtual 18690, .ifCond .ne 6],
  [.aload 0, .getfield 3, .invokevirtual 2833, .ireturn],
  [.aload 0, .getfield 11, .iload 1, .aaload, .astore 3, .iload 2, .tableswitch 23 (0) 9 #[7, 8, 9, 10, 11, 12, 13, 17, 18, 22]],
  [.aload 3, .invokevirtual 29009, .ireturn],
  [.aload 3, .invokevirtual 29521, .ireturn],
  [.aload 3, .iconst (1), .invokevirtual 29778, .ireturn],
  [.aload 3, .iconst (0), .invokevirtual 29778, .ireturn],
  [.aload 3, .invokevirtual 30289, .ireturn],
  [.aload 0, .getfield 15, .invokevirtual 31025, .ireturn],
  [.aload 3, .invokevirtual 31313, .ifCond .eq 15],
  [.iconst (1), .goto 16],
  [.iconst (0), .goto_w 16],
  [.ireturn],
  [.aload 3, .invokevirtual 31569, .ireturn],
  [.aload 0, .getfield 15, .getfield 1552, .ifCond .ne 20],
  [.aload 0, .getfield 3, .iconst (5), .invokevirtual 2578, .goto 21],
  [.aload 3, .invokevirtual 29521, .aload 0, .getfield 15, .getfield 1552, .idiv, .goto_w 21],
  [.ireturn],
  [.aload 3, .getfield 2580, .ireturn],
  [.aload 3, .getfield 2584, .ireturn]]
def q_Grid_squares : List (List sm_I) := [[.iconst (0), .istore 1, .iconst (0), .istore 2, .goto_w 1],
  [.iload 2, .aload 0, .getfield 2580, .if_icmp .ge 3],
  [.iload 1, .aload 0, .getfield 2567, .iload 2, .iaload, .iconst (0), .invokestatic 29426, .iadd, .istore 1, .iinc 2 (1), .goto 1],
  [.iload 1, .ireturn]]
def q_Math_max : List (List sm_I) := [[.iload 0, .iload 1, .if_icmp .lt 2],
  [.iload 0, .goto 3],
  [.iload 1, .goto_w 3],
  [.ireturn]]
def q_Grid_whites : List (List sm_I) := [[.iconst (0), .istore 1, .iconst (0), .istore 2, .goto_w 1],
  [.iload 2, .aload 0, .getfield 2580, .if_icmp .ge 8],
  [.iconst (0), .istore 3, .goto_w 3],
  [.iload 3, .aload 0, .getfield 2567, .iload 2, .iaload, .if_icmp .ge 7],
  [.aload 0, .iload 2, .iload 3, .invokevirtual 5203, .iconst (27), .if_icmp .eq 6],
  [.iinc 1 (1), .goto_w 6],
  [.iinc 3 (1), .goto 3],
  [.iinc 2 (1), .goto 1],
  [.iload 1, .ireturn]]
def q_Grid_whitesInEntries : List (List sm_I) := [[.iconst (0), .istore 2, .iconst (0), .istore 3, .goto_w 1],
  [.iload 3, .aload 0, .getfield 2580, .if_icmp .ge 9],
  [.iconst (0), .istore 4, .goto_w 3],
  [.iload 4, .aload 0, .getfield 2567, .iload 3, .iaload, .if_icmp .ge 8],
  [.aload 0, .iload 3, .iload 4, .invokevirtual 19539, .ifCond .eq 7],
  [.aload 0, .iload 3, .iload 4, .invokevirtual 30035, .iload 1, .if_icmp .ne 7],
  [.iinc 2 (1), .goto_w 7],
  [.iinc 4 (1), .goto 3],
  [.iinc 3 (1), .goto 1],
  [.iload 2, .ireturn]]
def q_Grid_entriesThrough : List (List sm_I) := [[.iconst (0), .istore 3, .aload 0, .iload 1, .iload 2, .invokevirtual 19283, .ifCond .ne 2],
  [.aload 0, .iload 1, .iload 2, .iconst (1), .isub, .invokevirtual 19283, .ifCond .eq 3],
  [.iinc 3 (1), .goto_w 3],
  [.aload 0, .iload 1, .iload 2, .invokevirtual 19795, .ifCond .ne 5],
  [.aload 0, .iload 1, .iconst (1), .isub, .iload 2, .invokevirtual 19795, .ifCond .eq 6],
  [.iinc 3 (1), .goto_w 6],
  [.iload 3, .ireturn]]
def q_Grid_islands : List (List sm_I) := [[.aload 0, .getfield 2575, .iconst (0), .invokestatic 3570, .iconst (0), .istore 1, .iconst (0), .istore 2, .goto_w 1],
  [.iload 2, .aload 0, .getfield 2580, .if_icmp .ge 8],
  [.iconst (0), .istore 3, .goto_w 3],
  [.iload 3, .aload 0, .getfield 2567, .iload 2, .iaload, .if_icmp .ge 7],
  [.aload 0, .iload 2, .iload 3, .iconst (0), .invokevirtual 30548, .iconst (1), .if_icmp .ne 6],
  [.aload 0, .invokevirtual 30801, .iinc 1 (1), .goto_w 6],
  [.iinc 3 (1), .goto 3],
  [.iinc 2 (1), .goto 1],
  [.iload 1, .ireturn]]
def q_Grid_reach : List (List sm_I) := [[.aload 0, .iload 1, .iload 2, .invokevirtual 19539, .ifCond .eq 2],
  [.aload 0, .getfield 2575, .iload 1, .iconst (7), .imul, .iload 2, .iadd, .iaload, .ifCond .eq 3],
  [.iload 3, .ireturn],
  [.aload 0, .getfield 2575, .iload 1, .iconst (7), .imul, .iload 2, .iadd, .iconst (1), .iastore, .aload 0, .getfield 2571, .iload 3, .iload 1, .iconst (7), .imul, .iload 2, .iadd, .iastore, .iload 3, .iconst (1), .iadd, .ireturn]]
def q_Grid_spread : List (List sm_I) := [[.iconst (1), .istore 1, .iconst (0), .istore 2, .goto_w 1],
  [.iload 2, .iload 1, .if_icmp .ge 4],
  [.iload 2, .iconst (49), .if_icmp .ge 4],
  [.aload 0, .getfield 2571, .iload 2, .iaload, .iconst (7), .idiv, .istore 3, .aload 0, .getfield 2571, .iload 2, .iaload, .iconst (7), .irem, .istore 4, .aload 0, .iload 3, .iload 4, .iconst (1), .iadd, .iload 1, .invokevirtual 30548, .istore 1, .aload 0, .iload 3, .iload 4, .iconst (1), .isub, .iload 1, .invokevirtual 30548, .istore 1, .aload 0, .iload 3, .iconst (1), .iadd, .iload 4, .iload 1, .invokevirtual 30548, .istore 1, .aload 0, .iload 3, .iconst (1), .isub, .iload 4, .iload 1, .invokevirtual 30548, .istore 1, .iinc 2 (1), .goto 1],
  [.return_]]
def q_EntryTable_shortest : List (List sm_I) := [[.aload 0, .getfield 1552, .ifCond .ne 2],
  [.iconst (0), .goto 3],
  [.iconst (7), .goto_w 3],
  [.istore 1, .iconst (0), .istore 2, .goto_w 4],
  [.iload 2, .aload 0, .getfield 1552, .if_icmp .ge 6],
  [.iload 1, .aload 0, .getfield 1547, .iload 2, .iaload, .invokestatic 13298, .istore 1, .iinc 2 (1), .goto 4],
  [.iload 1, .ireturn]]
def q_Grid_isHalfTurnAlike : List (List sm_I) := [[.iconst (0), .istore 1, .goto_w 1],
  [.iload 1, .aload 0, .getfield 2580, .if_icmp .ge 9],
  [.iconst (0), .istore 2, .goto_w 3],
  [.iload 2, .aload 0, .getfield 2584, .if_icmp .ge 8],
  [.aload 0, .iload 1, .iload 2, .invokevirtual 19539, .ifCond .eq 7],
  [.aload 0, .aload 0, .getfield 2580, .iconst (1), .isub, .iload 1, .isub, .aload 0, .getfield 2584, .iconst (1), .isub, .iload 2, .isub, .invokevirtual 19539, .ifCond .ne 7],
  [.iconst (0), .ireturn],
  [.iinc 2 (1), .goto 3],
  [.iinc 1 (1), .goto 1],
  [.iconst (1), .ireturn]]
def q_Grid_lettersThere : List (List sm_I) := [[.iconst (0), .istore 1, .iconst (0), .istore 2, .goto_w 1],
  [.iload 2, .aload 0, .getfield 2580, .if_icmp .ge 9],
  [.iconst (0), .istore 3, .goto_w 3],
  [.iload 3, .aload 0, .getfield 2567, .iload 2, .iaload, .if_icmp .ge 8],
  [.aload 0, .iload 2, .iload 3, .invokevirtual 5203, .iconst (1), .if_icmp .lt 7],
  [.aload 0, .iload 2, .iload 3, .invokevirtual 5203, .iconst (26), .if_icmp .gt 7],
  [.iinc 1 (1), .goto_w 7],
  [.iinc 3 (1), .goto 3],
  [.iinc 2 (1), .goto 1],
  [.iload 1, .ireturn]]
def q_D_move : List (List sm_I) := [[.aload 0, .getfield 3, .invokevirtual 2065, .iload 1, .invokestatic 2545, .ifCond .eq 6],
  [.iload 4, .invokestatic 2545, .ifCond .eq 6],
  [.iload 7, .ifCond .lt 6],
  [.iload 7, .iconst (7), .if_icmp .gt 6],
  [.iload 8, .ifCond .lt 6],
  [.iload 8, .iconst (7), .if_icmp .le 7],
  [.iconst (Int.negSucc 0), .ireturn],
  [.aload 0, .iconst (0), .putfield 46, .aload 0, .iconst (0), .putfield 52, .iconst (0), .istore 9, .goto_w 8],
  [.iload 9, .iload 7, .if_icmp .ge 12],
  [.aload 0, .getfield 11, .iload 1, .aaload, .iload 2, .iload 9, .iadd, .iload 3, .aload 0, .getfield 11, .iload 4, .aaload, .iload 5, .iload 9, .iadd, .iload 6, .iload 8, .invokestatic 32247, .istore 10, .iload 10, .ifCond .eq 11],
  [.aload 0, .getfield 3, .iload 10, .invokevirtual 2578, .ireturn],
  [.aload 0, .getfield 11, .iload 4, .aaload, .iload 5, .iload 9, .iadd, .iload 6, .aload 0, .getfield 11, .iload 1, .aaload, .iload 2, .iload 9, .iadd, .iload 3, .iload 8, .invokevirtual 32343, .aload 0, .dup, .getfield 52, .iconst (1), .iadd, .putfield 52, .iinc 9 (1), .goto 8],
  [.iload 7, .ireturn]]
def q_D_moveRefusal : List (List sm_I) := [[.aload 0, .getfield 2578, .ifCond .ne 2],
  [.iconst (1), .ireturn],
  [.aload 0, .iload 1, .invokevirtual 4178, .ifCond .ne 4],
  [.iconst (2), .ireturn],
  [.aload 3, .getfield 2578, .ifCond .ne 6],
  [.iconst (1), .ireturn],
  [.aload 3, .iload 4, .invokevirtual 4178, .ifCond .ne 8],
  [.iconst (2), .ireturn],
  [.aload 0, .getfield 2567, .iload 1, .iaload, .ifCond .lt 10],
  [.aload 3, .getfield 2567, .iload 4, .iaload, .ifCond .ge 11],
  [.iconst (1), .ireturn],
  [.aload 0, .iload 1, .iload 2, .iload 6, .invokevirtual 4948, .ifCond .eq 14],
  [.aload 3, .iload 4, .iload 5, .iload 6, .invokevirtual 4948, .ifCond .eq 14],
  [.iconst (0), .goto 15],
  [.iconst (2), .goto_w 15],
  [.ireturn]]
def q_Grid_takeRow : List (List sm_I) := [[.iload 6, .ifCond .le 2],
  [.aload 3, .getfield 2563, .iload 4, .iconst (7), .imul, .iload 5, .iadd, .aload 0, .getfield 2563, .iload 1, .iconst (7), .imul, .iload 2, .iadd, .iload 6, .invokestatic 102645, .goto_w 2],
  [.aload 0, .iload 1, .invokevirtual 32594, .return_]]
def q_Grid_dropOuterBars : List (List sm_I) := [[.iconst (0), .istore 2, .goto_w 1],
  [.iload 2, .aload 0, .getfield 2567, .iload 1, .iaload, .if_icmp .ge 7],
  [.iload 2, .aload 0, .getfield 2584, .iconst (1), .isub, .if_icmp .ne 4],
  [.aload 0, .getfield 2563, .iload 1, .iconst (7), .imul, .iload 2, .iadd, .dup2, .iaload, .iconst (Int.negSucc 32), .iand, .iastore, .goto_w 4],
  [.iload 1, .aload 0, .getfield 2580, .iconst (1), .isub, .if_icmp .ne 6],
  [.aload 0, .getfield 2563, .iload 1, .iconst (7), .imul, .iload 2, .iadd, .dup2, .iaload, .iconst (Int.negSucc 64), .iand, .iastore, .goto_w 6],
  [.iinc 2 (1), .goto 1],
  [.return_]]
def q_D_moved : List (List sm_I) := [[.aload 0, .getfield 3, .invokevirtual 2065, .aload 0, .getfield 52, .ireturn]]
def q_D_turn : List (List sm_I) := [[.aload 0, .getfield 3, .invokevirtual 2065, .aload 0, .iload 1, .invokevirtual 33282, .istore 2, .iload 2, .ifCond .eq 2],
  [.iload 2, .ireturn],
  [.aload 0, .getfield 11, .iload 1, .aaload, .invokevirtual 34129, .aload 0, .iconst (0), .putfield 46, .aload 0, .getfield 11, .iload 1, .aaload, .getfield 2580, .ireturn]]
def q_D_turnRefused : List (List sm_I) := [[.iload 1, .invokestatic 2545, .ifCond .ne 2],
  [.iconst (Int.negSucc 0), .ireturn],
  [.aload 0, .getfield 11, .iload 1, .aaload, .getfield 2578, .ifCond .eq 4],
  [.aload 0, .getfield 11, .iload 1, .aaload, .invokevirtual 33617, .ifCond .eq 5],
  [.aload 0, .getfield 3, .iconst (1), .invokevirtual 2578, .ireturn],
  [.aload 0, .getfield 11, .iload 1, .aaload, .invokevirtual 33873, .ifCond .eq 7],
  [.iconst (0), .goto 8],
  [.iconst (Int.negSucc 1), .goto_w 8],
  [.ireturn]]
def q_Grid_lacksRow : List (List sm_I) := [[.iconst (0), .istore 1, .goto_w 1],
  [.iload 1, .aload 0, .getfield 2580, .if_icmp .ge 5],
  [.aload 0, .getfield 2567, .iload 1, .iaload, .ifCond .ge 4],
  [.iconst (1), .ireturn],
  [.iinc 1 (1), .goto 1],
  [.iconst (0), .ireturn]]
def q_Grid_isUncut : List (List sm_I) := [[.iconst (0), .istore 1, .goto_w 1],
  [.iload 1, .aload 0, .getfield 2580, .if_icmp .ge 5],
  [.aload 0, .getfield 2567, .iload 1, .iaload, .aload 0, .getfield 2584, .if_icmp .eq 4],
  [.iconst (0), .ireturn],
  [.iinc 1 (1), .goto 1],
  [.iconst (1), .ireturn]]
def q_Grid_turnByQuarter : List (List sm_I) := [[.aload 0, .getfield 2571, .iconst (0), .invokestatic 3570, .iconst (0), .istore 1, .goto_w 1],
  [.iload 1, .aload 0, .getfield 2580, .if_icmp .ge 11],
  [.iconst (0), .istore 2, .goto_w 3],
  [.iload 2, .aload 0, .getfield 2584, .if_icmp .ge 10],
  [.aload 0, .getfield 2563, .iload 1, .iconst (7), .imul, .iload 2, .iadd, .iaload, .istore 3, .iload 2, .iconst (7), .imul, .aload 0, .getfield 2580, .iadd, .iconst (1), .isub, .iload 1, .isub, .istore 4, .aload 0, .getfield 2571, .iload 4, .dup2, .iaload, .iload 3, .iconst (31), .iand, .ior, .iastore, .iload 3, .iconst (32), .iand, .ifCond .eq 6],
  [.aload 0, .getfield 2571, .iload 4, .dup2, .iaload, .iconst (64), .ior, .iastore, .goto_w 6],
  [.iload 3, .iconst (64), .iand, .ifCond .eq 9],
  [.iload 1, .aload 0, .getfield 2580, .iconst (1), .isub, .if_icmp .ge 9],
  [.aload 0, .getfield 2571, .iload 4, .iconst (1), .isub, .dup2, .iaload, .iconst (32), .ior, .iastore, .goto_w 9],
  [.iinc 2 (1), .goto 3],
  [.iinc 1 (1), .goto 1],
  [.aload 0, .aload 0, .getfield 2584, .aload 0, .getfield 2580, .invokevirtual 34387, .return_]]
def q_Grid_takeSpare : List (List sm_I) := [[.aload 0, .getfield 2571, .iconst (0), .aload 0, .getfield 2563, .iconst (0), .iconst (49), .invokestatic 102645, .aload 0, .iload 1, .putfield 2580, .aload 0, .iload 2, .putfield 2584, .aload 0, .getfield 2567, .iload 2, .invokestatic 3570, .return_]]
def q_D_mirror : List (List sm_I) := [[.aload 0, .getfield 3, .invokevirtual 2065, .aload 0, .iload 1, .invokevirtual 33282, .istore 2, .iload 2, .ifCond .eq 2],
  [.iload 2, .ireturn],
  [.aload 0, .getfield 11, .iload 1, .aaload, .invokevirtual 34897, .aload 0, .iconst (0), .putfield 46, .aload 0, .getfield 11, .iload 1, .aaload, .getfield 2584, .ireturn]]
def q_Grid_swapSides : List (List sm_I) := [[.aload 0, .getfield 2571, .iconst (0), .invokestatic 3570, .iconst (0), .istore 1, .goto_w 1],
  [.iload 1, .aload 0, .getfield 2580, .if_icmp .ge 9],
  [.iconst (0), .istore 2, .goto_w 3],
  [.iload 2, .aload 0, .getfield 2584, .if_icmp .ge 8],
  [.aload 0, .getfield 2563, .iload 1, .iconst (7), .imul, .iload 2, .iadd, .iaload, .istore 3, .iload 1, .iconst (7), .imul, .aload 0, .getfield 2584, .iadd, .iconst (1), .isub, .iload 2, .isub, .istore 4, .aload 0, .getfield 2571, .iload 4, .dup2, .iaload, .iload 3, .iconst (95), .iand, .ior, .iastore, .iload 3, .iconst (32), .iand, .ifCond .eq 7],
  [.iload 2, .aload 0, .getfield 2584, .iconst (1), .isub, .if_icmp .ge 7],
  [.aload 0, .getfield 2571, .iload 4, .iconst (1), .isub, .dup2, .iaload, .iconst (32), .ior, .iastore, .goto_w 7],
  [.iinc 2 (1), .goto 3],
  [.iinc 1 (1), .goto 1],
  [.aload 0, .aload 0, .getfield 2580, .aload 0, .getfield 2584, .invokevirtual 34387, .return_]]
def q_D_trace : List (List sm_I) := [[.iload 1, .ifCond .lt 2],
  [.iload 1, .aload 0, .getfield 3, .getfield 524, .if_icmp .lt 3],
  [.iconst (Int.negSucc 4), .goto 4],
  [.aload 0, .getfield 3, .iload 1, .invokevirtual 35346, .goto_w 4],
  [.ireturn]]
def q_Notes_latest : List (List sm_I) := [[.aload 0, .getfield 515, .aload 0, .getfield 520, .iconst (1), .isub, .iload 1, .isub, .iconst (100), .invokestatic 35826, .iaload, .ireturn]]
def q_Math_floorMod : List (List sm_I) := [[.iload 0, .iload 1, .irem, .istore 2, .iload 0, .iload 1, .ixor, .ifCond .ge 3],
  [.iload 2, .ifCond .eq 3],
  [.iload 2, .iload 1, .iadd, .ireturn],
  [.iload 2, .ireturn]]
def q_D_finding : List (List sm_I) := [[.aload 0, .getfield 3, .getfield 532, .ireturn]]
def q_D_found : List (List sm_I) := [[.iload 1, .iconst (1), .if_icmp .lt 2],
  [.iload 1, .iconst (5), .if_icmp .le 3],
  [.iconst (Int.negSucc 0), .goto 4],
  [.aload 0, .getfield 3, .getfield 519, .iload 1, .iaload, .goto_w 4],
  [.ireturn]]
def q_D_digest : List (List sm_I) := [[.iload 1, .invokestatic 2545, .ifCond .eq 2],
  [.aload 0, .getfield 11, .iload 1, .aaload, .getfield 2578, .ifCond .ne 3],
  [.ldc2_w 0, .lreturn],
  [.aload 0, .getfield 11, .iload 1, .aaload, .invokevirtual 36689, .lreturn]]
def q_Grid_sum : List (List sm_I) := [[.ldc2_w 7, .lstore 1, .iconst (0), .istore 3, .goto_w 1],
  [.iload 3, .aload 0, .getfield 2580, .if_icmp .ge 6],
  [.ldc2_w 31, .lload 1, .lmul, .aload 0, .getfield 2567, .iload 3, .iaload, .i2l, .ladd, .lstore 1, .iconst (0), .istore 4, .goto_w 3],
  [.iload 4, .aload 0, .getfield 2567, .iload 3, .iaload, .if_icmp .ge 5],
  [.ldc2_w 31, .lload 1, .lmul, .aload 0, .getfield 2563, .iload 3, .iconst (7), .imul, .iload 4, .iadd, .iaload, .i2l, .ladd, .lstore 1, .iinc 4 (1), .goto 3],
  [.iinc 3 (1), .goto 1],
  [.lload 1, .lreturn]]
def q_D_count : List (List sm_I) := [[.iload 1, .tableswitch 6 (0) 4 #[1, 2, 3, 4, 5]],
  [.aload 0, .getfield 7, .getfield 1036, .ireturn],
  [.aload 0, .getfield 7, .invokevirtual 37153, .ireturn],
  [.aload 0, .invokevirtual 37377, .ireturn],
  [.aload 0, .getfield 48, .ireturn],
  [.aload 0, .getfield 3, .getfield 528, .ireturn],
  [.iconst (Int.negSucc 0), .ireturn]]
def q_Shelf_those : List (List sm_I) := [[.iconst (0), .istore 1, .iconst (0), .istore 2, .goto_w 1],
  [.iload 2, .aload 0, .getfield 1036, .if_icmp .ge 5],
  [.aload 0, .getfield 1031, .iload 2, .aaload, .ifnull 4],
  [.iinc 1 (1), .goto_w 4],
  [.iinc 2 (1), .goto 1],
  [.iload 1, .ireturn]]
def q_D_gridsThere : List (List sm_I) := [[.iconst (0), .istore 1, .iconst (0), .istore 2, .goto_w 1],
  [.iload 2, .iconst (4), .if_icmp .ge 5],
  [.aload 0, .getfield 11, .iload 2, .aaload, .getfield 2578, .ifCond .eq 4],
  [.iinc 1 (1), .goto_w 4],
  [.iinc 2 (1), .goto 1],
  [.iload 1, .ireturn]]
def q_M_init : List (List sm_I) := [[.aload 0, .invokespecial 102865, .aload 0, .iconst (4), .newarray .boolean, .putfield 3075, .aload 0, .iconst (4), .newarray .int, .putfield 3079, .aload 0, .iconst (4), .newarray .int, .putfield 3083, .aload 0, .iconst (28), .newarray .int, .putfield 3087, .aload 0, .iconst (196), .newarray .int, .putfield 3091, .aload 0, .iconst (196), .newarray .boolean, .putfield 3095, .aload 0, .iconst (196), .newarray .boolean, .putfield 3099, .aload 0, .iconst (4), .newarray .int, .dup, .iconst (0), .iconst (Int.negSucc 0), .iastore, .dup, .iconst (1), .iconst (Int.negSucc 0), .iastore, .dup, .iconst (2), .iconst (Int.negSucc 0), .iastore, .dup, .iconst (3), .iconst (Int.negSucc 0), .iastore, .putfield 3103, .aload 0, .iconst (4), .newarray .int, .dup, .iconst (0), .iconst (Int.negSucc 0), .iastore, .dup, .iconst (1), .iconst (Int.negSucc 0), .iastore, .dup, .iconst (2), .iconst (Int.negSucc 0), .iastore, .dup, .iconst (3), .iconst (Int.negSucc 0), .iastore, .putfield 3107, .aload 0, .iconst (16), .newarray .int, .putfield 3115, .aload 0, .iconst (16), .newarray .int, .putfield 3119, .aload 0, .iconst (16), .newarray .int, .putfield 3123, .aload 0, .iconst (16), .newarray .long, .putfield 3127, .aload 0, .iconst (16), .newarray .int, .putfield 3131, .aload 0, .iconst (16), .newarray .boolean, .putfield 3135, .aload 0, .iconst (16), .newarray .int, .putfield 3139, .aload 0, .iconst (640), .newarray .long, .putfield 3143, .aload 0, .iconst (640), .newarray .int, .putfield 3147, .aload 0, .iconst (6), .newarray .int, .putfield 3155, .aload 0, .iconst (100), .newarray .int, .putfield 3159, .aload 0, .iconst (40), .newarray .int, .putfield 3175, .aload 0, .iconst (40), .newarray .int, .putfield 3179, .aload 0, .iconst (40), .newarray .long, .putfield 3183, .aload 0, .iconst (40), .newarray .int, .putfield 3187, .aload 0, .iconst (40), .newarray .long, .putfield 3191, .aload 0, .iconst (48), .newarray .int, .putfield 3207, .aload 0, .iconst (48), .newarray .int, .putfield 3211, .aload 0, .iconst (48), .newarray .boolean, .putfield 3215, .aload 0, .iconst (48), .newarray .int, .putfield 3219, .aload 0, .iconst (48), .newarray .int, .putfield 3223, .aload 0, .iconst (2), .newarray .int, .putfield 3235, .aload 0, .iconst (2), .newarray .int, .putfield 3239, .aload 0, .iconst (2), .newarray .int, .putfield 3243, .aload 0, .iconst (3840), .newarray .long, .putfield 3247, .aload 0, .iconst (3840), .newarray .int, .putfield 3251, .aload 0, .iconst (96), .newarray .int, .putfield 3255, .aload 0, .iconst (96), .newarray .int, .putfield 3259, .aload 0, .iconst (96), .newarray .int, .putfield 3263, .aload 0, .iconst (96), .newarray .long, .putfield 3267, .aload 0, .iconst (96), .newarray .int, .putfield 3271, .aload 0, .iconst (98), .newarray .int, .putfield 3275, .aload 0, .iconst (672), .newarray .int, .putfield 3279, .aload 0, .iconst (96), .newarray .int, .putfield 3283, .aload 0, .iconst (144), .newarray .long, .putfield 3303, .aload 0, .iconst (49), .newarray .int, .putfield 3315, .aload 0, .iconst (49), .newarray .int, .putfield 3323, .aload 0, .iconst (49), .newarray .boolean, .putfield 3327, .aload 0, .iconst (49), .newarray .boolean, .putfield 3331, .aload 0, .iconst (0), .putfield 3108, .return_]]
def q_M_grid : List (List sm_I) := [[.aload 0, .iconst (0), .putfield 3148, .iload 1, .invokestatic 38385, .ifCond .eq 3],
  [.iload 2, .iconst (7), .if_icmp .gt 3],
  [.iload 3, .iconst (7), .if_icmp .le 4],
  [.iconst (Int.negSucc 0), .ireturn],
  [.iload 2, .ifCond .lt 6],
  [.iload 3, .ifCond .ge 7],
  [.aload 0, .iconst (4), .invokevirtual 38754, .ireturn],
  [.aload 0, .getfield 3075, .iload 1, .iconst (1), .bastore, .aload 0, .getfield 3079, .iload 1, .iload 2, .iastore, .aload 0, .getfield 3083, .iload 1, .iload 3, .iastore, .aload 0, .getfield 3103, .iload 1, .iconst (Int.negSucc 0), .iastore, .aload 0, .getfield 3107, .iload 1, .iconst (Int.negSucc 0), .iastore, .iconst (0), .istore 4, .goto_w 8],
  [.iload 4, .iconst (7), .if_icmp .ge 10],
  [.aload 0, .getfield 3087, .iconst (7), .iload 1, .imul, .iload 4, .iadd, .iload 3, .iastore, .iinc 4 (1), .goto 8],
  [.iconst (0), .istore 4, .goto_w 11],
  [.iload 4, .iconst (49), .if_icmp .ge 13],
  [.aload 0, .getfield 3091, .iconst (49), .iload 1, .imul, .iload 4, .iadd, .iconst (0), .iastore, .aload 0, .getfield 3095, .iconst (49), .iload 1, .imul, .iload 4, .iadd, .iconst (0), .bastore, .aload 0, .getfield 3099, .iconst (49), .iload 1, .imul, .iload 4, .iadd, .iconst (0), .bastore, .iinc 4 (1), .goto 11],
  [.aload 0, .invokevirtual 39009, .iload 2, .ireturn]]
def q_M_isGrid : List (List sm_I) := [[.iload 0, .iconst (0), .iconst (3), .invokestatic 38643, .ireturn]]
def q_M_in : List (List sm_I) := [[.iload 0, .iload 1, .if_icmp .lt 3],
  [.iload 0, .iload 2, .if_icmp .gt 3],
  [.iconst (1), .goto 4],
  [.iconst (0), .goto_w 4],
  [.ireturn]]
def q_M_met : List (List sm_I) := [[.aload 0, .iload 1, .putfield 3148, .aload 0, .getfield 3155, .iload 1, .dup2, .iaload, .iconst (1), .iadd, .iastore, .iconst (Int.negSucc 9), .iload 1, .isub, .ireturn]]
def q_M_changed : List (List sm_I) := [[.aload 0, .iconst (0), .putfield 3226, .return_]]
def q_M_cut : List (List sm_I) := [[.aload 0, .iconst (0), .putfield 3148, .iload 1, .invokestatic 38385, .ifCond .eq 2],
  [.iload 3, .iconst (Int.negSucc 0), .if_icmp .ge 3],
  [.iconst (Int.negSucc 0), .ireturn],
  [.aload 0, .getfield 3075, .iload 1, .baload, .ifCond .ne 5],
  [.aload 0, .iconst (1), .invokevirtual 38754, .ireturn],
  [.iload 2, .iconst (0), .aload 0, .getfield 3079, .iload 1, .iaload, .iconst (1), .isub, .invokestatic 38643, .ifCond .ne 7],
  [.aload 0, .iconst (2), .invokevirtual 38754, .ireturn],
  [.aload 0, .iload 1, .iload 2, .invokevirtual 39523, .istore 4, .iload 4, .ifCond .ge 9],
  [.aload 0, .iconst (1), .invokevirtual 38754, .ireturn],
  [.iload 3, .iload 4, .if_icmp .le 11],
  [.aload 0, .iconst (2), .invokevirtual 38754, .ireturn],
  [.aload 0, .getfield 3087, .iconst (7), .iload 1, .imul, .iload 2, .iadd, .iload 3, .iastore, .aload 0, .invokevirtual 39009, .iload 4, .ireturn]]
def q_M_rowOf : List (List sm_I) := [[.aload 0, .getfield 3087, .iconst (7), .iload 1, .imul, .iload 2, .iadd, .iaload, .ireturn]]
def q_M_letter : List (List sm_I) := [[.aload 0, .iconst (0), .putfield 3148, .iload 1, .invokestatic 38385, .ifCond .eq 2],
  [.iload 4, .iconst (0), .iconst (26), .invokestatic 38643, .ifCond .ne 3],
  [.iconst (Int.negSucc 0), .ireturn],
  [.aload 0, .iload 1, .iload 2, .iload 3, .invokevirtual 40036, .istore 5, .iload 5, .ifCond .le 5],
  [.aload 0, .iload 5, .invokevirtual 38754, .ireturn],
  [.aload 0, .getfield 3091, .iload 1, .iload 2, .iload 3, .invokestatic 40435, .iaload, .istore 6, .iload 6, .iconst (27), .if_icmp .ne 7],
  [.iconst (Int.negSucc 1), .ireturn],
  [.aload 0, .getfield 3091, .iload 1, .iload 2, .iload 3, .invokestatic 40435, .iload 4, .iastore, .aload 0, .invokevirtual 39009, .iload 6, .ireturn]]
def q_M_wrong : List (List sm_I) := [[.aload 0, .getfield 3075, .iload 1, .baload, .ifCond .ne 2],
  [.iconst (1), .ireturn],
  [.iload 2, .iconst (0), .aload 0, .getfield 3079, .iload 1, .iaload, .iconst (1), .isub, .invokestatic 38643, .ifCond .ne 4],
  [.iconst (2), .ireturn],
  [.aload 0, .iload 1, .iload 2, .invokevirtual 39523, .ifCond .ge 6],
  [.iconst (1), .goto 9],
  [.iload 3, .iconst (0), .aload 0, .iload 1, .iload 2, .invokevirtual 39523, .iconst (1), .isub, .invokestatic 38643, .ifCond .eq 8],
  [.iconst (0), .goto 9],
  [.iconst (2), .goto_w 9],
  [.ireturn]]
def q_M_square : List (List sm_I) := [[.iconst (49), .iload 0, .imul, .iconst (7), .iload 1, .imul, .iadd, .iload 2, .iadd, .ireturn]]
def q_M_black : List (List sm_I) := [[.aload 0, .iconst (0), .putfield 3148, .iload 1, .invokestatic 38385, .ifCond .ne 2],
  [.iconst (Int.negSucc 0), .ireturn],
  [.aload 0, .iload 1, .iload 2, .iload 3, .invokevirtual 40036, .istore 5, .iload 5, .ifCond .le 4],
  [.aload 0, .iload 5, .invokevirtual 38754, .ireturn],
  [.aload 0, .getfield 3091, .iload 1, .iload 2, .iload 3, .invokestatic 40435, .iaload, .istore 6, .aload 0, .getfield 3091, .iload 1, .iload 2, .iload 3, .invokestatic 40435, .iload 4, .ifCond .eq 6],
  [.iconst (27), .goto 9],
  [.iload 6, .iconst (27), .if_icmp .ne 8],
  [.iconst (0), .goto 9],
  [.iload 6, .goto_w 9],
  [.iastore, .aload 0, .invokevirtual 39009, .iload 6, .ireturn]]
def q_M_bar : List (List sm_I) := [[.aload 0, .iconst (0), .putfield 3148, .iload 1, .invokestatic 38385, .ifCond .ne 2],
  [.iconst (Int.negSucc 0), .ireturn],
  [.aload 0, .iload 1, .iload 2, .iload 3, .invokevirtual 40036, .istore 6, .iload 6, .ifCond .le 4],
  [.aload 0, .iload 6, .invokevirtual 38754, .ireturn],
  [.iload 4, .ifCond .eq 7],
  [.iload 2, .aload 0, .getfield 3079, .iload 1, .iaload, .iconst (1), .isub, .if_icmp .ne 9],
  [.goto 8],
  [.iload 3, .aload 0, .getfield 3083, .iload 1, .iaload, .iconst (1), .isub, .if_icmp .ne 9],
  [.iconst (Int.negSucc 1), .ireturn],
  [.iload 1, .iload 2, .iload 3, .invokestatic 40435, .istore 7, .iload 4, .ifCond .eq 11],
  [.aload 0, .getfield 3099, .iload 7, .baload, .goto 12],
  [.aload 0, .getfield 3095, .iload 7, .baload, .goto_w 12],
  [.istore 8, .iload 4, .ifCond .eq 14],
  [.aload 0, .getfield 3099, .iload 7, .iload 5, .bastore, .goto 15],
  [.aload 0, .getfield 3095, .iload 7, .iload 5, .bastore, .goto_w 15],
  [.aload 0, .invokevirtual 39009, .iload 8, .ifCond .eq 17],
  [.iconst (1), .goto 18],
  [.iconst (0), .goto_w 18],
  [.ireturn]]
def q_M_at : List (List sm_I) := [[.aload 0, .iconst (0), .putfield 3148, .iload 1, .invokestatic 38385, .ifCond .ne 2],
  [.iconst (Int.negSucc 0), .ireturn],
  [.aload 0, .iload 1, .iload 2, .iload 3, .invokevirtual 40036, .istore 4, .iload 4, .ifCond .le 4],
  [.aload 0, .iload 4, .invokevirtual 38754, .goto 5],
  [.aload 0, .iload 1, .iload 2, .iload 3, .invokestatic 40435, .invokevirtual 41314, .goto_w 5],
  [.ireturn]]
def q_M_told : List (List sm_I) := [[.aload 0, .getfield 3091, .iload 1, .iaload, .aload 0, .getfield 3095, .iload 1, .baload, .ifCond .eq 2],
  [.iconst (32), .goto 3],
  [.iconst (0), .goto_w 3],
  [.iadd, .aload 0, .getfield 3099, .iload 1, .baload, .ifCond .eq 5],
  [.iconst (64), .goto 6],
  [.iconst (0), .goto_w 6],
  [.iadd, .ireturn]]
def q_M_list : List (List sm_I) := [[.aload 0, .iconst (0), .putfield 3148, .iload 1, .iconst (0), .iconst (4), .invokestatic 38643, .ifCond .eq 7],
  [.iload 1, .iconst (2), .if_icmp .le 3],
  [.aload 0, .iload 2, .invokevirtual 41826, .ifCond .eq 7],
  [.iload 1, .iconst (4), .if_icmp .ne 5],
  [.aload 0, .iload 3, .invokevirtual 41826, .ifCond .eq 7],
  [.iload 1, .iconst (3), .if_icmp .ne 8],
  [.lload 4, .iconst (27), .invokestatic 42226, .ifCond .ne 8],
  [.iconst (Int.negSucc 0), .ireturn],
  [.iconst (1), .iload 1, .iconst (2), .if_icmp .le 10],
  [.aload 0, .getfield 3131, .iload 2, .iaload, .goto 11],
  [.iconst (0), .goto_w 11],
  [.iadd, .iload 1, .iconst (4), .if_icmp .ne 13],
  [.aload 0, .getfield 3131, .iload 3, .iaload, .goto 14],
  [.iconst (0), .goto_w 14],
  [.iadd, .istore 6, .aload 0, .getfield 3108, .iconst (16), .if_icmp .eq 16],
  [.iload 6, .iconst (30), .if_icmp .le 17],
  [.iconst (Int.negSucc 2), .ireturn],
  [.aload 0, .getfield 3115, .aload 0, .getfield 3108, .iload 1, .iastore, .aload 0, .getfield 3119, .aload 0, .getfield 3108, .iload 2, .iastore, .aload 0, .getfield 3123, .aload 0, .getfield 3108, .iload 3, .iastore, .aload 0, .getfield 3127, .aload 0, .getfield 3108, .lload 4, .lastore, .aload 0, .getfield 3131, .aload 0, .getfield 3108, .iload 6, .iastore, .aload 0, .dup, .getfield 3108, .iconst (1), .iadd, .putfield 3108, .aload 0, .invokevirtual 39009, .aload 0, .getfield 3108, .iconst (1), .isub, .ireturn]]
def q_M_isList : List (List sm_I) := [[.iload 1, .iconst (0), .aload 0, .getfield 3108, .iconst (1), .isub, .invokestatic 38643, .ireturn]]
def q_M_isWord : List (List sm_I) := [[.lload 0, .invokestatic 42481, .istore 3, .iload 3, .iconst (2), .iconst (7), .invokestatic 38643, .istore 4, .iconst (0), .istore 5, .goto_w 1],
  [.iload 5, .iload 3, .if_icmp .ge 4],
  [.iload 4, .ifCond .eq 4],
  [.lload 0, .iload 5, .invokestatic 42738, .iconst (1), .iload 2, .invokestatic 38643, .istore 4, .iinc 5 (1), .goto 1],
  [.iload 4, .ireturn]]
def q_M_sizeOf : List (List sm_I) := [[.iconst (0), .istore 2, .lload 0, .lstore 3, .goto_w 1],
  [.lload 3, .ldc2_w 0, .lcmp, .ifCond .eq 3],
  [.iinc 2 (1), .lload 3, .iconst (5), .lushr, .lstore 3, .goto 1],
  [.iload 2, .ireturn]]
def q_M_place : List (List sm_I) := [[.lload 0, .iconst (5), .iload 2, .imul, .lushr, .l2i, .iconst (31), .iand, .ireturn]]
def q_M_drop : List (List sm_I) := [[.aload 0, .iconst (0), .putfield 3148, .aload 0, .iload 1, .invokevirtual 41826, .ifCond .ne 2],
  [.iconst (Int.negSucc 0), .ireturn],
  [.aload 0, .getfield 3135, .iload 1, .baload, .ifCond .eq 4],
  [.aload 0, .iconst (1), .invokevirtual 38754, .ireturn],
  [.aload 0, .getfield 3135, .iload 1, .iconst (1), .bastore, .aload 0, .invokevirtual 39009, .iconst (1), .ireturn]]
def q_M_word : List (List sm_I) := [[.aload 0, .iconst (0), .putfield 3148, .aload 0, .iload 1, .invokevirtual 41826, .ifCond .eq 3],
  [.lload 2, .iconst (26), .invokestatic 42226, .ifCond .eq 3],
  [.iload 4, .iconst (Int.negSucc 99), .iconst (100), .invokestatic 38643, .ifCond .ne 4],
  [.iconst (Int.negSucc 0), .ireturn],
  [.aload 0, .getfield 3135, .iload 1, .baload, .ifCond .ne 6],
  [.aload 0, .getfield 3115, .iload 1, .iaload, .iconst (2), .if_icmp .le 10],
  [.aload 0, .aload 0, .getfield 3135, .iload 1, .baload, .ifCond .eq 8],
  [.iconst (1), .goto 9],
  [.iconst (3), .goto_w 9],
  [.invokevirtual 38754, .ireturn],
  [.aload 0, .iload 1, .lload 2, .invokevirtual 43363, .istore 5, .iload 5, .ifCond .ge 13],
  [.aload 0, .getfield 3139, .iload 1, .iaload, .iconst (40), .if_icmp .ne 13],
  [.iconst (Int.negSucc 2), .ireturn],
  [.iload 5, .ifCond .ge 15],
  [.aload 0, .getfield 3139, .iload 1, .iaload, .istore 5, .aload 0, .getfield 3143, .iconst (40), .iload 1, .imul, .iload 5, .iadd, .lload 2, .lastore, .aload 0, .getfield 3139, .iload 1, .dup2, .iaload, .iconst (1), .iadd, .iastore, .goto_w 15],
  [.aload 0, .getfield 3147, .iconst (40), .iload 1, .imul, .iload 5, .iadd, .iload 4, .iastore, .aload 0, .invokevirtual 39009, .aload 0, .getfield 3139, .iload 1, .iaload, .ireturn]]
def q_M_standsAt : List (List sm_I) := [[.iconst (Int.negSucc 0), .istore 4, .iconst (0), .istore 5, .goto_w 1],
  [.iload 5, .aload 0, .getfield 3139, .iload 1, .iaload, .if_icmp .ge 6],
  [.aload 0, .getfield 3143, .iconst (40), .iload 1, .imul, .iload 5, .iadd, .laload, .lload 2, .lcmp, .ifCond .ne 4],
  [.iload 5, .goto 5],
  [.iload 4, .goto_w 5],
  [.istore 4, .iinc 5 (1), .goto 1],
  [.iload 4, .ireturn]]
def q_M_ask : List (List sm_I) := [[.aload 0, .iconst (0), .putfield 3148, .iload 2, .ifCond .eq 2],
  [.iload 2, .iconst (3), .if_icmp .ne 3],
  [.iconst (1), .goto 4],
  [.iconst (0), .goto_w 4],
  [.istore 5, .aload 0, .iload 1, .invokevirtual 41826, .ifCond .eq 9],
  [.iload 2, .iconst (0), .iconst (4), .invokestatic 38643, .ifCond .eq 9],
  [.iload 2, .iconst (2), .if_icmp .eq 9],
  [.iload 5, .ifCond .eq 10],
  [.lload 3, .iconst (26), .invokestatic 42226, .ifCond .ne 10],
  [.iconst (Int.negSucc 0), .ireturn],
  [.iload 2, .iconst (4), .if_icmp .ne 15],
  [.aload 0, .getfield 3135, .iload 1, .baload, .ifCond .eq 13],
  [.aload 0, .iconst (1), .invokevirtual 38754, .goto 14],
  [.aload 0, .getfield 3115, .iload 1, .iaload, .goto_w 14],
  [.ireturn],
  [.aload 0, .iload 1, .iload 2, .lload 3, .invokevirtual 43876, .ifCond .eq 17],
  [.aload 0, .getfield 3193, .l2i, .goto 18],
  [.aload 0, .aload 0, .getfield 3196, .invokevirtual 38754, .goto_w 18],
  [.ireturn]]
def q_M_asks : List (List sm_I) := [[.aload 0, .iconst (0), .putfield 3168, .aload 0, .iconst (0), .putfield 3196, .aload 0, .iload 1, .iload 2, .lload 3, .invokevirtual 44132, .goto_w 1],
  [.aload 0, .getfield 3168, .ifCond .le 12],
  [.aload 0, .getfield 3196, .ifCond .ne 12],
  [.aload 0, .getfield 3168, .iconst (1), .isub, .istore 5, .aload 0, .getfield 3175, .iload 5, .iaload, .istore 6, .aload 0, .getfield 3187, .iload 5, .iaload, .istore 7, .aload 0, .getfield 3187, .iload 5, .dup2, .iaload, .iconst (1), .iadd, .iastore, .iload 7, .ifCond .ne 6],
  [.aload 0, .getfield 3135, .iload 6, .baload, .ifCond .eq 6],
  [.aload 0, .iconst (1), .putfield 3196, .goto 11],
  [.aload 0, .getfield 3115, .iload 6, .iaload, .iconst (3), .if_icmp .ge 8],
  [.aload 0, .iload 6, .aload 0, .getfield 3179, .iload 5, .iaload, .aload 0, .getfield 3183, .iload 5, .laload, .invokevirtual 44388, .goto 11],
  [.aload 0, .getfield 3115, .iload 6, .iaload, .iconst (3), .if_icmp .ne 10],
  [.aload 0, .iload 5, .iload 6, .aload 0, .getfield 3179, .iload 5, .iaload, .aload 0, .getfield 3183, .iload 5, .laload, .iload 7, .invokevirtual 45158, .goto 11],
  [.aload 0, .iload 5, .iload 6, .aload 0, .getfield 3179, .iload 5, .iaload, .aload 0, .getfield 3183, .iload 5, .laload, .iload 7, .invokevirtual 45670, .goto_w 11],
  [.goto 1],
  [.aload 0, .getfield 3196, .ifCond .ne 14],
  [.iconst (1), .goto 15],
  [.iconst (0), .goto_w 15],
  [.ireturn]]
def q_M_push : List (List sm_I) := [[.aload 0, .getfield 3175, .aload 0, .getfield 3168, .iload 1, .iastore, .aload 0, .getfield 3179, .aload 0, .getfield 3168, .iload 2, .iastore, .aload 0, .getfield 3183, .aload 0, .getfield 3168, .lload 3, .lastore, .aload 0, .getfield 3187, .aload 0, .getfield 3168, .iconst (0), .iastore, .aload 0, .dup, .getfield 3168, .iconst (1), .iadd, .putfield 3168, .return_]]
def q_M_plain : List (List sm_I) := [[.aload 0, .getfield 3115, .iload 1, .iaload, .istore 5, .iload 2, .ifCond .ne 13],
  [.iload 5, .iconst (2), .if_icmp .ne 3],
  [.aload 0, .iconst (20), .invokevirtual 44642, .goto_w 3],
  [.aload 0, .iconst (0), .invokevirtual 44642, .aload 0, .aload 0, .iload 1, .lload 3, .invokevirtual 43363, .ifCond .lt 5],
  [.iconst (1), .goto 6],
  [.iconst (0), .goto_w 6],
  [.iload 5, .iconst (2), .if_icmp .eq 8],
  [.iconst (1), .goto 9],
  [.iconst (0), .goto_w 9],
  [.if_icmp .ne 11],
  [.ldc2_w 1, .goto 12],
  [.ldc2_w 0, .goto_w 12],
  [.invokevirtual 44898, .goto 33],
  [.iload 2, .iconst (1), .if_icmp .ne 21],
  [.aload 0, .iload 5, .iconst (2), .if_icmp .ne 16],
  [.iconst (21), .goto 17],
  [.iconst (1), .goto_w 17],
  [.invokevirtual 44642, .aload 0, .iload 5, .iconst (2), .if_icmp .ne 19],
  [.ldc2_w 0, .goto 20],
  [.aload 0, .getfield 3139, .iload 1, .iaload, .i2l, .goto_w 20],
  [.invokevirtual 44898, .goto 33],
  [.iload 2, .iconst (2), .if_icmp .ne 26],
  [.aload 0, .iconst (2), .invokevirtual 44642, .lload 3, .ldc2_w 0, .lcmp, .ifCond .lt 24],
  [.lload 3, .aload 0, .getfield 3139, .iload 1, .iaload, .i2l, .lcmp, .ifCond .lt 25],
  [.aload 0, .iconst (2), .putfield 3196, .goto 33],
  [.aload 0, .aload 0, .getfield 3143, .iconst (40), .iload 1, .imul, .lload 3, .l2i, .iadd, .laload, .invokevirtual 44898, .goto 33],
  [.iload 5, .iconst (1), .if_icmp .ne 28],
  [.aload 0, .iconst (13), .invokevirtual 44642, .goto_w 28],
  [.aload 0, .iconst (3), .invokevirtual 44642, .aload 0, .iload 1, .lload 3, .invokevirtual 43363, .istore 6, .aload 0, .iload 5, .iconst (1), .if_icmp .ne 31],
  [.iload 6, .ifCond .lt 31],
  [.aload 0, .getfield 3147, .iconst (40), .iload 1, .imul, .iload 6, .iadd, .iaload, .i2l, .goto 32],
  [.ldc2_w 0, .goto_w 32],
  [.invokevirtual 44898, .goto_w 33],
  [.return_]]
def q_M_began : List (List sm_I) := [[.aload 0, .getfield 3159, .aload 0, .getfield 3160, .iconst (100), .irem, .iload 1, .iastore, .aload 0, .dup, .getfield 3160, .iconst (1), .iadd, .putfield 3160, .return_]]
def q_M_pop : List (List sm_I) := [[.aload 0, .lload 1, .putfield 3193, .aload 0, .dup, .getfield 3168, .iconst (1), .isub, .putfield 3168, .return_]]
def q_M_patterned : List (List sm_I) := [[.iload 6, .ifCond .ne 5],
  [.aload 0, .iconst (30), .iload 3, .iadd, .invokevirtual 44642, .iload 3, .ifCond .ne 4],
  [.aload 0, .iload 2, .lload 4, .invokevirtual 45411, .ifCond .ne 4],
  [.aload 0, .ldc2_w 0, .invokevirtual 44898, .goto 13],
  [.aload 0, .aload 0, .getfield 3119, .iload 2, .iaload, .iload 3, .lload 4, .invokevirtual 44132, .goto 13],
  [.aload 0, .iload 3, .iconst (2), .if_icmp .ne 9],
  [.aload 0, .iload 2, .aload 0, .getfield 3193, .invokevirtual 45411, .ifCond .eq 8],
  [.aload 0, .getfield 3193, .goto 12],
  [.ldc2_w 0, .goto 12],
  [.iload 3, .iconst (3), .if_icmp .ne 11],
  [.aload 0, .getfield 3193, .ldc2_w 1, .ladd, .goto 12],
  [.aload 0, .getfield 3193, .goto_w 12],
  [.invokevirtual 44898, .goto_w 13],
  [.return_]]
def q_M_fits : List (List sm_I) := [[.lload 2, .invokestatic 42481, .aload 0, .getfield 3127, .iload 1, .laload, .invokestatic 42481, .if_icmp .ne 2],
  [.iconst (1), .goto 3],
  [.iconst (0), .goto_w 3],
  [.istore 4, .iconst (0), .istore 5, .goto_w 4],
  [.iload 5, .iconst (7), .if_icmp .ge 11],
  [.iload 4, .ifCond .eq 11],
  [.aload 0, .getfield 3127, .iload 1, .laload, .iload 5, .invokestatic 42738, .iconst (27), .if_icmp .eq 8],
  [.aload 0, .getfield 3127, .iload 1, .laload, .iload 5, .invokestatic 42738, .lload 2, .iload 5, .invokestatic 42738, .if_icmp .ne 9],
  [.iconst (1), .goto 10],
  [.iconst (0), .goto_w 10],
  [.istore 4, .iinc 5 (1), .goto 4],
  [.iload 4, .ireturn]]
def q_M_joined : List (List sm_I) := [[.iload 6, .ifCond .ne 2],
  [.aload 0, .iconst (40), .iload 3, .iadd, .invokevirtual 44642, .aload 0, .aload 0, .getfield 3119, .iload 2, .iaload, .iload 3, .lload 4, .invokevirtual 44132, .goto 25],
  [.iload 6, .iconst (1), .if_icmp .ne 13],
  [.iload 3, .iconst (1), .if_icmp .eq 13],
  [.iload 3, .iconst (3), .if_icmp .eq 6],
  [.aload 0, .getfield 3193, .ldc2_w 0, .lcmp, .ifCond .eq 13],
  [.aload 0, .getfield 3191, .iload 1, .aload 0, .getfield 3193, .lastore, .aload 0, .aload 0, .getfield 3123, .iload 2, .iaload, .iload 3, .iconst (2), .if_icmp .ne 8],
  [.iconst (0), .goto 9],
  [.iload 3, .goto_w 9],
  [.iload 3, .iconst (2), .if_icmp .ne 11],
  [.aload 0, .getfield 3193, .goto 12],
  [.lload 4, .goto_w 12],
  [.invokevirtual 44132, .goto 25],
  [.iload 6, .iconst (2), .if_icmp .ne 16],
  [.iload 3, .ifCond .eq 16],
  [.iconst (1), .goto 17],
  [.iconst (0), .goto_w 17],
  [.istore 7, .aload 0, .iload 7, .ifCond .ne 19],
  [.aload 0, .getfield 3193, .goto 24],
  [.iload 3, .iconst (3), .if_icmp .ne 21],
  [.aload 0, .getfield 3191, .iload 1, .laload, .aload 0, .getfield 3193, .ladd, .goto 24],
  [.aload 0, .getfield 3193, .ldc2_w 0, .lcmp, .ifCond .eq 23],
  [.aload 0, .getfield 3191, .iload 1, .laload, .goto 24],
  [.ldc2_w 0, .goto_w 24],
  [.invokevirtual 44898, .goto_w 25],
  [.return_]]
def q_M_wordOf : List (List sm_I) := [[.aload 0, .iconst (0), .putfield 3148, .aload 0, .iload 1, .invokevirtual 41826, .ifCond .ne 2],
  [.ldc2_w 0, .lreturn],
  [.aload 0, .iload 1, .iconst (2), .iload 2, .i2l, .invokevirtual 43876, .ifCond .eq 4],
  [.aload 0, .getfield 3193, .goto 5],
  [.aload 0, .aload 0, .getfield 3196, .invokevirtual 46178, .goto_w 5],
  [.lreturn]]
def q_M_metLong : List (List sm_I) := [[.aload 0, .iload 1, .invokevirtual 38754, .istore 2, .ldc2_w 0, .lreturn]]
def q_M_uses : List (List sm_I) := [[.aload 0, .iconst (0), .putfield 3148, .iload 1, .invokestatic 38385, .ifCond .eq 3],
  [.iload 3, .iconst (Int.negSucc 0), .if_icmp .eq 4],
  [.aload 0, .iload 3, .invokevirtual 41826, .ifCond .ne 4],
  [.iconst (Int.negSucc 0), .ireturn],
  [.aload 0, .getfield 3075, .iload 1, .baload, .ifCond .ne 6],
  [.aload 0, .iconst (1), .invokevirtual 38754, .ireturn],
  [.iload 2, .ifCond .eq 8],
  [.aload 0, .getfield 3107, .iload 1, .iaload, .goto 9],
  [.aload 0, .getfield 3103, .iload 1, .iaload, .goto_w 9],
  [.istore 4, .iload 2, .ifCond .eq 11],
  [.aload 0, .getfield 3107, .iload 1, .iload 3, .iastore, .goto 12],
  [.aload 0, .getfield 3103, .iload 1, .iload 3, .iastore, .goto_w 12],
  [.aload 0, .invokevirtual 39009, .iload 4, .ireturn]]
def q_M_entries : List (List sm_I) := [[.aload 0, .iconst (0), .putfield 3148, .iload 1, .invokestatic 38385, .ifCond .ne 2],
  [.iconst (Int.negSucc 0), .ireturn],
  [.aload 0, .getfield 3075, .iload 1, .baload, .ifCond .ne 4],
  [.aload 0, .iconst (1), .invokevirtual 38754, .ireturn],
  [.aload 0, .iload 1, .invokevirtual 46946, .aload 0, .getfield 3200, .ireturn]]
def q_M_findEntries : List (List sm_I) := [[.aload 0, .iconst (0), .putfield 3200, .iconst (1), .istore 2, .iconst (0), .istore 3, .goto_w 1],
  [.iload 3, .aload 0, .getfield 3079, .iload 1, .iaload, .if_icmp .ge 14],
  [.iconst (0), .istore 4, .goto_w 3],
  [.iload 4, .aload 0, .getfield 3083, .iload 1, .iaload, .if_icmp .ge 13],
  [.aload 0, .iload 1, .iload 3, .iload 4, .iconst (0), .invokevirtual 47205, .istore 5, .aload 0, .iload 1, .iload 3, .iload 4, .iconst (1), .invokevirtual 47205, .istore 6, .iload 5, .ifCond .eq 6],
  [.aload 0, .iload 1, .iload 3, .iload 4, .iconst (0), .iload 2, .invokevirtual 48230, .istore 7, .goto_w 6],
  [.iload 6, .ifCond .eq 8],
  [.aload 0, .iload 1, .iload 3, .iload 4, .iconst (1), .iload 2, .invokevirtual 48230, .istore 7, .goto_w 8],
  [.iload 2, .iload 5, .ifCond .ne 10],
  [.iload 6, .ifCond .eq 11],
  [.iconst (1), .goto 12],
  [.iconst (0), .goto_w 12],
  [.iadd, .istore 2, .iinc 4 (1), .goto 3],
  [.iinc 3 (1), .goto 1],
  [.return_]]
def q_M_begins : List (List sm_I) := [[.aload 0, .iload 1, .iload 2, .iload 3, .iload 4, .invokevirtual 47461, .ifCond .eq 9],
  [.aload 0, .iload 1, .iload 4, .ifCond .eq 3],
  [.iload 2, .iconst (1), .isub, .goto 4],
  [.iload 2, .goto_w 4],
  [.iload 4, .ifCond .eq 6],
  [.iload 3, .goto 7],
  [.iload 3, .iconst (1), .isub, .goto_w 7],
  [.iload 4, .invokevirtual 47461, .ifCond .ne 9],
  [.iconst (1), .goto 10],
  [.iconst (0), .goto_w 10],
  [.ireturn]]
def q_M_goesOn : List (List sm_I) := [[.aload 0, .iload 1, .iload 2, .iload 3, .invokevirtual 47716, .ifCond .eq 8],
  [.aload 0, .iload 1, .iload 4, .ifCond .eq 3],
  [.iload 2, .iconst (1), .iadd, .goto 4],
  [.iload 2, .goto_w 4],
  [.iload 4, .ifCond .eq 6],
  [.iload 3, .goto 7],
  [.iload 3, .iconst (1), .iadd, .goto_w 7],
  [.invokevirtual 47716, .ifCond .ne 9],
  [.iconst (0), .ireturn],
  [.iload 4, .ifCond .eq 13],
  [.aload 0, .getfield 3099, .iload 1, .iload 2, .iload 3, .invokestatic 40435, .baload, .ifCond .ne 12],
  [.iconst (1), .goto 16],
  [.iconst (0), .goto 16],
  [.aload 0, .getfield 3095, .iload 1, .iload 2, .iload 3, .invokestatic 40435, .baload, .ifCond .ne 15],
  [.iconst (1), .goto 16],
  [.iconst (0), .goto_w 16],
  [.ireturn]]
def q_M_isWhite : List (List sm_I) := [[.aload 0, .iload 1, .iload 2, .iload 3, .invokevirtual 47972, .ifCond .eq 3],
  [.aload 0, .getfield 3091, .iload 1, .iload 2, .iload 3, .invokestatic 40435, .iaload, .iconst (27), .if_icmp .eq 3],
  [.iconst (1), .goto 4],
  [.iconst (0), .goto_w 4],
  [.ireturn]]
def q_M_isThere : List (List sm_I) := [[.iload 2, .iconst (0), .aload 0, .getfield 3079, .iload 1, .iaload, .iconst (1), .isub, .invokestatic 38643, .ifCond .eq 3],
  [.iload 3, .iconst (0), .aload 0, .iload 1, .iload 2, .invokevirtual 39523, .iconst (1), .isub, .invokestatic 38643, .ifCond .eq 3],
  [.iconst (1), .goto 4],
  [.iconst (0), .goto_w 4],
  [.ireturn]]
def q_M_addEntry : List (List sm_I) := [[.iconst (1), .istore 6, .goto_w 1],
  [.aload 0, .iload 1, .iload 4, .ifCond .eq 3],
  [.iload 2, .iload 6, .iadd, .iconst (1), .isub, .goto 4],
  [.iload 2, .goto_w 4],
  [.iload 4, .ifCond .eq 6],
  [.iload 3, .goto 7],
  [.iload 3, .iload 6, .iadd, .iconst (1), .isub, .goto_w 7],
  [.iload 4, .invokevirtual 47461, .ifCond .eq 9],
  [.iinc 6 (1), .goto 1],
  [.aload 0, .getfield 3207, .aload 0, .getfield 3200, .iload 2, .iastore, .aload 0, .getfield 3211, .aload 0, .getfield 3200, .iload 3, .iastore, .aload 0, .getfield 3215, .aload 0, .getfield 3200, .iload 4, .bastore, .aload 0, .getfield 3219, .aload 0, .getfield 3200, .iload 6, .iastore, .aload 0, .getfield 3223, .aload 0, .getfield 3200, .iload 5, .iastore, .aload 0, .dup, .getfield 3200, .iconst (1), .iadd, .putfield 3200, .iload 6, .ireturn]]
def q_M_entry : List (List sm_I) := [[.aload 0, .iconst (0), .putfield 3148, .iload 1, .invokestatic 38385, .ifCond .eq 2],
  [.iload 3, .iconst (0), .iconst (4), .invokestatic 38643, .ifCond .ne 3],
  [.iconst (Int.negSucc 0), .ireturn],
  [.aload 0, .getfield 3075, .iload 1, .baload, .ifCond .ne 5],
  [.aload 0, .iconst (1), .invokevirtual 38754, .ireturn],
  [.aload 0, .iload 1, .invokevirtual 46946, .iload 2, .iconst (0), .aload 0, .getfield 3200, .iconst (1), .isub, .invokestatic 38643, .ifCond .ne 7],
  [.aload 0, .iconst (2), .invokevirtual 38754, .ireturn],
  [.iload 3, .ifCond .ne 9],
  [.aload 0, .getfield 3207, .iload 2, .iaload, .goto 18],
  [.iload 3, .iconst (1), .if_icmp .ne 11],
  [.aload 0, .getfield 3211, .iload 2, .iaload, .goto 18],
  [.iload 3, .iconst (2), .if_icmp .ne 15],
  [.aload 0, .getfield 3215, .iload 2, .baload, .ifCond .eq 14],
  [.iconst (1), .goto 18],
  [.iconst (0), .goto 18],
  [.iload 3, .iconst (3), .if_icmp .ne 17],
  [.aload 0, .getfield 3219, .iload 2, .iaload, .goto 18],
  [.aload 0, .getfield 3223, .iload 2, .iaload, .goto_w 18],
  [.ireturn]]
def q_M_stands : List (List sm_I) := [[.aload 0, .iconst (0), .putfield 3148, .iload 1, .invokestatic 38385, .ifCond .ne 2],
  [.ldc2_w 0, .lreturn],
  [.aload 0, .getfield 3075, .iload 1, .baload, .ifCond .ne 4],
  [.aload 0, .iconst (1), .invokevirtual 46178, .lreturn],
  [.aload 0, .iload 1, .invokevirtual 46946, .iload 2, .iconst (0), .aload 0, .getfield 3200, .iconst (1), .isub, .invokestatic 38643, .ifCond .ne 6],
  [.aload 0, .iconst (2), .invokevirtual 46178, .lreturn],
  [.ldc2_w 0, .lstore 3, .iconst (1), .istore 5, .iconst (0), .istore 6, .goto_w 7],
  [.iload 6, .aload 0, .getfield 3219, .iload 2, .iaload, .if_icmp .ge 13],
  [.aload 0, .getfield 3091, .iconst (49), .iload 1, .imul, .aload 0, .iload 2, .iload 6, .invokevirtual 48995, .iadd, .iaload, .istore 7, .iload 5, .ifCond .eq 11],
  [.iload 7, .ifCond .le 11],
  [.iconst (1), .goto 12],
  [.iconst (0), .goto_w 12],
  [.istore 5, .lload 3, .iload 7, .i2l, .iconst (5), .iload 6, .imul, .lshl, .lor, .lstore 3, .iinc 6 (1), .goto 7],
  [.iload 5, .ifCond .eq 15],
  [.lload 3, .goto 16],
  [.ldc2_w 0, .goto_w 16],
  [.lreturn]]
def q_M_placeOf : List (List sm_I) := [[.aload 0, .getfield 3215, .iload 1, .baload, .ifCond .eq 2],
  [.iconst (7), .aload 0, .getfield 3207, .iload 1, .iaload, .iload 2, .iadd, .imul, .aload 0, .getfield 3211, .iload 1, .iaload, .iadd, .goto 3],
  [.iconst (7), .aload 0, .getfield 3207, .iload 1, .iaload, .imul, .aload 0, .getfield 3211, .iload 1, .iaload, .iadd, .iload 2, .iadd, .goto_w 3],
  [.ireturn]]
def q_M_crossing : List (List sm_I) := [[.aload 0, .iconst (0), .putfield 3148, .iload 1, .invokestatic 38385, .ifCond .ne 2],
  [.iconst (Int.negSucc 0), .ireturn],
  [.aload 0, .getfield 3075, .iload 1, .baload, .ifCond .ne 4],
  [.aload 0, .iconst (1), .invokevirtual 38754, .ireturn],
  [.aload 0, .iload 1, .invokevirtual 46946, .iload 2, .iconst (0), .aload 0, .getfield 3200, .iconst (1), .isub, .invokestatic 38643, .ifCond .eq 6],
  [.iload 3, .iconst (0), .aload 0, .getfield 3200, .iconst (1), .isub, .invokestatic 38643, .ifCond .ne 7],
  [.aload 0, .iconst (2), .invokevirtual 38754, .ireturn],
  [.iconst (0), .istore 4, .goto_w 8],
  [.iload 2, .iload 3, .if_icmp .eq 16],
  [.iload 4, .aload 0, .getfield 3219, .iload 2, .iaload, .if_icmp .ge 16],
  [.iconst (0), .istore 5, .goto_w 11],
  [.iload 5, .aload 0, .getfield 3219, .iload 3, .iaload, .if_icmp .ge 15],
  [.aload 0, .iload 2, .iload 4, .invokevirtual 48995, .aload 0, .iload 3, .iload 5, .invokevirtual 48995, .if_icmp .ne 14],
  [.iconst (8), .iload 4, .imul, .iload 5, .iadd, .ireturn],
  [.iinc 5 (1), .goto 11],
  [.iinc 4 (1), .goto 8],
  [.iconst (Int.negSucc 4), .ireturn]]
def q_M_fill : List (List sm_I) := [[.aload 0, .iconst (0), .putfield 3148, .iload 1, .invokestatic 38385, .ifCond .eq 2],
  [.iload 2, .iconst (1), .iconst (5000), .invokestatic 38643, .ifCond .ne 3],
  [.iconst (Int.negSucc 0), .ireturn],
  [.aload 0, .iconst (0), .putfield 3226, .aload 0, .getfield 3075, .iload 1, .baload, .ifCond .ne 5],
  [.aload 0, .iconst (1), .invokevirtual 38754, .ireturn],
  [.aload 0, .iconst (0), .iload 1, .invokevirtual 49763, .ifCond .eq 7],
  [.aload 0, .iload 1, .iload 2, .invokevirtual 51043, .goto 8],
  [.aload 0, .aload 0, .getfield 3196, .invokevirtual 38754, .goto_w 8],
  [.ireturn]]
def q_M_beginSearch : List (List sm_I) := [[.aload 0, .iload 2, .invokevirtual 46946, .iconst (0), .istore 3, .goto_w 1],
  [.iload 3, .iconst (49), .if_icmp .ge 3],
  [.aload 0, .getfield 3275, .iconst (49), .iload 1, .imul, .iload 3, .iadd, .aload 0, .getfield 3091, .iconst (49), .iload 2, .imul, .iload 3, .iadd, .iaload, .iastore, .iinc 3 (1), .goto 1],
  [.iconst (0), .istore 3, .iconst (0), .istore 4, .goto_w 4],
  [.iload 4, .aload 0, .getfield 3200, .if_icmp .ge 9],
  [.iconst (48), .iload 1, .imul, .iload 4, .iadd, .istore 5, .aload 0, .getfield 3283, .iload 5, .aload 0, .getfield 3219, .iload 4, .iaload, .iastore, .iconst (0), .istore 6, .goto_w 6],
  [.iload 6, .aload 0, .getfield 3219, .iload 4, .iaload, .if_icmp .ge 8],
  [.aload 0, .getfield 3279, .iconst (7), .iload 5, .imul, .iload 6, .iadd, .aload 0, .iload 4, .iload 6, .invokevirtual 48995, .iastore, .iinc 6 (1), .goto 6],
  [.iinc 4 (1), .goto 4],
  [.iconst (0), .istore 4, .goto_w 10],
  [.iload 4, .aload 0, .getfield 3200, .if_icmp .ge 17],
  [.iconst (48), .iload 1, .imul, .iload 4, .iadd, .istore 5, .aload 0, .iload 1, .iload 5, .aload 0, .getfield 3215, .iload 4, .baload, .ifCond .eq 13],
  [.aload 0, .getfield 3107, .iload 2, .iaload, .goto 14],
  [.aload 0, .getfield 3103, .iload 2, .iaload, .goto_w 14],
  [.invokevirtual 50020, .ifCond .ne 16],
  [.iconst (0), .ireturn],
  [.iload 3, .aload 0, .getfield 3255, .iload 5, .iaload, .iadd, .istore 3, .iinc 4 (1), .goto 10],
  [.aload 0, .getfield 3235, .iload 1, .aload 0, .getfield 3200, .iastore, .aload 0, .getfield 3243, .iload 1, .iload 3, .iastore, .iconst (0), .istore 4, .goto_w 18],
  [.iload 4, .aload 0, .getfield 3200, .if_icmp .ge 24],
  [.iload 4, .istore 5, .goto_w 20],
  [.iload 5, .ifCond .le 23],
  [.aload 0, .getfield 3255, .iconst (48), .iload 1, .imul, .aload 0, .getfield 3259, .iconst (48), .iload 1, .imul, .iload 5, .iadd, .iconst (1), .isub, .iaload, .iadd, .iaload, .aload 0, .getfield 3255, .iconst (48), .iload 1, .imul, .iload 4, .iadd, .iaload, .if_icmp .le 23],
  [.aload 0, .getfield 3259, .iconst (48), .iload 1, .imul, .iload 5, .iadd, .aload 0, .getfield 3259, .iconst (48), .iload 1, .imul, .iload 5, .iadd, .iconst (1), .isub, .iaload, .iastore, .iinc 5 (Int.negSucc 0), .goto 20],
  [.aload 0, .getfield 3259, .iconst (48), .iload 1, .imul, .iload 5, .iadd, .iload 4, .iastore, .iinc 4 (1), .goto 18],
  [.aload 0, .getfield 3239, .iload 1, .iconst (0), .iastore, .aload 0, .getfield 3263, .iconst (48), .iload 1, .imul, .iconst (0), .iastore, .iconst (1), .ireturn]]
def q_M_findCandidates : List (List sm_I) := [[.aload 0, .getfield 3255, .iload 2, .iconst (0), .iastore, .iload 3, .ifCond .ge 2],
  [.aload 0, .iconst (1), .putfield 3196, .iconst (0), .ireturn],
  [.aload 0, .iload 3, .iconst (1), .ldc2_w 0, .invokevirtual 43876, .ifCond .ne 4],
  [.iconst (0), .ireturn],
  [.aload 0, .getfield 3193, .lstore 4, .ldc2_w 0, .lstore 6, .goto_w 5],
  [.lload 6, .lload 4, .lcmp, .ifCond .ge 14],
  [.aload 0, .iload 3, .iconst (2), .lload 6, .invokevirtual 43876, .ifCond .ne 8],
  [.iconst (0), .ireturn],
  [.aload 0, .getfield 3193, .lstore 8, .lload 8, .ldc2_w 0, .lcmp, .ifCond .eq 13],
  [.aload 0, .iload 1, .iload 2, .lload 8, .invokevirtual 50276, .ifCond .eq 13],
  [.aload 0, .iload 3, .iconst (3), .lload 8, .invokevirtual 43876, .ifCond .ne 12],
  [.iconst (0), .ireturn],
  [.aload 0, .iload 2, .lload 8, .aload 0, .getfield 3193, .l2i, .invokevirtual 50532, .goto_w 13],
  [.lload 6, .ldc2_w 1, .ladd, .lstore 6, .goto 5],
  [.iconst (1), .ireturn]]
def q_M_agrees : List (List sm_I) := [[.lload 3, .invokestatic 42481, .aload 0, .getfield 3283, .iload 2, .iaload, .if_icmp .ne 2],
  [.iconst (1), .goto 3],
  [.iconst (0), .goto_w 3],
  [.istore 5, .iconst (0), .istore 6, .goto_w 4],
  [.iload 6, .aload 0, .getfield 3283, .iload 2, .iaload, .if_icmp .ge 11],
  [.iload 5, .ifCond .eq 11],
  [.aload 0, .getfield 3275, .iconst (49), .iload 1, .imul, .aload 0, .getfield 3279, .iconst (7), .iload 2, .imul, .iload 6, .iadd, .iaload, .iadd, .iaload, .istore 7, .iload 7, .ifCond .eq 8],
  [.iload 7, .lload 3, .iload 6, .invokestatic 42738, .if_icmp .ne 9],
  [.iconst (1), .goto 10],
  [.iconst (0), .goto_w 10],
  [.istore 5, .iinc 6 (1), .goto 4],
  [.iload 5, .ireturn]]
def q_M_addCandidate : List (List sm_I) := [[.aload 0, .getfield 3255, .iload 1, .iaload, .istore 5, .goto_w 1],
  [.iload 5, .ifCond .le 6],
  [.aload 0, .getfield 3251, .iconst (40), .iload 1, .imul, .iload 5, .iadd, .iconst (1), .isub, .iaload, .iload 4, .if_icmp .lt 5],
  [.aload 0, .getfield 3251, .iconst (40), .iload 1, .imul, .iload 5, .iadd, .iconst (1), .isub, .iaload, .iload 4, .if_icmp .ne 6],
  [.lload 2, .aload 0, .getfield 3247, .iconst (40), .iload 1, .imul, .iload 5, .iadd, .iconst (1), .isub, .laload, .invokestatic 50930, .ifCond .eq 6],
  [.aload 0, .getfield 3247, .iconst (40), .iload 1, .imul, .iload 5, .iadd, .aload 0, .getfield 3247, .iconst (40), .iload 1, .imul, .iload 5, .iadd, .iconst (1), .isub, .laload, .lastore, .aload 0, .getfield 3251, .iconst (40), .iload 1, .imul, .iload 5, .iadd, .aload 0, .getfield 3251, .iconst (40), .iload 1, .imul, .iload 5, .iadd, .iconst (1), .isub, .iaload, .iastore, .iinc 5 (Int.negSucc 0), .goto 1],
  [.aload 0, .getfield 3247, .iconst (40), .iload 1, .imul, .iload 5, .iadd, .lload 2, .lastore, .aload 0, .getfield 3251, .iconst (40), .iload 1, .imul, .iload 5, .iadd, .iload 4, .iastore, .aload 0, .getfield 3255, .iload 1, .dup2, .iaload, .iconst (1), .iadd, .iastore, .return_]]
def q_M_isBefore : List (List sm_I) := [[.iconst (0), .istore 4, .goto_w 1],
  [.iload 4, .iconst (7), .if_icmp .ge 4],
  [.lload 0, .iload 4, .invokestatic 42738, .lload 2, .iload 4, .invokestatic 42738, .if_icmp .ne 4],
  [.iinc 4 (1), .goto 1],
  [.iload 4, .iconst (7), .if_icmp .ge 7],
  [.lload 0, .iload 4, .invokestatic 42738, .lload 2, .iload 4, .invokestatic 42738, .if_icmp .ge 7],
  [.iconst (1), .goto 8],
  [.iconst (0), .goto_w 8],
  [.ireturn]]
def q_M_fillOn : List (List sm_I) := [[.aload 0, .iconst (0), .iconst (1), .iload 2, .invokevirtual 51300, .istore 3, .aload 0, .iload 3, .iconst (Int.negSucc 3), .if_icmp .ne 2],
  [.iconst (1), .goto 3],
  [.iconst (0), .goto_w 3],
  [.putfield 3226, .aload 0, .iload 1, .putfield 3228, .iconst (0), .istore 4, .goto_w 4],
  [.iload 4, .iconst (49), .if_icmp .ge 7],
  [.iload 3, .iconst (1), .if_icmp .ne 7],
  [.aload 0, .getfield 3091, .iconst (49), .iload 1, .imul, .iload 4, .iadd, .aload 0, .getfield 3275, .iload 4, .iaload, .iastore, .iinc 4 (1), .goto 4],
  [.iload 3, .ireturn]]
def q_M_goes : List (List sm_I) := [[.iconst (0), .istore 4, .iconst (0), .istore 5, .iconst (2), .istore 6, .goto_w 1],
  [.iload 6, .iconst (2), .if_icmp .ne 18],
  [.aload 0, .getfield 3235, .iload 1, .iaload, .istore 7, .iconst (48), .iload 1, .imul, .aload 0, .getfield 3239, .iload 1, .iaload, .iadd, .istore 8, .aload 0, .getfield 3239, .iload 1, .iaload, .iload 7, .if_icmp .ne 8],
  [.iinc 5 (1), .aload 0, .iload 1, .invokevirtual 51554, .iload 5, .iload 2, .if_icmp .ne 5],
  [.iconst (1), .istore 6, .goto 17],
  [.iload 7, .ifCond .ne 7],
  [.iconst (0), .istore 6, .goto 17],
  [.aload 0, .iload 1, .invokevirtual 51810, .goto 17],
  [.aload 0, .getfield 3263, .iload 8, .iaload, .aload 0, .getfield 3255, .iconst (48), .iload 1, .imul, .aload 0, .getfield 3259, .iload 8, .iaload, .iadd, .iaload, .if_icmp .ne 12],
  [.aload 0, .getfield 3239, .iload 1, .iaload, .ifCond .ne 11],
  [.iconst (0), .istore 6, .goto 17],
  [.aload 0, .iload 1, .invokevirtual 51810, .goto 17],
  [.iload 4, .iload 3, .if_icmp .ne 14],
  [.iconst (Int.negSucc 3), .istore 6, .goto 17],
  [.iinc 4 (1), .iconst (48), .iload 1, .imul, .aload 0, .getfield 3259, .iload 8, .iaload, .iadd, .istore 9, .aload 0, .getfield 3247, .iconst (40), .iload 9, .imul, .aload 0, .getfield 3263, .iload 8, .iaload, .iadd, .laload, .lstore 10, .aload 0, .getfield 3263, .iload 8, .dup2, .iaload, .iconst (1), .iadd, .iastore, .aload 0, .iload 1, .iload 9, .lload 10, .invokevirtual 50276, .ifCond .eq 17],
  [.aload 0, .iload 1, .lload 10, .invokevirtual 52067, .ifCond .ne 17],
  [.aload 0, .iload 1, .iload 9, .lload 10, .invokevirtual 52324, .goto_w 17],
  [.goto 1],
  [.aload 0, .dup, .getfield 3164, .iload 4, .iadd, .putfield 3164, .aload 0, .iload 4, .putfield 3284, .aload 0, .iload 5, .putfield 3288, .aload 0, .aload 0, .getfield 3235, .iload 1, .iaload, .putfield 3292, .aload 0, .aload 0, .getfield 3243, .iload 1, .iaload, .putfield 3296, .iload 6, .ireturn]]
def q_M_remember : List (List sm_I) := [[.iload 1, .iconst (1), .if_icmp .ne 6],
  [.aload 0, .getfield 3304, .iconst (3), .if_icmp .ge 6],
  [.iconst (0), .istore 2, .goto_w 3],
  [.iload 2, .aload 0, .getfield 3235, .iload 1, .iaload, .if_icmp .ge 5],
  [.aload 0, .getfield 3303, .iconst (48), .aload 0, .getfield 3304, .imul, .aload 0, .getfield 3259, .iconst (48), .iload 1, .imul, .iload 2, .iadd, .iaload, .iadd, .aload 0, .getfield 3267, .iconst (48), .iload 1, .imul, .iload 2, .iadd, .laload, .lastore, .iinc 2 (1), .goto 3],
  [.aload 0, .dup, .getfield 3304, .iconst (1), .iadd, .putfield 3304, .goto_w 6],
  [.return_]]
def q_M_takeBack : List (List sm_I) := [[.aload 0, .getfield 3239, .iload 1, .dup2, .iaload, .iconst (1), .isub, .iastore, .iconst (48), .iload 1, .imul, .aload 0, .getfield 3239, .iload 1, .iaload, .iadd, .istore 2, .iconst (48), .iload 1, .imul, .aload 0, .getfield 3259, .iload 2, .iaload, .iadd, .istore 3, .iconst (0), .istore 4, .goto_w 1],
  [.iload 4, .aload 0, .getfield 3283, .iload 3, .iaload, .if_icmp .ge 5],
  [.aload 0, .getfield 3271, .iload 2, .iaload, .iload 4, .ishr, .iconst (1), .iand, .iconst (1), .if_icmp .ne 4],
  [.aload 0, .getfield 3275, .iconst (49), .iload 1, .imul, .aload 0, .getfield 3279, .iconst (7), .iload 3, .imul, .iload 4, .iadd, .iaload, .iadd, .iconst (0), .iastore, .goto_w 4],
  [.iinc 4 (1), .goto 1],
  [.return_]]
def q_M_isTaken : List (List sm_I) := [[.iconst (0), .istore 4, .iconst (0), .istore 5, .goto_w 1],
  [.iload 5, .aload 0, .getfield 3239, .iload 1, .iaload, .if_icmp .ge 7],
  [.iload 4, .ifCond .ne 4],
  [.aload 0, .getfield 3267, .iconst (48), .iload 1, .imul, .iload 5, .iadd, .laload, .lload 2, .lcmp, .ifCond .ne 5],
  [.iconst (1), .goto 6],
  [.iconst (0), .goto_w 6],
  [.istore 4, .iinc 5 (1), .goto 1],
  [.iload 4, .ireturn]]
def q_M_setWord : List (List sm_I) := [[.iconst (48), .iload 1, .imul, .aload 0, .getfield 3239, .iload 1, .iaload, .iadd, .istore 5, .aload 0, .getfield 3267, .iload 5, .lload 3, .lastore, .aload 0, .getfield 3271, .iload 5, .iconst (0), .iastore, .iconst (0), .istore 6, .goto_w 1],
  [.iload 6, .aload 0, .getfield 3283, .iload 2, .iaload, .if_icmp .ge 5],
  [.iconst (49), .iload 1, .imul, .aload 0, .getfield 3279, .iconst (7), .iload 2, .imul, .iload 6, .iadd, .iaload, .iadd, .istore 7, .aload 0, .getfield 3275, .iload 7, .iaload, .ifCond .ne 4],
  [.aload 0, .getfield 3275, .iload 7, .lload 3, .iload 6, .invokestatic 42738, .iastore, .aload 0, .getfield 3271, .iload 5, .dup2, .iaload, .iconst (1), .iload 6, .ishl, .ior, .iastore, .goto_w 4],
  [.iinc 6 (1), .goto 1],
  [.aload 0, .getfield 3239, .iload 1, .dup2, .iaload, .iconst (1), .iadd, .iastore, .aload 0, .getfield 3263, .iconst (48), .iload 1, .imul, .aload 0, .getfield 3239, .iload 1, .iaload, .iconst (48), .if_icmp .ge 7],
  [.aload 0, .getfield 3239, .iload 1, .iaload, .goto 8],
  [.iconst (47), .goto_w 8],
  [.iadd, .iconst (0), .iastore, .return_]]
def q_M_goOn : List (List sm_I) := [[.aload 0, .iconst (0), .putfield 3148, .iload 1, .iconst (1), .iconst (5000), .invokestatic 38643, .ifCond .ne 2],
  [.iconst (Int.negSucc 0), .ireturn],
  [.aload 0, .getfield 3226, .ifCond .eq 4],
  [.aload 0, .aload 0, .getfield 3228, .iload 1, .invokevirtual 51043, .goto 5],
  [.iconst (Int.negSucc 1), .goto_w 5],
  [.ireturn]]
def q_M_solve : List (List sm_I) := [[.aload 0, .iconst (0), .putfield 3148, .iload 1, .invokestatic 38385, .ifCond .eq 3],
  [.iload 2, .iconst (1), .iconst (1000), .invokestatic 38643, .ifCond .eq 3],
  [.iload 3, .iconst (1), .iconst (5000), .invokestatic 38643, .ifCond .ne 4],
  [.iconst (Int.negSucc 0), .ireturn],
  [.aload 0, .getfield 3075, .iload 1, .baload, .ifCond .ne 6],
  [.aload 0, .iconst (1), .invokevirtual 38754, .ireturn],
  [.aload 0, .iconst (1), .iload 1, .invokevirtual 49763, .ifCond .ne 8],
  [.aload 0, .aload 0, .getfield 3196, .invokevirtual 38754, .ireturn],
  [.aload 0, .iconst (0), .putfield 3304, .aload 0, .aload 0, .getfield 3235, .iconst (1), .iaload, .putfield 3308, .aload 0, .iconst (1), .iload 2, .iload 3, .invokevirtual 51300, .istore 4, .iload 4, .iconst (Int.negSucc 3), .if_icmp .ne 10],
  [.iconst (Int.negSucc 3), .goto 11],
  [.aload 0, .getfield 3288, .goto_w 11],
  [.ireturn]]
def q_M_first : List (List sm_I) := [[.aload 0, .iconst (0), .putfield 3148, .iload 1, .iconst (0), .aload 0, .getfield 3304, .iconst (1), .isub, .invokestatic 38643, .ifCond .eq 3],
  [.iload 2, .iconst (0), .aload 0, .getfield 3308, .iconst (1), .isub, .invokestatic 38643, .ifCond .eq 3],
  [.aload 0, .getfield 3303, .iconst (48), .iload 1, .imul, .iload 2, .iadd, .laload, .goto 4],
  [.ldc2_w 0, .goto_w 4],
  [.lreturn]]
def q_M_searched : List (List sm_I) := [[.aload 0, .iconst (0), .putfield 3148, .iload 1, .ifCond .ne 2],
  [.aload 0, .getfield 3284, .goto 9],
  [.iload 1, .iconst (1), .if_icmp .ne 4],
  [.aload 0, .getfield 3288, .goto 9],
  [.iload 1, .iconst (2), .if_icmp .ne 6],
  [.aload 0, .getfield 3292, .goto 9],
  [.iload 1, .iconst (3), .if_icmp .ne 8],
  [.aload 0, .getfield 3296, .goto 9],
  [.iconst (Int.negSucc 0), .goto_w 9],
  [.ireturn]]
def q_M_judge : List (List sm_I) := [[.aload 0, .iconst (0), .putfield 3148, .iload 1, .invokestatic 38385, .ifCond .eq 2],
  [.iload 2, .iconst (0), .iconst (10), .invokestatic 38643, .ifCond .ne 3],
  [.iconst (Int.negSucc 0), .ireturn],
  [.aload 0, .getfield 3075, .iload 1, .baload, .ifCond .ne 5],
  [.aload 0, .iconst (1), .invokevirtual 38754, .ireturn],
  [.aload 0, .iload 1, .invokevirtual 46946, .iconst (0), .istore 3, .iconst (0), .istore 4, .iconst (0), .istore 5, .goto_w 6],
  [.iload 5, .aload 0, .getfield 3079, .iload 1, .iaload, .if_icmp .ge 14],
  [.iconst (0), .istore 6, .goto_w 8],
  [.iload 6, .aload 0, .iload 1, .iload 5, .invokevirtual 39523, .if_icmp .ge 13],
  [.iinc 3 (1), .iload 4, .aload 0, .getfield 3091, .iload 1, .iload 5, .iload 6, .invokestatic 40435, .iaload, .iconst (1), .iconst (26), .invokestatic 38643, .ifCond .eq 11],
  [.iconst (1), .goto 12],
  [.iconst (0), .goto_w 12],
  [.iadd, .istore 4, .iinc 6 (1), .goto 8],
  [.iinc 5 (1), .goto 6],
  [.iload 2, .tableswitch 31 (0) 9 #[15, 16, 17, 18, 19, 20, 21, 25, 26, 30]],
  [.iload 3, .ireturn],
  [.aload 0, .iload 1, .iconst (Int.negSucc 0), .invokevirtual 53859, .ireturn],
  [.aload 0, .iload 1, .iconst (1), .invokevirtual 53859, .ireturn],
  [.aload 0, .iload 1, .iconst (0), .invokevirtual 53859, .ireturn],
  [.aload 0, .iload 1, .invokevirtual 54370, .ireturn],
  [.aload 0, .invokevirtual 54881, .ireturn],
  [.aload 0, .iload 1, .invokevirtual 55138, .ifCond .eq 23],
  [.iconst (1), .goto 24],
  [.iconst (0), .goto_w 24],
  [.ireturn],
  [.iload 4, .ireturn],
  [.aload 0, .getfield 3200, .ifCond .ne 28],
  [.aload 0, .iconst (5), .invokevirtual 38754, .goto 29],
  [.aload 0, .iload 1, .iconst (Int.negSucc 0), .invokevirtual 53859, .aload 0, .getfield 3200, .idiv, .goto_w 29],
  [.ireturn],
  [.aload 0, .getfield 3079, .iload 1, .iaload, .ireturn],
  [.aload 0, .getfield 3083, .iload 1, .iaload, .ireturn]]
def q_M_whites : List (List sm_I) := [[.iconst (0), .istore 3, .iconst (0), .istore 4, .goto_w 1],
  [.iload 4, .iconst (49), .if_icmp .ge 8],
  [.iload 3, .aload 0, .iload 1, .iload 4, .iconst (7), .idiv, .iload 4, .iconst (7), .irem, .invokevirtual 47716, .ifCond .eq 6],
  [.iload 2, .ifCond .lt 5],
  [.aload 0, .iload 4, .invokevirtual 54114, .iload 2, .if_icmp .ne 6],
  [.iconst (1), .goto 7],
  [.iconst (0), .goto_w 7],
  [.iadd, .istore 3, .iinc 4 (1), .goto 1],
  [.iload 3, .ireturn]]
def q_M_entriesOver : List (List sm_I) := [[.iconst (0), .istore 2, .iconst (0), .istore 3, .goto_w 1],
  [.iload 3, .aload 0, .getfield 3200, .if_icmp .ge 9],
  [.iconst (0), .istore 4, .goto_w 3],
  [.iload 4, .aload 0, .getfield 3219, .iload 3, .iaload, .if_icmp .ge 8],
  [.iload 2, .aload 0, .iload 3, .iload 4, .invokevirtual 48995, .iload 1, .if_icmp .ne 6],
  [.iconst (1), .goto 7],
  [.iconst (0), .goto_w 7],
  [.iadd, .istore 2, .iinc 4 (1), .goto 3],
  [.iinc 3 (1), .goto 1],
  [.iload 2, .ireturn]]
def q_M_islands : List (List sm_I) := [[.iconst (0), .istore 2, .iconst (0), .istore 3, .goto_w 1],
  [.iload 3, .iconst (49), .if_icmp .ge 9],
  [.aload 0, .getfield 3315, .iload 3, .aload 0, .iload 1, .iload 3, .iconst (7), .idiv, .iload 3, .iconst (7), .irem, .invokevirtual 47716, .ifCond .eq 4],
  [.iload 3, .goto 5],
  [.iconst (Int.negSucc 0), .goto_w 5],
  [.iastore, .iload 2, .aload 0, .getfield 3315, .iload 3, .iaload, .ifCond .lt 7],
  [.iconst (1), .goto 8],
  [.iconst (0), .goto_w 8],
  [.iadd, .istore 2, .iinc 3 (1), .goto 1],
  [.iconst (0), .istore 3, .goto_w 10],
  [.iload 3, .iconst (49), .if_icmp .ge 24],
  [.iload 3, .iconst (7), .irem, .iconst (6), .if_icmp .ge 13],
  [.iload 3, .iconst (1), .iadd, .goto 14],
  [.iload 3, .goto_w 14],
  [.istore 4, .iload 3, .iconst (42), .if_icmp .ge 16],
  [.iload 3, .iconst (7), .iadd, .goto 17],
  [.iload 3, .goto_w 17],
  [.istore 5, .iload 2, .aload 0, .iload 3, .iload 4, .invokevirtual 54627, .ifCond .eq 19],
  [.iconst (1), .goto 20],
  [.iconst (0), .goto_w 20],
  [.isub, .istore 2, .iload 2, .aload 0, .iload 3, .iload 5, .invokevirtual 54627, .ifCond .eq 22],
  [.iconst (1), .goto 23],
  [.iconst (0), .goto_w 23],
  [.isub, .istore 2, .iinc 3 (1), .goto 10],
  [.iload 2, .ireturn]]
def q_M_unite : List (List sm_I) := [[.aload 0, .getfield 3315, .iload 1, .iaload, .istore 3, .aload 0, .getfield 3315, .iload 2, .iaload, .istore 4, .iload 3, .ifCond .lt 3],
  [.iload 4, .ifCond .lt 3],
  [.iload 3, .iload 4, .if_icmp .ne 4],
  [.iconst (0), .ireturn],
  [.iconst (0), .istore 5, .goto_w 5],
  [.iload 5, .iconst (49), .if_icmp .ge 10],
  [.aload 0, .getfield 3315, .iload 5, .aload 0, .getfield 3315, .iload 5, .iaload, .iload 4, .if_icmp .ne 8],
  [.iload 3, .goto 9],
  [.aload 0, .getfield 3315, .iload 5, .iaload, .goto_w 9],
  [.iastore, .iinc 5 (1), .goto 5],
  [.iconst (1), .ireturn]]
def q_M_shortest : List (List sm_I) := [[.iconst (0), .istore 1, .iconst (0), .istore 2, .goto_w 1],
  [.iload 2, .aload 0, .getfield 3200, .if_icmp .ge 7],
  [.iload 1, .ifCond .eq 4],
  [.aload 0, .getfield 3219, .iload 2, .iaload, .iload 1, .if_icmp .ge 5],
  [.aload 0, .getfield 3219, .iload 2, .iaload, .goto 6],
  [.iload 1, .goto_w 6],
  [.istore 1, .iinc 2 (1), .goto 1],
  [.iload 1, .ireturn]]
def q_M_isTurnedLike : List (List sm_I) := [[.iconst (1), .istore 2, .iconst (0), .istore 3, .goto_w 1],
  [.iload 3, .aload 0, .getfield 3079, .iload 1, .iaload, .if_icmp .ge 10],
  [.iconst (0), .istore 4, .goto_w 3],
  [.iload 4, .aload 0, .getfield 3083, .iload 1, .iaload, .if_icmp .ge 9],
  [.iload 2, .ifCond .eq 7],
  [.aload 0, .iload 1, .iload 3, .iload 4, .invokevirtual 47716, .aload 0, .iload 1, .aload 0, .getfield 3079, .iload 1, .iaload, .iconst (1), .isub, .iload 3, .isub, .aload 0, .getfield 3083, .iload 1, .iaload, .iconst (1), .isub, .iload 4, .isub, .invokevirtual 47716, .if_icmp .ne 7],
  [.iconst (1), .goto 8],
  [.iconst (0), .goto_w 8],
  [.istore 2, .iinc 4 (1), .goto 3],
  [.iinc 3 (1), .goto 1],
  [.iload 2, .ireturn]]
def q_M_move : List (List sm_I) := [[.aload 0, .iconst (0), .putfield 3148, .iload 1, .invokestatic 38385, .ifCond .eq 4],
  [.iload 4, .invokestatic 38385, .ifCond .eq 4],
  [.iload 7, .iconst (0), .iconst (7), .invokestatic 38643, .ifCond .eq 4],
  [.iload 8, .iconst (0), .iconst (7), .invokestatic 38643, .ifCond .ne 5],
  [.iconst (Int.negSucc 0), .ireturn],
  [.aload 0, .invokevirtual 39009, .aload 0, .iconst (0), .putfield 3316, .iconst (0), .istore 9, .goto_w 6],
  [.iload 9, .iload 7, .if_icmp .ge 18],
  [.iload 2, .iconst (100), .if_icmp .gt 9],
  [.iload 2, .iconst (Int.negSucc 99), .if_icmp .ge 10],
  [.iconst (Int.negSucc 0), .goto 11],
  [.iload 2, .iload 9, .iadd, .goto_w 11],
  [.istore 10, .iload 5, .iconst (100), .if_icmp .gt 13],
  [.iload 5, .iconst (Int.negSucc 99), .if_icmp .ge 14],
  [.iconst (Int.negSucc 0), .goto 15],
  [.iload 5, .iload 9, .iadd, .goto_w 15],
  [.istore 11, .aload 0, .iload 1, .iload 10, .iload 3, .iload 4, .iload 11, .iload 6, .iload 8, .invokevirtual 55656, .istore 12, .iload 12, .ifCond .le 17],
  [.aload 0, .iload 12, .invokevirtual 38754, .ireturn],
  [.aload 0, .iload 1, .iload 10, .iload 3, .iload 4, .iload 11, .iload 6, .iload 8, .invokevirtual 56168, .aload 0, .dup, .getfield 3316, .iconst (1), .iadd, .putfield 3316, .iinc 9 (1), .goto 6],
  [.iload 7, .ireturn]]
def q_M_bringWrong : List (List sm_I) := [[.aload 0, .iload 1, .iload 2, .invokevirtual 55907, .istore 8, .iload 8, .ifCond .le 2],
  [.iload 8, .goto 3],
  [.aload 0, .iload 4, .iload 5, .invokevirtual 55907, .goto_w 3],
  [.istore 9, .iload 9, .ifCond .le 5],
  [.iload 9, .ireturn],
  [.aload 0, .iload 1, .iload 2, .invokevirtual 39523, .istore 10, .aload 0, .iload 4, .iload 5, .invokevirtual 39523, .istore 11, .iload 10, .ifCond .lt 7],
  [.iload 11, .ifCond .ge 8],
  [.iconst (1), .ireturn],
  [.iload 3, .ifCond .lt 12],
  [.iload 6, .ifCond .lt 12],
  [.iload 3, .iload 10, .iload 7, .isub, .if_icmp .gt 12],
  [.iload 6, .iload 11, .iload 7, .isub, .if_icmp .le 13],
  [.iconst (2), .goto 14],
  [.iconst (0), .goto_w 14],
  [.ireturn]]
def q_M_rowWrong : List (List sm_I) := [[.aload 0, .getfield 3075, .iload 1, .baload, .ifCond .ne 2],
  [.iconst (1), .goto 5],
  [.iload 2, .iconst (0), .aload 0, .getfield 3079, .iload 1, .iaload, .iconst (1), .isub, .invokestatic 38643, .ifCond .eq 4],
  [.iconst (0), .goto 5],
  [.iconst (2), .goto_w 5],
  [.ireturn]]
def q_M_bring : List (List sm_I) := [[.aload 0, .iload 1, .invokevirtual 56418, .iconst (0), .istore 8, .goto_w 1],
  [.iload 8, .iload 7, .if_icmp .ge 3],
  [.iconst (7), .iload 2, .imul, .iload 3, .iadd, .iload 8, .iadd, .istore 9, .iload 4, .iload 5, .iload 6, .iload 8, .iadd, .invokestatic 40435, .istore 10, .aload 0, .getfield 3091, .iload 10, .aload 0, .getfield 3323, .iload 9, .iaload, .iastore, .aload 0, .getfield 3095, .iload 10, .aload 0, .getfield 3327, .iload 9, .baload, .bastore, .aload 0, .getfield 3099, .iload 10, .aload 0, .getfield 3331, .iload 9, .baload, .bastore, .iinc 8 (1), .goto 1],
  [.aload 0, .getfield 3083, .iload 4, .iaload, .ifCond .le 5],
  [.aload 0, .getfield 3095, .iload 4, .iload 5, .aload 0, .getfield 3083, .iload 4, .iaload, .iconst (1), .isub, .invokestatic 40435, .iconst (0), .bastore, .goto_w 5],
  [.iconst (0), .istore 8, .goto_w 6],
  [.iload 8, .iconst (7), .if_icmp .ge 9],
  [.iload 5, .aload 0, .getfield 3079, .iload 4, .iaload, .iconst (1), .isub, .if_icmp .ne 9],
  [.aload 0, .getfield 3099, .iload 4, .iload 5, .iload 8, .invokestatic 40435, .iconst (0), .bastore, .iinc 8 (1), .goto 6],
  [.return_]]
def q_M_hold : List (List sm_I) := [[.iconst (0), .istore 2, .goto_w 1],
  [.iload 2, .iconst (49), .if_icmp .ge 3],
  [.aload 0, .getfield 3323, .iload 2, .aload 0, .getfield 3091, .iconst (49), .iload 1, .imul, .iload 2, .iadd, .iaload, .iastore, .aload 0, .getfield 3327, .iload 2, .aload 0, .getfield 3095, .iconst (49), .iload 1, .imul, .iload 2, .iadd, .baload, .bastore, .aload 0, .getfield 3331, .iload 2, .aload 0, .getfield 3099, .iconst (49), .iload 1, .imul, .iload 2, .iadd, .baload, .bastore, .iinc 2 (1), .goto 1],
  [.return_]]
def q_M_moved : List (List sm_I) := [[.aload 0, .iconst (0), .putfield 3148, .aload 0, .getfield 3316, .ireturn]]
def q_M_turn : List (List sm_I) := [[.aload 0, .iconst (0), .putfield 3148, .iload 1, .invokestatic 38385, .ifCond .ne 2],
  [.iconst (Int.negSucc 0), .ireturn],
  [.aload 0, .iload 1, .invokevirtual 57186, .istore 2, .iload 2, .ifCond .ge 4],
  [.iload 2, .ireturn],
  [.aload 0, .iload 1, .invokevirtual 56418, .aload 0, .iload 1, .invokevirtual 57442, .aload 0, .getfield 3079, .iload 1, .iaload, .istore 3, .aload 0, .getfield 3083, .iload 1, .iaload, .istore 4, .iconst (0), .istore 5, .goto_w 5],
  [.iload 5, .iload 3, .if_icmp .ge 17],
  [.iconst (0), .istore 6, .goto_w 7],
  [.iload 6, .iload 4, .if_icmp .ge 16],
  [.iconst (7), .iload 5, .imul, .iload 6, .iadd, .istore 7, .iload 1, .iload 6, .iload 3, .iconst (1), .isub, .iload 5, .isub, .invokestatic 40435, .istore 8, .aload 0, .getfield 3091, .iload 8, .aload 0, .getfield 3323, .iload 7, .iaload, .iastore, .aload 0, .getfield 3099, .iload 8, .aload 0, .getfield 3327, .iload 7, .baload, .ifCond .eq 11],
  [.iload 6, .iload 4, .iconst (1), .isub, .if_icmp .ge 11],
  [.iconst (1), .goto 12],
  [.iconst (0), .goto_w 12],
  [.bastore, .aload 0, .getfield 3331, .iload 7, .baload, .ifCond .eq 15],
  [.iload 5, .iload 3, .iconst (1), .isub, .if_icmp .ge 15],
  [.aload 0, .getfield 3095, .iload 1, .iload 6, .iload 3, .iconst (2), .isub, .iload 5, .isub, .invokestatic 40435, .iconst (1), .bastore, .goto_w 15],
  [.iinc 6 (1), .goto 7],
  [.iinc 5 (1), .goto 5],
  [.aload 0, .getfield 3079, .iload 1, .iload 4, .iastore, .aload 0, .getfield 3083, .iload 1, .iload 3, .iastore, .iconst (0), .istore 5, .goto_w 18],
  [.iload 5, .iconst (7), .if_icmp .ge 20],
  [.aload 0, .getfield 3087, .iconst (7), .iload 1, .imul, .iload 5, .iadd, .iload 3, .iastore, .iinc 5 (1), .goto 18],
  [.aload 0, .invokevirtual 39009, .iload 4, .ireturn]]
def q_M_unfit : List (List sm_I) := [[.aload 0, .getfield 3075, .iload 1, .baload, .ifCond .ne 2],
  [.aload 0, .iconst (1), .invokevirtual 38754, .ireturn],
  [.iconst (0), .istore 2, .iconst (0), .istore 3, .iconst (0), .istore 4, .goto_w 3],
  [.iload 4, .aload 0, .getfield 3079, .iload 1, .iaload, .if_icmp .ge 13],
  [.iload 2, .ifCond .ne 6],
  [.aload 0, .iload 1, .iload 4, .invokevirtual 39523, .ifCond .ge 7],
  [.iconst (1), .goto 8],
  [.iconst (0), .goto_w 8],
  [.istore 2, .iload 3, .ifCond .ne 10],
  [.aload 0, .iload 1, .iload 4, .invokevirtual 39523, .aload 0, .getfield 3083, .iload 1, .iaload, .if_icmp .ge 11],
  [.iconst (1), .goto 12],
  [.iconst (0), .goto_w 12],
  [.istore 3, .iinc 4 (1), .goto 3],
  [.iload 2, .ifCond .eq 15],
  [.aload 0, .iconst (1), .invokevirtual 38754, .goto 18],
  [.iload 3, .ifCond .eq 17],
  [.iconst (Int.negSucc 1), .goto 18],
  [.iconst (0), .goto_w 18],
  [.ireturn]]
def q_M_clear : List (List sm_I) := [[.iconst (0), .istore 2, .goto_w 1],
  [.iload 2, .iconst (49), .if_icmp .ge 3],
  [.aload 0, .getfield 3091, .iconst (49), .iload 1, .imul, .iload 2, .iadd, .iconst (0), .iastore, .aload 0, .getfield 3095, .iconst (49), .iload 1, .imul, .iload 2, .iadd, .iconst (0), .bastore, .aload 0, .getfield 3099, .iconst (49), .iload 1, .imul, .iload 2, .iadd, .iconst (0), .bastore, .iinc 2 (1), .goto 1],
  [.return_]]
def q_M_mirror : List (List sm_I) := [[.aload 0, .iconst (0), .putfield 3148, .iload 1, .invokestatic 38385, .ifCond .ne 2],
  [.iconst (Int.negSucc 0), .ireturn],
  [.aload 0, .iload 1, .invokevirtual 57186, .istore 2, .iload 2, .ifCond .ge 4],
  [.iload 2, .ireturn],
  [.aload 0, .iload 1, .invokevirtual 56418, .aload 0, .iload 1, .invokevirtual 57442, .aload 0, .getfield 3083, .iload 1, .iaload, .istore 3, .iconst (0), .istore 4, .goto_w 5],
  [.iload 4, .aload 0, .getfield 3079, .iload 1, .iaload, .if_icmp .ge 13],
  [.iconst (0), .istore 5, .goto_w 7],
  [.iload 5, .iload 3, .if_icmp .ge 12],
  [.iconst (7), .iload 4, .imul, .iload 5, .iadd, .istore 6, .iload 1, .iload 4, .iload 3, .iconst (1), .isub, .iload 5, .isub, .invokestatic 40435, .istore 7, .aload 0, .getfield 3091, .iload 7, .aload 0, .getfield 3323, .iload 6, .iaload, .iastore, .aload 0, .getfield 3099, .iload 7, .aload 0, .getfield 3331, .iload 6, .baload, .bastore, .aload 0, .getfield 3327, .iload 6, .baload, .ifCond .eq 11],
  [.iload 5, .iload 3, .iconst (1), .isub, .if_icmp .ge 11],
  [.aload 0, .getfield 3095, .iload 1, .iload 4, .iload 3, .iconst (2), .isub, .iload 5, .isub, .invokestatic 40435, .iconst (1), .bastore, .goto_w 11],
  [.iinc 5 (1), .goto 7],
  [.iinc 4 (1), .goto 5],
  [.aload 0, .invokevirtual 39009, .iload 3, .ireturn]]
def q_M_trace : List (List sm_I) := [[.aload 0, .getfield 3160, .iconst (100), .if_icmp .ge 2],
  [.aload 0, .getfield 3160, .goto 3],
  [.iconst (100), .goto_w 3],
  [.istore 2, .iload 1, .iconst (0), .iload 2, .iconst (1), .isub, .invokestatic 38643, .ifCond .eq 5],
  [.aload 0, .getfield 3159, .aload 0, .getfield 3160, .iconst (1), .isub, .iload 1, .isub, .iconst (100), .irem, .iaload, .goto 6],
  [.iconst (Int.negSucc 4), .goto_w 6],
  [.ireturn]]
def q_M_finding : List (List sm_I) := [[.aload 0, .getfield 3148, .ireturn]]
def q_M_found : List (List sm_I) := [[.iload 1, .iconst (1), .iconst (5), .invokestatic 38643, .ifCond .eq 2],
  [.aload 0, .getfield 3155, .iload 1, .iaload, .goto 3],
  [.iconst (Int.negSucc 0), .goto_w 3],
  [.ireturn]]
def q_M_digest : List (List sm_I) := [[.iload 1, .invokestatic 38385, .ifCond .eq 2],
  [.aload 0, .getfield 3075, .iload 1, .baload, .ifCond .ne 3],
  [.ldc2_w 0, .lreturn],
  [.ldc2_w 7, .lstore 2, .iconst (0), .istore 4, .goto_w 4],
  [.iload 4, .aload 0, .getfield 3079, .iload 1, .iaload, .if_icmp .ge 9],
  [.ldc2_w 31, .lload 2, .lmul, .aload 0, .iload 1, .iload 4, .invokevirtual 39523, .i2l, .ladd, .lstore 2, .iconst (0), .istore 5, .goto_w 6],
  [.iload 5, .aload 0, .iload 1, .iload 4, .invokevirtual 39523, .if_icmp .ge 8],
  [.ldc2_w 31, .lload 2, .lmul, .aload 0, .iload 1, .iload 4, .iload 5, .invokestatic 40435, .invokevirtual 41314, .i2l, .ladd, .lstore 2, .iinc 5 (1), .goto 6],
  [.iinc 4 (1), .goto 4],
  [.lload 2, .lreturn]]
def q_M_count : List (List sm_I) := [[.iconst (0), .istore 2, .iconst (0), .istore 3, .goto_w 1],
  [.iload 3, .aload 0, .getfield 3108, .if_icmp .ge 7],
  [.iload 2, .iload 1, .iconst (1), .if_icmp .ne 5],
  [.aload 0, .getfield 3135, .iload 3, .baload, .ifCond .ne 5],
  [.iconst (1), .goto 6],
  [.iconst (0), .goto_w 6],
  [.iadd, .istore 2, .iinc 3 (1), .goto 1],
  [.iconst (0), .istore 3, .goto_w 8],
  [.iload 3, .iconst (4), .if_icmp .ge 14],
  [.iload 2, .iload 1, .iconst (2), .if_icmp .ne 12],
  [.aload 0, .getfield 3075, .iload 3, .baload, .ifCond .eq 12],
  [.iconst (1), .goto 13],
  [.iconst (0), .goto_w 13],
  [.iadd, .istore 2, .iinc 3 (1), .goto 8],
  [.iload 1, .ifCond .ne 16],
  [.aload 0, .getfield 3108, .goto 24],
  [.iload 1, .iconst (1), .if_icmp .eq 18],
  [.iload 1, .iconst (2), .if_icmp .ne 19],
  [.iload 2, .goto 24],
  [.iload 1, .iconst (3), .if_icmp .ne 21],
  [.aload 0, .getfield 3164, .goto 24],
  [.iload 1, .iconst (4), .if_icmp .ne 23],
  [.aload 0, .getfield 3160, .goto 24],
  [.iconst (Int.negSucc 0), .goto_w 24],
  [.ireturn]]
def q_L_law : List (List sm_I) := [[.new 0, .dup, .invokespecial 1, .astore 1, .new 6, .dup, .invokespecial 37729, .astore 2, .iconst (0), .istore 3, .goto_w 1],
  [.iload 3, .aload 0, .arraylength, .iconst (9), .isub, .if_icmp .gt 90],
  [.aload 0, .iload 3, .iaload, .iconst (31), .iand, .tableswitch 89 (0) 30 #[3, 5, 7, 9, 17, 31, 33, 35, 37, 39, 41, 43, 51, 53, 55, 57, 59, 61, 63, 65, 67, 69, 71, 73, 75, 77, 79, 81, 83, 85, 87]],
  [.aload 1, .aload 0, .iload 3, .iconst (1), .iadd, .iaload, .aload 0, .iload 3, .iconst (2), .iadd, .iaload, .aload 0, .iload 3, .iconst (3), .iadd, .iaload, .invokevirtual 1796, .aload 2, .aload 0, .iload 3, .iconst (1), .iadd, .iaload, .aload 0, .iload 3, .iconst (2), .iadd, .iaload, .aload 0, .iload 3, .iconst (3), .iadd, .iaload, .invokevirtual 37988, .if_icmp .eq 89],
  [.iconst (0), .ireturn],
  [.aload 1, .aload 0, .iload 3, .iconst (1), .iadd, .iaload, .aload 0, .iload 3, .iconst (2), .iadd, .iaload, .aload 0, .iload 3, .iconst (3), .iadd, .iaload, .invokevirtual 3588, .aload 2, .aload 0, .iload 3, .iconst (1), .iadd, .iaload, .aload 0, .iload 3, .iconst (2), .iadd, .iaload, .aload 0, .iload 3, .iconst (3), .iadd, .iaload, .invokevirtual 39268, .if_icmp .eq 89],
  [.iconst (0), .ireturn],
  [.aload 1, .aload 0, .iload 3, .iconst (1), .iadd, .iaload, .aload 0, .iload 3, .iconst (2), .iadd, .iaload, .aload 0, .iload 3, .iconst (3), .iadd, .iaload, .aload 0, .iload 3, .iconst (4), .iadd, .iaload, .invokevirtual 4357, .aload 2, .aload 0, .iload 3, .iconst (1), .iadd, .iaload, .aload 0, .iload 3, .iconst (2), .iadd, .iaload, .aload 0, .iload 3, .iconst (3), .iadd, .iaload, .aload 0, .iload 3, .iconst (4), .iadd, .iaload, .invokevirtual 39781, .if_icmp .eq 89],
  [.iconst (0), .ireturn],
  [.aload 1, .aload 0, .iload 3, .iconst (1), .iadd, .iaload, .aload 0, .iload 3, .iconst (2), .iadd, .iaload, .aload 0, .iload 3, .iconst (3), .iadd, .iaload, .aload 0, .iload 3, .iconst (4), .iadd, .iaload, .ifCond .eq 11],
  [.iconst (1), .goto 12],
  [.iconst (0), .goto_w 12],
  [.invokevirtual 5637, .aload 2, .aload 0, .iload 3, .iconst (1), .iadd, .iaload, .aload 0, .iload 3, .iconst (2), .iadd, .iaload, .aload 0, .iload 3, .iconst (3), .iadd, .iaload, .aload 0, .iload 3, .iconst (4), .iadd, .iaload, .ifCond .eq 14],
  [.iconst (1), .goto 15],
  [.iconst (0), .goto_w 15],
  [.invokevirtual 40549, .if_icmp .eq 89],
  [.iconst (0), .ireturn],
  [.aload 1, .aload 0, .iload 3, .iconst (1), .iadd, .iaload, .aload 0, .iload 3, .iconst (2), .iadd, .iaload, .aload 0, .iload 3, .iconst (3), .iadd, .iaload, .aload 0, .iload 3, .iconst (4), .iadd, .iaload, .ifCond .eq 19],
  [.iconst (1), .goto 20],
  [.iconst (0), .goto_w 20],
  [.aload 0, .iload 3, .iconst (5), .iadd, .iaload, .ifCond .eq 22],
  [.iconst (1), .goto 23],
  [.iconst (0), .goto_w 23],
  [.invokevirtual 5894, .aload 2, .aload 0, .iload 3, .iconst (1), .iadd, .iaload, .aload 0, .iload 3, .iconst (2), .iadd, .iaload, .aload 0, .iload 3, .iconst (3), .iadd, .iaload, .aload 0, .iload 3, .iconst (4), .iadd, .iaload, .ifCond .eq 25],
  [.iconst (1), .goto 26],
  [.iconst (0), .goto_w 26],
  [.aload 0, .iload 3, .iconst (5), .iadd, .iaload, .ifCond .eq 28],
  [.iconst (1), .goto 29],
  [.iconst (0), .goto_w 29],
  [.invokevirtual 40806, .if_icmp .eq 89],
  [.iconst (0), .ireturn],
  [.aload 1, .aload 0, .iload 3, .iconst (1), .iadd, .iaload, .aload 0, .iload 3, .iconst (2), .iadd, .iaload, .aload 0, .iload 3, .iconst (3), .iadd, .iaload, .invokevirtual 6404, .aload 2, .aload 0, .iload 3, .iconst (1), .iadd, .iaload, .aload 0, .iload 3, .iconst (2), .iadd, .iaload, .aload 0, .iload 3, .iconst (3), .iadd, .iaload, .invokevirtual 41060, .if_icmp .eq 89],
  [.iconst (0), .ireturn],
  [.aload 1, .aload 0, .iload 3, .iconst (1), .iadd, .iaload, .aload 0, .iload 3, .iconst (2), .iadd, .iaload, .aload 0, .iload 3, .iconst (3), .iadd, .iaload, .aload 0, .iload 3, .iconst (4), .iadd, .iaload, .i2l, .iconst (32), .lshl, .aload 0, .iload 3, .iconst (5), .iadd, .iaload, .i2l, .ldc2_w 4294967295, .land, .lor, .invokevirtual 6661, .aload 2, .aload 0, .iload 3, .iconst (1), .iadd, .iaload, .aload 0, .iload 3, .iconst (2), .iadd, .iaload, .aload 0, .iload 3, .iconst (3), .iadd, .iaload, .aload 0, .iload 3, .iconst (4), .iadd, .iaload, .i2l, .iconst (32), .lshl, .aload 0, .iload 3, .iconst (5), .iadd, .iaload, .i2l, .ldc2_w 4294967295, .land, .lor, .invokevirtual 41573, .if_icmp .eq 89],
  [.iconst (0), .ireturn],
  [.aload 1, .aload 0, .iload 3, .iconst (1), .iadd, .iaload, .invokevirtual 10242, .aload 2, .aload 0, .iload 3, .iconst (1), .iadd, .iaload, .invokevirtual 42850, .if_icmp .eq 89],
  [.iconst (0), .ireturn],
  [.aload 1, .aload 0, .iload 3, .iconst (1), .iadd, .iaload, .aload 0, .iload 3, .iconst (2), .iadd, .iaload, .i2l, .iconst (32), .lshl, .aload 0, .iload 3, .iconst (3), .iadd, .iaload, .i2l, .ldc2_w 4294967295, .land, .lor, .aload 0, .iload 3, .iconst (4), .iadd, .iaload, .invokevirtual 10756, .aload 2, .aload 0, .iload 3, .iconst (1), .iadd, .iaload, .aload 0, .iload 3, .iconst (2), .iadd, .iaload, .i2l, .iconst (32), .lshl, .aload 0, .iload 3, .iconst (3), .iadd, .iaload, .i2l, .ldc2_w 4294967295, .land, .lor, .aload 0, .iload 3, .iconst (4), .iadd, .iaload, .invokevirtual 43108, .if_icmp .eq 89],
  [.iconst (0), .ireturn],
  [.aload 1, .aload 0, .iload 3, .iconst (1), .iadd, .iaload, .aload 0, .iload 3, .iconst (2), .iadd, .iaload, .aload 0, .iload 3, .iconst (3), .iadd, .iaload, .i2l, .iconst (32), .lshl, .aload 0, .iload 3, .iconst (4), .iadd, .iaload, .i2l, .ldc2_w 4294967295, .land, .lor, .invokevirtual 12036, .aload 2, .aload 0, .iload 3, .iconst (1), .iadd, .iaload, .aload 0, .iload 3, .iconst (2), .iadd, .iaload, .aload 0, .iload 3, .iconst (3), .iadd, .iaload, .i2l, .iconst (32), .lshl, .aload 0, .iload 3, .iconst (4), .iadd, .iaload, .i2l, .ldc2_w 4294967295, .land, .lor, .invokevirtual 43620, .if_icmp .eq 89],
  [.iconst (0), .ireturn],
  [.aload 1, .aload 0, .iload 3, .iconst (1), .iadd, .iaload, .aload 0, .iload 3, .iconst (2), .iadd, .iaload, .invokevirtual 16899, .aload 2, .aload 0, .iload 3, .iconst (1), .iadd, .iaload, .aload 0, .iload 3, .iconst (2), .iadd, .iaload, .invokevirtual 45923, .lcmp, .ifCond .eq 89],
  [.iconst (0), .ireturn],
  [.aload 1, .aload 0, .iload 3, .iconst (1), .iadd, .iaload, .aload 0, .iload 3, .iconst (2), .iadd, .iaload, .ifCond .eq 45],
  [.iconst (1), .goto 46],
  [.iconst (0), .goto_w 46],
  [.aload 0, .iload 3, .iconst (3), .iadd, .iaload, .invokevirtual 17924, .aload 2, .aload 0, .iload 3, .iconst (1), .iadd, .iaload, .aload 0, .iload 3, .iconst (2), .iadd, .iaload, .ifCond .eq 48],
  [.iconst (1), .goto 49],
  [.iconst (0), .goto_w 49],
  [.aload 0, .iload 3, .iconst (3), .iadd, .iaload, .invokevirtual 46436, .if_icmp .eq 89],
  [.iconst (0), .ireturn],
  [.aload 1, .aload 0, .iload 3, .iconst (1), .iadd, .iaload, .invokevirtual 18434, .aload 2, .aload 0, .iload 3, .iconst (1), .iadd, .iaload, .invokevirtual 46690, .if_icmp .eq 89],
  [.iconst (0), .ireturn],
  [.aload 1, .aload 0, .iload 3, .iconst (1), .iadd, .iaload, .aload 0, .iload 3, .iconst (2), .iadd, .iaload, .aload 0, .iload 3, .iconst (3), .iadd, .iaload, .invokevirtual 20740, .aload 2, .aload 0, .iload 3, .iconst (1), .iadd, .iaload, .aload 0, .iload 3, .iconst (2), .iadd, .iaload, .aload 0, .iload 3, .iconst (3), .iadd, .iaload, .invokevirtual 48484, .if_icmp .eq 89],
  [.iconst (0), .ireturn],
  [.aload 1, .aload 0, .iload 3, .iconst (1), .iadd, .iaload, .aload 0, .iload 3, .iconst (2), .iadd, .iaload, .invokevirtual 21251, .aload 2, .aload 0, .iload 3, .iconst (1), .iadd, .iaload, .aload 0, .iload 3, .iconst (2), .iadd, .iaload, .invokevirtual 48739, .lcmp, .ifCond .eq 89],
  [.iconst (0), .ireturn],
  [.aload 1, .aload 0, .iload 3, .iconst (1), .iadd, .iaload, .aload 0, .iload 3, .iconst (2), .iadd, .iaload, .aload 0, .iload 3, .iconst (3), .iadd, .iaload, .invokevirtual 22020, .aload 2, .aload 0, .iload 3, .iconst (1), .iadd, .iaload, .aload 0, .iload 3, .iconst (2), .iadd, .iaload, .aload 0, .iload 3, .iconst (3), .iadd, .iaload, .invokevirtual 49252, .if_icmp .eq 89],
  [.iconst (0), .ireturn],
  [.aload 1, .aload 0, .iload 3, .iconst (1), .iadd, .iaload, .aload 0, .iload 3, .iconst (2), .iadd, .iaload, .invokevirtual 22531, .aload 2, .aload 0, .iload 3, .iconst (1), .iadd, .iaload, .aload 0, .iload 3, .iconst (2), .iadd, .iaload, .invokevirtual 49507, .if_icmp .eq 89],
  [.iconst (0), .ireturn],
  [.aload 1, .aload 0, .iload 3, .iconst (1), .iadd, .iaload, .invokevirtual 27138, .aload 2, .aload 0, .iload 3, .iconst (1), .iadd, .iaload, .invokevirtual 52578, .if_icmp .eq 89],
  [.iconst (0), .ireturn],
  [.aload 1, .aload 0, .iload 3, .iconst (1), .iadd, .iaload, .aload 0, .iload 3, .iconst (2), .iadd, .iaload, .aload 0, .iload 3, .iconst (3), .iadd, .iaload, .invokevirtual 27396, .aload 2, .aload 0, .iload 3, .iconst (1), .iadd, .iaload, .aload 0, .iload 3, .iconst (2), .iadd, .iaload, .aload 0, .iload 3, .iconst (3), .iadd, .iaload, .invokevirtual 52836, .if_icmp .eq 89],
  [.iconst (0), .ireturn],
  [.aload 1, .aload 0, .iload 3, .iconst (1), .iadd, .iaload, .aload 0, .iload 3, .iconst (2), .iadd, .iaload, .invokevirtual 28163, .aload 2, .aload 0, .iload 3, .iconst (1), .iadd, .iaload, .aload 0, .iload 3, .iconst (2), .iadd, .iaload, .invokevirtual 53091, .lcmp, .ifCond .eq 89],
  [.iconst (0), .ireturn],
  [.aload 1, .aload 0, .iload 3, .iconst (1), .iadd, .iaload, .invokevirtual 28418, .aload 2, .aload 0, .iload 3, .iconst (1), .iadd, .iaload, .invokevirtual 53346, .if_icmp .eq 89],
  [.iconst (0), .ireturn],
  [.aload 1, .aload 0, .iload 3, .iconst (1), .iadd, .iaload, .aload 0, .iload 3, .iconst (2), .iadd, .iaload, .invokevirtual 28675, .aload 2, .aload 0, .iload 3, .iconst (1), .iadd, .iaload, .aload 0, .iload 3, .iconst (2), .iadd, .iaload, .invokevirtual 53603, .if_icmp .eq 89],
  [.iconst (0), .ireturn],
  [.aload 1, .aload 0, .iload 3, .iconst (1), .iadd, .iaload, .aload 0, .iload 3, .iconst (2), .iadd, .iaload, .aload 0, .iload 3, .iconst (3), .iadd, .iaload, .aload 0, .iload 3, .iconst (4), .iadd, .iaload, .aload 0, .iload 3, .iconst (5), .iadd, .iaload, .aload 0, .iload 3, .iconst (6), .iadd, .iaload, .aload 0, .iload 3, .iconst (7), .iadd, .iaload, .aload 0, .iload 3, .iconst (8), .iadd, .iaload, .invokevirtual 31753, .aload 2, .aload 0, .iload 3, .iconst (1), .iadd, .iaload, .aload 0, .iload 3, .iconst (2), .iadd, .iaload, .aload 0, .iload 3, .iconst (3), .iadd, .iaload, .aload 0, .iload 3, .iconst (4), .iadd, .iaload, .aload 0, .iload 3, .iconst (5), .iadd, .iaload, .aload 0, .iload 3, .iconst (6), .iadd, .iaload, .aload 0, .iload 3, .iconst (7), .iadd, .iaload, .aload 0, .iload 3, .iconst (8), .iadd, .iaload, .invokevirtual 55401, .if_icmp .eq 89],
  [.iconst (0), .ireturn],
  [.aload 1, .invokevirtual 32769, .aload 2, .invokevirtual 56673, .if_icmp .eq 89],
  [.iconst (0), .ireturn],
  [.aload 1, .aload 0, .iload 3, .iconst (1), .iadd, .iaload, .invokevirtual 33026, .aload 2, .aload 0, .iload 3, .iconst (1), .iadd, .iaload, .invokevirtual 56930, .if_icmp .eq 89],
  [.iconst (0), .ireturn],
  [.aload 1, .aload 0, .iload 3, .iconst (1), .iadd, .iaload, .invokevirtual 34562, .aload 2, .aload 0, .iload 3, .iconst (1), .iadd, .iaload, .invokevirtual 57698, .if_icmp .eq 89],
  [.iconst (0), .ireturn],
  [.aload 1, .aload 0, .iload 3, .iconst (1), .iadd, .iaload, .invokevirtual 35074, .aload 2, .aload 0, .iload 3, .iconst (1), .iadd, .iaload, .invokevirtual 57954, .if_icmp .eq 89],
  [.iconst (0), .ireturn],
  [.aload 1, .invokevirtual 35841, .aload 2, .invokevirtual 58209, .if_icmp .eq 89],
  [.iconst (0), .ireturn],
  [.aload 1, .aload 0, .iload 3, .iconst (1), .iadd, .iaload, .invokevirtual 36098, .aload 2, .aload 0, .iload 3, .iconst (1), .iadd, .iaload, .invokevirtual 58466, .if_icmp .eq 89],
  [.iconst (0), .ireturn],
  [.aload 1, .aload 0, .iload 3, .iconst (1), .iadd, .iaload, .invokevirtual 36354, .aload 2, .aload 0, .iload 3, .iconst (1), .iadd, .iaload, .invokevirtual 58722, .lcmp, .ifCond .eq 89],
  [.iconst (0), .ireturn],
  [.aload 1, .aload 0, .iload 3, .iconst (1), .iadd, .iaload, .invokevirtual 36866, .aload 2, .aload 0, .iload 3, .iconst (1), .iadd, .iaload, .invokevirtual 58978, .if_icmp .eq 89],
  [.iconst (0), .ireturn],
  [.iinc 3 (9), .goto 1],
  [.iconst (1), .ireturn]]
def sm_prog_0 : List (Bool × List (List sm_I)) := [(false, q_D_init), (false, q_Object_init), (false, q_Notes_init), (false, q_Shelf_init), (false, q_EntryTable_init), (false, q_Search_init), (false, q_Grid_init), (false, q_D_grid), (false, q_Notes_clear), (true, q_D_isGridNumber), (false, q_Notes_find), (false, q_Notes_answer), (false, q_Grid_begin), (false, q_Arrays_fill), (false, q_D_cut), (false, q_Grid_rowRefusal), (true, q_Grid_hasRow), (false, q_D_letter), (false, q_Grid_squareRefusal), (true, q_Grid_hasPlaces), (false, q_Grid_signOf), (false, q_Grid_putSign), (false, q_D_black), (false, q_D_bar), (true, q_Grid_putBar), (false, q_D_at), (false, q_D_list), (true, q_Shelf_wasMade), (false, q_D_lengthUpTo), (false, q_Shelf_weightOf), (false, q_D_newList), (false, q_Scored_init), (false, q_Plain_init), (false, q_WordList_init), (false, q_Banned_init), (false, q_Pattern_init), (false, q_D_letterOf), (false, q_D_maskOf),
  (false, q_Joined_init), (false, q_Shelf_place)]
def sm_prog_1 : List (Bool × List (List sm_I)) := [(false, q_D_drop), (false, q_Shelf_wanted), (false, q_D_word), (true, q_D_isWord), (true, q_Scored_take), (false, q_Plain_placeOf), (true, q_Plain_take), (false, q_D_ask), (false, q_D_askedOf), (true, q_Banned_allows), (false, q_Notes_begin), (false, q_Math_min), (true, q_Plain_allows), (true, q_Joined_allows), (true, q_Pattern_allows), (true, q_Pattern_fits), (true, q_Notes_met), (true, q_Joined_otherAllows), (false, q_Banned_many), (false, q_Joined_many), (false, q_Pattern_many), (false, q_Plain_many), (false, q_Plain_scoreOf), (false, q_Joined_scoreOf), (false, q_Pattern_scoreOf), (false, q_Scored_scoreOf), (false, q_D_wordOf), (false, q_Plain_wordNumber), (false, q_Joined_wordNumber), (false, q_Pattern_wordNumber), (false, q_D_uses), (false, q_Grid_listFor), (false, q_D_entries), (true, q_D_lookAtEntries), (false, q_EntryTable_lookAt), (true, q_Grid_joinsRight), (true, q_Grid_isWhite),
  (true, q_Grid_joinsBelow), (false, q_EntryTable_acrossLength), (false, q_EntryTable_add)]
def sm_prog_2 : List (Bool × List (List sm_I)) := [(false, q_EntryTable_downLength), (false, q_D_entry), (true, q_EntryTable_has), (false, q_D_stands), (false, q_EntryTable_standing), (false, q_EntryTable_cellOf), (false, q_D_crossing), (false, q_EntryTable_crossingOf), (false, q_D_fill), (true, q_D_isStepNumber), (true, q_Search_gather), (true, q_Search_gatherFor), (false, q_Search_addCandidate), (true, q_Search_isAhead), (true, q_D_isBefore), (false, q_Search_putInOrder), (false, q_Search_arrive), (false, q_D_fillOn), (false, q_Search_allow), (false, q_Search_nextFilling), (false, q_Search_goBack), (false, q_Search_write), (false, q_Search_lookAtNext), (true, q_Search_isSetBefore), (false, q_Search_writeInto), (false, q_D_tellSearch), (false, q_D_goOn), (false, q_D_solve), (false, q_D_keepFilling), (false, q_Search_tellFilling), (false, q_D_first), (false, q_D_searched), (false, q_D_judge), (false, q_Grid_squares), (false, q_Math_max),
  (false, q_Grid_whites), (false, q_Grid_whitesInEntries), (false, q_Grid_entriesThrough), (false, q_Grid_islands), (false, q_Grid_reach)]
def sm_prog_3 : List (Bool × List (List sm_I)) := [(false, q_Grid_spread), (false, q_EntryTable_shortest), (true, q_Grid_isHalfTurnAlike), (false, q_Grid_lettersThere), (false, q_D_move), (false, q_D_moveRefusal), (false, q_Grid_takeRow), (false, q_Grid_dropOuterBars), (false, q_D_moved), (false, q_D_turn), (false, q_D_turnRefused), (true, q_Grid_lacksRow), (true, q_Grid_isUncut), (false, q_Grid_turnByQuarter), (false, q_Grid_takeSpare), (false, q_D_mirror), (false, q_Grid_swapSides), (false, q_D_trace), (false, q_Notes_latest), (false, q_Math_floorMod), (false, q_D_finding), (false, q_D_found), (false, q_D_digest), (false, q_Grid_sum), (false, q_D_count), (false, q_Shelf_those), (false, q_D_gridsThere), (false, q_M_init), (false, q_M_grid), (true, q_M_isGrid), (true, q_M_in), (false, q_M_met), (false, q_M_changed), (false, q_M_cut), (false, q_M_rowOf), (false, q_M_letter), (false, q_M_wrong), (false, q_M_square), (false, q_M_black),
  (false, q_M_bar)]
def sm_prog_4 : List (Bool × List (List sm_I)) := [(false, q_M_at), (false, q_M_told), (false, q_M_list), (true, q_M_isList), (true, q_M_isWord), (false, q_M_sizeOf), (false, q_M_place), (false, q_M_drop), (false, q_M_word), (false, q_M_standsAt), (false, q_M_ask), (true, q_M_asks), (false, q_M_push), (false, q_M_plain), (false, q_M_began), (false, q_M_pop), (false, q_M_patterned), (true, q_M_fits), (false, q_M_joined), (false, q_M_wordOf), (false, q_M_metLong), (false, q_M_uses), (false, q_M_entries), (false, q_M_findEntries), (true, q_M_begins), (true, q_M_goesOn), (true, q_M_isWhite), (true, q_M_isThere), (false, q_M_addEntry), (false, q_M_entry), (false, q_M_stands), (false, q_M_placeOf), (false, q_M_crossing), (false, q_M_fill), (true, q_M_beginSearch), (true, q_M_findCandidates), (true, q_M_agrees), (false, q_M_addCandidate), (true, q_M_isBefore), (false, q_M_fillOn)]
def sm_prog_5 : List (Bool × List (List sm_I)) := [(false, q_M_goes), (false, q_M_remember), (false, q_M_takeBack), (true, q_M_isTaken), (false, q_M_setWord), (false, q_M_goOn), (false, q_M_solve), (false, q_M_first), (false, q_M_searched), (false, q_M_judge), (false, q_M_whites), (false, q_M_entriesOver), (false, q_M_islands), (true, q_M_unite), (false, q_M_shortest), (true, q_M_isTurnedLike), (false, q_M_move), (false, q_M_bringWrong), (false, q_M_rowWrong), (false, q_M_bring), (false, q_M_hold), (false, q_M_moved), (false, q_M_turn), (false, q_M_unfit), (false, q_M_clear), (false, q_M_mirror), (false, q_M_trace), (false, q_M_finding), (false, q_M_found), (false, q_M_digest), (false, q_M_count), (true, q_L_law)]
def sm_prog : List (Bool × List (List sm_I)) := sm_prog_0 ++ (sm_prog_1 ++ (sm_prog_2 ++ (sm_prog_3 ++ (sm_prog_4 ++ (sm_prog_5)))))
def sm_vtab : List (Nat × Nat × Nat) := [(300, 7, 52), (300, 8, 52), (300, 9, 49), (300, 10, 54), (300, 11, 53), (301, 7, 61), (301, 8, 61), (301, 9, 58), (301, 10, 60), (301, 11, 59), (302, 7, 67), (302, 8, 67), (302, 9, 67), (302, 10, 69), (302, 11, 68), (303, 7, 62), (303, 8, 65), (303, 9, 62), (303, 10, 64), (303, 11, 63), (304, 8, 45), (46, 8, 44), (46, 9, 46), (45, 8, 45), (45, 9, 45)]
def sm_nLs : List Nat := [2, 1, 1, 2, 1, 3, 1, 4, 1, 1, 2, 1, 3, 4, 7, 2, 2, 8, 4, 4, 3, 5, 8, 8, 7, 5, 7, 2, 6, 5, 6, 2, 3, 3, 2, 10, 3, 5, 5, 4, 2, 3, 7, 2, 6, 4, 4, 7, 4, 3, 3, 2, 3, 5, 4, 3, 1, 4, 1, 2, 2, 1, 3, 6, 4, 5, 6, 2, 5, 5, 6, 2, 2, 2, 7, 3, 3, 3, 4, 5, 4, 4, 2, 6, 6, 3, 4, 5, 3, 1, 3, 13, 7, 6, 6, 3, 1, 3, 2, 2, 1, 5, 4, 4, 5, 3, 2, 6, 2, 4, 3, 2, 4, 3, 2, 4, 5, 4, 4, 4, 5, 3, 3, 4, 11, 7, 7, 3, 1, 3, 2, 2, 2, 5, 3, 3, 5, 2, 2, 3, 1, 2, 2, 5, 2, 3, 3, 1, 5, 1, 3, 2, 1, 5, 3, 7, 4, 3, 7, 9, 5, 2, 7, 2, 6, 5, 3, 2, 6, 6, 6, 8, 5, 7, 2, 3, 7, 6, 8, 3, 3, 5, 2, 8, 5, 5, 4, 4, 7, 4, 8, 3, 6, 3, 7, 10, 8, 6, 5, 5, 12, 3, 5, 6, 8, 2, 5, 3, 2, 7, 5, 5, 6, 6, 3, 5, 13, 12, 3, 11, 3, 1, 9, 5, 3, 8, 3, 1, 2, 6, 4, 4]
end
section
def sm_vl : List (Nat × Nat × Nat) → Nat → Nat → Option Nat
  | [], _, _ => none
  | (a, b, y) :: r, v, ci => bif Nat.beq a v && Nat.beq b ci then some y else sm_vl r v ci
def sm_vt (v c ci : Nat) : Option Nat := bif Nat.beq ci c && Nat.ble v 299 then some v else sm_vl sm_vtab v ci
def sm_bo (y : Nat) : Bool := match sm_prog[y]? with | some q => q.1 | none => false
def sm_code (y b : Nat) : List sm_I := match sm_prog[y]? with | some q => (match q.2[b]? with | some is => is | none => []) | none => []
/-- whom a call reaches: k 0 static, 1 by name, 2 by the receiver's kind -/
def sm_tg (k n : Nat) (as : List Value) (w : sm_W) : Option Nat := match k with
  | 0 => some (n / 256)
  | 1 => (match as with | .ref a :: _ => (match w[a]? with | some (.inr (ci, _)) => bif sm_sub ci (n / 16 % 16) then some (n / 256) else none | _ => none) | _ => none)
  | _ => (match as with | .ref a :: _ => (match w[a]? with | some (.inr (ci, _)) => sm_vt (n / 256) (n / 16 % 16) ci | _ => none) | _ => none)
def sm_inv (calls : Nat → List Value → sm_W → sm_O) (k n : Nat) (st : List Value) (w : sm_W) : Option (List Value × sm_W) :=
  bif Nat.ble (n % 16) st.length && Nat.ble (sm_words (st.drop (n % 16))) 8 then
    (match sm_tg k n (st.take (n % 16)).reverse w with
    | some y => (match calls y (st.take (n % 16)).reverse w with
      | some (r, w1) => some (r.toList ++ st.drop (n % 16), w1)
      | none => none)
    | none => none)
  else none
def sm_blk (L : Nat) (xs : Nat → Int32) (calls : Nat → List Value → sm_W → sm_O) (jump : Nat → sm_L → List Value → sm_W → sm_O) (bo : Bool) (cb : Nat) : List sm_I → sm_L → List Value → sm_W → sm_O
  | [], _, _, _ => none
  | i :: is, lv, st, w => match i with
    | .goto t => jump t.toNat lv st w
    | .goto_w t => jump t.toNat lv st w
    | .ifCond c t => (match st with | .int x :: r => sm_br c x 0 (jump t.toNat lv r w) (jump (cb + 1) lv r w) | _ => none)
    | .if_icmp c t => (match st with | .int y :: .int x :: r => sm_br c x y (jump t.toNat lv r w) (jump (cb + 1) lv r w) | _ => none)
    | .ifnull t => (match st with | .null :: r => jump t.toNat lv r w | .ref _ :: r => jump (cb + 1) lv r w | _ => none)
    | .ifnonnull t => (match st with | .ref _ :: r => jump t.toNat lv r w | .null :: r => jump (cb + 1) lv r w | _ => none)
    | .tableswitch d lo hi offs => (match st with
      | .int x :: r => if x.toInt < lo ∨ hi < x.toInt then jump d.toNat lv r w else (match offs[(x.toInt - lo).toNat]? with | some t => jump t.toNat lv r w | none => none)
      | _ => none)
    | .ireturn => (match st with | [.int x] => if bo = true ∧ ¬ (x = 0 ∨ x = 1) then none else some (some (.int x), w) | _ => none)
    | .lreturn => (match st with | [.long x] => some (some (.long x), w) | _ => none)
    | .areturn => (match st with | [.ref x] => some (some (.ref x), w) | [.null] => some (some .null, w) | _ => none)
    | .return_ => (match st with | [] => some (none, w) | _ => none)
    | .invokestatic n => (match sm_inv calls 0 n st w with | some (st1, w1) => sm_blk L xs calls jump bo cb is lv st1 w1 | none => none)
    | .invokespecial n => (match sm_inv calls 1 n st w with | some (st1, w1) => sm_blk L xs calls jump bo cb is lv st1 w1 | none => none)
    | .invokevirtual n => (match sm_inv calls 2 n st w with | some (st1, w1) => sm_blk L xs calls jump bo cb is lv st1 w1 | none => none)
    | j => (match sm_op L xs j lv st w with | some (lv1, st1, w1) => sm_blk L xs calls jump bo cb is lv1 st1 w1 | none => none)
def sm_meth (L : Nat) (xs : Nat → Int32) (calls : Nat → List Value → sm_W → sm_O) (y : Nat) : Nat → Nat → sm_L → List Value → sm_W → sm_O
  | 0, _, _, _, _ => none
  | n + 1, b, lv, st, w => sm_blk L xs calls (sm_meth L xs calls y n) (sm_bo y) b (sm_code y b) lv st w
def sm_call (L : Nat) (xs : Nat → Int32) : Nat → Nat → Nat → List Value → sm_W → sm_O
  | 0, _, _, _, _ => none
  | d + 1, n, y, as, w => bif Nat.beq y 400 then sm_copy as w else bif Nat.beq y 401 then (match as with | [.ref _] => some (none, w) | _ => none) else bif Nat.ble (sm_words as) (sm_nLs.getD y 0) then sm_meth L xs (sm_call L xs d n) y n 0 (lv_args 0 as) [] w else none
end
section
abbrev sm_M : Type := MethodName × ByteArray × Nat × Option FieldType × Nat × Nat × Nat × Nat × Nat × Nat
/-! printed by wip/gen2.py: tables of words, methods, fields, sites -/
def sm_nm : List String := ["WordGrid", "WordGrid$Notes", "WordGrid$Shelf", "WordGrid$EntryTable", "WordGrid$Search", "WordGrid$Grid", "WordGridModel", "WordGrid$Plain", "WordGrid$Scored", "WordGrid$Banned", "WordGrid$Pattern", "WordGrid$Joined", "WordGrid$WordList", "WordGridLaw", "java/lang/Math", "java/util/Arrays", "java/lang/Object"]
def sm_F0 : List (String × String × String × Bool) := [("WordGrid", "notes", "LWordGrid$Notes;", true), ("WordGrid", "shelf", "LWordGrid$Shelf;", true), ("WordGrid", "grids", "[LWordGrid$Grid;", true), ("WordGrid", "table", "LWordGrid$EntryTable;", true), ("WordGrid", "filling", "LWordGrid$Search;", true), ("WordGrid", "solving", "LWordGrid$Search;", true), ("WordGrid", "kept", "[J", true), ("WordGrid", "keptFillings", "I", false), ("WordGrid", "keptEntries", "I", false), ("WordGrid", "told", "[I", true), ("WordGrid", "filledGrid", "I", false), ("WordGrid", "mayGoOn", "Z", false), ("WordGrid", "stepsEver", "I", false), ("WordGrid", "rowsMoved", "I", false)]
def sm_H0 : List Nat := [284, 286, 288, 290, 292, 294, 296, 298, 300, 302, 304, 306, 308, 310]
def sm_F1 : List (String × String × String × Bool) := [("WordGrid$Notes", "ring", "[I", true), ("WordGrid$Notes", "times", "[I", true), ("WordGrid$Notes", "next", "I", false), ("WordGrid$Notes", "kept", "I", false), ("WordGrid$Notes", "bodies", "I", false), ("WordGrid$Notes", "now", "I", false)]
def sm_H1 : List Nat := [93, 95, 97, 99, 101, 103]
def sm_F2 : List (String × String × String × Bool) := [("WordGrid$Shelf", "notes", "LWordGrid$Notes;", true), ("WordGrid$Shelf", "lists", "[LWordGrid$WordList;", true), ("WordGrid$Shelf", "weights", "[I", true), ("WordGrid$Shelf", "made", "I", false)]
def sm_H2 : List Nat := [121, 123, 125, 127]
def sm_F3 : List (String × String × String × Bool) := [("WordGrid$EntryTable", "start", "[I", true), ("WordGrid$EntryTable", "down", "[Z", true), ("WordGrid$EntryTable", "length", "[I", true), ("WordGrid$EntryTable", "number", "[I", true), ("WordGrid$EntryTable", "size", "I", false)]
def sm_H3 : List Nat := [151, 153, 155, 157, 159]
def sm_F4 : List (String × String × String × Bool) := [("WordGrid$Search", "notes", "LWordGrid$Notes;", true), ("WordGrid$Search", "shelf", "LWordGrid$Shelf;", true), ("WordGrid$Search", "table", "LWordGrid$EntryTable;", true), ("WordGrid$Search", "words", "[J", true), ("WordGrid$Search", "many", "[I", true), ("WordGrid$Search", "scores", "[I", true), ("WordGrid$Search", "order", "[I", true), ("WordGrid$Search", "cells", "[I", true), ("WordGrid$Search", "looked", "[I", true), ("WordGrid$Search", "stood", "[J", true), ("WordGrid$Search", "masks", "[J", true), ("WordGrid$Search", "set", "[J", true), ("WordGrid$Search", "depth", "I", false), ("WordGrid$Search", "whole", "Z", false), ("WordGrid$Search", "candidates", "I", false), ("WordGrid$Search", "steps", "I", false), ("WordGrid$Search", "allowed", "I", false)]
def sm_H4 : List Nat := [191, 193, 195, 197, 199, 201, 203, 205, 207, 209, 211, 213, 215, 217, 219, 221, 223]
def sm_F5 : List (String × String × String × Bool) := [("WordGrid$Grid", "cells", "[I", true), ("WordGrid$Grid", "lengths", "[I", true), ("WordGrid$Grid", "spare", "[I", true), ("WordGrid$Grid", "reached", "[I", true), ("WordGrid$Grid", "there", "Z", false), ("WordGrid$Grid", "height", "I", false), ("WordGrid$Grid", "width", "I", false), ("WordGrid$Grid", "acrossList", "I", false), ("WordGrid$Grid", "downList", "I", false)]
def sm_H5 : List Nat := [251, 253, 255, 257, 259, 261, 263, 265, 267]
def sm_F6 : List (String × String × String × Bool) := [("WordGridModel", "there", "[Z", true), ("WordGridModel", "high", "[I", true), ("WordGridModel", "wide", "[I", true), ("WordGridModel", "length", "[I", true), ("WordGridModel", "sign", "[I", true), ("WordGridModel", "right", "[Z", true), ("WordGridModel", "under", "[Z", true), ("WordGridModel", "across", "[I", true), ("WordGridModel", "down", "[I", true), ("WordGridModel", "lists", "I", false), ("WordGridModel", "kind", "[I", true), ("WordGridModel", "first", "[I", true), ("WordGridModel", "second", "[I", true), ("WordGridModel", "pattern", "[J", true), ("WordGridModel", "weight", "[I", true), ("WordGridModel", "dropped", "[Z", true), ("WordGridModel", "many", "[I", true), ("WordGridModel", "words", "[J", true), ("WordGridModel", "scores", "[I", true), ("WordGridModel", "finding", "I", false), ("WordGridModel", "found", "[I", true), ("WordGridModel", "trace", "[I", true),
  ("WordGridModel", "bodies", "I", false), ("WordGridModel", "stepsEver", "I", false), ("WordGridModel", "depth", "I", false), ("WordGridModel", "askList", "[I", true), ("WordGridModel", "askAct", "[I", true), ("WordGridModel", "askOf", "[J", true), ("WordGridModel", "askPhase", "[I", true), ("WordGridModel", "askKept", "[J", true), ("WordGridModel", "got", "J", false), ("WordGridModel", "failure", "I", false), ("WordGridModel", "entryMany", "I", false), ("WordGridModel", "entryRow", "[I", true), ("WordGridModel", "entryAt", "[I", true), ("WordGridModel", "entryDown", "[Z", true), ("WordGridModel", "entrySize", "[I", true), ("WordGridModel", "entryNumber", "[I", true), ("WordGridModel", "mayGoOn", "Z", false), ("WordGridModel", "spentGrid", "I", false), ("WordGridModel", "searchMany", "[I", true), ("WordGridModel", "searchAt", "[I", true), ("WordGridModel", "searchCandidates", "[I", true),
  ("WordGridModel", "candidate", "[J", true), ("WordGridModel", "candidateScore", "[I", true), ("WordGridModel", "candidateMany", "[I", true), ("WordGridModel", "order", "[I", true), ("WordGridModel", "next", "[I", true), ("WordGridModel", "taken", "[J", true), ("WordGridModel", "setBits", "[I", true), ("WordGridModel", "work", "[I", true), ("WordGridModel", "squares", "[I", true), ("WordGridModel", "sizes", "[I", true), ("WordGridModel", "searchedSteps", "I", false), ("WordGridModel", "searchedFound", "I", false), ("WordGridModel", "searchedEntries", "I", false), ("WordGridModel", "searchedCandidates", "I", false), ("WordGridModel", "firsts", "[J", true), ("WordGridModel", "firstMany", "I", false), ("WordGridModel", "firstEntries", "I", false), ("WordGridModel", "island", "[I", true), ("WordGridModel", "moved", "I", false), ("WordGridModel", "heldSign", "[I", true),
  ("WordGridModel", "heldRight", "[Z", true), ("WordGridModel", "heldUnder", "[Z", true)]
def sm_H6 : List Nat := [1063, 1065, 1067, 1069, 1071, 1073, 1075, 1077, 1079, 1081, 1083, 1085, 1087, 1089, 1091, 1093, 1095, 1097, 1099, 1101, 1103, 1105, 1107, 1109, 1111, 1113, 1115, 1117, 1119, 1121, 1123, 1125, 1127, 1129, 1131, 1133, 1135, 1137, 1139, 1141, 1143, 1145, 1147, 1149, 1151, 1153, 1155, 1157, 1159, 1161, 1163, 1165, 1167, 1169, 1171, 1173, 1175, 1177, 1179, 1181, 1183, 1185, 1187, 1189, 1191]
def sm_F7 : List (String × String × String × Bool) := [("WordGrid$WordList", "kind", "I", true), ("WordGrid$WordList", "notes", "LWordGrid$Notes;", true), ("WordGrid$Plain", "words", "[J", true), ("WordGrid$Plain", "size", "I", false)]
def sm_H7 : List Nat := [514, 515, 512, 513]
def sm_F8 : List (String × String × String × Bool) := [("WordGrid$WordList", "kind", "I", true), ("WordGrid$WordList", "notes", "LWordGrid$Notes;", true), ("WordGrid$Plain", "words", "[J", true), ("WordGrid$Plain", "size", "I", false), ("WordGrid$Scored", "numbers", "[I", true)]
def sm_H8 : List Nat := [443, 445, 439, 441, 437]
def sm_F9 : List (String × String × String × Bool) := [("WordGrid$WordList", "kind", "I", true), ("WordGrid$WordList", "notes", "LWordGrid$Notes;", true), ("WordGrid$Plain", "words", "[J", true), ("WordGrid$Plain", "size", "I", false)]
def sm_H9 : List Nat := [456, 457, 454, 455]
def sm_F10 : List (String × String × String × Bool) := [("WordGrid$WordList", "kind", "I", true), ("WordGrid$WordList", "notes", "LWordGrid$Notes;", true), ("WordGrid$Pattern", "shelf", "LWordGrid$Shelf;", true), ("WordGrid$Pattern", "a", "I", true), ("WordGrid$Pattern", "length", "I", true), ("WordGrid$Pattern", "letters", "J", true), ("WordGrid$Pattern", "mask", "J", true)]
def sm_H10 : List Nat := [488, 489, 478, 480, 482, 484, 486]
def sm_F11 : List (String × String × String × Bool) := [("WordGrid$WordList", "kind", "I", true), ("WordGrid$WordList", "notes", "LWordGrid$Notes;", true), ("WordGrid$Joined", "shelf", "LWordGrid$Shelf;", true), ("WordGrid$Joined", "a", "I", true), ("WordGrid$Joined", "b", "I", true)]
def sm_H11 : List Nat := [506, 507, 500, 502, 504]
def sm_FL : List (List (String × String × String × Bool)) := [sm_F0, sm_F1, sm_F2, sm_F3, sm_F4, sm_F5, sm_F6, sm_F7, sm_F8, sm_F9, sm_F10, sm_F11]
def sm_HL : List (List Nat × Nat × Nat) := [(sm_H0, 70, 53), (sm_H1, 78, 54), (sm_H2, 108, 55), (sm_H3, 133, 56), (sm_H4, 164, 57), (sm_H5, 227, 58), (sm_H6, 993, 59), (sm_H7, 510, 62), (sm_H8, 409, 63), (sm_H9, 449, 64), (sm_H10, 460, 65), (sm_H11, 492, 66)]
def sm_MT_0 : List sm_M := [(⟨"WordGrid", "<init>", "()V"⟩, prog_1_method_1_code, 2, none, 0, 0, 0, 73, 72, 53), (⟨"java/lang/Object", "<init>", "()V"⟩, object_method_1_code, 1, none, 16, 0, 0, 76, 75, 0), (⟨"WordGrid$Notes", "<init>", "()V"⟩, prog_6_method_1_code, 1, none, 1, 0, 0, 81, 80, 54), (⟨"WordGrid$Shelf", "<init>", "(LWordGrid$Notes;)V"⟩, prog_11_method_1_code, 2, none, 2, 1, 0, 111, 110, 55), (⟨"WordGrid$EntryTable", "<init>", "()V"⟩, prog_3_method_1_code, 1, none, 3, 0, 0, 136, 135, 56), (⟨"WordGrid$Search", "<init>", "(LWordGrid$Notes;LWordGrid$Shelf;)V"⟩, prog_10_method_1_code, 3, none, 4, 2, 0, 167, 166, 57), (⟨"WordGrid$Grid", "<init>", "()V"⟩, prog_4_method_1_code, 1, none, 5, 0, 0, 230, 229, 58), (⟨"WordGrid", "grid", "(III)I"⟩, prog_1_method_2_code, 4, (some .int), 0, 3, 0, 316, 314, 53), (⟨"WordGrid$Notes", "clear", "()V"⟩, prog_6_method_2_code, 1, none, 1, 0, 0, 320, 318, 54),
  (⟨"WordGrid", "isGridNumber", "(I)Z"⟩, prog_1_method_42_code, 1, (some .boolean), 0, 1, 1, 323, 322, 53), (⟨"WordGrid$Notes", "find", "(I)I"⟩, prog_6_method_4_code, 2, (some .int), 1, 1, 0, 327, 325, 54), (⟨"WordGrid$Notes", "answer", "()I"⟩, prog_6_method_5_code, 1, (some .int), 1, 0, 0, 331, 329, 54), (⟨"WordGrid$Grid", "begin", "(II)V"⟩, prog_4_method_2_code, 3, none, 5, 2, 0, 335, 333, 58), (⟨"java/util/Arrays", "fill", "([II)V"⟩, prog_17_method_103_code, 4, none, 15, 2, 1, 338, 337, 60), (⟨"WordGrid", "cut", "(III)I"⟩, prog_1_method_3_code, 7, (some .int), 0, 3, 0, 342, 340, 53), (⟨"WordGrid$Grid", "rowRefusal", "(I)I"⟩, prog_4_method_6_code, 2, (some .int), 5, 1, 0, 346, 344, 58), (⟨"WordGrid$Grid", "hasRow", "(I)Z"⟩, prog_4_method_4_code, 2, (some .boolean), 5, 1, 0, 350, 348, 58), (⟨"WordGrid", "letter", "(IIII)I"⟩, prog_1_method_4_code, 8, (some .int), 0, 4, 0, 354, 352, 53),
  (⟨"WordGrid$Grid", "squareRefusal", "(II)I"⟩, prog_4_method_7_code, 4, (some .int), 5, 2, 0, 358, 356, 58), (⟨"WordGrid$Grid", "hasPlaces", "(III)Z"⟩, prog_4_method_5_code, 4, (some .boolean), 5, 3, 0, 363, 361, 58), (⟨"WordGrid$Grid", "signOf", "(II)I"⟩, prog_4_method_8_code, 3, (some .int), 5, 2, 0, 367, 365, 58), (⟨"WordGrid$Grid", "putSign", "(III)V"⟩, prog_4_method_9_code, 5, none, 5, 3, 0, 371, 369, 58), (⟨"WordGrid", "black", "(IIIZ)I"⟩, prog_1_method_5_code, 8, (some .int), 0, 4, 0, 375, 373, 53), (⟨"WordGrid", "bar", "(IIIZZ)I"⟩, prog_1_method_6_code, 8, (some .int), 0, 5, 0, 379, 377, 53), (⟨"WordGrid$Grid", "putBar", "(IIIZ)Z"⟩, prog_4_method_10_code, 7, (some .boolean), 5, 4, 0, 383, 381, 58), (⟨"WordGrid", "at", "(III)I"⟩, prog_1_method_7_code, 5, (some .int), 0, 3, 0, 387, 385, 53), (⟨"WordGrid", "list", "(IIIJ)I"⟩, prog_1_method_8_code, 7, (some .int), 0, 4, 0, 391, 389, 53),
  (⟨"WordGrid$Shelf", "wasMade", "(I)Z"⟩, prog_11_method_2_code, 2, (some .boolean), 2, 1, 0, 395, 393, 55), (⟨"WordGrid", "lengthUpTo", "(JI)I"⟩, prog_1_method_45_code, 6, (some .int), 0, 2, 1, 398, 397, 53), (⟨"WordGrid$Shelf", "weightOf", "(III)I"⟩, prog_11_method_4_code, 5, (some .int), 2, 3, 0, 403, 401, 55), (⟨"WordGrid", "newList", "(IIIJ)LWordGrid$WordList;"⟩, prog_1_method_9_code, 6, (some (.object "WordGrid$WordList")), 0, 4, 0, 407, 406, 53), (⟨"WordGrid$Scored", "<init>", "(LWordGrid$Notes;)V"⟩, prog_9_method_1_code, 2, none, 8, 1, 0, 412, 411, 63), (⟨"WordGrid$Plain", "<init>", "(ILWordGrid$Notes;)V"⟩, prog_8_method_1_code, 3, none, 7, 2, 0, 415, 414, 62), (⟨"WordGrid$WordList", "<init>", "(ILWordGrid$Notes;)V"⟩, prog_12_method_1_code, 3, none, 12, 2, 0, 418, 417, 61), (⟨"WordGrid$Banned", "<init>", "(LWordGrid$Notes;)V"⟩, prog_2_method_1_code, 2, none, 9, 1, 0, 452, 451, 64),
  (⟨"WordGrid$Pattern", "<init>", "(LWordGrid$Notes;LWordGrid$Shelf;IJ)V"⟩, prog_7_method_1_code, 10, none, 10, 4, 0, 463, 462, 65), (⟨"WordGrid", "letterOf", "(JI)I"⟩, prog_1_method_46_code, 3, (some .int), 0, 2, 1, 468, 467, 53), (⟨"WordGrid", "maskOf", "(J)J"⟩, prog_1_method_47_code, 5, (some .long), 0, 1, 1, 471, 470, 53), (⟨"WordGrid$Joined", "<init>", "(LWordGrid$Notes;LWordGrid$Shelf;II)V"⟩, prog_5_method_1_code, 5, none, 11, 4, 0, 495, 494, 66), (⟨"WordGrid$Shelf", "place", "(LWordGrid$WordList;I)I"⟩, prog_11_method_5_code, 4, (some .int), 2, 2, 0, 520, 518, 55)]
def sm_MT_1 : List sm_M := [(⟨"WordGrid", "drop", "(I)I"⟩, prog_1_method_10_code, 2, (some .int), 0, 1, 0, 524, 522, 53), (⟨"WordGrid$Shelf", "wanted", "(I)LWordGrid$WordList;"⟩, prog_11_method_3_code, 3, (some (.object "WordGrid$WordList")), 2, 1, 0, 528, 526, 55), (⟨"WordGrid", "word", "(IJI)I"⟩, prog_1_method_11_code, 7, (some .int), 0, 3, 0, 535, 533, 53), (⟨"WordGrid", "isWord", "(J)Z"⟩, prog_1_method_44_code, 2, (some .boolean), 0, 1, 1, 538, 537, 53), (⟨"WordGrid$Scored", "take", "(JI)Z"⟩, prog_9_method_2_code, 6, (some .boolean), 8, 2, 0, 546, 545, 63), (⟨"WordGrid$Plain", "placeOf", "(J)I"⟩, prog_8_method_2_code, 4, (some .int), 7, 1, 0, 553, 552, 62), (⟨"WordGrid$Plain", "take", "(JI)Z"⟩, prog_8_method_3_code, 4, (some .boolean), 7, 2, 0, 554, 540, 62), (⟨"WordGrid", "ask", "(IIJ)I"⟩, prog_1_method_12_code, 7, (some .int), 0, 3, 0, 559, 557, 53),
  (⟨"WordGrid", "askedOf", "(LWordGrid$WordList;IJ)I"⟩, prog_1_method_13_code, 4, (some .int), 0, 3, 1, 562, 561, 53), (⟨"WordGrid$Banned", "allows", "(J)Z"⟩, prog_2_method_2_code, 3, (some .boolean), 9, 1, 0, 568, 567, 64), (⟨"WordGrid$Notes", "begin", "(II)V"⟩, prog_6_method_6_code, 3, none, 1, 2, 0, 572, 570, 54), (⟨"java/lang/Math", "min", "(II)I"⟩, prog_15_method_69_code, 2, (some .int), 14, 2, 1, 575, 574, 67), (⟨"WordGrid$Plain", "allows", "(J)Z"⟩, prog_8_method_4_code, 3, (some .boolean), 7, 1, 0, 578, 577, 62), (⟨"WordGrid$Joined", "allows", "(J)Z"⟩, prog_5_method_3_code, 5, (some .boolean), 11, 1, 0, 582, 581, 66), (⟨"WordGrid$Pattern", "allows", "(J)Z"⟩, prog_7_method_3_code, 4, (some .boolean), 10, 1, 0, 587, 586, 65), (⟨"WordGrid$Pattern", "fits", "(J)Z"⟩, prog_7_method_2_code, 3, (some .boolean), 10, 1, 0, 592, 590, 65),
  (⟨"WordGrid$Notes", "met", "()Z"⟩, prog_6_method_3_code, 1, (some .boolean), 1, 0, 0, 598, 596, 54), (⟨"WordGrid$Joined", "otherAllows", "(J)Z"⟩, prog_5_method_2_code, 4, (some .boolean), 11, 1, 0, 602, 600, 66), (⟨"WordGrid$Banned", "many", "()I"⟩, prog_2_method_3_code, 1, (some .int), 9, 0, 0, 611, 610, 64), (⟨"WordGrid$Joined", "many", "()I"⟩, prog_5_method_4_code, 2, (some .int), 11, 0, 0, 614, 613, 66), (⟨"WordGrid$Pattern", "many", "()I"⟩, prog_7_method_4_code, 2, (some .int), 10, 0, 0, 617, 616, 65), (⟨"WordGrid$Plain", "many", "()I"⟩, prog_8_method_5_code, 1, (some .int), 7, 0, 0, 620, 619, 62), (⟨"WordGrid$Plain", "scoreOf", "(J)I"⟩, prog_8_method_7_code, 3, (some .int), 7, 1, 0, 629, 628, 62), (⟨"WordGrid$Joined", "scoreOf", "(J)I"⟩, prog_5_method_6_code, 6, (some .int), 11, 1, 0, 632, 631, 66),
  (⟨"WordGrid$Pattern", "scoreOf", "(J)I"⟩, prog_7_method_6_code, 4, (some .int), 10, 1, 0, 635, 634, 65), (⟨"WordGrid$Scored", "scoreOf", "(J)I"⟩, prog_9_method_3_code, 5, (some .int), 8, 1, 0, 638, 637, 63), (⟨"WordGrid", "wordOf", "(II)J"⟩, prog_1_method_14_code, 6, (some .long), 0, 2, 0, 648, 646, 53), (⟨"WordGrid$Plain", "wordNumber", "(I)J"⟩, prog_8_method_6_code, 2, (some .long), 7, 1, 0, 654, 653, 62), (⟨"WordGrid$Joined", "wordNumber", "(I)J"⟩, prog_5_method_5_code, 5, (some .long), 11, 1, 0, 658, 657, 66), (⟨"WordGrid$Pattern", "wordNumber", "(I)J"⟩, prog_7_method_5_code, 5, (some .long), 10, 1, 0, 661, 660, 65), (⟨"WordGrid", "uses", "(IZI)I"⟩, prog_1_method_15_code, 6, (some .int), 0, 3, 0, 669, 667, 53), (⟨"WordGrid$Grid", "listFor", "(Z)I"⟩, prog_4_method_3_code, 2, (some .int), 5, 1, 0, 673, 671, 58),
  (⟨"WordGrid", "entries", "(I)I"⟩, prog_1_method_16_code, 2, (some .int), 0, 1, 0, 677, 675, 53), (⟨"WordGrid", "lookAtEntries", "(I)Z"⟩, prog_1_method_20_code, 2, (some .boolean), 0, 1, 0, 681, 680, 53), (⟨"WordGrid$EntryTable", "lookAt", "(LWordGrid$Grid;)V"⟩, prog_3_method_2_code, 7, none, 3, 1, 0, 685, 683, 56), (⟨"WordGrid$Grid", "joinsRight", "(II)Z"⟩, prog_4_method_12_code, 3, (some .boolean), 5, 2, 0, 689, 687, 58), (⟨"WordGrid$Grid", "isWhite", "(II)Z"⟩, prog_4_method_11_code, 3, (some .boolean), 5, 2, 0, 693, 691, 58), (⟨"WordGrid$Grid", "joinsBelow", "(II)Z"⟩, prog_4_method_13_code, 3, (some .boolean), 5, 2, 0, 698, 696, 58), (⟨"WordGrid$EntryTable", "acrossLength", "(LWordGrid$Grid;II)I"⟩, prog_3_method_4_code, 4, (some .int), 3, 3, 1, 701, 700, 56), (⟨"WordGrid$EntryTable", "add", "(IZII)V"⟩, prog_3_method_3_code, 5, none, 3, 4, 0, 705, 703, 56)]
def sm_MT_2 : List sm_M := [(⟨"WordGrid$EntryTable", "downLength", "(LWordGrid$Grid;II)I"⟩, prog_3_method_5_code, 4, (some .int), 3, 3, 1, 708, 707, 56), (⟨"WordGrid", "entry", "(III)I"⟩, prog_1_method_17_code, 4, (some .int), 0, 3, 0, 712, 710, 53), (⟨"WordGrid$EntryTable", "has", "(I)Z"⟩, prog_3_method_6_code, 2, (some .boolean), 3, 1, 0, 716, 714, 56), (⟨"WordGrid", "stands", "(II)J"⟩, prog_1_method_18_code, 6, (some .long), 0, 2, 0, 720, 718, 53), (⟨"WordGrid$EntryTable", "standing", "(I[I)J"⟩, prog_3_method_8_code, 6, (some .long), 3, 2, 0, 724, 722, 56), (⟨"WordGrid$EntryTable", "cellOf", "(II)I"⟩, prog_3_method_7_code, 3, (some .int), 3, 2, 0, 728, 726, 56), (⟨"WordGrid", "crossing", "(III)I"⟩, prog_1_method_19_code, 4, (some .int), 0, 3, 0, 733, 731, 53), (⟨"WordGrid$EntryTable", "crossingOf", "(II)I"⟩, prog_3_method_9_code, 5, (some .int), 3, 2, 0, 737, 735, 56),
  (⟨"WordGrid", "fill", "(II)I"⟩, prog_1_method_21_code, 3, (some .int), 0, 2, 0, 741, 739, 53), (⟨"WordGrid", "isStepNumber", "(I)Z"⟩, prog_1_method_43_code, 1, (some .boolean), 0, 1, 1, 744, 743, 53), (⟨"WordGrid$Search", "gather", "(LWordGrid$Grid;)Z"⟩, prog_10_method_2_code, 3, (some .boolean), 4, 1, 0, 748, 746, 57), (⟨"WordGrid$Search", "gatherFor", "(II)Z"⟩, prog_10_method_3_code, 13, (some .boolean), 4, 2, 0, 757, 755, 57), (⟨"WordGrid$Search", "addCandidate", "(IJI)V"⟩, prog_10_method_4_code, 7, none, 4, 3, 0, 769, 767, 57), (⟨"WordGrid$Search", "isAhead", "(JIJI)Z"⟩, prog_10_method_5_code, 6, (some .boolean), 4, 4, 1, 772, 771, 57), (⟨"WordGrid", "isBefore", "(JJ)Z"⟩, prog_1_method_48_code, 6, (some .boolean), 0, 2, 1, 775, 774, 53), (⟨"WordGrid$Search", "putInOrder", "()V"⟩, prog_10_method_6_code, 3, none, 4, 0, 0, 779, 777, 57),
  (⟨"WordGrid$Search", "arrive", "()V"⟩, prog_10_method_11_code, 1, none, 4, 0, 0, 783, 781, 57), (⟨"WordGrid", "fillOn", "(I)I"⟩, prog_1_method_23_code, 3, (some .int), 0, 1, 0, 787, 786, 53), (⟨"WordGrid$Search", "allow", "(I)V"⟩, prog_10_method_7_code, 2, none, 4, 1, 0, 791, 789, 57), (⟨"WordGrid$Search", "nextFilling", "()I"⟩, prog_10_method_8_code, 2, (some .int), 4, 0, 0, 795, 793, 57), (⟨"WordGrid$Search", "goBack", "()V"⟩, prog_10_method_12_code, 1, none, 4, 0, 0, 799, 797, 57), (⟨"WordGrid$Search", "write", "(IJ)V"⟩, prog_10_method_13_code, 5, none, 4, 2, 0, 803, 801, 57), (⟨"WordGrid$Search", "lookAtNext", "()V"⟩, prog_10_method_9_code, 4, none, 4, 0, 0, 810, 808, 57), (⟨"WordGrid$Search", "isSetBefore", "(J)Z"⟩, prog_10_method_10_code, 4, (some .boolean), 4, 1, 0, 814, 812, 57),
  (⟨"WordGrid$Search", "writeInto", "(LWordGrid$Grid;)V"⟩, prog_10_method_14_code, 5, none, 4, 1, 0, 818, 816, 57), (⟨"WordGrid", "tellSearch", "(LWordGrid$Search;I)V"⟩, prog_1_method_26_code, 3, none, 0, 2, 0, 822, 821, 53), (⟨"WordGrid", "goOn", "(I)I"⟩, prog_1_method_22_code, 2, (some .int), 0, 1, 0, 826, 824, 53), (⟨"WordGrid", "solve", "(III)I"⟩, prog_1_method_24_code, 6, (some .int), 0, 3, 0, 830, 828, 53), (⟨"WordGrid", "keepFilling", "(I)V"⟩, prog_1_method_25_code, 2, none, 0, 1, 0, 834, 833, 53), (⟨"WordGrid$Search", "tellFilling", "([JI)V"⟩, prog_10_method_15_code, 4, none, 4, 2, 0, 838, 836, 57), (⟨"WordGrid", "first", "(II)J"⟩, prog_1_method_27_code, 3, (some .long), 0, 2, 0, 842, 840, 53), (⟨"WordGrid", "searched", "(I)I"⟩, prog_1_method_28_code, 2, (some .int), 0, 1, 0, 846, 844, 53), (⟨"WordGrid", "judge", "(II)I"⟩, prog_1_method_29_code, 4, (some .int), 0, 2, 0, 850, 848, 53),
  (⟨"WordGrid$Grid", "squares", "()I"⟩, prog_4_method_14_code, 3, (some .int), 5, 0, 0, 854, 852, 58), (⟨"java/lang/Math", "max", "(II)I"⟩, prog_15_method_65_code, 2, (some .int), 14, 2, 1, 857, 856, 67), (⟨"WordGrid$Grid", "whites", "()I"⟩, prog_4_method_15_code, 4, (some .int), 5, 0, 0, 861, 859, 58), (⟨"WordGrid$Grid", "whitesInEntries", "(I)I"⟩, prog_4_method_17_code, 5, (some .int), 5, 1, 0, 865, 863, 58), (⟨"WordGrid$Grid", "entriesThrough", "(II)I"⟩, prog_4_method_18_code, 4, (some .int), 5, 2, 0, 869, 867, 58), (⟨"WordGrid$Grid", "islands", "()I"⟩, prog_4_method_19_code, 4, (some .int), 5, 0, 0, 875, 873, 58), (⟨"WordGrid$Grid", "reach", "(III)I"⟩, prog_4_method_20_code, 4, (some .int), 5, 3, 0, 879, 877, 58)]
def sm_MT_3 : List sm_M := [(⟨"WordGrid$Grid", "spread", "()V"⟩, prog_4_method_21_code, 5, none, 5, 0, 0, 883, 881, 58), (⟨"WordGrid$EntryTable", "shortest", "()I"⟩, prog_3_method_10_code, 3, (some .int), 3, 0, 0, 887, 885, 56), (⟨"WordGrid$Grid", "isHalfTurnAlike", "()Z"⟩, prog_4_method_22_code, 3, (some .boolean), 5, 0, 0, 892, 890, 58), (⟨"WordGrid$Grid", "lettersThere", "()I"⟩, prog_4_method_16_code, 4, (some .int), 5, 0, 0, 896, 894, 58), (⟨"WordGrid", "move", "(IIIIIIII)I"⟩, prog_1_method_30_code, 11, (some .int), 0, 8, 0, 900, 898, 53), (⟨"WordGrid", "moveRefusal", "(LWordGrid$Grid;IILWordGrid$Grid;III)I"⟩, prog_1_method_31_code, 7, (some .int), 0, 7, 1, 903, 902, 53), (⟨"WordGrid$Grid", "takeRow", "(IILWordGrid$Grid;III)V"⟩, prog_4_method_23_code, 7, none, 5, 6, 0, 909, 907, 58), (⟨"WordGrid$Grid", "dropOuterBars", "(I)V"⟩, prog_4_method_24_code, 3, none, 5, 1, 0, 914, 912, 58),
  (⟨"WordGrid", "moved", "()I"⟩, prog_1_method_32_code, 1, (some .int), 0, 0, 0, 918, 916, 53), (⟨"WordGrid", "turn", "(I)I"⟩, prog_1_method_33_code, 3, (some .int), 0, 1, 0, 922, 920, 53), (⟨"WordGrid", "turnRefused", "(I)I"⟩, prog_1_method_35_code, 2, (some .int), 0, 1, 0, 926, 925, 53), (⟨"WordGrid$Grid", "lacksRow", "()Z"⟩, prog_4_method_25_code, 2, (some .boolean), 5, 0, 0, 930, 928, 58), (⟨"WordGrid$Grid", "isUncut", "()Z"⟩, prog_4_method_26_code, 2, (some .boolean), 5, 0, 0, 934, 932, 58), (⟨"WordGrid$Grid", "turnByQuarter", "()V"⟩, prog_4_method_27_code, 5, none, 5, 0, 0, 938, 936, 58), (⟨"WordGrid$Grid", "takeSpare", "(II)V"⟩, prog_4_method_29_code, 3, none, 5, 2, 0, 942, 940, 58), (⟨"WordGrid", "mirror", "(I)I"⟩, prog_1_method_34_code, 3, (some .int), 0, 1, 0, 946, 944, 53), (⟨"WordGrid$Grid", "swapSides", "()V"⟩, prog_4_method_28_code, 5, none, 5, 0, 0, 950, 948, 58),
  (⟨"WordGrid", "trace", "(I)I"⟩, prog_1_method_36_code, 2, (some .int), 0, 1, 0, 954, 952, 53), (⟨"WordGrid$Notes", "latest", "(I)I"⟩, prog_6_method_7_code, 2, (some .int), 1, 1, 0, 958, 956, 54), (⟨"java/lang/Math", "floorMod", "(II)I"⟩, prog_15_method_50_code, 3, (some .int), 14, 2, 1, 961, 960, 67), (⟨"WordGrid", "finding", "()I"⟩, prog_1_method_37_code, 1, (some .int), 0, 0, 0, 965, 963, 53), (⟨"WordGrid", "found", "(I)I"⟩, prog_1_method_38_code, 2, (some .int), 0, 1, 0, 969, 967, 53), (⟨"WordGrid", "digest", "(I)J"⟩, prog_1_method_39_code, 2, (some .long), 0, 1, 0, 973, 971, 53), (⟨"WordGrid$Grid", "sum", "()J"⟩, prog_4_method_30_code, 5, (some .long), 5, 0, 0, 977, 975, 58), (⟨"WordGrid", "count", "(I)I"⟩, prog_1_method_40_code, 2, (some .int), 0, 1, 0, 983, 981, 53), (⟨"WordGrid$Shelf", "those", "()I"⟩, prog_11_method_6_code, 3, (some .int), 2, 0, 0, 987, 985, 55),
  (⟨"WordGrid", "gridsThere", "()I"⟩, prog_1_method_41_code, 3, (some .int), 0, 0, 0, 991, 990, 53), (⟨"WordGridModel", "<init>", "()V"⟩, prog_14_method_1_code, 1, none, 6, 0, 0, 996, 995, 59), (⟨"WordGridModel", "grid", "(III)I"⟩, prog_14_method_11_code, 5, (some .int), 6, 3, 0, 1197, 1195, 59), (⟨"WordGridModel", "isGrid", "(I)Z"⟩, prog_14_method_4_code, 1, (some .boolean), 6, 1, 1, 1200, 1199, 59), (⟨"WordGridModel", "in", "(III)Z"⟩, prog_14_method_3_code, 3, (some .boolean), 6, 3, 1, 1203, 1202, 59), (⟨"WordGridModel", "met", "(I)I"⟩, prog_14_method_6_code, 2, (some .int), 6, 1, 0, 1207, 1206, 59), (⟨"WordGridModel", "changed", "()V"⟩, prog_14_method_47_code, 1, none, 6, 0, 0, 1211, 1210, 59), (⟨"WordGridModel", "cut", "(III)I"⟩, prog_14_method_12_code, 5, (some .int), 6, 3, 0, 1215, 1213, 59),
  (⟨"WordGridModel", "rowOf", "(II)I"⟩, prog_14_method_9_code, 3, (some .int), 6, 2, 0, 1219, 1218, 59), (⟨"WordGridModel", "letter", "(IIII)I"⟩, prog_14_method_13_code, 7, (some .int), 6, 4, 0, 1223, 1221, 59), (⟨"WordGridModel", "wrong", "(III)I"⟩, prog_14_method_10_code, 4, (some .int), 6, 3, 0, 1227, 1226, 59), (⟨"WordGridModel", "square", "(III)I"⟩, prog_14_method_8_code, 3, (some .int), 6, 3, 1, 1230, 1229, 59), (⟨"WordGridModel", "black", "(IIIZ)I"⟩, prog_14_method_14_code, 7, (some .int), 6, 4, 0, 1234, 1232, 59), (⟨"WordGridModel", "bar", "(IIIZZ)I"⟩, prog_14_method_15_code, 9, (some .int), 6, 5, 0, 1238, 1236, 59)]
def sm_MT_4 : List sm_M := [(⟨"WordGridModel", "at", "(III)I"⟩, prog_14_method_17_code, 5, (some .int), 6, 3, 0, 1242, 1240, 59), (⟨"WordGridModel", "told", "(I)I"⟩, prog_14_method_16_code, 2, (some .int), 6, 1, 0, 1246, 1245, 59), (⟨"WordGridModel", "list", "(IIIJ)I"⟩, prog_14_method_21_code, 7, (some .int), 6, 4, 0, 1250, 1248, 59), (⟨"WordGridModel", "isList", "(I)Z"⟩, prog_14_method_5_code, 2, (some .boolean), 6, 1, 0, 1254, 1253, 59), (⟨"WordGridModel", "isWord", "(JI)Z"⟩, prog_14_method_20_code, 6, (some .boolean), 6, 2, 1, 1257, 1256, 59), (⟨"WordGridModel", "sizeOf", "(J)I"⟩, prog_14_method_18_code, 5, (some .int), 6, 1, 1, 1260, 1259, 59), (⟨"WordGridModel", "place", "(JI)I"⟩, prog_14_method_19_code, 3, (some .int), 6, 2, 1, 1263, 1262, 59), (⟨"WordGridModel", "drop", "(I)I"⟩, prog_14_method_22_code, 2, (some .int), 6, 1, 0, 1267, 1265, 59),
  (⟨"WordGridModel", "word", "(IJI)I"⟩, prog_14_method_24_code, 6, (some .int), 6, 3, 0, 1271, 1269, 59), (⟨"WordGridModel", "standsAt", "(IJ)I"⟩, prog_14_method_23_code, 6, (some .int), 6, 2, 0, 1275, 1274, 59), (⟨"WordGridModel", "ask", "(IIJ)I"⟩, prog_14_method_33_code, 6, (some .int), 6, 3, 0, 1279, 1277, 59), (⟨"WordGridModel", "asks", "(IIJ)Z"⟩, prog_14_method_32_code, 8, (some .boolean), 6, 3, 0, 1283, 1282, 59), (⟨"WordGridModel", "push", "(IIJ)V"⟩, prog_14_method_26_code, 5, none, 6, 3, 0, 1287, 1286, 59), (⟨"WordGridModel", "plain", "(IIJ)V"⟩, prog_14_method_29_code, 7, none, 6, 3, 0, 1291, 1290, 59), (⟨"WordGridModel", "began", "(I)V"⟩, prog_14_method_25_code, 2, none, 6, 1, 0, 1295, 1294, 59), (⟨"WordGridModel", "pop", "(J)V"⟩, prog_14_method_27_code, 3, none, 6, 1, 0, 1299, 1298, 59),
  (⟨"WordGridModel", "patterned", "(IIIJI)V"⟩, prog_14_method_30_code, 7, none, 6, 5, 0, 1303, 1302, 59), (⟨"WordGridModel", "fits", "(IJ)Z"⟩, prog_14_method_28_code, 6, (some .boolean), 6, 2, 0, 1307, 1306, 59), (⟨"WordGridModel", "joined", "(IIIJI)V"⟩, prog_14_method_31_code, 8, none, 6, 5, 0, 1311, 1310, 59), (⟨"WordGridModel", "wordOf", "(II)J"⟩, prog_14_method_34_code, 3, (some .long), 6, 2, 0, 1315, 1313, 59), (⟨"WordGridModel", "metLong", "(I)J"⟩, prog_14_method_7_code, 3, (some .long), 6, 1, 0, 1319, 1318, 59), (⟨"WordGridModel", "uses", "(IZI)I"⟩, prog_14_method_35_code, 5, (some .int), 6, 3, 0, 1323, 1321, 59), (⟨"WordGridModel", "entries", "(I)I"⟩, prog_14_method_43_code, 2, (some .int), 6, 1, 0, 1327, 1325, 59), (⟨"WordGridModel", "findEntries", "(I)V"⟩, prog_14_method_41_code, 8, none, 6, 1, 0, 1331, 1330, 59),
  (⟨"WordGridModel", "begins", "(IIIZ)Z"⟩, prog_14_method_39_code, 5, (some .boolean), 6, 4, 0, 1335, 1334, 59), (⟨"WordGridModel", "goesOn", "(IIIZ)Z"⟩, prog_14_method_38_code, 5, (some .boolean), 6, 4, 0, 1339, 1338, 59), (⟨"WordGridModel", "isWhite", "(III)Z"⟩, prog_14_method_37_code, 4, (some .boolean), 6, 3, 0, 1343, 1342, 59), (⟨"WordGridModel", "isThere", "(III)Z"⟩, prog_14_method_36_code, 4, (some .boolean), 6, 3, 0, 1347, 1346, 59), (⟨"WordGridModel", "addEntry", "(IIIZI)I"⟩, prog_14_method_40_code, 7, (some .int), 6, 5, 0, 1351, 1350, 59), (⟨"WordGridModel", "entry", "(III)I"⟩, prog_14_method_44_code, 4, (some .int), 6, 3, 0, 1355, 1353, 59), (⟨"WordGridModel", "stands", "(II)J"⟩, prog_14_method_45_code, 8, (some .long), 6, 2, 0, 1359, 1357, 59), (⟨"WordGridModel", "placeOf", "(II)I"⟩, prog_14_method_42_code, 3, (some .int), 6, 2, 0, 1363, 1362, 59),
  (⟨"WordGridModel", "crossing", "(III)I"⟩, prog_14_method_46_code, 6, (some .int), 6, 3, 0, 1367, 1365, 59), (⟨"WordGridModel", "fill", "(II)I"⟩, prog_14_method_59_code, 3, (some .int), 6, 2, 0, 1371, 1369, 59), (⟨"WordGridModel", "beginSearch", "(II)Z"⟩, prog_14_method_52_code, 7, (some .boolean), 6, 2, 0, 1375, 1374, 59), (⟨"WordGridModel", "findCandidates", "(III)Z"⟩, prog_14_method_51_code, 10, (some .boolean), 6, 3, 0, 1379, 1378, 59), (⟨"WordGridModel", "agrees", "(IIJ)Z"⟩, prog_14_method_50_code, 8, (some .boolean), 6, 3, 0, 1383, 1382, 59), (⟨"WordGridModel", "addCandidate", "(IJI)V"⟩, prog_14_method_49_code, 6, none, 6, 3, 0, 1387, 1386, 59), (⟨"WordGridModel", "isBefore", "(JJ)Z"⟩, prog_14_method_48_code, 5, (some .boolean), 6, 2, 1, 1390, 1389, 59), (⟨"WordGridModel", "fillOn", "(II)I"⟩, prog_14_method_58_code, 5, (some .int), 6, 2, 0, 1394, 1393, 59)]
def sm_MT_5 : List sm_M := [(⟨"WordGridModel", "goes", "(III)I"⟩, prog_14_method_57_code, 12, (some .int), 6, 3, 0, 1398, 1397, 59), (⟨"WordGridModel", "remember", "(I)V"⟩, prog_14_method_56_code, 3, none, 6, 1, 0, 1402, 1401, 59), (⟨"WordGridModel", "takeBack", "(I)V"⟩, prog_14_method_55_code, 5, none, 6, 1, 0, 1406, 1405, 59), (⟨"WordGridModel", "isTaken", "(IJ)Z"⟩, prog_14_method_53_code, 6, (some .boolean), 6, 2, 0, 1410, 1409, 59), (⟨"WordGridModel", "setWord", "(IIJ)V"⟩, prog_14_method_54_code, 8, none, 6, 3, 0, 1414, 1413, 59), (⟨"WordGridModel", "goOn", "(I)I"⟩, prog_14_method_60_code, 2, (some .int), 6, 1, 0, 1418, 1416, 59), (⟨"WordGridModel", "solve", "(III)I"⟩, prog_14_method_61_code, 5, (some .int), 6, 3, 0, 1422, 1420, 59), (⟨"WordGridModel", "first", "(II)J"⟩, prog_14_method_62_code, 3, (some .long), 6, 2, 0, 1426, 1424, 59),
  (⟨"WordGridModel", "searched", "(I)I"⟩, prog_14_method_63_code, 2, (some .int), 6, 1, 0, 1430, 1428, 59), (⟨"WordGridModel", "judge", "(II)I"⟩, prog_14_method_70_code, 7, (some .int), 6, 2, 0, 1434, 1432, 59), (⟨"WordGridModel", "whites", "(II)I"⟩, prog_14_method_67_code, 5, (some .int), 6, 2, 0, 1438, 1437, 59), (⟨"WordGridModel", "entriesOver", "(I)I"⟩, prog_14_method_64_code, 5, (some .int), 6, 1, 0, 1442, 1441, 59), (⟨"WordGridModel", "islands", "(I)I"⟩, prog_14_method_65_code, 6, (some .int), 6, 1, 0, 1446, 1445, 59), (⟨"WordGridModel", "unite", "(II)Z"⟩, prog_14_method_66_code, 6, (some .boolean), 6, 2, 0, 1450, 1449, 59), (⟨"WordGridModel", "shortest", "()I"⟩, prog_14_method_68_code, 3, (some .int), 6, 0, 0, 1454, 1453, 59), (⟨"WordGridModel", "isTurnedLike", "(I)Z"⟩, prog_14_method_69_code, 5, (some .boolean), 6, 1, 0, 1458, 1457, 59),
  (⟨"WordGridModel", "move", "(IIIIIIII)I"⟩, prog_14_method_75_code, 13, (some .int), 6, 8, 0, 1462, 1460, 59), (⟨"WordGridModel", "bringWrong", "(IIIIIII)I"⟩, prog_14_method_73_code, 12, (some .int), 6, 7, 0, 1466, 1465, 59), (⟨"WordGridModel", "rowWrong", "(II)I"⟩, prog_14_method_72_code, 3, (some .int), 6, 2, 0, 1470, 1469, 59), (⟨"WordGridModel", "bring", "(IIIIIII)V"⟩, prog_14_method_74_code, 11, none, 6, 7, 0, 1474, 1473, 59), (⟨"WordGridModel", "hold", "(I)V"⟩, prog_14_method_71_code, 3, none, 6, 1, 0, 1478, 1477, 59), (⟨"WordGridModel", "moved", "()I"⟩, prog_14_method_76_code, 1, (some .int), 6, 0, 0, 1482, 1480, 59), (⟨"WordGridModel", "turn", "(I)I"⟩, prog_14_method_79_code, 9, (some .int), 6, 1, 0, 1486, 1484, 59), (⟨"WordGridModel", "unfit", "(I)I"⟩, prog_14_method_77_code, 5, (some .int), 6, 1, 0, 1490, 1489, 59),
  (⟨"WordGridModel", "clear", "(I)V"⟩, prog_14_method_78_code, 3, none, 6, 1, 0, 1494, 1493, 59), (⟨"WordGridModel", "mirror", "(I)I"⟩, prog_14_method_80_code, 8, (some .int), 6, 1, 0, 1498, 1496, 59), (⟨"WordGridModel", "trace", "(I)I"⟩, prog_14_method_81_code, 3, (some .int), 6, 1, 0, 1502, 1500, 59), (⟨"WordGridModel", "finding", "()I"⟩, prog_14_method_82_code, 1, (some .int), 6, 0, 0, 1506, 1504, 59), (⟨"WordGridModel", "found", "(I)I"⟩, prog_14_method_83_code, 2, (some .int), 6, 1, 0, 1510, 1508, 59), (⟨"WordGridModel", "digest", "(I)J"⟩, prog_14_method_84_code, 6, (some .long), 6, 1, 0, 1514, 1512, 59), (⟨"WordGridModel", "count", "(I)I"⟩, prog_14_method_85_code, 4, (some .int), 6, 1, 0, 1520, 1518, 59)]
def sm_MT : List sm_M := sm_MT_0 ++ (sm_MT_1 ++ (sm_MT_2 ++ (sm_MT_3 ++ (sm_MT_4 ++ (sm_MT_5)))))
def sm_bp_0 : List (List Nat) := [[0, 104, 109, 128], [0], [0], [0], [0], [0], [0], [0, 14, 20, 26, 28, 32, 36, 45], [0], [0, 4, 9, 13, 14], [0], [0], [0], [0, 5, 10, 20], [0, 14, 19, 21, 42, 52, 67, 76], [0, 7, 9, 17, 19, 28, 32, 33], [0, 4, 12, 16, 17], [0, 14, 19, 26, 28, 50, 60, 76, 79], [0, 10, 12, 22, 26, 27], [0, 4, 16, 20, 21], [0], [0], [0, 14, 16, 38, 48, 62, 74, 81, 89], [0, 14, 16, 38, 48, 53, 64, 67, 78, 81, 95, 100, 102, 110, 114, 115], [0, 20, 24, 25, 38, 50, 61], [0, 14, 16, 34, 44], [0, 11, 16, 18, 23, 34, 39, 50, 52, 57, 67, 69, 93, 100, 103], [0, 4, 12, 16, 17], [0, 5, 12, 22, 33, 43, 49, 55, 60, 61], [0, 8, 19, 24, 35], [0, 32, 44, 56, 75, 93], [0], [0], [0], [0], [0, 33, 42, 58, 71, 77], [0], [0, 5, 12, 21, 32, 38], [0], [0]]
def sm_bp_1 : List (List Nat) := [[0, 18, 20, 31, 39], [0, 8, 17, 18, 23, 32], [0, 18, 25, 32, 39, 41, 56, 64, 72, 90, 93, 104], [0, 9, 13, 14], [0, 20, 28], [0, 2, 10, 21, 23, 29], [0, 8, 10, 19, 21], [0, 18, 22, 27, 32, 34, 38, 43, 50, 52, 67, 71, 78, 90, 100, 102], [0, 32, 40, 44, 45, 46, 51, 57], [0, 17, 21, 22], [0, 27, 36, 37], [0, 5, 9, 10], [0, 17, 21, 22], [0, 25, 33, 37, 38, 45, 55, 63, 67, 68], [0, 17, 19, 35, 43, 47, 48], [0, 13, 29, 33, 34], [0, 7, 11, 12], [0, 16, 24, 28, 29], [0], [0, 25, 29, 33], [0, 25, 29, 33], [0], [0], [0, 25, 29, 34, 46, 48, 66, 70, 79], [0, 25, 29, 36], [0, 27, 31, 40], [0, 18, 20, 33, 37, 42, 54, 58, 60], [0, 13, 21, 32], [0, 25, 29, 34, 41, 51, 59, 63, 64], [0, 25, 29, 34, 43, 47, 48], [0, 14, 19, 30, 32, 48, 57, 69, 78, 84], [0, 4, 11, 15], [0, 14, 16, 24, 32], [0, 12, 23], [0, 9, 17, 20, 29, 39, 51, 55, 56, 68, 80, 84, 85, 92, 97, 100, 105, 125, 130, 150, 156, 162],
  [0, 9, 20, 37, 41, 42], [0, 8, 18, 29, 33, 34], [0, 9, 20, 37, 41, 42], [0, 2, 8, 21, 27], [0, 9, 60]]
def sm_bp_2 : List (List Nat) := [[0, 2, 8, 21, 27], [0, 14, 18, 23, 25, 33, 41, 52, 61, 92, 105, 118, 130, 134, 135, 136, 146], [0, 4, 12, 16, 17], [0, 14, 22, 24, 35, 46, 87, 91, 92, 99, 103, 104], [0, 5, 16, 43], [0, 16, 21, 22], [0, 14, 16, 24, 32, 43, 54, 63], [0, 5, 8, 10, 20, 23, 34, 50, 58, 64, 70], [0, 14, 21, 23, 40, 49, 65, 73], [0, 5, 12, 16, 17], [0, 30, 41, 62, 64, 85], [0, 20, 22, 52, 59, 69, 96, 109, 113, 114, 121, 131, 144, 150, 160, 164, 165], [0, 11, 12, 26, 31, 61, 105], [0, 6, 12, 16, 20, 25], [0, 3, 10, 30, 35, 39, 40, 41, 47], [0, 2, 13, 15, 19, 41, 61, 74], [0, 14, 74], [0, 23, 27, 28, 36, 52, 62, 66, 67], [0], [0, 7, 16, 18, 24, 31, 45, 52, 78, 85, 96, 99, 103, 109], [0, 17, 39], [0, 3, 17, 44], [0, 79, 87, 117], [0, 2, 10, 21, 23, 29], [0, 2, 13, 15, 28, 73, 79], [0], [0, 14, 16, 23, 26], [0, 14, 19, 26, 33, 35, 47, 56, 72, 80, 113, 119, 125, 140, 152, 169, 174, 176], [0, 5, 27], [0, 2, 13, 35],
  [0, 11, 19, 23, 31, 33], [0, 11, 20, 24, 30], [0, 14, 18, 24, 26, 34, 42, 104, 109, 114, 120, 126, 131, 139, 146, 150, 151, 152, 157, 167, 178, 190, 191, 196], [0, 4, 12, 31], [0, 5, 9, 10], [0, 4, 12, 14, 24, 35, 38, 44, 50], [0, 4, 12, 15, 26, 36, 47, 50, 56, 62], [0, 11, 22, 25, 34, 45, 48], [0, 12, 20, 22, 32, 43, 50, 56, 62], [0, 9, 23, 25]]
def sm_bp_3 : List (List Nat) := [[0, 4, 9, 15, 86], [0, 7, 11, 13, 16, 24, 41], [0, 2, 10, 12, 20, 29, 52, 54, 60, 66], [0, 4, 12, 14, 24, 34, 45, 48, 54, 60], [0, 14, 22, 27, 34, 39, 46, 48, 61, 68, 105, 115, 161], [0, 7, 9, 17, 19, 26, 28, 37, 39, 48, 58, 60, 71, 84, 88, 89], [0, 5, 32], [0, 2, 12, 22, 38, 48, 64, 70], [0], [0, 17, 19], [0, 7, 9, 21, 33, 42, 54, 58, 60], [0, 2, 10, 19, 21, 27], [0, 2, 10, 23, 25, 31], [0, 10, 18, 20, 28, 76, 88, 95, 105, 119, 125, 131], [0], [0, 17, 19], [0, 10, 18, 20, 28, 76, 86, 100, 106, 112], [0, 4, 15, 20, 28], [0], [0, 10, 14, 18], [0], [0, 5, 10, 14, 23], [0, 7, 19, 21], [0, 6, 14, 31, 42, 68, 74], [0, 36, 44, 52, 57, 62, 70], [0, 4, 12, 21, 24, 30], [0, 4, 9, 21, 24, 30], [0], [0, 12, 18, 24, 26, 30, 34, 40, 78, 85, 104, 107, 114, 159], [0], [0, 5, 10, 14, 15], [0], [0], [0, 12, 17, 19, 28, 34, 50, 56, 69, 75, 81, 87], [0], [0, 12, 23, 25, 39, 46, 66, 69],
  [0, 9, 11, 27, 29, 38, 42, 58, 62, 63], [0], [0, 12, 14, 28, 35, 63, 68, 75, 79, 81], [0, 12, 14, 28, 35, 40, 52, 55, 67, 70, 83, 93, 100, 107, 119, 128, 137, 141, 142]]
def sm_bp_4 : List (List Nat) := [[0, 12, 14, 28, 37, 47], [0, 15, 20, 21, 31, 36, 37], [0, 14, 19, 27, 32, 40, 45, 55, 57, 63, 72, 73, 79, 88, 89, 101, 108, 111], [0], [0, 17, 23, 28, 47], [0, 4, 10, 20], [0], [0, 13, 15, 24, 30], [0, 13, 22, 34, 36, 45, 55, 65, 69, 70, 74, 87, 98, 101, 106, 137], [0, 6, 17, 34, 39, 41, 49], [0, 9, 14, 18, 19, 29, 38, 43, 48, 57, 59, 64, 73, 81, 87, 88, 98, 106, 114], [0, 17, 24, 31, 73, 83, 91, 102, 125, 136, 163, 187, 190, 197, 201, 202], [0], [0, 12, 18, 24, 39, 43, 44, 50, 54, 55, 58, 62, 63, 69, 74, 81, 86, 87, 97, 101, 108, 114, 119, 130, 142, 150, 169, 175, 181, 201, 206, 222, 223, 226], [0], [0], [0, 5, 17, 27, 35, 51, 57, 69, 76, 80, 85, 94, 98, 101], [0, 16, 20, 21, 26, 33, 38, 54, 74, 78, 79, 87], [0, 5, 29, 35, 40, 45, 54, 76, 80, 81, 86, 93, 95, 101, 107, 111, 115, 116, 124, 131, 136, 150, 159, 168, 169, 172], [0, 13, 15, 26, 33, 41], [0],
  [0, 12, 17, 25, 27, 36, 42, 46, 55, 61, 67, 77, 84], [0, 12, 14, 23, 29], [0, 9, 19, 22, 33, 60, 72, 77, 89, 95, 100, 104, 105, 113, 119], [0, 12, 19, 25, 26, 31, 35, 38, 46, 50, 51], [0, 10, 17, 23, 24, 29, 33, 36, 42, 44, 49, 63, 67, 71, 85, 89, 90], [0, 10, 26, 30, 31], [0, 16, 32, 36, 37], [0, 3, 10, 19, 20, 25, 29, 35, 43, 49], [0, 12, 21, 23, 32, 38, 57, 63, 67, 76, 81, 90, 95, 104, 108, 112, 117, 126, 132], [0, 12, 14, 23, 29, 48, 54, 62, 73, 97, 102, 106, 107, 126, 131, 135, 136], [0, 9, 30, 48], [0, 12, 14, 23, 29, 48, 62, 68, 71, 76, 87, 90, 101, 118, 127, 133, 139], [0, 12, 23, 25, 39, 45, 54, 63, 71], [0, 7, 13, 41, 46, 55, 81, 93, 120, 126, 129, 138, 161, 170, 176, 182, 184, 200, 220, 229, 233, 238, 277, 309, 329], [0, 11, 18, 28, 30, 39, 47, 58, 60, 73, 84, 95, 97, 109, 118], [0, 13, 17, 18, 23, 34, 39, 68, 79, 83, 84, 92], [0, 8, 13, 32, 51, 72, 130],
  [0, 3, 10, 25, 31, 38, 53, 57, 58], [0, 15, 19, 20, 31, 38, 43, 68]]
def sm_bp_5 : List (List Nat) := [[0, 9, 15, 47, 61, 67, 72, 78, 86, 113, 122, 128, 136, 142, 149, 209, 219, 228, 231], [0, 5, 13, 15, 25, 66, 76], [0, 37, 48, 63, 86, 92], [0, 6, 17, 22, 39, 43, 44, 52], [0, 32, 43, 72, 99, 105, 134, 143, 145], [0, 16, 18, 25, 37, 39], [0, 12, 23, 34, 36, 45, 51, 60, 69, 100, 105, 109], [0, 19, 33, 47, 48], [0, 9, 16, 21, 28, 33, 40, 45, 52, 53], [0, 12, 22, 24, 33, 39, 52, 63, 66, 78, 105, 109, 110, 119, 125, 180, 182, 189, 196, 203, 209, 214, 222, 226, 227, 228, 231, 238, 246, 257, 258, 265], [0, 5, 12, 31, 35, 45, 49, 50, 58], [0, 4, 12, 15, 26, 38, 42, 43, 51, 57], [0, 4, 10, 31, 35, 36, 47, 51, 52, 60, 62, 68, 77, 83, 84, 92, 99, 100, 113, 117, 118, 131, 135, 136, 144], [0, 19, 24, 30, 32, 35, 42, 60, 64, 71, 78], [0, 4, 12, 16, 26, 35, 36, 43], [0, 4, 14, 17, 28, 32, 69, 73, 74, 81, 87], [0, 12, 20, 31, 42, 44, 56, 63, 69, 75, 79, 83, 92, 99, 103, 108, 133, 140, 172],
  [0, 13, 18, 26, 33, 36, 59, 64, 66, 70, 75, 84, 94, 98, 99], [0, 9, 13, 29, 33, 34], [0, 8, 15, 88, 98, 120, 123, 130, 144, 165], [0, 2, 8, 65], [0], [0, 12, 14, 24, 26, 54, 60, 63, 70, 124, 133, 137, 138, 149, 157, 175, 181, 187, 205, 212, 231], [0, 9, 15, 22, 33, 37, 47, 51, 52, 57, 73, 77, 78, 85, 89, 97, 101, 106, 107], [0, 2, 8, 50], [0, 12, 14, 24, 26, 46, 57, 60, 66, 128, 136, 154, 160, 166], [0, 9, 16, 18, 30, 49, 51], [0], [0, 9, 18, 19], [0, 7, 16, 18, 25, 36, 54, 66, 92, 98], [0, 4, 12, 18, 27, 31, 32, 40, 42, 47, 53, 62, 66, 67, 75, 79, 86, 91, 96, 100, 105, 112, 117, 124, 125],
  [0, 18, 27, 172, 213, 215, 256, 258, 309, 311, 335, 339, 340, 367, 371, 372, 378, 380, 404, 408, 409, 417, 421, 422, 449, 453, 454, 462, 466, 467, 473, 475, 516, 518, 599, 601, 622, 624, 695, 697, 768, 770, 802, 804, 818, 822, 823, 845, 849, 850, 861, 863, 884, 886, 927, 929, 961, 963, 1004, 1006, 1037, 1039, 1060, 1062, 1103, 1105, 1137, 1139, 1160, 1162, 1193, 1195, 1292, 1294, 1305, 1307, 1328, 1330, 1351, 1353, 1374, 1376, 1387, 1389, 1410, 1412, 1434, 1436, 1457, 1459, 1465]]
def sm_bp : List (List Nat) := sm_bp_0 ++ (sm_bp_1 ++ (sm_bp_2 ++ (sm_bp_3 ++ (sm_bp_4 ++ (sm_bp_5)))))
def sm_LF : List (Nat × Nat × Nat × String × Nat × Nat) := [(0, 12, 3, "WordGrid", 270, 99999), (0, 21, 7, "WordGrid", 271, 99999), (0, 27, 11, "WordGrid", 272, 99999), (0, 34, 15, "WordGrid", 273, 99999), (0, 43, 19, "WordGrid", 274, 99999), (0, 47, 23, "WordGrid", 275, 99999), (0, 50, 27, "WordGrid", 276, 99999), (0, 54, 39, "WordGrid", 279, 99999), (0, 74, 46, "WordGrid", 281, 99999), (0, 81, 2567, "WordGrid$Grid", 236, 99999), (0, 95, 2580, "WordGrid$Grid", 243, 99999), (0, 99, 2584, "WordGrid$Grid", 246, 99999), (0, 106, 2563, "WordGrid$Grid", 234, 99999), (0, 120, 1036, "WordGrid$Shelf", 120, 99999), (0, 160, 1031, "WordGrid$Shelf", 117, 99999), (0, 172, 3596, "WordGrid$Plain", 423, 99999), (0, 195, 6144, "WordGrid$WordList", 425, 99999), (0, 202, 2578, "WordGrid$Grid", 240, 99999), (0, 209, 2592, "WordGrid$Grid", 250, 99999), (0, 212, 2588, "WordGrid$Grid", 248, 99999), (0, 218, 1552, "WordGrid$EntryTable", 150, 99999),
  (0, 222, 1539, "WordGrid$EntryTable", 139, 99999), (0, 225, 1543, "WordGrid$EntryTable", 142, 99999), (0, 229, 1547, "WordGrid$EntryTable", 145, 99999), (0, 232, 1551, "WordGrid$EntryTable", 147, 99999), (0, 257, 40, "WordGrid", 280, 99999), (0, 277, 28, "WordGrid", 277, 99999), (0, 280, 2059, "WordGrid$Search", 174, 99999), (0, 281, 32, "WordGrid", 278, 99999), (0, 291, 2108, "WordGrid$Search", 189, 99999), (0, 294, 2104, "WordGrid$Search", 187, 99999), (0, 297, 48, "WordGrid", 282, 99999), (0, 321, 52, "WordGrid", 283, 99999), (0, 354, 524, "WordGrid$Notes", 88, 99999), (0, 359, 532, "WordGrid$Notes", 92, 99999), (0, 362, 519, "WordGrid$Notes", 85, 99999), (0, 375, 528, "WordGrid$Notes", 90, 99999), (1, 9, 515, "WordGrid$Notes", 83, 99999), (1, 15, 519, "WordGrid$Notes", 84, 99999), (1, 18, 532, "WordGrid$Notes", 91, 99999), (1, 26, 520, "WordGrid$Notes", 86, 99999),
  (1, 29, 524, "WordGrid$Notes", 87, 99999), (1, 38, 528, "WordGrid$Notes", 89, 99999), (2, 11, 1031, "WordGrid$Shelf", 116, 99999), (2, 17, 1035, "WordGrid$Shelf", 118, 99999), (2, 21, 1027, "WordGrid$Shelf", 115, 99999), (2, 25, 1036, "WordGrid$Shelf", 119, 99999), (3, 9, 1539, "WordGrid$EntryTable", 138, 99999), (3, 15, 1543, "WordGrid$EntryTable", 140, 99999), (3, 19, 1547, "WordGrid$EntryTable", 143, 99999), (3, 22, 1551, "WordGrid$EntryTable", 146, 99999), (3, 25, 1552, "WordGrid$EntryTable", 148, 99999), (3, 29, 2580, "WordGrid$Grid", 242, 99999), (3, 34, 2584, "WordGrid$Grid", 245, 99999), (4, 12, 2059, "WordGrid$Search", 173, 99999), (4, 18, 2063, "WordGrid$Search", 175, 99999), (4, 22, 2067, "WordGrid$Search", 176, 99999), (4, 26, 2071, "WordGrid$Search", 177, 99999), (4, 29, 2075, "WordGrid$Search", 178, 99999), (4, 32, 2079, "WordGrid$Search", 179, 99999),
  (4, 35, 2083, "WordGrid$Search", 180, 99999), (4, 38, 2087, "WordGrid$Search", 181, 99999), (4, 41, 2091, "WordGrid$Search", 182, 99999), (4, 44, 2095, "WordGrid$Search", 183, 99999), (4, 47, 2051, "WordGrid$Search", 171, 99999), (4, 51, 2055, "WordGrid$Search", 172, 99999), (4, 59, 2563, "WordGrid$Grid", 233, 99999), (4, 68, 2104, "WordGrid$Search", 186, 99999), (4, 72, 1552, "WordGrid$EntryTable", 149, 99999), (4, 75, 1543, "WordGrid$EntryTable", 141, 99999), (4, 90, 2096, "WordGrid$Search", 184, 99999), (4, 93, 2102, "WordGrid$Search", 185, 99999), (4, 133, 1547, "WordGrid$EntryTable", 144, 99999), (4, 152, 2108, "WordGrid$Search", 188, 99999), (4, 155, 2112, "WordGrid$Search", 190, 99999), (5, 9, 2563, "WordGrid$Grid", 232, 99999), (5, 15, 2567, "WordGrid$Grid", 235, 99999), (5, 18, 2571, "WordGrid$Grid", 237, 99999), (5, 21, 2575, "WordGrid$Grid", 238, 99999),
  (5, 24, 2588, "WordGrid$Grid", 247, 99999), (5, 28, 2592, "WordGrid$Grid", 249, 99999), (5, 31, 2578, "WordGrid$Grid", 239, 99999), (5, 35, 2580, "WordGrid$Grid", 241, 99999), (5, 38, 2584, "WordGrid$Grid", 244, 99999), (6, 7, 3075, "WordGridModel", 998, 99999), (6, 13, 3079, "WordGridModel", 999, 99999), (6, 17, 3083, "WordGridModel", 1000, 99999), (6, 20, 3087, "WordGridModel", 1001, 99999), (6, 23, 3091, "WordGridModel", 1002, 99999), (6, 26, 3095, "WordGridModel", 1003, 99999), (6, 29, 3099, "WordGridModel", 1004, 99999), (6, 32, 3103, "WordGridModel", 1005, 99999), (6, 35, 3107, "WordGridModel", 1006, 99999), (6, 38, 3115, "WordGridModel", 1008, 99999), (6, 41, 3119, "WordGridModel", 1009, 99999), (6, 44, 3123, "WordGridModel", 1010, 99999), (6, 47, 3127, "WordGridModel", 1011, 99999), (6, 51, 3131, "WordGridModel", 1012, 99999), (6, 54, 3135, "WordGridModel", 1013, 99999),
  (6, 57, 3139, "WordGridModel", 1014, 99999), (6, 60, 3143, "WordGridModel", 1015, 99999), (6, 63, 3147, "WordGridModel", 1016, 99999), (6, 66, 3155, "WordGridModel", 1018, 99999), (6, 69, 3159, "WordGridModel", 1019, 99999), (6, 72, 3175, "WordGridModel", 1023, 99999), (6, 75, 3179, "WordGridModel", 1024, 99999), (6, 78, 3183, "WordGridModel", 1025, 99999), (6, 81, 3187, "WordGridModel", 1026, 99999), (6, 84, 3191, "WordGridModel", 1027, 99999), (6, 87, 3207, "WordGridModel", 1031, 99999), (6, 90, 3211, "WordGridModel", 1032, 99999), (6, 93, 3215, "WordGridModel", 1033, 99999), (6, 96, 3219, "WordGridModel", 1034, 99999), (6, 99, 3223, "WordGridModel", 1035, 99999), (6, 102, 3235, "WordGridModel", 1038, 99999), (6, 105, 3239, "WordGridModel", 1039, 99999), (6, 108, 3243, "WordGridModel", 1040, 99999), (6, 111, 3247, "WordGridModel", 1041, 99999),
  (6, 114, 3251, "WordGridModel", 1042, 99999), (6, 117, 3255, "WordGridModel", 1043, 99999), (6, 120, 3259, "WordGridModel", 1044, 99999), (6, 123, 3263, "WordGridModel", 1045, 99999), (6, 126, 3267, "WordGridModel", 1046, 99999), (6, 129, 3271, "WordGridModel", 1047, 99999), (6, 132, 3275, "WordGridModel", 1048, 99999), (6, 135, 3279, "WordGridModel", 1049, 99999), (6, 138, 3283, "WordGridModel", 1050, 99999), (6, 141, 3303, "WordGridModel", 1055, 99999), (6, 144, 3315, "WordGridModel", 1058, 99999), (6, 147, 3323, "WordGridModel", 1060, 99999), (6, 150, 3327, "WordGridModel", 1061, 99999), (6, 153, 3331, "WordGridModel", 1062, 99999), (6, 156, 3108, "WordGridModel", 1007, 99999), (6, 164, 3148, "WordGridModel", 1017, 99999), (6, 211, 3160, "WordGridModel", 1020, 99999), (6, 214, 3168, "WordGridModel", 1022, 99999), (6, 217, 3193, "WordGridModel", 1028, 99999),
  (6, 229, 3196, "WordGridModel", 1029, 99999), (6, 268, 3200, "WordGridModel", 1030, 99999), (6, 284, 3226, "WordGridModel", 1036, 99999), (6, 302, 3304, "WordGridModel", 1056, 99999), (6, 317, 3164, "WordGridModel", 1021, 99999), (6, 320, 3284, "WordGridModel", 1051, 99999), (6, 323, 3288, "WordGridModel", 1052, 99999), (6, 326, 3292, "WordGridModel", 1053, 99999), (6, 329, 3296, "WordGridModel", 1054, 99999), (6, 335, 3228, "WordGridModel", 1037, 99999), (6, 345, 3308, "WordGridModel", 1057, 99999), (6, 373, 3316, "WordGridModel", 1059, 99999), (7, 9, 3595, "WordGrid$Plain", 421, 99999), (7, 15, 3596, "WordGrid$Plain", 422, 99999), (7, 23, 6151, "WordGrid$Plain", 435, 436), (8, 9, 4115, "WordGrid$Scored", 420, 99999), (8, 23, 6151, "WordGrid$Scored", 433, 434), (9, 9, 6151, "WordGrid$Banned", 427, 428), (10, 9, 5131, "WordGrid$Pattern", 473, 99999),
  (10, 15, 5132, "WordGrid$Pattern", 474, 99999), (10, 23, 5136, "WordGrid$Pattern", 475, 99999), (10, 29, 5141, "WordGrid$Pattern", 476, 99999), (10, 37, 5145, "WordGrid$Pattern", 477, 99999), (10, 40, 6151, "WordGrid$Pattern", 431, 432), (11, 9, 5643, "WordGrid$Joined", 497, 99999), (11, 15, 5644, "WordGrid$Joined", 498, 99999), (11, 19, 5648, "WordGrid$Joined", 499, 99999), (11, 32, 6151, "WordGrid$Joined", 429, 430), (12, 7, 6144, "WordGrid$WordList", 424, 99999), (12, 13, 6151, "WordGrid$WordList", 426, 99999)]
def sm_LS : List (Nat × Nat × Nat × Nat × Nat) := [(0, 62, 9, 0, 321), (0, 112, 28, 0, 396), (0, 164, 43, 0, 536), (0, 175, 48, 0, 560), (0, 239, 37, 0, 729), (0, 250, 89, 0, 742), (0, 324, 125, 0, 901), (0, 380, 36, 0, 472), (1, 32, 51, 0, 573), (1, 41, 139, 0, 959), (3, 44, 78, 0, 699), (3, 52, 80, 0, 706), (3, 59, 51, 0, 888), (4, 115, 37, 1, 761), (4, 129, 28, 1, 764), (4, 144, 93, 0, 770), (4, 148, 94, 1, 773), (4, 177, 36, 1, 805), (5, 41, 13, 0, 336), (5, 67, 114, 0, 855), (6, 160, 150, 0, 1201), (6, 175, 149, 0, 1198), (6, 186, 157, 0, 1228), (6, 192, 165, 0, 1258), (6, 196, 166, 0, 1261), (6, 203, 164, 0, 1255), (6, 288, 198, 0, 1388), (10, 19, 28, 1, 465), (10, 26, 36, 1, 466), (10, 33, 37, 1, 469)]
def sm_LI : List (Nat × Nat × Nat × Nat × Nat) := [(0, 11, 2, 1, 79), (0, 18, 3, 0, 109), (0, 33, 4, 1, 134), (0, 40, 5, 0, 165), (0, 58, 6, 1, 228), (0, 133, 31, 0, 410), (0, 136, 34, 0, 450), (0, 139, 35, 0, 461), (0, 144, 38, 0, 493), (0, 149, 32, 0, 511), (4, 11, 4, 1, 170), (7, 3, 33, 0, 416), (8, 3, 32, 0, 413), (9, 3, 32, 0, 453), (10, 3, 33, 0, 464), (11, 3, 33, 0, 496), (13, 9, 0, 0, 71), (13, 12, 147, 0, 994)]
def sm_LV : List (Nat × Nat × Nat × Nat × Nat × Nat) := [(0, 59, 1, 8, 317, 319), (0, 66, 1, 10, 324, 326), (0, 70, 5, 12, 332, 334), (0, 78, 5, 15, 343, 345), (0, 84, 5, 18, 355, 357), (0, 88, 5, 20, 364, 366), (0, 91, 5, 21, 368, 370), (0, 102, 5, 24, 380, 382), (0, 109, 2, 27, 392, 394), (0, 116, 2, 29, 400, 402), (0, 123, 0, 30, 404, 0), (0, 127, 2, 39, 517, 519), (0, 152, 2, 41, 525, 527), (0, 156, 1, 11, 531, 330), (0, 168, 7, 46, 539, 541), (0, 179, 1, 56, 644, 597), (0, 205, 5, 71, 670, 672), (0, 215, 0, 73, 678, 1), (0, 219, 3, 82, 713, 715), (0, 235, 3, 84, 721, 723), (0, 243, 3, 87, 734, 736), (0, 246, 3, 74, 682, 684), (0, 253, 4, 90, 745, 747), (0, 260, 0, 97, 784, 2), (0, 263, 4, 98, 788, 790), (0, 267, 4, 99, 792, 794), (0, 270, 4, 104, 815, 817), (0, 273, 0, 105, 819, 3), (0, 284, 0, 108, 831, 4), (0, 287, 4, 109, 835, 837), (0, 300, 5, 113, 851, 853), (0, 303, 5, 115, 858, 860), (0, 306, 5, 116, 862, 864),
  (0, 309, 5, 118, 872, 874), (0, 312, 3, 121, 884, 886), (0, 315, 5, 122, 889, 891), (0, 318, 5, 123, 893, 895), (0, 328, 5, 126, 906, 908), (0, 332, 5, 16, 904, 349), (0, 335, 5, 19, 905, 362), (0, 339, 0, 130, 923, 5), (0, 342, 5, 133, 935, 937), (0, 345, 5, 136, 947, 949), (0, 348, 5, 131, 927, 929), (0, 351, 5, 132, 931, 933), (0, 356, 1, 138, 955, 957), (0, 365, 5, 143, 974, 976), (0, 369, 2, 145, 984, 986), (0, 372, 0, 146, 988, 6), (1, 22, 1, 11, 328, 330), (2, 29, 2, 27, 529, 394), (2, 33, 1, 10, 530, 326), (3, 37, 5, 75, 686, 688), (3, 41, 5, 77, 695, 697), (3, 48, 3, 79, 702, 704), (3, 55, 3, 85, 725, 727), (4, 55, 3, 74, 749, 684), (4, 79, 5, 71, 753, 672), (4, 83, 4, 91, 754, 756), (4, 87, 4, 95, 776, 778), (4, 97, 4, 96, 780, 782), (4, 100, 2, 41, 758, 527), (4, 111, 3, 84, 760, 723), (4, 119, 1, 56, 762, 597), (4, 140, 4, 92, 766, 768), (4, 158, 4, 100, 796, 798),
  (4, 162, 4, 102, 807, 809), (4, 165, 4, 103, 811, 813), (4, 169, 4, 101, 800, 802), (4, 173, 3, 85, 804, 727), (5, 47, 5, 16, 347, 349), (5, 51, 5, 15, 359, 345), (5, 55, 5, 19, 360, 362), (5, 59, 5, 20, 694, 366), (5, 63, 5, 76, 690, 692), (5, 72, 5, 117, 866, 868), (5, 75, 5, 75, 870, 688), (5, 78, 5, 77, 871, 697), (5, 81, 5, 119, 876, 878), (5, 85, 5, 120, 880, 882), (5, 94, 5, 127, 911, 913), (5, 98, 5, 134, 939, 941), (6, 167, 6, 151, 1204, 7), (6, 171, 6, 154, 1216, 9), (6, 179, 6, 152, 1208, 8), (6, 182, 6, 156, 1224, 10), (6, 189, 6, 161, 1243, 11), (6, 200, 6, 163, 1251, 12), (6, 207, 6, 169, 1272, 13), (6, 221, 6, 174, 1292, 17), (6, 225, 6, 175, 1296, 18), (6, 232, 6, 177, 1304, 20), (6, 236, 6, 172, 1284, 15), (6, 240, 6, 173, 1288, 16), (6, 243, 6, 176, 1300, 19), (6, 247, 6, 178, 1308, 21), (6, 250, 6, 171, 1280, 14), (6, 254, 6, 180, 1316, 22), (6, 258, 6, 187, 1344, 27),
  (6, 261, 6, 186, 1340, 26), (6, 264, 6, 185, 1336, 25), (6, 271, 6, 184, 1332, 24), (6, 274, 6, 188, 1348, 28), (6, 278, 6, 183, 1328, 23), (6, 281, 6, 191, 1360, 29), (6, 292, 6, 196, 1380, 32), (6, 295, 6, 197, 1384, 33), (6, 299, 6, 195, 1376, 31), (6, 305, 6, 201, 1399, 36), (6, 308, 6, 202, 1403, 37), (6, 311, 6, 203, 1407, 38), (6, 314, 6, 204, 1411, 39), (6, 332, 6, 200, 1395, 35), (6, 338, 6, 194, 1372, 30), (6, 342, 6, 199, 1391, 34), (6, 348, 6, 213, 1447, 43), (6, 351, 6, 211, 1439, 41), (6, 354, 6, 210, 1435, 40), (6, 357, 6, 212, 1443, 42), (6, 360, 6, 214, 1451, 44), (6, 364, 6, 215, 1455, 45), (6, 367, 6, 218, 1467, 47), (6, 370, 6, 220, 1475, 49), (6, 376, 6, 217, 1463, 46), (6, 380, 6, 219, 1471, 48), (6, 384, 6, 223, 1487, 50), (6, 387, 6, 224, 1491, 51), (7, 19, 7, 45, 555, 1524), (7, 27, 1, 50, 579, 571), (7, 33, 1, 10, 655, 326), (8, 27, 1, 50, 639, 571),
  (9, 15, 1, 50, 569, 571), (10, 44, 1, 50, 588, 571), (10, 50, 10, 55, 589, 591), (10, 54, 2, 41, 593, 527), (11, 22, 2, 41, 584, 527), (11, 36, 1, 50, 583, 571), (11, 42, 1, 56, 595, 597), (11, 46, 11, 57, 599, 601), (13, 13, 0, 7, 313, 315), (13, 17, 6, 148, 1194, 1196), (13, 18, 0, 14, 339, 341), (13, 21, 6, 153, 1212, 1214), (13, 22, 0, 17, 351, 353), (13, 26, 6, 155, 1220, 1222), (13, 27, 0, 22, 372, 374), (13, 31, 6, 158, 1231, 1233), (13, 32, 0, 23, 376, 378), (13, 36, 6, 159, 1235, 1237), (13, 37, 0, 25, 384, 386), (13, 40, 6, 160, 1239, 1241), (13, 43, 0, 26, 388, 390), (13, 47, 6, 162, 1247, 1249), (13, 48, 0, 40, 521, 523), (13, 52, 6, 167, 1264, 1266), (13, 53, 0, 42, 532, 534), (13, 57, 6, 168, 1268, 1270), (13, 58, 0, 47, 556, 558), (13, 62, 6, 170, 1276, 1278), (13, 63, 0, 66, 645, 647), (13, 67, 6, 179, 1312, 1314), (13, 68, 0, 70, 666, 668), (13, 72, 6, 181, 1320, 1322),
  (13, 73, 0, 72, 674, 676), (13, 76, 6, 182, 1324, 1326), (13, 77, 0, 81, 709, 711), (13, 80, 6, 189, 1352, 1354), (13, 81, 0, 83, 717, 719), (13, 84, 6, 190, 1356, 1358), (13, 85, 0, 86, 730, 732), (13, 88, 6, 192, 1364, 1366), (13, 89, 0, 88, 738, 740), (13, 93, 6, 193, 1368, 1370), (13, 94, 0, 106, 823, 825), (13, 97, 6, 205, 1415, 1417), (13, 98, 0, 107, 827, 829), (13, 101, 6, 206, 1419, 1421), (13, 102, 0, 110, 839, 841), (13, 105, 6, 207, 1423, 1425), (13, 106, 0, 111, 843, 845), (13, 109, 6, 208, 1427, 1429), (13, 110, 0, 112, 847, 849), (13, 113, 6, 209, 1431, 1433), (13, 114, 0, 124, 897, 899), (13, 118, 6, 216, 1459, 1461), (13, 119, 0, 128, 915, 917), (13, 123, 6, 221, 1479, 1481), (13, 124, 0, 129, 919, 921), (13, 127, 6, 222, 1483, 1485), (13, 128, 0, 135, 943, 945), (13, 131, 6, 225, 1495, 1497), (13, 132, 0, 137, 951, 953), (13, 135, 6, 226, 1499, 1501),
  (13, 136, 0, 140, 962, 964), (13, 139, 6, 227, 1503, 1505), (13, 140, 0, 141, 966, 968), (13, 143, 6, 228, 1507, 1509), (13, 144, 0, 142, 970, 972), (13, 148, 6, 229, 1511, 1513), (13, 149, 0, 144, 980, 982), (13, 152, 6, 230, 1517, 1519)]
def sm_LU : List (Nat × Nat × Nat × Nat × MethodName × String × Nat × Nat × Nat × Nat × Nat) := [(0, 168, 8, 44, ⟨"WordGrid$Plain", "take", "(JI)Z"⟩, "WordGrid$Plain", 539, 542, 544, 0, 46), (0, 168, 9, 46, ⟨"WordGrid$Plain", "take", "(JI)Z"⟩, "WordGrid$Plain", 539, 542, 543, 0, 46), (0, 183, 7, 52, ⟨"WordGrid$WordList", "allows", "(J)Z"⟩, "WordGrid$WordList", 563, 565, 604, 1, 564), (0, 183, 8, 52, ⟨"WordGrid$WordList", "allows", "(J)Z"⟩, "WordGrid$WordList", 563, 565, 605, 1, 564), (0, 183, 9, 49, ⟨"WordGrid$WordList", "allows", "(J)Z"⟩, "WordGrid$WordList", 563, 565, 566, 1, 564), (0, 183, 10, 54, ⟨"WordGrid$WordList", "allows", "(J)Z"⟩, "WordGrid$WordList", 563, 565, 603, 1, 564), (0, 183, 11, 53, ⟨"WordGrid$WordList", "allows", "(J)Z"⟩, "WordGrid$WordList", 563, 565, 580, 1, 564), (0, 188, 7, 61, ⟨"WordGrid$WordList", "many", "()I"⟩, "WordGrid$WordList", 606, 608, 622, 1, 607), (0, 188, 8, 61, ⟨"WordGrid$WordList", "many", "()I"⟩, "WordGrid$WordList", 606, 608, 623, 1, 607),
  (0, 188, 9, 58, ⟨"WordGrid$WordList", "many", "()I"⟩, "WordGrid$WordList", 606, 608, 609, 1, 607), (0, 188, 10, 60, ⟨"WordGrid$WordList", "many", "()I"⟩, "WordGrid$WordList", 606, 608, 621, 1, 607), (0, 188, 11, 59, ⟨"WordGrid$WordList", "many", "()I"⟩, "WordGrid$WordList", 606, 608, 612, 1, 607), (0, 191, 7, 62, ⟨"WordGrid$WordList", "scoreOf", "(J)I"⟩, "WordGrid$WordList", 624, 626, 642, 1, 625), (0, 191, 8, 65, ⟨"WordGrid$WordList", "scoreOf", "(J)I"⟩, "WordGrid$WordList", 624, 626, 643, 1, 625), (0, 191, 9, 62, ⟨"WordGrid$WordList", "scoreOf", "(J)I"⟩, "WordGrid$WordList", 624, 626, 627, 1, 625), (0, 191, 10, 64, ⟨"WordGrid$WordList", "scoreOf", "(J)I"⟩, "WordGrid$WordList", 624, 626, 641, 1, 625), (0, 191, 11, 63, ⟨"WordGrid$WordList", "scoreOf", "(J)I"⟩, "WordGrid$WordList", 624, 626, 630, 1, 625),
  (0, 198, 7, 67, ⟨"WordGrid$WordList", "wordNumber", "(I)J"⟩, "WordGrid$WordList", 649, 651, 664, 1, 650), (0, 198, 8, 67, ⟨"WordGrid$WordList", "wordNumber", "(I)J"⟩, "WordGrid$WordList", 649, 651, 665, 1, 650), (0, 198, 9, 67, ⟨"WordGrid$WordList", "wordNumber", "(I)J"⟩, "WordGrid$WordList", 649, 651, 652, 1, 650), (0, 198, 10, 69, ⟨"WordGrid$WordList", "wordNumber", "(I)J"⟩, "WordGrid$WordList", 649, 651, 663, 1, 650), (0, 198, 11, 68, ⟨"WordGrid$WordList", "wordNumber", "(I)J"⟩, "WordGrid$WordList", 649, 651, 656, 1, 650), (4, 106, 7, 61, ⟨"WordGrid$WordList", "many", "()I"⟩, "WordGrid$WordList", 759, 608, 622, 1, 607), (4, 106, 8, 61, ⟨"WordGrid$WordList", "many", "()I"⟩, "WordGrid$WordList", 759, 608, 623, 1, 607), (4, 106, 9, 58, ⟨"WordGrid$WordList", "many", "()I"⟩, "WordGrid$WordList", 759, 608, 609, 1, 607),
  (4, 106, 10, 60, ⟨"WordGrid$WordList", "many", "()I"⟩, "WordGrid$WordList", 759, 608, 621, 1, 607), (4, 106, 11, 59, ⟨"WordGrid$WordList", "many", "()I"⟩, "WordGrid$WordList", 759, 608, 612, 1, 607), (4, 125, 7, 67, ⟨"WordGrid$WordList", "wordNumber", "(I)J"⟩, "WordGrid$WordList", 763, 651, 664, 1, 650), (4, 125, 8, 67, ⟨"WordGrid$WordList", "wordNumber", "(I)J"⟩, "WordGrid$WordList", 763, 651, 665, 1, 650), (4, 125, 9, 67, ⟨"WordGrid$WordList", "wordNumber", "(I)J"⟩, "WordGrid$WordList", 763, 651, 652, 1, 650), (4, 125, 10, 69, ⟨"WordGrid$WordList", "wordNumber", "(I)J"⟩, "WordGrid$WordList", 763, 651, 663, 1, 650), (4, 125, 11, 68, ⟨"WordGrid$WordList", "wordNumber", "(I)J"⟩, "WordGrid$WordList", 763, 651, 656, 1, 650), (4, 136, 7, 62, ⟨"WordGrid$WordList", "scoreOf", "(J)I"⟩, "WordGrid$WordList", 765, 626, 642, 1, 625),
  (4, 136, 8, 65, ⟨"WordGrid$WordList", "scoreOf", "(J)I"⟩, "WordGrid$WordList", 765, 626, 643, 1, 625), (4, 136, 9, 62, ⟨"WordGrid$WordList", "scoreOf", "(J)I"⟩, "WordGrid$WordList", 765, 626, 627, 1, 625), (4, 136, 10, 64, ⟨"WordGrid$WordList", "scoreOf", "(J)I"⟩, "WordGrid$WordList", 765, 626, 641, 1, 625), (4, 136, 11, 63, ⟨"WordGrid$WordList", "scoreOf", "(J)I"⟩, "WordGrid$WordList", 765, 626, 630, 1, 625), (7, 19, 8, 45, ⟨"WordGrid$Plain", "placeOf", "(J)I"⟩, "WordGrid$Plain", 555, 1522, 1525, 0, 45), (7, 19, 9, 45, ⟨"WordGrid$Plain", "placeOf", "(J)I"⟩, "WordGrid$Plain", 555, 1522, 1523, 0, 45), (8, 19, 8, 45, ⟨"WordGrid$Scored", "placeOf", "(J)I"⟩, "WordGrid$Plain", 548, 549, 551, 0, 45), (10, 60, 7, 52, ⟨"WordGrid$WordList", "allows", "(J)Z"⟩, "WordGrid$WordList", 594, 565, 604, 1, 564),
  (10, 60, 8, 52, ⟨"WordGrid$WordList", "allows", "(J)Z"⟩, "WordGrid$WordList", 594, 565, 605, 1, 564), (10, 60, 9, 49, ⟨"WordGrid$WordList", "allows", "(J)Z"⟩, "WordGrid$WordList", 594, 565, 566, 1, 564), (10, 60, 10, 54, ⟨"WordGrid$WordList", "allows", "(J)Z"⟩, "WordGrid$WordList", 594, 565, 603, 1, 564), (10, 60, 11, 53, ⟨"WordGrid$WordList", "allows", "(J)Z"⟩, "WordGrid$WordList", 594, 565, 580, 1, 564), (10, 63, 7, 61, ⟨"WordGrid$WordList", "many", "()I"⟩, "WordGrid$WordList", 618, 608, 622, 1, 607), (10, 63, 8, 61, ⟨"WordGrid$WordList", "many", "()I"⟩, "WordGrid$WordList", 618, 608, 623, 1, 607), (10, 63, 9, 58, ⟨"WordGrid$WordList", "many", "()I"⟩, "WordGrid$WordList", 618, 608, 609, 1, 607), (10, 63, 10, 60, ⟨"WordGrid$WordList", "many", "()I"⟩, "WordGrid$WordList", 618, 608, 621, 1, 607),
  (10, 63, 11, 59, ⟨"WordGrid$WordList", "many", "()I"⟩, "WordGrid$WordList", 618, 608, 612, 1, 607), (10, 67, 7, 67, ⟨"WordGrid$WordList", "wordNumber", "(I)J"⟩, "WordGrid$WordList", 662, 651, 664, 1, 650), (10, 67, 8, 67, ⟨"WordGrid$WordList", "wordNumber", "(I)J"⟩, "WordGrid$WordList", 662, 651, 665, 1, 650), (10, 67, 9, 67, ⟨"WordGrid$WordList", "wordNumber", "(I)J"⟩, "WordGrid$WordList", 662, 651, 652, 1, 650), (10, 67, 10, 69, ⟨"WordGrid$WordList", "wordNumber", "(I)J"⟩, "WordGrid$WordList", 662, 651, 663, 1, 650), (10, 67, 11, 68, ⟨"WordGrid$WordList", "wordNumber", "(I)J"⟩, "WordGrid$WordList", 662, 651, 656, 1, 650), (10, 71, 7, 62, ⟨"WordGrid$WordList", "scoreOf", "(J)I"⟩, "WordGrid$WordList", 636, 626, 642, 1, 625), (10, 71, 8, 65, ⟨"WordGrid$WordList", "scoreOf", "(J)I"⟩, "WordGrid$WordList", 636, 626, 643, 1, 625),
  (10, 71, 9, 62, ⟨"WordGrid$WordList", "scoreOf", "(J)I"⟩, "WordGrid$WordList", 636, 626, 627, 1, 625), (10, 71, 10, 64, ⟨"WordGrid$WordList", "scoreOf", "(J)I"⟩, "WordGrid$WordList", 636, 626, 641, 1, 625), (10, 71, 11, 63, ⟨"WordGrid$WordList", "scoreOf", "(J)I"⟩, "WordGrid$WordList", 636, 626, 630, 1, 625), (11, 28, 7, 52, ⟨"WordGrid$WordList", "allows", "(J)Z"⟩, "WordGrid$WordList", 585, 565, 604, 1, 564), (11, 28, 8, 52, ⟨"WordGrid$WordList", "allows", "(J)Z"⟩, "WordGrid$WordList", 585, 565, 605, 1, 564), (11, 28, 9, 49, ⟨"WordGrid$WordList", "allows", "(J)Z"⟩, "WordGrid$WordList", 585, 565, 566, 1, 564), (11, 28, 10, 54, ⟨"WordGrid$WordList", "allows", "(J)Z"⟩, "WordGrid$WordList", 585, 565, 603, 1, 564), (11, 28, 11, 53, ⟨"WordGrid$WordList", "allows", "(J)Z"⟩, "WordGrid$WordList", 585, 565, 580, 1, 564),
  (11, 49, 7, 61, ⟨"WordGrid$WordList", "many", "()I"⟩, "WordGrid$WordList", 615, 608, 622, 1, 607), (11, 49, 8, 61, ⟨"WordGrid$WordList", "many", "()I"⟩, "WordGrid$WordList", 615, 608, 623, 1, 607), (11, 49, 9, 58, ⟨"WordGrid$WordList", "many", "()I"⟩, "WordGrid$WordList", 615, 608, 609, 1, 607), (11, 49, 10, 60, ⟨"WordGrid$WordList", "many", "()I"⟩, "WordGrid$WordList", 615, 608, 621, 1, 607), (11, 49, 11, 59, ⟨"WordGrid$WordList", "many", "()I"⟩, "WordGrid$WordList", 615, 608, 612, 1, 607), (11, 53, 7, 67, ⟨"WordGrid$WordList", "wordNumber", "(I)J"⟩, "WordGrid$WordList", 659, 651, 664, 1, 650), (11, 53, 8, 67, ⟨"WordGrid$WordList", "wordNumber", "(I)J"⟩, "WordGrid$WordList", 659, 651, 665, 1, 650), (11, 53, 9, 67, ⟨"WordGrid$WordList", "wordNumber", "(I)J"⟩, "WordGrid$WordList", 659, 651, 652, 1, 650),
  (11, 53, 10, 69, ⟨"WordGrid$WordList", "wordNumber", "(I)J"⟩, "WordGrid$WordList", 659, 651, 663, 1, 650), (11, 53, 11, 68, ⟨"WordGrid$WordList", "wordNumber", "(I)J"⟩, "WordGrid$WordList", 659, 651, 656, 1, 650), (11, 57, 7, 62, ⟨"WordGrid$WordList", "scoreOf", "(J)I"⟩, "WordGrid$WordList", 633, 626, 642, 1, 625), (11, 57, 8, 65, ⟨"WordGrid$WordList", "scoreOf", "(J)I"⟩, "WordGrid$WordList", 633, 626, 643, 1, 625), (11, 57, 9, 62, ⟨"WordGrid$WordList", "scoreOf", "(J)I"⟩, "WordGrid$WordList", 633, 626, 627, 1, 625), (11, 57, 10, 64, ⟨"WordGrid$WordList", "scoreOf", "(J)I"⟩, "WordGrid$WordList", 633, 626, 641, 1, 625), (11, 57, 11, 63, ⟨"WordGrid$WordList", "scoreOf", "(J)I"⟩, "WordGrid$WordList", 633, 626, 630, 1, 625)]
def sm_LP : List (Nat × Nat × Nat × Nat × Nat × Nat) := [(8, 15, 46, 547, 542, 447), (8, 33, 62, 640, 1527, 447), (9, 21, 52, 576, 1526, 458)]
def sm_LC : List (Nat × Nat × Nat × Nat) := [(0, 9, 1, 77), (0, 16, 2, 107), (0, 25, 5, 130), (0, 25, 103, 130), (0, 31, 3, 132), (0, 38, 4, 163), (0, 131, 8, 408), (0, 134, 9, 448), (0, 137, 10, 459), (0, 142, 11, 491), (0, 147, 7, 509), (0, 147, 7, 509), (2, 9, 104, 113), (4, 9, 3, 169), (13, 7, 0, 69), (13, 10, 6, 992)]
def sm_LK : List (Nat × Nat × Nat × Nat × Nat) := [(0, 378, 31, 1, 399), (4, 161, 1000000, 0, 806), (5, 102, 7, 1, 978), (5, 104, 31, 1, 979), (6, 390, 7, 1, 1515), (6, 392, 31, 1, 1516), (13, 41, 4294967295, 1, 1521)]
def sm_LA : List (Nat × Nat × Nat) := [(4, 62, 750), (5, 88, 910)]
def sm_LO : List (Nat × Nat × Nat) := [(0, 3, 74), (1, 3, 82), (2, 3, 112), (3, 3, 137), (4, 3, 168), (5, 3, 231), (6, 1, 997), (12, 1, 419)]
def sm_aside : List Nat := [79, 134, 170, 228, 465, 466, 469, 761, 764, 773, 805, 1528, 1529, 1530, 1531, 1532, 1533, 1534, 1535, 550, 564, 607, 625, 650]
-- arraycopy: native 752 static 751 initialized 68; Object.<init>: instanceMethod 75 code 76
-- arrayClass int 106 long 226 boolean 162; arrayOver Grid 131 WordList 114
end
section
/-! the checks of the tables, each decided by the kernel -/
def sm_at (i : Nat) (w : Cond) : Bool := decide (lw_tbl[i]? = some w)
theorem sm_at_mem {i : Nat} {w : Cond} (h : sm_at i w = true) : w ∈ lw_tbl := List.mem_of_getElem? (of_decide_eq_true h)
def sm_cn (o : Nat) : String := sm_nm.getD o ""
def sm_Fs (ci : Nat) : List (String × String × String × Bool) := sm_FL.getD ci []
def sm_T (ci : Nat) : u_T := fun k => (sm_Fs ci).getD k ("", "", "", false)
def sm_N (ci : Nat) : Nat := (sm_Fs ci).length
def sm_ty (ci : Nat) : Nat → FieldType := fun k => (parseFieldDescriptor (sm_T ci k).2.2.1).getD .int
def sm_cl : List vw_C := (List.range 12).map (fun ci => (sm_cn ci, sm_T ci, sm_N ci))
def sm_m0 : sm_M := (⟨"", "", ""⟩, ByteArray.empty, 0, none, 0, 0, 0, 0, 0, 0)
def sm_m (y : Nat) : sm_M := sm_MT.getD y sm_m0
def sm_y (y : Nat) : MethodName := (sm_m y).1
abbrev sm_bytes (y : Nat) : ByteArray := (sm_m y).2.1
abbrev sm_nL (y : Nat) : Nat := (sm_m y).2.2.1
abbrev sm_ret (y : Nat) : Option FieldType := (sm_m y).2.2.2.1
abbrev sm_own (y : Nat) : Nat := (sm_m y).2.2.2.2.1
abbrev sm_np (y : Nat) : Nat := (sm_m y).2.2.2.2.2.1
abbrev sm_stat (y : Nat) : Nat := (sm_m y).2.2.2.2.2.2.1
def sm_okc (ci : Nat) : Bool :=
  (List.range (sm_N ci)).all (fun k => sm_at ((sm_HL.getD ci ([], 0, 0)).1.getD k 0) (u_lay (sm_cn ci) (sm_T ci) k) && (parseFieldDescriptor (sm_T ci k).2.2.1).isSome && decide (defaultValue (sm_ty ci k) = vp_V (sm_dflt.getD ci []) k))
    && sm_at (sm_HL.getD ci ([], 0, 0)).2.1 (.instantiable (sm_cn ci) (sm_N ci)) && sm_at (sm_HL.getD ci ([], 0, 0)).2.2 (.initialized (sm_cn ci)) && decide ((sm_Fs ci).map (fun f => f.2.1)).Nodup && decide ((sm_dflt.getD ci []).length = sm_N ci)
def sm_okm (e : sm_M) : Bool :=
  sm_at e.2.2.2.2.2.2.2.2.1 (bif Nat.beq e.2.2.2.2.2.2.1 1 then .static e.1 else .instanceMethod e.1)
    && (Nat.beq e.2.2.2.2.1 16 || sm_at e.2.2.2.2.2.2.2.2.2 (.initialized e.1.cls)) && decide ((parseMethodDescriptor e.1.desc).map (fun d => d.parameters.length) = some e.2.2.2.2.2.1)
    && decide (e.1.cls ≠ "java/lang/invoke/MethodHandle" ∧ e.1.cls ≠ "java/lang/invoke/VarHandle") && (Nat.beq e.2.2.2.2.1 16 || Nat.beq e.2.2.2.2.1 14 || plainName e.1.cls) && decide (e.2.2.1 ≤ 40) && decide (sm_cn e.2.2.2.2.1 = e.1.cls)
def sm_okLF (e : Nat × Nat × Nat × String × Nat × Nat) : Bool := match e with
  | (o, idx, n, ref, h, h2) => (List.range 12).all (fun ci => !(sm_sub ci (n / 512)) ||
      (Nat.ble (n / 4 % 128 + 1) (sm_N ci) && sm_at h (.fieldLink (sm_cn o) idx ref (sm_T ci (n / 4 % 128)).2.1 (sm_T ci (n / 4 % 128)).2.2.1)
        && (decide (ref = (sm_T ci (n / 4 % 128)).1) || sm_at h2 (.sameField ref (sm_T ci (n / 4 % 128)).1 (sm_T ci (n / 4 % 128)).2.1 (sm_T ci (n / 4 % 128)).2.2.1))
        && (match sm_ty ci (n / 4 % 128) with | .int => Nat.beq (n % 4) 0 | .long => Nat.beq (n % 4) 1 | .boolean => Nat.beq (n % 4) 2 | .object _ => Nat.beq (n % 4) 3 | .array _ => Nat.beq (n % 4) 3 | _ => false)))
def sm_link (o idx y nest h : Nat) : Bool := bif Nat.beq nest 0 then sm_at h (.methodLink (sm_cn o) idx (sm_y y)) else sm_at h (.methodLinkNest (sm_cn o) idx (sm_y y) "WordGrid")
def sm_okLS (e : Nat × Nat × Nat × Nat × Nat) : Bool := match e with
  | (o, idx, y, nest, h) => sm_link o idx y nest h && Nat.beq (sm_stat y) 1 && Nat.ble (y + 1) sm_MT.length && !(Nat.beq (sm_own y) 16)
def sm_okLI (e : Nat × Nat × Nat × Nat × Nat) : Bool := match e with
  | (o, idx, y, nest, h) => sm_link o idx y nest h && Nat.beq (sm_stat y) 0 && Nat.ble (y + 1) sm_MT.length && decide ((sm_y y).name = "<init>") && decide (sm_ret y = none) && !(Nat.beq (sm_own y) 16)
def sm_okLV (e : Nat × Nat × Nat × Nat × Nat × Nat) : Bool := match e with
  | (o, idx, ci, y, h, h2) => sm_at h (.methodLink (sm_cn o) idx (sm_y y)) && sm_at h2 (.selects (sm_cn ci) (sm_y y) (sm_y y)) && decide ((sm_y y).cls = sm_cn ci) && Nat.beq (sm_stat y) 0 && Nat.ble (y + 1) sm_MT.length && Nat.ble (ci + 1) 12 && !(Nat.beq (sm_own y) 16)
def sm_okLU (e : Nat × Nat × Nat × Nat × MethodName × String × Nat × Nat × Nat × Nat × Nat) : Bool := match e with
  | (o, idx, ci, y, x, owner, h, h2, h3, dk, h4) => sm_at h (.methodLink (sm_cn o) idx x) && sm_at h2 (.sameMethod x.cls owner x.name x.desc) && sm_at h3 (.selects (sm_cn ci) x (sm_y y)) && Nat.beq (sm_stat y) 0 && Nat.ble (y + 1) sm_MT.length && Nat.ble (ci + 1) 12 && !(Nat.beq (sm_own y) 16)
      && (bif Nat.beq dk 0 then decide (sm_y h4 = ⟨owner, x.name, x.desc⟩) && Nat.beq (sm_stat h4) 0 && Nat.ble (h4 + 1) sm_MT.length else sm_at h4 (.declares ⟨owner, x.name, x.desc⟩))
      && decide (owner ≠ "java/lang/invoke/MethodHandle" ∧ owner ≠ "java/lang/invoke/VarHandle") && decide ((parseMethodDescriptor x.desc).map (fun d => d.parameters.length) = some (sm_np y))
def sm_okLP (e : Nat × Nat × Nat × Nat × Nat × Nat) : Bool := match e with
  | (o, idx, y, h, h2, h3) => sm_at h (.methodLink (sm_cn o) idx (sm_y y)) && sm_at h2 (.sameMethod (sm_y y).cls (sm_y y).cls (sm_y y).name (sm_y y).desc) && sm_at h3 (.superclass (sm_cn o) (sm_y y).cls) && Nat.beq (sm_stat y) 0 && Nat.ble (y + 1) sm_MT.length && decide ((sm_y y).name ≠ "<init>") && !(Nat.beq (sm_own y) 16)
def sm_okLC (e : Nat × Nat × Nat × Nat) : Bool := match e with
  | (o, idx, c, h) => sm_at h (.classLink (sm_cn o) idx (bif Nat.beq c 103 then "WordGrid$Grid" else bif Nat.beq c 104 then "WordGrid$WordList" else sm_cn c)) && (Nat.ble (c + 1) 12 || Nat.beq c 103 || Nat.beq c 104)
def sm_okLK (e : Nat × Nat × Nat × Nat × Nat) : Bool := match e with
  | (o, idx, v, k, h) => bif Nat.beq k 0 then sm_at h (.constant (sm_cn o) idx (Int32.ofInt (Int.ofNat v))) else sm_at h (.constantLong (sm_cn o) idx (Int64.ofNat v))
def sm_okLA (e : Nat × Nat × Nat) : Bool := match e with
  | (o, idx, h) => sm_at h (.methodLink (sm_cn o) idx arraycopyName)
def sm_okLO (e : Nat × Nat × Nat) : Bool := match e with
  | (o, idx, h) => sm_at h (.methodLink (sm_cn o) idx objectInit)
set_option maxRecDepth 100000 in
theorem sm_mc_0 : sm_MT_0.map (fun e => lw_tbl[e.2.2.2.2.2.2.2.1]?) = sm_MT_0.map (fun e => some (.code e.1 e.2.1 e.2.2.1 e.2.2.2.1)) := by rfl
set_option maxRecDepth 100000 in
theorem sm_mc_1 : sm_MT_1.map (fun e => lw_tbl[e.2.2.2.2.2.2.2.1]?) = sm_MT_1.map (fun e => some (.code e.1 e.2.1 e.2.2.1 e.2.2.2.1)) := by rfl
set_option maxRecDepth 100000 in
theorem sm_mc_2 : sm_MT_2.map (fun e => lw_tbl[e.2.2.2.2.2.2.2.1]?) = sm_MT_2.map (fun e => some (.code e.1 e.2.1 e.2.2.1 e.2.2.2.1)) := by rfl
set_option maxRecDepth 100000 in
theorem sm_mc_3 : sm_MT_3.map (fun e => lw_tbl[e.2.2.2.2.2.2.2.1]?) = sm_MT_3.map (fun e => some (.code e.1 e.2.1 e.2.2.1 e.2.2.2.1)) := by rfl
set_option maxRecDepth 100000 in
theorem sm_mc_4 : sm_MT_4.map (fun e => lw_tbl[e.2.2.2.2.2.2.2.1]?) = sm_MT_4.map (fun e => some (.code e.1 e.2.1 e.2.2.1 e.2.2.2.1)) := by rfl
set_option maxRecDepth 100000 in
theorem sm_mc_5 : sm_MT_5.map (fun e => lw_tbl[e.2.2.2.2.2.2.2.1]?) = sm_MT_5.map (fun e => some (.code e.1 e.2.1 e.2.2.1 e.2.2.2.1)) := by rfl
theorem sm_mc : ∀ e ∈ sm_MT, Cond.code e.1 e.2.1 e.2.2.1 e.2.2.2.1 ∈ lw_tbl := by
  have key : ∀ (l : List sm_M), l.map (fun e => lw_tbl[e.2.2.2.2.2.2.2.1]?) = l.map (fun e => some (Cond.code e.1 e.2.1 e.2.2.1 e.2.2.2.1)) → ∀ e ∈ l, Cond.code e.1 e.2.1 e.2.2.1 e.2.2.2.1 ∈ lw_tbl := by
    intro l h e he
    have h2 := List.map_inj_left.mp h e he
    exact List.mem_of_getElem? h2
  intro e he
  have he : e ∈ sm_MT_0 ++ (sm_MT_1 ++ (sm_MT_2 ++ (sm_MT_3 ++ (sm_MT_4 ++ (sm_MT_5))))) := he
  simp only [List.mem_append] at he
  rcases he with he | he | he | he | he | he
  · exact key _ sm_mc_0 e he
  · exact key _ sm_mc_1 e he
  · exact key _ sm_mc_2 e he
  · exact key _ sm_mc_3 e he
  · exact key _ sm_mc_4 e he
  · exact key _ sm_mc_5 e he
theorem sm_okc_ok : (List.range 12).all sm_okc = true := by decide +kernel
theorem sm_okm_ok : sm_MT.all sm_okm = true := by decide +kernel
theorem sm_math_ok : (sm_MT.filter (fun e => Nat.beq e.2.2.2.2.1 14)).all (fun e => plainFor e.1) = true := by decide +kernel
theorem sm_okLF_ok : sm_LF.all sm_okLF = true := by decide +kernel
theorem sm_okLS_ok : sm_LS.all sm_okLS = true := by decide +kernel
theorem sm_okLI_ok : sm_LI.all sm_okLI = true := by decide +kernel
theorem sm_okLV_ok : sm_LV.all sm_okLV = true := by decide +kernel
theorem sm_okLU_ok : sm_LU.all sm_okLU = true := by decide +kernel
theorem sm_okLP_ok : sm_LP.all sm_okLP = true := by decide +kernel
theorem sm_okLC_ok : sm_LC.all sm_okLC = true := by decide +kernel
theorem sm_okLK_ok : sm_LK.all sm_okLK = true := by decide +kernel
theorem sm_okLA_ok : sm_LA.all sm_okLA = true := by decide +kernel
theorem sm_okLO_ok : sm_LO.all sm_okLO = true := by decide +kernel
theorem sm_okac : sm_at 752 (.native arraycopyName) = true ∧ sm_at 751 (.static arraycopyName) = true ∧ sm_at 68 (.initialized "java/lang/System") = true := by decide +kernel
theorem sm_okoi : sm_at 75 (.instanceMethod objectInit) = true ∧ sm_at 76 (.code objectInit ⟨#[0xb1]⟩ 1 none) = true := by decide +kernel
theorem sm_okar : sm_at 106 (.arrayClass .int) = true ∧ sm_at 226 (.arrayClass .long) = true ∧ sm_at 162 (.arrayClass .boolean) = true ∧ sm_at 131 (.arrayOver (.object "WordGrid$Grid")) = true ∧ sm_at 114 (.arrayOver (.object "WordGrid$WordList")) = true := by decide +kernel
/-- the words that a method's frame keeps: those of the tables that stay as they are -/
def sm_ts : List Cond := lw_tbl.filter goodWord
theorem sm_good {w : Cond} (h : w ∈ lw_tbl) (g : goodWord w = true) : w ∈ sm_ts := List.mem_filter.mpr ⟨h, g⟩
end
section
/-! the small machine's instructions against the machine's -/
def sm_tgt (bp : List Nat) (pc : Nat) (off t : Int) : Bool := match bp[t.toNat]? with | some q => decide ((pc : Int) + off = (q : Int)) | none => false
def sm_nxt (bp : List Nat) (b pc : Nat) : Bool := match bp[b]? with | some q => Nat.beq q pc | none => false
def sm_inLF (o idx n : Nat) : Bool := sm_LF.any (fun e => Nat.beq e.1 o && Nat.beq e.2.1 idx && Nat.beq e.2.2.1 n)
def sm_inLC (o idx n : Nat) : Bool := sm_LC.any (fun e => Nat.beq e.1 o && Nat.beq e.2.1 idx && Nat.beq e.2.2.1 n)
def sm_inLK (o idx n k : Nat) : Bool := sm_LK.any (fun e => Nat.beq e.1 o && Nat.beq e.2.1 idx && Nat.beq e.2.2.1 n && Nat.beq e.2.2.2.1 k)
def sm_enc (o : Nat) (ini : Bool) (nL : Nat) (ret : Option FieldType) (bo : Bool) (bp : List Nat) (cb pc len : Nat) (rc si : sm_I) : Bool := match si with
  | .iconst n => (match rc with
    | .iconst k => decide (k = n) && Nat.beq len 1
    | .bipush k => decide ((Int8.ofInt k).toInt32 = Int32.ofInt n) && Nat.beq len 2
    | .sipush k => decide ((Int16.ofInt k).toInt32 = Int32.ofInt n) && Nat.beq len 3
    | .ldc idx => decide (Int.ofNat n.toNat = n) && sm_inLK o idx n.toNat 0 && Nat.beq len 2
    | _ => false)
  | .ldc2_w n => (match rc with
    | .lconst k => Nat.beq k.val n && Nat.beq len 1
    | .ldc2_w idx => sm_inLK o idx n 1 && Nat.beq len 3
    | _ => false)
  | .iload k => (match rc with | .iload j => Nat.beq j k && Nat.beq len 2 | .iload_n j => Nat.beq j.val k && Nat.beq len 1 | _ => false)
  | .lload k => (match rc with | .lload j => Nat.beq j k && Nat.beq len 2 | .lload_n j => Nat.beq j.val k && Nat.beq len 1 | _ => false)
  | .aload k => (match rc with | .aload j => Nat.beq j k && Nat.beq len 2 | .aload_n j => Nat.beq j.val k && Nat.beq len 1 | _ => false)
  | .istore k => (match rc with | .istore j => Nat.beq j k && Nat.beq len 2 | .istore_n j => Nat.beq j.val k && Nat.beq len 1 | _ => false) && Nat.ble (k + 1) nL
  | .lstore k => (match rc with | .lstore j => Nat.beq j k && Nat.beq len 2 | .lstore_n j => Nat.beq j.val k && Nat.beq len 1 | _ => false) && Nat.ble (k + 2) nL
  | .astore k => (match rc with | .astore j => Nat.beq j k && Nat.beq len 2 | .astore_n j => Nat.beq j.val k && Nat.beq len 1 | _ => false) && Nat.ble (k + 1) nL
  | .iinc k n => (match rc with | .iinc j i => Nat.beq j k && decide (i = n) && Nat.beq len 3 | _ => false) && Nat.ble (k + 1) nL
  | .getfield n => (match rc with | .getfield idx => sm_inLF o idx n && Nat.beq len 3 | _ => false)
  | .putfield n => (match rc with | .putfield idx => sm_inLF o idx n && Nat.beq len 3 | _ => false) && (List.range 12).all (fun ci => !(sm_sub ci (n / 512)) || !((sm_T ci (n / 4 % 128)).2.2.2) || (ini && decide ((sm_T ci (n / 4 % 128)).1 = sm_cn o)))
  | .new c => (match rc with | .new idx => sm_inLC o idx c && Nat.ble (c + 1) 12 && Nat.beq len 3 | _ => false)
  | .anewarray t => (match rc with | .anewarray idx => sm_inLC o idx (100 + t) && Nat.beq len 3 | _ => false)
  | .checkcast n => (match rc with | .checkcast idx => sm_inLC o idx n && Nat.beq n 7 && Nat.beq len 3 | _ => false)
  | .instanceof n => (match rc with | .instanceof idx => sm_inLC o idx n && Nat.beq n 7 && Nat.beq len 3 | _ => false)
  | .newarray _ => decide (rc = si) && Nat.beq len 2
  | .goto t => (match rc with | .goto off => sm_tgt bp pc off t && Nat.beq len 3 | _ => false)
  | .goto_w _ => false
  | .ifCond c t => (match rc with | .ifCond c2 off => decide (c2 = c) && sm_tgt bp pc off t && sm_nxt bp (cb + 1) (pc + 3) && Nat.beq len 3 | _ => false)
  | .if_icmp c t => (match rc with | .if_icmp c2 off => decide (c2 = c) && sm_tgt bp pc off t && sm_nxt bp (cb + 1) (pc + 3) && Nat.beq len 3 | _ => false)
  | .ifnull t => (match rc with | .ifnull off => sm_tgt bp pc off t && sm_nxt bp (cb + 1) (pc + 3) && Nat.beq len 3 | _ => false)
  | .ifnonnull t => (match rc with | .ifnonnull off => sm_tgt bp pc off t && sm_nxt bp (cb + 1) (pc + 3) && Nat.beq len 3 | _ => false)
  | .tableswitch d lo hi offs => (match rc with
    | .tableswitch d2 lo2 hi2 offs2 => sm_tgt bp pc d2 d && decide (lo2 = lo) && decide (hi2 = hi) && Nat.beq offs2.size offs.size && (List.range offs.size).all (fun k => (match offs2[k]?, offs[k]? with | some a, some t => sm_tgt bp pc a t | _, _ => false))
    | _ => false)
  | .ireturn => decide (rc = si) && Nat.beq len 1 && (bif bo then decide (ret = some .boolean) else decide (ret = some .int))
  | .lreturn => decide (rc = si) && Nat.beq len 1 && decide (ret = some .long)
  | .areturn => decide (rc = si) && Nat.beq len 1 && (match ret with | some (.object _) => true | _ => false)
  | .return_ => decide (rc = si) && Nat.beq len 1 && decide (ret = none)
  | .invokestatic n => (match rc with
    | .invokestatic idx => Nat.beq len 3 && (bif Nat.beq (n / 256) 400 then Nat.beq (n % 16) 5 && sm_LA.any (fun e => Nat.beq e.1 o && Nat.beq e.2.1 idx) else Nat.beq (n % 16) (sm_np (n / 256)) && !(Nat.beq (n / 256) 401) && sm_LS.any (fun e => Nat.beq e.1 o && Nat.beq e.2.1 idx && Nat.beq e.2.2.1 (n / 256)))
    | _ => false)
  | .invokespecial n => (match rc with
    | .invokespecial idx => Nat.beq len 3 && (bif Nat.beq (n / 256) 401 then Nat.beq (n % 16) 1 && sm_LO.any (fun e => Nat.beq e.1 o && Nat.beq e.2.1 idx) else Nat.beq (n % 16) (sm_np (n / 256) + 1) && !(Nat.beq (n / 256) 400) && (sm_LI.any (fun e => Nat.beq e.1 o && Nat.beq e.2.1 idx && Nat.beq e.2.2.1 (n / 256)) || sm_LP.any (fun e => Nat.beq e.1 o && Nat.beq e.2.1 idx && Nat.beq e.2.2.1 (n / 256))))
    | _ => false)
  | .invokevirtual n => (match rc with
    | .invokevirtual idx => Nat.beq len 3 && (List.range 12).all (fun ci => (match sm_vt (n / 256) (n / 16 % 16) ci with
      | none => true
      | some y => Nat.beq (n % 16) (sm_np y + 1) && !(Nat.beq y 400) && !(Nat.beq y 401) && (sm_LV.any (fun e => Nat.beq e.1 o && Nat.beq e.2.1 idx && Nat.beq e.2.2.1 ci && Nat.beq e.2.2.2.1 y) || sm_LU.any (fun e => Nat.beq e.1 o && Nat.beq e.2.1 idx && Nat.beq e.2.2.1 ci && Nat.beq e.2.2.2.1 y))))
    | _ => false)
  | _ => decide (rc = si) && Nat.beq len 1
def sm_isEnd (si : sm_I) : Bool := match si with
  | .goto _ | .ifCond _ _ | .if_icmp _ _ | .ifnull _ | .ifnonnull _ | .tableswitch _ _ _ _ | .ireturn | .lreturn | .areturn | .return_ => true
  | _ => false
def sm_okB (code : ByteArray) (o : Nat) (ini : Bool) (nL : Nat) (ret : Option FieldType) (bo : Bool) (bp : List Nat) (cb : Nat) : Nat → List sm_I → Bool
  | _, [] => true
  | pc, si :: is => match si with
    | .goto_w t => sm_nxt bp t.toNat pc
    | si => (match decode code pc with
      | .ok (rc, len) => sm_enc o ini nL ret bo bp cb pc len rc si && (sm_isEnd si || sm_okB code o ini nL ret bo bp cb (pc + len) is)
      | .error _ => false)
def sm_okQ (code : ByteArray) (o : Nat) (ini : Bool) (nL : Nat) (ret : Option FieldType) (bo : Bool) (bp : List Nat) (q : List (List sm_I)) : Bool :=
  Nat.beq bp.length q.length && (match bp[0]? with | some 0 => true | _ => false) && (List.range q.length).all (fun b => sm_okB code o ini nL ret bo bp b (bp.getD b 0) (q.getD b []))
def sm_okM (y : Nat) : Bool := sm_okQ (sm_bytes y) (sm_own y) (decide ((sm_y y).name = "<init>")) (sm_nL y) (sm_ret y) (sm_bo y) (sm_bp.getD y []) ((sm_prog.getD y (false, [])).2)
end
section
theorem sm_ok_0 : sm_okM 0 = true := by decide +kernel
theorem sm_ok_1 : sm_okM 1 = true := by decide +kernel
theorem sm_ok_2 : sm_okM 2 = true := by decide +kernel
theorem sm_ok_3 : sm_okM 3 = true := by decide +kernel
theorem sm_ok_4 : sm_okM 4 = true := by decide +kernel
theorem sm_ok_5 : sm_okM 5 = true := by decide +kernel
theorem sm_ok_6 : sm_okM 6 = true := by decide +kernel
theorem sm_ok_7 : sm_okM 7 = true := by decide +kernel
theorem sm_ok_8 : sm_okM 8 = true := by decide +kernel
theorem sm_ok_9 : sm_okM 9 = true := by decide +kernel
theorem sm_ok_10 : sm_okM 10 = true := by decide +kernel
theorem sm_ok_11 : sm_okM 11 = true := by decide +kernel
theorem sm_ok_12 : sm_okM 12 = true := by decide +kernel
theorem sm_ok_13 : sm_okM 13 = true := by decide +kernel
theorem sm_ok_14 : sm_okM 14 = true := by decide +kernel
theorem sm_ok_15 : sm_okM 15 = true := by decide +kernel
theorem sm_ok_16 : sm_okM 16 = true := by decide +kernel
theorem sm_ok_17 : sm_okM 17 = true := by decide +kernel
theorem sm_ok_18 : sm_okM 18 = true := by decide +kernel
theorem sm_ok_19 : sm_okM 19 = true := by decide +kernel
theorem sm_ok_20 : sm_okM 20 = true := by decide +kernel
theorem sm_ok_21 : sm_okM 21 = true := by decide +kernel
theorem sm_ok_22 : sm_okM 22 = true := by decide +kernel
theorem sm_ok_23 : sm_okM 23 = true := by decide +kernel
theorem sm_ok_24 : sm_okM 24 = true := by decide +kernel
theorem sm_ok_25 : sm_okM 25 = true := by decide +kernel
theorem sm_ok_26 : sm_okM 26 = true := by decide +kernel
theorem sm_ok_27 : sm_okM 27 = true := by decide +kernel
theorem sm_ok_28 : sm_okM 28 = true := by decide +kernel
theorem sm_ok_29 : sm_okM 29 = true := by decide +kernel
theorem sm_ok_30 : sm_okM 30 = true := by decide +kernel
theorem sm_ok_31 : sm_okM 31 = true := by decide +kernel
theorem sm_ok_32 : sm_okM 32 = true := by decide +kernel
theorem sm_ok_33 : sm_okM 33 = true := by decide +kernel
theorem sm_ok_34 : sm_okM 34 = true := by decide +kernel
theorem sm_ok_35 : sm_okM 35 = true := by decide +kernel
theorem sm_ok_36 : sm_okM 36 = true := by decide +kernel
theorem sm_ok_37 : sm_okM 37 = true := by decide +kernel
theorem sm_ok_38 : sm_okM 38 = true := by decide +kernel
theorem sm_ok_39 : sm_okM 39 = true := by decide +kernel
theorem sm_ok_40 : sm_okM 40 = true := by decide +kernel
theorem sm_ok_41 : sm_okM 41 = true := by decide +kernel
theorem sm_ok_42 : sm_okM 42 = true := by decide +kernel
theorem sm_ok_43 : sm_okM 43 = true := by decide +kernel
theorem sm_ok_44 : sm_okM 44 = true := by decide +kernel
theorem sm_ok_45 : sm_okM 45 = true := by decide +kernel
theorem sm_ok_46 : sm_okM 46 = true := by decide +kernel
theorem sm_ok_47 : sm_okM 47 = true := by decide +kernel
theorem sm_ok_48 : sm_okM 48 = true := by decide +kernel
theorem sm_ok_49 : sm_okM 49 = true := by decide +kernel
theorem sm_ok_50 : sm_okM 50 = true := by decide +kernel
theorem sm_ok_51 : sm_okM 51 = true := by decide +kernel
theorem sm_ok_52 : sm_okM 52 = true := by decide +kernel
theorem sm_ok_53 : sm_okM 53 = true := by decide +kernel
theorem sm_ok_54 : sm_okM 54 = true := by decide +kernel
theorem sm_ok_55 : sm_okM 55 = true := by decide +kernel
theorem sm_ok_56 : sm_okM 56 = true := by decide +kernel
theorem sm_ok_57 : sm_okM 57 = true := by decide +kernel
theorem sm_ok_58 : sm_okM 58 = true := by decide +kernel
theorem sm_ok_59 : sm_okM 59 = true := by decide +kernel
theorem sm_ok_60 : sm_okM 60 = true := by decide +kernel
theorem sm_ok_61 : sm_okM 61 = true := by decide +kernel
theorem sm_ok_62 : sm_okM 62 = true := by decide +kernel
theorem sm_ok_63 : sm_okM 63 = true := by decide +kernel
theorem sm_ok_64 : sm_okM 64 = true := by decide +kernel
theorem sm_ok_65 : sm_okM 65 = true := by decide +kernel
theorem sm_ok_66 : sm_okM 66 = true := by decide +kernel
theorem sm_ok_67 : sm_okM 67 = true := by decide +kernel
theorem sm_ok_68 : sm_okM 68 = true := by decide +kernel
theorem sm_ok_69 : sm_okM 69 = true := by decide +kernel
theorem sm_ok_70 : sm_okM 70 = true := by decide +kernel
theorem sm_ok_71 : sm_okM 71 = true := by decide +kernel
theorem sm_ok_72 : sm_okM 72 = true := by decide +kernel
theorem sm_ok_73 : sm_okM 73 = true := by decide +kernel
theorem sm_ok_74 : sm_okM 74 = true := by decide +kernel
theorem sm_ok_75 : sm_okM 75 = true := by decide +kernel
theorem sm_ok_76 : sm_okM 76 = true := by decide +kernel
theorem sm_ok_77 : sm_okM 77 = true := by decide +kernel
theorem sm_ok_78 : sm_okM 78 = true := by decide +kernel
theorem sm_ok_79 : sm_okM 79 = true := by decide +kernel
theorem sm_ok_80 : sm_okM 80 = true := by decide +kernel
theorem sm_ok_81 : sm_okM 81 = true := by decide +kernel
theorem sm_ok_82 : sm_okM 82 = true := by decide +kernel
theorem sm_ok_83 : sm_okM 83 = true := by decide +kernel
theorem sm_ok_84 : sm_okM 84 = true := by decide +kernel
theorem sm_ok_85 : sm_okM 85 = true := by decide +kernel
theorem sm_ok_86 : sm_okM 86 = true := by decide +kernel
theorem sm_ok_87 : sm_okM 87 = true := by decide +kernel
theorem sm_ok_88 : sm_okM 88 = true := by decide +kernel
theorem sm_ok_89 : sm_okM 89 = true := by decide +kernel
theorem sm_ok_90 : sm_okM 90 = true := by decide +kernel
theorem sm_ok_91 : sm_okM 91 = true := by decide +kernel
theorem sm_ok_92 : sm_okM 92 = true := by decide +kernel
theorem sm_ok_93 : sm_okM 93 = true := by decide +kernel
theorem sm_ok_94 : sm_okM 94 = true := by decide +kernel
theorem sm_ok_95 : sm_okM 95 = true := by decide +kernel
theorem sm_ok_96 : sm_okM 96 = true := by decide +kernel
theorem sm_ok_97 : sm_okM 97 = true := by decide +kernel
theorem sm_ok_98 : sm_okM 98 = true := by decide +kernel
theorem sm_ok_99 : sm_okM 99 = true := by decide +kernel
theorem sm_ok_100 : sm_okM 100 = true := by decide +kernel
theorem sm_ok_101 : sm_okM 101 = true := by decide +kernel
theorem sm_ok_102 : sm_okM 102 = true := by decide +kernel
theorem sm_ok_103 : sm_okM 103 = true := by decide +kernel
theorem sm_ok_104 : sm_okM 104 = true := by decide +kernel
theorem sm_ok_105 : sm_okM 105 = true := by decide +kernel
theorem sm_ok_106 : sm_okM 106 = true := by decide +kernel
theorem sm_ok_107 : sm_okM 107 = true := by decide +kernel
theorem sm_ok_108 : sm_okM 108 = true := by decide +kernel
theorem sm_ok_109 : sm_okM 109 = true := by decide +kernel
theorem sm_ok_110 : sm_okM 110 = true := by decide +kernel
theorem sm_ok_111 : sm_okM 111 = true := by decide +kernel
theorem sm_ok_112 : sm_okM 112 = true := by decide +kernel
theorem sm_ok_113 : sm_okM 113 = true := by decide +kernel
theorem sm_ok_114 : sm_okM 114 = true := by decide +kernel
theorem sm_ok_115 : sm_okM 115 = true := by decide +kernel
theorem sm_ok_116 : sm_okM 116 = true := by decide +kernel
theorem sm_ok_117 : sm_okM 117 = true := by decide +kernel
theorem sm_ok_118 : sm_okM 118 = true := by decide +kernel
theorem sm_ok_119 : sm_okM 119 = true := by decide +kernel
theorem sm_ok_120 : sm_okM 120 = true := by decide +kernel
theorem sm_ok_121 : sm_okM 121 = true := by decide +kernel
theorem sm_ok_122 : sm_okM 122 = true := by decide +kernel
theorem sm_ok_123 : sm_okM 123 = true := by decide +kernel
theorem sm_ok_124 : sm_okM 124 = true := by decide +kernel
theorem sm_ok_125 : sm_okM 125 = true := by decide +kernel
theorem sm_ok_126 : sm_okM 126 = true := by decide +kernel
theorem sm_ok_127 : sm_okM 127 = true := by decide +kernel
theorem sm_ok_128 : sm_okM 128 = true := by decide +kernel
theorem sm_ok_129 : sm_okM 129 = true := by decide +kernel
theorem sm_ok_130 : sm_okM 130 = true := by decide +kernel
theorem sm_ok_131 : sm_okM 131 = true := by decide +kernel
theorem sm_ok_132 : sm_okM 132 = true := by decide +kernel
theorem sm_ok_133 : sm_okM 133 = true := by decide +kernel
theorem sm_ok_134 : sm_okM 134 = true := by decide +kernel
theorem sm_ok_135 : sm_okM 135 = true := by decide +kernel
theorem sm_ok_136 : sm_okM 136 = true := by decide +kernel
theorem sm_ok_137 : sm_okM 137 = true := by decide +kernel
theorem sm_ok_138 : sm_okM 138 = true := by decide +kernel
theorem sm_ok_139 : sm_okM 139 = true := by decide +kernel
theorem sm_ok_140 : sm_okM 140 = true := by decide +kernel
theorem sm_ok_141 : sm_okM 141 = true := by decide +kernel
theorem sm_ok_142 : sm_okM 142 = true := by decide +kernel
theorem sm_ok_143 : sm_okM 143 = true := by decide +kernel
theorem sm_ok_144 : sm_okM 144 = true := by decide +kernel
theorem sm_ok_145 : sm_okM 145 = true := by decide +kernel
theorem sm_ok_146 : sm_okM 146 = true := by decide +kernel
theorem sm_ok_147 : sm_okM 147 = true := by decide +kernel
theorem sm_ok_148 : sm_okM 148 = true := by decide +kernel
theorem sm_ok_149 : sm_okM 149 = true := by decide +kernel
theorem sm_ok_150 : sm_okM 150 = true := by decide +kernel
theorem sm_ok_151 : sm_okM 151 = true := by decide +kernel
theorem sm_ok_152 : sm_okM 152 = true := by decide +kernel
theorem sm_ok_153 : sm_okM 153 = true := by decide +kernel
theorem sm_ok_154 : sm_okM 154 = true := by decide +kernel
theorem sm_ok_155 : sm_okM 155 = true := by decide +kernel
theorem sm_ok_156 : sm_okM 156 = true := by decide +kernel
theorem sm_ok_157 : sm_okM 157 = true := by decide +kernel
theorem sm_ok_158 : sm_okM 158 = true := by decide +kernel
theorem sm_ok_159 : sm_okM 159 = true := by decide +kernel
theorem sm_ok_160 : sm_okM 160 = true := by decide +kernel
theorem sm_ok_161 : sm_okM 161 = true := by decide +kernel
theorem sm_ok_162 : sm_okM 162 = true := by decide +kernel
theorem sm_ok_163 : sm_okM 163 = true := by decide +kernel
theorem sm_ok_164 : sm_okM 164 = true := by decide +kernel
theorem sm_ok_165 : sm_okM 165 = true := by decide +kernel
theorem sm_ok_166 : sm_okM 166 = true := by decide +kernel
theorem sm_ok_167 : sm_okM 167 = true := by decide +kernel
theorem sm_ok_168 : sm_okM 168 = true := by decide +kernel
theorem sm_ok_169 : sm_okM 169 = true := by decide +kernel
theorem sm_ok_170 : sm_okM 170 = true := by decide +kernel
theorem sm_ok_171 : sm_okM 171 = true := by decide +kernel
theorem sm_ok_172 : sm_okM 172 = true := by decide +kernel
theorem sm_ok_173 : sm_okM 173 = true := by decide +kernel
theorem sm_ok_174 : sm_okM 174 = true := by decide +kernel
theorem sm_ok_175 : sm_okM 175 = true := by decide +kernel
theorem sm_ok_176 : sm_okM 176 = true := by decide +kernel
theorem sm_ok_177 : sm_okM 177 = true := by decide +kernel
theorem sm_ok_178 : sm_okM 178 = true := by decide +kernel
theorem sm_ok_179 : sm_okM 179 = true := by decide +kernel
theorem sm_ok_180 : sm_okM 180 = true := by decide +kernel
theorem sm_ok_181 : sm_okM 181 = true := by decide +kernel
theorem sm_ok_182 : sm_okM 182 = true := by decide +kernel
theorem sm_ok_183 : sm_okM 183 = true := by decide +kernel
theorem sm_ok_184 : sm_okM 184 = true := by decide +kernel
theorem sm_ok_185 : sm_okM 185 = true := by decide +kernel
theorem sm_ok_186 : sm_okM 186 = true := by decide +kernel
theorem sm_ok_187 : sm_okM 187 = true := by decide +kernel
theorem sm_ok_188 : sm_okM 188 = true := by decide +kernel
theorem sm_ok_189 : sm_okM 189 = true := by decide +kernel
theorem sm_ok_190 : sm_okM 190 = true := by decide +kernel
theorem sm_ok_191 : sm_okM 191 = true := by decide +kernel
theorem sm_ok_192 : sm_okM 192 = true := by decide +kernel
theorem sm_ok_193 : sm_okM 193 = true := by decide +kernel
theorem sm_ok_194 : sm_okM 194 = true := by decide +kernel
theorem sm_ok_195 : sm_okM 195 = true := by decide +kernel
theorem sm_ok_196 : sm_okM 196 = true := by decide +kernel
theorem sm_ok_197 : sm_okM 197 = true := by decide +kernel
theorem sm_ok_198 : sm_okM 198 = true := by decide +kernel
theorem sm_ok_199 : sm_okM 199 = true := by decide +kernel
theorem sm_ok_200 : sm_okM 200 = true := by decide +kernel
theorem sm_ok_201 : sm_okM 201 = true := by decide +kernel
theorem sm_ok_202 : sm_okM 202 = true := by decide +kernel
theorem sm_ok_203 : sm_okM 203 = true := by decide +kernel
theorem sm_ok_204 : sm_okM 204 = true := by decide +kernel
theorem sm_ok_205 : sm_okM 205 = true := by decide +kernel
theorem sm_ok_206 : sm_okM 206 = true := by decide +kernel
theorem sm_ok_207 : sm_okM 207 = true := by decide +kernel
theorem sm_ok_208 : sm_okM 208 = true := by decide +kernel
theorem sm_ok_209 : sm_okM 209 = true := by decide +kernel
theorem sm_ok_210 : sm_okM 210 = true := by decide +kernel
theorem sm_ok_211 : sm_okM 211 = true := by decide +kernel
theorem sm_ok_212 : sm_okM 212 = true := by decide +kernel
theorem sm_ok_213 : sm_okM 213 = true := by decide +kernel
theorem sm_ok_214 : sm_okM 214 = true := by decide +kernel
theorem sm_ok_215 : sm_okM 215 = true := by decide +kernel
theorem sm_ok_216 : sm_okM 216 = true := by decide +kernel
theorem sm_ok_217 : sm_okM 217 = true := by decide +kernel
theorem sm_ok_218 : sm_okM 218 = true := by decide +kernel
theorem sm_ok_219 : sm_okM 219 = true := by decide +kernel
theorem sm_ok_220 : sm_okM 220 = true := by decide +kernel
theorem sm_ok_221 : sm_okM 221 = true := by decide +kernel
theorem sm_ok_222 : sm_okM 222 = true := by decide +kernel
theorem sm_ok_223 : sm_okM 223 = true := by decide +kernel
theorem sm_ok_224 : sm_okM 224 = true := by decide +kernel
theorem sm_ok_225 : sm_okM 225 = true := by decide +kernel
theorem sm_ok_226 : sm_okM 226 = true := by decide +kernel
theorem sm_ok_227 : sm_okM 227 = true := by decide +kernel
theorem sm_ok_228 : sm_okM 228 = true := by decide +kernel
theorem sm_ok_229 : sm_okM 229 = true := by decide +kernel
theorem sm_ok_230 : sm_okM 230 = true := by decide +kernel
end
section
/-! places and addresses; what a frame keeps -/
def sm_v (b base : Nat) : Value → Value
  | .ref k => .ref (base + k)
  | .retAddr _ => .ref b
  | v => v
def sm_e (cy : Nat → ClassId) (b base : Nat) : va_E → va_E
  | .inl (t, n, .inl f) => .inl (cy t, n, .inl f)
  | .inl (t, n, .inr (.inl f)) => .inl (cy t, n, .inr (.inl f))
  | .inl (t, n, .inr (.inr (.inl f))) => .inl (cy t, n, .inr (.inr (.inl f)))
  | .inl (t, n, .inr (.inr (.inr (.inl f)))) => .inl (cy t, n, .inr (.inr (.inr (.inl f))))
  | .inl (t, n, .inr (.inr (.inr (.inr f)))) => .inl (cy t, n, .inr (.inr (.inr (.inr (fun j => (f j).map (fun k => base + k))))))
  | .inr (ci, fs) => .inr (ci, fs.map (sm_v b base))
def sm_ws (cy : Nat → ClassId) (b base : Nat) (w : sm_W) : va_W := w.mapIdx (fun k x => (base + k, sm_e cy b base x))
theorem sm_ws_get {cy : Nat → ClassId} {b base : Nat} {w : sm_W} {k : Nat} {x : va_E} (h : w[k]? = some x) : (sm_ws cy b base w)[k]? = some (base + k, sm_e cy b base x) := by
  unfold sm_ws
  rw [List.getElem?_mapIdx, h]
  rfl
theorem sm_ws_len (cy : Nat → ClassId) (b base : Nat) (w : sm_W) : (sm_ws cy b base w).length = w.length := by simp [sm_ws]
theorem sm_ws_set (cy : Nat → ClassId) (b base : Nat) (w : sm_W) (k : Nat) (x : va_E) : (sm_ws cy b base w).set k (base + k, sm_e cy b base x) = sm_ws cy b base (w.set k x) := by
  apply List.ext_getElem?
  intro j
  simp only [sm_ws, List.getElem?_set, List.getElem?_mapIdx, List.length_mapIdx]
  by_cases h : k = j
  · subst h
    by_cases h2 : k < w.length
    · simp [h2]
    · simp [h2]
  · simp [h]
theorem sm_ws_push (cy : Nat → ClassId) (b base : Nat) (w : sm_W) (x : va_E) : sm_ws cy b base w ++ [(base + w.length, sm_e cy b base x)] = sm_ws cy b base (w ++ [x]) := by
  simp [sm_ws, List.mapIdx_append]
theorem sm_ws_D (cy : Nat → ClassId) (b base : Nat) (w : sm_W) : va_D (fun q => base ≤ q) (sm_ws cy b base w) := by
  constructor
  · intro i j p q hi hj he
    simp only [sm_ws, List.getElem?_mapIdx, Option.map_eq_some_iff] at hi hj
    obtain ⟨x, -, rfl⟩ := hi
    obtain ⟨y, -, rfl⟩ := hj
    simp at he
    exact he
  · intro k q hk
    simp only [sm_ws, List.getElem?_mapIdx, Option.map_eq_some_iff] at hk
    obtain ⟨x, -, rfl⟩ := hk
    exact Nat.le_add_right _ _
def sm_sl : va_E → Nat
  | .inl (_, n, _) => n
  | .inr (_, fs) => fs.length
def sm_sz (w : sm_W) : Nat := (w.map sm_sl).sum
theorem sm_sz_set {w : sm_W} {a : Nat} {x y : va_E} (h : w[a]? = some x) (e : sm_sl y = sm_sl x) : sm_sz (w.set a y) = sm_sz w := by
  unfold sm_sz
  congr 1
  apply List.ext_getElem?
  intro j
  simp only [List.getElem?_map, List.getElem?_set]
  by_cases hj : a = j
  · subst hj
    obtain ⟨hl, hx⟩ := List.getElem?_eq_some_iff.mp h
    simp [hl, hx, e]
  · simp [hj]
theorem sm_sz_push (w : sm_W) (x : va_E) : sm_sz (w ++ [x]) = sm_sz w + sm_sl x := by simp [sm_sz]
def sm_tys (cy : Nat → ClassId) : List (ClassId × FieldType) := [(cy 0, .int), (cy 1, .long), (cy 2, .boolean), (cy 3, .object "WordGrid$Grid"), (cy 4, .object "WordGrid$WordList")]
def sm_asd : Cond → Bool
  | .methodLinkNest _ _ _ _ => true
  | .castable _ _ => true
  | .declares _ => true
  | _ => false
/-- what the tables say that the words don't keep -/
def sm_K (D : va_G) (cy : Nat → ClassId) (U : State) : Prop :=
  va_K D sm_cl (sm_tys cy) U ∧ (∀ w ∈ lw_tbl, sm_asd w = true → va_Nw w U) ∧ va_AO "WordGrid$Grid" U ∧ va_AO "WordGrid$WordList" U ∧ va_Nc "WordGrid$Pattern" "WordGrid$Plain" U ∧ va_Nc "WordGrid$Joined" "WordGrid$Plain" U
theorem sm_K.moved {D : va_G} {cy : Nat → ClassId} {s U : State} (hW : s.WarmedH U.vm) (h : sm_K D cy s) : sm_K D cy U := by
  obtain ⟨h1, h2, h3, h4, h5, h6⟩ := h
  refine ⟨va_K.moved hW.alike h1, fun w hw ha => ?_, h3.moved hW.alike, h4.moved hW.alike, h5.moved hW.alike, h6.moved hW.alike⟩
  have h7 := h2 w hw ha
  cases w with
  | methodLinkNest a i x h => exact va_Nw.warmM hW h7
  | castable a b => exact va_Nw.warmC hW h7
  | declares x => exact va_Nw.warmD hW h7
  | _ => simp [sm_asd] at ha
theorem sm_X_moved {b L : Nat} {xs : Nat → Int32} {s U : State} {H : Heap} (hW : s.WarmedH U.vm) (h : va_X b L xs s s.heap) (hb : H[b]? = s.heap[b]?) : va_X b L xs U H := by
  obtain ⟨scr, h1, h2, h3, h4, h5⟩ := h
  exact ⟨scr, by rw [hb]; exact h1, State.isArrayOf_alike hW.alike h2, h3, h4, h5⟩
def sm_Pc (D : va_G) (cy : Nat → ClassId) (b base L : Nat) (xs : Nat → Int32) (as : List Value) (w : sm_W) : Array Value → State → Prop := fun v U =>
  v = (as.map (sm_v b base)).toArray ∧ va_P D sm_cl (sm_ws cy b base w) U.heap ∧ U.heap.size = base + w.length ∧ sm_K D cy U ∧ va_X b L xs U U.heap ∧ b < base
def sm_Qc (D : va_G) (cy : Nat → ClassId) (b base : Nat) (r : Option Value) (w : sm_W) : Array Value → State → Outcome → State → Prop := fun _ st oc t =>
  oc = .returned (r.map (sm_v b base)) ∧ va_P D sm_cl (sm_ws cy b base w) t.heap ∧ t.heap.size = base + w.length ∧ va_F (fun q => base ≤ q) st t
theorem sm_blind (D : va_G) (cy : Nat → ClassId) (b base L : Nat) (xs : Nat → Int32) (as : List Value) (w : sm_W) : FrameBlind (sm_Pc D cy b base L xs as w) := by
  intro a U g mk h
  obtain ⟨h1, h2, h3, h4, h5, h6⟩ := h
  exact ⟨h1, h2, h3, sm_K.moved (State.WarmedH.refl U) h4, sm_X_moved (s := U) (U := U.calling g mk a) (State.WarmedH.refl U) h5 rfl, h6⟩
def sm_rm (d mc ms : Nat) : Room := { frames := d, cells := mc, slots := ms, locals := 64 * d }
def sm_wsM (y : Nat) : List Cond := Cond.code (sm_y y) (sm_bytes y) (sm_nL y) (sm_ret y) :: sm_ts
theorem sm_mem {y : Nat} (h : y < sm_MT.length) : sm_m y ∈ sm_MT := by
  unfold sm_m
  rw [List.getD_eq_getElem?_getD, List.getElem?_eq_getElem h]
  exact List.getElem_mem h
theorem sm_code_mem {y : Nat} (h : y < sm_MT.length) : Cond.code (sm_y y) (sm_bytes y) (sm_nL y) (sm_ret y) ∈ sm_ts := sm_good (sm_mc _ (sm_mem h)) rfl
theorem sm_ts_good {w : Cond} (h : w ∈ sm_ts) : (w.onTables && w.keeps) = true ∨ ∃ ty, w = .arrayClass ty := good_of_word (List.mem_filter.mp h).2
theorem sm_gi {y : Nat} (h : y < sm_MT.length) : GoodIn sm_ts (sm_wsM y) := by
  intro w hw
  rcases List.mem_cons.mp hw with rfl | hw
  · exact ⟨sm_code_mem h, sm_ts_good (sm_code_mem h)⟩
  · exact ⟨hw, sm_ts_good hw⟩
theorem sm_okm_at {y : Nat} (h : y < sm_MT.length) : sm_okm (sm_m y) = true := List.all_eq_true.mp sm_okm_ok _ (sm_mem h)
theorem sm_inst {y : Nat} (h : y < sm_MT.length) (hs : Nat.beq (sm_stat y) 0 = true) : Cond.instanceMethod (sm_y y) ∈ sm_ts := by
  have h1 := sm_okm_at h
  unfold sm_okm at h1
  simp only [Bool.and_eq_true] at h1
  have h2 := sm_at_mem h1.1.1.1.1.1.1
  have h3 : (sm_m y).2.2.2.2.2.2.1 = 0 := Nat.eq_of_beq_eq_true hs
  rw [h3] at h2
  exact sm_good h2 rfl
theorem sm_static {y : Nat} (h : y < sm_MT.length) (hs : Nat.beq (sm_stat y) 1 = true) : Cond.static (sm_y y) ∈ sm_ts := by
  have h1 := sm_okm_at h
  unfold sm_okm at h1
  simp only [Bool.and_eq_true] at h1
  have h2 := sm_at_mem h1.1.1.1.1.1.1
  have h3 : (sm_m y).2.2.2.2.2.2.1 = 1 := Nat.eq_of_beq_eq_true hs
  rw [h3] at h2
  exact sm_good h2 rfl
theorem sm_inited {y : Nat} (h : y < sm_MT.length) (hs : (!(Nat.beq (sm_own y) 16)) = true) : Cond.initialized (sm_y y).cls ∈ sm_ts := by
  have h1 := sm_okm_at h
  unfold sm_okm at h1
  simp only [Bool.and_eq_true, Bool.or_eq_true] at h1
  rcases h1.1.1.1.1.1.2 with h2 | h2
  · have : Nat.beq (sm_own y) 16 = true := h2
    rw [this] at hs
    cases hs
  · exact sm_good (sm_at_mem h2) rfl
theorem sm_desc {y : Nat} (h : y < sm_MT.length) : (sm_y y).cls ≠ "java/lang/invoke/MethodHandle" ∧ (sm_y y).cls ≠ "java/lang/invoke/VarHandle" ∧ (parseMethodDescriptor (sm_y y).desc).map (fun d => d.parameters.length) = some (sm_np y) := by
  have h1 := sm_okm_at h
  unfold sm_okm at h1
  simp only [Bool.and_eq_true, decide_eq_true_eq] at h1
  exact ⟨h1.1.1.1.2.1, h1.1.1.1.2.2, h1.1.1.1.1.2⟩
theorem sm_nL_le {y : Nat} (h : y < sm_MT.length) : sm_nL y ≤ 40 := by
  have h1 := sm_okm_at h
  unfold sm_okm at h1
  simp only [Bool.and_eq_true, decide_eq_true_eq] at h1
  exact h1.1.2
theorem sm_own_cn {y : Nat} (h : y < sm_MT.length) : sm_cn (sm_own y) = (sm_y y).cls := by
  have h1 := sm_okm_at h
  unfold sm_okm at h1
  simp only [Bool.and_eq_true, decide_eq_true_eq] at h1
  exact h1.2
theorem sm_plain_ok {y : Nat} (h : y < sm_MT.length) (hs : (!(Nat.beq (sm_own y) 16)) = true) : plainFor (sm_y y) = true := by
  have h1 := sm_okm_at h
  unfold sm_okm at h1
  simp only [Bool.and_eq_true, Bool.or_eq_true] at h1
  rcases h1.1.1.2 with (h2 | h2) | h2
  · have : Nat.beq (sm_own y) 16 = true := h2
    rw [this] at hs
    cases hs
  · exact List.all_eq_true.mp sm_math_ok (sm_m y) (List.mem_filter.mpr ⟨sm_mem h, h2⟩)
  · exact plainFor_of_name h2
theorem sm_cl_get {ci : Nat} (h : ci < 12) : sm_cl[ci]? = some (sm_cn ci, sm_T ci, sm_N ci) := by
  unfold sm_cl
  rw [List.getElem?_map, List.getElem?_range h]
  rfl
theorem sm_okc_at {ci : Nat} (h : ci < 12) : sm_okc ci = true := List.all_eq_true.mp sm_okc_ok ci (List.mem_range.mpr h)
theorem sm_lay_good (C : String) (T : u_T) (k : Nat) : goodWord (u_lay C T k) = true := by
  unfold u_lay
  split <;> rfl
theorem sm_cin {ci : Nat} (h : ci < 12) : ∀ w ∈ u_ws (sm_cn ci) (sm_T ci) (sm_N ci), w ∈ sm_ts := by
  intro w hw
  unfold u_ws at hw
  obtain ⟨k, hk, rfl⟩ := List.mem_map.mp hw
  have h1 := sm_okc_at h
  unfold sm_okc at h1
  simp only [Bool.and_eq_true] at h1
  have h2 := List.all_eq_true.mp h1.1.1.1.1 k hk
  simp only [Bool.and_eq_true] at h2
  exact sm_good (sm_at_mem h2.1.1) (sm_lay_good _ _ _)
theorem sm_cty {ci : Nat} (h : ci < 12) : ∀ k, k < sm_N ci → parseFieldDescriptor (sm_T ci k).2.2.1 = some (sm_ty ci k) := by
  intro k hk
  have h1 := sm_okc_at h
  unfold sm_okc at h1
  simp only [Bool.and_eq_true] at h1
  have h2 := List.all_eq_true.mp h1.1.1.1.1 k (List.mem_range.mpr hk)
  simp only [Bool.and_eq_true] at h2
  obtain ⟨t, ht⟩ := Option.isSome_iff_exists.mp h2.1.2
  unfold sm_ty
  rw [ht]
  rfl
theorem sm_cdf {ci : Nat} (h : ci < 12) : ∀ k, k < sm_N ci → defaultValue (sm_ty ci k) = vp_V (sm_dflt.getD ci []) k := by
  intro k hk
  have h1 := sm_okc_at h
  unfold sm_okc at h1
  simp only [Bool.and_eq_true] at h1
  have h2 := List.all_eq_true.mp h1.1.1.1.1 k (List.mem_range.mpr hk)
  simp only [Bool.and_eq_true, decide_eq_true_eq] at h2
  exact h2.2
theorem sm_cinst {ci : Nat} (h : ci < 12) : Cond.instantiable (sm_cn ci) (sm_N ci) ∈ sm_ts ∧ Cond.initialized (sm_cn ci) ∈ sm_ts := by
  have h1 := sm_okc_at h
  unfold sm_okc at h1
  simp only [Bool.and_eq_true] at h1
  exact ⟨sm_good (sm_at_mem h1.1.1.1.2) rfl, sm_good (sm_at_mem h1.1.1.2) rfl⟩
theorem sm_cdl {ci : Nat} (h : ci < 12) : (sm_dflt.getD ci []).length = sm_N ci := by
  have h1 := sm_okc_at h
  unfold sm_okc at h1
  simp only [Bool.and_eq_true, decide_eq_true_eq] at h1
  exact h1.2
theorem sm_cnm {ci : Nat} (h : ci < 12) : ∀ a, a < sm_N ci → ∀ b, b < sm_N ci → a ≠ b → (sm_T ci a).2.1 ≠ (sm_T ci b).2.1 := by
  intro a ha b hb hab he
  have h1 := sm_okc_at h
  unfold sm_okc at h1
  simp only [Bool.and_eq_true, decide_eq_true_eq] at h1
  have h2 := h1.1.2
  apply hab
  have ha' : a < ((sm_Fs ci).map (fun f => f.2.1)).length := by rw [List.length_map]; exact ha
  have hb' : b < ((sm_Fs ci).map (fun f => f.2.1)).length := by rw [List.length_map]; exact hb
  refine (List.getElem_inj (h₀ := ha') (h₁ := hb') h2).mp ?_
  rw [List.getElem_map, List.getElem_map]
  unfold sm_T at he
  rw [List.getD_eq_getElem?_getD, List.getD_eq_getElem?_getD, List.getElem?_eq_getElem (show a < (sm_Fs ci).length from ha), List.getElem?_eq_getElem (show b < (sm_Fs ci).length from hb)] at he
  exact he
theorem sm_get_mem : ∀ {lv : sm_L} {i : Nat} {v : Value}, sm_get lv i = some v → (i, v) ∈ lv
  | [], _, _, h => by cases h
  | (k, u) :: r, i, v, h => by
    unfold sm_get at h
    cases hb : Nat.beq k i with
    | true =>
      rw [hb] at h
      have : k = i := Nat.eq_of_beq_eq_true hb
      subst this
      cases h
      exact List.mem_cons_self
    | false =>
      rw [hb] at h
      exact List.mem_cons_of_mem _ (sm_get_mem h)
def sm_lm (b base : Nat) (lv : sm_L) : List (Nat × Value) := lv.map (fun q => (q.1, sm_v b base q.2))
theorem sm_v_cat (b base : Nat) (v : Value) : (sm_v b base v).category = v.category := by cases v <;> rfl
theorem sm_put_map (b base : Nat) (lv : sm_L) (i : Nat) (v : Value) : (i, sm_v b base v) :: (sm_lm b base lv).filter (fun q => !(q.1 == i) && !(q.1 + 1 == i && q.2.category == 2)) = sm_lm b base (sm_put lv i v) := by
  unfold sm_put sm_lm
  rw [List.map_cons, List.filter_map]
  congr 2
  apply List.filter_congr
  intro q _
  simp only [Function.comp, sm_v_cat]
theorem sm_put2_map (b base : Nat) (lv : sm_L) (i : Nat) (v : Value) : (i, sm_v b base v) :: (sm_lm b base lv).filter (fun q => !(q.1 == i) && (!(q.1 == i + 1) && !(q.1 + 1 == i && q.2.category == 2))) = sm_lm b base (sm_put2 lv i v) := by
  unfold sm_put2 sm_lm
  rw [List.map_cons, List.filter_map]
  congr 2
  apply List.filter_congr
  intro q _
  simp only [Function.comp, sm_v_cat]
theorem sm_lv_get {ls : Array Slot} {nL b base : Nat} {lv : sm_L} (h : lv_has ls nL (sm_lm b base lv)) {i : Nat} {v : Value} (hg : sm_get lv i = some v) : ls[i]? = some (.val (sm_v b base v)) :=
  h.2.2 (i, sm_v b base v) (List.mem_map.mpr ⟨(i, v), sm_get_mem hg, rfl⟩)
theorem sm_words_map (b base : Nat) (st : List Value) : ((st.map (sm_v b base)).map fun v => v.category).sum = sm_words st := by
  unfold sm_words
  rw [List.map_map]
  congr 1
  apply List.map_congr_left
  intro v _
  exact sm_v_cat b base v
theorem sm_args_map (b base : Nat) : ∀ (as : List Value) (i : Nat), lv_args i (as.map (sm_v b base)) = sm_lm b base (lv_args i as)
  | [], _ => rfl
  | v :: vs, i => by
    show (i, sm_v b base v) :: lv_args (if (sm_v b base v).category = 2 then i + 2 else i + 1) (vs.map (sm_v b base)) = (i, sm_v b base v) :: sm_lm b base (lv_args (if v.category = 2 then i + 2 else i + 1) vs)
    rw [sm_v_cat, sm_args_map b base vs]
end
section
/-! one instruction of the small machine is one of the machine -/
theorem sm_pf_some {w w' : sm_W} {a n : Nat} {v : Value} (h : sm_pf w a n v = some w') : ∃ (ci : Nat) (fs : List Value), w[a]? = some (.inr (ci, fs)) ∧ sm_sub ci (n / 512) = true ∧ n / 4 % 128 < fs.length ∧ sm_fok (n % 4) v = true ∧ w' = w.set a (.inr (ci, fs.set (n / 4 % 128) v)) := by
  unfold sm_pf at h
  split at h
  · rename_i ci fs he
    cases hb : (sm_sub ci (n / 512) && (Nat.ble (n / 4 % 128 + 1) fs.length && sm_fok (n % 4) v)) with
    | false => rw [hb] at h; cases h
    | true =>
      rw [hb] at h
      simp only [Bool.and_eq_true] at hb
      cases h
      exact ⟨ci, fs, he, hb.1, Nat.le_of_ble_eq_true hb.2.1, hb.2.2, rfl⟩
  · cases h
theorem sm_fd_some {w : sm_W} {a n : Nat} {v : Value} (h : sm_fd w a n = some v) : ∃ (ci : Nat) (fs : List Value), w[a]? = some (.inr (ci, fs)) ∧ sm_sub ci (n / 512) = true ∧ fs[n / 4 % 128]? = some v := by
  unfold sm_fd at h
  split at h
  · rename_i ci fs he
    cases hb : sm_sub ci (n / 512) with
    | false => rw [hb] at h; cases h
    | true => rw [hb] at h; exact ⟨ci, fs, he, hb, h⟩
  · cases h
theorem sm_m_refl (w : sm_W) : w.length ≤ w.length ∧ sm_sz w ≤ sm_sz w := ⟨Nat.le_refl _, Nat.le_refl _⟩
theorem sm_m_set {w : sm_W} {a : Nat} {x y : va_E} (h : w[a]? = some x) (e : sm_sl y = sm_sl x) : w.length ≤ (w.set a y).length ∧ sm_sz w ≤ sm_sz (w.set a y) := ⟨by rw [List.length_set]; exact Nat.le_refl _, by rw [sm_sz_set h e]; exact Nat.le_refl _⟩
theorem sm_m_push (w : sm_W) (x : va_E) : w.length ≤ (w ++ [x]).length ∧ sm_sz w ≤ sm_sz (w ++ [x]) := ⟨by simp, by rw [sm_sz_push]; exact Nat.le_add_right _ _⟩
set_option maxHeartbeats 4000000 in
theorem sm_op_mono {L : Nat} {xs : Nat → Int32} {i : sm_I} {lv lv' : sm_L} {st st' : List Value} {w w' : sm_W} (h : sm_op L xs i lv st w = some (lv', st', w')) : w.length ≤ w'.length ∧ sm_sz w ≤ sm_sz w' := by
  unfold sm_op at h
  split at h
  all_goals (repeat' (split at h))
  all_goals (try (simp only [cond_eq_ite] at h))
  all_goals (repeat' (split at h))
  all_goals (cases h)
  all_goals first
    | exact sm_m_refl _
    | exact sm_m_push _ _
    | (refine sm_m_set (by assumption) ?_; rfl)
    | (rename_i hpf; obtain ⟨ci, fs, h1, -, -, -, rfl⟩ := sm_pf_some hpf; exact sm_m_set h1 (by simp [sm_sl]))
section OPS
variable (p : Program) (l : Launch) (e : Env) (R : Room) (s : State) (m : MethodId) (args : Array Value) (below : List Frame) (meth : Method) (c : Code) (Q : State → Prop) (D : va_G) (cy : Nat → ClassId) (b base : Nat) (w0 : sm_W) (nL : Nat)
/-- the real state stands for the small one -/
def sm_J (w : sm_W) (lv : sm_L) (H : Heap) (locs : List Loc) (cells slots : Nat) (ls : Array Slot) : Prop :=
  va_P D sm_cl (sm_ws cy b base w) H ∧ va_S (fun q => base ≤ q) s.heap H locs ∧ lv_has ls nL (sm_lm b base lv) ∧ s.heap.size + cells = base + w.length ∧ sm_sz w0 + slots = sm_sz w
def sm_KK (pc : Nat) (lv : sm_L) (st : List Value) (w : sm_W) : Prop :=
  ∀ (H : Heap) (locs : List Loc) (cells slots : Nat) (ls : Array Slot), sm_J s D cy b base w0 nL w lv H locs cells slots ls → W p l e R s m args below meth c H locs cells slots Q (F0 m pc ls (st.map (sm_v b base)))
def sm_C (cc : ByteArray) (o : Nat) (L : Nat) (xs : Nat → Int32) : Prop :=
  p.tables.exec = Jvm.exec ∧ c.code = cc ∧ s.vm.findClass (sm_cn o) = some m.cls ∧ (∀ w ∈ sm_ts, w.before args s = true) ∧ sm_K D cy s ∧ va_X b L xs s s.heap ∧ b < base ∧ base ≤ s.heap.size ∧ c.maxLocals = nL
end OPS
section OPS2
variable {p : Program} {l : Launch} {e : Env} {R : Room} {s : State} {m : MethodId} {args : Array Value} {below : List Frame} {meth : Method} {c : Code} {Q : State → Prop} {D : va_G} {cy : Nat → ClassId} {b base : Nat} {w0 : sm_W} {nL : Nat}
variable {cc : ByteArray} {o : Nat} {L : Nat} {xs : Nat → Int32} {pc : Nat} {lv : sm_L} {r : List Value} {w : sm_W}
theorem sm_J.store {w : sm_W} {lv : sm_L} {H H1 : Heap} {locs locs1 : List Loc} {cells slots : Nat} {ls : Array Slot} {a : Nat} {x y : va_E} (J : sm_J s D cy b base w0 nL w lv H locs cells slots ls) (hx : w[a]? = some x) (he : sm_sl y = sm_sl x)
    (hP : va_P D sm_cl ((sm_ws cy b base w).set a (base + a, sm_e cy b base y)) H1) (hS : va_S (fun q => base ≤ q) s.heap H1 locs1) : sm_J s D cy b base w0 nL (w.set a y) lv H1 locs1 cells slots ls := by
  obtain ⟨-, -, h3, h4, h5⟩ := J
  rw [sm_ws_set] at hP
  exact ⟨hP, hS, h3, by rw [List.length_set]; exact h4, by rw [sm_sz_set hx he]; exact h5⟩
theorem sm_J.lvs {w : sm_W} {lv lv' : sm_L} {H : Heap} {locs : List Loc} {cells slots : Nat} {ls ls' : Array Slot} (J : sm_J s D cy b base w0 nL w lv H locs cells slots ls) (h : lv_has ls' nL (sm_lm b base lv')) : sm_J s D cy b base w0 nL w lv' H locs cells slots ls' :=
  ⟨J.1, J.2.1, h, J.2.2.2⟩
/-- the heap ends where the world ends -/
theorem sm_J.size {lv : sm_L} {H : Heap} {locs : List Loc} {cells slots : Nat} {ls : Array Slot} {g : JFrame} (J : sm_J s D cy b base w0 nL w lv H locs cells slots ls) (hbase : base ≤ s.heap.size)
    (k : H.size = base + w.length → W p l e R s m args below meth c H locs cells slots Q g) : W p l e R s m args below meth c H locs cells slots Q g := by
  intro T hT X
  have h1 := X.heapSize
  rw [hT, J.2.2.2.1] at h1
  have h2 : base + w.length ≤ H.size := by
    rcases Nat.eq_zero_or_pos w.length with h0 | h0
    · have := J.2.1.1
      omega
    · have hlt : w.length - 1 < w.length := by omega
      have h3 := (J.1 (w.length - 1) _ (sm_ws_get (List.getElem?_eq_getElem hlt))).lt
      dsimp only at h3
      omega
  exact k (Nat.le_antisymm h1 h2) T hT X
theorem sm_plain {rc si : sm_I} {len : Nat} (h : (decide (rc = si) && Nat.beq len 1) = true) : rc = si ∧ len = 1 := by
  simp only [Bool.and_eq_true, decide_eq_true_eq] at h
  exact ⟨h.1, Nat.eq_of_beq_eq_true h.2⟩
theorem sm_ok_iadd (C : sm_C p s m args c D cy b base nL cc o L xs) {x y : Int32} (hd : decode cc pc = .ok (.iadd, 1)) (k : sm_KK p l e R s m args below meth c Q D cy b base w0 nL (pc + 1) (lv) (.int (x + y) :: r) (w)) : sm_KK p l e R s m args below meth c Q D cy b base w0 nL (pc) (lv) (.int y :: .int x :: r) (w) := by
  intro H locs cells slots ls J
  exact lv_iadd C.1 C.2.1 hd (k H locs cells slots ls J)

theorem sm_ok_isub (C : sm_C p s m args c D cy b base nL cc o L xs) {x y : Int32} (hd : decode cc pc = .ok (.isub, 1)) (k : sm_KK p l e R s m args below meth c Q D cy b base w0 nL (pc + 1) (lv) (.int (x - y) :: r) (w)) : sm_KK p l e R s m args below meth c Q D cy b base w0 nL (pc) (lv) (.int y :: .int x :: r) (w) := by
  intro H locs cells slots ls J
  exact lv_isub C.1 C.2.1 hd (k H locs cells slots ls J)

theorem sm_ok_imul (C : sm_C p s m args c D cy b base nL cc o L xs) {x y : Int32} (hd : decode cc pc = .ok (.imul, 1)) (k : sm_KK p l e R s m args below meth c Q D cy b base w0 nL (pc + 1) (lv) (.int (x * y) :: r) (w)) : sm_KK p l e R s m args below meth c Q D cy b base w0 nL (pc) (lv) (.int y :: .int x :: r) (w) := by
  intro H locs cells slots ls J
  exact lv_imul C.1 C.2.1 hd (k H locs cells slots ls J)

theorem sm_ok_iand (C : sm_C p s m args c D cy b base nL cc o L xs) {x y : Int32} (hd : decode cc pc = .ok (.iand, 1)) (k : sm_KK p l e R s m args below meth c Q D cy b base w0 nL (pc + 1) (lv) (.int (x &&& y) :: r) (w)) : sm_KK p l e R s m args below meth c Q D cy b base w0 nL (pc) (lv) (.int y :: .int x :: r) (w) := by
  intro H locs cells slots ls J
  exact lv_iand C.1 C.2.1 hd (k H locs cells slots ls J)

theorem sm_ok_ior (C : sm_C p s m args c D cy b base nL cc o L xs) {x y : Int32} (hd : decode cc pc = .ok (.ior, 1)) (k : sm_KK p l e R s m args below meth c Q D cy b base w0 nL (pc + 1) (lv) (.int (x ||| y) :: r) (w)) : sm_KK p l e R s m args below meth c Q D cy b base w0 nL (pc) (lv) (.int y :: .int x :: r) (w) := by
  intro H locs cells slots ls J
  exact lv_ior C.1 C.2.1 hd (k H locs cells slots ls J)

theorem sm_ok_ixor (C : sm_C p s m args c D cy b base nL cc o L xs) {x y : Int32} (hd : decode cc pc = .ok (.ixor, 1)) (k : sm_KK p l e R s m args below meth c Q D cy b base w0 nL (pc + 1) (lv) (.int (x ^^^ y) :: r) (w)) : sm_KK p l e R s m args below meth c Q D cy b base w0 nL (pc) (lv) (.int y :: .int x :: r) (w) := by
  intro H locs cells slots ls J
  exact lv_ixor C.1 C.2.1 hd (k H locs cells slots ls J)

theorem sm_ok_ishl (C : sm_C p s m args c D cy b base nL cc o L xs) {x y : Int32} (hd : decode cc pc = .ok (.ishl, 1)) (k : sm_KK p l e R s m args below meth c Q D cy b base w0 nL (pc + 1) (lv) (.int (x <<< (y &&& 31)) :: r) (w)) : sm_KK p l e R s m args below meth c Q D cy b base w0 nL (pc) (lv) (.int y :: .int x :: r) (w) := by
  intro H locs cells slots ls J
  exact lv_ishl C.1 C.2.1 hd (k H locs cells slots ls J)

theorem sm_ok_ishr (C : sm_C p s m args c D cy b base nL cc o L xs) {x y : Int32} (hd : decode cc pc = .ok (.ishr, 1)) (k : sm_KK p l e R s m args below meth c Q D cy b base w0 nL (pc + 1) (lv) (.int (x >>> (y &&& 31)) :: r) (w)) : sm_KK p l e R s m args below meth c Q D cy b base w0 nL (pc) (lv) (.int y :: .int x :: r) (w) := by
  intro H locs cells slots ls J
  exact lv_ishr C.1 C.2.1 hd (k H locs cells slots ls J)

theorem sm_ok_idiv (C : sm_C p s m args c D cy b base nL cc o L xs) {x y : Int32} (hd : decode cc pc = .ok (.idiv, 1)) (hne : ¬ y = 0) (k : sm_KK p l e R s m args below meth c Q D cy b base w0 nL (pc + 1) (lv) (.int (x / y) :: r) (w)) : sm_KK p l e R s m args below meth c Q D cy b base w0 nL (pc) (lv) (.int y :: .int x :: r) (w) := by
  intro H locs cells slots ls J
  exact lv_idiv C.1 C.2.1 hd hne (k H locs cells slots ls J)

theorem sm_ok_irem (C : sm_C p s m args c D cy b base nL cc o L xs) {x y : Int32} (hd : decode cc pc = .ok (.irem, 1)) (hne : ¬ y = 0) (k : sm_KK p l e R s m args below meth c Q D cy b base w0 nL (pc + 1) (lv) (.int (x - x / y * y) :: r) (w)) : sm_KK p l e R s m args below meth c Q D cy b base w0 nL (pc) (lv) (.int y :: .int x :: r) (w) := by
  intro H locs cells slots ls J
  exact lv_irem C.1 C.2.1 hd hne (k H locs cells slots ls J)

theorem sm_ok_ladd (C : sm_C p s m args c D cy b base nL cc o L xs) {x y : Int64} (hd : decode cc pc = .ok (.ladd, 1)) (k : sm_KK p l e R s m args below meth c Q D cy b base w0 nL (pc + 1) (lv) (.long (x + y) :: r) (w)) : sm_KK p l e R s m args below meth c Q D cy b base w0 nL (pc) (lv) (.long y :: .long x :: r) (w) := by
  intro H locs cells slots ls J
  exact lv_ladd C.1 C.2.1 hd (k H locs cells slots ls J)

theorem sm_ok_lsub (C : sm_C p s m args c D cy b base nL cc o L xs) {x y : Int64} (hd : decode cc pc = .ok (.lsub, 1)) (k : sm_KK p l e R s m args below meth c Q D cy b base w0 nL (pc + 1) (lv) (.long (x - y) :: r) (w)) : sm_KK p l e R s m args below meth c Q D cy b base w0 nL (pc) (lv) (.long y :: .long x :: r) (w) := by
  intro H locs cells slots ls J
  exact lv_lsub C.1 C.2.1 hd (k H locs cells slots ls J)

theorem sm_ok_lmul (C : sm_C p s m args c D cy b base nL cc o L xs) {x y : Int64} (hd : decode cc pc = .ok (.lmul, 1)) (k : sm_KK p l e R s m args below meth c Q D cy b base w0 nL (pc + 1) (lv) (.long (x * y) :: r) (w)) : sm_KK p l e R s m args below meth c Q D cy b base w0 nL (pc) (lv) (.long y :: .long x :: r) (w) := by
  intro H locs cells slots ls J
  exact lv_lmul C.1 C.2.1 hd (k H locs cells slots ls J)

theorem sm_ok_land (C : sm_C p s m args c D cy b base nL cc o L xs) {x y : Int64} (hd : decode cc pc = .ok (.land, 1)) (k : sm_KK p l e R s m args below meth c Q D cy b base w0 nL (pc + 1) (lv) (.long (x &&& y) :: r) (w)) : sm_KK p l e R s m args below meth c Q D cy b base w0 nL (pc) (lv) (.long y :: .long x :: r) (w) := by
  intro H locs cells slots ls J
  exact lv_land C.1 C.2.1 hd (k H locs cells slots ls J)

theorem sm_ok_lor (C : sm_C p s m args c D cy b base nL cc o L xs) {x y : Int64} (hd : decode cc pc = .ok (.lor, 1)) (k : sm_KK p l e R s m args below meth c Q D cy b base w0 nL (pc + 1) (lv) (.long (x ||| y) :: r) (w)) : sm_KK p l e R s m args below meth c Q D cy b base w0 nL (pc) (lv) (.long y :: .long x :: r) (w) := by
  intro H locs cells slots ls J
  exact lv_lor C.1 C.2.1 hd (k H locs cells slots ls J)

theorem sm_ok_lxor (C : sm_C p s m args c D cy b base nL cc o L xs) {x y : Int64} (hd : decode cc pc = .ok (.lxor, 1)) (k : sm_KK p l e R s m args below meth c Q D cy b base w0 nL (pc + 1) (lv) (.long (x ^^^ y) :: r) (w)) : sm_KK p l e R s m args below meth c Q D cy b base w0 nL (pc) (lv) (.long y :: .long x :: r) (w) := by
  intro H locs cells slots ls J
  exact lv_lxor C.1 C.2.1 hd (k H locs cells slots ls J)

theorem sm_ok_lcmp (C : sm_C p s m args c D cy b base nL cc o L xs) {x y : Int64} (hd : decode cc pc = .ok (.lcmp, 1)) (k : sm_KK p l e R s m args below meth c Q D cy b base w0 nL (pc + 1) (lv) (.int (lg_cmp x y) :: r) (w)) : sm_KK p l e R s m args below meth c Q D cy b base w0 nL (pc) (lv) (.long y :: .long x :: r) (w) := by
  intro H locs cells slots ls J
  exact W.lcmp C.1 C.2.1 hd (k H locs cells slots ls J)

theorem sm_ok_lshl (C : sm_C p s m args c D cy b base nL cc o L xs) {x : Int64} {y : Int32} (hd : decode cc pc = .ok (.lshl, 1)) (k : sm_KK p l e R s m args below meth c Q D cy b base w0 nL (pc + 1) (lv) (.long (x <<< (y.toInt64 &&& 63)) :: r) (w)) : sm_KK p l e R s m args below meth c Q D cy b base w0 nL (pc) (lv) (.int y :: .long x :: r) (w) := by
  intro H locs cells slots ls J
  exact lv_lshl C.1 C.2.1 hd rfl (k H locs cells slots ls J)

theorem sm_ok_lushr (C : sm_C p s m args c D cy b base nL cc o L xs) {x : Int64} {y : Int32} (hd : decode cc pc = .ok (.lushr, 1)) (k : sm_KK p l e R s m args below meth c Q D cy b base w0 nL (pc + 1) (lv) (.long (x.toUInt64 >>> (y.toInt64.toUInt64 &&& Int64.toUInt64 63)).toInt64 :: r) (w)) : sm_KK p l e R s m args below meth c Q D cy b base w0 nL (pc) (lv) (.int y :: .long x :: r) (w) := by
  intro H locs cells slots ls J
  exact lv_lushr C.1 C.2.1 hd rfl (k H locs cells slots ls J)

theorem sm_ok_i2l (C : sm_C p s m args c D cy b base nL cc o L xs) {x : Int32} (hd : decode cc pc = .ok (.i2l, 1)) (k : sm_KK p l e R s m args below meth c Q D cy b base w0 nL (pc + 1) (lv) (.long x.toInt64 :: r) (w)) : sm_KK p l e R s m args below meth c Q D cy b base w0 nL (pc) (lv) (.int x :: r) (w) := by
  intro H locs cells slots ls J
  exact lv_i2l C.1 C.2.1 hd rfl (k H locs cells slots ls J)

theorem sm_ok_l2i (C : sm_C p s m args c D cy b base nL cc o L xs) {x : Int64} (hd : decode cc pc = .ok (.l2i, 1)) (k : sm_KK p l e R s m args below meth c Q D cy b base w0 nL (pc + 1) (lv) (.int x.toInt32 :: r) (w)) : sm_KK p l e R s m args below meth c Q D cy b base w0 nL (pc) (lv) (.long x :: r) (w) := by
  intro H locs cells slots ls J
  exact lv_l2i C.1 C.2.1 hd rfl (k H locs cells slots ls J)
end OPS2
end
section
/-! the other instructions -/
section OPS3
variable {p : Program} {l : Launch} {e : Env} {R : Room} {s : State} {m : MethodId} {args : Array Value} {below : List Frame} {meth : Method} {c : Code} {Q : State → Prop} {D : va_G} {cy : Nat → ClassId} {b base : Nat} {w0 : sm_W} {nL : Nat}
variable {cc : ByteArray} {o : Nat} {L : Nat} {xs : Nat → Int32} {pc : Nat} {lv : sm_L} {r : List Value} {w : sm_W}
variable {ini : Bool} {ret : Option FieldType} {bo : Bool} {bp : List Nat} {cb len : Nat} {rc : sm_I}
theorem sm_LK_use {idx n k : Nat} (h : sm_inLK o idx n k = true) : (k = 0 → Cond.constant (sm_cn o) idx (Int32.ofInt (Int.ofNat n)) ∈ sm_ts) ∧ (k = 1 → Cond.constantLong (sm_cn o) idx (Int64.ofNat n) ∈ sm_ts) := by
  unfold sm_inLK at h
  obtain ⟨q, hq, h1⟩ := List.any_eq_true.mp h
  simp only [Bool.and_eq_true] at h1
  have e1 := Nat.eq_of_beq_eq_true h1.1.1.1
  have e2 := Nat.eq_of_beq_eq_true h1.1.1.2
  have e3 := Nat.eq_of_beq_eq_true h1.1.2
  have e4 := Nat.eq_of_beq_eq_true h1.2
  have h2 := List.all_eq_true.mp sm_okLK_ok q hq
  obtain ⟨q1, q2, q3, q4, q5⟩ := q
  dsimp only at e1 e2 e3 e4
  subst e1; subst e2; subst e3; subst e4
  unfold sm_okLK at h2
  constructor
  · rintro rfl
    exact sm_good (sm_at_mem h2) rfl
  · rintro rfl
    exact sm_good (sm_at_mem h2) rfl
theorem sm_ok_iconst (C : sm_C p s m args c D cy b base nL cc o L xs) {n : Int} (he : sm_enc o ini nL ret bo bp cb pc len rc (.iconst n) = true) (hd : decode cc pc = .ok (rc, len)) (k : sm_KK p l e R s m args below meth c Q D cy b base w0 nL (pc + len) (lv) (.int (Int32.ofInt n) :: r) (w)) : sm_KK p l e R s m args below meth c Q D cy b base w0 nL (pc) (lv) (r) (w) := by
  simp only [sm_enc] at he
  intro H locs cells slots ls J
  split at he
  · simp only [Bool.and_eq_true, decide_eq_true_eq] at he
    obtain ⟨rfl, h2⟩ := he
    have := Nat.eq_of_beq_eq_true h2
    subst this
    exact lv_iconst C.1 C.2.1 hd rfl (k H locs cells slots ls J)
  · simp only [Bool.and_eq_true, decide_eq_true_eq] at he
    obtain ⟨h1, h2⟩ := he
    have := Nat.eq_of_beq_eq_true h2
    subst this
    exact lv_bipush C.1 C.2.1 hd h1 (k H locs cells slots ls J)
  · simp only [Bool.and_eq_true, decide_eq_true_eq] at he
    obtain ⟨h1, h2⟩ := he
    have := Nat.eq_of_beq_eq_true h2
    subst this
    exact lv_sipush C.1 C.2.1 hd h1 (k H locs cells slots ls J)
  · simp only [Bool.and_eq_true, decide_eq_true_eq] at he
    obtain ⟨⟨h1, h3⟩, h2⟩ := he
    have := Nat.eq_of_beq_eq_true h2
    subst this
    have h4 := (sm_LK_use h3).1 rfl
    rw [h1] at h4
    exact lv_ldc C.1 C.2.1 C.2.2.1 (C.2.2.2.1 _ h4) hd (k H locs cells slots ls J)
  · cases he
theorem sm_ok_ldc2 (C : sm_C p s m args c D cy b base nL cc o L xs) {n : Nat} (he : sm_enc o ini nL ret bo bp cb pc len rc (.ldc2_w n) = true) (hd : decode cc pc = .ok (rc, len)) (k : sm_KK p l e R s m args below meth c Q D cy b base w0 nL (pc + len) (lv) (.long (Int64.ofNat n) :: r) (w)) : sm_KK p l e R s m args below meth c Q D cy b base w0 nL (pc) (lv) (r) (w) := by
  simp only [sm_enc] at he
  intro H locs cells slots ls J
  split at he
  · simp only [Bool.and_eq_true] at he
    have h1 := Nat.eq_of_beq_eq_true he.1
    have := Nat.eq_of_beq_eq_true he.2
    subst this
    subst h1
    exact lv_lconst C.1 C.2.1 hd rfl (k H locs cells slots ls J)
  · simp only [Bool.and_eq_true] at he
    have := Nat.eq_of_beq_eq_true he.2
    subst this
    exact lv_ldc2 C.1 C.2.1 C.2.2.1 (C.2.2.2.1 _ ((sm_LK_use he.1).2 rfl)) hd (k H locs cells slots ls J)
  · cases he
theorem sm_ok_null (C : sm_C p s m args c D cy b base nL cc o L xs) (hd : decode cc pc = .ok (.aconst_null, 1)) (k : sm_KK p l e R s m args below meth c Q D cy b base w0 nL (pc + 1) (lv) (.null :: r) (w)) : sm_KK p l e R s m args below meth c Q D cy b base w0 nL (pc) (lv) (r) (w) := by
  intro H locs cells slots ls J
  exact lv_null C.1 C.2.1 hd (k H locs cells slots ls J)
theorem sm_ok_iload (C : sm_C p s m args c D cy b base nL cc o L xs) {i : Nat} {x : Int32} (he : sm_enc o ini nL ret bo bp cb pc len rc (.iload i) = true) (hd : decode cc pc = .ok (rc, len)) (hg : sm_get lv i = some (.int x)) (k : sm_KK p l e R s m args below meth c Q D cy b base w0 nL (pc + len) (lv) (.int x :: r) (w)) : sm_KK p l e R s m args below meth c Q D cy b base w0 nL (pc) (lv) (r) (w) := by
  simp only [sm_enc] at he
  intro H locs cells slots ls J
  have hl := sm_lv_get J.2.2.1 hg
  split at he
  · simp only [Bool.and_eq_true] at he
    have h1 := Nat.eq_of_beq_eq_true he.1
    have := Nat.eq_of_beq_eq_true he.2
    subst this; subst h1
    exact lv_iload C.1 C.2.1 hd hl (k H locs cells slots ls J)
  · simp only [Bool.and_eq_true] at he
    have h1 := Nat.eq_of_beq_eq_true he.1
    have := Nat.eq_of_beq_eq_true he.2
    subst this
    exact lv_iload_n C.1 C.2.1 hd h1 hl (k H locs cells slots ls J)
  · cases he
theorem sm_ok_lload (C : sm_C p s m args c D cy b base nL cc o L xs) {i : Nat} {x : Int64} (he : sm_enc o ini nL ret bo bp cb pc len rc (.lload i) = true) (hd : decode cc pc = .ok (rc, len)) (hg : sm_get lv i = some (.long x)) (k : sm_KK p l e R s m args below meth c Q D cy b base w0 nL (pc + len) (lv) (.long x :: r) (w)) : sm_KK p l e R s m args below meth c Q D cy b base w0 nL (pc) (lv) (r) (w) := by
  simp only [sm_enc] at he
  intro H locs cells slots ls J
  have hl := sm_lv_get J.2.2.1 hg
  split at he
  · simp only [Bool.and_eq_true] at he
    have h1 := Nat.eq_of_beq_eq_true he.1
    have := Nat.eq_of_beq_eq_true he.2
    subst this; subst h1
    exact lv_lload C.1 C.2.1 hd hl (k H locs cells slots ls J)
  · simp only [Bool.and_eq_true] at he
    have h1 := Nat.eq_of_beq_eq_true he.1
    have := Nat.eq_of_beq_eq_true he.2
    subst this
    exact lv_lload_n C.1 C.2.1 hd h1 hl (k H locs cells slots ls J)
  · cases he
theorem sm_ok_aload (C : sm_C p s m args c D cy b base nL cc o L xs) {i : Nat} {x : Value} (hx : (∃ a, x = .ref a) ∨ x = .null ∨ ∃ a, x = .retAddr a) (he : sm_enc o ini nL ret bo bp cb pc len rc (.aload i) = true) (hd : decode cc pc = .ok (rc, len)) (hg : sm_get lv i = some x) (k : sm_KK p l e R s m args below meth c Q D cy b base w0 nL (pc + len) (lv) (x :: r) (w)) : sm_KK p l e R s m args below meth c Q D cy b base w0 nL (pc) (lv) (r) (w) := by
  simp only [sm_enc] at he
  intro H locs cells slots ls J
  have hl := sm_lv_get J.2.2.1 hg
  have hk := k H locs cells slots ls J
  split at he
  · simp only [Bool.and_eq_true] at he
    have h1 := Nat.eq_of_beq_eq_true he.1
    have := Nat.eq_of_beq_eq_true he.2
    subst this; subst h1
    rcases hx with ⟨a, rfl⟩ | rfl | ⟨a, rfl⟩
    · exact lv_aload C.1 C.2.1 hd hl hk
    · exact lv_aloadN C.1 C.2.1 hd hl hk
    · exact lv_aload C.1 C.2.1 hd hl hk
  · simp only [Bool.and_eq_true] at he
    have h1 := Nat.eq_of_beq_eq_true he.1
    have := Nat.eq_of_beq_eq_true he.2
    subst this
    rcases hx with ⟨a, rfl⟩ | rfl | ⟨a, rfl⟩
    · exact lv_aload_n C.1 C.2.1 hd h1 hl hk
    · exact lv_aload_nN C.1 C.2.1 hd h1 hl hk
    · exact lv_aload_n C.1 C.2.1 hd h1 hl hk
  · cases he
theorem sm_ok_istore (C : sm_C p s m args c D cy b base nL cc o L xs) {i : Nat} {x : Int32} (he : sm_enc o ini nL ret bo bp cb pc len rc (.istore i) = true) (hd : decode cc pc = .ok (rc, len)) (k : sm_KK p l e R s m args below meth c Q D cy b base w0 nL (pc + len) (sm_put lv i (.int x)) (r) (w)) : sm_KK p l e R s m args below meth c Q D cy b base w0 nL (pc) (lv) (.int x :: r) (w) := by
  simp only [sm_enc, Bool.and_eq_true] at he
  obtain ⟨he, hn⟩ := he
  have hn := Nat.le_of_ble_eq_true hn
  intro H locs cells slots ls J
  split at he
  · simp only [Bool.and_eq_true] at he
    have h1 := Nat.eq_of_beq_eq_true he.1
    have := Nat.eq_of_beq_eq_true he.2
    subst this; subst h1
    exact lv_istore C.1 C.2.1 hd J.2.2.1 hn (sm_put_map b base lv _ (.int x)) (fun ls' hl' => k H locs cells slots ls' (J.lvs hl'))
  · simp only [Bool.and_eq_true] at he
    have h1 := Nat.eq_of_beq_eq_true he.1
    have := Nat.eq_of_beq_eq_true he.2
    subst this
    exact lv_istore_n C.1 C.2.1 hd h1 J.2.2.1 hn (sm_put_map b base lv _ (.int x)) (fun ls' hl' => k H locs cells slots ls' (J.lvs hl'))
  · cases he
theorem sm_ok_lstore (C : sm_C p s m args c D cy b base nL cc o L xs) {i : Nat} {x : Int64} (he : sm_enc o ini nL ret bo bp cb pc len rc (.lstore i) = true) (hd : decode cc pc = .ok (rc, len)) (k : sm_KK p l e R s m args below meth c Q D cy b base w0 nL (pc + len) (sm_put2 lv i (.long x)) (r) (w)) : sm_KK p l e R s m args below meth c Q D cy b base w0 nL (pc) (lv) (.long x :: r) (w) := by
  simp only [sm_enc, Bool.and_eq_true] at he
  obtain ⟨he, hn⟩ := he
  have hn := Nat.le_of_ble_eq_true hn
  intro H locs cells slots ls J
  split at he
  · simp only [Bool.and_eq_true] at he
    have h1 := Nat.eq_of_beq_eq_true he.1
    have := Nat.eq_of_beq_eq_true he.2
    subst this; subst h1
    exact lv_lstore C.1 C.2.1 hd J.2.2.1 hn (sm_put2_map b base lv _ (.long x)) (fun ls' hl' => k H locs cells slots ls' (J.lvs hl'))
  · simp only [Bool.and_eq_true] at he
    have h1 := Nat.eq_of_beq_eq_true he.1
    have := Nat.eq_of_beq_eq_true he.2
    subst this
    exact lv_lstore_n C.1 C.2.1 hd h1 J.2.2.1 hn (sm_put2_map b base lv _ (.long x)) (fun ls' hl' => k H locs cells slots ls' (J.lvs hl'))
  · cases he
theorem sm_ok_astore (C : sm_C p s m args c D cy b base nL cc o L xs) {i : Nat} {x : Value} (hx : (∃ a, x = .ref a) ∨ x = .null) (he : sm_enc o ini nL ret bo bp cb pc len rc (.astore i) = true) (hd : decode cc pc = .ok (rc, len)) (k : sm_KK p l e R s m args below meth c Q D cy b base w0 nL (pc + len) (sm_put lv i x) (r) (w)) : sm_KK p l e R s m args below meth c Q D cy b base w0 nL (pc) (lv) (x :: r) (w) := by
  simp only [sm_enc, Bool.and_eq_true] at he
  obtain ⟨he, hn⟩ := he
  have hn := Nat.le_of_ble_eq_true hn
  intro H locs cells slots ls J
  split at he
  · simp only [Bool.and_eq_true] at he
    have h1 := Nat.eq_of_beq_eq_true he.1
    have := Nat.eq_of_beq_eq_true he.2
    subst this; subst h1
    rcases hx with ⟨a, rfl⟩ | rfl
    · exact lv_astore C.1 C.2.1 hd J.2.2.1 hn (sm_put_map b base lv _ (.ref a)) (fun ls' hl' => k H locs cells slots ls' (J.lvs hl'))
    · exact lv_astoreN C.1 C.2.1 hd J.2.2.1 hn (sm_put_map b base lv _ .null) (fun ls' hl' => k H locs cells slots ls' (J.lvs hl'))
  · simp only [Bool.and_eq_true] at he
    have h1 := Nat.eq_of_beq_eq_true he.1
    have := Nat.eq_of_beq_eq_true he.2
    subst this
    rcases hx with ⟨a, rfl⟩ | rfl
    · exact lv_astore_n C.1 C.2.1 hd h1 J.2.2.1 hn (sm_put_map b base lv _ (.ref a)) (fun ls' hl' => k H locs cells slots ls' (J.lvs hl'))
    · exact lv_astore_nN C.1 C.2.1 hd h1 J.2.2.1 hn (sm_put_map b base lv _ .null) (fun ls' hl' => k H locs cells slots ls' (J.lvs hl'))
  · cases he
theorem sm_ok_iinc (C : sm_C p s m args c D cy b base nL cc o L xs) {i : Nat} {n : Int} {x : Int32} (he : sm_enc o ini nL ret bo bp cb pc len rc (.iinc i n) = true) (hd : decode cc pc = .ok (rc, len)) (hg : sm_get lv i = some (.int x)) (k : sm_KK p l e R s m args below meth c Q D cy b base w0 nL (pc + len) (sm_put lv i (.int (x + Int32.ofInt n))) (r) (w)) : sm_KK p l e R s m args below meth c Q D cy b base w0 nL (pc) (lv) (r) (w) := by
  simp only [sm_enc, Bool.and_eq_true] at he
  obtain ⟨he, hn⟩ := he
  have hn := Nat.le_of_ble_eq_true hn
  intro H locs cells slots ls J
  split at he
  · simp only [Bool.and_eq_true, decide_eq_true_eq] at he
    obtain ⟨⟨h1, rfl⟩, h2⟩ := he
    have h1 := Nat.eq_of_beq_eq_true h1
    have := Nat.eq_of_beq_eq_true h2
    subst this; subst h1
    have hm : (_, Value.int x) ∈ sm_lm b base lv := List.mem_map.mpr ⟨(_, .int x), sm_get_mem hg, rfl⟩
    obtain ⟨q, hq⟩ := List.getElem?_of_mem hm
    exact lv_iinc C.1 C.2.1 hd J.2.2.1 hq rfl hn (sm_put_map b base lv _ (.int (x + Int32.ofInt _))) (fun ls' hl' => k H locs cells slots ls' (J.lvs hl'))
  · cases he
theorem sm_ok_dup (C : sm_C p s m args c D cy b base nL cc o L xs) {x : Value} (hx : x.category = 1) (hd : decode cc pc = .ok (.dup, 1)) (k : sm_KK p l e R s m args below meth c Q D cy b base w0 nL (pc + 1) (lv) (x :: x :: r) (w)) : sm_KK p l e R s m args below meth c Q D cy b base w0 nL (pc) (lv) (x :: r) (w) := by
  intro H locs cells slots ls J
  exact lv_dup C.1 C.2.1 hd (by rw [sm_v_cat]; exact hx) (k H locs cells slots ls J)
theorem sm_ok_dup2 (C : sm_C p s m args c D cy b base nL cc o L xs) {x y : Value} (hx : x.category = 1) (hy : y.category = 1) (hd : decode cc pc = .ok (.dup2, 1)) (k : sm_KK p l e R s m args below meth c Q D cy b base w0 nL (pc + 1) (lv) (y :: x :: y :: x :: r) (w)) : sm_KK p l e R s m args below meth c Q D cy b base w0 nL (pc) (lv) (y :: x :: r) (w) := by
  intro H locs cells slots ls J
  exact lv_dup2_11 C.1 C.2.1 hd (by rw [sm_v_cat]; exact hy) (by rw [sm_v_cat]; exact hx) (k H locs cells slots ls J)
theorem sm_ok_pop (C : sm_C p s m args c D cy b base nL cc o L xs) {x : Value} (hx : x.category = 1) (hd : decode cc pc = .ok (.pop, 1)) (k : sm_KK p l e R s m args below meth c Q D cy b base w0 nL (pc + 1) (lv) (r) (w)) : sm_KK p l e R s m args below meth c Q D cy b base w0 nL (pc) (lv) (x :: r) (w) := by
  intro H locs cells slots ls J
  exact lv_pop C.1 C.2.1 hd (by rw [sm_v_cat]; exact hx) (k H locs cells slots ls J)
theorem sm_ci {H : Heap} {a ci : Nat} {fs : List Value} (hP : va_P D sm_cl (sm_ws cy b base w) H) (h : w[a]? = some (.inr (ci, fs))) : ci < 12 := by
  obtain ⟨q, hq, -⟩ := hP a _ (sm_ws_get h)
  have := (List.getElem?_eq_some_iff.mp hq).1
  simpa [sm_cl] using this
theorem sm_LF_use {idx n ci : Nat} (h : sm_inLF o idx n = true) (hc : ci < 12) (hs : sm_sub ci (n / 512) = true) : ∃ ref : String, n / 4 % 128 < sm_N ci ∧ Cond.fieldLink (sm_cn o) idx ref (sm_T ci (n / 4 % 128)).2.1 (sm_T ci (n / 4 % 128)).2.2.1 ∈ sm_ts
    ∧ (ref = (sm_T ci (n / 4 % 128)).1 ∨ Cond.sameField ref (sm_T ci (n / 4 % 128)).1 (sm_T ci (n / 4 % 128)).2.1 (sm_T ci (n / 4 % 128)).2.2.1 ∈ sm_ts)
    ∧ (match sm_ty ci (n / 4 % 128) with | .int => Nat.beq (n % 4) 0 | .long => Nat.beq (n % 4) 1 | .boolean => Nat.beq (n % 4) 2 | .object _ => Nat.beq (n % 4) 3 | .array _ => Nat.beq (n % 4) 3 | _ => false) = true := by
  unfold sm_inLF at h
  obtain ⟨q, hq, h1⟩ := List.any_eq_true.mp h
  simp only [Bool.and_eq_true] at h1
  have e1 := Nat.eq_of_beq_eq_true h1.1.1
  have e2 := Nat.eq_of_beq_eq_true h1.1.2
  have e3 := Nat.eq_of_beq_eq_true h1.2
  have h2 := List.all_eq_true.mp sm_okLF_ok q hq
  obtain ⟨q1, q2, q3, q4, q5, q6⟩ := q
  dsimp only at e1 e2 e3
  subst e1; subst e2; subst e3
  unfold sm_okLF at h2
  have h3 := List.all_eq_true.mp h2 ci (List.mem_range.mpr hc)
  rw [hs] at h3
  simp only [Bool.not_true, Bool.false_or, Bool.and_eq_true, Bool.or_eq_true, decide_eq_true_eq] at h3
  obtain ⟨⟨⟨g1, g2⟩, g3⟩, g4⟩ := h3
  exact ⟨q4, Nat.le_of_ble_eq_true g1, sm_good (sm_at_mem g2) rfl, g3.imp id (fun g => sm_good (sm_at_mem g) rfl), g4⟩
theorem sm_same (C : sm_C p s m args c D cy b base nL cc o L xs) {ci k : Nat} {ref : String} (h : ref = (sm_T ci k).1 ∨ Cond.sameField ref (sm_T ci k).1 (sm_T ci k).2.1 (sm_T ci k).2.2.1 ∈ sm_ts) : ∀ x, s.fieldFound? (sm_T ci k).1 (sm_T ci k).2.1 (sm_T ci k).2.2.1 = some x → s.fieldFound? ref (sm_T ci k).2.1 (sm_T ci k).2.2.1 = some x := by
  intro x hx
  rcases h with h | h
  · rw [h]; exact hx
  · exact u_same (C.2.2.2.1 _ h) x hx
theorem sm_ok_getf (C : sm_C p s m args c D cy b base nL cc o L xs) {n a : Nat} {v : Value} (he : sm_enc o ini nL ret bo bp cb pc len rc (.getfield n) = true) (hd : decode cc pc = .ok (rc, len)) (hf : sm_fd w a n = some v) (k : sm_KK p l e R s m args below meth c Q D cy b base w0 nL (pc + len) (lv) (v :: r) (w)) : sm_KK p l e R s m args below meth c Q D cy b base w0 nL (pc) (lv) (.ref a :: r) (w) := by
  simp only [sm_enc] at he
  obtain ⟨ci, fs, h1, h2, h3⟩ := sm_fd_some hf
  intro H locs cells slots ls J
  have hc := sm_ci J.1 h1
  split at he
  · simp only [Bool.and_eq_true] at he
    have := Nat.eq_of_beq_eq_true he.2
    subst this
    obtain ⟨ref, g1, g2, g3, -⟩ := sm_LF_use he.1 hc h2
    exact va_get C.1 C.2.1 C.2.2.2.1 (sm_cin hc) C.2.2.1 C.2.2.2.2.1.1 J.1 a (sm_ws_get h1) (sm_cl_get hc) (n / 4 % 128) g1 (C.2.2.2.1 _ g2) (sm_same C g3) (by rw [List.getElem?_map, h3]; rfl) hd (k H locs cells slots ls J)
  · cases he
theorem sm_fits {ty : FieldType} {t : Nat} {v : Value} (ht : (match ty with | .int => Nat.beq t 0 | .long => Nat.beq t 1 | .boolean => Nat.beq t 2 | .object _ => Nat.beq t 3 | .array _ => Nat.beq t 3 | _ => false) = true) (hv : sm_fok t v = true) : narrow ty (sm_v b base v) = sm_v b base v ∧ fits ty (sm_v b base v) = true := by
  cases ty <;> first | (cases ht; done) | (have e := Nat.eq_of_beq_eq_true ht; subst e; cases v <;> first | (simp [sm_fok] at hv; done) | exact ⟨rfl, rfl⟩ | skip)
  rename_i x
  simp [sm_fok] at hv
  rcases hv with rfl | rfl <;> exact ⟨rfl, rfl⟩
theorem sm_ok_putf (C : sm_C p s m args c D cy b base nL cc o L xs) (hini : ini = true → meth.name = "<init>") {n a : Nat} {v : Value} {w' : sm_W} (he : sm_enc o ini nL ret bo bp cb pc len rc (.putfield n) = true) (hd : decode cc pc = .ok (rc, len)) (hf : sm_pf w a n v = some w') (k : sm_KK p l e R s m args below meth c Q D cy b base w0 nL (pc + len) (lv) (r) (w')) : sm_KK p l e R s m args below meth c Q D cy b base w0 nL (pc) (lv) (v :: .ref a :: r) (w) := by
  simp only [sm_enc, Bool.and_eq_true] at he
  obtain ⟨he, hfin⟩ := he
  obtain ⟨ci, fs, h1, h2, h3, h4, rfl⟩ := sm_pf_some hf
  intro H locs cells slots ls J
  have hc := sm_ci J.1 h1
  split at he
  · simp only [Bool.and_eq_true] at he
    have := Nat.eq_of_beq_eq_true he.2
    subst this
    obtain ⟨ref, g1, g2, g3, g4⟩ := sm_LF_use he.1 hc h2
    have hfi := List.all_eq_true.mp hfin ci (List.mem_range.mpr hc)
    rw [h2] at hfi
    obtain ⟨hn, hfit⟩ := sm_fits (b := b) (base := base) g4 h4
    have hkk : ∀ (H1 : Heap) (locs1 : List Loc), va_P D sm_cl ((sm_ws cy b base w).set a (base + a, .inr (ci, (fs.map (sm_v b base)).set (n / 4 % 128) (sm_v b base v)))) H1 → va_D (fun q => base ≤ q) ((sm_ws cy b base w).set a (base + a, .inr (ci, (fs.map (sm_v b base)).set (n / 4 % 128) (sm_v b base v)))) → va_S (fun q => base ≤ q) s.heap H1 locs1 → W p l e R s m args below meth c H1 locs1 cells slots Q (F0 m (pc + 3) ls (r.map (sm_v b base))) := by
      intro H1 locs1 hP1 _ hS1
      refine k H1 locs1 cells slots ls (J.store h1 (by simp [sm_sl]) ?_ hS1)
      show va_P D sm_cl ((sm_ws cy b base w).set a (base + a, .inr (ci, (fs.set (n / 4 % 128) v).map (sm_v b base)))) H1
      rw [List.map_set]
      exact hP1
    cases hb : (sm_T ci (n / 4 % 128)).2.2.2 with
    | false => exact va_put C.1 C.2.1 C.2.2.2.1 (sm_cin hc) (sm_ty ci) (sm_cty hc) (sm_cnm hc) C.2.2.1 C.2.2.2.2.1.1 J.1 (sm_ws_D cy b base w) J.2.1 a (sm_ws_get h1) (sm_cl_get hc) (n / 4 % 128) g1 (C.2.2.2.1 _ g2) (sm_same C g3) hb (sm_cty hc _ g1) hn hfit (by rw [List.length_map]; exact h3) hd hkk
    | true =>
      rw [hb] at hfi
      simp only [Bool.not_true, Bool.false_or, Bool.and_eq_true, decide_eq_true_eq] at hfi
      exact va_putF C.1 C.2.1 C.2.2.2.1 (sm_cin hc) (sm_ty ci) (sm_cty hc) (sm_cnm hc) C.2.2.1 C.2.2.2.2.1.1 J.1 (sm_ws_D cy b base w) J.2.1 a (sm_ws_get h1) (sm_cl_get hc) (n / 4 % 128) g1 (C.2.2.2.1 _ g2) (sm_same C g3) hb (hini hfi.1) hfi.2 (sm_cty hc _ g1) hn hfit (by rw [List.length_map]; exact h3) hd hkk
  · cases he
end OPS3
end
section
/-! rows, new objects, kinds -/
section OPS4
variable {p : Program} {l : Launch} {e : Env} {R : Room} {s : State} {m : MethodId} {args : Array Value} {below : List Frame} {meth : Method} {c : Code} {Q : State → Prop} {D : va_G} {cy : Nat → ClassId} {b base : Nat} {w0 : sm_W} {nL : Nat}
variable {cc : ByteArray} {o : Nat} {L : Nat} {xs : Nat → Int32} {pc : Nat} {lv : sm_L} {r : List Value} {w : sm_W}
variable {ini : Bool} {ret : Option FieldType} {bo : Bool} {bp : List Nat} {cb len : Nat} {rc : sm_I}
theorem sm_ok_iaload (C : sm_C p s m args c D cy b base nL cc o L xs) {a n : Nat} {f : Nat → Int32} {i : Int32} (hd : decode cc pc = .ok (.iaload, 1)) (ha : w[a]? = some (.inl (0, n, .inl f))) (hi : ¬ (i < 0 ∨ n ≤ i.toNatClampNeg)) (k : sm_KK p l e R s m args below meth c Q D cy b base w0 nL (pc + 1) (lv) (.int (f i.toNatClampNeg) :: r) (w)) : sm_KK p l e R s m args below meth c Q D cy b base w0 nL (pc) (lv) (.int i :: .ref a :: r) (w) := by
  intro H locs cells slots ls J
  exact va_iald C.1 C.2.1 C.2.2.2.2.1.1 J.1 a 0 (sm_ws_get ha) rfl hi hd (k H locs cells slots ls J)
theorem sm_ok_sload (C : sm_C p s m args c D cy b base nL cc o L xs) {a : Nat} {i : Int32} (hd : decode cc pc = .ok (.iaload, 1)) (hi : ¬ (i < 0 ∨ L ≤ i.toNatClampNeg)) (k : sm_KK p l e R s m args below meth c Q D cy b base w0 nL (pc + 1) (lv) (.int (xs i.toNatClampNeg) :: r) (w)) : sm_KK p l e R s m args below meth c Q D cy b base w0 nL (pc) (lv) (.int i :: .retAddr a :: r) (w) := by
  intro H locs cells slots ls J
  obtain ⟨h1, h2, h3, h4, h5, h6, h7, h8, -⟩ := C
  exact va_sld h1 h2 h6 (Nat.lt_of_lt_of_le h7 h8) (Nat.not_le.mpr h7) J.2.1 hi hd (k H locs cells slots ls J)
theorem sm_ok_slen (C : sm_C p s m args c D cy b base nL cc o L xs) {a : Nat} (hd : decode cc pc = .ok (.arraylength, 1)) (k : sm_KK p l e R s m args below meth c Q D cy b base w0 nL (pc + 1) (lv) (.int (Int32.ofNat L) :: r) (w)) : sm_KK p l e R s m args below meth c Q D cy b base w0 nL (pc) (lv) (.retAddr a :: r) (w) := by
  intro H locs cells slots ls J
  obtain ⟨h1, h2, h3, h4, h5, h6, h7, h8, -⟩ := C
  exact va_slen h1 h2 h6 (Nat.lt_of_lt_of_le h7 h8) (Nat.not_le.mpr h7) J.2.1 hd (k H locs cells slots ls J)
theorem sm_ok_alen (C : sm_C p s m args c D cy b base nL cc o L xs) {a n : Nat} {f : Nat → Int32} (hd : decode cc pc = .ok (.arraylength, 1)) (ha : w[a]? = some (.inl (0, n, .inl f))) (k : sm_KK p l e R s m args below meth c Q D cy b base w0 nL (pc + 1) (lv) (.int (Int32.ofNat n) :: r) (w)) : sm_KK p l e R s m args below meth c Q D cy b base w0 nL (pc) (lv) (.ref a :: r) (w) := by
  intro H locs cells slots ls J
  exact va_alen C.1 C.2.1 C.2.2.2.2.1.1 J.1 a 0 (sm_ws_get ha) (ty := .int) rfl rfl hd (k H locs cells slots ls J)
theorem sm_ok_baload (C : sm_C p s m args c D cy b base nL cc o L xs) {a n : Nat} {f : Nat → Int32} {i : Int32} (hd : decode cc pc = .ok (.baload, 1)) (ha : w[a]? = some (.inl (2, n, .inl f))) (hi : ¬ (i < 0 ∨ n ≤ i.toNatClampNeg)) (k : sm_KK p l e R s m args below meth c Q D cy b base w0 nL (pc + 1) (lv) (.int (f i.toNatClampNeg) :: r) (w)) : sm_KK p l e R s m args below meth c Q D cy b base w0 nL (pc) (lv) (.int i :: .ref a :: r) (w) := by
  intro H locs cells slots ls J
  exact va_zald C.1 C.2.1 C.2.2.2.2.1.1 J.1 a 2 (sm_ws_get ha) rfl hi hd (k H locs cells slots ls J)
theorem sm_ok_laload (C : sm_C p s m args c D cy b base nL cc o L xs) {a n : Nat} {f : Nat → Int64} {i : Int32} (hd : decode cc pc = .ok (.laload, 1)) (ha : w[a]? = some (.inl (1, n, .inr (.inl f)))) (hi : ¬ (i < 0 ∨ n ≤ i.toNatClampNeg)) (k : sm_KK p l e R s m args below meth c Q D cy b base w0 nL (pc + 1) (lv) (.long (f i.toNatClampNeg) :: r) (w)) : sm_KK p l e R s m args below meth c Q D cy b base w0 nL (pc) (lv) (.int i :: .ref a :: r) (w) := by
  intro H locs cells slots ls J
  exact va_lald C.1 C.2.1 C.2.2.2.2.1.1 J.1 a 1 (sm_ws_get ha) rfl hi hd (k H locs cells slots ls J)
theorem sm_rf (q : Option Nat) : va_rf (q.map (fun k => base + k)) = sm_v b base (va_rf q) := by cases q <;> rfl
theorem sm_ok_aaload (C : sm_C p s m args c D cy b base nL cc o L xs) {a n t : Nat} {f : Nat → Option Nat} {i : Int32} (ht : t = 3 ∨ t = 4) (hd : decode cc pc = .ok (.aaload, 1)) (ha : w[a]? = some (.inl (t, n, .inr (.inr (.inr (.inr f)))))) (hi : ¬ (i < 0 ∨ n ≤ i.toNatClampNeg)) (k : sm_KK p l e R s m args below meth c Q D cy b base w0 nL (pc + 1) (lv) (va_rf (f i.toNatClampNeg) :: r) (w)) : sm_KK p l e R s m args below meth c Q D cy b base w0 nL (pc) (lv) (.int i :: .ref a :: r) (w) := by
  intro H locs cells slots ls J
  have hk := k H locs cells slots ls J
  rw [List.map_cons, ← sm_rf] at hk
  rcases ht with rfl | rfl
  · exact va_aldq C.1 C.2.1 C.2.2.2.2.1.1 J.1 a 3 (sm_ws_get ha) rfl hi hd hk
  · exact va_aldq C.1 C.2.1 C.2.2.2.2.1.1 J.1 a 4 (sm_ws_get ha) rfl hi hd hk
theorem sm_ok_iastore (C : sm_C p s m args c D cy b base nL cc o L xs) {a n : Nat} {f : Nat → Int32} {i x : Int32} (hd : decode cc pc = .ok (.iastore, 1)) (ha : w[a]? = some (.inl (0, n, .inl f))) (hi : ¬ (i < 0 ∨ n ≤ i.toNatClampNeg)) (k : sm_KK p l e R s m args below meth c Q D cy b base w0 nL (pc + 1) (lv) (r) (w.set a (.inl (0, n, .inl (upd f i.toNatClampNeg x))))) : sm_KK p l e R s m args below meth c Q D cy b base w0 nL (pc) (lv) (.int x :: .int i :: .ref a :: r) (w) := by
  intro H locs cells slots ls J
  exact va_iast C.1 C.2.1 C.2.2.2.2.1.1 J.1 (sm_ws_D cy b base w) J.2.1 a 0 (sm_ws_get ha) rfl hi hd (fun H1 locs1 hP _ hS => k H1 locs1 cells slots ls (J.store ha rfl hP hS))
theorem sm_nar {x : Int32} (h : x = 0 ∨ x = 1) : vp_nar .boolean x = x := by rcases h with rfl | rfl <;> rfl
theorem sm_ok_bastore (C : sm_C p s m args c D cy b base nL cc o L xs) {a n : Nat} {f : Nat → Int32} {i x : Int32} (hd : decode cc pc = .ok (.bastore, 1)) (ha : w[a]? = some (.inl (2, n, .inl f))) (hi : ¬ (i < 0 ∨ n ≤ i.toNatClampNeg)) (hx : x = 0 ∨ x = 1) (k : sm_KK p l e R s m args below meth c Q D cy b base w0 nL (pc + 1) (lv) (r) (w.set a (.inl (2, n, .inl (upd f i.toNatClampNeg x))))) : sm_KK p l e R s m args below meth c Q D cy b base w0 nL (pc) (lv) (.int x :: .int i :: .ref a :: r) (w) := by
  intro H locs cells slots ls J
  refine va_zast C.1 C.2.1 C.2.2.2.2.1.1 J.1 (sm_ws_D cy b base w) J.2.1 a 2 (sm_ws_get ha) rfl hi hd (fun H1 locs1 hP _ hS => ?_)
  rw [sm_nar hx] at hP
  exact k H1 locs1 cells slots ls (J.store ha rfl hP hS)
theorem sm_ok_lastore (C : sm_C p s m args c D cy b base nL cc o L xs) {a n : Nat} {f : Nat → Int64} {i : Int32} {x : Int64} (hd : decode cc pc = .ok (.lastore, 1)) (ha : w[a]? = some (.inl (1, n, .inr (.inl f)))) (hi : ¬ (i < 0 ∨ n ≤ i.toNatClampNeg)) (k : sm_KK p l e R s m args below meth c Q D cy b base w0 nL (pc + 1) (lv) (r) (w.set a (.inl (1, n, .inr (.inl (vp_updL f i.toNatClampNeg x)))))) : sm_KK p l e R s m args below meth c Q D cy b base w0 nL (pc) (lv) (.long x :: .int i :: .ref a :: r) (w) := by
  intro H locs cells slots ls J
  exact va_last C.1 C.2.1 C.2.2.2.2.1.1 J.1 (sm_ws_D cy b base w) J.2.1 a 1 (sm_ws_get ha) rfl hi hd (fun H1 locs1 hP _ hS => k H1 locs1 cells slots ls (J.store ha rfl hP hS))
theorem sm_upm (f : Nat → Option Nat) (j : Nat) (q : Option Nat) : va_up (fun i => (f i).map (fun k => base + k)) j (q.map (fun k => base + k)) = fun i => (va_up f j q i).map (fun k => base + k) := by
  funext i
  unfold va_up
  split <;> rfl
theorem sm_cast4 : ∀ ci, 7 ≤ ci → ci ≤ 11 → Cond.castable (sm_cn ci) "WordGrid$WordList" ∈ lw_tbl := by
  intro ci h1 h2
  rcases (show ci = 7 ∨ ci = 8 ∨ ci = 9 ∨ ci = 10 ∨ ci = 11 by omega) with rfl | rfl | rfl | rfl | rfl
  · exact List.mem_of_getElem? (i := 1534) (by decide +kernel)
  · exact List.mem_of_getElem? (i := 1535) (by decide +kernel)
  · exact List.mem_of_getElem? (i := 1531) (by decide +kernel)
  · exact List.mem_of_getElem? (i := 1533) (by decide +kernel)
  · exact List.mem_of_getElem? (i := 1532) (by decide +kernel)
theorem sm_cast7 : ∀ ci, 7 ≤ ci → ci ≤ 9 → Cond.castable (sm_cn ci) "WordGrid$Plain" ∈ lw_tbl := by
  intro ci h1 h2
  rcases (show ci = 7 ∨ ci = 8 ∨ ci = 9 by omega) with rfl | rfl | rfl
  · exact List.mem_of_getElem? (i := 1529) (by decide +kernel)
  · exact List.mem_of_getElem? (i := 1530) (by decide +kernel)
  · exact List.mem_of_getElem? (i := 1528) (by decide +kernel)
theorem sm_sub12 {ci : Nat} (h : sm_sub ci 12 = true) : ci = 12 ∨ (7 ≤ ci ∧ ci ≤ 11) := by
  unfold sm_sub at h
  simp only [Bool.or_eq_true, Bool.and_eq_true] at h
  rcases h with ((h | h) | h) | h
  · exact Or.inl (Nat.eq_of_beq_eq_true h)
  · exact Or.inr ⟨Nat.le_of_ble_eq_true h.2.1, Nat.le_of_ble_eq_true h.2.2⟩
  · exact absurd h.1 (by decide)
  · exact absurd h (by decide)
theorem sm_sub7 {ci : Nat} (h : sm_sub ci 7 = true) : 7 ≤ ci ∧ ci ≤ 9 := by
  unfold sm_sub at h
  simp only [Bool.or_eq_true, Bool.and_eq_true] at h
  rcases h with ((h | h) | h) | h
  · have := Nat.eq_of_beq_eq_true h; omega
  · exact absurd h.1 (by decide)
  · rcases h.2 with h | h <;> (have := Nat.eq_of_beq_eq_true h; omega)
  · exact absurd h (by decide)
theorem sm_ok_aastore (C : sm_C p s m args c D cy b base nL cc o L xs) {a n t v ci : Nat} {f : Nat → Option Nat} {fs : List Value} {i : Int32} (hd : decode cc pc = .ok (.aastore, 1)) (ha : w[a]? = some (.inl (t, n, .inr (.inr (.inr (.inr f)))))) (hv : w[v]? = some (.inr (ci, fs))) (ht : (t = 3 ∧ ci = 5) ∨ (t = 4 ∧ sm_sub ci 12 = true)) (hi : ¬ (i < 0 ∨ n ≤ i.toNatClampNeg)) (k : sm_KK p l e R s m args below meth c Q D cy b base w0 nL (pc + 1) (lv) (r) (w.set a (.inl (t, n, .inr (.inr (.inr (.inr (va_up f i.toNatClampNeg (some v))))))))) : sm_KK p l e R s m args below meth c Q D cy b base w0 nL (pc) (lv) (.ref v :: .int i :: .ref a :: r) (w) := by
  intro H locs cells slots ls J
  have hc := sm_ci J.1 hv
  have e1 := sm_upm (base := base) f i.toNatClampNeg (some v)
  rcases ht with ⟨rfl, rfl⟩ | ⟨rfl, h4⟩
  · refine va_astq C.1 C.2.1 C.2.2.2.2.1.1 J.1 (sm_ws_D cy b base w) J.2.1 a 3 v 5 (sm_ws_get ha) (r := (sm_cn 5, sm_T 5, sm_N 5)) rfl (sm_ws_get hv) (sm_cl_get hc) hi hd (fun H1 locs1 hP _ hS => ?_)
    refine k H1 locs1 cells slots ls (J.store ha rfl ?_ hS)
    show va_P D sm_cl ((sm_ws cy b base w).set a (base + a, .inl (cy 3, n, .inr (.inr (.inr (.inr (fun j => (va_up f i.toNatClampNeg (some v) j).map (fun k => base + k)))))))) H1
    rw [← e1]
    exact hP
  · have h5 := sm_sub12 h4
    have hcast : va_Nw (.castable (sm_cn ci) "WordGrid$WordList") s := C.2.2.2.2.1.2.1 _ (sm_cast4 ci (by omega) (by omega)) rfl
    refine va_astqO C.1 C.2.1 C.2.2.2.2.1.1 J.1 (sm_ws_D cy b base w) J.2.1 a 4 v ci (E := "WordGrid$WordList") (sm_ws_get ha) rfl (r := (sm_cn ci, sm_T ci, sm_N ci)) hcast (sm_ws_get hv) (sm_cl_get hc) hi hd (fun H1 locs1 hP _ hS => ?_)
    refine k H1 locs1 cells slots ls (J.store ha rfl ?_ hS)
    show va_P D sm_cl ((sm_ws cy b base w).set a (base + a, .inl (cy 4, n, .inr (.inr (.inr (.inr (fun j => (va_up f i.toNatClampNeg (some v) j).map (fun k => base + k)))))))) H1
    rw [← e1]
    exact hP
theorem sm_ok_aastoreN (C : sm_C p s m args c D cy b base nL cc o L xs) {a n : Nat} {f : Nat → Option Nat} {i : Int32} (hd : decode cc pc = .ok (.aastore, 1)) (ha : w[a]? = some (.inl (4, n, .inr (.inr (.inr (.inr f)))))) (hi : ¬ (i < 0 ∨ n ≤ i.toNatClampNeg)) (k : sm_KK p l e R s m args below meth c Q D cy b base w0 nL (pc + 1) (lv) (r) (w.set a (.inl (4, n, .inr (.inr (.inr (.inr (va_up f i.toNatClampNeg none)))))))) : sm_KK p l e R s m args below meth c Q D cy b base w0 nL (pc) (lv) (.null :: .int i :: .ref a :: r) (w) := by
  intro H locs cells slots ls J
  have e1 := sm_upm (base := base) f i.toNatClampNeg none
  refine va_astqN C.1 C.2.1 C.2.2.2.2.1.1 J.1 (sm_ws_D cy b base w) J.2.1 a 4 (C := "WordGrid$WordList") (sm_ws_get ha) rfl hi hd (fun H1 locs1 hP _ hS => ?_)
  refine k H1 locs1 cells slots ls (J.store ha rfl ?_ hS)
  show va_P D sm_cl ((sm_ws cy b base w).set a (base + a, .inl (cy 4, n, .inr (.inr (.inr (.inr (fun j => (va_up f i.toNatClampNeg none j).map (fun k => base + k)))))))) H1
  rw [← e1]
  exact hP
theorem sm_LC_use {idx n : Nat} (h : sm_inLC o idx n = true) : Cond.classLink (sm_cn o) idx (bif Nat.beq n 103 then "WordGrid$Grid" else bif Nat.beq n 104 then "WordGrid$WordList" else sm_cn n) ∈ sm_ts := by
  unfold sm_inLC at h
  obtain ⟨q, hq, h1⟩ := List.any_eq_true.mp h
  simp only [Bool.and_eq_true] at h1
  have e1 := Nat.eq_of_beq_eq_true h1.1.1
  have e2 := Nat.eq_of_beq_eq_true h1.1.2
  have e3 := Nat.eq_of_beq_eq_true h1.2
  have h2 := List.all_eq_true.mp sm_okLC_ok q hq
  obtain ⟨q1, q2, q3, q4⟩ := q
  dsimp only at e1 e2 e3
  subst e1; subst e2; subst e3
  unfold sm_okLC at h2
  simp only [Bool.and_eq_true] at h2
  exact sm_good (sm_at_mem h2.1) rfl
theorem sm_ok_cast (C : sm_C p s m args c D cy b base nL cc o L xs) {a n ci : Nat} {fs : List Value} (he : sm_enc o ini nL ret bo bp cb pc len rc (.checkcast n) = true) (hd : decode cc pc = .ok (rc, len)) (ha : w[a]? = some (.inr (ci, fs))) (hs : sm_sub ci n = true) (k : sm_KK p l e R s m args below meth c Q D cy b base w0 nL (pc + len) (lv) (.ref a :: r) (w)) : sm_KK p l e R s m args below meth c Q D cy b base w0 nL (pc) (lv) (.ref a :: r) (w) := by
  simp only [sm_enc] at he
  intro H locs cells slots ls J
  split at he
  · simp only [Bool.and_eq_true] at he
    have h3 := Nat.eq_of_beq_eq_true he.2
    have h7 := Nat.eq_of_beq_eq_true he.1.2
    subst h3; subst h7
    have h4 := sm_sub7 hs
    exact va_castY C.1 C.2.1 C.2.2.1 (C.2.2.2.1 _ (sm_LC_use he.1.1)) (C.2.2.2.2.1.2.1 _ (sm_cast7 ci h4.1 h4.2) rfl) (va_recv C.2.2.2.2.1.1 J.1 (sm_cl_get (by omega)) (sm_ws_get ha)) hd (k H locs cells slots ls J)
  · cases he
theorem sm_ok_inst (C : sm_C p s m args c D cy b base nL cc o L xs) {a n ci : Nat} {fs : List Value} (he : sm_enc o ini nL ret bo bp cb pc len rc (.instanceof n) = true) (hd : decode cc pc = .ok (rc, len)) (ha : w[a]? = some (.inr (ci, fs))) (hs : sm_sub ci 12 = true) (k : sm_KK p l e R s m args below meth c Q D cy b base w0 nL (pc + len) (lv) (.int (bif sm_sub ci n then 1 else 0) :: r) (w)) : sm_KK p l e R s m args below meth c Q D cy b base w0 nL (pc) (lv) (.ref a :: r) (w) := by
  simp only [sm_enc] at he
  intro H locs cells slots ls J
  have hk := k H locs cells slots ls J
  have hc := sm_ci J.1 ha
  split at he
  · simp only [Bool.and_eq_true] at he
    have h3 := Nat.eq_of_beq_eq_true he.2
    have h7 := Nat.eq_of_beq_eq_true he.1.2
    subst h3; subst h7
    have h4 := sm_sub12 hs
    have hl := C.2.2.2.1 _ (sm_LC_use he.1.1)
    rcases (show ci = 7 ∨ ci = 8 ∨ ci = 9 ∨ ci = 10 ∨ ci = 11 by omega) with rfl | rfl | rfl | rfl | rfl
    · exact va_instY C.1 C.2.1 C.2.2.1 hl (C.2.2.2.2.1.2.1 _ (sm_cast7 7 (by omega) (by omega)) rfl) (va_recv C.2.2.2.2.1.1 J.1 (sm_cl_get hc) (sm_ws_get ha)) hd hk
    · exact va_instY C.1 C.2.1 C.2.2.1 hl (C.2.2.2.2.1.2.1 _ (sm_cast7 8 (by omega) (by omega)) rfl) (va_recv C.2.2.2.2.1.1 J.1 (sm_cl_get hc) (sm_ws_get ha)) hd hk
    · exact va_instY C.1 C.2.1 C.2.2.1 hl (C.2.2.2.2.1.2.1 _ (sm_cast7 9 (by omega) (by omega)) rfl) (va_recv C.2.2.2.2.1.1 J.1 (sm_cl_get hc) (sm_ws_get ha)) hd hk
    · exact va_instNo C.1 C.2.1 C.2.2.1 hl C.2.2.2.2.1.2.2.2.2.1 (va_recv C.2.2.2.2.1.1 J.1 (sm_cl_get hc) (sm_ws_get ha)) hd hk
    · exact va_instNo C.1 C.2.1 C.2.2.1 hl C.2.2.2.2.1.2.2.2.2.2 (va_recv C.2.2.2.2.1.1 J.1 (sm_cl_get hc) (sm_ws_get ha)) hd hk
  · cases he
/-- a cell is added at the end -/
theorem sm_J.push {H H1 : Heap} {locs : List Loc} {cells slots : Nat} {ls : Array Slot} {x : va_E} (J : sm_J s D cy b base w0 nL w lv H locs cells slots ls) (hbase : base ≤ s.heap.size) (hz : H.size = base + w.length) (z1 : H1.size = base + w.length + 1) (o1 : ∀ q, q < base + w.length → H1[q]? = H[q]?) (e1 : va_at D sm_cl (base + w.length, sm_e cy b base x) H1) : sm_J s D cy b base w0 nL (w ++ [x]) lv H1 locs (cells + 1) (slots + sm_sl x) ls := by
  obtain ⟨h1, h2, h3, h4, h5⟩ := J
  refine ⟨?_, ?_, h3, by rw [List.length_append]; simp; omega, by rw [sm_sz_push]; omega⟩
  · rw [← sm_ws_push]
    refine va_P.app (h1.kept fun k q hq => o1 q.1 (by rw [← hz]; exact (h1 k q hq).lt)) ?_
    intro k q hq
    have hk : k < 1 := (List.getElem?_eq_some_iff.mp hq).1
    rw [show k = 0 by omega] at hq
    cases hq
    exact e1
  · exact ⟨by have := h2.1; omega, fun q g1 g2 => (o1 q (by have := h2.1; omega)).trans (h2.2.1 q g1 g2), h2.2.2⟩
theorem sm_dflt_plain : sm_dflt.all (fun fs => fs.all (fun v => match v with | .ref _ => false | .retAddr _ => false | _ => true)) = true := by decide +kernel
theorem sm_dflt_map {ci : Nat} {fs : List Value} (h : sm_dflt[ci]? = some fs) : fs.map (sm_v b base) = fs := by
  have h1 := List.all_eq_true.mp (List.all_eq_true.mp sm_dflt_plain fs (List.mem_of_getElem? h))
  have h2 : fs.map (sm_v b base) = fs.map id := List.map_congr_left (fun v hv => by
    have h3 := h1 v hv
    cases v <;> first | rfl | (cases h3))
  rw [h2, List.map_id]
theorem sm_ok_new (C : sm_C p s m args c D cy b base nL cc o L xs) {ci : Nat} {fs : List Value} (he : sm_enc o ini nL ret bo bp cb pc len rc (.new ci) = true) (hd : decode cc pc = .ok (rc, len)) (hf : sm_dflt[ci]? = some fs) (hcap : base + (w.length + 1) ≤ s.heap.size + R.cells ∧ sm_sz w + fs.length ≤ sm_sz w0 + R.slots) (k : sm_KK p l e R s m args below meth c Q D cy b base w0 nL (pc + len) (lv) (.ref w.length :: r) (w ++ [.inr (ci, fs)])) : sm_KK p l e R s m args below meth c Q D cy b base w0 nL (pc) (lv) (r) (w) := by
  simp only [sm_enc] at he
  intro H locs cells slots ls J
  split at he
  · simp only [Bool.and_eq_true] at he
    have h3 := Nat.eq_of_beq_eq_true he.2
    have hc := Nat.le_of_ble_eq_true he.1.2
    subst h3
    have hc : ci < 12 := hc
    have hl := C.2.2.2.1 _ (sm_LC_use he.1.1)
    rw [show (bif Nat.beq ci 103 then "WordGrid$Grid" else bif Nat.beq ci 104 then "WordGrid$WordList" else sm_cn ci) = sm_cn ci by
      have e1 : Nat.beq ci 103 = false := by cases hb : Nat.beq ci 103 with | false => rfl | true => exact absurd (Nat.eq_of_beq_eq_true hb) (by omega)
      have e2 : Nat.beq ci 104 = false := by cases hb : Nat.beq ci 104 with | false => rfl | true => exact absurd (Nat.eq_of_beq_eq_true hb) (by omega)
      rw [e1, e2]; rfl] at hl
    have hfl : fs.length = sm_N ci := by
      have := sm_cdl hc
      rw [List.getD_eq_getElem?_getD, hf] at this
      exact this
    have hKn := C.2.2.2.2.1.1.1 ci _ (sm_cl_get hc)
    refine J.size C.2.2.2.2.2.2.2.1 fun hz => ?_
    have hj := J.2.2.2
    refine W.newcK C.1 C.2.1 C.2.2.1 hl (C.2.2.2.1 _ (sm_cinst hc).1) (C.2.2.2.1 _ (sm_cinst hc).2) rfl hd (by omega) (by omega) hKn.2.1 rfl fun H1 kC hkC e1 z1 o1 => ?_
    rw [hz] at e1 z1 o1
    have hJ := J.push (x := .inr (ci, fs)) C.2.2.2.2.2.2.2.1 hz z1 o1 ⟨_, sm_cl_get hc, (u_born (sm_ty ci) C.2.2.2.1 (sm_cin hc) hKn hkC e1 (sm_cty hc)).to (fun j hj => by
      rw [sm_cdf hc j hj, List.getD_eq_getElem?_getD, hf, sm_dflt_map hf]; rfl)⟩
    have hk := k H1 locs _ _ ls hJ
    rw [hz]
    rw [show sm_sl (.inr (ci, fs)) = sm_N ci from hfl] at hk
    exact hk
  · cases he
theorem sm_cap {n : Int32} (h1 : ¬ (n < 0 ∨ 100000 ≤ n)) : ¬ n < 0 ∧ n.toNatClampNeg < 100000 := by
  refine ⟨fun h => h1 (Or.inl h), ?_⟩
  have h2 : ¬ 100000 ≤ n := fun h => h1 (Or.inr h)
  rw [Int32.le_iff_toInt_le] at h2
  have h3 : n.toInt < 100000 := by
    have : (100000 : Int32).toInt = 100000 := by decide
    omega
  have h4 : n.toNatClampNeg = n.toInt.toNat := rfl
  omega
theorem sm_ok_newa_int (C : sm_C p s m args c D cy b base nL cc o L xs) {n : Int32} (hd : decode cc pc = .ok (.newarray .int, 2)) (hn : ¬ (n < 0 ∨ 100000 ≤ n)) (hcap : base + (w.length + 1) ≤ s.heap.size + R.cells ∧ sm_sz w + n.toNatClampNeg ≤ sm_sz w0 + R.slots) (k : sm_KK p l e R s m args below meth c Q D cy b base w0 nL (pc + 2) (lv) (.ref w.length :: r) (w ++ [.inl (0, n.toNatClampNeg, .inl (fun _ => 0))])) : sm_KK p l e R s m args below meth c Q D cy b base w0 nL (pc) (lv) (.int n :: r) (w) := by
  intro H locs cells slots ls J
  obtain ⟨hn1, hn2⟩ := sm_cap hn
  refine J.size C.2.2.2.2.2.2.2.1 fun hz => ?_
  have hj := J.2.2.2
  have hw : Cond.arrayClass .int ∈ sm_ts := sm_good (sm_at_mem sm_okar.1) rfl
  refine va_newaK (atype := .int) C.1 C.2.1 (C.2.2.2.1 _ hw) rfl hd rfl hn1 rfl (Nat.le_trans (Nat.mul_le_mul (Nat.le_of_lt hn2) (show componentBytes (newarray.typeOf .int) ≤ 8 by decide)) (by decide)) (by omega) (by omega) hz fun H1 cA e1 z1 o1 hAr hNm => ?_
  have hcy : cA = cy 0 := Option.some.inj (hNm.symm.trans (C.2.2.2.2.1.1.2 0 _ rfl).2)
  subst hcy
  have hJ := J.push (x := .inl (0, n.toNatClampNeg, .inl (fun _ => 0))) C.2.2.2.2.2.2.2.1 hz z1 o1 e1
  exact k H1 locs _ _ ls hJ

theorem sm_ok_newa_long (C : sm_C p s m args c D cy b base nL cc o L xs) {n : Int32} (hd : decode cc pc = .ok (.newarray .long, 2)) (hn : ¬ (n < 0 ∨ 100000 ≤ n)) (hcap : base + (w.length + 1) ≤ s.heap.size + R.cells ∧ sm_sz w + n.toNatClampNeg ≤ sm_sz w0 + R.slots) (k : sm_KK p l e R s m args below meth c Q D cy b base w0 nL (pc + 2) (lv) (.ref w.length :: r) (w ++ [.inl (1, n.toNatClampNeg, .inr (.inl (fun _ => 0)))])) : sm_KK p l e R s m args below meth c Q D cy b base w0 nL (pc) (lv) (.int n :: r) (w) := by
  intro H locs cells slots ls J
  obtain ⟨hn1, hn2⟩ := sm_cap hn
  refine J.size C.2.2.2.2.2.2.2.1 fun hz => ?_
  have hj := J.2.2.2
  have hw : Cond.arrayClass .long ∈ sm_ts := sm_good (sm_at_mem sm_okar.2.1) rfl
  refine va_newaK (atype := .long) C.1 C.2.1 (C.2.2.2.1 _ hw) rfl hd rfl hn1 rfl (Nat.le_trans (Nat.mul_le_mul (Nat.le_of_lt hn2) (show componentBytes (newarray.typeOf .long) ≤ 8 by decide)) (by decide)) (by omega) (by omega) hz fun H1 cA e1 z1 o1 hAr hNm => ?_
  have hcy : cA = cy 1 := Option.some.inj (hNm.symm.trans (C.2.2.2.2.1.1.2 1 _ rfl).2)
  subst hcy
  have hJ := J.push (x := .inl (1, n.toNatClampNeg, .inr (.inl (fun _ => 0)))) C.2.2.2.2.2.2.2.1 hz z1 o1 e1
  exact k H1 locs _ _ ls hJ

theorem sm_ok_newa_boolean (C : sm_C p s m args c D cy b base nL cc o L xs) {n : Int32} (hd : decode cc pc = .ok (.newarray .boolean, 2)) (hn : ¬ (n < 0 ∨ 100000 ≤ n)) (hcap : base + (w.length + 1) ≤ s.heap.size + R.cells ∧ sm_sz w + n.toNatClampNeg ≤ sm_sz w0 + R.slots) (k : sm_KK p l e R s m args below meth c Q D cy b base w0 nL (pc + 2) (lv) (.ref w.length :: r) (w ++ [.inl (2, n.toNatClampNeg, .inl (fun _ => 0))])) : sm_KK p l e R s m args below meth c Q D cy b base w0 nL (pc) (lv) (.int n :: r) (w) := by
  intro H locs cells slots ls J
  obtain ⟨hn1, hn2⟩ := sm_cap hn
  refine J.size C.2.2.2.2.2.2.2.1 fun hz => ?_
  have hj := J.2.2.2
  have hw : Cond.arrayClass .boolean ∈ sm_ts := sm_good (sm_at_mem sm_okar.2.2.1) rfl
  refine va_newaK (atype := .boolean) C.1 C.2.1 (C.2.2.2.1 _ hw) rfl hd rfl hn1 rfl (Nat.le_trans (Nat.mul_le_mul (Nat.le_of_lt hn2) (show componentBytes (newarray.typeOf .boolean) ≤ 8 by decide)) (by decide)) (by omega) (by omega) hz fun H1 cA e1 z1 o1 hAr hNm => ?_
  have hcy : cA = cy 2 := Option.some.inj (hNm.symm.trans (C.2.2.2.2.1.1.2 2 _ rfl).2)
  subst hcy
  have hJ := J.push (x := .inl (2, n.toNatClampNeg, .inl (fun _ => 0))) C.2.2.2.2.2.2.2.1 hz z1 o1 e1
  exact k H1 locs _ _ ls hJ

theorem sm_ok_anew_3 (C : sm_C p s m args c D cy b base nL cc o L xs) {n : Int32} {idx : Nat} (hd : decode cc pc = .ok (.anewarray idx, 3)) (hl : sm_inLC o idx (100 + 3) = true) (hn : ¬ (n < 0 ∨ 100000 ≤ n)) (hcap : base + (w.length + 1) ≤ s.heap.size + R.cells ∧ sm_sz w + n.toNatClampNeg ≤ sm_sz w0 + R.slots) (k : sm_KK p l e R s m args below meth c Q D cy b base w0 nL (pc + 3) (lv) (.ref w.length :: r) (w ++ [.inl (3, n.toNatClampNeg, .inr (.inr (.inr (.inr (fun _ => none)))))])) : sm_KK p l e R s m args below meth c Q D cy b base w0 nL (pc) (lv) (.int n :: r) (w) := by
  intro H locs cells slots ls J
  obtain ⟨hn1, hn2⟩ := sm_cap hn
  refine J.size C.2.2.2.2.2.2.2.1 fun hz => ?_
  have hj := J.2.2.2
  refine W.anew C.1 C.2.1 C.2.2.1 (C.2.2.2.1 _ (sm_LC_use hl)) (va_AO.use (C := "WordGrid$Grid") C.2.2.2.2.1.2.2.1) rfl hd rfl hn1 (by omega) (by omega) (by omega) fun cA kA comp f1 f2 f3 f4 => ?_
  have hcy : cA = cy 3 := by
    obtain ⟨-, kA2, comp2, g1, g2, g3, g4⟩ := C.2.2.2.2.1.1.2 3 _ rfl
    exact Option.some.inj (f1.symm.trans g4)
  subst hcy
  generalize hH1 : H.push ({ cls := cy 3, slots := Array.replicate n.toNatClampNeg .null, vm := .none } : Cell) = H1
  have z1 : H1.size = base + w.length + 1 := by rw [← hH1, Array.size_push, hz]
  have e1 : H1[base + w.length]? = some (arrV (cy 3) n.toNatClampNeg (fun _ => .null)) := by rw [← hz, ← hH1, Array.getElem?_push_size, ← arrV_new]
  have o1 : ∀ q : Nat, q < base + w.length → H1[q]? = H[q]? := fun q hq => by rw [← hH1, Array.getElem?_push, if_neg (by rw [hz]; exact Nat.ne_of_lt hq)]
  have hJ := J.push (x := .inl (3, n.toNatClampNeg, .inr (.inr (.inr (.inr (fun _ => none)))))) C.2.2.2.2.2.2.2.1 hz z1 o1 e1
  have hk := k H1 locs _ _ ls hJ
  rw [hz]
  exact hk

theorem sm_ok_anew_4 (C : sm_C p s m args c D cy b base nL cc o L xs) {n : Int32} {idx : Nat} (hd : decode cc pc = .ok (.anewarray idx, 3)) (hl : sm_inLC o idx (100 + 4) = true) (hn : ¬ (n < 0 ∨ 100000 ≤ n)) (hcap : base + (w.length + 1) ≤ s.heap.size + R.cells ∧ sm_sz w + n.toNatClampNeg ≤ sm_sz w0 + R.slots) (k : sm_KK p l e R s m args below meth c Q D cy b base w0 nL (pc + 3) (lv) (.ref w.length :: r) (w ++ [.inl (4, n.toNatClampNeg, .inr (.inr (.inr (.inr (fun _ => none)))))])) : sm_KK p l e R s m args below meth c Q D cy b base w0 nL (pc) (lv) (.int n :: r) (w) := by
  intro H locs cells slots ls J
  obtain ⟨hn1, hn2⟩ := sm_cap hn
  refine J.size C.2.2.2.2.2.2.2.1 fun hz => ?_
  have hj := J.2.2.2
  refine W.anew C.1 C.2.1 C.2.2.1 (C.2.2.2.1 _ (sm_LC_use hl)) (va_AO.use (C := "WordGrid$WordList") C.2.2.2.2.1.2.2.2.1) rfl hd rfl hn1 (by omega) (by omega) (by omega) fun cA kA comp f1 f2 f3 f4 => ?_
  have hcy : cA = cy 4 := by
    obtain ⟨-, kA2, comp2, g1, g2, g3, g4⟩ := C.2.2.2.2.1.1.2 4 _ rfl
    exact Option.some.inj (f1.symm.trans g4)
  subst hcy
  generalize hH1 : H.push ({ cls := cy 4, slots := Array.replicate n.toNatClampNeg .null, vm := .none } : Cell) = H1
  have z1 : H1.size = base + w.length + 1 := by rw [← hH1, Array.size_push, hz]
  have e1 : H1[base + w.length]? = some (arrV (cy 4) n.toNatClampNeg (fun _ => .null)) := by rw [← hz, ← hH1, Array.getElem?_push_size, ← arrV_new]
  have o1 : ∀ q : Nat, q < base + w.length → H1[q]? = H[q]? := fun q hq => by rw [← hH1, Array.getElem?_push, if_neg (by rw [hz]; exact Nat.ne_of_lt hq)]
  have hJ := J.push (x := .inl (4, n.toNatClampNeg, .inr (.inr (.inr (.inr (fun _ => none)))))) C.2.2.2.2.2.2.2.1 hz z1 o1 e1
  have hk := k H1 locs _ _ ls hJ
  rw [hz]
  exact hk
end OPS4
end
section
/-! one instruction that is no jump and no call -/
section OPS5
variable {p : Program} {l : Launch} {e : Env} {R : Room} {s : State} {m : MethodId} {args : Array Value} {below : List Frame} {meth : Method} {c : Code} {Q : State → Prop} {D : va_G} {cy : Nat → ClassId} {b base : Nat} {w0 : sm_W} {nL : Nat}
variable {cc : ByteArray} {o : Nat} {L : Nat} {xs : Nat → Int32} {pc : Nat} {lv lv' : sm_L} {st st' : List Value} {w w' : sm_W}
variable {ini : Bool} {ret : Option FieldType} {bo : Bool} {bp : List Nat} {cb len : Nat} {rc si : sm_I}
set_option maxHeartbeats 4000000 in
theorem sm_op_ok (C : sm_C p s m args c D cy b base nL cc o L xs) (hini : ini = true → meth.name = "<init>") (he : sm_enc o ini nL ret bo bp cb pc len rc si = true) (hd : decode cc pc = .ok (rc, len)) (hop : sm_op L xs si lv st w = some (lv', st', w'))
    (hcap : base + w'.length ≤ s.heap.size + R.cells ∧ sm_sz w' ≤ sm_sz w0 + R.slots) (k : sm_KK p l e R s m args below meth c Q D cy b base w0 nL (pc + len) (lv') (st') (w')) : sm_KK p l e R s m args below meth c Q D cy b base w0 nL (pc) (lv) (st) (w) := by
  cases si with
  | iadd =>
    obtain ⟨rfl, rfl⟩ := sm_plain (rc := rc) (si := .iadd) (len := len) he
    simp only [sm_op] at hop
    split at hop
    · cases hop
      exact sm_ok_iadd C hd k
    · cases hop
  | isub =>
    obtain ⟨rfl, rfl⟩ := sm_plain (rc := rc) (si := .isub) (len := len) he
    simp only [sm_op] at hop
    split at hop
    · cases hop
      exact sm_ok_isub C hd k
    · cases hop
  | imul =>
    obtain ⟨rfl, rfl⟩ := sm_plain (rc := rc) (si := .imul) (len := len) he
    simp only [sm_op] at hop
    split at hop
    · cases hop
      exact sm_ok_imul C hd k
    · cases hop
  | iand =>
    obtain ⟨rfl, rfl⟩ := sm_plain (rc := rc) (si := .iand) (len := len) he
    simp only [sm_op] at hop
    split at hop
    · cases hop
      exact sm_ok_iand C hd k
    · cases hop
  | ior =>
    obtain ⟨rfl, rfl⟩ := sm_plain (rc := rc) (si := .ior) (len := len) he
    simp only [sm_op] at hop
    split at hop
    · cases hop
      exact sm_ok_ior C hd k
    · cases hop
  | ixor =>
    obtain ⟨rfl, rfl⟩ := sm_plain (rc := rc) (si := .ixor) (len := len) he
    simp only [sm_op] at hop
    split at hop
    · cases hop
      exact sm_ok_ixor C hd k
    · cases hop
  | ishl =>
    obtain ⟨rfl, rfl⟩ := sm_plain (rc := rc) (si := .ishl) (len := len) he
    simp only [sm_op] at hop
    split at hop
    · cases hop
      exact sm_ok_ishl C hd k
    · cases hop
  | ishr =>
    obtain ⟨rfl, rfl⟩ := sm_plain (rc := rc) (si := .ishr) (len := len) he
    simp only [sm_op] at hop
    split at hop
    · cases hop
      exact sm_ok_ishr C hd k
    · cases hop
  | ladd =>
    obtain ⟨rfl, rfl⟩ := sm_plain (rc := rc) (si := .ladd) (len := len) he
    simp only [sm_op] at hop
    split at hop
    · cases hop
      exact sm_ok_ladd C hd k
    · cases hop
  | lsub =>
    obtain ⟨rfl, rfl⟩ := sm_plain (rc := rc) (si := .lsub) (len := len) he
    simp only [sm_op] at hop
    split at hop
    · cases hop
      exact sm_ok_lsub C hd k
    · cases hop
  | lmul =>
    obtain ⟨rfl, rfl⟩ := sm_plain (rc := rc) (si := .lmul) (len := len) he
    simp only [sm_op] at hop
    split at hop
    · cases hop
      exact sm_ok_lmul C hd k
    · cases hop
  | land =>
    obtain ⟨rfl, rfl⟩ := sm_plain (rc := rc) (si := .land) (len := len) he
    simp only [sm_op] at hop
    split at hop
    · cases hop
      exact sm_ok_land C hd k
    · cases hop
  | lor =>
    obtain ⟨rfl, rfl⟩ := sm_plain (rc := rc) (si := .lor) (len := len) he
    simp only [sm_op] at hop
    split at hop
    · cases hop
      exact sm_ok_lor C hd k
    · cases hop
  | lxor =>
    obtain ⟨rfl, rfl⟩ := sm_plain (rc := rc) (si := .lxor) (len := len) he
    simp only [sm_op] at hop
    split at hop
    · cases hop
      exact sm_ok_lxor C hd k
    · cases hop
  | lshl =>
    obtain ⟨rfl, rfl⟩ := sm_plain (rc := rc) (si := .lshl) (len := len) he
    simp only [sm_op] at hop
    split at hop
    · cases hop
      exact sm_ok_lshl C hd k
    · cases hop
  | lushr =>
    obtain ⟨rfl, rfl⟩ := sm_plain (rc := rc) (si := .lushr) (len := len) he
    simp only [sm_op] at hop
    split at hop
    · cases hop
      exact sm_ok_lushr C hd k
    · cases hop
  | lcmp =>
    obtain ⟨rfl, rfl⟩ := sm_plain (rc := rc) (si := .lcmp) (len := len) he
    simp only [sm_op] at hop
    split at hop
    · cases hop
      exact sm_ok_lcmp C hd k
    · cases hop
  | i2l =>
    obtain ⟨rfl, rfl⟩ := sm_plain (rc := rc) (si := .i2l) (len := len) he
    simp only [sm_op] at hop
    split at hop
    · cases hop
      exact sm_ok_i2l C hd k
    · cases hop
  | l2i =>
    obtain ⟨rfl, rfl⟩ := sm_plain (rc := rc) (si := .l2i) (len := len) he
    simp only [sm_op] at hop
    split at hop
    · cases hop
      exact sm_ok_l2i C hd k
    · cases hop
  | idiv =>
    obtain ⟨rfl, rfl⟩ := sm_plain (rc := rc) (si := .idiv) (len := len) he
    simp only [sm_op] at hop
    split at hop
    · split at hop
      · cases hop
      · rename_i hne
        cases hop
        exact sm_ok_idiv C hd hne k
    · cases hop
  | irem =>
    obtain ⟨rfl, rfl⟩ := sm_plain (rc := rc) (si := .irem) (len := len) he
    simp only [sm_op] at hop
    split at hop
    · split at hop
      · cases hop
      · rename_i hne
        cases hop
        exact sm_ok_irem C hd hne k
    · cases hop
  | iconst n =>
    simp only [sm_op] at hop
    cases hop
    exact sm_ok_iconst C he hd k
  | ldc2_w n =>
    simp only [sm_op] at hop
    cases hop
    exact sm_ok_ldc2 C he hd k
  | aconst_null =>
    obtain ⟨rfl, rfl⟩ := sm_plain (rc := rc) (si := .aconst_null) (len := len) he
    simp only [sm_op] at hop
    cases hop
    exact sm_ok_null C hd k
  | iload i =>
    simp only [sm_op] at hop
    split at hop
    · rename_i x hg
      cases hop
      exact sm_ok_iload C he hd hg k
    · cases hop
  | lload i =>
    simp only [sm_op] at hop
    split at hop
    · rename_i x hg
      cases hop
      exact sm_ok_lload C he hd hg k
    · cases hop
  | aload i =>
    simp only [sm_op] at hop
    split at hop
    · rename_i x hg
      cases hop
      exact sm_ok_aload C (Or.inl ⟨_, rfl⟩) he hd hg k
    · rename_i hg
      cases hop
      exact sm_ok_aload C (Or.inr (Or.inl rfl)) he hd hg k
    · rename_i x hg
      cases hop
      exact sm_ok_aload C (Or.inr (Or.inr ⟨_, rfl⟩)) he hd hg k
    · cases hop
  | istore i =>
    simp only [sm_op] at hop
    split at hop
    · cases hop
      exact sm_ok_istore C he hd k
    · cases hop
  | lstore i =>
    simp only [sm_op] at hop
    split at hop
    · cases hop
      exact sm_ok_lstore C he hd k
    · cases hop
  | astore i =>
    simp only [sm_op] at hop
    split at hop
    · cases hop
      exact sm_ok_astore C (Or.inl ⟨_, rfl⟩) he hd k
    · cases hop
      exact sm_ok_astore C (Or.inr rfl) he hd k
    · cases hop
  | iinc i n =>
    simp only [sm_op] at hop
    split at hop
    · rename_i x hg
      cases hop
      exact sm_ok_iinc C he hd hg k
    · cases hop
  | dup =>
    obtain ⟨rfl, rfl⟩ := sm_plain (rc := rc) (si := .dup) (len := len) he
    simp only [sm_op] at hop
    split at hop
    · cases hop
      exact sm_ok_dup C rfl hd k
    · cases hop
      exact sm_ok_dup C rfl hd k
    · cases hop
  | dup2 =>
    obtain ⟨rfl, rfl⟩ := sm_plain (rc := rc) (si := .dup2) (len := len) he
    simp only [sm_op] at hop
    split at hop
    · cases hop
      exact sm_ok_dup2 C rfl rfl hd k
    · cases hop
  | pop =>
    obtain ⟨rfl, rfl⟩ := sm_plain (rc := rc) (si := .pop) (len := len) he
    simp only [sm_op] at hop
    split at hop
    · cases hop
      exact sm_ok_pop C rfl hd k
    · cases hop
  | getfield n =>
    simp only [sm_op] at hop
    split at hop
    · split at hop
      · rename_i v hf
        cases hop
        exact sm_ok_getf C he hd hf k
      · cases hop
    · cases hop
  | putfield n =>
    simp only [sm_op] at hop
    split at hop
    · split at hop
      · rename_i v hf
        cases hop
        exact sm_ok_putf C hini he hd hf k
      · cases hop
    · cases hop
  | iaload =>
    obtain ⟨rfl, rfl⟩ := sm_plain (rc := rc) (si := .iaload) (len := len) he
    simp only [sm_op] at hop
    split at hop
    · split at hop
      · split at hop
        · cases hop
        · cases hop
          exact sm_ok_iaload C hd (by assumption) (by assumption) k
      · cases hop
    · split at hop
      · cases hop
      · cases hop
        exact sm_ok_sload C hd (by assumption) k
    · cases hop
  | arraylength =>
    obtain ⟨rfl, rfl⟩ := sm_plain (rc := rc) (si := .arraylength) (len := len) he
    simp only [sm_op] at hop
    split at hop
    · split at hop
      · rename_i ha
        cases hop
        exact sm_ok_alen C hd ha k
      · cases hop
    · cases hop
      exact sm_ok_slen C hd k
    · cases hop
  | baload =>
    obtain ⟨rfl, rfl⟩ := sm_plain (rc := rc) (si := .baload) (len := len) he
    simp only [sm_op] at hop
    split at hop
    · split at hop
      · split at hop
        · cases hop
        · cases hop
          exact sm_ok_baload C hd (by assumption) (by assumption) k
      · cases hop
    · cases hop
  | laload =>
    obtain ⟨rfl, rfl⟩ := sm_plain (rc := rc) (si := .laload) (len := len) he
    simp only [sm_op] at hop
    split at hop
    · split at hop
      · split at hop
        · cases hop
        · cases hop
          exact sm_ok_laload C hd (by assumption) (by assumption) k
      · cases hop
    · cases hop
  | iastore =>
    obtain ⟨rfl, rfl⟩ := sm_plain (rc := rc) (si := .iastore) (len := len) he
    simp only [sm_op] at hop
    split at hop
    · split at hop
      · split at hop
        · cases hop
        · cases hop
          exact sm_ok_iastore C hd (by assumption) (by assumption) k
      · cases hop
    · cases hop
  | lastore =>
    obtain ⟨rfl, rfl⟩ := sm_plain (rc := rc) (si := .lastore) (len := len) he
    simp only [sm_op] at hop
    split at hop
    · split at hop
      · split at hop
        · cases hop
        · cases hop
          exact sm_ok_lastore C hd (by assumption) (by assumption) k
      · cases hop
    · cases hop
  | bastore =>
    obtain ⟨rfl, rfl⟩ := sm_plain (rc := rc) (si := .bastore) (len := len) he
    simp only [sm_op] at hop
    split at hop
    · split at hop
      · split at hop
        · cases hop
        · rename_i hi
          cases hop
          exact sm_ok_bastore C hd (by assumption) (fun h => hi (Or.inl h)) (Decidable.not_not.mp fun h => hi (Or.inr h)) k
      · cases hop
    · cases hop
  | aaload =>
    obtain ⟨rfl, rfl⟩ := sm_plain (rc := rc) (si := .aaload) (len := len) he
    simp only [sm_op, cond_eq_ite] at hop
    split at hop
    · split at hop
      · split at hop
        · rename_i ht
          split at hop
          · cases hop
          · cases hop
            simp only [Bool.or_eq_true] at ht
            exact sm_ok_aaload C (ht.imp Nat.eq_of_beq_eq_true Nat.eq_of_beq_eq_true) hd (by assumption) (by assumption) k
        · cases hop
      · cases hop
    · cases hop
  | aastore =>
    obtain ⟨rfl, rfl⟩ := sm_plain (rc := rc) (si := .aastore) (len := len) he
    simp only [sm_op, cond_eq_ite] at hop
    split at hop
    · split at hop
      · rename_i ha hv
        split at hop
        · rename_i ht
          split at hop
          · cases hop
          · cases hop
            simp only [Bool.or_eq_true, Bool.and_eq_true] at ht
            exact sm_ok_aastore C hd ha hv (ht.imp (fun h => ⟨Nat.eq_of_beq_eq_true h.1, Nat.eq_of_beq_eq_true h.2⟩) (fun h => ⟨Nat.eq_of_beq_eq_true h.1, h.2⟩)) (by assumption) k
        · cases hop
      · cases hop
    · split at hop
      · rename_i ha
        split at hop
        · rename_i ht
          split at hop
          · cases hop
          · cases hop
            have e4 := Nat.eq_of_beq_eq_true ht
            subst e4
            exact sm_ok_aastoreN C hd ha (by assumption) k
        · cases hop
      · cases hop
    · cases hop
  | new ci =>
    simp only [sm_op] at hop
    split at hop
    · rename_i fs hf
      cases hop
      rw [List.length_append, sm_sz_push] at hcap
      exact sm_ok_new C he hd hf hcap k
    · cases hop
  | newarray t =>
    have he2 : (decide (rc = .newarray t) && Nat.beq len 2) = true := he
    simp only [Bool.and_eq_true, decide_eq_true_eq] at he2
    obtain ⟨rfl, h2⟩ := he2
    have h2 := Nat.eq_of_beq_eq_true h2
    subst h2
    simp only [sm_op] at hop
    split at hop
    · split at hop
      · cases hop
      · split at hop
        · cases hop
          rw [List.length_append, sm_sz_push] at hcap
          exact sm_ok_newa_int C hd (by assumption) hcap k
        · cases hop
          rw [List.length_append, sm_sz_push] at hcap
          exact sm_ok_newa_long C hd (by assumption) hcap k
        · cases hop
          rw [List.length_append, sm_sz_push] at hcap
          exact sm_ok_newa_boolean C hd (by assumption) hcap k
        · cases hop
    · cases hop
  | anewarray t =>
    simp only [sm_enc] at he
    simp only [sm_op, cond_eq_ite] at hop
    split at he
    · simp only [Bool.and_eq_true] at he
      have h3 := Nat.eq_of_beq_eq_true he.2
      subst h3
      split at hop
      · split at hop
        · cases hop
        · split at hop
          · rename_i ht
            cases hop
            rw [List.length_append, sm_sz_push] at hcap
            simp only [Bool.or_eq_true] at ht
            rcases ht with ht | ht
            · have e3 := Nat.eq_of_beq_eq_true ht
              subst e3
              exact sm_ok_anew_3 C hd he.1 (by assumption) hcap k
            · have e3 := Nat.eq_of_beq_eq_true ht
              subst e3
              exact sm_ok_anew_4 C hd he.1 (by assumption) hcap k
          · cases hop
      · cases hop
    · cases he
  | checkcast n =>
    simp only [sm_op, cond_eq_ite] at hop
    split at hop
    · split at hop
      · split at hop
        · cases hop
          exact sm_ok_cast C he hd (by assumption) (by assumption) k
        · cases hop
      · cases hop
    · cases hop
  | instanceof n =>
    simp only [sm_op] at hop
    split at hop
    · split at hop
      · rename_i ha
        cases hs : sm_sub _ 12 with
        | true =>
          rw [hs] at hop
          cases hop
          exact sm_ok_inst C he hd ha hs k
        | false =>
          rw [hs] at hop
          cases hop
      · cases hop
    · cases hop
  | _ => (simp only [sm_op] at hop; cases hop)
end OPS5
end
section
/-! calls -/
section CLS
variable {p : Program} {l : Launch} {e : Env} {R : Room} {s : State} {m : MethodId} {args : Array Value} {below : List Frame} {meth : Method} {c : Code} {Q : State → Prop} {D : va_G} {cy : Nat → ClassId} {b base : Nat} {w0 : sm_W} {nL : Nat}
variable {cc : ByteArray} {o : Nat} {L : Nat} {xs : Nat → Int32} {pc : Nat} {lv lv' : sm_L} {st st' : List Value} {w w' w1 : sm_W}
variable {ini : Bool} {ret : Option FieldType} {bo : Bool} {bp : List Nat} {cb len : Nat} {rc si : sm_I}
variable {H : Heap} {locs : List Loc} {cells slots : Nat} {ls : Array Slot} {d : Nat} {r : Option Value}
/-- behind a call -/
theorem sm_after {st0 rest : List Value} {mc ms : Nat} {a : Array Value} (J : sm_J s D cy b base w0 nL w lv H locs cells slots ls) (h1 : mc = w1.length - w.length) (h2 : ms = sm_sz w1 - sm_sz w) (hm : w.length ≤ w1.length ∧ sm_sz w ≤ sm_sz w1)
    (hr : va_Run p l e R s m args below meth c H locs cells slots mc ms (F0 m pc ls st0) (rest.map (sm_v b base)) (sm_Qc D cy b base r w1 a) (fun q => base ≤ q)) (k : sm_KK p l e R s m args below meth c Q D cy b base w0 nL (pc + 3) (lv) (r.toList ++ rest) (w1)) : W p l e R s m args below meth c H locs cells slots Q (F0 m pc ls st0) := by
  intro T hT X
  obtain ⟨v, u0, t, T1, LL, g1, X1, hL, e1, e2, ⟨hv, hP, hz, hF⟩, go⟩ := hr T hT X
  have hv : v = r.map (sm_v b base) := by injection hv
  subst hv
  obtain ⟨j1, j2, j3, j4, j5⟩ := J
  have hS1 : va_S (fun q => base ≤ q) s.heap T1.heap (locs ++ LL) := by
    refine ⟨?_, ?_, ?_⟩
    · rw [e1]
      have := hF.1
      rw [g1] at this
      exact Nat.le_trans j2.1 this
    · intro q h3 h4
      rw [e1]
      have h5 := hF.2 q (by rw [g1]; exact Nat.lt_of_lt_of_le h3 j2.1) h4
      rw [h5, g1]
      exact j2.2.1 q h3 h4
    · intro q hq
      rcases List.mem_append.mp hq with hq | hq
      · exact j2.2.2 q hq
      · exact hL q hq
  obtain ⟨tf, a1, b1⟩ := k T1.heap (locs ++ LL) (cells + mc) (slots + ms) ls ⟨by rw [e1]; exact hP, hS1, j3, by omega, by omega⟩ T1 rfl X1
  refine ⟨tf, go tf ?_, b1⟩
  have e3 : (r.toList ++ rest).map (sm_v b base) = (r.map (sm_v b base)).toList ++ rest.map (sm_v b base) := by
    rw [List.map_append]
    cases r <;> rfl
  rw [← e3]
  exact a1
theorem sm_pre (C : sm_C p s m args c D cy b base nL cc o L xs) (J : sm_J s D cy b base w0 nL w lv H locs cells slots ls) (hz : H.size = base + w.length) (as : List Value) : ∀ U : State, U.heap = H → s.WarmedH U.vm → sm_Pc D cy b base L xs as w (as.map (sm_v b base)).toArray U := by
  intro U hU hW
  obtain ⟨h1, h2, h3, h4, h5, h6, h7, h8, -⟩ := C
  exact ⟨rfl, by rw [hU]; exact J.1, by rw [hU]; exact hz, sm_K.moved hW h5, sm_X_moved hW h6 (by rw [hU]; exact J.2.1.2.1 b (Nat.lt_of_lt_of_le h7 h8) (Nat.not_le.mpr h7)), h7⟩
/-- what is known of whom a call reaches -/
def sm_Ms (l : Launch) (D : va_G) (cy : Nat → ClassId) (b base L : Nat) (xs : Nat → Int32) (d : Nat) (calls : Nat → List Value → sm_W → sm_O) : Prop :=
  (∀ (y : Nat) (as : List Value) (w : sm_W) (r : Option Value) (w1 : sm_W), calls y as w = some (r, w1) → w.length ≤ w1.length ∧ sm_sz w ≤ sm_sz w1) ∧
  (∀ (y : Nat) (as : List Value) (w : sm_W) (r : Option Value) (w1 : sm_W), calls y as w = some (r, w1) → y ≠ 400 → y ≠ 401 → y < sm_MT.length → (!(Nat.beq (sm_own y) 16)) = true →
    Met l (sm_y y) (sm_wsM y) (sm_rm d (w1.length - w.length) (sm_sz w1 - sm_sz w)) (sm_Pc D cy b base L xs as w) (sm_Qc D cy b base r w1) (w1.length - w.length) (sm_sz w1 - sm_sz w) (fun q => base ≤ q)) ∧
  (∀ (as : List Value) (w : sm_W), calls 400 as w = sm_copy as w) ∧
  (∀ (as : List Value) (w : sm_W) (r : Option Value) (w1 : sm_W), calls 401 as w = some (r, w1) → (∃ a, as = [.ref a]) ∧ r = none ∧ w1 = w)
theorem sm_CB (C : sm_C p s m args c D cy b base nL cc o L xs) {y idx mc ms : Nat} (hy : y < sm_MT.length) (ho : (!(Nat.beq (sm_own y) 16)) = true) (hR : d + 1 ≤ R.frames ∧ 64 * (d + 1) ≤ R.locals) (hl : Cond.methodLink (sm_cn o) idx (sm_y y) ∈ sm_ts) :
    CallB R s args (sm_cn o) idx (sm_y y) (sm_bytes y) (sm_nL y) (sm_ret y) (sm_wsM y) (sm_rm d mc ms) mc ms (sm_np y) := by
  have := sm_nL_le hy
  exact callB_of (sm_np y) C.2.2.2.1 (sm_gi hy) rfl rfl rfl (C.2.2.2.1 _ (sm_inited hy ho)) (C.2.2.2.1 _ hl) (sm_desc hy) ⟨hR.1, by show 8 + (sm_nL y + 11) + 64 * d ≤ _; omega⟩
theorem sm_CN (C : sm_C p s m args c D cy b base nL cc o L xs) {y idx mc ms : Nat} (hy : y < sm_MT.length) (ho : (!(Nat.beq (sm_own y) 16)) = true) (hR : d + 1 ≤ R.frames ∧ 64 * (d + 1) ≤ R.locals) (hl : Cond.methodLinkNest (sm_cn o) idx (sm_y y) "WordGrid" ∈ lw_tbl) :
    va_CN R s args (sm_cn o) idx (sm_y y) "WordGrid" (sm_bytes y) (sm_nL y) (sm_ret y) (sm_wsM y) (sm_rm d mc ms) mc ms (sm_np y) := by
  have := sm_nL_le hy
  exact va_cnB (sm_np y) C.2.2.2.1 (sm_gi hy) rfl rfl rfl (C.2.2.2.2.1.2.1 _ hl rfl) (C.2.2.2.1 _ (sm_inited hy ho)) (sm_desc hy) ⟨hR.1, by show 8 + (sm_nL y + 11) + 64 * d ≤ _; omega⟩
theorem sm_room {pc : Nat} {ls : Array Slot} {st0 : List Value} {rest : List Value} (h : sm_words rest ≤ 8) : 2 * (F0 m pc ls st0).monitorRoom + ((rest.map (sm_v b base)).map fun v => v.category).sum ≤ 8 := lv_room (by rw [sm_words_map]; exact h)
theorem sm_ok_static (C : sm_C p s m args c D cy b base nL cc o L xs) {calls : Nat → List Value → sm_W → sm_O} (M : sm_Ms l D cy b base L xs d calls) (hR : d + 1 ≤ R.frames ∧ 64 * (d + 1) ≤ R.locals) {idx y : Nat} {as rest : List Value} (hd : decode cc pc = .ok (.invokestatic idx, 3)) (hin : sm_LS.any (fun e => Nat.beq e.1 o && Nat.beq e.2.1 idx && Nat.beq e.2.2.1 y) = true) (hy0 : y ≠ 400 ∧ y ≠ 401)
    (hn : as.length = sm_np y) (hw : sm_words rest ≤ 8) (hc : calls y as w = some (r, w1)) (hcap : base + w1.length ≤ s.heap.size + R.cells ∧ sm_sz w1 ≤ sm_sz w0 + R.slots) (k : sm_KK p l e R s m args below meth c Q D cy b base w0 nL (pc + 3) (lv) (r.toList ++ rest) (w1)) : sm_KK p l e R s m args below meth c Q D cy b base w0 nL (pc) (lv) (as.reverse ++ rest) (w) := by
  intro H locs cells slots ls J
  obtain ⟨q, hq, h1⟩ := List.any_eq_true.mp hin
  simp only [Bool.and_eq_true] at h1
  have e1 := Nat.eq_of_beq_eq_true h1.1.1
  have e2 := Nat.eq_of_beq_eq_true h1.1.2
  have e3 := Nat.eq_of_beq_eq_true h1.2
  have h2 := List.all_eq_true.mp sm_okLS_ok q hq
  obtain ⟨q1, q2, q3, q4, q5⟩ := q
  dsimp only at e1 e2 e3
  subst e1; subst e2; subst e3
  unfold sm_okLS at h2
  simp only [Bool.and_eq_true] at h2
  obtain ⟨⟨⟨hlk, hst⟩, hy⟩, ho⟩ := h2
  have hy := Nat.le_of_ble_eq_true hy
  have hm := M.1 _ _ _ _ _ hc
  have hMet := M.2.1 _ _ _ _ _ hc hy0.1 hy0.2 hy ho
  refine J.size C.2.2.2.2.2.2.2.1 fun hz => ?_
  have hpre := sm_pre C J hz as
  have hj := J.2.2.2
  have hstack : (as.reverse ++ rest).map (sm_v b base) = (as.map (sm_v b base)).reverse ++ rest.map (sm_v b base) := by rw [List.map_append, List.map_reverse]
  rw [hstack]
  unfold sm_link at hlk
  cases hnb : Nat.beq q4 0 with
  | true =>
    rw [hnb] at hlk
    refine sm_after J rfl rfl hm (va_runS (nL := nL) (own := sm_cn q1) (Ts := sm_ts) ⟨C.1, C.2.1, C.2.2.2.2.2.2.2.2, C.2.2.1, C.2.2.2.1⟩ hMet ⟨sm_CB C hy ho hR (sm_good (sm_at_mem hlk) rfl), C.2.2.2.1 _ (sm_static hy hst)⟩ ⟨sm_blind D cy b base L xs as w, hpre⟩ rfl (by rw [List.length_map]; exact hn) J.2.2.1.1 rfl (sm_room hw) hd ⟨by omega, by omega⟩) k
  | false =>
    rw [hnb] at hlk
    refine sm_after J rfl rfl hm (va_runSN (nL := nL) (own := sm_cn q1) (Ts := sm_ts) ⟨C.1, C.2.1, C.2.2.2.2.2.2.2.2, C.2.2.1, C.2.2.2.1⟩ hMet ⟨sm_CN C hy ho hR (sm_at_mem hlk), C.2.2.2.1 _ (sm_static hy hst), trivial⟩ ⟨sm_blind D cy b base L xs as w, hpre⟩ rfl (by rw [List.length_map]; exact hn) J.2.2.1.1 rfl (sm_room hw) hd ⟨by omega, by omega⟩) k
theorem sm_stackR (a : Nat) (as rest : List Value) : ((Value.ref a :: as).reverse ++ rest).map (sm_v b base) = (as.map (sm_v b base)).reverse ++ Value.ref (base + a) :: rest.map (sm_v b base) := by
  rw [List.reverse_cons, List.append_assoc, List.map_append, List.map_reverse]
  rfl
theorem sm_ok_init (C : sm_C p s m args c D cy b base nL cc o L xs) {calls : Nat → List Value → sm_W → sm_O} (M : sm_Ms l D cy b base L xs d calls) (hR : d + 1 ≤ R.frames ∧ 64 * (d + 1) ≤ R.locals) {idx y a : Nat} {as rest : List Value} (hd : decode cc pc = .ok (.invokespecial idx, 3)) (hin : sm_LI.any (fun e => Nat.beq e.1 o && Nat.beq e.2.1 idx && Nat.beq e.2.2.1 y) = true) (hy0 : y ≠ 400 ∧ y ≠ 401)
    (hn : as.length = sm_np y) (hw : sm_words rest ≤ 8) (hc : calls y (.ref a :: as) w = some (r, w1)) (hcap : base + w1.length ≤ s.heap.size + R.cells ∧ sm_sz w1 ≤ sm_sz w0 + R.slots) (k : sm_KK p l e R s m args below meth c Q D cy b base w0 nL (pc + 3) (lv) (r.toList ++ rest) (w1)) : sm_KK p l e R s m args below meth c Q D cy b base w0 nL (pc) (lv) ((Value.ref a :: as).reverse ++ rest) (w) := by
  intro H locs cells slots ls J
  obtain ⟨q, hq, h1⟩ := List.any_eq_true.mp hin
  simp only [Bool.and_eq_true] at h1
  have e1 := Nat.eq_of_beq_eq_true h1.1.1
  have e2 := Nat.eq_of_beq_eq_true h1.1.2
  have e3 := Nat.eq_of_beq_eq_true h1.2
  have h2 := List.all_eq_true.mp sm_okLI_ok q hq
  obtain ⟨q1, q2, q3, q4, q5⟩ := q
  dsimp only at e1 e2 e3
  subst e1; subst e2; subst e3
  unfold sm_okLI at h2
  simp only [Bool.and_eq_true, decide_eq_true_eq] at h2
  obtain ⟨⟨⟨⟨⟨hlk, hst⟩, hy⟩, hnm⟩, hrt⟩, ho⟩ := h2
  have hy := Nat.le_of_ble_eq_true hy
  have hm := M.1 _ _ _ _ _ hc
  have hMet := M.2.1 _ _ _ _ _ hc hy0.1 hy0.2 hy ho
  refine J.size C.2.2.2.2.2.2.2.1 fun hz => ?_
  have hpre := sm_pre C J hz (.ref a :: as)
  have hj := J.2.2.2
  rw [sm_stackR]
  unfold sm_link at hlk
  cases hnb : Nat.beq q4 0 with
  | true =>
    rw [hnb] at hlk
    have hcb := sm_CB (mc := w1.length - w.length) (ms := sm_sz w1 - sm_sz w) C hy ho hR (sm_good (sm_at_mem hlk) rfl)
    rw [hrt] at hcb
    refine sm_after J rfl rfl hm (va_runI (nL := nL) (own := sm_cn q1) (Ts := sm_ts) ⟨C.1, C.2.1, C.2.2.2.2.2.2.2.2, C.2.2.1, C.2.2.2.1⟩ hMet ⟨hcb, hnm, C.2.2.2.1 _ (sm_inst hy hst)⟩ ⟨sm_blind D cy b base L xs (.ref a :: as) w, hpre⟩ rfl (by rw [List.length_map]; exact hn) J.2.2.1.1 rfl (sm_room hw) hd ⟨by omega, by omega⟩) k
  | false =>
    rw [hnb] at hlk
    have hcb := sm_CN (mc := w1.length - w.length) (ms := sm_sz w1 - sm_sz w) C hy ho hR (sm_at_mem hlk)
    rw [hrt] at hcb
    refine sm_after J rfl rfl hm (va_runIN (nL := nL) (own := sm_cn q1) (Ts := sm_ts) ⟨C.1, C.2.1, C.2.2.2.2.2.2.2.2, C.2.2.1, C.2.2.2.1⟩ hMet ⟨hcb, hnm, C.2.2.2.1 _ (sm_inst hy hst)⟩ ⟨sm_blind D cy b base L xs (.ref a :: as) w, hpre⟩ rfl (by rw [List.length_map]; exact hn) J.2.2.1.1 rfl (sm_room hw) hd ⟨by omega, by omega⟩) k
theorem sm_ok_super (C : sm_C p s m args c D cy b base nL cc o L xs) {calls : Nat → List Value → sm_W → sm_O} (M : sm_Ms l D cy b base L xs d calls) (hR : d + 1 ≤ R.frames ∧ 64 * (d + 1) ≤ R.locals) {idx y a ci : Nat} {fs as rest : List Value} (hd : decode cc pc = .ok (.invokespecial idx, 3)) (hin : sm_LP.any (fun e => Nat.beq e.1 o && Nat.beq e.2.1 idx && Nat.beq e.2.2.1 y) = true) (hy0 : y ≠ 400 ∧ y ≠ 401)
    (ha : w[a]? = some (.inr (ci, fs))) (hn : as.length = sm_np y) (hw : sm_words rest ≤ 8) (hc : calls y (.ref a :: as) w = some (r, w1)) (hcap : base + w1.length ≤ s.heap.size + R.cells ∧ sm_sz w1 ≤ sm_sz w0 + R.slots) (k : sm_KK p l e R s m args below meth c Q D cy b base w0 nL (pc + 3) (lv) (r.toList ++ rest) (w1)) : sm_KK p l e R s m args below meth c Q D cy b base w0 nL (pc) (lv) ((Value.ref a :: as).reverse ++ rest) (w) := by
  intro H locs cells slots ls J
  obtain ⟨q, hq, h1⟩ := List.any_eq_true.mp hin
  simp only [Bool.and_eq_true] at h1
  have e1 := Nat.eq_of_beq_eq_true h1.1.1
  have e2 := Nat.eq_of_beq_eq_true h1.1.2
  have e3 := Nat.eq_of_beq_eq_true h1.2
  have h2 := List.all_eq_true.mp sm_okLP_ok q hq
  obtain ⟨q1, q2, q3, q4, q5, q6⟩ := q
  dsimp only at e1 e2 e3
  subst e1; subst e2; subst e3
  unfold sm_okLP at h2
  simp only [Bool.and_eq_true, decide_eq_true_eq] at h2
  obtain ⟨⟨⟨⟨⟨⟨hlk, hsm⟩, hsu⟩, hst⟩, hy⟩, hnm⟩, ho⟩ := h2
  have hy := Nat.le_of_ble_eq_true hy
  have hm := M.1 _ _ _ _ _ hc
  have hMet := M.2.1 _ _ _ _ _ hc hy0.1 hy0.2 hy ho
  refine J.size C.2.2.2.2.2.2.2.1 fun hz => ?_
  have hpre := sm_pre C J hz (.ref a :: as)
  have hj := J.2.2.2
  have hci := sm_ci J.1 ha
  have hKn := C.2.2.2.2.1.1.1 ci _ (sm_cl_get hci)
  have hcb := sm_CB (mc := w1.length - w.length) (ms := sm_sz w1 - sm_sz w) C hy ho hR (sm_good (sm_at_mem hlk) rfl)
  obtain ⟨c1, c2, c3, c4, c5, c6, c7, c8, c9, c10, c11⟩ := hcb
  rw [sm_stackR]
  refine sm_after J rfl rfl hm (va_runSU (nL := nL) (own := sm_cn q1) (Ts := sm_ts) (C := sm_cn ci) hKn.2 ⟨C.1, C.2.1, C.2.2.2.2.2.2.2.2, C.2.2.1, C.2.2.2.1⟩ hMet ⟨⟨c1, c2, c3, c4, c5, c6⟩, c11, C.2.2.2.1 _ (sm_good (sm_at_mem hsm) rfl), C.2.2.2.1 _ (sm_good (sm_at_mem hsu) rfl), C.2.2.2.1 _ (sm_inst hy hst), c8, c7, hnm, c10⟩ ⟨sm_blind D cy b base L xs (.ref a :: as) w, va_recv C.2.2.2.2.1.1 J.1 (sm_cl_get hci) (sm_ws_get ha), hpre⟩ rfl (by rw [List.length_map]; exact hn) J.2.2.1.1 rfl (sm_room hw) hd ⟨by omega, by omega⟩) k
theorem sm_ok_virt (C : sm_C p s m args c D cy b base nL cc o L xs) {calls : Nat → List Value → sm_W → sm_O} (M : sm_Ms l D cy b base L xs d calls) (hR : d + 1 ≤ R.frames ∧ 64 * (d + 1) ≤ R.locals) {idx y a ci : Nat} {fs as rest : List Value} (hd : decode cc pc = .ok (.invokevirtual idx, 3)) (hin : sm_LV.any (fun e => Nat.beq e.1 o && Nat.beq e.2.1 idx && Nat.beq e.2.2.1 ci && Nat.beq e.2.2.2.1 y) = true) (hy0 : y ≠ 400 ∧ y ≠ 401)
    (ha : w[a]? = some (.inr (ci, fs))) (hn : as.length = sm_np y) (hw : sm_words rest ≤ 8) (hc : calls y (.ref a :: as) w = some (r, w1)) (hcap : base + w1.length ≤ s.heap.size + R.cells ∧ sm_sz w1 ≤ sm_sz w0 + R.slots) (k : sm_KK p l e R s m args below meth c Q D cy b base w0 nL (pc + 3) (lv) (r.toList ++ rest) (w1)) : sm_KK p l e R s m args below meth c Q D cy b base w0 nL (pc) (lv) ((Value.ref a :: as).reverse ++ rest) (w) := by
  intro H locs cells slots ls J
  obtain ⟨q, hq, h1⟩ := List.any_eq_true.mp hin
  simp only [Bool.and_eq_true] at h1
  have e1 := Nat.eq_of_beq_eq_true h1.1.1.1
  have e2 := Nat.eq_of_beq_eq_true h1.1.1.2
  have e3 := Nat.eq_of_beq_eq_true h1.1.2
  have e4 := Nat.eq_of_beq_eq_true h1.2
  have h2 := List.all_eq_true.mp sm_okLV_ok q hq
  obtain ⟨q1, q2, q3, q4, q5, q6⟩ := q
  dsimp only at e1 e2 e3 e4
  subst e1; subst e2; subst e3; subst e4
  unfold sm_okLV at h2
  simp only [Bool.and_eq_true, decide_eq_true_eq] at h2
  obtain ⟨⟨⟨⟨⟨⟨hlk, hse⟩, hcl⟩, hst⟩, hy⟩, hc12⟩, ho⟩ := h2
  have hy := Nat.le_of_ble_eq_true hy
  have hm := M.1 _ _ _ _ _ hc
  have hMet := M.2.1 _ _ _ _ _ hc hy0.1 hy0.2 hy ho
  refine J.size C.2.2.2.2.2.2.2.1 fun hz => ?_
  have hpre := sm_pre C J hz (.ref a :: as)
  have hj := J.2.2.2
  have hci := sm_ci J.1 ha
  rw [sm_stackR]
  refine sm_after J rfl rfl hm (va_runV (nL := nL) (own := sm_cn q1) (Ts := sm_ts) (C := sm_cn q3) ⟨C.1, C.2.1, C.2.2.2.2.2.2.2.2, C.2.2.1, C.2.2.2.1⟩ hMet ⟨sm_CB C hy ho hR (sm_good (sm_at_mem hlk) rfl), C.2.2.2.1 _ (sm_inst hy hst), C.2.2.2.1 _ (sm_good (sm_at_mem hse) rfl)⟩ ⟨sm_blind D cy b base L xs (.ref a :: as) w, va_recv C.2.2.2.2.1.1 J.1 (sm_cl_get hci) (sm_ws_get ha), hpre⟩ rfl (by rw [List.length_map]; exact hn) J.2.2.1.1 rfl (sm_room hw) hd ⟨by omega, by omega⟩) k
theorem sm_ok_virtU (C : sm_C p s m args c D cy b base nL cc o L xs) {calls : Nat → List Value → sm_W → sm_O} (M : sm_Ms l D cy b base L xs d calls) (hR : d + 1 ≤ R.frames ∧ 64 * (d + 1) ≤ R.locals) {idx y a ci : Nat} {fs as rest : List Value} (hd : decode cc pc = .ok (.invokevirtual idx, 3)) (hin : sm_LU.any (fun e => Nat.beq e.1 o && Nat.beq e.2.1 idx && Nat.beq e.2.2.1 ci && Nat.beq e.2.2.2.1 y) = true) (hy0 : y ≠ 400 ∧ y ≠ 401)
    (ha : w[a]? = some (.inr (ci, fs))) (hn : as.length = sm_np y) (hw : sm_words rest ≤ 8) (hc : calls y (.ref a :: as) w = some (r, w1)) (hcap : base + w1.length ≤ s.heap.size + R.cells ∧ sm_sz w1 ≤ sm_sz w0 + R.slots) (k : sm_KK p l e R s m args below meth c Q D cy b base w0 nL (pc + 3) (lv) (r.toList ++ rest) (w1)) : sm_KK p l e R s m args below meth c Q D cy b base w0 nL (pc) (lv) ((Value.ref a :: as).reverse ++ rest) (w) := by
  intro H locs cells slots ls J
  obtain ⟨q, hq, h1⟩ := List.any_eq_true.mp hin
  simp only [Bool.and_eq_true] at h1
  have e1 := Nat.eq_of_beq_eq_true h1.1.1.1
  have e2 := Nat.eq_of_beq_eq_true h1.1.1.2
  have e3 := Nat.eq_of_beq_eq_true h1.1.2
  have e4 := Nat.eq_of_beq_eq_true h1.2
  have h2 := List.all_eq_true.mp sm_okLU_ok q hq
  obtain ⟨q1, q2, q3, q4, x, owner, q5, q6, q7, dk, q8⟩ := q
  dsimp only at e1 e2 e3 e4
  subst e1; subst e2; subst e3; subst e4
  unfold sm_okLU at h2
  simp only [Bool.and_eq_true, decide_eq_true_eq] at h2
  obtain ⟨⟨⟨⟨⟨⟨⟨⟨⟨hlk, hsm⟩, hse⟩, hst⟩, hy⟩, hc12⟩, ho⟩, hdk⟩, how⟩, hpd⟩ := h2
  have hy := Nat.le_of_ble_eq_true hy
  have hm := M.1 _ _ _ _ _ hc
  have hMet := M.2.1 _ _ _ _ _ hc hy0.1 hy0.2 hy ho
  have hnl := sm_nL_le hy
  have hdecl : va_Decl s ⟨owner, x.name, x.desc⟩ := by
    cases hdb : Nat.beq dk 0 with
    | true =>
      rw [hdb] at hdk
      simp only [cond_true, Bool.and_eq_true, decide_eq_true_eq] at hdk
      obtain ⟨⟨d1, d2⟩, d3⟩ := hdk
      have d3 := Nat.le_of_ble_eq_true d3
      rw [← d1]
      exact va_Decl.of (C.2.2.2.1 _ (sm_inst d3 d2)) (C.2.2.2.1 _ (sm_code_mem d3))
    | false =>
      rw [hdb] at hdk
      exact va_Decl.abs (C.2.2.2.2.1.2.1 _ (sm_at_mem hdk) rfl)
  refine J.size C.2.2.2.2.2.2.2.1 fun hz => ?_
  have hpre := sm_pre C J hz (.ref a :: as)
  have hj := J.2.2.2
  have hci := sm_ci J.1 ha
  rw [sm_stackR]
  refine sm_after J rfl rfl hm (va_runU (nL := nL) (own := sm_cn q1) (Ts := sm_ts) (C := sm_cn q3) (owner := owner) (x := x) (n := sm_np q4) ⟨C.1, C.2.1, C.2.2.2.2.2.2.2.2, C.2.2.1, C.2.2.2.1⟩ hMet ⟨⟨rfl, rfl, hR.1, by show 8 + (sm_nL q4 + 11) + 64 * d ≤ _; omega, pay_in C.2.2.2.1 (sm_gi hy), List.mem_cons_self⟩, C.2.2.2.1 _ (sm_code_mem hy), C.2.2.2.1 _ (sm_inited hy ho), how, fun sig h => by rw [h] at hpd; exact (Option.some.inj hpd).symm, C.2.2.2.1 _ (sm_good (sm_at_mem hlk) rfl), C.2.2.2.1 _ (sm_good (sm_at_mem hsm) rfl), hdecl, C.2.2.2.1 _ (sm_good (sm_at_mem hse) rfl), C.2.2.2.1 _ (sm_inst hy hst)⟩ ⟨sm_blind D cy b base L xs (.ref a :: as) w, va_recv C.2.2.2.2.1.1 J.1 (sm_cl_get hci) (sm_ws_get ha), hpre⟩ rfl (by rw [List.length_map]; exact hn) J.2.2.1.1 rfl (sm_room hw) hd ⟨by omega, by omega⟩) k
theorem sm_ok_obj (C : sm_C p s m args c D cy b base nL cc o L xs) (hR : 1 ≤ R.frames ∧ 64 ≤ R.locals) {idx a : Nat} {rest : List Value} (hd : decode cc pc = .ok (.invokespecial idx, 3)) (hin : sm_LO.any (fun e => Nat.beq e.1 o && Nat.beq e.2.1 idx) = true) (hw : sm_words rest ≤ 8) (k : sm_KK p l e R s m args below meth c Q D cy b base w0 nL (pc + 3) (lv) (rest) (w)) : sm_KK p l e R s m args below meth c Q D cy b base w0 nL (pc) (lv) (.ref a :: rest) (w) := by
  intro H locs cells slots ls J
  obtain ⟨q, hq, h1⟩ := List.any_eq_true.mp hin
  simp only [Bool.and_eq_true] at h1
  have e1 := Nat.eq_of_beq_eq_true h1.1
  have e2 := Nat.eq_of_beq_eq_true h1.2
  have h2 := List.all_eq_true.mp sm_okLO_ok q hq
  obtain ⟨q1, q2, q3⟩ := q
  dsimp only at e1 e2
  subst e1; subst e2
  unfold sm_okLO at h2
  have h3 : 2 * (F0 m pc ls ((Value.ref a :: rest).map (sm_v b base))).monitorRoom + ((rest.map (sm_v b base)).map fun v => v.category).sum ≤ 8 := sm_room hw
  exact W.objInit C.1 C.2.1 C.2.2.1 (C.2.2.2.1 _ (sm_good (sm_at_mem h2) rfl)) (C.2.2.2.1 _ (sm_good (sm_at_mem sm_okoi.1) rfl)) (C.2.2.2.1 _ (sm_good (sm_at_mem sm_okoi.2) rfl)) rfl (by rw [C.2.2.2.2.2.2.2.2]; exact J.2.2.1.1) rfl hd hR.1 (by omega) (k H locs cells slots ls J)
theorem sm_ok_copy (C : sm_C p s m args c D cy b base nL cc o L xs) (hR : 1 ≤ R.frames ∧ 64 ≤ R.locals) {idx : Nat} {as rest : List Value} (hd : decode cc pc = .ok (.invokestatic idx, 3)) (hin : sm_LA.any (fun e => Nat.beq e.1 o && Nat.beq e.2.1 idx) = true) (hw : sm_words rest ≤ 8) (hc : sm_copy as w = some (r, w1)) (k : sm_KK p l e R s m args below meth c Q D cy b base w0 nL (pc + 3) (lv) (r.toList ++ rest) (w1)) : sm_KK p l e R s m args below meth c Q D cy b base w0 nL (pc) (lv) (as.reverse ++ rest) (w) := by
  obtain ⟨q, hq, h1⟩ := List.any_eq_true.mp hin
  simp only [Bool.and_eq_true] at h1
  have e1 := Nat.eq_of_beq_eq_true h1.1
  have e2 := Nat.eq_of_beq_eq_true h1.2
  have h2 := List.all_eq_true.mp sm_okLA_ok q hq
  obtain ⟨q1, q2, q3⟩ := q
  dsimp only at e1 e2
  subst e1; subst e2
  unfold sm_okLA at h2
  unfold sm_copy at hc
  split at hc
  · split at hc
    · rename_i ha hb
      split at hc
      · cases hc
      · rename_i hif
        cases hc
        intro H locs cells slots ls J
        simp only [not_or] at hif
        obtain ⟨i1, i2, i3, i4, i5⟩ := hif
        have hnat : nativeFrameWords "java/lang/System" "arraycopy" 5 = 7 := by decide
        exact va_copyi C.1 C.2.1 (by rw [C.2.2.2.2.2.2.2.2]; exact J.2.2.1.1.symm) C.2.2.1 (C.2.2.2.1 _ (sm_good (sm_at_mem h2) rfl)) (C.2.2.2.1 _ (sm_good (sm_at_mem sm_okac.1) rfl)) (C.2.2.2.1 _ (sm_good (sm_at_mem sm_okac.2.1) rfl)) (C.2.2.2.1 _ (sm_good (sm_at_mem sm_okac.2.2) rfl))
          C.2.2.2.2.1.1 J.1 (sm_ws_D cy b base w) J.2.1 _ _ 0 0 (ty := .int) (sm_ws_get ha) (sm_ws_get hb) rfl rfl rfl i1 i2 i3 (by omega) (by omega) (fun _ _ => rfl) hR.1 (by rw [sm_words_map, hnat]; have h9 : sm_words ([].append rest) = sm_words rest := rfl; omega) hd (fun H1 locs1 hP _ hS => k H1 locs1 cells slots ls (J.store hb rfl hP hS))
    · cases hc
  · cases hc
end CLS
end
section
/-! blocks, methods, calls: every run of the small machine is a run of the machine -/
section BLK
variable {p : Program} {l : Launch} {e : Env} {R : Room} {s : State} {m : MethodId} {args : Array Value} {below : List Frame} {meth : Method} {c : Code} {Q : State → Prop} {D : va_G} {cy : Nat → ClassId} {b base : Nat} {w0 : sm_W} {nL : Nat}
variable {cc : ByteArray} {o : Nat} {L : Nat} {xs : Nat → Int32} {pc : Nat} {lv lv' : sm_L} {st st' : List Value} {w w' w1 : sm_W}
variable {ini : Bool} {ret : Option FieldType} {bo : Bool} {bp : List Nat} {cb len : Nat} {rc si : sm_I}
variable {d : Nat} {r : Option Value}
theorem sm_inv_some {calls : Nat → List Value → sm_W → sm_O} {k n : Nat} {st st1 : List Value} {w w1 : sm_W} (h : sm_inv calls k n st w = some (st1, w1)) : ∃ (y : Nat) (as rest : List Value) (r : Option Value), as.length = n % 16 ∧ st = as.reverse ++ rest ∧ sm_words rest ≤ 8 ∧ sm_tg k n as w = some y ∧ calls y as w = some (r, w1) ∧ st1 = r.toList ++ rest := by
  unfold sm_inv at h
  cases hb : (Nat.ble (n % 16) st.length && Nat.ble (sm_words (st.drop (n % 16))) 8) with
  | false => rw [hb] at h; cases h
  | true =>
    rw [hb] at h
    simp only [Bool.and_eq_true] at hb
    have h1 := Nat.le_of_ble_eq_true hb.1
    have h2 := Nat.le_of_ble_eq_true hb.2
    simp only [cond_true] at h
    split at h
    · rename_i y hy
      split at h
      · rename_i r w2 hc
        cases h
        refine ⟨y, (st.take (n % 16)).reverse, st.drop (n % 16), r, by simp; omega, by rw [List.reverse_reverse, List.take_append_drop], h2, hy, hc, rfl⟩
      · cases h
    · cases h
/-- the end of a method: what a return's walk must give -/
def sm_End (p : Program) (l : Launch) (e : Env) (R : Room) (s : State) (m : MethodId) (args : Array Value) (below : List Frame) (meth : Method) (c : Code) (Q : State → Prop) (D : va_G) (cy : Nat → ClassId) (b base : Nat) (w0 : sm_W) (cc : ByteArray) (ret : Option FieldType) (r : Option Value) (wf : sm_W) : Prop :=
  ∀ (pc : Nat) (rc : sm_I) (H : Heap) (locs : List Loc) (cells slots : Nat) (ls : Array Slot), decode cc pc = .ok (rc, 1) →
    ((rc = .ireturn ∧ ret = some .int ∧ ∃ x, r = some (.int x)) ∨ (rc = .ireturn ∧ ret = some .boolean ∧ (r = some (.int 0) ∨ r = some (.int 1))) ∨ (rc = .lreturn ∧ ret = some .long ∧ ∃ x, r = some (.long x)) ∨ (rc = .areturn ∧ (∃ t, ret = some (.object t)) ∧ (r = some .null ∨ ∃ a, r = some (.ref a))) ∨ (rc = .return_ ∧ ret = none ∧ r = none)) →
    va_P D sm_cl (sm_ws cy b base wf) H → H.size = base + wf.length → va_S (fun q => base ≤ q) s.heap H locs → s.heap.size + cells = base + wf.length → sm_sz w0 + slots = sm_sz wf →
    W p l e R s m args below meth c H locs cells slots Q (F0 m pc ls (r.toList.map (sm_v b base)))
theorem sm_br_some {cd : Jvm.ClassFile.Cond} {x y : Int32} {f g : sm_O} {q : Option Value × sm_W} (h : sm_br cd x y f g = some q) : f = some q ∨ g = some q := by
  unfold sm_br at h
  cases cd <;> (dsimp only at h; split at h) <;> first | exact Or.inl h | exact Or.inr h
theorem sm_blk_mono {calls : Nat → List Value → sm_W → sm_O} {jump : Nat → sm_L → List Value → sm_W → sm_O} {wf : sm_W} (hc : ∀ y as w r w1, calls y as w = some (r, w1) → w.length ≤ w1.length ∧ sm_sz w ≤ sm_sz w1) (hj : ∀ t lv st w, jump t lv st w = some (r, wf) → w.length ≤ wf.length ∧ sm_sz w ≤ sm_sz wf) :
    ∀ (is : List sm_I) (lv : sm_L) (st : List Value) (w : sm_W), sm_blk L xs calls jump bo cb is lv st w = some (r, wf) → w.length ≤ wf.length ∧ sm_sz w ≤ sm_sz wf
  | [], _, _, _, h => by cases h
  | i :: is, lv, st, w, h => by
    have step : ∀ (lv1 : sm_L) (st1 : List Value) (w1 : sm_W), w.length ≤ w1.length ∧ sm_sz w ≤ sm_sz w1 → sm_blk L xs calls jump bo cb is lv1 st1 w1 = some (r, wf) → w.length ≤ wf.length ∧ sm_sz w ≤ sm_sz wf := by
      intro lv1 st1 w1 h1 h2
      have h3 := sm_blk_mono hc hj is lv1 st1 w1 h2
      omega
    have inv : ∀ (k n : Nat) (st1 : List Value) (w1 : sm_W), sm_inv calls k n st w = some (st1, w1) → sm_blk L xs calls jump bo cb is lv st1 w1 = some (r, wf) → w.length ≤ wf.length ∧ sm_sz w ≤ sm_sz wf := by
      intro k n st1 w1 h1 h2
      obtain ⟨y, as, rest, r1, -, -, -, -, h3, -⟩ := sm_inv_some h1
      exact step lv st1 w1 (hc _ _ _ _ _ h3) h2
    unfold sm_blk at h
    split at h
    · exact hj _ _ _ _ h
    · exact hj _ _ _ _ h
    · split at h
      · rcases sm_br_some h with h | h <;> exact hj _ _ _ _ h
      · cases h
    · split at h
      · rcases sm_br_some h with h | h <;> exact hj _ _ _ _ h
      · cases h
    · split at h
      · exact hj _ _ _ _ h
      · exact hj _ _ _ _ h
      · cases h
    · split at h
      · exact hj _ _ _ _ h
      · exact hj _ _ _ _ h
      · cases h
    · split at h
      · split at h
        · exact hj _ _ _ _ h
        · split at h
          · exact hj _ _ _ _ h
          · cases h
      · cases h
    · split at h
      · split at h
        · cases h
        · cases h
          exact sm_m_refl _
      · cases h
    · split at h
      · cases h
        exact sm_m_refl _
      · cases h
    · split at h
      · cases h
        exact sm_m_refl _
      · cases h
        exact sm_m_refl _
      · cases h
    · split at h
      · cases h
        exact sm_m_refl _
      · cases h
    · split at h
      · rename_i st1 w1 h1
        exact inv _ _ _ _ h1 h
      · cases h
    · split at h
      · rename_i st1 w1 h1
        exact inv _ _ _ _ h1 h
      · cases h
    · split at h
      · rename_i st1 w1 h1
        exact inv _ _ _ _ h1 h
      · cases h
    · split at h
      · rename_i lv1 st1 w1 h1
        exact step _ _ _ (sm_op_mono h1) h
      · cases h
theorem sm_tgt_some {off t : Int} (h : sm_tgt bp pc off t = true) : ∃ q, bp[t.toNat]? = some q ∧ (pc : Int) + off = (q : Int) := by
  unfold sm_tgt at h
  split at h
  · rename_i q hq
    exact ⟨q, hq, of_decide_eq_true h⟩
  · cases h
theorem sm_nxt_some {t : Nat} (h : sm_nxt bp t pc = true) : bp[t]? = some pc := by
  unfold sm_nxt at h
  split at h
  · rename_i q hq
    rw [hq, Nat.eq_of_beq_eq_true h]
  · cases h
end BLK
end
section
/-! a block's run -/
section BLK2
variable {p : Program} {l : Launch} {e : Env} {R : Room} {s : State} {m : MethodId} {args : Array Value} {below : List Frame} {meth : Method} {c : Code} {Q : State → Prop} {D : va_G} {cy : Nat → ClassId} {b base : Nat} {w0 : sm_W} {nL : Nat}
variable {cc : ByteArray} {o : Nat} {L : Nat} {xs : Nat → Int32} {pc : Nat} {lv lv' : sm_L} {st st' : List Value} {w w' w1 wf : sm_W}
variable {ini : Bool} {ret : Option FieldType} {bo : Bool} {bp : List Nat} {cb len : Nat} {rc si : sm_I}
variable {r : Option Value} {calls : Nat → List Value → sm_W → sm_O} {jump : Nat → sm_L → List Value → sm_W → sm_O}
theorem sm_inv_static (C : sm_C p s m args c D cy b base nL cc o L xs) (hM : (∃ d, sm_Ms l D cy b base L xs d calls ∧ d + 1 ≤ R.frames ∧ 64 * (d + 1) ≤ R.locals) ∨ ∀ y as w, calls y as w = none) {n : Nat} {st1 : List Value} (he : sm_enc o ini nL ret bo bp cb pc len rc (.invokestatic n) = true) (hd : decode cc pc = .ok (rc, len)) (hi : sm_inv calls 0 n st w = some (st1, w1)) (hcap : base + w1.length ≤ s.heap.size + R.cells ∧ sm_sz w1 ≤ sm_sz w0 + R.slots) (k : sm_KK p l e R s m args below meth c Q D cy b base w0 nL (pc + len) (lv) (st1) (w1)) : sm_KK p l e R s m args below meth c Q D cy b base w0 nL (pc) (lv) (st) (w) := by
  obtain ⟨y, as, rest, r1, hn, rfl, hw, htg, hc, rfl⟩ := sm_inv_some hi
  have htg : y = n / 256 := (Option.some.inj htg).symm
  subst htg
  rcases hM with ⟨d, M, hR⟩ | hM
  · simp only [sm_enc] at he
    split at he
    · rename_i idx
      simp only [Bool.and_eq_true] at he
      obtain ⟨h3, he⟩ := he
      have h3 := Nat.eq_of_beq_eq_true h3
      subst h3
      cases hb : Nat.beq (n / 256) 400 with
      | true =>
        rw [hb] at he
        simp only [cond_true, Bool.and_eq_true] at he
        rw [Nat.eq_of_beq_eq_true hb, M.2.2.1] at hc
        exact sm_ok_copy C ⟨by omega, by omega⟩ hd he.2 hw hc k
      | false =>
        rw [hb] at he
        simp only [cond_false, Bool.and_eq_true, Bool.not_eq_true'] at he
        have h5 := Nat.eq_of_beq_eq_true he.1.1
        refine sm_ok_static C M hR hd he.2 ⟨fun h => ?_, fun h => ?_⟩ (hn.trans h5) hw hc hcap k
        · rw [h] at hb; cases hb
        · have h6 := he.1.2; rw [h] at h6; cases h6
    · cases he
  · rw [hM] at hc; cases hc
theorem sm_inv_special (C : sm_C p s m args c D cy b base nL cc o L xs) (hM : (∃ d, sm_Ms l D cy b base L xs d calls ∧ d + 1 ≤ R.frames ∧ 64 * (d + 1) ≤ R.locals) ∨ ∀ y as w, calls y as w = none) {n : Nat} {st1 : List Value} (he : sm_enc o ini nL ret bo bp cb pc len rc (.invokespecial n) = true) (hd : decode cc pc = .ok (rc, len)) (hi : sm_inv calls 1 n st w = some (st1, w1)) (hcap : base + w1.length ≤ s.heap.size + R.cells ∧ sm_sz w1 ≤ sm_sz w0 + R.slots) (k : sm_KK p l e R s m args below meth c Q D cy b base w0 nL (pc + len) (lv) (st1) (w1)) : sm_KK p l e R s m args below meth c Q D cy b base w0 nL (pc) (lv) (st) (w) := by
  obtain ⟨y, as, rest, r1, hn, rfl, hw, htg, hc, rfl⟩ := sm_inv_some hi
  simp only [sm_tg] at htg
  split at htg
  · rename_i a as
    split at htg
    · rename_i ci fs ha
      cases hs : sm_sub ci (n / 16 % 16) with
      | false => rw [hs] at htg; cases htg
      | true =>
        rw [hs] at htg
        have htg : y = n / 256 := (Option.some.inj htg).symm
        subst htg
        rcases hM with ⟨d, M, hR⟩ | hM
        · simp only [sm_enc] at he
          split at he
          · rename_i idx
            simp only [Bool.and_eq_true] at he
            obtain ⟨h3, he⟩ := he
            have h3 := Nat.eq_of_beq_eq_true h3
            subst h3
            rw [List.length_cons] at hn
            cases hb : Nat.beq (n / 256) 401 with
            | true =>
              rw [hb] at he
              simp only [cond_true, Bool.and_eq_true] at he
              rw [Nat.eq_of_beq_eq_true hb] at hc
              obtain ⟨⟨a2, h6⟩, rfl, rfl⟩ := M.2.2.2 _ _ _ _ hc
              cases h6
              exact sm_ok_obj C ⟨by omega, by omega⟩ hd he.2 hw k
            | false =>
              rw [hb] at he
              simp only [cond_false, Bool.and_eq_true, Bool.not_eq_true', Bool.or_eq_true] at he
              have h5 := Nat.eq_of_beq_eq_true he.1.1
              have hy0 : n / 256 ≠ 400 ∧ n / 256 ≠ 401 := ⟨fun h => (by have h6 := he.1.2; rw [h] at h6; cases h6), fun h => (by rw [h] at hb; cases hb)⟩
              rcases he.2 with h7 | h7
              · exact sm_ok_init C M hR hd h7 hy0 (by omega) hw hc hcap k
              · exact sm_ok_super C M hR hd h7 hy0 ha (by omega) hw hc hcap k
          · cases he
        · rw [hM] at hc; cases hc
    · cases htg
  · cases htg
theorem sm_inv_virtual (C : sm_C p s m args c D cy b base nL cc o L xs) (hM : (∃ d, sm_Ms l D cy b base L xs d calls ∧ d + 1 ≤ R.frames ∧ 64 * (d + 1) ≤ R.locals) ∨ ∀ y as w, calls y as w = none) {n : Nat} {st1 : List Value} (he : sm_enc o ini nL ret bo bp cb pc len rc (.invokevirtual n) = true) (hd : decode cc pc = .ok (rc, len)) (hi : sm_inv calls 2 n st w = some (st1, w1)) (hcap : base + w1.length ≤ s.heap.size + R.cells ∧ sm_sz w1 ≤ sm_sz w0 + R.slots) (k : sm_KK p l e R s m args below meth c Q D cy b base w0 nL (pc + len) (lv) (st1) (w1)) : sm_KK p l e R s m args below meth c Q D cy b base w0 nL (pc) (lv) (st) (w) := by
  obtain ⟨y, as, rest, r1, hn, rfl, hw, htg, hc, rfl⟩ := sm_inv_some hi
  simp only [sm_tg] at htg
  split at htg
  · rename_i a as
    split at htg
    · rename_i ci fs ha
      rcases hM with ⟨d, M, hR⟩ | hM
      · simp only [sm_enc] at he
        split at he
        · rename_i idx
          simp only [Bool.and_eq_true] at he
          obtain ⟨h3, he⟩ := he
          have h3 := Nat.eq_of_beq_eq_true h3
          subst h3
          rw [List.length_cons] at hn
          intro H locs cells slots ls J
          have hci := sm_ci J.1 ha
          have h4 := List.all_eq_true.mp he ci (List.mem_range.mpr hci)
          rw [htg] at h4
          simp only [Bool.and_eq_true, Bool.not_eq_true', Bool.or_eq_true] at h4
          obtain ⟨⟨⟨h5, h6⟩, h7⟩, h8⟩ := h4
          have h5 := Nat.eq_of_beq_eq_true h5
          have hy0 : y ≠ 400 ∧ y ≠ 401 := ⟨fun h => (by rw [h] at h6; cases h6), fun h => (by rw [h] at h7; cases h7)⟩
          rcases h8 with h8 | h8
          · exact sm_ok_virt C M hR hd h8 hy0 ha (by omega) hw hc hcap k H locs cells slots ls J
          · exact sm_ok_virtU C M hR hd h8 hy0 ha (by omega) hw hc hcap k H locs cells slots ls J
        · cases he
      · rw [hM] at hc; cases hc
    · cases htg
  · cases htg
theorem sm_op_ne {i : sm_I} {q : sm_L × List Value × sm_W} (h : sm_op L xs i lv st w = some q) : sm_isEnd i = false := by
  cases i <;> first | rfl | (simp only [sm_op] at h; cases h)
theorem sm_enc_ar (h : sm_enc o ini nL ret bo bp cb pc len rc .areturn = true) : rc = .areturn ∧ len = 1 ∧ ∃ t, ret = some (.object t) := by
  simp only [sm_enc, Bool.and_eq_true, decide_eq_true_eq] at h
  obtain ⟨⟨h1, h2⟩, h3⟩ := h
  refine ⟨h1, Nat.eq_of_beq_eq_true h2, ?_⟩
  split at h3
  · exact ⟨_, rfl⟩
  · cases h3
set_option maxHeartbeats 4000000 in
theorem sm_blk_ok (C : sm_C p s m args c D cy b base nL cc o L xs) (hini : ini = true → meth.name = "<init>") (hM : (∃ d, sm_Ms l D cy b base L xs d calls ∧ d + 1 ≤ R.frames ∧ 64 * (d + 1) ≤ R.locals) ∨ ∀ y as w, calls y as w = none) (hcm : ∀ y as w r w1, calls y as w = some (r, w1) → w.length ≤ w1.length ∧ sm_sz w ≤ sm_sz w1)
    (hj : ∀ t lv st w, jump t lv st w = some (r, wf) → ∀ q, bp[t]? = some q → sm_KK p l e R s m args below meth c Q D cy b base w0 nL (q) (lv) (st) (w)) (hjm : ∀ t lv st w, jump t lv st w = some (r, wf) → w.length ≤ wf.length ∧ sm_sz w ≤ sm_sz wf)
    (hcap : base + wf.length ≤ s.heap.size + R.cells ∧ sm_sz wf ≤ sm_sz w0 + R.slots) (E : sm_End p l e R s m args below meth c Q D cy b base w0 cc ret r wf) :
    ∀ (is : List sm_I) (pc : Nat) (lv : sm_L) (st : List Value) (w : sm_W), sm_okB cc o ini nL ret bo bp cb pc is = true → sm_blk L xs calls jump bo cb is lv st w = some (r, wf) → sm_KK p l e R s m args below meth c Q D cy b base w0 nL (pc) (lv) (st) (w)
  | [], _, _, _, _, _, h => by cases h
  | i :: is, pc, lv, st, w, hok, h => by
    unfold sm_okB at hok
    split at hok
    · rename_i t
      exact hj _ _ _ _ h pc (sm_nxt_some hok)
    · split at hok
      · rename_i hnw xd rc len hd
        simp only [Bool.and_eq_true, Bool.or_eq_true] at hok
        obtain ⟨he, hrest⟩ := hok
        have mono := sm_blk_mono (bo := bo) (cb := cb) hcm hjm (L := L) (xs := xs)
        have step : ∀ (lv1 : sm_L) (st1 : List Value) (w1 : sm_W), sm_isEnd i = false → sm_blk L xs calls jump bo cb is lv1 st1 w1 = some (r, wf) → (sm_KK p l e R s m args below meth c Q D cy b base w0 nL (pc + len) (lv1) (st1) (w1)) ∧ (base + w1.length ≤ s.heap.size + R.cells ∧ sm_sz w1 ≤ sm_sz w0 + R.slots) := by
          intro lv1 st1 w1 hend h1
          have h2 := mono is lv1 st1 w1 h1
          refine ⟨sm_blk_ok C hini hM hcm hj hjm hcap E is (pc + len) lv1 st1 w1 (hrest.resolve_left (by rw [hend]; exact Bool.false_ne_true)) h1, by omega, by omega⟩
        unfold sm_blk at h
        split at h
        · rename_i t
          simp only [sm_enc] at he
          split at he
          · simp only [Bool.and_eq_true] at he
            obtain ⟨q, hq, ht⟩ := sm_tgt_some he.1
            have h3 := Nat.eq_of_beq_eq_true he.2
            subst h3
            intro H locs cells slots ls J
            exact lv_goto C.1 C.2.1 hd ht (hj _ _ _ _ h q hq H locs cells slots ls J)
          · cases he
        · exact absurd rfl (hnw _)
        · rename_i cd t
          simp only [sm_enc] at he
          split at he
          · rename_i c2 off
            simp only [Bool.and_eq_true, decide_eq_true_eq] at he
            obtain ⟨⟨⟨h0, h1⟩, h2⟩, h3⟩ := he
            subst h0
            obtain ⟨q, hq, ht⟩ := sm_tgt_some h1
            have hn := sm_nxt_some h2
            have h3 := Nat.eq_of_beq_eq_true h3
            subst h3
            split at h
            · intro H locs cells slots ls J
              unfold sm_br at h
              cases c2 with
              | eq =>
                dsimp only at h
                exact lv_if_eq C.1 C.2.1 hd ht (fun hx => by rw [if_pos hx] at h; exact hj _ _ _ _ h q hq H locs cells slots ls J) (fun hx => by rw [if_neg hx] at h; exact hj _ _ _ _ h _ hn H locs cells slots ls J)
              | lt =>
                dsimp only at h
                exact lv_if_lt C.1 C.2.1 hd ht (fun hx => by rw [if_pos hx] at h; exact hj _ _ _ _ h q hq H locs cells slots ls J) (fun hx => by rw [if_neg hx] at h; exact hj _ _ _ _ h _ hn H locs cells slots ls J)
              | ge =>
                dsimp only at h
                exact lv_if_ge C.1 C.2.1 hd ht (fun hx => by rw [if_pos hx] at h; exact hj _ _ _ _ h q hq H locs cells slots ls J) (fun hx => by rw [if_neg hx] at h; exact hj _ _ _ _ h _ hn H locs cells slots ls J)
              | gt =>
                dsimp only at h
                exact lv_if_gt C.1 C.2.1 hd ht (fun hx => by rw [if_pos hx] at h; exact hj _ _ _ _ h q hq H locs cells slots ls J) (fun hx => by rw [if_neg hx] at h; exact hj _ _ _ _ h _ hn H locs cells slots ls J)
              | le =>
                dsimp only at h
                exact lv_if_le C.1 C.2.1 hd ht (fun hx => by rw [if_pos hx] at h; exact hj _ _ _ _ h q hq H locs cells slots ls J) (fun hx => by rw [if_neg hx] at h; exact hj _ _ _ _ h _ hn H locs cells slots ls J)
              | ne =>
                dsimp only at h
                exact lv_if_ne C.1 C.2.1 hd ht (fun hx => by rw [if_neg hx] at h; exact hj _ _ _ _ h q hq H locs cells slots ls J) (fun hx => by rw [if_pos hx] at h; exact hj _ _ _ _ h _ hn H locs cells slots ls J)
            · cases h
          · cases he
        · rename_i cd t
          simp only [sm_enc] at he
          split at he
          · rename_i c2 off
            simp only [Bool.and_eq_true, decide_eq_true_eq] at he
            obtain ⟨⟨⟨h0, h1⟩, h2⟩, h3⟩ := he
            subst h0
            obtain ⟨q, hq, ht⟩ := sm_tgt_some h1
            have hn := sm_nxt_some h2
            have h3 := Nat.eq_of_beq_eq_true h3
            subst h3
            split at h
            · intro H locs cells slots ls J
              unfold sm_br at h
              cases c2 with
              | eq =>
                dsimp only at h
                exact lv_icmp_eq C.1 C.2.1 hd ht (fun hx => by rw [if_pos hx] at h; exact hj _ _ _ _ h q hq H locs cells slots ls J) (fun hx => by rw [if_neg hx] at h; exact hj _ _ _ _ h _ hn H locs cells slots ls J)
              | lt =>
                dsimp only at h
                exact lv_icmp_lt C.1 C.2.1 hd ht (fun hx => by rw [if_pos hx] at h; exact hj _ _ _ _ h q hq H locs cells slots ls J) (fun hx => by rw [if_neg hx] at h; exact hj _ _ _ _ h _ hn H locs cells slots ls J)
              | ge =>
                dsimp only at h
                exact lv_icmp_ge C.1 C.2.1 hd ht (fun hx => by rw [if_pos hx] at h; exact hj _ _ _ _ h q hq H locs cells slots ls J) (fun hx => by rw [if_neg hx] at h; exact hj _ _ _ _ h _ hn H locs cells slots ls J)
              | gt =>
                dsimp only at h
                exact lv_icmp_gt C.1 C.2.1 hd ht (fun hx => by rw [if_pos hx] at h; exact hj _ _ _ _ h q hq H locs cells slots ls J) (fun hx => by rw [if_neg hx] at h; exact hj _ _ _ _ h _ hn H locs cells slots ls J)
              | le =>
                dsimp only at h
                exact lv_icmp_le C.1 C.2.1 hd ht (fun hx => by rw [if_pos hx] at h; exact hj _ _ _ _ h q hq H locs cells slots ls J) (fun hx => by rw [if_neg hx] at h; exact hj _ _ _ _ h _ hn H locs cells slots ls J)
              | ne =>
                dsimp only at h
                exact lv_icmp_ne C.1 C.2.1 hd ht (fun hx => by rw [if_neg hx] at h; exact hj _ _ _ _ h q hq H locs cells slots ls J) (fun hx => by rw [if_pos hx] at h; exact hj _ _ _ _ h _ hn H locs cells slots ls J)
            · cases h
          · cases he
        · rename_i t
          simp only [sm_enc] at he
          split at he
          · simp only [Bool.and_eq_true] at he
            obtain ⟨⟨h1, h2⟩, h3⟩ := he
            obtain ⟨q, hq, ht⟩ := sm_tgt_some h1
            have hn := sm_nxt_some h2
            have h3 := Nat.eq_of_beq_eq_true h3
            subst h3
            split at h
            · intro H locs cells slots ls J
              exact lv_ifnullN C.1 C.2.1 hd ht (hj _ _ _ _ h q hq H locs cells slots ls J)
            · intro H locs cells slots ls J
              exact lv_ifnull C.1 C.2.1 hd (hj _ _ _ _ h _ hn H locs cells slots ls J)
            · cases h
          · cases he
        · rename_i t
          simp only [sm_enc] at he
          split at he
          · simp only [Bool.and_eq_true] at he
            obtain ⟨⟨h1, h2⟩, h3⟩ := he
            obtain ⟨q, hq, ht⟩ := sm_tgt_some h1
            have hn := sm_nxt_some h2
            have h3 := Nat.eq_of_beq_eq_true h3
            subst h3
            split at h
            · intro H locs cells slots ls J
              exact lv_ifnonnull C.1 C.2.1 hd ht (hj _ _ _ _ h q hq H locs cells slots ls J)
            · intro H locs cells slots ls J
              exact lv_ifnonnullN C.1 C.2.1 hd (hj _ _ _ _ h _ hn H locs cells slots ls J)
            · cases h
          · cases he
        · rename_i dd lo hi offs
          simp only [sm_enc] at he
          split at he
          · simp only [Bool.and_eq_true, decide_eq_true_eq] at he
            obtain ⟨⟨⟨⟨h1, rfl⟩, rfl⟩, h4⟩, h5⟩ := he
            obtain ⟨q, hq, ht⟩ := sm_tgt_some h1
            split at h
            · rename_i x rr
              split at h
              · rename_i hx
                intro H locs cells slots ls J
                exact lv_tableOut C.1 C.2.1 hd hx ht (hj _ _ _ _ h q hq H locs cells slots ls J)
              · rename_i hx
                split at h
                · rename_i t hoff
                  have hlt := (Array.getElem?_eq_some_iff.mp hoff).1
                  have h6 := List.all_eq_true.mp h5 _ (List.mem_range.mpr hlt)
                  rw [hoff] at h6
                  split at h6
                  · rename_i a t2 ha2 ht2
                    cases ht2
                    obtain ⟨q2, hq2, ht3⟩ := sm_tgt_some h6
                    intro H locs cells slots ls J
                    exact lv_tableIn C.1 C.2.1 hd (fun g => hx (Or.inl g)) (fun g => hx (Or.inr g)) ha2 ht3 (hj _ _ _ _ h q2 hq2 H locs cells slots ls J)
                  · cases h6
                · cases h
            · cases h
          · cases he
        · have he2 : (decide (rc = .ireturn) && Nat.beq len 1 && (bif bo then decide (ret = some .boolean) else decide (ret = some .int))) = true := he
          simp only [Bool.and_eq_true, decide_eq_true_eq] at he2
          obtain ⟨⟨rfl, h1⟩, h2⟩ := he2
          have h1 := Nat.eq_of_beq_eq_true h1
          subst h1
          split at h
          · split at h
            · cases h
            · rename_i x hx
              cases h
              intro H locs cells slots ls J
              refine J.size C.2.2.2.2.2.2.2.1 fun hz => ?_
              refine E pc .ireturn H locs cells slots ls hd ?_ J.1 hz J.2.1 J.2.2.2.1 J.2.2.2.2
              cases bo with
              | false => exact Or.inl ⟨rfl, of_decide_eq_true h2, _, rfl⟩
              | true =>
                have h3 : x = 0 ∨ x = 1 := Decidable.not_not.mp fun hn => hx ⟨rfl, hn⟩
                exact Or.inr (Or.inl ⟨rfl, of_decide_eq_true h2, h3.imp (fun g => by rw [g]) (fun g => by rw [g])⟩)
          · cases h
        · have he2 : (decide (rc = .lreturn) && Nat.beq len 1 && decide (ret = some .long)) = true := he
          simp only [Bool.and_eq_true, decide_eq_true_eq] at he2
          obtain ⟨⟨rfl, h1⟩, h2⟩ := he2
          have h1 := Nat.eq_of_beq_eq_true h1
          subst h1
          split at h
          · cases h
            intro H locs cells slots ls J
            refine J.size C.2.2.2.2.2.2.2.1 fun hz => ?_
            exact E pc .lreturn H locs cells slots ls hd (Or.inr (Or.inr (Or.inl ⟨rfl, h2, _, rfl⟩))) J.1 hz J.2.1 J.2.2.2.1 J.2.2.2.2
          · cases h
        · obtain ⟨rfl, rfl, hro⟩ := sm_enc_ar he
          split at h
          · cases h
            intro H locs cells slots ls J
            refine J.size C.2.2.2.2.2.2.2.1 fun hz => ?_
            exact E pc .areturn H locs cells slots ls hd (Or.inr (Or.inr (Or.inr (Or.inl ⟨rfl, hro, Or.inr ⟨_, rfl⟩⟩)))) J.1 hz J.2.1 J.2.2.2.1 J.2.2.2.2
          · cases h
            intro H locs cells slots ls J
            refine J.size C.2.2.2.2.2.2.2.1 fun hz => ?_
            exact E pc .areturn H locs cells slots ls hd (Or.inr (Or.inr (Or.inr (Or.inl ⟨rfl, hro, Or.inl rfl⟩)))) J.1 hz J.2.1 J.2.2.2.1 J.2.2.2.2
          · cases h
        · have he2 : (decide (rc = .return_) && Nat.beq len 1 && decide (ret = none)) = true := he
          simp only [Bool.and_eq_true, decide_eq_true_eq] at he2
          obtain ⟨⟨rfl, h1⟩, h2⟩ := he2
          have h1 := Nat.eq_of_beq_eq_true h1
          subst h1
          split at h
          · cases h
            intro H locs cells slots ls J
            refine J.size C.2.2.2.2.2.2.2.1 fun hz => ?_
            exact E pc .return_ H locs cells slots ls hd (Or.inr (Or.inr (Or.inr (Or.inr ⟨rfl, h2, rfl⟩)))) J.1 hz J.2.1 J.2.2.2.1 J.2.2.2.2
          · cases h
        · split at h
          · rename_i n st1 w1 hi
            have hs := step _ _ _ rfl h
            exact sm_inv_static C hM he hd hi hs.2 hs.1
          · cases h
        · split at h
          · rename_i n st1 w1 hi
            have hs := step _ _ _ rfl h
            exact sm_inv_special C hM he hd hi hs.2 hs.1
          · cases h
        · split at h
          · rename_i n st1 w1 hi
            have hs := step _ _ _ rfl h
            exact sm_inv_virtual C hM he hd hi hs.2 hs.1
          · cases h
        · split at h
          · rename_i lv1 st1 w1 hop
            have hs := step _ _ _ (sm_op_ne hop) h
            exact sm_op_ok C hini he hd hop hs.2 hs.1
          · cases h
      · cases hok
end BLK2
end
section
/-! the contract of every method, and of the law -/
theorem sm_nLs_ok : (List.range 231).all (fun y => Nat.beq (sm_nLs.getD y 0) (sm_nL y)) = true := by decide +kernel
theorem sm_MT_len : sm_MT.length = 231 := by decide +kernel
theorem sm_code_eq (y b : Nat) : sm_code y b = ((sm_prog.getD y (false, [])).2).getD b [] := by
  unfold sm_code
  rw [List.getD_eq_getElem?_getD, List.getD_eq_getElem?_getD]
  cases h : sm_prog[y]? with
  | none => rfl
  | some q =>
    dsimp only
    cases h2 : q.2[b]? with
    | none => simp [h2]
    | some v => simp [h2]
theorem sm_meth_mono {L : Nat} {xs : Nat → Int32} {calls : Nat → List Value → sm_W → sm_O} {y : Nat} {r : Option Value} {wf : sm_W} (hc : ∀ y as w r w1, calls y as w = some (r, w1) → w.length ≤ w1.length ∧ sm_sz w ≤ sm_sz w1) :
    ∀ (n t : Nat) (lv : sm_L) (st : List Value) (w : sm_W), sm_meth L xs calls y n t lv st w = some (r, wf) → w.length ≤ wf.length ∧ sm_sz w ≤ sm_sz wf
  | 0, _, _, _, _, h => by cases h
  | n + 1, t, lv, st, w, h => sm_blk_mono hc (sm_meth_mono hc n) _ _ _ _ h
theorem sm_copy_mono {as : List Value} {w w1 : sm_W} {r : Option Value} (h : sm_copy as w = some (r, w1)) : w.length ≤ w1.length ∧ sm_sz w ≤ sm_sz w1 := by
  unfold sm_copy at h
  split at h
  · split at h
    · split at h
      · cases h
      · rename_i hb _
        cases h
        exact sm_m_set hb rfl
    · cases h
  · cases h
theorem sm_call_cases {L : Nat} {xs : Nat → Int32} {d n y : Nat} {as : List Value} {w : sm_W} {q : Option Value × sm_W} (h : sm_call L xs (d + 1) n y as w = some q) :
    (y = 400 ∧ sm_copy as w = some q) ∨ (y = 401 ∧ (∃ a, as = [.ref a]) ∧ q = (none, w)) ∨ (y ≠ 400 ∧ y ≠ 401 ∧ sm_words as ≤ sm_nLs.getD y 0 ∧ sm_meth L xs (sm_call L xs d n) y n 0 (lv_args 0 as) [] w = some q) := by
  unfold sm_call at h
  cases h1 : Nat.beq y 400 with
  | true =>
    rw [h1] at h
    exact Or.inl ⟨Nat.eq_of_beq_eq_true h1, h⟩
  | false =>
    rw [h1] at h
    simp only [cond_false] at h
    cases h2 : Nat.beq y 401 with
    | true =>
      rw [h2] at h
      simp only [cond_true] at h
      split at h
      · cases h
        exact Or.inr (Or.inl ⟨Nat.eq_of_beq_eq_true h2, ⟨_, rfl⟩, rfl⟩)
      · cases h
    | false =>
      rw [h2] at h
      simp only [cond_false] at h
      cases h3 : Nat.ble (sm_words as) (sm_nLs.getD y 0) with
      | false => rw [h3] at h; cases h
      | true =>
        rw [h3] at h
        exact Or.inr (Or.inr ⟨fun e => (by rw [e] at h1; cases h1), fun e => (by rw [e] at h2; cases h2), Nat.le_of_ble_eq_true h3, h⟩)
theorem sm_call_mono {L : Nat} {xs : Nat → Int32} {n : Nat} : ∀ (d y : Nat) (as : List Value) (w : sm_W) (r : Option Value) (w1 : sm_W), sm_call L xs d n y as w = some (r, w1) → w.length ≤ w1.length ∧ sm_sz w ≤ sm_sz w1
  | 0, _, _, _, _, _, h => by cases h
  | d + 1, y, as, w, r, w1, h => by
    rcases sm_call_cases h with ⟨-, h⟩ | ⟨-, -, h⟩ | ⟨-, -, -, h⟩
    · exact sm_copy_mono h
    · cases h
      exact sm_m_refl _
    · exact sm_meth_mono (sm_call_mono d) _ _ _ _ _ h
section MET
variable {p : Program} {l : Launch} {e : Env} {R : Room} {s : State} {m : MethodId} {args : Array Value} {below : List Frame} {meth : Method} {c : Code} {Q : State → Prop} {D : va_G} {cy : Nat → ClassId} {b base : Nat} {w0 : sm_W} {nL : Nat}
variable {cc : ByteArray} {o : Nat} {L : Nat} {xs : Nat → Int32} {r : Option Value} {wf : sm_W} {calls : Nat → List Value → sm_W → sm_O} {ini : Bool} {ret : Option FieldType}
theorem sm_meth_ok {y : Nat} (C : sm_C p s m args c D cy b base nL cc o L xs) (hini : ini = true → meth.name = "<init>") (hok : sm_okQ cc o ini nL ret (sm_bo y) (sm_bp.getD y []) ((sm_prog.getD y (false, [])).2) = true) (hM : (∃ d, sm_Ms l D cy b base L xs d calls ∧ d + 1 ≤ R.frames ∧ 64 * (d + 1) ≤ R.locals) ∨ ∀ y as w, calls y as w = none) (hcm : ∀ y as w r w1, calls y as w = some (r, w1) → w.length ≤ w1.length ∧ sm_sz w ≤ sm_sz w1)
    (hcap : base + wf.length ≤ s.heap.size + R.cells ∧ sm_sz wf ≤ sm_sz w0 + R.slots) (E : sm_End p l e R s m args below meth c Q D cy b base w0 cc ret r wf) :
    ∀ (n t : Nat) (lv : sm_L) (st : List Value) (w : sm_W), sm_meth L xs calls y n t lv st w = some (r, wf) → ∀ q, (sm_bp.getD y [])[t]? = some q → sm_KK p l e R s m args below meth c Q D cy b base w0 nL (q) (lv) (st) (w)
  | 0, _, _, _, _, h, _, _ => by cases h
  | n + 1, t, lv, st, w, h, q, hq => by
    unfold sm_okQ at hok
    simp only [Bool.and_eq_true] at hok
    obtain ⟨⟨h1, h2⟩, h3⟩ := hok
    have hlt := (List.getElem?_eq_some_iff.mp hq).1
    rw [Nat.eq_of_beq_eq_true h1] at hlt
    have h4 := List.all_eq_true.mp h3 t (List.mem_range.mpr hlt)
    rw [List.getD_eq_getElem?_getD (l := sm_bp.getD y []), hq, ← sm_code_eq] at h4
    exact sm_blk_ok C hini hM hcm (sm_meth_ok C hini (by unfold sm_okQ; simp only [Bool.and_eq_true]; exact ⟨⟨h1, h2⟩, h3⟩) hM hcm hcap E n) (sm_meth_mono hcm n) hcap E (sm_code y t) q lv st w h4 h
end MET
set_option maxRecDepth 100000 in
theorem sm_okA : ([0, 1, 2, 3, 4, 5, 6, 7, 8, 9, 10, 11, 12, 13, 14, 15, 16, 17, 18, 19, 20, 21, 22, 23, 24, 25, 26, 27, 28, 29, 30, 31, 32, 33, 34, 35, 36, 37, 38, 39, 40, 41, 42, 43, 44, 45, 46, 47, 48, 49, 50, 51, 52, 53, 54, 55, 56, 57, 58, 59, 60, 61, 62, 63, 64, 65, 66, 67, 68, 69, 70, 71, 72, 73, 74, 75, 76, 77, 78, 79, 80, 81, 82, 83, 84, 85, 86, 87, 88, 89, 90, 91, 92, 93, 94, 95, 96, 97, 98, 99, 100, 101, 102, 103, 104, 105, 106, 107, 108, 109, 110, 111, 112, 113, 114, 115, 116, 117, 118, 119, 120, 121, 122, 123, 124, 125, 126, 127, 128, 129, 130, 131, 132, 133, 134, 135, 136, 137, 138, 139, 140, 141, 142, 143, 144, 145, 146, 147, 148, 149, 150, 151, 152, 153, 154, 155, 156, 157, 158, 159, 160, 161, 162, 163, 164, 165, 166, 167, 168, 169, 170, 171, 172, 173, 174, 175, 176, 177, 178, 179, 180, 181, 182, 183, 184, 185, 186, 187, 188, 189, 190, 191, 192, 193, 194, 195, 196, 197, 198, 199, 200, 201, 202, 203, 204, 205, 206, 207, 208, 209, 210, 211, 212, 213, 214, 215, 216, 217, 218, 219, 220, 221, 222, 223, 224, 225, 226, 227, 228, 229, 230]).all sm_okM = true := by
  simp only [List.all_cons, List.all_nil, Bool.and_true, sm_ok_0, sm_ok_1, sm_ok_2, sm_ok_3, sm_ok_4, sm_ok_5, sm_ok_6, sm_ok_7, sm_ok_8, sm_ok_9, sm_ok_10, sm_ok_11, sm_ok_12, sm_ok_13, sm_ok_14, sm_ok_15, sm_ok_16, sm_ok_17, sm_ok_18, sm_ok_19, sm_ok_20, sm_ok_21, sm_ok_22, sm_ok_23, sm_ok_24, sm_ok_25, sm_ok_26, sm_ok_27, sm_ok_28, sm_ok_29, sm_ok_30, sm_ok_31, sm_ok_32, sm_ok_33, sm_ok_34, sm_ok_35, sm_ok_36, sm_ok_37, sm_ok_38, sm_ok_39, sm_ok_40, sm_ok_41, sm_ok_42, sm_ok_43, sm_ok_44, sm_ok_45, sm_ok_46, sm_ok_47, sm_ok_48, sm_ok_49, sm_ok_50, sm_ok_51, sm_ok_52, sm_ok_53, sm_ok_54, sm_ok_55, sm_ok_56, sm_ok_57, sm_ok_58, sm_ok_59, sm_ok_60, sm_ok_61, sm_ok_62, sm_ok_63, sm_ok_64, sm_ok_65, sm_ok_66, sm_ok_67, sm_ok_68, sm_ok_69, sm_ok_70, sm_ok_71, sm_ok_72, sm_ok_73, sm_ok_74, sm_ok_75, sm_ok_76, sm_ok_77, sm_ok_78, sm_ok_79, sm_ok_80, sm_ok_81, sm_ok_82, sm_ok_83, sm_ok_84, sm_ok_85, sm_ok_86, sm_ok_87, sm_ok_88, sm_ok_89, sm_ok_90, sm_ok_91, sm_ok_92, sm_ok_93, sm_ok_94, sm_ok_95, sm_ok_96, sm_ok_97, sm_ok_98, sm_ok_99, sm_ok_100, sm_ok_101, sm_ok_102, sm_ok_103, sm_ok_104, sm_ok_105, sm_ok_106, sm_ok_107, sm_ok_108, sm_ok_109, sm_ok_110, sm_ok_111, sm_ok_112, sm_ok_113, sm_ok_114, sm_ok_115, sm_ok_116, sm_ok_117, sm_ok_118, sm_ok_119, sm_ok_120, sm_ok_121, sm_ok_122, sm_ok_123, sm_ok_124, sm_ok_125, sm_ok_126, sm_ok_127, sm_ok_128, sm_ok_129, sm_ok_130, sm_ok_131, sm_ok_132, sm_ok_133, sm_ok_134, sm_ok_135, sm_ok_136, sm_ok_137, sm_ok_138, sm_ok_139, sm_ok_140, sm_ok_141, sm_ok_142, sm_ok_143, sm_ok_144, sm_ok_145, sm_ok_146, sm_ok_147, sm_ok_148, sm_ok_149, sm_ok_150, sm_ok_151, sm_ok_152, sm_ok_153, sm_ok_154, sm_ok_155, sm_ok_156, sm_ok_157, sm_ok_158, sm_ok_159, sm_ok_160, sm_ok_161, sm_ok_162, sm_ok_163, sm_ok_164, sm_ok_165, sm_ok_166, sm_ok_167, sm_ok_168, sm_ok_169, sm_ok_170, sm_ok_171, sm_ok_172, sm_ok_173, sm_ok_174, sm_ok_175, sm_ok_176, sm_ok_177, sm_ok_178, sm_ok_179, sm_ok_180, sm_ok_181, sm_ok_182, sm_ok_183, sm_ok_184, sm_ok_185, sm_ok_186, sm_ok_187, sm_ok_188, sm_ok_189, sm_ok_190, sm_ok_191, sm_ok_192, sm_ok_193, sm_ok_194, sm_ok_195, sm_ok_196, sm_ok_197, sm_ok_198, sm_ok_199, sm_ok_200, sm_ok_201, sm_ok_202, sm_ok_203, sm_ok_204, sm_ok_205, sm_ok_206, sm_ok_207, sm_ok_208, sm_ok_209, sm_ok_210, sm_ok_211, sm_ok_212, sm_ok_213, sm_ok_214, sm_ok_215, sm_ok_216, sm_ok_217, sm_ok_218, sm_ok_219, sm_ok_220, sm_ok_221, sm_ok_222, sm_ok_223, sm_ok_224, sm_ok_225, sm_ok_226, sm_ok_227, sm_ok_228, sm_ok_229, sm_ok_230]
theorem sm_okM_at {y : Nat} (h : y < 231) : sm_okM y = true := by
  refine List.all_eq_true.mp sm_okA y ?_
  have h1 : y ∈ List.range 231 := List.mem_range.mpr h
  have h2 : List.range 231 = [0, 1, 2, 3, 4, 5, 6, 7, 8, 9, 10, 11, 12, 13, 14, 15, 16, 17, 18, 19, 20, 21, 22, 23, 24, 25, 26, 27, 28, 29, 30, 31, 32, 33, 34, 35, 36, 37, 38, 39, 40, 41, 42, 43, 44, 45, 46, 47, 48, 49, 50, 51, 52, 53, 54, 55, 56, 57, 58, 59, 60, 61, 62, 63, 64, 65, 66, 67, 68, 69, 70, 71, 72, 73, 74, 75, 76, 77, 78, 79, 80, 81, 82, 83, 84, 85, 86, 87, 88, 89, 90, 91, 92, 93, 94, 95, 96, 97, 98, 99, 100, 101, 102, 103, 104, 105, 106, 107, 108, 109, 110, 111, 112, 113, 114, 115, 116, 117, 118, 119, 120, 121, 122, 123, 124, 125, 126, 127, 128, 129, 130, 131, 132, 133, 134, 135, 136, 137, 138, 139, 140, 141, 142, 143, 144, 145, 146, 147, 148, 149, 150, 151, 152, 153, 154, 155, 156, 157, 158, 159, 160, 161, 162, 163, 164, 165, 166, 167, 168, 169, 170, 171, 172, 173, 174, 175, 176, 177, 178, 179, 180, 181, 182, 183, 184, 185, 186, 187, 188, 189, 190, 191, 192, 193, 194, 195, 196, 197, 198, 199, 200, 201, 202, 203, 204, 205, 206, 207, 208, 209, 210, 211, 212, 213, 214, 215, 216, 217, 218, 219, 220, 221, 222, 223, 224, 225, 226, 227, 228, 229, 230] := by decide +kernel
  rw [← h2]
  exact h1
theorem sm_sl_len : ∀ vs : List Value, (lg_sl vs).length = sm_words vs
  | [] => rfl
  | v :: vs => by
    have ih := sm_sl_len vs
    have e1 : lg_sl (v :: vs) = (if v.category = 2 then [.val v, .second] else [.val v]) ++ lg_sl vs := rfl
    have e2 : sm_words (v :: vs) = v.category + sm_words vs := rfl
    rw [e1, e2, List.length_append, ih]
    rcases lv_cat v with h | h
    · rw [h, if_neg (by decide)]; rfl
    · rw [h, if_pos rfl]; rfl
theorem sm_words_v (b base : Nat) (vs : List Value) : sm_words (vs.map (sm_v b base)) = sm_words vs := sm_words_map b base vs
theorem sm_bp0 {y : Nat} {cc : ByteArray} {o nL : Nat} {ini bo : Bool} {ret : Option FieldType} {bp : List Nat} {q : List (List sm_I)} (h : sm_okQ cc o ini nL ret bo bp q = true) : bp[0]? = some 0 := by
  unfold sm_okQ at h
  simp only [Bool.and_eq_true] at h
  have h2 := h.1.2
  split at h2
  · assumption
  · cases h2
set_option maxHeartbeats 2000000 in
theorem sm_Ms_step (l : Launch) (D : va_G) (cy : Nat → ClassId) (b base L : Nat) (xs : Nat → Int32) (n d : Nat)
    (hM : (∃ d', sm_Ms l D cy b base L xs d' (sm_call L xs d n) ∧ d' + 1 ≤ d ∧ 64 * (d' + 1) ≤ 64 * d) ∨ ∀ y as w, sm_call L xs d n y as w = none) : sm_Ms l D cy b base L xs d (sm_call L xs (d + 1) n) := by
  refine ⟨fun y as w r w1 h => sm_call_mono (d + 1) y as w r w1 h, ?_, ?_, ?_⟩
  · intro y as w r w1 h h400 h401 hy ho
    rcases sm_call_cases h with ⟨h1, -⟩ | ⟨h1, -⟩ | ⟨-, -, hw, h1⟩
    · exact absurd h1 h400
    · exact absurd h1 h401
    have hm := sm_call_mono (d + 1) y as w r w1 h
    have hy2 : y < 231 := by rw [← sm_MT_len]; exact hy
    have hnl : sm_nLs.getD y 0 = sm_nL y := Nat.eq_of_beq_eq_true (List.all_eq_true.mp sm_nLs_ok y (List.mem_range.mpr hy2))
    rw [hnl] at hw
    refine va_MetF (cc := sm_bytes y) (maxL := sm_nL y) (ret := sm_ret y) (sm_plain_ok hy ho) rfl ?_
    intro p e s m args below meth c s₁ B hml hv
    obtain ⟨rfl, hP, hz, hK, hX, hb⟩ := hv
    have C : sm_C p s m (as.map (sm_v b base)).toArray c D cy b base (sm_nL y) (sm_bytes y) (sm_own y) L xs :=
      ⟨B.exec, B.bytes, by rw [sm_own_cn hy]; exact findClass_of_methodNamed B.named, fun w hw => atoms_spec (ws := sm_wsM y) B.pre w (List.mem_cons_of_mem _ hw), hK, hX, hb, by omega, hml⟩
    have hini : decide ((sm_y y).name = "<init>") = true → meth.name = "<init>" := fun h => (name_of_methodNamed B.named B.method).1.trans (of_decide_eq_true h)
    have hlocks := B.notSynchronized
    have hr := B.returns
    have hl := lv_entry (as.map (sm_v b base)) (n := sm_nL y) (by rw [sm_sl_len, sm_words_v]; exact hw)
    rw [lg_entry_eq]
    generalize (lg_sl (as.map (sm_v b base)) ++ List.replicate (sm_nL y - (lg_sl (as.map (sm_v b base))).length) Slot.unset).toArray = ls at hl ⊢
    rw [sm_args_map] at hl
    have hokm := sm_okM_at hy2
    have hcells : ∀ cells, s.heap.size + cells = base + w1.length → cells = w1.length - w.length := fun cells h => by omega
    have hslots : ∀ slots, sm_sz w + slots = sm_sz w1 → slots = sm_sz w1 - sm_sz w := fun slots h => by omega
    have hQ : ∀ (H : Heap) (locs : List Loc), va_P D sm_cl (sm_ws cy b base w1) H → H.size = base + w1.length → va_S (fun q => base ≤ q) s.heap H locs → ∀ t : State, t.heap = H → s.WarmedH t.vm → sm_Qc D cy b base r w1 (as.map (sm_v b base)).toArray s (.returned (r.map (sm_v b base))) t := by
      intro H locs h1 h2 h3 t ht _
      exact ⟨rfl, by rw [ht]; exact h1, by rw [ht]; exact h2, by rw [ht]; exact h3.1, fun q g1 g2 => by rw [ht]; exact h3.2.1 q g1 g2⟩
    have E : sm_End p l e (sm_rm d (w1.length - w.length) (sm_sz w1 - sm_sz w)) s m (as.map (sm_v b base)).toArray below meth c (MQ below (sm_Qc D cy b base r w1) (as.map (sm_v b base)).toArray s (w1.length - w.length) (sm_sz w1 - sm_sz w) (fun q => base ≤ q)) D cy b base w (sm_bytes y) (sm_ret y) r w1 := by
      intro pc rc H locs cells slots ls hd hkind hP1 hz1 hS1 hc1 hs1
      have e1 := hcells _ hc1
      have e2 := hslots _ hs1
      subst e1; subst e2
      have hq := hQ H locs hP1 hz1 hS1
      rcases hkind with ⟨rfl, g1, x, rfl⟩ | ⟨rfl, g1, g2⟩ | ⟨rfl, g1, x, rfl⟩ | ⟨rfl, ⟨t, g1⟩, g2⟩ | ⟨rfl, g1, rfl⟩
      · exact W.iret C.1 C.2.1 (hr.trans g1) hq hS1.2.2 hd
      · rcases g2 with rfl | rfl
        · exact W.zret C.1 C.2.1 (hr.trans g1) rfl hq hS1.2.2 hd
        · exact W.zret C.1 C.2.1 (hr.trans g1) rfl hq hS1.2.2 hd
      · exact W.lret C.1 C.2.1 (hr.trans g1) hq hS1.2.2 hd
      · rcases g2 with rfl | ⟨a, rfl⟩
        · exact W.aret C.1 C.2.1 (hr.trans g1) (Or.inl ⟨_, rfl⟩) (Or.inl rfl) hq hS1.2.2 hd
        · exact W.aret C.1 C.2.1 (hr.trans g1) (Or.inl ⟨_, rfl⟩) (Or.inr ⟨_, rfl⟩) hq hS1.2.2 hd
      · exact W.vret C.1 C.2.1 (hr.trans g1) hq hS1.2.2 hd
    have key := sm_meth_ok (l := l) (w0 := w) (y := y) C hini hokm hM (sm_call_mono d) ⟨by show base + w1.length ≤ s.heap.size + (w1.length - w.length); omega, by show sm_sz w1 ≤ sm_sz w + (sm_sz w1 - sm_sz w); omega⟩ E n 0 (lv_args 0 as) [] w h1 0 (sm_bp0 (y := y) hokm)
    exact key s.heap [] 0 0 ls ⟨hP, va_S.rf, hl, by omega, by omega⟩
  · intro as w
    rfl
  · intro as w r w1 h
    rcases sm_call_cases h with ⟨h1, -⟩ | ⟨-, h2, h3⟩ | ⟨-, h1, -⟩
    · cases h1
    · cases h3
      exact ⟨h2, rfl, rfl⟩
    · exact absurd rfl h1
/-- every run of the small machine is a run of the machine -/
theorem sm_Ms_ok (l : Launch) (D : va_G) (cy : Nat → ClassId) (b base L : Nat) (xs : Nat → Int32) (n : Nat) : ∀ d, sm_Ms l D cy b base L xs d (sm_call L xs (d + 1) n)
  | 0 => sm_Ms_step l D cy b base L xs n 0 (Or.inr fun _ _ _ => rfl)
  | d + 1 => sm_Ms_step l D cy b base L xs n (d + 1) (Or.inl ⟨d, sm_Ms_ok l D cy b base L xs n d, Nat.le_refl _, Nat.le_refl _⟩)
end
section
def sm_lawbp : List Nat := [0, 18, 27, 172, 213, 215, 256, 258, 309, 311, 335, 339, 340, 367, 371, 372, 378, 380, 404, 408, 409, 417, 421, 422, 449, 453, 454, 462, 466, 467, 473, 475, 516, 518, 599, 601, 622, 624, 695, 697, 768, 770, 802, 804, 818, 822, 823, 845, 849, 850, 861, 863, 884, 886, 927, 929, 961, 963, 1004, 1006, 1037, 1039, 1060, 1062, 1103, 1105, 1137, 1139, 1160, 1162, 1193, 1195, 1292, 1294, 1305, 1307, 1328, 1330, 1351, 1353, 1374, 1376, 1387, 1389, 1410, 1412, 1434, 1436, 1457, 1459, 1465]
theorem sm_lb_0 : sm_okB code 13 false 4 (some .boolean) true sm_lawbp 0 0 (q_L_law.getD 0 []) = true := by decide +kernel
theorem sm_lb_1 : sm_okB code 13 false 4 (some .boolean) true sm_lawbp 1 18 (q_L_law.getD 1 []) = true := by decide +kernel
theorem sm_lb_2 : sm_okB code 13 false 4 (some .boolean) true sm_lawbp 2 27 (q_L_law.getD 2 []) = true := by decide +kernel
theorem sm_lb_3 : sm_okB code 13 false 4 (some .boolean) true sm_lawbp 3 172 (q_L_law.getD 3 []) = true := by decide +kernel
theorem sm_lb_4 : sm_okB code 13 false 4 (some .boolean) true sm_lawbp 4 213 (q_L_law.getD 4 []) = true := by decide +kernel
theorem sm_lb_5 : sm_okB code 13 false 4 (some .boolean) true sm_lawbp 5 215 (q_L_law.getD 5 []) = true := by decide +kernel
theorem sm_lb_6 : sm_okB code 13 false 4 (some .boolean) true sm_lawbp 6 256 (q_L_law.getD 6 []) = true := by decide +kernel
theorem sm_lb_7 : sm_okB code 13 false 4 (some .boolean) true sm_lawbp 7 258 (q_L_law.getD 7 []) = true := by decide +kernel
theorem sm_lb_8 : sm_okB code 13 false 4 (some .boolean) true sm_lawbp 8 309 (q_L_law.getD 8 []) = true := by decide +kernel
theorem sm_lb_9 : sm_okB code 13 false 4 (some .boolean) true sm_lawbp 9 311 (q_L_law.getD 9 []) = true := by decide +kernel
theorem sm_lb_10 : sm_okB code 13 false 4 (some .boolean) true sm_lawbp 10 335 (q_L_law.getD 10 []) = true := by decide +kernel
theorem sm_lb_11 : sm_okB code 13 false 4 (some .boolean) true sm_lawbp 11 339 (q_L_law.getD 11 []) = true := by decide +kernel
theorem sm_lb_12 : sm_okB code 13 false 4 (some .boolean) true sm_lawbp 12 340 (q_L_law.getD 12 []) = true := by decide +kernel
theorem sm_lb_13 : sm_okB code 13 false 4 (some .boolean) true sm_lawbp 13 367 (q_L_law.getD 13 []) = true := by decide +kernel
theorem sm_lb_14 : sm_okB code 13 false 4 (some .boolean) true sm_lawbp 14 371 (q_L_law.getD 14 []) = true := by decide +kernel
theorem sm_lb_15 : sm_okB code 13 false 4 (some .boolean) true sm_lawbp 15 372 (q_L_law.getD 15 []) = true := by decide +kernel
theorem sm_lb_16 : sm_okB code 13 false 4 (some .boolean) true sm_lawbp 16 378 (q_L_law.getD 16 []) = true := by decide +kernel
theorem sm_lb_17 : sm_okB code 13 false 4 (some .boolean) true sm_lawbp 17 380 (q_L_law.getD 17 []) = true := by decide +kernel
theorem sm_lb_18 : sm_okB code 13 false 4 (some .boolean) true sm_lawbp 18 404 (q_L_law.getD 18 []) = true := by decide +kernel
theorem sm_lb_19 : sm_okB code 13 false 4 (some .boolean) true sm_lawbp 19 408 (q_L_law.getD 19 []) = true := by decide +kernel
theorem sm_lb_20 : sm_okB code 13 false 4 (some .boolean) true sm_lawbp 20 409 (q_L_law.getD 20 []) = true := by decide +kernel
theorem sm_lb_21 : sm_okB code 13 false 4 (some .boolean) true sm_lawbp 21 417 (q_L_law.getD 21 []) = true := by decide +kernel
theorem sm_lb_22 : sm_okB code 13 false 4 (some .boolean) true sm_lawbp 22 421 (q_L_law.getD 22 []) = true := by decide +kernel
theorem sm_lb_23 : sm_okB code 13 false 4 (some .boolean) true sm_lawbp 23 422 (q_L_law.getD 23 []) = true := by decide +kernel
theorem sm_lb_24 : sm_okB code 13 false 4 (some .boolean) true sm_lawbp 24 449 (q_L_law.getD 24 []) = true := by decide +kernel
theorem sm_lb_25 : sm_okB code 13 false 4 (some .boolean) true sm_lawbp 25 453 (q_L_law.getD 25 []) = true := by decide +kernel
theorem sm_lb_26 : sm_okB code 13 false 4 (some .boolean) true sm_lawbp 26 454 (q_L_law.getD 26 []) = true := by decide +kernel
theorem sm_lb_27 : sm_okB code 13 false 4 (some .boolean) true sm_lawbp 27 462 (q_L_law.getD 27 []) = true := by decide +kernel
theorem sm_lb_28 : sm_okB code 13 false 4 (some .boolean) true sm_lawbp 28 466 (q_L_law.getD 28 []) = true := by decide +kernel
theorem sm_lb_29 : sm_okB code 13 false 4 (some .boolean) true sm_lawbp 29 467 (q_L_law.getD 29 []) = true := by decide +kernel
theorem sm_lb_30 : sm_okB code 13 false 4 (some .boolean) true sm_lawbp 30 473 (q_L_law.getD 30 []) = true := by decide +kernel
end
section
theorem sm_lb_31 : sm_okB code 13 false 4 (some .boolean) true sm_lawbp 31 475 (q_L_law.getD 31 []) = true := by decide +kernel
theorem sm_lb_32 : sm_okB code 13 false 4 (some .boolean) true sm_lawbp 32 516 (q_L_law.getD 32 []) = true := by decide +kernel
theorem sm_lb_33 : sm_okB code 13 false 4 (some .boolean) true sm_lawbp 33 518 (q_L_law.getD 33 []) = true := by decide +kernel
theorem sm_lb_34 : sm_okB code 13 false 4 (some .boolean) true sm_lawbp 34 599 (q_L_law.getD 34 []) = true := by decide +kernel
theorem sm_lb_35 : sm_okB code 13 false 4 (some .boolean) true sm_lawbp 35 601 (q_L_law.getD 35 []) = true := by decide +kernel
theorem sm_lb_36 : sm_okB code 13 false 4 (some .boolean) true sm_lawbp 36 622 (q_L_law.getD 36 []) = true := by decide +kernel
theorem sm_lb_37 : sm_okB code 13 false 4 (some .boolean) true sm_lawbp 37 624 (q_L_law.getD 37 []) = true := by decide +kernel
theorem sm_lb_38 : sm_okB code 13 false 4 (some .boolean) true sm_lawbp 38 695 (q_L_law.getD 38 []) = true := by decide +kernel
theorem sm_lb_39 : sm_okB code 13 false 4 (some .boolean) true sm_lawbp 39 697 (q_L_law.getD 39 []) = true := by decide +kernel
theorem sm_lb_40 : sm_okB code 13 false 4 (some .boolean) true sm_lawbp 40 768 (q_L_law.getD 40 []) = true := by decide +kernel
theorem sm_lb_41 : sm_okB code 13 false 4 (some .boolean) true sm_lawbp 41 770 (q_L_law.getD 41 []) = true := by decide +kernel
theorem sm_lb_42 : sm_okB code 13 false 4 (some .boolean) true sm_lawbp 42 802 (q_L_law.getD 42 []) = true := by decide +kernel
theorem sm_lb_43 : sm_okB code 13 false 4 (some .boolean) true sm_lawbp 43 804 (q_L_law.getD 43 []) = true := by decide +kernel
theorem sm_lb_44 : sm_okB code 13 false 4 (some .boolean) true sm_lawbp 44 818 (q_L_law.getD 44 []) = true := by decide +kernel
theorem sm_lb_45 : sm_okB code 13 false 4 (some .boolean) true sm_lawbp 45 822 (q_L_law.getD 45 []) = true := by decide +kernel
theorem sm_lb_46 : sm_okB code 13 false 4 (some .boolean) true sm_lawbp 46 823 (q_L_law.getD 46 []) = true := by decide +kernel
theorem sm_lb_47 : sm_okB code 13 false 4 (some .boolean) true sm_lawbp 47 845 (q_L_law.getD 47 []) = true := by decide +kernel
theorem sm_lb_48 : sm_okB code 13 false 4 (some .boolean) true sm_lawbp 48 849 (q_L_law.getD 48 []) = true := by decide +kernel
theorem sm_lb_49 : sm_okB code 13 false 4 (some .boolean) true sm_lawbp 49 850 (q_L_law.getD 49 []) = true := by decide +kernel
theorem sm_lb_50 : sm_okB code 13 false 4 (some .boolean) true sm_lawbp 50 861 (q_L_law.getD 50 []) = true := by decide +kernel
theorem sm_lb_51 : sm_okB code 13 false 4 (some .boolean) true sm_lawbp 51 863 (q_L_law.getD 51 []) = true := by decide +kernel
theorem sm_lb_52 : sm_okB code 13 false 4 (some .boolean) true sm_lawbp 52 884 (q_L_law.getD 52 []) = true := by decide +kernel
theorem sm_lb_53 : sm_okB code 13 false 4 (some .boolean) true sm_lawbp 53 886 (q_L_law.getD 53 []) = true := by decide +kernel
theorem sm_lb_54 : sm_okB code 13 false 4 (some .boolean) true sm_lawbp 54 927 (q_L_law.getD 54 []) = true := by decide +kernel
theorem sm_lb_55 : sm_okB code 13 false 4 (some .boolean) true sm_lawbp 55 929 (q_L_law.getD 55 []) = true := by decide +kernel
theorem sm_lb_56 : sm_okB code 13 false 4 (some .boolean) true sm_lawbp 56 961 (q_L_law.getD 56 []) = true := by decide +kernel
theorem sm_lb_57 : sm_okB code 13 false 4 (some .boolean) true sm_lawbp 57 963 (q_L_law.getD 57 []) = true := by decide +kernel
theorem sm_lb_58 : sm_okB code 13 false 4 (some .boolean) true sm_lawbp 58 1004 (q_L_law.getD 58 []) = true := by decide +kernel
theorem sm_lb_59 : sm_okB code 13 false 4 (some .boolean) true sm_lawbp 59 1006 (q_L_law.getD 59 []) = true := by decide +kernel
theorem sm_lb_60 : sm_okB code 13 false 4 (some .boolean) true sm_lawbp 60 1037 (q_L_law.getD 60 []) = true := by decide +kernel
theorem sm_lb_61 : sm_okB code 13 false 4 (some .boolean) true sm_lawbp 61 1039 (q_L_law.getD 61 []) = true := by decide +kernel
end
section
theorem sm_lb_62 : sm_okB code 13 false 4 (some .boolean) true sm_lawbp 62 1060 (q_L_law.getD 62 []) = true := by decide +kernel
theorem sm_lb_63 : sm_okB code 13 false 4 (some .boolean) true sm_lawbp 63 1062 (q_L_law.getD 63 []) = true := by decide +kernel
theorem sm_lb_64 : sm_okB code 13 false 4 (some .boolean) true sm_lawbp 64 1103 (q_L_law.getD 64 []) = true := by decide +kernel
theorem sm_lb_65 : sm_okB code 13 false 4 (some .boolean) true sm_lawbp 65 1105 (q_L_law.getD 65 []) = true := by decide +kernel
theorem sm_lb_66 : sm_okB code 13 false 4 (some .boolean) true sm_lawbp 66 1137 (q_L_law.getD 66 []) = true := by decide +kernel
theorem sm_lb_67 : sm_okB code 13 false 4 (some .boolean) true sm_lawbp 67 1139 (q_L_law.getD 67 []) = true := by decide +kernel
theorem sm_lb_68 : sm_okB code 13 false 4 (some .boolean) true sm_lawbp 68 1160 (q_L_law.getD 68 []) = true := by decide +kernel
theorem sm_lb_69 : sm_okB code 13 false 4 (some .boolean) true sm_lawbp 69 1162 (q_L_law.getD 69 []) = true := by decide +kernel
theorem sm_lb_70 : sm_okB code 13 false 4 (some .boolean) true sm_lawbp 70 1193 (q_L_law.getD 70 []) = true := by decide +kernel
theorem sm_lb_71 : sm_okB code 13 false 4 (some .boolean) true sm_lawbp 71 1195 (q_L_law.getD 71 []) = true := by decide +kernel
theorem sm_lb_72 : sm_okB code 13 false 4 (some .boolean) true sm_lawbp 72 1292 (q_L_law.getD 72 []) = true := by decide +kernel
theorem sm_lb_73 : sm_okB code 13 false 4 (some .boolean) true sm_lawbp 73 1294 (q_L_law.getD 73 []) = true := by decide +kernel
theorem sm_lb_74 : sm_okB code 13 false 4 (some .boolean) true sm_lawbp 74 1305 (q_L_law.getD 74 []) = true := by decide +kernel
theorem sm_lb_75 : sm_okB code 13 false 4 (some .boolean) true sm_lawbp 75 1307 (q_L_law.getD 75 []) = true := by decide +kernel
theorem sm_lb_76 : sm_okB code 13 false 4 (some .boolean) true sm_lawbp 76 1328 (q_L_law.getD 76 []) = true := by decide +kernel
theorem sm_lb_77 : sm_okB code 13 false 4 (some .boolean) true sm_lawbp 77 1330 (q_L_law.getD 77 []) = true := by decide +kernel
theorem sm_lb_78 : sm_okB code 13 false 4 (some .boolean) true sm_lawbp 78 1351 (q_L_law.getD 78 []) = true := by decide +kernel
theorem sm_lb_79 : sm_okB code 13 false 4 (some .boolean) true sm_lawbp 79 1353 (q_L_law.getD 79 []) = true := by decide +kernel
theorem sm_lb_80 : sm_okB code 13 false 4 (some .boolean) true sm_lawbp 80 1374 (q_L_law.getD 80 []) = true := by decide +kernel
theorem sm_lb_81 : sm_okB code 13 false 4 (some .boolean) true sm_lawbp 81 1376 (q_L_law.getD 81 []) = true := by decide +kernel
theorem sm_lb_82 : sm_okB code 13 false 4 (some .boolean) true sm_lawbp 82 1387 (q_L_law.getD 82 []) = true := by decide +kernel
theorem sm_lb_83 : sm_okB code 13 false 4 (some .boolean) true sm_lawbp 83 1389 (q_L_law.getD 83 []) = true := by decide +kernel
theorem sm_lb_84 : sm_okB code 13 false 4 (some .boolean) true sm_lawbp 84 1410 (q_L_law.getD 84 []) = true := by decide +kernel
theorem sm_lb_85 : sm_okB code 13 false 4 (some .boolean) true sm_lawbp 85 1412 (q_L_law.getD 85 []) = true := by decide +kernel
theorem sm_lb_86 : sm_okB code 13 false 4 (some .boolean) true sm_lawbp 86 1434 (q_L_law.getD 86 []) = true := by decide +kernel
theorem sm_lb_87 : sm_okB code 13 false 4 (some .boolean) true sm_lawbp 87 1436 (q_L_law.getD 87 []) = true := by decide +kernel
theorem sm_lb_88 : sm_okB code 13 false 4 (some .boolean) true sm_lawbp 88 1457 (q_L_law.getD 88 []) = true := by decide +kernel
theorem sm_lb_89 : sm_okB code 13 false 4 (some .boolean) true sm_lawbp 89 1459 (q_L_law.getD 89 []) = true := by decide +kernel
theorem sm_lb_90 : sm_okB code 13 false 4 (some .boolean) true sm_lawbp 90 1465 (q_L_law.getD 90 []) = true := by decide +kernel
end
section
/-! THE CLAIM OUT OF ONE WALK OF THE LAW'S BODY. Your part is whole_start (and what it stands on); all else here is the same for every law, but numbers. -/
def R_law : String := "WordGridLaw"
def lw_P (b : Addr) (xs : List Int32) (args : Array Value) (s : State) : Prop := args = #[.ref b] ∧ s.IntsAt b xs ∧ xs.length ≤ 4608 ∧ (Jvm.Cond.and given_1 narrow_1).before args s = true
def lw_Q (_ : Array Value) (s : State) (o : Outcome) (t : State) : Prop := o = .returned (some (.int 1)) ∧ Framed s o t [] 600000 7302250
def lw_Z (below : List Frame) (a : Array Value) (s : State) : State → Prop := fun t => ∃ o, t.status = .running ∧ Ended t below o ∧ lw_Q a s o t
/-- the law's own end, with 1 on the stack, nothing written that was there before, its room as the claim has it -/
theorem lw_ret {p : Program} {l : Launch} {e : Env} {s : State} {m : MethodId} {below : List Frame} {meth : Method} {c : Code} {b : Nat} (hx : p.tables.exec = Jvm.exec) (hb : c.code = code) (hr : meth.sig.returnType = ret) (hlocks : meth.locks = false) {pc : Nat} {H : Heap} {ls : Array Slot} (hdg : decode code pc = .ok (.ireturn, 1)) : W p l e room_1 s m #[Value.ref b] below meth c H [] 600000 7302250 (lw_Z below #[Value.ref b] s) (F0 m pc ls [.int 1]) := by
  intro T hT X
  obtain ⟨fs, hret, hrun, hended, hW, hframe⟩ := X.leave (v := some (.int 1)) (hlocks := hlocks) (fun h => by rw [hr] at h; cases h)
  have hmeth' : T.vm.method? m = some meth := X.method'
  refine ⟨T.setFrames fs, ?_, .returned (some (.int 1)), hrun, hended, rfl, ⟨_, rfl⟩, hW, hframe⟩
  jvm_step X.here [X.here.top, hx, hb, hdg, hmeth', hr, ret, narrow_b1]
  (try refine ⟨rfl, ?_⟩); (try refine ⟨rfl, ?_⟩)
  first | (intro acts; rw [hret _ acts rfl rfl rfl]) | rw [hret _ _ rfl rfl rfl]
  exact Steps.refl _
/-- what holds at the law's entry: the machine, the code, the tables' words (any of lw_tbl by 'hts w (by decide +kernel)'), the script of L ints xs at the cell b, what the Statement gives of the start (any of its parts by flat_of_before) -/
def lw_At (p : Program) (s : State) (m : MethodId) (meth : Method) (c : Code) (b L : Nat) (xs : Nat → Int32) : Prop :=
  p.tables.exec = Jvm.exec ∧ c.code = code ∧ meth.sig.returnType = ret ∧ c.maxLocals = 4 ∧ s.vm.findClass R_law = some m.cls ∧ (∀ w ∈ lw_tbl, w.before #[Value.ref b] s = true) ∧ va_X b L xs s s.heap ∧ b < s.heap.size ∧ meth.locks = false ∧ (Jvm.Cond.and given_1 narrow_1).before #[Value.ref b] s = true
/-! the law's run of the small machine gives the claim's walk -/
theorem sm_lawbp_eq : sm_bp.getD 231 [] = sm_lawbp := by rfl
theorem sm_lawpr_eq : (sm_prog.getD 231 (false, [])).2 = q_L_law := by rfl
theorem sm_lawbo_eq : sm_bo 231 = true := by rfl
set_option maxRecDepth 100000 in
theorem sm_lb_all : ([0, 1, 2, 3, 4, 5, 6, 7, 8, 9, 10, 11, 12, 13, 14, 15, 16, 17, 18, 19, 20, 21, 22, 23, 24, 25, 26, 27, 28, 29, 30, 31, 32, 33, 34, 35, 36, 37, 38, 39, 40, 41, 42, 43, 44, 45, 46, 47, 48, 49, 50, 51, 52, 53, 54, 55, 56, 57, 58, 59, 60, 61, 62, 63, 64, 65, 66, 67, 68, 69, 70, 71, 72, 73, 74, 75, 76, 77, 78, 79, 80, 81, 82, 83, 84, 85, 86, 87, 88, 89, 90]).all (fun b => sm_okB code 13 false 4 (some .boolean) true sm_lawbp b (sm_lawbp.getD b 0) (q_L_law.getD b [])) = true := by
  simp only [List.all_eq_true, List.forall_mem_cons]
  refine ⟨sm_lb_0, sm_lb_1, sm_lb_2, sm_lb_3, sm_lb_4, sm_lb_5, sm_lb_6, sm_lb_7, sm_lb_8, sm_lb_9, sm_lb_10, sm_lb_11, sm_lb_12, sm_lb_13, sm_lb_14, sm_lb_15, sm_lb_16, sm_lb_17, sm_lb_18, sm_lb_19, sm_lb_20, sm_lb_21, sm_lb_22, sm_lb_23, sm_lb_24, sm_lb_25, sm_lb_26, sm_lb_27, sm_lb_28, sm_lb_29, sm_lb_30, sm_lb_31, sm_lb_32, sm_lb_33, sm_lb_34, sm_lb_35, sm_lb_36, sm_lb_37, sm_lb_38, sm_lb_39, sm_lb_40, sm_lb_41, sm_lb_42, sm_lb_43, sm_lb_44, sm_lb_45, sm_lb_46, sm_lb_47, sm_lb_48, sm_lb_49, sm_lb_50, sm_lb_51, sm_lb_52, sm_lb_53, sm_lb_54, sm_lb_55, sm_lb_56, sm_lb_57, sm_lb_58, sm_lb_59, sm_lb_60, sm_lb_61, sm_lb_62, sm_lb_63, sm_lb_64, sm_lb_65, sm_lb_66, sm_lb_67, sm_lb_68, sm_lb_69, sm_lb_70, sm_lb_71, sm_lb_72, sm_lb_73, sm_lb_74, sm_lb_75, sm_lb_76, sm_lb_77, sm_lb_78, sm_lb_79, sm_lb_80, sm_lb_81, sm_lb_82, sm_lb_83, sm_lb_84, sm_lb_85, sm_lb_86, sm_lb_87, sm_lb_88, sm_lb_89, sm_lb_90, fun _ h => by cases h⟩
theorem sm_ok_law : sm_okQ code 13 false 4 (some .boolean) (sm_bo 231) (sm_bp.getD 231 []) ((sm_prog.getD 231 (false, [])).2) = true := by
  rw [sm_lawbp_eq, sm_lawpr_eq, sm_lawbo_eq]
  unfold sm_okQ
  have h1 : Nat.beq sm_lawbp.length q_L_law.length = true := by decide +kernel
  have h2 : List.range q_L_law.length = [0, 1, 2, 3, 4, 5, 6, 7, 8, 9, 10, 11, 12, 13, 14, 15, 16, 17, 18, 19, 20, 21, 22, 23, 24, 25, 26, 27, 28, 29, 30, 31, 32, 33, 34, 35, 36, 37, 38, 39, 40, 41, 42, 43, 44, 45, 46, 47, 48, 49, 50, 51, 52, 53, 54, 55, 56, 57, 58, 59, 60, 61, 62, 63, 64, 65, 66, 67, 68, 69, 70, 71, 72, 73, 74, 75, 76, 77, 78, 79, 80, 81, 82, 83, 84, 85, 86, 87, 88, 89, 90] := by decide +kernel
  rw [h1, h2, sm_lb_all]
  rfl
theorem sm_asd_on {w : Cond} (h : sm_asd w = true) : w.onTables = true := by
  cases w <;> first | rfl | (simp [sm_asd] at h)
theorem sm_K_start {args : Array Value} {s : State} (hts : ∀ w ∈ lw_tbl, w.before args s = true) (hgv : (Jvm.Cond.and given_1 narrow_1).before args s = true) : ∃ (D : va_G) (cy : Nat → ClassId), sm_K D cy s := by
  have ht2 : ∀ w ∈ sm_ts, w.before args s = true := fun w hw => hts w (List.mem_filter.mp hw).1
  have hcl : ∀ ci : Nat, ∃ q : ClassId × (Nat → Nat), ci < 12 → u_Kn s (sm_cn ci) (sm_T ci) (sm_N ci) q.1 q.2 := by
    intro ci
    by_cases h : ci < 12
    · obtain ⟨cC, iS, hk⟩ := u_known (C := sm_cn ci) (T := sm_T ci) (N := sm_N ci) (n := sm_N ci) ht2 (sm_cin h) (ht2 _ (sm_cinst h).1)
      exact ⟨(cC, iS), fun _ => hk⟩
    · exact ⟨(0, fun _ => 0), fun g => absurd g h⟩
  obtain ⟨f, hf⟩ := Classical.axiomOfChoice hcl
  obtain ⟨c0, k0, p0, a1, a2, a3⟩ := Cond.arrayClass_spec (hts _ (sm_at_mem sm_okar.1))
  obtain ⟨c1, k1, p1, b1, b2, b3⟩ := Cond.arrayClass_spec (hts _ (sm_at_mem sm_okar.2.1))
  obtain ⟨c2, k2, p2, d1, d2, d3⟩ := Cond.arrayClass_spec (hts _ (sm_at_mem sm_okar.2.2.1))
  obtain ⟨p3, c3, k3, e1, e2, e3, e4, e5⟩ := Cond.arrayOver_spec (hts _ (sm_at_mem sm_okar.2.2.2.1))
  obtain ⟨p4, c4, k4, f1, f2, f3, f4, f5⟩ := Cond.arrayOver_spec (hts _ (sm_at_mem sm_okar.2.2.2.2))
  have hs := flat_of_before _ hgv
  refine ⟨(fun ci => (f ci).1, fun ci => (f ci).2), fun t => if t = 0 then c0 else if t = 1 then c1 else if t = 2 then c2 else if t = 3 then c3 else c4, ⟨?_, ?_⟩, fun w hw ha => va_Nw.of (sm_asd_on ha) (hts w hw), va_AO.of (hts _ (sm_at_mem sm_okar.2.2.2.1)), va_AO.of (hts _ (sm_at_mem sm_okar.2.2.2.2)), va_Nc.of (hs (.not (.castable "WordGrid$Pattern" "WordGrid$Plain")) (by decide +kernel)), va_Nc.of (hs (.not (.castable "WordGrid$Joined" "WordGrid$Plain")) (by decide +kernel))⟩
  · intro ci q hq
    have hlt : ci < 12 := by
      have := (List.getElem?_eq_some_iff.mp hq).1
      simpa [sm_cl] using this
    rw [sm_cl_get hlt] at hq
    cases hq
    exact hf ci hlt
  · intro k q hq
    match k, hq with
    | 0, hq => cases hq; exact ⟨fun N z => ⟨(fun k h => by cases h), k0, a2, p0, a3⟩, a1⟩
    | 1, hq => cases hq; exact ⟨fun N z => ⟨(fun k h => by cases h), k1, b2, p1, b3⟩, b1⟩
    | 2, hq => cases hq; exact ⟨fun N z => ⟨(fun k h => by cases h), k2, d2, p2, d3⟩, d1⟩
    | 3, hq => cases hq; exact ⟨fun N z => ⟨(fun k h => by cases h), k3, e3, p3, e4⟩, k3, p3, e3, e4, e1, e5⟩
    | 4, hq => cases hq; exact ⟨fun N z => ⟨(fun k h => by cases h), k4, f3, p4, f4⟩, k4, p4, f3, f4, f1, f5⟩
    | k + 5, hq => simp [sm_tys] at hq
set_option maxHeartbeats 2000000 in
theorem sm_whole {p : Program} {e : Env} {s : State} {m : MethodId} {below : List Frame} {meth : Method} {c : Code} (l : Launch) {b L : Nat} {xs : Nat → Int32} (C0 : lw_At p s m meth c b L xs) (n : Nat) (wf : sm_W)
    (hrun : sm_meth L xs (sm_call L xs 1000 n) 231 n 0 [(0, .retAddr 0)] [] [] = some (some (.int 1), wf)) (hcap : wf.length ≤ 600000 ∧ sm_sz wf ≤ 7302250) :
    W p l e room_1 s m #[Value.ref b] below meth c s.heap [] 0 0 (lw_Z below #[Value.ref b] s) (entryFrame m ([Value.ref b] : List Value).toArray 4) := by
  obtain ⟨hx, hb, hr, hml, hown, hts, hX, hbl, hlocks, hgv⟩ := C0
  obtain ⟨D, cy, hK⟩ := sm_K_start hts hgv
  have C : sm_C p s m #[Value.ref b] c D cy b s.heap.size 4 code 13 L xs := ⟨hx, hb, hown, fun w hw => hts w (List.mem_filter.mp hw).1, hK, hX, hbl, Nat.le_refl _, hml⟩
  have E : sm_End p l e room_1 s m #[Value.ref b] below meth c (lw_Z below #[Value.ref b] s) D cy b s.heap.size [] code (some .boolean) (some (.int 1)) wf := by
    intro pc rc H locs cells slots ls hd hkind hP1 hz1 hS1 hc1 hs1
    have hsz : sm_sz [] = 0 := rfl
    rcases hkind with ⟨rfl, h1, -⟩ | ⟨rfl, h1, -⟩ | ⟨rfl, h1, -⟩ | ⟨rfl, ⟨t, h1⟩, -⟩ | ⟨rfl, h1, -⟩
    · cases h1
    · refine va_forget (fun q hq => hS1.2.2 q hq) ?_
      refine W.widen (k := 600000) (n := 7302250) (by omega) (by omega) ?_
      exact lw_ret hx hb hr hlocks hd
    · cases h1
    · cases h1
    · cases h1
  have hl := lv_entry ([Value.ref b]) (n := 4) (Nat.le_of_ble_eq_true rfl)
  rw [lg_entry_eq]
  generalize (lg_sl ([Value.ref b]) ++ List.replicate (4 - (lg_sl ([Value.ref b])).length) Slot.unset).toArray = ls at hl ⊢
  have key := sm_meth_ok (l := l) (w0 := []) (y := 231) (R := room_1) C (fun h => by cases h) sm_ok_law (Or.inl ⟨999, sm_Ms_ok l D cy b s.heap.size L xs n 999, by decide, by decide⟩) (sm_call_mono 1000) ⟨by show s.heap.size + wf.length ≤ s.heap.size + 600000; omega, by show sm_sz wf ≤ 0 + 7302250; omega⟩ E n 0 [(0, .retAddr 0)] [] [] hrun 0 (sm_bp0 (y := 231) sm_ok_law)
  exact key s.heap [] 0 0 ls ⟨fun k q h => (by cases h), va_S.rf, hl, rfl, rfl⟩
end
section
/-! runs of the small machine, goal first -/
section XR
variable {L : Nat} {xs : Nat → Int32}
def sm_le (f g : Nat → List Value → sm_W → sm_O) : Prop := ∀ y as w q, f y as w = some q → g y as w = some q
def sm_lj (f g : Nat → sm_L → List Value → sm_W → sm_O) : Prop := ∀ t lv st w q, f t lv st w = some q → g t lv st w = some q
theorem sm_inv_le {f g : Nat → List Value → sm_W → sm_O} (h : sm_le f g) {k n : Nat} {st : List Value} {w : sm_W} {q : List Value × sm_W} (hq : sm_inv f k n st w = some q) : sm_inv g k n st w = some q := by
  unfold sm_inv at hq ⊢
  cases hb : (Nat.ble (n % 16) st.length && Nat.ble (sm_words (st.drop (n % 16))) 8) with
  | false => rw [hb] at hq; cases hq
  | true =>
    rw [hb] at hq
    simp only [cond_true] at hq ⊢
    cases ht : sm_tg k n (st.take (n % 16)).reverse w with
    | none => rw [ht] at hq; cases hq
    | some y =>
      rw [ht] at hq
      dsimp only at hq ⊢
      cases hc : f y (st.take (n % 16)).reverse w with
      | none => rw [hc] at hq; cases hq
      | some v => rw [hc] at hq; rw [h _ _ _ _ hc]; exact hq
theorem sm_br_le {cd : Jvm.ClassFile.Cond} {x y : Int32} {a b a' b' : sm_O} {q : Option Value × sm_W} (h1 : a = some q → a' = some q) (h2 : b = some q → b' = some q) (h : sm_br cd x y a b = some q) : sm_br cd x y a' b' = some q := by
  unfold sm_br at h ⊢
  cases cd <;> (dsimp only at h ⊢; split at h) <;> first | (rename_i hc; rw [if_pos hc]; first | exact h1 h | exact h2 h) | (rename_i hc; rw [if_neg hc]; first | exact h1 h | exact h2 h)
theorem sm_blk_le {f g : Nat → List Value → sm_W → sm_O} {j k : Nat → sm_L → List Value → sm_W → sm_O} (h : sm_le f g) (hj : sm_lj j k) {bo : Bool} {cb : Nat} {q : Option Value × sm_W} :
    ∀ (is : List sm_I) (lv : sm_L) (st : List Value) (w : sm_W), sm_blk L xs f j bo cb is lv st w = some q → sm_blk L xs g k bo cb is lv st w = some q
  | [], _, _, _, hq => by cases hq
  | i :: is, lv, st, w, hq => by
    have inv : ∀ (c n : Nat), (match sm_inv f c n st w with | some (st1, w1) => sm_blk L xs f j bo cb is lv st1 w1 | none => none) = some q → (match sm_inv g c n st w with | some (st1, w1) => sm_blk L xs g k bo cb is lv st1 w1 | none => none) = some q := by
      intro c n h1
      cases h2 : sm_inv f c n st w with
      | none => rw [h2] at h1; cases h1
      | some v =>
        rw [h2] at h1
        rw [sm_inv_le h h2]
        exact sm_blk_le h hj is _ _ _ h1
    cases i with
    | goto t => exact hj _ _ _ _ _ hq
    | goto_w t => exact hj _ _ _ _ _ hq
    | ifCond cd t =>
      unfold sm_blk at hq ⊢
      dsimp only at hq ⊢
      split at hq
      · exact sm_br_le (hj _ _ _ _ _) (hj _ _ _ _ _) hq
      · cases hq
    | if_icmp cd t =>
      unfold sm_blk at hq ⊢
      dsimp only at hq ⊢
      split at hq
      · exact sm_br_le (hj _ _ _ _ _) (hj _ _ _ _ _) hq
      · cases hq
    | ifnull t =>
      unfold sm_blk at hq ⊢
      dsimp only at hq ⊢
      split at hq
      · exact hj _ _ _ _ _ hq
      · exact hj _ _ _ _ _ hq
      · cases hq
    | ifnonnull t =>
      unfold sm_blk at hq ⊢
      dsimp only at hq ⊢
      split at hq
      · exact hj _ _ _ _ _ hq
      · exact hj _ _ _ _ _ hq
      · cases hq
    | tableswitch dd lo hi offs =>
      unfold sm_blk at hq ⊢
      dsimp only at hq ⊢
      split at hq
      · split at hq
        · rename_i h1
          rw [if_pos h1]
          exact hj _ _ _ _ _ hq
        · rename_i h1
          rw [if_neg h1]
          split at hq
          · exact hj _ _ _ _ _ hq
          · cases hq
      · cases hq
    | ireturn => exact hq
    | lreturn => exact hq
    | areturn => exact hq
    | return_ => exact hq
    | invokestatic n => exact inv _ _ hq
    | invokespecial n => exact inv _ _ hq
    | invokevirtual n => exact inv _ _ hq
    | _ =>
      unfold sm_blk at hq ⊢
      dsimp only at hq ⊢
      split at hq
      · exact sm_blk_le h hj is _ _ _ hq
      · cases hq
theorem sm_meth_le {f g : Nat → List Value → sm_W → sm_O} (h : sm_le f g) {y : Nat} : ∀ {n n' : Nat}, n ≤ n' → sm_lj (sm_meth L xs f y n) (sm_meth L xs g y n')
  | 0, _, _, _, _, _, _, _, hq => by cases hq
  | n + 1, 0, hn, _, _, _, _, _, _ => by omega
  | n + 1, n' + 1, hn, t, lv, st, w, q, hq => sm_blk_le h (sm_meth_le h (Nat.le_of_succ_le_succ hn)) _ _ _ _ hq
theorem sm_call_le : ∀ {d n n' : Nat}, n ≤ n' → sm_le (sm_call L xs d n) (sm_call L xs d n')
  | 0, _, _, _, _, _, _, _, h => by cases h
  | d + 1, n, n', hn, y, as, w, q, h => by
    unfold sm_call at h ⊢
    cases h1 : Nat.beq y 400 with
    | true => rw [h1] at h; exact h
    | false =>
      rw [h1] at h
      cases h2 : Nat.beq y 401 with
      | true => rw [h2] at h; exact h
      | false =>
        rw [h2] at h
        cases h3 : Nat.ble (sm_words as) (sm_nLs.getD y 0) with
        | false => rw [h3] at h; cases h
        | true =>
          rw [h3] at h
          exact sm_meth_le (sm_call_le hn) hn _ _ _ _ _ h
theorem sm_call_up : ∀ {d n : Nat}, sm_le (sm_call L xs d n) (sm_call L xs (d + 1) n)
  | 0, _, _, _, _, _, h => by cases h
  | d + 1, n, y, as, w, q, h => by
    unfold sm_call at h
    show sm_call L xs (d + 1 + 1) n y as w = some q
    unfold sm_call
    cases h1 : Nat.beq y 400 with
    | true => rw [h1] at h; exact h
    | false =>
      rw [h1] at h
      cases h2 : Nat.beq y 401 with
      | true => rw [h2] at h; exact h
      | false =>
        rw [h2] at h
        cases h3 : Nat.ble (sm_words as) (sm_nLs.getD y 0) with
        | false => rw [h3] at h; cases h
        | true =>
          rw [h3] at h
          exact sm_meth_le sm_call_up (Nat.le_refl _) _ _ _ _ _ h
theorem sm_call_ups {d d' n : Nat} (h : d ≤ d') : sm_le (sm_call L xs d n) (sm_call L xs d' n) := by
  induction h with
  | refl => exact fun _ _ _ _ h => h
  | step _ ih => exact fun y as w q h => sm_call_up _ _ _ _ (ih _ _ _ _ h)
end XR
/-- from here method y comes to its end, with Q -/
def sm_X (L : Nat) (xs : Nat → Int32) (d y cb : Nat) (is : List sm_I) (lv : sm_L) (st : List Value) (w : sm_W) (Q : Option Value → sm_W → Prop) : Prop :=
  ∃ (n k : Nat) (r : Option Value) (w1 : sm_W), sm_blk L xs (sm_call L xs d n) (sm_meth L xs (sm_call L xs d n) y k) (sm_bo y) cb is lv st w = some (r, w1) ∧ Q r w1
/-- a call of y comes to its end, with Q -/
def sm_E (L : Nat) (xs : Nat → Int32) (d y : Nat) (as : List Value) (w : sm_W) (Q : Option Value → sm_W → Prop) : Prop := ∃ (n : Nat) (r : Option Value) (w1 : sm_W), sm_call L xs d n y as w = some (r, w1) ∧ Q r w1
section XR2
variable {L : Nat} {xs : Nat → Int32} {d y cb : Nat} {is : List sm_I} {lv lv' : sm_L} {st st' : List Value} {w w' : sm_W} {Q Q' : Option Value → sm_W → Prop}
theorem x_mono (h : sm_X L xs d y cb is lv st w Q) (hq : ∀ r w, Q r w → Q' r w) : sm_X L xs d y cb is lv st w Q' := by
  obtain ⟨n, k, r, w1, h1, h2⟩ := h
  exact ⟨n, k, r, w1, h1, hq _ _ h2⟩
theorem e_mono {as : List Value} (h : sm_E L xs d y as w Q) (hq : ∀ r w, Q r w → Q' r w) : sm_E L xs d y as w Q' := by
  obtain ⟨n, r, w1, h1, h2⟩ := h
  exact ⟨n, r, w1, h1, hq _ _ h2⟩
theorem e_up {d' : Nat} {as : List Value} (hd : d ≤ d') (h : sm_E L xs d y as w Q) : sm_E L xs d' y as w Q := by
  obtain ⟨n, r, w1, h1, h2⟩ := h
  exact ⟨n, r, w1, sm_call_ups hd _ _ _ _ h1, h2⟩
theorem e_intro {as : List Value} (hy : (Nat.beq y 400 || Nat.beq y 401) = false) (hw : Nat.ble (sm_words as) (sm_nLs.getD y 0) = true) (h : sm_X L xs d y 0 (sm_code y 0) (lv_args 0 as) [] w Q) : sm_E L xs (d + 1) y as w Q := by
  obtain ⟨n, k, r, w1, h1, h2⟩ := h
  refine ⟨max n (k + 1), r, w1, ?_, h2⟩
  unfold sm_call
  rw [Bool.or_eq_false_iff] at hy
  rw [hy.1, hy.2, hw]
  have h3 : sm_meth L xs (sm_call L xs d n) y (k + 1) 0 (lv_args 0 as) [] w = some (r, w1) := h1
  exact sm_meth_le (sm_call_le (Nat.le_max_left n (k + 1))) (Nat.le_max_right n (k + 1)) _ _ _ _ _ h3
theorem x_op {i : sm_I} (ho : sm_op L xs i lv st w = some (lv', st', w')) (h : sm_X L xs d y cb is lv' st' w' Q) : sm_X L xs d y cb (i :: is) lv st w Q := by
  obtain ⟨n, k, r, w1, h1, h2⟩ := h
  refine ⟨n, k, r, w1, ?_, h2⟩
  have hne := sm_op_ne ho
  unfold sm_blk
  cases i <;> first
    | (dsimp only; rw [ho]; exact h1)
    | (cases hne; done)
    | (simp only [sm_op] at ho; cases ho; done)
theorem x_jump {t : Nat} (h : sm_X L xs d y t (sm_code y t) lv st w Q) : ∃ (n k : Nat) (r : Option Value) (w1 : sm_W), sm_meth L xs (sm_call L xs d n) y k t lv st w = some (r, w1) ∧ Q r w1 := by
  obtain ⟨n, k, r, w1, h1, h2⟩ := h
  exact ⟨n, k + 1, r, w1, h1, h2⟩
theorem x_goto {t : Int} (h : sm_X L xs d y t.toNat (sm_code y t.toNat) lv st w Q) : sm_X L xs d y cb (.goto t :: is) lv st w Q := by
  obtain ⟨n, k, r, w1, h1, h2⟩ := x_jump h
  exact ⟨n, k, r, w1, h1, h2⟩
theorem x_fall {t : Int} (h : sm_X L xs d y t.toNat (sm_code y t.toNat) lv st w Q) : sm_X L xs d y cb (.goto_w t :: is) lv st w Q := by
  obtain ⟨n, k, r, w1, h1, h2⟩ := x_jump h
  exact ⟨n, k, r, w1, h1, h2⟩
theorem x_br {cd : Jvm.ClassFile.Cond} {t : Int} {x z : Int32} {P : Prop} (hP : ∀ a b : sm_O, (P → sm_br cd x z a b = a) ∧ (¬ P → sm_br cd x z a b = b)) (h1 : P → sm_X L xs d y t.toNat (sm_code y t.toNat) lv st w Q) (h2 : ¬ P → sm_X L xs d y (cb + 1) (sm_code y (cb + 1)) lv st w Q) :
    ∃ (n k : Nat) (r : Option Value) (w1 : sm_W), sm_br cd x z (sm_meth L xs (sm_call L xs d n) y k t.toNat lv st w) (sm_meth L xs (sm_call L xs d n) y k (cb + 1) lv st w) = some (r, w1) ∧ Q r w1 := by
  by_cases h : P
  · obtain ⟨n, k, r, w1, g1, g2⟩ := x_jump (h1 h)
    exact ⟨n, k, r, w1, by rw [(hP _ _).1 h]; exact g1, g2⟩
  · obtain ⟨n, k, r, w1, g1, g2⟩ := x_jump (h2 h)
    exact ⟨n, k, r, w1, by rw [(hP _ _).2 h]; exact g1, g2⟩
theorem x_ifc {cd : Jvm.ClassFile.Cond} {t : Int} {x : Int32} {P : Prop} (hP : ∀ a b : sm_O, (P → sm_br cd x 0 a b = a) ∧ (¬ P → sm_br cd x 0 a b = b)) (h1 : P → sm_X L xs d y t.toNat (sm_code y t.toNat) lv st w Q) (h2 : ¬ P → sm_X L xs d y (cb + 1) (sm_code y (cb + 1)) lv st w Q) : sm_X L xs d y cb (.ifCond cd t :: is) lv (.int x :: st) w Q := by
  obtain ⟨n, k, r, w1, g1, g2⟩ := x_br hP h1 h2
  exact ⟨n, k, r, w1, g1, g2⟩
theorem x_icm {cd : Jvm.ClassFile.Cond} {t : Int} {x z : Int32} {P : Prop} (hP : ∀ a b : sm_O, (P → sm_br cd x z a b = a) ∧ (¬ P → sm_br cd x z a b = b)) (h1 : P → sm_X L xs d y t.toNat (sm_code y t.toNat) lv st w Q) (h2 : ¬ P → sm_X L xs d y (cb + 1) (sm_code y (cb + 1)) lv st w Q) : sm_X L xs d y cb (.if_icmp cd t :: is) lv (.int z :: .int x :: st) w Q := by
  obtain ⟨n, k, r, w1, g1, g2⟩ := x_br hP h1 h2
  exact ⟨n, k, r, w1, g1, g2⟩
theorem br_eq {x z : Int32} (a b : sm_O) : (x = z → sm_br .eq x z a b = a) ∧ (¬ x = z → sm_br .eq x z a b = b) := ⟨fun h => if_pos h, fun h => if_neg h⟩
theorem br_ne {x z : Int32} (a b : sm_O) : (x ≠ z → sm_br .ne x z a b = a) ∧ (¬ x ≠ z → sm_br .ne x z a b = b) := ⟨fun h => if_neg h, fun h => if_pos (Decidable.not_not.mp h)⟩
theorem br_lt {x z : Int32} (a b : sm_O) : (x < z → sm_br .lt x z a b = a) ∧ (¬ x < z → sm_br .lt x z a b = b) := ⟨fun h => if_pos h, fun h => if_neg h⟩
theorem br_ge {x z : Int32} (a b : sm_O) : (z ≤ x → sm_br .ge x z a b = a) ∧ (¬ z ≤ x → sm_br .ge x z a b = b) := ⟨fun h => if_pos h, fun h => if_neg h⟩
theorem br_gt {x z : Int32} (a b : sm_O) : (z < x → sm_br .gt x z a b = a) ∧ (¬ z < x → sm_br .gt x z a b = b) := ⟨fun h => if_pos h, fun h => if_neg h⟩
theorem br_le {x z : Int32} (a b : sm_O) : (x ≤ z → sm_br .le x z a b = a) ∧ (¬ x ≤ z → sm_br .le x z a b = b) := ⟨fun h => if_pos h, fun h => if_neg h⟩
theorem x_ifnullN {t : Int} (h : sm_X L xs d y t.toNat (sm_code y t.toNat) lv st w Q) : sm_X L xs d y cb (.ifnull t :: is) lv (.null :: st) w Q := by
  obtain ⟨n, k, r, w1, h1, h2⟩ := x_jump h
  exact ⟨n, k, r, w1, h1, h2⟩
theorem x_ifnullR {t : Int} {a : Nat} (h : sm_X L xs d y (cb + 1) (sm_code y (cb + 1)) lv st w Q) : sm_X L xs d y cb (.ifnull t :: is) lv (.ref a :: st) w Q := by
  obtain ⟨n, k, r, w1, h1, h2⟩ := x_jump h
  exact ⟨n, k, r, w1, h1, h2⟩
theorem x_ifnonN {t : Int} (h : sm_X L xs d y (cb + 1) (sm_code y (cb + 1)) lv st w Q) : sm_X L xs d y cb (.ifnonnull t :: is) lv (.null :: st) w Q := by
  obtain ⟨n, k, r, w1, h1, h2⟩ := x_jump h
  exact ⟨n, k, r, w1, h1, h2⟩
theorem x_ifnonR {t : Int} {a : Nat} (h : sm_X L xs d y t.toNat (sm_code y t.toNat) lv st w Q) : sm_X L xs d y cb (.ifnonnull t :: is) lv (.ref a :: st) w Q := by
  obtain ⟨n, k, r, w1, h1, h2⟩ := x_jump h
  exact ⟨n, k, r, w1, h1, h2⟩
theorem x_tabIn {dd lo hi t : Int} {offs : Array Int} {x : Int32} (h1 : ¬ (x.toInt < lo ∨ hi < x.toInt)) (h2 : offs[(x.toInt - lo).toNat]? = some t) (h : sm_X L xs d y t.toNat (sm_code y t.toNat) lv st w Q) : sm_X L xs d y cb (.tableswitch dd lo hi offs :: is) lv (.int x :: st) w Q := by
  obtain ⟨n, k, r, w1, g1, g2⟩ := x_jump h
  refine ⟨n, k, r, w1, ?_, g2⟩
  unfold sm_blk
  dsimp only
  rw [if_neg h1, h2]
  exact g1
theorem x_tabOut {dd lo hi : Int} {offs : Array Int} {x : Int32} (h1 : x.toInt < lo ∨ hi < x.toInt) (h : sm_X L xs d y dd.toNat (sm_code y dd.toNat) lv st w Q) : sm_X L xs d y cb (.tableswitch dd lo hi offs :: is) lv (.int x :: st) w Q := by
  obtain ⟨n, k, r, w1, g1, g2⟩ := x_jump h
  refine ⟨n, k, r, w1, ?_, g2⟩
  unfold sm_blk
  dsimp only
  rw [if_pos h1]
  exact g1
theorem x_iret {x : Int32} (hb : sm_bo y = false) (h : Q (some (.int x)) w) : sm_X L xs d y cb (.ireturn :: is) lv [.int x] w Q := by
  refine ⟨0, 0, some (.int x), w, ?_, h⟩
  unfold sm_blk
  dsimp only
  rw [hb]
  rfl
theorem x_zret {x : Int32} (hx : x = 0 ∨ x = 1) (h : Q (some (.int x)) w) : sm_X L xs d y cb (.ireturn :: is) lv [.int x] w Q := by
  refine ⟨0, 0, some (.int x), w, ?_, h⟩
  unfold sm_blk
  dsimp only
  rw [if_neg (fun g => g.2 hx)]
theorem x_lret {x : Int64} (h : Q (some (.long x)) w) : sm_X L xs d y cb (.lreturn :: is) lv [.long x] w Q := ⟨0, 0, some (.long x), w, rfl, h⟩
theorem x_aret {x : Nat} (h : Q (some (.ref x)) w) : sm_X L xs d y cb (.areturn :: is) lv [.ref x] w Q := ⟨0, 0, some (.ref x), w, rfl, h⟩
theorem x_aretN (h : Q (some .null) w) : sm_X L xs d y cb (.areturn :: is) lv [.null] w Q := ⟨0, 0, some .null, w, rfl, h⟩
theorem x_ret (h : Q none w) : sm_X L xs d y cb (.return_ :: is) lv [] w Q := ⟨0, 0, none, w, rfl, h⟩
theorem x_inv {k n yy : Nat} {Q1 : Option Value → sm_W → Prop} (hb : (Nat.ble (n % 16) st.length && Nat.ble (sm_words (st.drop (n % 16))) 8) = true) (ht : sm_tg k n (st.take (n % 16)).reverse w = some yy) (he : sm_E L xs d yy (st.take (n % 16)).reverse w Q1) (h : ∀ r w1, Q1 r w1 → sm_X L xs d y cb is lv (r.toList ++ st.drop (n % 16)) w1 Q) :
    ∃ (m j : Nat) (r : Option Value) (w1 : sm_W), (match sm_inv (sm_call L xs d m) k n st w with | some (st1, w2) => sm_blk L xs (sm_call L xs d m) (sm_meth L xs (sm_call L xs d m) y j) (sm_bo y) cb is lv st1 w2 | none => none) = some (r, w1) ∧ Q r w1 := by
  obtain ⟨n1, r1, w1, h1, h2⟩ := he
  obtain ⟨n2, k2, r2, w2, h3, h4⟩ := h r1 w1 h2
  refine ⟨max n1 n2, k2, r2, w2, ?_, h4⟩
  have h5 : sm_inv (sm_call L xs d (max n1 n2)) k n st w = some (r1.toList ++ st.drop (n % 16), w1) := by
    unfold sm_inv
    rw [hb, ht]
    dsimp only [cond_true]
    rw [sm_call_le (Nat.le_max_left n1 n2) _ _ _ _ h1]
  rw [h5]
  exact sm_blk_le (sm_call_le (Nat.le_max_right n1 n2)) (sm_meth_le (sm_call_le (Nat.le_max_right n1 n2)) (Nat.le_refl _)) _ _ _ _ h3
theorem x_invS {n : Nat} {Q1 : Option Value → sm_W → Prop} (hb : (Nat.ble (n % 16) st.length && Nat.ble (sm_words (st.drop (n % 16))) 8) = true) (he : sm_E L xs d (n / 256) (st.take (n % 16)).reverse w Q1) (h : ∀ r w1, Q1 r w1 → sm_X L xs d y cb is lv (r.toList ++ st.drop (n % 16)) w1 Q) : sm_X L xs d y cb (.invokestatic n :: is) lv st w Q := by
  obtain ⟨m, j, r, w1, g1, g2⟩ := x_inv (k := 0) hb rfl he h
  exact ⟨m, j, r, w1, g1, g2⟩
theorem x_invP {n a ci : Nat} {fs as : List Value} {Q1 : Option Value → sm_W → Prop} (hb : (Nat.ble (n % 16) st.length && Nat.ble (sm_words (st.drop (n % 16))) 8) = true) (hs : (st.take (n % 16)).reverse = .ref a :: as) (ha : w[a]? = some (.inr (ci, fs))) (hc : sm_sub ci (n / 16 % 16) = true) (he : sm_E L xs d (n / 256) (.ref a :: as) w Q1) (h : ∀ r w1, Q1 r w1 → sm_X L xs d y cb is lv (r.toList ++ st.drop (n % 16)) w1 Q) : sm_X L xs d y cb (.invokespecial n :: is) lv st w Q := by
  rw [← hs] at he
  obtain ⟨m, j, r, w1, g1, g2⟩ := x_inv (k := 1) hb (by rw [hs]; unfold sm_tg; dsimp only; rw [ha]; dsimp only; rw [hc]; rfl) he h
  exact ⟨m, j, r, w1, g1, g2⟩
theorem x_invV {n a ci yy : Nat} {fs as : List Value} {Q1 : Option Value → sm_W → Prop} (hb : (Nat.ble (n % 16) st.length && Nat.ble (sm_words (st.drop (n % 16))) 8) = true) (hs : (st.take (n % 16)).reverse = .ref a :: as) (ha : w[a]? = some (.inr (ci, fs))) (hc : sm_vt (n / 256) (n / 16 % 16) ci = some yy) (he : sm_E L xs d yy (.ref a :: as) w Q1) (h : ∀ r w1, Q1 r w1 → sm_X L xs d y cb is lv (r.toList ++ st.drop (n % 16)) w1 Q) : sm_X L xs d y cb (.invokevirtual n :: is) lv st w Q := by
  rw [← hs] at he
  obtain ⟨m, j, r, w1, g1, g2⟩ := x_inv (k := 2) hb (by rw [hs]; unfold sm_tg; dsimp only; rw [ha]; exact hc) he h
  exact ⟨m, j, r, w1, g1, g2⟩
end XR2
end
section
/-! shapes and memory: what a world holds, apart from what its cells are -/
abbrev sh_T : Type := (Nat → Int32) → (Nat → Int64) → (Nat → Option Nat) → va_E
abbrev mm_T : Type := (Nat → Nat → Int32) × (Nat → Nat → Int64) × (Nat → Nat → Option Nat)
def wm (sh : List sh_T) (M : mm_T) : sm_W := sh.mapIdx (fun a s => s (M.1 a) (M.2.1 a) (M.2.2 a))
def m_setI (M : mm_T) (a i : Nat) (v : Int32) : mm_T := (va_up M.1 a (upd (M.1 a) i v), M.2)
def m_setL (M : mm_T) (a i : Nat) (v : Int64) : mm_T := (M.1, va_up M.2.1 a (vp_updL (M.2.1 a) i v), M.2.2)
def m_setR (M : mm_T) (a i : Nat) (v : Option Nat) : mm_T := (M.1, M.2.1, va_up M.2.2 a (va_up (M.2.2 a) i v))
def m_setA (M : mm_T) (a : Nat) (f : Nat → Int32) : mm_T := (va_up M.1 a f, M.2)
abbrev arrI (n : Nat) : sh_T := fun f _ _ => .inl (0, n, .inl f)
abbrev arrL (n : Nat) : sh_T := fun _ f _ => .inl (1, n, .inr (.inl f))
abbrev arrZ (n : Nat) : sh_T := fun f _ _ => .inl (2, n, .inl f)
abbrev arrG (n : Nat) : sh_T := fun _ _ f => .inl (3, n, .inr (.inr (.inr (.inr f))))
abbrev arrW (n : Nat) : sh_T := fun _ _ f => .inl (4, n, .inr (.inr (.inr (.inr f))))
abbrev gridS (c l sp re : Nat) : sh_T := fun f _ _ => .inr (5, [.ref c, .ref l, .ref sp, .ref re, .int (f 4), .int (f 5), .int (f 6), .int (f 7), .int (f 8)])
abbrev notesS (ri ti : Nat) : sh_T := fun f _ _ => .inr (1, [.ref ri, .ref ti, .int (f 2), .int (f 3), .int (f 4), .int (f 5)])
abbrev shelfS (no ls we : Nat) : sh_T := fun f _ _ => .inr (2, [.ref no, .ref ls, .ref we, .int (f 3)])
abbrev tableS (st dn le nu : Nat) : sh_T := fun f _ _ => .inr (3, [.ref st, .ref dn, .ref le, .ref nu, .int (f 4)])
abbrev searchS (no sf ta wo ma sc od ce lo sd mk se : Nat) : sh_T := fun f _ _ => .inr (4, [.ref no, .ref sf, .ref ta, .ref wo, .ref ma, .ref sc, .ref od, .ref ce, .ref lo, .ref sd, .ref mk, .ref se, .int (f 12), .int (f 13), .int (f 14), .int (f 15), .int (f 16)])
abbrev deskS (no sf gr ta fi so ke te : Nat) : sh_T := fun f _ _ => .inr (0, [.ref no, .ref sf, .ref gr, .ref ta, .ref fi, .ref so, .ref ke, .int (f 7), .int (f 8), .ref te, .int (f 10), .int (f 11), .int (f 12), .int (f 13)])
abbrev plainS (no wo : Nat) : sh_T := fun f _ _ => .inr (7, [.int (f 0), .ref no, .ref wo, .int (f 3)])
abbrev scoredS (no wo nu : Nat) : sh_T := fun f _ _ => .inr (8, [.int (f 0), .ref no, .ref wo, .int (f 3), .ref nu])
abbrev bannedS (no wo : Nat) : sh_T := fun f _ _ => .inr (9, [.int (f 0), .ref no, .ref wo, .int (f 3)])
abbrev patternS (no sf : Nat) : sh_T := fun f g _ => .inr (10, [.int (f 0), .ref no, .ref sf, .int (f 3), .int (f 4), .long (g 5), .long (g 6)])
abbrev joinedS (no sf : Nat) : sh_T := fun f _ _ => .inr (11, [.int (f 0), .ref no, .ref sf, .int (f 3), .int (f 4)])
def m_fd (x : va_E) (n : Nat) : Option Value := match x with
  | .inr (ci, fs) => bif sm_sub ci (n / 512) then fs[n / 4 % 128]? else none
  | _ => none
def m_pf (x : va_E) (n : Nat) (v : Value) : Option va_E := match x with
  | .inr (ci, fs) => bif sm_sub ci (n / 512) && (Nat.ble (n / 4 % 128 + 1) fs.length && sm_fok (n % 4) v) then some (.inr (ci, fs.set (n / 4 % 128) v)) else none
  | _ => none
theorem wm_get {sh : List sh_T} {M : mm_T} {a : Nat} {s : sh_T} (h : sh[a]? = some s) : (wm sh M)[a]? = some (s (M.1 a) (M.2.1 a) (M.2.2 a)) := by
  unfold wm
  rw [List.getElem?_mapIdx, h]
  rfl
theorem wm_setI {sh : List sh_T} {M : mm_T} {a i : Nat} {v : Int32} {s : sh_T} (h : sh[a]? = some s) : (wm sh M).set a (s (upd (M.1 a) i v) (M.2.1 a) (M.2.2 a)) = wm sh (m_setI M a i v) := by
  apply List.ext_getElem?
  intro j
  simp only [wm, List.getElem?_set, List.getElem?_mapIdx, List.length_mapIdx, m_setI]
  by_cases hj : a = j
  · subst hj
    obtain ⟨hl, hx⟩ := List.getElem?_eq_some_iff.mp h
    simp [hl, hx, va_up]
  · simp only [hj, if_false]
    cases sh[j]? with
    | none => rfl
    | some t => simp [va_up, Ne.symm hj]
theorem wm_setA {sh : List sh_T} {M : mm_T} {a : Nat} {f : Nat → Int32} {s : sh_T} (h : sh[a]? = some s) : (wm sh M).set a (s f (M.2.1 a) (M.2.2 a)) = wm sh (m_setA M a f) := by
  apply List.ext_getElem?
  intro j
  simp only [wm, List.getElem?_set, List.getElem?_mapIdx, List.length_mapIdx, m_setA]
  by_cases hj : a = j
  · subst hj
    obtain ⟨hl, hx⟩ := List.getElem?_eq_some_iff.mp h
    simp [hl, hx, va_up]
  · simp only [hj, if_false]
    cases sh[j]? with
    | none => rfl
    | some t => simp [va_up, Ne.symm hj]
theorem wm_setL {sh : List sh_T} {M : mm_T} {a i : Nat} {v : Int64} {s : sh_T} (h : sh[a]? = some s) : (wm sh M).set a (s (M.1 a) (vp_updL (M.2.1 a) i v) (M.2.2 a)) = wm sh (m_setL M a i v) := by
  apply List.ext_getElem?
  intro j
  simp only [wm, List.getElem?_set, List.getElem?_mapIdx, List.length_mapIdx, m_setL]
  by_cases hj : a = j
  · subst hj
    obtain ⟨hl, hx⟩ := List.getElem?_eq_some_iff.mp h
    simp [hl, hx, va_up]
  · simp only [hj, if_false]
    cases sh[j]? with
    | none => rfl
    | some t => simp [va_up, Ne.symm hj]
theorem wm_setR {sh : List sh_T} {M : mm_T} {a i : Nat} {v : Option Nat} {s : sh_T} (h : sh[a]? = some s) : (wm sh M).set a (s (M.1 a) (M.2.1 a) (va_up (M.2.2 a) i v)) = wm sh (m_setR M a i v) := by
  apply List.ext_getElem?
  intro j
  simp only [wm, List.getElem?_set, List.getElem?_mapIdx, List.length_mapIdx, m_setR]
  by_cases hj : a = j
  · subst hj
    obtain ⟨hl, hx⟩ := List.getElem?_eq_some_iff.mp h
    simp [hl, hx, va_up]
  · simp only [hj, if_false]
    cases sh[j]? with
    | none => rfl
    | some t => simp [va_up, Ne.symm hj]
section MR
variable {L : Nat} {xs : Nat → Int32} {d y cb : Nat} {is : List sm_I} {lv lv' : sm_L} {st st' : List Value} {sh : List sh_T} {M : mm_T} {Q : Option Value → sm_W → Prop} {a n : Nat} {s : sh_T}
theorem m_get {k : Nat} {v : Value} (hs : sh[a]? = some s) (hv : m_fd (s (M.1 a) (M.2.1 a) (M.2.2 a)) k = some v) (h : sm_X L xs d y cb is lv (v :: st) (wm sh M) Q) : sm_X L xs d y cb (.getfield k :: is) lv (.ref a :: st) (wm sh M) Q := by
  refine x_op ?_ h
  simp only [sm_op, sm_fd, wm_get hs]
  unfold m_fd at hv
  split at hv
  · rename_i h1; rw [h1]; dsimp only; rw [hv]
  · cases hv
theorem m_putI {k : Nat} {v : Int32} (hs : sh[a]? = some s) (hv : m_pf (s (M.1 a) (M.2.1 a) (M.2.2 a)) k (.int v) = some (s (upd (M.1 a) (k / 4 % 128) v) (M.2.1 a) (M.2.2 a))) (h : sm_X L xs d y cb is lv st (wm sh (m_setI M a (k / 4 % 128) v)) Q) : sm_X L xs d y cb (.putfield k :: is) lv (.int v :: .ref a :: st) (wm sh M) Q := by
  refine x_op ?_ h
  simp only [sm_op, sm_pf, wm_get hs]
  rw [← wm_setI hs]
  unfold m_pf at hv
  split at hv
  · rename_i ci fs h1
    rw [h1]
    dsimp only
    rw [cond_eq_ite] at hv ⊢
    split at hv
    · rename_i h2
      rw [if_pos h2, ← Option.some.inj hv]
    · cases hv
  · cases hv
theorem m_putL {k : Nat} {v : Int64} (hs : sh[a]? = some s) (hv : m_pf (s (M.1 a) (M.2.1 a) (M.2.2 a)) k (.long v) = some (s (M.1 a) (vp_updL (M.2.1 a) (k / 4 % 128) v) (M.2.2 a))) (h : sm_X L xs d y cb is lv st (wm sh (m_setL M a (k / 4 % 128) v)) Q) : sm_X L xs d y cb (.putfield k :: is) lv (.long v :: .ref a :: st) (wm sh M) Q := by
  refine x_op ?_ h
  simp only [sm_op, sm_pf, wm_get hs]
  rw [← wm_setL hs]
  unfold m_pf at hv
  split at hv
  · rename_i ci fs h1
    rw [h1]
    dsimp only
    rw [cond_eq_ite] at hv ⊢
    split at hv
    · rename_i h2
      rw [if_pos h2, ← Option.some.inj hv]
    · cases hv
  · cases hv
theorem m_iald {i : Int32} (hs : sh[a]? = some (arrI n)) (hi : vp_in i n) (h : sm_X L xs d y cb is lv (.int (M.1 a i.toNatClampNeg) :: st) (wm sh M) Q) : sm_X L xs d y cb (.iaload :: is) lv (.int i :: .ref a :: st) (wm sh M) Q := by
  refine x_op ?_ h
  simp only [sm_op, wm_get hs]
  exact if_neg hi
theorem m_bald {i : Int32} (hs : sh[a]? = some (arrZ n)) (hi : vp_in i n) (h : sm_X L xs d y cb is lv (.int (M.1 a i.toNatClampNeg) :: st) (wm sh M) Q) : sm_X L xs d y cb (.baload :: is) lv (.int i :: .ref a :: st) (wm sh M) Q := by
  refine x_op ?_ h
  simp only [sm_op, wm_get hs]
  exact if_neg hi
theorem m_lald {i : Int32} (hs : sh[a]? = some (arrL n)) (hi : vp_in i n) (h : sm_X L xs d y cb is lv (.long (M.2.1 a i.toNatClampNeg) :: st) (wm sh M) Q) : sm_X L xs d y cb (.laload :: is) lv (.int i :: .ref a :: st) (wm sh M) Q := by
  refine x_op ?_ h
  simp only [sm_op, wm_get hs]
  exact if_neg hi
theorem m_aaldG {i : Int32} {q : Option Nat} (hs : sh[a]? = some (arrG n)) (hi : vp_in i n) (hq : M.2.2 a i.toNatClampNeg = q) (h : sm_X L xs d y cb is lv (va_rf q :: st) (wm sh M) Q) : sm_X L xs d y cb (.aaload :: is) lv (.int i :: .ref a :: st) (wm sh M) Q := by
  subst hq
  refine x_op ?_ h
  simp only [sm_op, wm_get hs]
  exact if_neg hi
theorem m_aaldW {i : Int32} {q : Option Nat} (hs : sh[a]? = some (arrW n)) (hi : vp_in i n) (hq : M.2.2 a i.toNatClampNeg = q) (h : sm_X L xs d y cb is lv (va_rf q :: st) (wm sh M) Q) : sm_X L xs d y cb (.aaload :: is) lv (.int i :: .ref a :: st) (wm sh M) Q := by
  subst hq
  refine x_op ?_ h
  simp only [sm_op, wm_get hs]
  exact if_neg hi
theorem m_iast {i x : Int32} (hs : sh[a]? = some (arrI n)) (hi : vp_in i n) (h : sm_X L xs d y cb is lv st (wm sh (m_setI M a i.toNatClampNeg x)) Q) : sm_X L xs d y cb (.iastore :: is) lv (.int x :: .int i :: .ref a :: st) (wm sh M) Q := by
  refine x_op ?_ h
  simp only [sm_op, wm_get hs]
  rw [← wm_setI hs]
  exact if_neg hi
theorem m_bast {i x : Int32} (hs : sh[a]? = some (arrZ n)) (hi : vp_in i n) (hx : x = 0 ∨ x = 1) (h : sm_X L xs d y cb is lv st (wm sh (m_setI M a i.toNatClampNeg x)) Q) : sm_X L xs d y cb (.bastore :: is) lv (.int x :: .int i :: .ref a :: st) (wm sh M) Q := by
  refine x_op ?_ h
  simp only [sm_op, wm_get hs]
  rw [← wm_setI hs]
  exact if_neg (fun g => g.elim hi (fun g => g hx))
theorem m_last {i : Int32} {x : Int64} (hs : sh[a]? = some (arrL n)) (hi : vp_in i n) (h : sm_X L xs d y cb is lv st (wm sh (m_setL M a i.toNatClampNeg x)) Q) : sm_X L xs d y cb (.lastore :: is) lv (.long x :: .int i :: .ref a :: st) (wm sh M) Q := by
  refine x_op ?_ h
  simp only [sm_op, wm_get hs]
  rw [← wm_setL hs]
  exact if_neg hi
theorem m_invS {k : Nat} {Q1 : Option Value → sm_W → Prop} (hb : (Nat.ble (k % 16) st.length && Nat.ble (sm_words (st.drop (k % 16))) 8) = true) (he : sm_E L xs d (k / 256) (st.take (k % 16)).reverse (wm sh M) Q1) (h : ∀ r w1, Q1 r w1 → sm_X L xs d y cb is lv (r.toList ++ st.drop (k % 16)) w1 Q) : sm_X L xs d y cb (.invokestatic k :: is) lv st (wm sh M) Q := x_invS hb he h
/-- whom a call by the receiver's kind reaches -/
def m_vt (x : va_E) (k : Nat) : Option Nat := match x with
  | .inr (ci, _) => sm_vt (k / 256) (k / 16 % 16) ci
  | _ => none
theorem m_invV {k yy : Nat} {as : List Value} {Q1 : Option Value → sm_W → Prop} (hs : sh[a]? = some s) (ht : m_vt (s (M.1 a) (M.2.1 a) (M.2.2 a)) k = some yy) (hb : (Nat.ble (k % 16) st.length && Nat.ble (sm_words (st.drop (k % 16))) 8) = true) (hst : (st.take (k % 16)).reverse = .ref a :: as) (he : sm_E L xs d yy (.ref a :: as) (wm sh M) Q1) (h : ∀ r w1, Q1 r w1 → sm_X L xs d y cb is lv (r.toList ++ st.drop (k % 16)) w1 Q) : sm_X L xs d y cb (.invokevirtual k :: is) lv st (wm sh M) Q := by
  unfold m_vt at ht
  split at ht
  · rename_i ci fs h1
    exact x_invV hb hst (by rw [wm_get hs, h1]) ht he h
  · cases ht
end MR
def kL : List (Nat × Int32) := [(0, 0), (1, 1), (2, 2), (7, 7), (3, 3), (4, 4), (49, 49), (40, 40), (48, 48), (27, 27), (42, 42), (5, 5), (100, 100), (16, 16), (26, 26), (31, 31), (32, 32), (10, 10), (30, 30), (64, 64), (96, 96), (6, 6), (8, 8), (13, 13), (20, 20), (21, 21), (28, 28), (47, 47), (95, 95), (98, 98), (126, 126), (144, 144), (196, 196), (640, 640), (672, 672), (1000, 1000), (1680, 1680), (3840, 3840), (5000, 5000), (1000000, 1000000)]
def kM : List (Nat × Int32) := [(0, -1), (3, -4), (1, -2), (2, -3), (4, -5), (9, -10), (99, -100), (64, -65), (32, -33), (31, -32)]
def kG : List (Nat × Int32) → Nat → Option Int32
  | [], _ => none
  | (k, v) :: r, n => bif Nat.beq k n then some v else kG r n
def kC (n : Int) : Option Int32 := match n with
  | .ofNat k => kG kL k
  | .negSucc k => kG kM k
theorem kG_mem : ∀ {l : List (Nat × Int32)} {n : Nat} {v : Int32}, kG l n = some v → (n, v) ∈ l
  | [], _, _, h => by cases h
  | (k, u) :: r, n, v, h => by
    unfold kG at h
    cases hb : Nat.beq k n with
    | true =>
      rw [hb] at h
      have e := Nat.eq_of_beq_eq_true hb
      subst e
      cases h
      exact List.mem_cons_self
    | false =>
      rw [hb] at h
      exact List.mem_cons_of_mem _ (kG_mem h)
theorem kL_ok : kL.all (fun q => decide (Int32.ofInt (Int.ofNat q.1) = q.2)) = true := by decide +kernel
theorem kM_ok : kM.all (fun q => decide (Int32.ofInt (Int.negSucc q.1) = q.2)) = true := by decide +kernel
theorem kC_ok {n : Int} {v : Int32} (h : kC n = some v) : Int32.ofInt n = v := by
  unfold kC at h
  split at h
  · have h2 := List.all_eq_true.mp kL_ok _ (kG_mem h)
    rw [decide_eq_true_eq] at h2
    exact h2
  · have h2 := List.all_eq_true.mp kM_ok _ (kG_mem h)
    rw [decide_eq_true_eq] at h2
    exact h2
theorem x_kc {L : Nat} {xs : Nat → Int32} {d y cb : Nat} {is : List sm_I} {lv : sm_L} {st : List Value} {w : sm_W} {Q : Option Value → sm_W → Prop} {n : Int} {v : Int32} (hv : kC n = some v) (h : sm_X L xs d y cb is lv (.int v :: st) w Q) : sm_X L xs d y cb (.iconst n :: is) lv st w Q := by
  refine x_op ?_ h
  simp only [sm_op]
  rw [kC_ok hv]
/-- instructions that don't look at the world -/
def sm_pu (i : sm_I) : Bool := match i with
  | .getfield _ | .putfield _ | .iaload | .baload | .laload | .aaload | .iastore | .bastore | .lastore | .aastore | .arraylength | .new _ | .newarray _ | .anewarray _ | .checkcast _ | .instanceof _ | .idiv | .irem => false
  | .invokestatic _ | .invokespecial _ | .invokevirtual _ | .goto _ | .goto_w _ | .ifCond _ _ | .if_icmp _ _ | .ifnull _ | .ifnonnull _ | .tableswitch _ _ _ _ | .ireturn | .lreturn | .areturn | .return_ => false
  | _ => true
theorem x_opp {L : Nat} {xs : Nat → Int32} {d y cb : Nat} {is : List sm_I} {lv lv' : sm_L} {st st' : List Value} {w w' : sm_W} {Q : Option Value → sm_W → Prop} {i : sm_I} (hp : sm_pu i = true) (ho : sm_op L xs i lv st w = some (lv', st', w')) (h : sm_X L xs d y cb is lv' st' w' Q) : sm_X L xs d y cb (i :: is) lv st w Q := x_op ho h
/-! the same rules with any instruction at the head: what fits is found by computing (a rule that doesn't fit fails at once) -/
def kI (i : sm_I) : Option Int32 := match i with | .iconst n => kC n | _ => none
def goI (i : sm_I) : Option Nat := match i with | .goto t => some t.toNat | .goto_w t => some t.toNat | _ => none
def gfI (i : sm_I) : Option Nat := match i with | .getfield k => some k | _ => none
def inI (i : sm_I) : Option Nat := match i with | .iinc k (.ofNat 1) => some k | _ => none
section GEN
variable {L : Nat} {xs : Nat → Int32} {d y cb : Nat} {is : List sm_I} {lv : sm_L} {st st0 : List Value} {w : sm_W} {Q : Option Value → sm_W → Prop} {i : sm_I} {sh : List sh_T} {M : mm_T} {a : Nat} {s : sh_T}
theorem x_kcg {v : Int32} (hv : kI i = some v) (h : sm_X L xs d y cb is lv (.int v :: st) w Q) : sm_X L xs d y cb (i :: is) lv st w Q := by
  unfold kI at hv
  split at hv
  · exact x_kc hv h
  · cases hv
theorem x_go {t : Nat} (hv : goI i = some t) (h : sm_X L xs d y t (sm_code y t) lv st w Q) : sm_X L xs d y cb (i :: is) lv st w Q := by
  unfold goI at hv
  split at hv
  · cases hv
    exact x_goto h
  · cases hv
    exact x_fall h
  · cases hv
theorem m_getg {k : Nat} {v : Value} (hs : sh[a]? = some s) (hi : gfI i = some k) (hst : st0 = .ref a :: st) (hv : m_fd (s (M.1 a) (M.2.1 a) (M.2.2 a)) k = some v) (h : sm_X L xs d y cb is lv (v :: st) (wm sh M) Q) : sm_X L xs d y cb (i :: is) lv st0 (wm sh M) Q := by
  unfold gfI at hi
  split at hi
  · cases hi
    subst hst
    exact m_get hs hv h
  · cases hi
theorem x_incN {k j : Nat} (hg : sm_get lv k = some (.int (nI j))) (h : sm_X L xs d y cb is (sm_put lv k (.int (nI (j + 1)))) st w Q) : sm_X L xs d y cb (.iinc k 1 :: is) lv st w Q := by
  refine x_op ?_ h
  simp only [sm_op, hg]
  rw [show Int32.ofInt 1 = 1 from rfl, nI_1]
theorem x_incg {k j : Nat} (hi : inI i = some k) (hg : sm_get lv k = some (.int (nI j))) (h : sm_X L xs d y cb is (sm_put lv k (.int (nI (j + 1)))) st w Q) : sm_X L xs d y cb (i :: is) lv st w Q := by
  unfold inI at hi
  split at hi
  · cases hi
    exact x_incN hg h
  · cases hi
end GEN
end
section
/-! numbers and branches; the grid's small questions -/
def zz (x : Bool) : Int32 := if x = true then 1 else 0
theorem zz_t : zz true = 1 := rfl
theorem zz_f : zz false = 0 := rfl
theorem zz_01 (x : Bool) : zz x = 0 ∨ zz x = 1 := by cases x <;> simp [zz]
theorem br_eqz {x : Bool} (a b : sm_O) : (x = false → sm_br .eq (zz x) 0 a b = a) ∧ (¬ x = false → sm_br .eq (zz x) 0 a b = b) := by
  cases x
  · exact ⟨fun _ => rfl, fun h => absurd rfl h⟩
  · exact ⟨fun h => (by cases h), fun _ => rfl⟩
theorem br_nez {x : Bool} (a b : sm_O) : (x = true → sm_br .ne (zz x) 0 a b = a) ∧ (¬ x = true → sm_br .ne (zz x) 0 a b = b) := by
  cases x
  · exact ⟨fun h => (by cases h), fun _ => rfl⟩
  · exact ⟨fun _ => rfl, fun h => absurd rfl h⟩
theorem nf_t {x : Bool} (h : ¬ x = false) : x = true := by cases x <;> simp_all
theorem nt_f {x : Bool} (h : ¬ x = true) : x = false := by cases x <;> simp_all
section MC
variable {L : Nat} {xs : Nat → Int32} {d y cb : Nat} {is : List sm_I} {lv lv' : sm_L} {st st' : List Value} {sh : List sh_T} {M : mm_T} {Q : Option Value → sm_W → Prop} {a n : Nat} {s : sh_T}
theorem m_callV {k yy : Nat} {as : List Value} (hs : sh[a]? = some s) (ht : m_vt (s (M.1 a) (M.2.1 a) (M.2.2 a)) k = some yy) (hb : (Nat.ble (k % 16) st.length && Nat.ble (sm_words (st.drop (k % 16))) 8) = true) (hst : (st.take (k % 16)).reverse = .ref a :: as) (he : sm_E L xs d yy (.ref a :: as) (wm sh M) (fun r w1 => sm_X L xs d y cb is lv (r.toList ++ st.drop (k % 16)) w1 Q)) : sm_X L xs d y cb (.invokevirtual k :: is) lv st (wm sh M) Q := m_invV hs ht hb hst he (fun _ _ h => h)
theorem m_callS {k : Nat} {as : List Value} (hb : (Nat.ble (k % 16) st.length && Nat.ble (sm_words (st.drop (k % 16))) 8) = true) (hst : (st.take (k % 16)).reverse = as) (he : sm_E L xs d (k / 256) as (wm sh M) (fun r w1 => sm_X L xs d y cb is lv (r.toList ++ st.drop (k % 16)) w1 Q)) : sm_X L xs d y cb (.invokestatic k :: is) lv st (wm sh M) Q := by
  subst hst
  exact x_invS hb he (fun _ _ h => h)
end MC
theorem i7 {r h : Int32} (h1 : ¬ r < 0) (h2 : ¬ h ≤ r) (h3 : h ≤ 7) : ∃ i : Nat, i < 7 ∧ r = nI i := by
  obtain ⟨j, hj, rfl⟩ := nI_of h1
  refine ⟨j, ?_, rfl⟩
  rw [Int32.le_iff_toInt_le] at h2 h3
  rw [nI_toInt hj] at h2
  have : (7 : Int32).toInt = 7 := by decide
  omega
theorem nI7 : (7 : Int32) = nI 7 := by decide
theorem mul7 (i j : Nat) : nI i * 7 + nI j = nI (i * 7 + j) := by rw [nI7, pk_mul, nI_add]
def gRow (h r : Int32) : Bool := if r < 0 then false else if h ≤ r then false else true
def gPl (ln c w : Int32) : Bool := if c < 0 then false else if ln - w < c then false else true
def gWh (h : Int32) (ln cs : Nat → Int32) (r c : Int32) : Bool := if gRow h r = false then false else if gPl (ln r.toNatClampNeg) c 1 = false then false else if cs (r * 7 + c).toNatClampNeg &&& 31 = 27 then false else true
theorem gRow_t {h r : Int32} (g : gRow h r = true) (h7 : h ≤ 7) : ∃ i : Nat, i < 7 ∧ r = nI i := by
  unfold gRow at g
  split at g
  · cases g
  · split at g
    · cases g
    · rename_i h1 h2
      exact i7 h1 h2 h7
theorem gPl_t {ln c : Int32} (g : gPl ln c 1 = true) (h7 : ln ≤ 7) (hm : -1 ≤ ln) : ∃ j : Nat, j < 7 ∧ c = nI j := by
  unfold gPl at g
  split at g
  · cases g
  · split at g
    · cases g
    · rename_i h1 h2
      obtain ⟨j, hj, rfl⟩ := nI_of h1
      refine ⟨j, ?_, rfl⟩
      rw [Int32.lt_iff_toInt_lt] at h2
      rw [Int32.le_iff_toInt_le] at h7 hm
      rw [nI_toInt hj] at h2
      have e7 : (7 : Int32).toInt = 7 := by decide
      have em : (-1 : Int32).toInt = -1 := by decide
      have e1 : (1 : Int32).toInt = 1 := by decide
      have es : (ln - 1).toInt = ln.toInt - 1 := by
        rw [Int32.toInt_sub, e1]
        apply Int.bmod_eq_of_le <;> omega
      omega
theorem in7 {i : Nat} (h : i < 7) : vp_in (nI i) 7 := vp_in_nI h (by decide)
theorem in49 {i j : Nat} (h : i < 7) (hj : j < 7) : vp_in (nI i * 7 + nI j) 49 := by
  rw [mul7]
  exact vp_in_nI (by omega) (by decide)
section G1
variable {L : Nat} {xs : Nat → Int32} {d : Nat} {sh : List sh_T} {M : mm_T} {Q : Option Value → sm_W → Prop} {g c l sp re : Nat}
theorem c_hasRow {r : Int32} (hg : sh[g]? = some (gridS c l sp re)) (hq : Q (some (.int (zz (gRow (M.1 g 5) r)))) (wm sh M)) : sm_E L xs (d + 1) 16 [.ref g, .int r] (wm sh M) Q := by
  refine e_intro rfl rfl ?_
  repeat (first | refine x_kcg rfl ?_ | refine x_opp rfl rfl ?_ | refine x_go rfl ?_ | refine m_getg hg rfl rfl rfl ?_)
  refine x_ifc br_lt (fun h1 => ?_) (fun h1 => ?_)
  · repeat (first | refine x_kcg rfl ?_ | refine x_opp rfl rfl ?_ | refine x_go rfl ?_ | refine m_getg hg rfl rfl rfl ?_)
    refine x_zret (Or.inl rfl) ?_
    simp only [gRow, h1, if_true, zz_f] at hq
    exact hq
  · repeat (first | refine x_kcg rfl ?_ | refine x_opp rfl rfl ?_ | refine x_go rfl ?_ | refine m_getg hg rfl rfl rfl ?_)
    refine x_icm br_ge (fun h2 => ?_) (fun h2 => ?_)
    · repeat (first | refine x_kcg rfl ?_ | refine x_opp rfl rfl ?_ | refine x_go rfl ?_ | refine m_getg hg rfl rfl rfl ?_)
      refine x_zret (Or.inl rfl) ?_
      simp only [gRow, h1, h2, if_true, if_false, zz_f] at hq
      exact hq
    · repeat (first | refine x_kcg rfl ?_ | refine x_opp rfl rfl ?_ | refine x_go rfl ?_ | refine m_getg hg rfl rfl rfl ?_)
      refine x_zret (Or.inr rfl) ?_
      simp only [gRow, h1, h2, if_false, zz_t] at hq
      exact hq
theorem c_hasPlaces {r k w : Int32} (hg : sh[g]? = some (gridS c l sp re)) (hl : sh[l]? = some (arrI 7)) (hr : vp_in r 7) (hq : Q (some (.int (zz (gPl (M.1 l r.toNatClampNeg) k w)))) (wm sh M)) : sm_E L xs (d + 1) 19 [.ref g, .int r, .int k, .int w] (wm sh M) Q := by
  refine e_intro rfl rfl ?_
  repeat (first | refine x_kcg rfl ?_ | refine x_opp rfl rfl ?_ | refine x_go rfl ?_ | refine m_getg hg rfl rfl rfl ?_)
  refine x_ifc br_lt (fun h1 => ?_) (fun h1 => ?_)
  · repeat (first | refine x_kcg rfl ?_ | refine x_opp rfl rfl ?_ | refine x_go rfl ?_ | refine m_getg hg rfl rfl rfl ?_)
    refine x_zret (Or.inl rfl) ?_
    simp only [gPl, h1, if_true, zz_f] at hq
    exact hq
  · repeat (first | refine x_kcg rfl ?_ | refine x_opp rfl rfl ?_ | refine x_go rfl ?_ | refine m_getg hg rfl rfl rfl ?_)
    refine m_iald hl hr ?_
    repeat (first | refine x_kcg rfl ?_ | refine x_opp rfl rfl ?_ | refine x_go rfl ?_ | refine m_getg hg rfl rfl rfl ?_)
    refine x_icm br_gt (fun h2 => ?_) (fun h2 => ?_)
    · repeat (first | refine x_kcg rfl ?_ | refine x_opp rfl rfl ?_ | refine x_go rfl ?_ | refine m_getg hg rfl rfl rfl ?_)
      refine x_zret (Or.inl rfl) ?_
      simp only [gPl, h1, h2, if_true, if_false, zz_f] at hq
      exact hq
    · repeat (first | refine x_kcg rfl ?_ | refine x_opp rfl rfl ?_ | refine x_go rfl ?_ | refine m_getg hg rfl rfl rfl ?_)
      refine x_zret (Or.inr rfl) ?_
      simp only [gPl, h1, h2, if_false, zz_t] at hq
      exact hq
theorem c_signOf {r k : Int32} (hg : sh[g]? = some (gridS c l sp re)) (hc : sh[c]? = some (arrI 49)) (hr : vp_in (r * 7 + k) 49) (hq : Q (some (.int (M.1 c (r * 7 + k).toNatClampNeg &&& 31))) (wm sh M)) : sm_E L xs (d + 1) 20 [.ref g, .int r, .int k] (wm sh M) Q := by
  refine e_intro rfl rfl ?_
  repeat (first | refine x_kcg rfl ?_ | refine x_opp rfl rfl ?_ | refine x_go rfl ?_ | refine m_getg hg rfl rfl rfl ?_)
  refine m_iald hc hr ?_
  repeat (first | refine x_kcg rfl ?_ | refine x_opp rfl rfl ?_ | refine x_go rfl ?_ | refine m_getg hg rfl rfl rfl ?_)
  exact x_iret rfl hq
theorem c_isWhite {r k : Int32} (hg : sh[g]? = some (gridS c l sp re)) (hl : sh[l]? = some (arrI 7)) (hc : sh[c]? = some (arrI 49)) (h7 : M.1 g 5 ≤ 7) (hl7 : ∀ i, i < 7 → -1 ≤ M.1 l i ∧ M.1 l i ≤ 7) (hq : Q (some (.int (zz (gWh (M.1 g 5) (M.1 l) (M.1 c) r k)))) (wm sh M)) : sm_E L xs (d + 2) 76 [.ref g, .int r, .int k] (wm sh M) Q := by
  refine e_intro rfl rfl ?_
  repeat (first | refine x_kcg rfl ?_ | refine x_opp rfl rfl ?_ | refine x_go rfl ?_ | refine m_getg hg rfl rfl rfl ?_)
  refine m_callV hg rfl rfl rfl (c_hasRow hg ?_)
  refine x_ifc br_eqz (fun h1 => ?_) (fun h1 => ?_)
  · repeat (first | refine x_kcg rfl ?_ | refine x_opp rfl rfl ?_ | refine x_go rfl ?_ | refine m_getg hg rfl rfl rfl ?_)
    refine x_zret (Or.inl rfl) ?_
    simp only [gWh, h1, if_true, zz_f] at hq
    exact hq
  · obtain ⟨i, hi, rfl⟩ := gRow_t (nf_t h1) h7
    repeat (first | refine x_kcg rfl ?_ | refine x_opp rfl rfl ?_ | refine x_go rfl ?_ | refine m_getg hg rfl rfl rfl ?_)
    refine m_callV hg rfl rfl rfl (c_hasPlaces hg hl (in7 hi) ?_)
    refine x_ifc br_eqz (fun h2 => ?_) (fun h2 => ?_)
    · repeat (first | refine x_kcg rfl ?_ | refine x_opp rfl rfl ?_ | refine x_go rfl ?_ | refine m_getg hg rfl rfl rfl ?_)
      refine x_zret (Or.inl rfl) ?_
      simp only [gWh, h1, h2, if_true, if_false, Bool.true_eq_false, zz_f] at hq
      exact hq
    · have e1 : (nI i).toNatClampNeg = i := nI_clamp (by omega)
      obtain ⟨j, hj, rfl⟩ := gPl_t (nf_t h2) (by rw [e1]; exact (hl7 i hi).2) (by rw [e1]; exact (hl7 i hi).1)
      repeat (first | refine x_kcg rfl ?_ | refine x_opp rfl rfl ?_ | refine x_go rfl ?_ | refine m_getg hg rfl rfl rfl ?_)
      refine m_callV hg rfl rfl rfl (c_signOf hg hc (in49 hi hj) ?_)
      repeat (first | refine x_kcg rfl ?_ | refine x_opp rfl rfl ?_ | refine x_go rfl ?_ | refine m_getg hg rfl rfl rfl ?_)
      refine x_icm br_eq (fun h3 => ?_) (fun h3 => ?_)
      · have h3 : M.1 c (nI i * 7 + nI j).toNatClampNeg &&& 31 = 27 := h3
        repeat (first | refine x_kcg rfl ?_ | refine x_opp rfl rfl ?_ | refine x_go rfl ?_ | refine m_getg hg rfl rfl rfl ?_)
        refine x_zret (Or.inl rfl) ?_
        simp only [gWh, h1, h2, h3, if_true, if_false, Bool.true_eq_false, zz_f] at hq
        exact hq
      · have h3 : ¬ M.1 c (nI i * 7 + nI j).toNatClampNeg &&& 31 = 27 := h3
        repeat (first | refine x_kcg rfl ?_ | refine x_opp rfl rfl ?_ | refine x_go rfl ?_ | refine m_getg hg rfl rfl rfl ?_)
        refine x_zret (Or.inr rfl) ?_
        simp only [gWh, h1, h2, h3, if_false, Bool.true_eq_false, zz_t] at hq
        exact hq
end G1
end
section
/-! fewer known locals are enough: at a loop's head the list of locals is put into one order -/
def lv_le (lv lv' : sm_L) : Prop := ∀ i v, sm_get lv i = some v → sm_get lv' i = some v
def lv_nd (lv : sm_L) : Prop := (lv.map (fun q => q.1)).Nodup
theorem lg_cons (k : Nat) (u : Value) (r : sm_L) (i : Nat) : sm_get ((k, u) :: r) i = if k = i then some u else sm_get r i := by
  show (bif Nat.beq k i then some u else sm_get r i) = _
  by_cases h : k = i
  · subst h
    rw [if_pos rfl, Nat.beq_refl]
    rfl
  · rw [if_neg h]
    cases hb : Nat.beq k i with
    | true => exact absurd (Nat.eq_of_beq_eq_true hb) h
    | false => rfl
theorem lg_notin : ∀ {lv : sm_L} {i : Nat}, i ∉ lv.map (fun q => q.1) → sm_get lv i = none
  | [], _, _ => rfl
  | (k, u) :: r, i, h => by
    rw [lg_cons]
    rw [List.map_cons, List.mem_cons, not_or] at h
    rw [if_neg (fun e => h.1 e.symm)]
    exact lg_notin h.2
theorem lg_filter (P : Nat × Value → Bool) : ∀ {lv : sm_L}, lv_nd lv → ∀ i, sm_get (lv.filter P) i = (match sm_get lv i with | some u => if P (i, u) = true then some u else none | none => none)
  | [], _, _ => rfl
  | (k, u) :: r, hn, i => by
    have hn2 : k ∉ r.map (fun q => q.1) ∧ (r.map (fun q => q.1)).Nodup := List.nodup_cons.mp hn
    have ih := lg_filter P (lv := r) hn2.2 i
    rw [List.filter_cons, lg_cons]
    by_cases hk : k = i
    · subst hk
      rw [if_pos rfl]
      dsimp only
      by_cases hp : P (k, u) = true
      · rw [if_pos hp, if_pos hp, lg_cons, if_pos rfl]
      · rw [if_neg hp, if_neg hp, ih, lg_notin hn2.1]
    · rw [if_neg hk]
      by_cases hp : P (k, u) = true
      · rw [if_pos hp, lg_cons, if_neg hk]
        exact ih
      · rw [if_neg hp]
        exact ih
theorem lv_nd_filter {P : Nat × Value → Bool} {lv : sm_L} (h : lv_nd lv) : lv_nd (lv.filter P) := by
  unfold lv_nd at *
  exact List.Sublist.nodup (List.Sublist.map _ List.filter_sublist) h
theorem lv_nd_put {lv : sm_L} (h : lv_nd lv) (i : Nat) (v : Value) : lv_nd (sm_put lv i v) := by
  unfold sm_put lv_nd
  rw [List.map_cons, List.nodup_cons]
  refine ⟨fun hm => ?_, lv_nd_filter h⟩
  obtain ⟨q, hq, he⟩ := List.mem_map.mp hm
  have := (List.mem_filter.mp hq).2
  simp at this
  exact this.1 he
theorem lv_nd_put2 {lv : sm_L} (h : lv_nd lv) (i : Nat) (v : Value) : lv_nd (sm_put2 lv i v) := by
  unfold sm_put2 lv_nd
  rw [List.map_cons, List.nodup_cons]
  refine ⟨fun hm => ?_, lv_nd_filter h⟩
  obtain ⟨q, hq, he⟩ := List.mem_map.mp hm
  have := (List.mem_filter.mp hq).2
  simp at this
  exact this.1 he
theorem lv_le_cons {P : Nat × Value → Bool} {lv lv' : sm_L} (h : lv_le lv lv') (h1 : lv_nd lv) (h2 : lv_nd lv') (i : Nat) (v : Value) : lv_le ((i, v) :: lv.filter P) ((i, v) :: lv'.filter P) := by
  intro j u hj
  rw [lg_cons] at hj ⊢
  by_cases hk : i = j
  · rw [if_pos hk] at hj ⊢
    exact hj
  · rw [if_neg hk] at hj ⊢
    rw [lg_filter P h1] at hj
    rw [lg_filter P h2]
    cases hg : sm_get lv j with
    | none => rw [hg] at hj; cases hj
    | some t =>
      rw [hg] at hj
      rw [h _ _ hg]
      exact hj
def sm_loc (i : sm_I) : Bool := match i with
  | .iload _ | .lload _ | .aload _ | .istore _ | .lstore _ | .astore _ | .iinc _ _ => true
  | _ => false
set_option maxHeartbeats 2000000 in
theorem sm_op_ind {L : Nat} {xs : Nat → Int32} {i : sm_I} (hi : sm_loc i = false) {lv lv1 lv' : sm_L} {st st1 : List Value} {w w1 : sm_W} (h : sm_op L xs i lv st w = some (lv1, st1, w1)) : lv1 = lv ∧ sm_op L xs i lv' st w = some (lv', st1, w1) := by
  cases i <;> first
    | (cases hi; done)
    | (simp only [sm_op] at h ⊢
       first
         | (cases h; done)
         | (cases h; exact ⟨rfl, rfl⟩)
         | (try simp only [cond_eq_ite] at h ⊢
            repeat' (split at h)
            all_goals first
              | (cases h; done)
              | (cases h; refine ⟨rfl, ?_⟩; simp_all; done)))
theorem sm_op_lle {L : Nat} {xs : Nat → Int32} {i : sm_I} {lv lv' lv1 : sm_L} {st st1 : List Value} {w w1 : sm_W} (h1 : lv_nd lv) (h2 : lv_nd lv') (hl : lv_le lv lv') (h : sm_op L xs i lv st w = some (lv1, st1, w1)) : ∃ lv2, sm_op L xs i lv' st w = some (lv2, st1, w1) ∧ lv_le lv1 lv2 ∧ lv_nd lv1 ∧ lv_nd lv2 := by
  cases hi : sm_loc i with
  | false =>
    obtain ⟨rfl, h3⟩ := sm_op_ind (lv' := lv') hi h
    exact ⟨lv', h3, hl, h1, h2⟩
  | true =>
    cases i <;> first | (cases hi; done) | skip
    all_goals simp only [sm_op] at h ⊢
    all_goals (split at h)
    all_goals first
      | (cases h; done)
      | (rename_i hg; cases h; rw [hl _ _ hg]; exact ⟨_, rfl, hl, h1, h2⟩)
      | (rename_i hg; cases h; rw [hl _ _ hg]; exact ⟨_, rfl, lv_le_cons hl h1 h2 _ _, lv_nd_put h1 _ _, lv_nd_put h2 _ _⟩)
      | (cases h; exact ⟨_, rfl, lv_le_cons hl h1 h2 _ _, lv_nd_put h1 _ _, lv_nd_put h2 _ _⟩)
      | (cases h; exact ⟨_, rfl, lv_le_cons hl h1 h2 _ _, lv_nd_put2 h1 _ _, lv_nd_put2 h2 _ _⟩)
def lv_jl (j : Nat → sm_L → List Value → sm_W → sm_O) : Prop := ∀ t lv lv' st w q, lv_nd lv → lv_nd lv' → lv_le lv lv' → j t lv st w = some q → j t lv' st w = some q
theorem sm_blk_lle {L : Nat} {xs : Nat → Int32} {f : Nat → List Value → sm_W → sm_O} {j : Nat → sm_L → List Value → sm_W → sm_O} (hj : lv_jl j) {bo : Bool} {cb : Nat} {q : Option Value × sm_W} :
    ∀ (is : List sm_I) (lv lv' : sm_L) (st : List Value) (w : sm_W), lv_nd lv → lv_nd lv' → lv_le lv lv' → sm_blk L xs f j bo cb is lv st w = some q → sm_blk L xs f j bo cb is lv' st w = some q
  | [], _, _, _, _, _, _, _, hq => by cases hq
  | i :: is, lv, lv', st, w, h1, h2, hl, hq => by
    have inv : ∀ (c n : Nat), (match sm_inv f c n st w with | some (st1, w1) => sm_blk L xs f j bo cb is lv st1 w1 | none => none) = some q → (match sm_inv f c n st w with | some (st1, w1) => sm_blk L xs f j bo cb is lv' st1 w1 | none => none) = some q := by
      intro c n g1
      cases g2 : sm_inv f c n st w with
      | none => rw [g2] at g1; cases g1
      | some v =>
        rw [g2] at g1
        exact sm_blk_lle hj is _ _ _ _ h1 h2 hl g1
    cases i with
    | goto t => exact hj _ _ _ _ _ _ h1 h2 hl hq
    | goto_w t => exact hj _ _ _ _ _ _ h1 h2 hl hq
    | ifCond cd t =>
      unfold sm_blk at hq ⊢
      dsimp only at hq ⊢
      split at hq
      · exact sm_br_le (hj _ _ _ _ _ _ h1 h2 hl) (hj _ _ _ _ _ _ h1 h2 hl) hq
      · cases hq
    | if_icmp cd t =>
      unfold sm_blk at hq ⊢
      dsimp only at hq ⊢
      split at hq
      · exact sm_br_le (hj _ _ _ _ _ _ h1 h2 hl) (hj _ _ _ _ _ _ h1 h2 hl) hq
      · cases hq
    | ifnull t =>
      unfold sm_blk at hq ⊢
      dsimp only at hq ⊢
      split at hq
      · exact hj _ _ _ _ _ _ h1 h2 hl hq
      · exact hj _ _ _ _ _ _ h1 h2 hl hq
      · cases hq
    | ifnonnull t =>
      unfold sm_blk at hq ⊢
      dsimp only at hq ⊢
      split at hq
      · exact hj _ _ _ _ _ _ h1 h2 hl hq
      · exact hj _ _ _ _ _ _ h1 h2 hl hq
      · cases hq
    | tableswitch dd lo hi offs =>
      unfold sm_blk at hq ⊢
      dsimp only at hq ⊢
      split at hq
      · split at hq
        · rename_i g1
          rw [if_pos g1]
          exact hj _ _ _ _ _ _ h1 h2 hl hq
        · rename_i g1
          rw [if_neg g1]
          split at hq
          · exact hj _ _ _ _ _ _ h1 h2 hl hq
          · cases hq
      · cases hq
    | ireturn => exact hq
    | lreturn => exact hq
    | areturn => exact hq
    | return_ => exact hq
    | invokestatic n => exact inv _ _ hq
    | invokespecial n => exact inv _ _ hq
    | invokevirtual n => exact inv _ _ hq
    | _ =>
      unfold sm_blk at hq ⊢
      dsimp only at hq ⊢
      split at hq
      · rename_i g1
        obtain ⟨lv2, g2, g3, g4, g5⟩ := sm_op_lle h1 h2 hl g1
        rw [g2]
        exact sm_blk_lle hj is _ _ _ _ g4 g5 g3 hq
      · cases hq
theorem sm_meth_lle {L : Nat} {xs : Nat → Int32} {f : Nat → List Value → sm_W → sm_O} {y : Nat} : ∀ n, lv_jl (sm_meth L xs f y n)
  | 0, _, _, _, _, _, _, _, _, _, h => by cases h
  | n + 1, _, _, _, _, _, _, h1, h2, hl, h => sm_blk_lle (sm_meth_lle n) _ _ _ _ _ h1 h2 hl h
theorem x_lv {L : Nat} {xs : Nat → Int32} {d y cb : Nat} {is : List sm_I} {lv lv' : sm_L} {st : List Value} {w : sm_W} {Q : Option Value → sm_W → Prop} (h1 : lv_nd lv) (h2 : lv_nd lv') (hl : lv_le lv lv') (h : sm_X L xs d y cb is lv st w Q) : sm_X L xs d y cb is lv' st w Q := by
  obtain ⟨n, k, r, w1, g1, g2⟩ := h
  exact ⟨n, k, r, w1, sm_blk_lle (sm_meth_lle k) _ _ _ _ _ h1 h2 hl g1, g2⟩
/-- by computing: each of the first is among the second -/
def lv_in (lv lv' : sm_L) : Prop := match lv with
  | [] => True
  | q :: r => sm_get lv' q.1 = some q.2 ∧ lv_in r lv'
theorem lv_in_le : ∀ {lv lv' : sm_L}, lv_in lv lv' → lv_le lv lv'
  | [], _, _, i, v, hg => by cases hg
  | (k, u) :: r, lv', h, i, v, hg => by
    rw [lg_cons] at hg
    split at hg
    · rename_i e
      subst e
      cases hg
      exact h.1
    · exact lv_in_le h.2 i v hg
theorem x_lvs {L : Nat} {xs : Nat → Int32} {d y cb : Nat} {is : List sm_I} {st : List Value} {w : sm_W} {Q : Option Value → sm_W → Prop} (lv : sm_L) {lv' : sm_L} {ks ks' : List Nat} (h1 : lv.map (fun q => q.1) = ks) (h2 : lv'.map (fun q => q.1) = ks') (h3 : (decide ks.Nodup && decide ks'.Nodup) = true) (hl : lv_in lv lv') (h : sm_X L xs d y cb is lv st w Q) : sm_X L xs d y cb is lv' st w Q := by
  simp only [Bool.and_eq_true, decide_eq_true_eq] at h3
  exact x_lv (by unfold lv_nd; rw [h1]; exact h3.1) (by unfold lv_nd; rw [h2]; exact h3.2) (lv_in_le hl) h
end
section
/-! memory laws; Math, Arrays.fill, Notes -/
theorem mI_eq (M : mm_T) (a i : Nat) (v : Int32) : (m_setI M a i v).1 a = upd (M.1 a) i v := by simp [m_setI, va_up]
theorem mI_ne (M : mm_T) {a b : Nat} (i : Nat) (v : Int32) (h : b ≠ a) : (m_setI M a i v).1 b = M.1 b := by simp [m_setI, va_up, h]
theorem mI_2 (M : mm_T) (a i : Nat) (v : Int32) : (m_setI M a i v).2 = M.2 := rfl
theorem mA_eq (M : mm_T) (a : Nat) (f : Nat → Int32) : (m_setA M a f).1 a = f := by simp [m_setA, va_up]
theorem mA_ne (M : mm_T) {a b : Nat} (f : Nat → Int32) (h : b ≠ a) : (m_setA M a f).1 b = M.1 b := by simp [m_setA, va_up, h]
theorem mA_I (M : mm_T) (a i : Nat) (f : Nat → Int32) (v : Int32) : m_setI (m_setA M a f) a i v = m_setA M a (upd f i v) := by
  unfold m_setI m_setA
  congr 1
  funext b
  by_cases h : b = a <;> simp [va_up, h]
theorem mA_self (M : mm_T) (a : Nat) : m_setA M a (M.1 a) = M := by
  unfold m_setA
  have : va_up M.1 a (M.1 a) = M.1 := by
    funext b
    by_cases h : b = a <;> simp [va_up, h]
  rw [this]
theorem mA_A (M : mm_T) (a : Nat) (f g : Nat → Int32) : m_setA (m_setA M a f) a g = m_setA M a g := by
  unfold m_setA
  congr 1
  funext b
  by_cases h : b = a <;> simp [va_up, h]
section N1
variable {L : Nat} {xs : Nat → Int32} {d y cb : Nat} {is : List sm_I} {lv : sm_L} {st : List Value} {w : sm_W} {sh : List sh_T} {M : mm_T} {Q : Option Value → sm_W → Prop} {a n no ri ti : Nat}
theorem x_irem {x z : Int32} (hz : ¬ z = 0) (h : sm_X L xs d y cb is lv (.int (x - x / z * z) :: st) w Q) : sm_X L xs d y cb (.irem :: is) lv (.int z :: .int x :: st) w Q := x_op (by simp only [sm_op]; rw [if_neg hz]) h
theorem x_idiv {x z : Int32} (hz : ¬ z = 0) (h : sm_X L xs d y cb is lv (.int (x / z) :: st) w Q) : sm_X L xs d y cb (.idiv :: is) lv (.int z :: .int x :: st) w Q := x_op (by simp only [sm_op]; rw [if_neg hz]) h
theorem m_alen (hs : sh[a]? = some (arrI n)) (h : sm_X L xs d y cb is lv (.int (nI n) :: st) (wm sh M) Q) : sm_X L xs d y cb (.arraylength :: is) lv (.ref a :: st) (wm sh M) Q := by
  refine x_op ?_ h
  simp only [sm_op, wm_get hs]
  rfl
theorem c_min {p q : Int32} (hq : Q (some (.int (if q < p then q else p))) w) : sm_E L xs (d + 1) 51 [.int p, .int q] w Q := by
  refine e_intro rfl rfl ?_
  repeat (first | refine x_kcg rfl ?_ | refine x_opp rfl rfl ?_ | refine x_go rfl ?_)
  refine x_icm br_gt (fun h1 => ?_) (fun h1 => ?_)
  · repeat (first | refine x_kcg rfl ?_ | refine x_opp rfl rfl ?_ | refine x_go rfl ?_)
    refine x_iret rfl ?_
    rw [if_pos h1] at hq
    exact hq
  · repeat (first | refine x_kcg rfl ?_ | refine x_opp rfl rfl ?_ | refine x_go rfl ?_)
    refine x_iret rfl ?_
    rw [if_neg h1] at hq
    exact hq
theorem c_max {p q : Int32} (hq : Q (some (.int (if p < q then q else p))) w) : sm_E L xs (d + 1) 114 [.int p, .int q] w Q := by
  refine e_intro rfl rfl ?_
  repeat (first | refine x_kcg rfl ?_ | refine x_opp rfl rfl ?_ | refine x_go rfl ?_)
  refine x_icm br_lt (fun h1 => ?_) (fun h1 => ?_)
  · repeat (first | refine x_kcg rfl ?_ | refine x_opp rfl rfl ?_ | refine x_go rfl ?_)
    refine x_iret rfl ?_
    rw [if_pos h1] at hq
    exact hq
  · repeat (first | refine x_kcg rfl ?_ | refine x_opp rfl rfl ?_ | refine x_go rfl ?_)
    refine x_iret rfl ?_
    rw [if_neg h1] at hq
    exact hq
def fMod (p q : Int32) : Int32 := if 0 ≤ p ^^^ q then p - p / q * q else if p - p / q * q = 0 then p - p / q * q else p - p / q * q + q
theorem c_floorMod {p q : Int32} (hz : ¬ q = 0) (hq : Q (some (.int (fMod p q))) w) : sm_E L xs (d + 1) 139 [.int p, .int q] w Q := by
  refine e_intro rfl rfl ?_
  repeat (first | refine x_kcg rfl ?_ | refine x_opp rfl rfl ?_ | refine x_go rfl ?_)
  refine x_irem hz ?_
  repeat (first | refine x_kcg rfl ?_ | refine x_opp rfl rfl ?_ | refine x_go rfl ?_)
  refine x_ifc br_ge (fun h1 => ?_) (fun h1 => ?_)
  · repeat (first | refine x_kcg rfl ?_ | refine x_opp rfl rfl ?_ | refine x_go rfl ?_)
    refine x_iret rfl ?_
    unfold fMod at hq
    rw [if_pos h1] at hq
    exact hq
  · repeat (first | refine x_kcg rfl ?_ | refine x_opp rfl rfl ?_ | refine x_go rfl ?_)
    refine x_ifc br_eq (fun h2 => ?_) (fun h2 => ?_)
    · repeat (first | refine x_kcg rfl ?_ | refine x_opp rfl rfl ?_ | refine x_go rfl ?_)
      refine x_iret rfl ?_
      unfold fMod at hq
      rw [if_neg h1, if_pos h2] at hq
      exact hq
    · repeat (first | refine x_kcg rfl ?_ | refine x_opp rfl rfl ?_ | refine x_go rfl ?_)
      refine x_iret rfl ?_
      unfold fMod at hq
      rw [if_neg h1, if_neg h2] at hq
      exact hq
def aFill (f : Nat → Int32) (n : Nat) (v : Int32) : Nat → Int32 := fun j => if j < n then v else f j
theorem aFill_s (f : Nat → Int32) (n : Nat) (v : Int32) : upd (aFill f n v) n v = aFill f (n + 1) v := by
  funext j
  unfold aFill upd
  by_cases h : j = n
  · subst h
    rw [if_pos rfl, if_pos (Nat.lt_succ_self j)]
  · rw [if_neg h]
    dsimp only
    by_cases h2 : j < n
    · rw [if_pos h2, if_pos (by omega)]
    · rw [if_neg h2, if_neg (by omega)]
theorem aFill_0 (f : Nat → Int32) (v : Int32) : aFill f 0 v = f := by
  funext j
  unfold aFill
  rw [if_neg (Nat.not_lt_zero j)]
theorem l_fill {v : Int32} (ha : sh[a]? = some (arrI n)) (hn : n < 2 ^ 31) (hq : Q none (wm sh (m_setA M a (aFill (M.1 a) n v)))) : ∀ k i, i + k = n → sm_X L xs d 13 1 (sm_code 13 1) [(0, .ref a), (1, .int v), (2, .int (nI i)), (3, .int (nI n))] [] (wm sh (m_setA M a (aFill (M.1 a) i v))) Q := by
  intro k
  induction k with
  | zero =>
    intro i hi
    have e : i = n := hi
    subst e
    repeat (first | refine x_kcg rfl ?_ | refine x_opp rfl rfl ?_ | refine x_go rfl ?_)
    refine x_icm br_ge (fun h1 => ?_) (fun h1 => ?_)
    · exact x_ret hq
    · exact absurd (nI_le (Nat.le_refl i) hn) h1
  | succ k ih =>
    intro i hi
    repeat (first | refine x_kcg rfl ?_ | refine x_opp rfl rfl ?_ | refine x_go rfl ?_)
    refine x_icm br_ge (fun h1 => ?_) (fun h1 => ?_)
    · exact absurd h1 (nI_ge (by omega) hn)
    · repeat (first | refine x_kcg rfl ?_ | refine x_opp rfl rfl ?_ | refine x_go rfl ?_)
      refine m_iast ha (vp_in_nI (by omega) hn) ?_
      rw [nI_clamp (by omega), mA_I, aFill_s]
      repeat (first | refine x_kcg rfl ?_ | refine x_incg rfl rfl ?_ | refine x_opp rfl rfl ?_)
      refine x_goto ?_
      refine x_lvs [(0, .ref a), (1, .int v), (2, .int (nI (i + 1))), (3, .int (nI n))] rfl rfl rfl ⟨rfl, rfl, rfl, rfl, trivial⟩ ?_
      exact ih (i + 1) (by omega)
theorem c_fill {v : Int32} (ha : sh[a]? = some (arrI n)) (hn : n < 2 ^ 31) (hq : Q none (wm sh (m_setA M a (aFill (M.1 a) n v)))) : sm_E L xs (d + 1) 13 [.ref a, .int v] (wm sh M) Q := by
  refine e_intro rfl rfl ?_
  repeat (first | refine x_kcg rfl ?_ | refine x_incg rfl rfl ?_ | refine x_opp rfl rfl ?_)
  refine m_alen ha ?_
  repeat (first | refine x_kcg rfl ?_ | refine x_incg rfl rfl ?_ | refine x_opp rfl rfl ?_)
  refine x_fall ?_
  refine x_lvs [(0, .ref a), (1, .int v), (2, .int (nI 0)), (3, .int (nI n))] rfl rfl rfl ⟨rfl, rfl, rfl, rfl, trivial⟩ ?_
  have h := l_fill (L := L) (xs := xs) (d := d) (M := M) ha hn hq n 0 (Nat.zero_add n)
  rw [aFill_0, mA_self] at h
  exact h
theorem c_clear (hn : sh[no]? = some (notesS ri ti)) (hq : Q none (wm sh (m_setI M no 5 0))) : sm_E L xs (d + 1) 8 [.ref no] (wm sh M) Q := by
  refine e_intro rfl rfl ?_
  repeat (first | refine x_kcg rfl ?_ | refine x_opp rfl rfl ?_ | refine x_go rfl ?_)
  refine m_putI hn rfl ?_
  exact x_ret hq
theorem c_met (hn : sh[no]? = some (notesS ri ti)) (hq : Q (some (.int (zz (decide (M.1 no 5 ≠ 0))))) (wm sh M)) : sm_E L xs (d + 1) 56 [.ref no] (wm sh M) Q := by
  refine e_intro rfl rfl ?_
  repeat (first | refine x_kcg rfl ?_ | refine x_opp rfl rfl ?_ | refine x_go rfl ?_ | refine m_getg hn rfl rfl rfl ?_)
  refine x_ifc br_eq (fun h1 => ?_) (fun h1 => ?_)
  · repeat (first | refine x_kcg rfl ?_ | refine x_opp rfl rfl ?_ | refine x_go rfl ?_)
    refine x_zret (Or.inl rfl) ?_
    rw [show decide (M.1 no 5 ≠ 0) = false from decide_eq_false (fun h => h h1)] at hq
    exact hq
  · repeat (first | refine x_kcg rfl ?_ | refine x_opp rfl rfl ?_ | refine x_go rfl ?_)
    refine x_zret (Or.inr rfl) ?_
    rw [show decide (M.1 no 5 ≠ 0) = true from decide_eq_true h1] at hq
    exact hq
theorem c_answer (hn : sh[no]? = some (notesS ri ti)) (hq : Q (some (.int (-10 - M.1 no 5))) (wm sh M)) : sm_E L xs (d + 1) 11 [.ref no] (wm sh M) Q := by
  refine e_intro rfl rfl ?_
  repeat (first | refine x_kcg rfl ?_ | refine x_opp rfl rfl ?_ | refine x_go rfl ?_ | refine m_getg hn rfl rfl rfl ?_)
  exact x_iret rfl hq
def nFind (M : mm_T) (no ti : Nat) (k : Int32) : mm_T := m_setI (m_setI M no 5 k) ti k.toNatClampNeg (M.1 ti k.toNatClampNeg + 1)
theorem c_find {k : Int32} (hn : sh[no]? = some (notesS ri ti)) (ht : sh[ti]? = some (arrI 6)) (hne : ti ≠ no) (hk : vp_in k 6) (hq : Q (some (.int (-10 - k))) (wm sh (nFind M no ti k))) : sm_E L xs (d + 2) 10 [.ref no, .int k] (wm sh M) Q := by
  refine e_intro rfl rfl ?_
  repeat (first | refine x_kcg rfl ?_ | refine x_opp rfl rfl ?_ | refine x_go rfl ?_)
  refine m_putI hn rfl ?_
  repeat (first | refine x_kcg rfl ?_ | refine x_opp rfl rfl ?_ | refine x_go rfl ?_ | refine m_getg hn rfl rfl rfl ?_)
  refine m_iald ht hk ?_
  repeat (first | refine x_kcg rfl ?_ | refine x_opp rfl rfl ?_ | refine x_go rfl ?_ | refine m_getg hn rfl rfl rfl ?_)
  refine m_iast ht hk ?_
  repeat (first | refine x_kcg rfl ?_ | refine x_opp rfl rfl ?_ | refine x_go rfl ?_)
  rw [mI_ne M _ _ hne]
  refine m_callV hn rfl rfl rfl (c_answer hn ?_)
  refine x_iret rfl ?_
  rw [mI_ne _ _ _ (Ne.symm hne), mI_eq]
  exact hq
def nBeg (M : mm_T) (no ri : Nat) (k t : Int32) : mm_T :=
  let p := M.1 no 2
  let c := if (100 : Int32) < M.1 no 3 + 1 then 100 else M.1 no 3 + 1
  m_setI (m_setI (m_setI (m_setI M ri p.toNatClampNeg (10 * k + t)) no 2 (if 100 ≤ p + 1 then 0 else p + 1)) no 3 c) no 4 (M.1 no 4 + 1)
theorem c_begin {k t : Int32} (hn : sh[no]? = some (notesS ri ti)) (hr : sh[ri]? = some (arrI 100)) (hne : ri ≠ no) (hp : vp_in (M.1 no 2) 100) (hq : Q none (wm sh (nBeg M no ri k t))) : sm_E L xs (d + 2) 50 [.ref no, .int k, .int t] (wm sh M) Q := by
  refine e_intro rfl rfl ?_
  repeat (first | refine x_kcg rfl ?_ | refine x_opp rfl rfl ?_ | refine x_go rfl ?_ | refine m_getg hn rfl rfl rfl ?_)
  refine m_iast hr hp ?_
  repeat (first | refine x_kcg rfl ?_ | refine x_opp rfl rfl ?_ | refine x_go rfl ?_ | refine m_getg hn rfl rfl rfl ?_)
  rw [mI_ne M _ _ (Ne.symm hne)]
  unfold nBeg at hq
  dsimp only at hq
  refine x_icm br_ge (fun h1 => ?_) (fun h1 => ?_)
  · have h1 : 100 ≤ M.1 no 2 + 1 := h1
    rw [if_pos h1] at hq
    repeat (first | refine x_kcg rfl ?_ | refine x_opp rfl rfl ?_ | refine x_go rfl ?_)
    refine m_putI hn rfl ?_
    repeat (first | refine x_kcg rfl ?_ | refine x_opp rfl rfl ?_ | refine x_go rfl ?_ | refine m_getg hn rfl rfl rfl ?_)
    refine m_callS rfl rfl (c_min ?_)
    refine m_putI hn rfl ?_
    repeat (first | refine x_kcg rfl ?_ | refine x_opp rfl rfl ?_ | refine x_go rfl ?_ | refine m_getg hn rfl rfl rfl ?_)
    refine m_putI hn rfl ?_
    refine x_ret ?_
    simp only [mI_eq, mI_ne _ _ _ (Ne.symm hne)]
    exact hq
  · have h1 : ¬ 100 ≤ M.1 no 2 + 1 := h1
    rw [if_neg h1] at hq
    repeat (first | refine x_kcg rfl ?_ | refine x_opp rfl rfl ?_ | refine x_go rfl ?_ | refine m_getg hn rfl rfl rfl ?_)
    refine m_putI hn rfl ?_
    repeat (first | refine x_kcg rfl ?_ | refine x_opp rfl rfl ?_ | refine x_go rfl ?_ | refine m_getg hn rfl rfl rfl ?_)
    refine m_callS rfl rfl (c_min ?_)
    refine m_putI hn rfl ?_
    repeat (first | refine x_kcg rfl ?_ | refine x_opp rfl rfl ?_ | refine x_go rfl ?_ | refine m_getg hn rfl rfl rfl ?_)
    refine m_putI hn rfl ?_
    refine x_ret ?_
    simp only [mI_eq, mI_ne _ _ _ (Ne.symm hne)]
    exact hq
theorem c_latest {i : Int32} (hn : sh[no]? = some (notesS ri ti)) (hr : sh[ri]? = some (arrI 100)) (hp : vp_in (fMod (M.1 no 2 - 1 - i) 100) 100) (hq : Q (some (.int (M.1 ri (fMod (M.1 no 2 - 1 - i) 100).toNatClampNeg))) (wm sh M)) : sm_E L xs (d + 2) 138 [.ref no, .int i] (wm sh M) Q := by
  refine e_intro rfl rfl ?_
  repeat (first | refine x_kcg rfl ?_ | refine x_opp rfl rfl ?_ | refine x_go rfl ?_ | refine m_getg hn rfl rfl rfl ?_)
  refine m_callS rfl rfl (c_floorMod (by decide) ?_)
  refine m_iald hr hp ?_
  exact x_iret rfl hq
end N1
end
section
/-! the grid: refusals, signs, bars, joins, a new one -/
def gSh (sh : List sh_T) (g c l sp re : Nat) : Prop := sh[g]? = some (gridS c l sp re) ∧ sh[c]? = some (arrI 49) ∧ sh[l]? = some (arrI 7) ∧ sh[sp]? = some (arrI 49) ∧ sh[re]? = some (arrI 49) ∧ c ≠ g ∧ l ≠ g ∧ l ≠ c ∧ sp ≠ g ∧ sp ≠ c ∧ sp ≠ l ∧ re ≠ g ∧ re ≠ c ∧ re ≠ l ∧ re ≠ sp
/-- a grid's numbers are as they must be -/
def gOK (M : mm_T) (g l : Nat) : Prop := (0 ≤ M.1 g 5 ∧ M.1 g 5 ≤ 7) ∧ (0 ≤ M.1 g 6 ∧ M.1 g 6 ≤ 7) ∧ ∀ i, i < 7 → -1 ≤ M.1 l i ∧ M.1 l i ≤ M.1 g 6
theorem gOK_7 {M : mm_T} {g l : Nat} (h : gOK M g l) : ∀ i, i < 7 → -1 ≤ M.1 l i ∧ M.1 l i ≤ 7 := fun i hi => ⟨(h.2.2 i hi).1, Int32.le_trans (h.2.2 i hi).2 h.2.1.2⟩
theorem gWh_t {h : Int32} {ln cs : Nat → Int32} {r k : Int32} (hw : gWh h ln cs r k = true) (h7 : h ≤ 7) (hl : ∀ i, i < 7 → -1 ≤ ln i ∧ ln i ≤ 7) : ∃ i j : Nat, i < 7 ∧ j < 7 ∧ r = nI i ∧ k = nI j := by
  unfold gWh at hw
  split at hw
  · cases hw
  · rename_i h1
    split at hw
    · cases hw
    · rename_i h2
      obtain ⟨i, hi, rfl⟩ := gRow_t (nf_t h1) h7
      rw [nI_clamp (by omega)] at h2
      obtain ⟨j, hj, rfl⟩ := gPl_t (nf_t h2) (hl i hi).2 (hl i hi).1
      exact ⟨i, j, hi, hj, rfl, rfl⟩
def gRR (th h : Int32) (ln : Nat → Int32) (r : Int32) : Int32 := if th ≠ 0 then (if gRow h r = true then (if 0 ≤ ln r.toNatClampNeg then 0 else 1) else 2) else 1
def gSR (th h : Int32) (ln : Nat → Int32) (r k : Int32) : Int32 := if gRR th h ln r = 0 then (if gPl (ln r.toNatClampNeg) k 1 = false then 2 else 0) else gRR th h ln r
def gJR (h : Int32) (ln cs : Nat → Int32) (r k : Int32) : Bool := if gWh h ln cs r k = false then false else if gWh h ln cs r (k + 1) = false then false else if cs (r * 7 + k).toNatClampNeg &&& 32 ≠ 0 then false else true
def gJB (h : Int32) (ln cs : Nat → Int32) (r k : Int32) : Bool := if gWh h ln cs r k = false then false else if gWh h ln cs (r + 1) k = false then false else if cs (r * 7 + k).toNatClampNeg &&& 64 ≠ 0 then false else true
theorem gRR_0 {th h : Int32} {ln : Nat → Int32} {r : Int32} (h0 : gRR th h ln r = 0) (h7 : h ≤ 7) : ∃ i : Nat, i < 7 ∧ r = nI i ∧ gRow h (nI i) = true ∧ 0 ≤ ln i ∧ th ≠ 0 := by
  unfold gRR at h0
  split at h0
  · rename_i ht
    split at h0
    · rename_i h1
      split at h0
      · rename_i h2
        obtain ⟨i, hi, rfl⟩ := gRow_t h1 h7
        rw [nI_clamp (by omega)] at h2
        exact ⟨i, hi, rfl, h1, h2, ht⟩
      · cases h0
    · cases h0
  · cases h0
section G2
variable {L : Nat} {xs : Nat → Int32} {d : Nat} {sh : List sh_T} {M : mm_T} {Q : Option Value → sm_W → Prop} {g c l sp re : Nat}
theorem c_rowRefusal {r : Int32} (hg : gSh sh g c l sp re) (hk : gOK M g l) (hq : Q (some (.int (gRR (M.1 g 4) (M.1 g 5) (M.1 l) r))) (wm sh M)) : sm_E L xs (d + 2) 15 [.ref g, .int r] (wm sh M) Q := by
  refine e_intro rfl rfl ?_
  repeat (first | refine x_kcg rfl ?_ | refine x_opp rfl rfl ?_ | refine x_go rfl ?_ | refine m_getg hg.1 rfl rfl rfl ?_)
  refine x_ifc br_ne (fun h1 => ?_) (fun h1 => ?_)
  · repeat (first | refine x_kcg rfl ?_ | refine x_opp rfl rfl ?_ | refine x_go rfl ?_ | refine m_getg hg.1 rfl rfl rfl ?_)
    refine m_callV hg.1 rfl rfl rfl (c_hasRow hg.1 ?_)
    refine x_ifc br_nez (fun h2 => ?_) (fun h2 => ?_)
    · obtain ⟨i, hi, rfl⟩ := gRow_t h2 hk.1.2
      repeat (first | refine x_kcg rfl ?_ | refine x_opp rfl rfl ?_ | refine x_go rfl ?_ | refine m_getg hg.1 rfl rfl rfl ?_)
      refine m_iald hg.2.2.1 (in7 hi) ?_
      refine x_ifc br_ge (fun h3 => ?_) (fun h3 => ?_)
      · repeat (first | refine x_kcg rfl ?_ | refine x_opp rfl rfl ?_ | refine x_go rfl ?_)
        refine x_iret rfl ?_
        unfold gRR at hq
        rw [if_pos h1, if_pos h2, if_pos h3] at hq
        exact hq
      · repeat (first | refine x_kcg rfl ?_ | refine x_opp rfl rfl ?_ | refine x_go rfl ?_)
        refine x_iret rfl ?_
        unfold gRR at hq
        rw [if_pos h1, if_pos h2, if_neg h3] at hq
        exact hq
    · repeat (first | refine x_kcg rfl ?_ | refine x_opp rfl rfl ?_ | refine x_go rfl ?_)
      refine x_iret rfl ?_
      unfold gRR at hq
      rw [if_pos h1, if_neg h2] at hq
      exact hq
  · repeat (first | refine x_kcg rfl ?_ | refine x_opp rfl rfl ?_ | refine x_go rfl ?_)
    refine x_iret rfl ?_
    unfold gRR at hq
    rw [if_neg h1] at hq
    exact hq
theorem c_squareRefusal {r k : Int32} (hg : gSh sh g c l sp re) (hk : gOK M g l) (hq : Q (some (.int (gSR (M.1 g 4) (M.1 g 5) (M.1 l) r k))) (wm sh M)) : sm_E L xs (d + 3) 18 [.ref g, .int r, .int k] (wm sh M) Q := by
  refine e_intro rfl rfl ?_
  repeat (first | refine x_kcg rfl ?_ | refine x_opp rfl rfl ?_ | refine x_go rfl ?_ | refine m_getg hg.1 rfl rfl rfl ?_)
  refine m_callV hg.1 rfl rfl rfl (c_rowRefusal hg hk ?_)
  repeat (first | refine x_kcg rfl ?_ | refine x_opp rfl rfl ?_ | refine x_go rfl ?_ | refine m_getg hg.1 rfl rfl rfl ?_)
  refine x_ifc br_eq (fun h1 => ?_) (fun h1 => ?_)
  · obtain ⟨i, hi, rfl, -, -, -⟩ := gRR_0 h1 hk.1.2
    repeat (first | refine x_kcg rfl ?_ | refine x_opp rfl rfl ?_ | refine x_go rfl ?_ | refine m_getg hg.1 rfl rfl rfl ?_)
    refine m_callV hg.1 rfl rfl rfl (c_hasPlaces (w := 1) hg.1 hg.2.2.1 (in7 hi) ?_)
    refine x_ifc br_eqz (fun h2 => ?_) (fun h2 => ?_)
    · repeat (first | refine x_kcg rfl ?_ | refine x_opp rfl rfl ?_ | refine x_go rfl ?_)
      refine x_iret rfl ?_
      unfold gSR at hq
      rw [if_pos h1, if_pos h2] at hq
      exact hq
    · repeat (first | refine x_kcg rfl ?_ | refine x_opp rfl rfl ?_ | refine x_go rfl ?_)
      refine x_iret rfl ?_
      unfold gSR at hq
      rw [if_pos h1, if_neg h2] at hq
      exact hq
  · repeat (first | refine x_kcg rfl ?_ | refine x_opp rfl rfl ?_ | refine x_go rfl ?_)
    refine x_iret rfl ?_
    unfold gSR at hq
    rw [if_neg h1] at hq
    exact hq
theorem c_listFor {b : Bool} (hg : gSh sh g c l sp re) (hq : Q (some (.int (if b = true then M.1 g 8 else M.1 g 7))) (wm sh M)) : sm_E L xs (d + 1) 71 [.ref g, .int (zz b)] (wm sh M) Q := by
  refine e_intro rfl rfl ?_
  repeat (first | refine x_kcg rfl ?_ | refine x_opp rfl rfl ?_ | refine x_go rfl ?_ | refine m_getg hg.1 rfl rfl rfl ?_)
  refine x_ifc br_eqz (fun h1 => ?_) (fun h1 => ?_)
  · repeat (first | refine x_kcg rfl ?_ | refine x_opp rfl rfl ?_ | refine x_go rfl ?_ | refine m_getg hg.1 rfl rfl rfl ?_)
    refine x_iret rfl ?_
    rw [if_neg (by rw [h1]; exact Bool.false_ne_true)] at hq
    exact hq
  · repeat (first | refine x_kcg rfl ?_ | refine x_opp rfl rfl ?_ | refine x_go rfl ?_ | refine m_getg hg.1 rfl rfl rfl ?_)
    refine x_iret rfl ?_
    rw [if_pos (nf_t h1)] at hq
    exact hq
theorem c_putSign {r k v : Int32} (hg : gSh sh g c l sp re) (hr : vp_in (r * 7 + k) 49) (hq : Q none (wm sh (m_setI M c (r * 7 + k).toNatClampNeg (M.1 c (r * 7 + k).toNatClampNeg &&& (-32) ||| v)))) : sm_E L xs (d + 1) 21 [.ref g, .int r, .int k, .int v] (wm sh M) Q := by
  refine e_intro rfl rfl ?_
  repeat (first | refine x_kcg rfl ?_ | refine x_opp rfl rfl ?_ | refine x_go rfl ?_ | refine m_getg hg.1 rfl rfl rfl ?_)
  refine m_iald hg.2.1 hr ?_
  repeat (first | refine x_kcg rfl ?_ | refine x_opp rfl rfl ?_ | refine x_go rfl ?_ | refine m_getg hg.1 rfl rfl rfl ?_)
  refine m_iast hg.2.1 hr ?_
  exact x_ret hq
theorem c_putBar {r k v : Int32} {b : Bool} (hg : gSh sh g c l sp re) (hr : vp_in (r * 7 + k) 49) (hq : Q (some (.int (if M.1 c (r * 7 + k).toNatClampNeg &&& v = 0 then 0 else 1))) (wm sh (m_setI M c (r * 7 + k).toNatClampNeg (if b = true then M.1 c (r * 7 + k).toNatClampNeg ||| v else M.1 c (r * 7 + k).toNatClampNeg &&& (v ^^^ (-1)))))) : sm_E L xs (d + 1) 24 [.ref g, .int r, .int k, .int v, .int (zz b)] (wm sh M) Q := by
  refine e_intro rfl rfl ?_
  repeat (first | refine x_kcg rfl ?_ | refine x_opp rfl rfl ?_ | refine x_go rfl ?_ | refine m_getg hg.1 rfl rfl rfl ?_)
  refine m_iald hg.2.1 hr ?_
  repeat (first | refine x_kcg rfl ?_ | refine x_opp rfl rfl ?_ | refine x_go rfl ?_ | refine m_getg hg.1 rfl rfl rfl ?_)
  refine x_ifc br_eq (fun h1 => ?_) (fun h1 => ?_)
  · rw [if_pos h1] at hq
    repeat (first | refine x_kcg rfl ?_ | refine x_opp rfl rfl ?_ | refine x_go rfl ?_ | refine m_getg hg.1 rfl rfl rfl ?_)
    refine x_ifc br_eqz (fun h2 => ?_) (fun h2 => ?_)
    · rw [if_neg (by rw [h2]; exact Bool.false_ne_true)] at hq
      repeat (first | refine x_kcg rfl ?_ | refine x_opp rfl rfl ?_ | refine x_go rfl ?_ | refine m_getg hg.1 rfl rfl rfl ?_)
      refine m_iald hg.2.1 hr ?_
      repeat (first | refine x_kcg rfl ?_ | refine x_opp rfl rfl ?_ | refine x_go rfl ?_ | refine m_getg hg.1 rfl rfl rfl ?_)
      refine m_iast hg.2.1 hr ?_
      repeat (first | refine x_kcg rfl ?_ | refine x_opp rfl rfl ?_ | refine x_go rfl ?_)
      exact x_zret (Or.inl rfl) hq
    · rw [if_pos (nf_t h2)] at hq
      repeat (first | refine x_kcg rfl ?_ | refine x_opp rfl rfl ?_ | refine x_go rfl ?_ | refine m_getg hg.1 rfl rfl rfl ?_)
      refine m_iald hg.2.1 hr ?_
      repeat (first | refine x_kcg rfl ?_ | refine x_opp rfl rfl ?_ | refine x_go rfl ?_ | refine m_getg hg.1 rfl rfl rfl ?_)
      refine m_iast hg.2.1 hr ?_
      repeat (first | refine x_kcg rfl ?_ | refine x_opp rfl rfl ?_ | refine x_go rfl ?_)
      exact x_zret (Or.inl rfl) hq
  · rw [if_neg h1] at hq
    repeat (first | refine x_kcg rfl ?_ | refine x_opp rfl rfl ?_ | refine x_go rfl ?_ | refine m_getg hg.1 rfl rfl rfl ?_)
    refine x_ifc br_eqz (fun h2 => ?_) (fun h2 => ?_)
    · rw [if_neg (by rw [h2]; exact Bool.false_ne_true)] at hq
      repeat (first | refine x_kcg rfl ?_ | refine x_opp rfl rfl ?_ | refine x_go rfl ?_ | refine m_getg hg.1 rfl rfl rfl ?_)
      refine m_iald hg.2.1 hr ?_
      repeat (first | refine x_kcg rfl ?_ | refine x_opp rfl rfl ?_ | refine x_go rfl ?_ | refine m_getg hg.1 rfl rfl rfl ?_)
      refine m_iast hg.2.1 hr ?_
      repeat (first | refine x_kcg rfl ?_ | refine x_opp rfl rfl ?_ | refine x_go rfl ?_)
      exact x_zret (Or.inr rfl) hq
    · rw [if_pos (nf_t h2)] at hq
      repeat (first | refine x_kcg rfl ?_ | refine x_opp rfl rfl ?_ | refine x_go rfl ?_ | refine m_getg hg.1 rfl rfl rfl ?_)
      refine m_iald hg.2.1 hr ?_
      repeat (first | refine x_kcg rfl ?_ | refine x_opp rfl rfl ?_ | refine x_go rfl ?_ | refine m_getg hg.1 rfl rfl rfl ?_)
      refine m_iast hg.2.1 hr ?_
      repeat (first | refine x_kcg rfl ?_ | refine x_opp rfl rfl ?_ | refine x_go rfl ?_)
      exact x_zret (Or.inr rfl) hq
theorem c_white {r k : Int32} (hg : gSh sh g c l sp re) (hk : gOK M g l) (hq : Q (some (.int (zz (gWh (M.1 g 5) (M.1 l) (M.1 c) r k)))) (wm sh M)) : sm_E L xs (d + 2) 76 [.ref g, .int r, .int k] (wm sh M) Q := c_isWhite hg.1 hg.2.2.1 hg.2.1 hk.1.2 (gOK_7 hk) hq
theorem c_joinsRight {r k : Int32} (hg : gSh sh g c l sp re) (hk : gOK M g l) (hq : Q (some (.int (zz (gJR (M.1 g 5) (M.1 l) (M.1 c) r k)))) (wm sh M)) : sm_E L xs (d + 3) 75 [.ref g, .int r, .int k] (wm sh M) Q := by
  refine e_intro rfl rfl ?_
  repeat (first | refine x_kcg rfl ?_ | refine x_opp rfl rfl ?_ | refine x_go rfl ?_ | refine m_getg hg.1 rfl rfl rfl ?_)
  refine m_callV hg.1 rfl rfl rfl (c_white hg hk ?_)
  refine x_ifc br_eqz (fun h1 => ?_) (fun h1 => ?_)
  · repeat (first | refine x_kcg rfl ?_ | refine x_opp rfl rfl ?_ | refine x_go rfl ?_)
    refine x_zret (Or.inl rfl) ?_
    unfold gJR at hq
    rw [if_pos h1] at hq
    exact hq
  · repeat (first | refine x_kcg rfl ?_ | refine x_opp rfl rfl ?_ | refine x_go rfl ?_)
    refine m_callV hg.1 rfl rfl rfl (c_white hg hk ?_)
    refine x_ifc br_eqz (fun h2 => ?_) (fun h2 => ?_)
    · repeat (first | refine x_kcg rfl ?_ | refine x_opp rfl rfl ?_ | refine x_go rfl ?_)
      refine x_zret (Or.inl rfl) ?_
      unfold gJR at hq
      rw [if_neg h1, if_pos h2] at hq
      exact hq
    · obtain ⟨i, j, hi, hj, rfl, rfl⟩ := gWh_t (nf_t h1) hk.1.2 (gOK_7 hk)
      repeat (first | refine x_kcg rfl ?_ | refine x_opp rfl rfl ?_ | refine x_go rfl ?_ | refine m_getg hg.1 rfl rfl rfl ?_)
      refine m_iald hg.2.1 (in49 hi hj) ?_
      repeat (first | refine x_kcg rfl ?_ | refine x_opp rfl rfl ?_ | refine x_go rfl ?_ | refine m_getg hg.1 rfl rfl rfl ?_)
      refine x_ifc br_ne (fun h3 => ?_) (fun h3 => ?_)
      · repeat (first | refine x_kcg rfl ?_ | refine x_opp rfl rfl ?_ | refine x_go rfl ?_)
        refine x_zret (Or.inl rfl) ?_
        unfold gJR at hq
        rw [if_neg h1, if_neg h2, if_pos h3] at hq
        exact hq
      · repeat (first | refine x_kcg rfl ?_ | refine x_opp rfl rfl ?_ | refine x_go rfl ?_)
        refine x_zret (Or.inr rfl) ?_
        unfold gJR at hq
        rw [if_neg h1, if_neg h2, if_neg h3] at hq
        exact hq
theorem c_joinsBelow {r k : Int32} (hg : gSh sh g c l sp re) (hk : gOK M g l) (hq : Q (some (.int (zz (gJB (M.1 g 5) (M.1 l) (M.1 c) r k)))) (wm sh M)) : sm_E L xs (d + 3) 77 [.ref g, .int r, .int k] (wm sh M) Q := by
  refine e_intro rfl rfl ?_
  repeat (first | refine x_kcg rfl ?_ | refine x_opp rfl rfl ?_ | refine x_go rfl ?_ | refine m_getg hg.1 rfl rfl rfl ?_)
  refine m_callV hg.1 rfl rfl rfl (c_white hg hk ?_)
  refine x_ifc br_eqz (fun h1 => ?_) (fun h1 => ?_)
  · repeat (first | refine x_kcg rfl ?_ | refine x_opp rfl rfl ?_ | refine x_go rfl ?_)
    refine x_zret (Or.inl rfl) ?_
    unfold gJB at hq
    rw [if_pos h1] at hq
    exact hq
  · repeat (first | refine x_kcg rfl ?_ | refine x_opp rfl rfl ?_ | refine x_go rfl ?_)
    refine m_callV hg.1 rfl rfl rfl (c_white hg hk ?_)
    refine x_ifc br_eqz (fun h2 => ?_) (fun h2 => ?_)
    · repeat (first | refine x_kcg rfl ?_ | refine x_opp rfl rfl ?_ | refine x_go rfl ?_)
      refine x_zret (Or.inl rfl) ?_
      unfold gJB at hq
      rw [if_neg h1, if_pos h2] at hq
      exact hq
    · obtain ⟨i, j, hi, hj, rfl, rfl⟩ := gWh_t (nf_t h1) hk.1.2 (gOK_7 hk)
      repeat (first | refine x_kcg rfl ?_ | refine x_opp rfl rfl ?_ | refine x_go rfl ?_ | refine m_getg hg.1 rfl rfl rfl ?_)
      refine m_iald hg.2.1 (in49 hi hj) ?_
      repeat (first | refine x_kcg rfl ?_ | refine x_opp rfl rfl ?_ | refine x_go rfl ?_ | refine m_getg hg.1 rfl rfl rfl ?_)
      refine x_ifc br_ne (fun h3 => ?_) (fun h3 => ?_)
      · repeat (first | refine x_kcg rfl ?_ | refine x_opp rfl rfl ?_ | refine x_go rfl ?_)
        refine x_zret (Or.inl rfl) ?_
        unfold gJB at hq
        rw [if_neg h1, if_neg h2, if_pos h3] at hq
        exact hq
      · repeat (first | refine x_kcg rfl ?_ | refine x_opp rfl rfl ?_ | refine x_go rfl ?_)
        refine x_zret (Or.inr rfl) ?_
        unfold gJB at hq
        rw [if_neg h1, if_neg h2, if_neg h3] at hq
        exact hq
def gNew (M : mm_T) (g c l : Nat) (h w : Int32) : mm_T := m_setI (m_setI (m_setA (m_setA (m_setI (m_setI (m_setI M g 4 1) g 5 h) g 6 w) c (aFill (M.1 c) 49 0)) l (aFill (M.1 l) 7 w)) g 7 (-1)) g 8 (-1)
theorem c_gbegin {h w : Int32} (hg : gSh sh g c l sp re) (hq : Q none (wm sh (gNew M g c l h w))) : sm_E L xs (d + 2) 12 [.ref g, .int h, .int w] (wm sh M) Q := by
  refine e_intro rfl rfl ?_
  obtain ⟨h1, h2, h3, -, -, n1, n2, n3, -⟩ := hg
  repeat (first | refine x_kcg rfl ?_ | refine x_opp rfl rfl ?_ | refine x_go rfl ?_)
  refine m_putI h1 rfl ?_
  repeat (first | refine x_kcg rfl ?_ | refine x_opp rfl rfl ?_ | refine x_go rfl ?_)
  refine m_putI h1 rfl ?_
  repeat (first | refine x_kcg rfl ?_ | refine x_opp rfl rfl ?_ | refine x_go rfl ?_)
  refine m_putI h1 rfl ?_
  repeat (first | refine x_kcg rfl ?_ | refine x_opp rfl rfl ?_ | refine x_go rfl ?_ | refine m_getg h1 rfl rfl rfl ?_)
  refine m_callS rfl rfl (c_fill h2 (by decide) ?_)
  repeat (first | refine x_kcg rfl ?_ | refine x_opp rfl rfl ?_ | refine x_go rfl ?_ | refine m_getg h1 rfl rfl rfl ?_)
  refine m_callS rfl rfl (c_fill h3 (by decide) ?_)
  repeat (first | refine x_kcg rfl ?_ | refine x_opp rfl rfl ?_ | refine x_go rfl ?_)
  refine m_putI h1 rfl ?_
  repeat (first | refine x_kcg rfl ?_ | refine x_opp rfl rfl ?_ | refine x_go rfl ?_)
  refine m_putI h1 rfl ?_
  refine x_ret ?_
  rw [mA_ne _ _ n3, mI_ne _ _ _ n2, mI_ne _ _ _ n2, mI_ne _ _ _ n2, mI_ne _ _ _ n1, mI_ne _ _ _ n1, mI_ne _ _ _ n1]
  exact hq
end G2
end
section
/-! the grid: counting -/
theorem loop_dn {P : Nat → Prop} (N : Nat) (h0 : P N) (hs : ∀ j, j < N → P (j + 1) → P j) : P 0 := by
  have h : ∀ k, k ≤ N → P (N - k) := by
    intro k
    induction k with
    | zero => exact fun _ => h0
    | succ k ih =>
      intro hk
      have h1 := ih (by omega)
      have e : N - k = (N - (k + 1)) + 1 := by omega
      rw [e] at h1
      exact hs _ (by omega) h1
  have h1 := h N (Nat.le_refl N)
  rw [Nat.sub_self] at h1
  exact h1
def cnt (p : Nat → Bool) : Nat → Nat
  | 0 => 0
  | n + 1 => cnt p n + (if p n = true then 1 else 0)
def sumN (f : Nat → Nat) : Nat → Nat
  | 0 => 0
  | n + 1 => sumN f n + f n
theorem cnt_t {p : Nat → Bool} {n : Nat} (h : p n = true) : cnt p (n + 1) = cnt p n + 1 := by
  show cnt p n + (if p n = true then 1 else 0) = _
  rw [if_pos h]
theorem cnt_f {p : Nat → Bool} {n : Nat} (h : p n = false) : cnt p (n + 1) = cnt p n := by
  show cnt p n + (if p n = true then 1 else 0) = _
  rw [if_neg (by rw [h]; exact Bool.false_ne_true)]
  rfl
theorem cnt_le (p : Nat → Bool) : ∀ n, cnt p n ≤ n
  | 0 => Nat.le_refl 0
  | n + 1 => by
    have := cnt_le p n
    unfold cnt
    split <;> omega
theorem n7 {x : Int32} (h0 : 0 ≤ x) (h7 : x ≤ 7) : ∃ n : Nat, n ≤ 7 ∧ x = nI n := by
  have h1 : ¬ x < 0 := by
    rw [Int32.lt_iff_toInt_lt]
    rw [Int32.le_iff_toInt_le] at h0
    have e0 : (0 : Int32).toInt = 0 := by decide
    omega
  obtain ⟨j, hj, rfl⟩ := nI_of h1
  refine ⟨j, ?_, rfl⟩
  rw [Int32.le_iff_toInt_le, nI_toInt hj] at h7
  have e7 : (7 : Int32).toInt = 7 := by decide
  omega
/-- a row's length: -1 or a number up to 7 -/
theorem ln7 {x : Int32} (hm : -1 ≤ x) (h7 : x ≤ 7) : x = -1 ∨ ∃ n : Nat, n ≤ 7 ∧ x = nI n := by
  by_cases h0 : 0 ≤ x
  · exact Or.inr (n7 h0 h7)
  · refine Or.inl ?_
    rw [Int32.le_iff_toInt_le] at hm h0
    have em : (-1 : Int32).toInt = -1 := by decide
    have e0 : (0 : Int32).toInt = 0 := by decide
    apply Int32.toInt_inj.mp
    omega
theorem ln_cl {x : Int32} (hm : -1 ≤ x) (h7 : x ≤ 7) : x.toNatClampNeg ≤ 7 := by
  rcases ln7 hm h7 with rfl | ⟨n, hn, rfl⟩
  · decide
  · rw [nI_clamp (by omega)]; exact hn
theorem ln_ge {x : Int32} (hm : -1 ≤ x) (h7 : x ≤ 7) {j : Nat} (hj : x.toNatClampNeg ≤ j) (hb : j ≤ 7) : x ≤ nI j := by
  rcases ln7 hm h7 with rfl | ⟨n, hn, rfl⟩
  · rw [Int32.le_iff_toInt_le, nI_toInt (by omega)]
    have em : (-1 : Int32).toInt = -1 := by decide
    omega
  · rw [nI_clamp (by omega)] at hj
    exact nI_le hj (by omega)
theorem ln_lt {x : Int32} (hm : -1 ≤ x) (h7 : x ≤ 7) {j : Nat} (hj : j < x.toNatClampNeg) : ¬ x ≤ nI j := by
  rcases ln7 hm h7 with rfl | ⟨n, hn, rfl⟩
  · exact absurd hj (by rw [show (-1 : Int32).toNatClampNeg = 0 from by decide]; omega)
  · rw [nI_clamp (by omega)] at hj
    exact nI_ge hj (by omega)
/-- squares of a row that are no black -/
def gWr (cs : Nat → Int32) (i : Nat) : Nat → Bool := fun j => decide (cs (i * 7 + j) &&& 31 ≠ 27)
def gLr (cs : Nat → Int32) (i : Nat) : Nat → Bool := fun j => decide (1 ≤ cs (i * 7 + j) &&& 31) && decide (cs (i * 7 + j) &&& 31 ≤ 26)
def gWN (H : Nat) (ln cs : Nat → Int32) : Nat := sumN (fun i => cnt (gWr cs i) (ln i).toNatClampNeg) H
def gLN (H : Nat) (ln cs : Nat → Int32) : Nat := sumN (fun i => cnt (gLr cs i) (ln i).toNatClampNeg) H
section G3
variable {L : Nat} {xs : Nat → Int32} {d : Nat} {sh : List sh_T} {M : mm_T} {Q : Option Value → sm_W → Prop} {g c l sp re : Nat}
theorem c_whites {H : Nat} (hg : gSh sh g c l sp re) (hk : gOK M g l) (hH : M.1 g 5 = nI H) (hH7 : H ≤ 7) (hq : Q (some (.int (nI (gWN H (M.1 l) (M.1 c))))) (wm sh M)) : sm_E L xs (d + 2) 115 [.ref g] (wm sh M) Q := by
  have hl := gOK_7 hk
  refine e_intro rfl rfl ?_
  repeat (first | refine x_kcg rfl ?_ | refine x_incg rfl rfl ?_ | refine x_opp rfl rfl ?_)
  refine x_fall ?_
  refine x_lvs [(0, .ref g), (1, .int (nI 0)), (2, .int (nI 0))] rfl rfl rfl ⟨rfl, rfl, rfl, trivial⟩ ?_
  refine loop_dn (P := fun i => sm_X L xs (d + 1) 115 1 (sm_code 115 1) [(0, .ref g), (1, .int (nI (gWN i (M.1 l) (M.1 c)))), (2, .int (nI i))] [] (wm sh M) Q) H ?_ ?_
  · repeat (first | refine x_kcg rfl ?_ | refine x_opp rfl rfl ?_ | refine x_go rfl ?_ | refine m_getg hg.1 rfl rfl rfl ?_)
    rw [hH]
    refine x_icm br_ge (fun _ => ?_) (fun h1 => absurd (nI_le (Nat.le_refl H) (by omega)) h1)
    repeat (first | refine x_kcg rfl ?_ | refine x_opp rfl rfl ?_ | refine x_go rfl ?_)
    exact x_iret rfl hq
  · intro i hi hP
    have hi7 : i < 7 := by omega
    repeat (first | refine x_kcg rfl ?_ | refine x_opp rfl rfl ?_ | refine x_go rfl ?_ | refine m_getg hg.1 rfl rfl rfl ?_)
    rw [hH]
    refine x_icm br_ge (fun h1 => absurd h1 (nI_ge hi (by omega))) (fun _ => ?_)
    repeat (first | refine x_kcg rfl ?_ | refine x_incg rfl rfl ?_ | refine x_opp rfl rfl ?_)
    refine x_fall ?_
    refine x_lvs [(0, .ref g), (1, .int (nI (gWN i (M.1 l) (M.1 c) + cnt (gWr (M.1 c) i) 0))), (2, .int (nI i)), (3, .int (nI 0))] rfl rfl rfl ⟨rfl, rfl, rfl, rfl, trivial⟩ ?_
    refine loop_dn (P := fun j => sm_X L xs (d + 1) 115 3 (sm_code 115 3) [(0, .ref g), (1, .int (nI (gWN i (M.1 l) (M.1 c) + cnt (gWr (M.1 c) i) j))), (2, .int (nI i)), (3, .int (nI j))] [] (wm sh M) Q) (M.1 l i).toNatClampNeg ?_ ?_
    · have hc7 := ln_cl (hl i hi7).1 (hl i hi7).2
      repeat (first | refine x_kcg rfl ?_ | refine x_opp rfl rfl ?_ | refine x_go rfl ?_ | refine m_getg hg.1 rfl rfl rfl ?_)
      refine m_iald hg.2.2.1 (in7 hi7) ?_
      rw [nI_clamp (by omega)]
      refine x_icm br_ge (fun _ => ?_) (fun h1 => absurd (ln_ge (hl i hi7).1 (hl i hi7).2 (Nat.le_refl _) hc7) h1)
      repeat (first | refine x_kcg rfl ?_ | refine x_incg rfl rfl ?_ | refine x_opp rfl rfl ?_)
      refine x_goto ?_
      refine x_lvs [(0, .ref g), (1, .int (nI (gWN (i + 1) (M.1 l) (M.1 c)))), (2, .int (nI (i + 1)))] rfl rfl rfl ⟨rfl, rfl, rfl, trivial⟩ ?_
      exact hP
    · intro j hj hP2
      have hj7 : j < 7 := Nat.lt_of_lt_of_le hj (ln_cl (hl i hi7).1 (hl i hi7).2)
      repeat (first | refine x_kcg rfl ?_ | refine x_opp rfl rfl ?_ | refine x_go rfl ?_ | refine m_getg hg.1 rfl rfl rfl ?_)
      refine m_iald hg.2.2.1 (in7 hi7) ?_
      rw [nI_clamp (by omega)]
      refine x_icm br_ge (fun h1 => absurd h1 (ln_lt (hl i hi7).1 (hl i hi7).2 hj)) (fun _ => ?_)
      repeat (first | refine x_kcg rfl ?_ | refine x_opp rfl rfl ?_ | refine x_go rfl ?_ | refine m_getg hg.1 rfl rfl rfl ?_)
      refine m_callV hg.1 rfl rfl rfl (c_signOf hg.1 hg.2.1 (in49 hi7 hj7) ?_)
      rw [mul7, nI_clamp (by omega)]
      repeat (first | refine x_kcg rfl ?_ | refine x_opp rfl rfl ?_ | refine x_go rfl ?_)
      refine x_icm br_eq (fun h2 => ?_) (fun h2 => ?_)
      · have e : cnt (gWr (M.1 c) i) (j + 1) = cnt (gWr (M.1 c) i) j := cnt_f (decide_eq_false (fun h => h h2))
        rw [e] at hP2
        repeat (first | refine x_kcg rfl ?_ | refine x_incg rfl rfl ?_ | refine x_opp rfl rfl ?_)
        refine x_goto ?_
        refine x_lvs [(0, .ref g), (1, .int (nI (gWN i (M.1 l) (M.1 c) + cnt (gWr (M.1 c) i) j))), (2, .int (nI i)), (3, .int (nI (j + 1)))] rfl rfl rfl ⟨rfl, rfl, rfl, rfl, trivial⟩ ?_
        exact hP2
      · have e : cnt (gWr (M.1 c) i) (j + 1) = cnt (gWr (M.1 c) i) j + 1 := cnt_t (decide_eq_true h2)
        rw [e] at hP2
        repeat (first | refine x_kcg rfl ?_ | refine x_incg rfl rfl ?_ | refine x_opp rfl rfl ?_)
        refine x_fall ?_
        repeat (first | refine x_kcg rfl ?_ | refine x_incg rfl rfl ?_ | refine x_opp rfl rfl ?_)
        refine x_goto ?_
        refine x_lvs [(0, .ref g), (1, .int (nI (gWN i (M.1 l) (M.1 c) + (cnt (gWr (M.1 c) i) j + 1)))), (2, .int (nI i)), (3, .int (nI (j + 1)))] rfl rfl rfl ⟨rfl, rfl, rfl, rfl, trivial⟩ ?_
        exact hP2
end G3
end
section
/-! the grid: questions that end early; what goes through a square -/
def anyB (p : Nat → Bool) : Nat → Bool
  | 0 => false
  | n + 1 => anyB p n || p n
theorem anyB_t {p : Nat → Bool} {i : Nat} (h : p i = true) : ∀ {n}, i < n → anyB p n = true
  | 0, hn => by omega
  | n + 1, hn => by
    unfold anyB
    by_cases e : i = n
    · subst e
      rw [h, Bool.or_true]
    · rw [anyB_t h (by omega), Bool.true_or]
theorem anyB_f {p : Nat → Bool} : ∀ {n}, (∀ i, i < n → p i = false) → anyB p n = false
  | 0, _ => rfl
  | n + 1, h => by
    unfold anyB
    rw [anyB_f (fun i hi => h i (by omega)), h n (by omega)]
    rfl
section G4
variable {L : Nat} {xs : Nat → Int32} {d : Nat} {sh : List sh_T} {M : mm_T} {Q : Option Value → sm_W → Prop} {g c l sp re : Nat}
def gLack (ln : Nat → Int32) : Nat → Bool := fun i => decide (¬ 0 ≤ ln i)
def gCut (ln : Nat → Int32) (w : Int32) : Nat → Bool := fun i => decide (ln i ≠ w)
theorem c_lacksRow {H : Nat} (hg : gSh sh g c l sp re) (hH : M.1 g 5 = nI H) (hH7 : H ≤ 7) (hq : Q (some (.int (zz (anyB (gLack (M.1 l)) H)))) (wm sh M)) : sm_E L xs (d + 1) 131 [.ref g] (wm sh M) Q := by
  refine e_intro rfl rfl ?_
  repeat (first | refine x_kcg rfl ?_ | refine x_incg rfl rfl ?_ | refine x_opp rfl rfl ?_)
  refine x_fall ?_
  refine x_lvs [(0, .ref g), (1, .int (nI 0))] rfl rfl rfl ⟨rfl, rfl, trivial⟩ ?_
  refine loop_dn (P := fun i => (∀ a, a < i → gLack (M.1 l) a = false) → sm_X L xs d 131 1 (sm_code 131 1) [(0, .ref g), (1, .int (nI i))] [] (wm sh M) Q) H ?_ ?_ (fun a ha => absurd ha (Nat.not_lt_zero a))
  · intro hall
    repeat (first | refine x_kcg rfl ?_ | refine x_opp rfl rfl ?_ | refine x_go rfl ?_ | refine m_getg hg.1 rfl rfl rfl ?_)
    rw [hH]
    refine x_icm br_ge (fun _ => ?_) (fun h1 => absurd (nI_le (Nat.le_refl H) (by omega)) h1)
    repeat (first | refine x_kcg rfl ?_ | refine x_opp rfl rfl ?_ | refine x_go rfl ?_)
    refine x_zret (Or.inl rfl) ?_
    rw [anyB_f hall] at hq
    exact hq
  · intro i hi hP hall
    have hi7 : i < 7 := by omega
    repeat (first | refine x_kcg rfl ?_ | refine x_opp rfl rfl ?_ | refine x_go rfl ?_ | refine m_getg hg.1 rfl rfl rfl ?_)
    rw [hH]
    refine x_icm br_ge (fun h1 => absurd h1 (nI_ge hi (by omega))) (fun _ => ?_)
    repeat (first | refine x_kcg rfl ?_ | refine x_opp rfl rfl ?_ | refine x_go rfl ?_ | refine m_getg hg.1 rfl rfl rfl ?_)
    refine m_iald hg.2.2.1 (in7 hi7) ?_
    rw [nI_clamp (by omega)]
    refine x_ifc br_ge (fun h2 => ?_) (fun h2 => ?_)
    · repeat (first | refine x_kcg rfl ?_ | refine x_incg rfl rfl ?_ | refine x_opp rfl rfl ?_)
      refine x_goto ?_
      refine x_lvs [(0, .ref g), (1, .int (nI (i + 1)))] rfl rfl rfl ⟨rfl, rfl, trivial⟩ ?_
      refine hP (fun a ha => ?_)
      by_cases e : a = i
      · subst e
        exact decide_eq_false (fun h => h h2)
      · exact hall a (by omega)
    · repeat (first | refine x_kcg rfl ?_ | refine x_opp rfl rfl ?_ | refine x_go rfl ?_)
      refine x_zret (Or.inr rfl) ?_
      rw [anyB_t (i := i) (decide_eq_true h2) hi] at hq
      exact hq
theorem c_isUncut {H : Nat} (hg : gSh sh g c l sp re) (hH : M.1 g 5 = nI H) (hH7 : H ≤ 7) (hq : Q (some (.int (zz (!(anyB (gCut (M.1 l) (M.1 g 6)) H))))) (wm sh M)) : sm_E L xs (d + 1) 132 [.ref g] (wm sh M) Q := by
  refine e_intro rfl rfl ?_
  repeat (first | refine x_kcg rfl ?_ | refine x_incg rfl rfl ?_ | refine x_opp rfl rfl ?_)
  refine x_fall ?_
  refine x_lvs [(0, .ref g), (1, .int (nI 0))] rfl rfl rfl ⟨rfl, rfl, trivial⟩ ?_
  refine loop_dn (P := fun i => (∀ a, a < i → gCut (M.1 l) (M.1 g 6) a = false) → sm_X L xs d 132 1 (sm_code 132 1) [(0, .ref g), (1, .int (nI i))] [] (wm sh M) Q) H ?_ ?_ (fun a ha => absurd ha (Nat.not_lt_zero a))
  · intro hall
    repeat (first | refine x_kcg rfl ?_ | refine x_opp rfl rfl ?_ | refine x_go rfl ?_ | refine m_getg hg.1 rfl rfl rfl ?_)
    rw [hH]
    refine x_icm br_ge (fun _ => ?_) (fun h1 => absurd (nI_le (Nat.le_refl H) (by omega)) h1)
    repeat (first | refine x_kcg rfl ?_ | refine x_opp rfl rfl ?_ | refine x_go rfl ?_)
    refine x_zret (Or.inr rfl) ?_
    rw [anyB_f hall] at hq
    exact hq
  · intro i hi hP hall
    have hi7 : i < 7 := by omega
    repeat (first | refine x_kcg rfl ?_ | refine x_opp rfl rfl ?_ | refine x_go rfl ?_ | refine m_getg hg.1 rfl rfl rfl ?_)
    rw [hH]
    refine x_icm br_ge (fun h1 => absurd h1 (nI_ge hi (by omega))) (fun _ => ?_)
    repeat (first | refine x_kcg rfl ?_ | refine x_opp rfl rfl ?_ | refine x_go rfl ?_ | refine m_getg hg.1 rfl rfl rfl ?_)
    refine m_iald hg.2.2.1 (in7 hi7) ?_
    rw [nI_clamp (by omega)]
    repeat (first | refine x_kcg rfl ?_ | refine x_opp rfl rfl ?_ | refine x_go rfl ?_ | refine m_getg hg.1 rfl rfl rfl ?_)
    refine x_icm br_eq (fun h2 => ?_) (fun h2 => ?_)
    · repeat (first | refine x_kcg rfl ?_ | refine x_incg rfl rfl ?_ | refine x_opp rfl rfl ?_)
      refine x_goto ?_
      refine x_lvs [(0, .ref g), (1, .int (nI (i + 1)))] rfl rfl rfl ⟨rfl, rfl, trivial⟩ ?_
      refine hP (fun a ha => ?_)
      by_cases e : a = i
      · subst e
        exact decide_eq_false (fun h => h h2)
      · exact hall a (by omega)
    · repeat (first | refine x_kcg rfl ?_ | refine x_opp rfl rfl ?_ | refine x_go rfl ?_)
      refine x_zret (Or.inl rfl) ?_
      rw [anyB_t (i := i) (decide_eq_true h2) hi] at hq
      exact hq
/-- in how many entries a white square is -/
def gTh (h : Int32) (ln cs : Nat → Int32) (r k : Int32) : Int32 :=
  (if gJR h ln cs r k = true then 1 else if gJR h ln cs r (k - 1) = true then 1 else 0) + (if gJB h ln cs r k = true then 1 else if gJB h ln cs (r - 1) k = true then 1 else 0)
theorem c_entriesThrough {r k : Int32} (hg : gSh sh g c l sp re) (hk : gOK M g l) (hq : Q (some (.int (gTh (M.1 g 5) (M.1 l) (M.1 c) r k))) (wm sh M)) : sm_E L xs (d + 4) 117 [.ref g, .int r, .int k] (wm sh M) Q := by
  refine e_intro rfl rfl ?_
  have tail : ∀ n : Int32, (Q (some (.int (n + (if gJB (M.1 g 5) (M.1 l) (M.1 c) r k = true then 1 else if gJB (M.1 g 5) (M.1 l) (M.1 c) (r - 1) k = true then 1 else 0)))) (wm sh M)) → sm_X L xs (d + 3) 117 3 (sm_code 117 3) [(0, .ref g), (1, .int r), (2, .int k), (3, .int n)] [] (wm sh M) Q := by
    intro n hn
    repeat (first | refine x_kcg rfl ?_ | refine x_opp rfl rfl ?_ | refine x_go rfl ?_)
    refine m_callV hg.1 rfl rfl rfl (c_joinsBelow hg hk ?_)
    refine x_ifc br_nez (fun h1 => ?_) (fun h1 => ?_)
    · rw [if_pos h1] at hn
      repeat (first | refine x_kcg rfl ?_ | refine x_opp rfl rfl ?_ | refine x_go rfl ?_)
      exact x_iret rfl hn
    · rw [if_neg h1] at hn
      repeat (first | refine x_kcg rfl ?_ | refine x_opp rfl rfl ?_ | refine x_go rfl ?_)
      refine m_callV hg.1 rfl rfl rfl (c_joinsBelow hg hk ?_)
      refine x_ifc br_eqz (fun h2 => ?_) (fun h2 => ?_)
      · rw [if_neg (by rw [h2]; exact Bool.false_ne_true)] at hn
        repeat (first | refine x_kcg rfl ?_ | refine x_opp rfl rfl ?_ | refine x_go rfl ?_)
        refine x_iret rfl ?_
        rw [Int32.add_zero] at hn
        exact hn
      · rw [if_pos (nf_t h2)] at hn
        repeat (first | refine x_kcg rfl ?_ | refine x_opp rfl rfl ?_ | refine x_go rfl ?_)
        exact x_iret rfl hn
  unfold gTh at hq
  repeat (first | refine x_kcg rfl ?_ | refine x_opp rfl rfl ?_ | refine x_go rfl ?_)
  refine m_callV hg.1 rfl rfl rfl (c_joinsRight hg hk ?_)
  refine x_ifc br_nez (fun h1 => ?_) (fun h1 => ?_)
  · rw [if_pos h1] at hq
    repeat (first | refine x_kcg rfl ?_ | refine x_incg rfl rfl ?_ | refine x_opp rfl rfl ?_)
    refine x_fall ?_
    refine x_lvs [(0, .ref g), (1, .int r), (2, .int k), (3, .int 1)] rfl rfl rfl ⟨rfl, rfl, rfl, rfl, trivial⟩ ?_
    exact tail 1 hq
  · rw [if_neg h1] at hq
    repeat (first | refine x_kcg rfl ?_ | refine x_opp rfl rfl ?_ | refine x_go rfl ?_)
    refine m_callV hg.1 rfl rfl rfl (c_joinsRight hg hk ?_)
    refine x_ifc br_eqz (fun h2 => ?_) (fun h2 => ?_)
    · rw [if_neg (by rw [h2]; exact Bool.false_ne_true)] at hq
      refine x_lvs [(0, .ref g), (1, .int r), (2, .int k), (3, .int 0)] rfl rfl rfl ⟨rfl, rfl, rfl, rfl, trivial⟩ ?_
      exact tail 0 hq
    · rw [if_pos (nf_t h2)] at hq
      repeat (first | refine x_kcg rfl ?_ | refine x_incg rfl rfl ?_ | refine x_opp rfl rfl ?_)
      refine x_fall ?_
      refine x_lvs [(0, .ref g), (1, .int r), (2, .int k), (3, .int 1)] rfl rfl rfl ⟨rfl, rfl, rfl, rfl, trivial⟩ ?_
      exact tail 1 hq
end G4
end
section
/-! printed by wip/gen3.py: the shapes of the world behind the two constructors (places as the constructors make them) -/
abbrev modelS : sh_T := fun f g _ => .inr (6, [.ref 66, .ref 67, .ref 68, .ref 69, .ref 70, .ref 71, .ref 72, .ref 73, .ref 74, .int (f 9), .ref 75, .ref 76, .ref 77, .ref 78, .ref 79, .ref 80, .ref 81, .ref 82, .ref 83, .int (f 19), .ref 84, .ref 85, .int (f 22), .int (f 23), .int (f 24), .ref 86, .ref 87, .ref 88, .ref 89, .ref 90, .long (g 30), .int (f 31), .int (f 32), .ref 91, .ref 92, .ref 93, .ref 94, .ref 95, .int (f 38), .int (f 39), .ref 96, .ref 97, .ref 98, .ref 99, .ref 100, .ref 101, .ref 102, .ref 103, .ref 104, .ref 105, .ref 106, .ref 107, .ref 108, .int (f 53), .int (f 54), .int (f 55), .int (f 56), .ref 109, .int (f 58), .int (f 59), .ref 110, .int (f 61), .ref 111, .ref 112, .ref 113])
def sh0 : List sh_T := [deskS 1 4 7 8 13 28 43 44, notesS 2 3, arrI 100, arrI 6, shelfS 1 5 6, arrW 16, arrI 16, arrG 4, tableS 9 10 11 12, arrI 42, arrZ 42, arrI 42,
  arrI 42, searchS 1 4 14 19 20 21 22 23 24 25 26 27, tableS 15 16 17 18, arrI 42, arrZ 42, arrI 42, arrI 42, arrL 1680, arrI 42, arrI 40, arrI 42, arrI 49,
  arrI 42, arrL 42, arrL 42, arrL 42, searchS 1 4 29 34 35 36 37 38 39 40 41 42, tableS 30 31 32 33, arrI 42, arrZ 42, arrI 42, arrI 42, arrL 1680, arrI 42,
  arrI 40, arrI 42, arrI 49, arrI 42, arrL 42, arrL 42, arrL 42, arrL 126, arrI 4, gridS 46 47 48 49, arrI 49, arrI 7,
  arrI 49, arrI 49, gridS 51 52 53 54, arrI 49, arrI 7, arrI 49, arrI 49, gridS 56 57 58 59, arrI 49, arrI 7, arrI 49, arrI 49,
  gridS 61 62 63 64, arrI 49, arrI 7, arrI 49, arrI 49, modelS, arrZ 4, arrI 4, arrI 4, arrI 28, arrI 196, arrZ 196,
  arrZ 196, arrI 4, arrI 4, arrI 16, arrI 16, arrI 16, arrL 16, arrI 16, arrZ 16, arrI 16, arrL 640, arrI 640,
  arrI 6, arrI 100, arrI 40, arrI 40, arrL 40, arrI 40, arrL 40, arrI 48, arrI 48, arrZ 48, arrI 48, arrI 48,
  arrI 2, arrI 2, arrI 2, arrL 3840, arrI 3840, arrI 96, arrI 96, arrI 96, arrL 96, arrI 96, arrI 98, arrI 672,
  arrI 96, arrL 144, arrI 49, arrI 49, arrZ 49, arrZ 49]
theorem s_0 (dy : List sh_T) : (sh0 ++ dy)[0]? = some (deskS 1 4 7 8 13 28 43 44) := rfl
theorem s_1 (dy : List sh_T) : (sh0 ++ dy)[1]? = some (notesS 2 3) := rfl
theorem s_2 (dy : List sh_T) : (sh0 ++ dy)[2]? = some (arrI 100) := rfl
theorem s_3 (dy : List sh_T) : (sh0 ++ dy)[3]? = some (arrI 6) := rfl
theorem s_4 (dy : List sh_T) : (sh0 ++ dy)[4]? = some (shelfS 1 5 6) := rfl
theorem s_5 (dy : List sh_T) : (sh0 ++ dy)[5]? = some (arrW 16) := rfl
theorem s_6 (dy : List sh_T) : (sh0 ++ dy)[6]? = some (arrI 16) := rfl
theorem s_7 (dy : List sh_T) : (sh0 ++ dy)[7]? = some (arrG 4) := rfl
theorem s_8 (dy : List sh_T) : (sh0 ++ dy)[8]? = some (tableS 9 10 11 12) := rfl
theorem s_9 (dy : List sh_T) : (sh0 ++ dy)[9]? = some (arrI 42) := rfl
theorem s_10 (dy : List sh_T) : (sh0 ++ dy)[10]? = some (arrZ 42) := rfl
theorem s_11 (dy : List sh_T) : (sh0 ++ dy)[11]? = some (arrI 42) := rfl
theorem s_12 (dy : List sh_T) : (sh0 ++ dy)[12]? = some (arrI 42) := rfl
theorem s_13 (dy : List sh_T) : (sh0 ++ dy)[13]? = some (searchS 1 4 14 19 20 21 22 23 24 25 26 27) := rfl
theorem s_14 (dy : List sh_T) : (sh0 ++ dy)[14]? = some (tableS 15 16 17 18) := rfl
theorem s_15 (dy : List sh_T) : (sh0 ++ dy)[15]? = some (arrI 42) := rfl
theorem s_16 (dy : List sh_T) : (sh0 ++ dy)[16]? = some (arrZ 42) := rfl
theorem s_17 (dy : List sh_T) : (sh0 ++ dy)[17]? = some (arrI 42) := rfl
theorem s_18 (dy : List sh_T) : (sh0 ++ dy)[18]? = some (arrI 42) := rfl
theorem s_19 (dy : List sh_T) : (sh0 ++ dy)[19]? = some (arrL 1680) := rfl
theorem s_20 (dy : List sh_T) : (sh0 ++ dy)[20]? = some (arrI 42) := rfl
theorem s_21 (dy : List sh_T) : (sh0 ++ dy)[21]? = some (arrI 40) := rfl
theorem s_22 (dy : List sh_T) : (sh0 ++ dy)[22]? = some (arrI 42) := rfl
theorem s_23 (dy : List sh_T) : (sh0 ++ dy)[23]? = some (arrI 49) := rfl
theorem s_24 (dy : List sh_T) : (sh0 ++ dy)[24]? = some (arrI 42) := rfl
theorem s_25 (dy : List sh_T) : (sh0 ++ dy)[25]? = some (arrL 42) := rfl
theorem s_26 (dy : List sh_T) : (sh0 ++ dy)[26]? = some (arrL 42) := rfl
theorem s_27 (dy : List sh_T) : (sh0 ++ dy)[27]? = some (arrL 42) := rfl
theorem s_28 (dy : List sh_T) : (sh0 ++ dy)[28]? = some (searchS 1 4 29 34 35 36 37 38 39 40 41 42) := rfl
theorem s_29 (dy : List sh_T) : (sh0 ++ dy)[29]? = some (tableS 30 31 32 33) := rfl
theorem s_30 (dy : List sh_T) : (sh0 ++ dy)[30]? = some (arrI 42) := rfl
theorem s_31 (dy : List sh_T) : (sh0 ++ dy)[31]? = some (arrZ 42) := rfl
theorem s_32 (dy : List sh_T) : (sh0 ++ dy)[32]? = some (arrI 42) := rfl
theorem s_33 (dy : List sh_T) : (sh0 ++ dy)[33]? = some (arrI 42) := rfl
theorem s_34 (dy : List sh_T) : (sh0 ++ dy)[34]? = some (arrL 1680) := rfl
theorem s_35 (dy : List sh_T) : (sh0 ++ dy)[35]? = some (arrI 42) := rfl
theorem s_36 (dy : List sh_T) : (sh0 ++ dy)[36]? = some (arrI 40) := rfl
theorem s_37 (dy : List sh_T) : (sh0 ++ dy)[37]? = some (arrI 42) := rfl
theorem s_38 (dy : List sh_T) : (sh0 ++ dy)[38]? = some (arrI 49) := rfl
theorem s_39 (dy : List sh_T) : (sh0 ++ dy)[39]? = some (arrI 42) := rfl
theorem s_40 (dy : List sh_T) : (sh0 ++ dy)[40]? = some (arrL 42) := rfl
theorem s_41 (dy : List sh_T) : (sh0 ++ dy)[41]? = some (arrL 42) := rfl
theorem s_42 (dy : List sh_T) : (sh0 ++ dy)[42]? = some (arrL 42) := rfl
theorem s_43 (dy : List sh_T) : (sh0 ++ dy)[43]? = some (arrL 126) := rfl
theorem s_44 (dy : List sh_T) : (sh0 ++ dy)[44]? = some (arrI 4) := rfl
theorem s_45 (dy : List sh_T) : (sh0 ++ dy)[45]? = some (gridS 46 47 48 49) := rfl
theorem s_46 (dy : List sh_T) : (sh0 ++ dy)[46]? = some (arrI 49) := rfl
theorem s_47 (dy : List sh_T) : (sh0 ++ dy)[47]? = some (arrI 7) := rfl
theorem s_48 (dy : List sh_T) : (sh0 ++ dy)[48]? = some (arrI 49) := rfl
theorem s_49 (dy : List sh_T) : (sh0 ++ dy)[49]? = some (arrI 49) := rfl
theorem s_50 (dy : List sh_T) : (sh0 ++ dy)[50]? = some (gridS 51 52 53 54) := rfl
theorem s_51 (dy : List sh_T) : (sh0 ++ dy)[51]? = some (arrI 49) := rfl
theorem s_52 (dy : List sh_T) : (sh0 ++ dy)[52]? = some (arrI 7) := rfl
theorem s_53 (dy : List sh_T) : (sh0 ++ dy)[53]? = some (arrI 49) := rfl
theorem s_54 (dy : List sh_T) : (sh0 ++ dy)[54]? = some (arrI 49) := rfl
theorem s_55 (dy : List sh_T) : (sh0 ++ dy)[55]? = some (gridS 56 57 58 59) := rfl
theorem s_56 (dy : List sh_T) : (sh0 ++ dy)[56]? = some (arrI 49) := rfl
theorem s_57 (dy : List sh_T) : (sh0 ++ dy)[57]? = some (arrI 7) := rfl
theorem s_58 (dy : List sh_T) : (sh0 ++ dy)[58]? = some (arrI 49) := rfl
theorem s_59 (dy : List sh_T) : (sh0 ++ dy)[59]? = some (arrI 49) := rfl
theorem s_60 (dy : List sh_T) : (sh0 ++ dy)[60]? = some (gridS 61 62 63 64) := rfl
theorem s_61 (dy : List sh_T) : (sh0 ++ dy)[61]? = some (arrI 49) := rfl
theorem s_62 (dy : List sh_T) : (sh0 ++ dy)[62]? = some (arrI 7) := rfl
theorem s_63 (dy : List sh_T) : (sh0 ++ dy)[63]? = some (arrI 49) := rfl
theorem s_64 (dy : List sh_T) : (sh0 ++ dy)[64]? = some (arrI 49) := rfl
theorem s_65 (dy : List sh_T) : (sh0 ++ dy)[65]? = some (modelS) := rfl
theorem s_66 (dy : List sh_T) : (sh0 ++ dy)[66]? = some (arrZ 4) := rfl
theorem s_67 (dy : List sh_T) : (sh0 ++ dy)[67]? = some (arrI 4) := rfl
theorem s_68 (dy : List sh_T) : (sh0 ++ dy)[68]? = some (arrI 4) := rfl
theorem s_69 (dy : List sh_T) : (sh0 ++ dy)[69]? = some (arrI 28) := rfl
theorem s_70 (dy : List sh_T) : (sh0 ++ dy)[70]? = some (arrI 196) := rfl
theorem s_71 (dy : List sh_T) : (sh0 ++ dy)[71]? = some (arrZ 196) := rfl
theorem s_72 (dy : List sh_T) : (sh0 ++ dy)[72]? = some (arrZ 196) := rfl
theorem s_73 (dy : List sh_T) : (sh0 ++ dy)[73]? = some (arrI 4) := rfl
theorem s_74 (dy : List sh_T) : (sh0 ++ dy)[74]? = some (arrI 4) := rfl
theorem s_75 (dy : List sh_T) : (sh0 ++ dy)[75]? = some (arrI 16) := rfl
theorem s_76 (dy : List sh_T) : (sh0 ++ dy)[76]? = some (arrI 16) := rfl
theorem s_77 (dy : List sh_T) : (sh0 ++ dy)[77]? = some (arrI 16) := rfl
theorem s_78 (dy : List sh_T) : (sh0 ++ dy)[78]? = some (arrL 16) := rfl
theorem s_79 (dy : List sh_T) : (sh0 ++ dy)[79]? = some (arrI 16) := rfl
theorem s_80 (dy : List sh_T) : (sh0 ++ dy)[80]? = some (arrZ 16) := rfl
theorem s_81 (dy : List sh_T) : (sh0 ++ dy)[81]? = some (arrI 16) := rfl
theorem s_82 (dy : List sh_T) : (sh0 ++ dy)[82]? = some (arrL 640) := rfl
theorem s_83 (dy : List sh_T) : (sh0 ++ dy)[83]? = some (arrI 640) := rfl
theorem s_84 (dy : List sh_T) : (sh0 ++ dy)[84]? = some (arrI 6) := rfl
theorem s_85 (dy : List sh_T) : (sh0 ++ dy)[85]? = some (arrI 100) := rfl
theorem s_86 (dy : List sh_T) : (sh0 ++ dy)[86]? = some (arrI 40) := rfl
theorem s_87 (dy : List sh_T) : (sh0 ++ dy)[87]? = some (arrI 40) := rfl
theorem s_88 (dy : List sh_T) : (sh0 ++ dy)[88]? = some (arrL 40) := rfl
theorem s_89 (dy : List sh_T) : (sh0 ++ dy)[89]? = some (arrI 40) := rfl
theorem s_90 (dy : List sh_T) : (sh0 ++ dy)[90]? = some (arrL 40) := rfl
theorem s_91 (dy : List sh_T) : (sh0 ++ dy)[91]? = some (arrI 48) := rfl
theorem s_92 (dy : List sh_T) : (sh0 ++ dy)[92]? = some (arrI 48) := rfl
theorem s_93 (dy : List sh_T) : (sh0 ++ dy)[93]? = some (arrZ 48) := rfl
theorem s_94 (dy : List sh_T) : (sh0 ++ dy)[94]? = some (arrI 48) := rfl
theorem s_95 (dy : List sh_T) : (sh0 ++ dy)[95]? = some (arrI 48) := rfl
theorem s_96 (dy : List sh_T) : (sh0 ++ dy)[96]? = some (arrI 2) := rfl
theorem s_97 (dy : List sh_T) : (sh0 ++ dy)[97]? = some (arrI 2) := rfl
theorem s_98 (dy : List sh_T) : (sh0 ++ dy)[98]? = some (arrI 2) := rfl
theorem s_99 (dy : List sh_T) : (sh0 ++ dy)[99]? = some (arrL 3840) := rfl
theorem s_100 (dy : List sh_T) : (sh0 ++ dy)[100]? = some (arrI 3840) := rfl
theorem s_101 (dy : List sh_T) : (sh0 ++ dy)[101]? = some (arrI 96) := rfl
theorem s_102 (dy : List sh_T) : (sh0 ++ dy)[102]? = some (arrI 96) := rfl
theorem s_103 (dy : List sh_T) : (sh0 ++ dy)[103]? = some (arrI 96) := rfl
theorem s_104 (dy : List sh_T) : (sh0 ++ dy)[104]? = some (arrL 96) := rfl
theorem s_105 (dy : List sh_T) : (sh0 ++ dy)[105]? = some (arrI 96) := rfl
theorem s_106 (dy : List sh_T) : (sh0 ++ dy)[106]? = some (arrI 98) := rfl
theorem s_107 (dy : List sh_T) : (sh0 ++ dy)[107]? = some (arrI 672) := rfl
theorem s_108 (dy : List sh_T) : (sh0 ++ dy)[108]? = some (arrI 96) := rfl
theorem s_109 (dy : List sh_T) : (sh0 ++ dy)[109]? = some (arrL 144) := rfl
theorem s_110 (dy : List sh_T) : (sh0 ++ dy)[110]? = some (arrI 49) := rfl
theorem s_111 (dy : List sh_T) : (sh0 ++ dy)[111]? = some (arrI 49) := rfl
theorem s_112 (dy : List sh_T) : (sh0 ++ dy)[112]? = some (arrZ 49) := rfl
theorem s_113 (dy : List sh_T) : (sh0 ++ dy)[113]? = some (arrZ 49) := rfl
theorem sh0_len : sh0.length = 114 := rfl
theorem gsh_at (dy : List sh_T) : ∀ k, k < 4 → gSh (sh0 ++ dy) (45 + 5 * k) (46 + 5 * k) (47 + 5 * k) (48 + 5 * k) (49 + 5 * k) := by
  intro k hk
  rcases (show k = 0 ∨ k = 1 ∨ k = 2 ∨ k = 3 by omega) with rfl | rfl | rfl | rfl
  · exact ⟨rfl, rfl, rfl, rfl, rfl, by decide⟩
  · exact ⟨rfl, rfl, rfl, rfl, rfl, by decide⟩
  · exact ⟨rfl, rfl, rfl, rfl, rfl, by decide⟩
  · exact ⟨rfl, rfl, rfl, rfl, rfl, by decide⟩
end
section
/-! the grid: more counting, the digest -/
def gEr (h : Int32) (ln cs : Nat → Int32) (v : Int32) (i : Nat) : Nat → Bool := fun j => gWh h ln cs (nI i) (nI j) && decide (gTh h ln cs (nI i) (nI j) = v)
def gEN (H : Nat) (h : Int32) (ln cs : Nat → Int32) (v : Int32) : Nat := sumN (fun i => cnt (gEr h ln cs v i) (ln i).toNatClampNeg) H
def gSN (H : Nat) (ln : Nat → Int32) : Nat := sumN (fun i => (ln i).toNatClampNeg) H
theorem max0 {x : Int32} (hm : -1 ≤ x) (h7 : x ≤ 7) : (if x < 0 then 0 else x) = nI x.toNatClampNeg := by
  rcases ln7 hm h7 with rfl | ⟨n, hn, rfl⟩
  · decide
  · rw [nI_clamp (by omega), if_neg (nI_pos (by omega))]
def dRow (cs : Nat → Int32) (i : Nat) (d0 : Int64) : Nat → Int64
  | 0 => d0
  | j + 1 => 31 * dRow cs i d0 j + (cs (i * 7 + j)).toInt64
def dAll (ln cs : Nat → Int32) : Nat → Int64
  | 0 => 7
  | i + 1 => dRow cs i (31 * dAll ln cs i + (ln i).toInt64) (ln i).toNatClampNeg
def any2 (p : Nat → Nat → Bool) (W : Nat) (H : Nat) : Bool := anyB (fun i => anyB (p i) W) H
def gHt (h w : Int32) (ln cs : Nat → Int32) (i j : Nat) : Bool := gWh h ln cs (nI i) (nI j) && !(gWh h ln cs (h - 1 - nI i) (w - 1 - nI j))
section G5
variable {L : Nat} {xs : Nat → Int32} {d : Nat} {sh : List sh_T} {M : mm_T} {Q : Option Value → sm_W → Prop} {g c l sp re : Nat}
theorem c_letters {H : Nat} (hg : gSh sh g c l sp re) (hk : gOK M g l) (hH : M.1 g 5 = nI H) (hH7 : H ≤ 7) (hq : Q (some (.int (nI (gLN H (M.1 l) (M.1 c))))) (wm sh M)) : sm_E L xs (d + 2) 123 [.ref g] (wm sh M) Q := by
  have hl := gOK_7 hk
  refine e_intro rfl rfl ?_
  repeat (first | refine x_kcg rfl ?_ | refine x_incg rfl rfl ?_ | refine x_opp rfl rfl ?_)
  refine x_fall ?_
  refine x_lvs [(0, .ref g), (1, .int (nI 0)), (2, .int (nI 0))] rfl rfl rfl ⟨rfl, rfl, rfl, trivial⟩ ?_
  refine loop_dn (P := fun i => sm_X L xs (d + 1) 123 1 (sm_code 123 1) [(0, .ref g), (1, .int (nI (gLN i (M.1 l) (M.1 c)))), (2, .int (nI i))] [] (wm sh M) Q) H ?_ ?_
  · repeat (first | refine x_kcg rfl ?_ | refine x_opp rfl rfl ?_ | refine x_go rfl ?_ | refine m_getg hg.1 rfl rfl rfl ?_)
    rw [hH]
    refine x_icm br_ge (fun _ => ?_) (fun h1 => absurd (nI_le (Nat.le_refl H) (by omega)) h1)
    repeat (first | refine x_kcg rfl ?_ | refine x_opp rfl rfl ?_ | refine x_go rfl ?_)
    exact x_iret rfl hq
  · intro i hi hP
    have hi7 : i < 7 := by omega
    repeat (first | refine x_kcg rfl ?_ | refine x_opp rfl rfl ?_ | refine x_go rfl ?_ | refine m_getg hg.1 rfl rfl rfl ?_)
    rw [hH]
    refine x_icm br_ge (fun h1 => absurd h1 (nI_ge hi (by omega))) (fun _ => ?_)
    repeat (first | refine x_kcg rfl ?_ | refine x_incg rfl rfl ?_ | refine x_opp rfl rfl ?_)
    refine x_fall ?_
    refine x_lvs [(0, .ref g), (1, .int (nI (gLN i (M.1 l) (M.1 c) + cnt (gLr (M.1 c) i) 0))), (2, .int (nI i)), (3, .int (nI 0))] rfl rfl rfl ⟨rfl, rfl, rfl, rfl, trivial⟩ ?_
    refine loop_dn (P := fun j => sm_X L xs (d + 1) 123 3 (sm_code 123 3) [(0, .ref g), (1, .int (nI (gLN i (M.1 l) (M.1 c) + cnt (gLr (M.1 c) i) j))), (2, .int (nI i)), (3, .int (nI j))] [] (wm sh M) Q) (M.1 l i).toNatClampNeg ?_ ?_
    · have hc7 := ln_cl (hl i hi7).1 (hl i hi7).2
      repeat (first | refine x_kcg rfl ?_ | refine x_opp rfl rfl ?_ | refine x_go rfl ?_ | refine m_getg hg.1 rfl rfl rfl ?_)
      refine m_iald hg.2.2.1 (in7 hi7) ?_
      rw [nI_clamp (by omega)]
      refine x_icm br_ge (fun _ => ?_) (fun h1 => absurd (ln_ge (hl i hi7).1 (hl i hi7).2 (Nat.le_refl _) hc7) h1)
      repeat (first | refine x_kcg rfl ?_ | refine x_incg rfl rfl ?_ | refine x_opp rfl rfl ?_)
      refine x_goto ?_
      refine x_lvs [(0, .ref g), (1, .int (nI (gLN (i + 1) (M.1 l) (M.1 c)))), (2, .int (nI (i + 1)))] rfl rfl rfl ⟨rfl, rfl, rfl, trivial⟩ ?_
      exact hP
    · intro j hj hP2
      have hj7 : j < 7 := Nat.lt_of_lt_of_le hj (ln_cl (hl i hi7).1 (hl i hi7).2)
      have no : gLr (M.1 c) i j = false → sm_X L xs (d + 1) 123 7 (sm_code 123 7) [(0, .ref g), (1, .int (nI (gLN i (M.1 l) (M.1 c) + cnt (gLr (M.1 c) i) j))), (2, .int (nI i)), (3, .int (nI j))] [] (wm sh M) Q := by
        intro hf
        rw [cnt_f hf] at hP2
        repeat (first | refine x_kcg rfl ?_ | refine x_incg rfl rfl ?_ | refine x_opp rfl rfl ?_)
        refine x_goto ?_
        refine x_lvs [(0, .ref g), (1, .int (nI (gLN i (M.1 l) (M.1 c) + cnt (gLr (M.1 c) i) j))), (2, .int (nI i)), (3, .int (nI (j + 1)))] rfl rfl rfl ⟨rfl, rfl, rfl, rfl, trivial⟩ ?_
        exact hP2
      repeat (first | refine x_kcg rfl ?_ | refine x_opp rfl rfl ?_ | refine x_go rfl ?_ | refine m_getg hg.1 rfl rfl rfl ?_)
      refine m_iald hg.2.2.1 (in7 hi7) ?_
      rw [nI_clamp (by omega)]
      refine x_icm br_ge (fun h1 => absurd h1 (ln_lt (hl i hi7).1 (hl i hi7).2 hj)) (fun _ => ?_)
      repeat (first | refine x_kcg rfl ?_ | refine x_opp rfl rfl ?_ | refine x_go rfl ?_ | refine m_getg hg.1 rfl rfl rfl ?_)
      refine m_callV hg.1 rfl rfl rfl (c_signOf hg.1 hg.2.1 (in49 hi7 hj7) ?_)
      rw [mul7, nI_clamp (by omega)]
      repeat (first | refine x_kcg rfl ?_ | refine x_opp rfl rfl ?_ | refine x_go rfl ?_)
      refine x_icm br_lt (fun h2 => ?_) (fun h2 => ?_)
      · refine no ?_
        unfold gLr
        rw [decide_eq_false (Int32.not_le.mpr h2)]
        rfl
      · repeat (first | refine x_kcg rfl ?_ | refine x_opp rfl rfl ?_ | refine x_go rfl ?_ | refine m_getg hg.1 rfl rfl rfl ?_)
        refine m_callV hg.1 rfl rfl rfl (c_signOf hg.1 hg.2.1 (in49 hi7 hj7) ?_)
        rw [mul7, nI_clamp (by omega)]
        repeat (first | refine x_kcg rfl ?_ | refine x_opp rfl rfl ?_ | refine x_go rfl ?_)
        refine x_icm br_gt (fun h3 => ?_) (fun h3 => ?_)
        · refine no ?_
          unfold gLr
          rw [decide_eq_false (Int32.not_le.mpr h3), Bool.and_false]
        · have ht : gLr (M.1 c) i j = true := by
            unfold gLr
            rw [decide_eq_true (Int32.not_lt.mp h2), decide_eq_true (Int32.not_lt.mp h3)]
            rfl
          rw [cnt_t ht] at hP2
          repeat (first | refine x_kcg rfl ?_ | refine x_incg rfl rfl ?_ | refine x_opp rfl rfl ?_)
          refine x_fall ?_
          repeat (first | refine x_kcg rfl ?_ | refine x_incg rfl rfl ?_ | refine x_opp rfl rfl ?_)
          refine x_goto ?_
          refine x_lvs [(0, .ref g), (1, .int (nI (gLN i (M.1 l) (M.1 c) + (cnt (gLr (M.1 c) i) j + 1)))), (2, .int (nI i)), (3, .int (nI (j + 1)))] rfl rfl rfl ⟨rfl, rfl, rfl, rfl, trivial⟩ ?_
          exact hP2
theorem c_whitesInEntries {H : Nat} {v : Int32} (hg : gSh sh g c l sp re) (hk : gOK M g l) (hH : M.1 g 5 = nI H) (hH7 : H ≤ 7) (hq : Q (some (.int (nI (gEN H (M.1 g 5) (M.1 l) (M.1 c) v)))) (wm sh M)) : sm_E L xs (d + 5) 116 [.ref g, .int v] (wm sh M) Q := by
  have hl := gOK_7 hk
  refine e_intro rfl rfl ?_
  repeat (first | refine x_kcg rfl ?_ | refine x_incg rfl rfl ?_ | refine x_opp rfl rfl ?_)
  refine x_fall ?_
  refine x_lvs [(0, .ref g), (1, .int v), (2, .int (nI 0)), (3, .int (nI 0))] rfl rfl rfl ⟨rfl, rfl, rfl, rfl, trivial⟩ ?_
  refine loop_dn (P := fun i => sm_X L xs (d + 4) 116 1 (sm_code 116 1) [(0, .ref g), (1, .int v), (2, .int (nI (gEN i (M.1 g 5) (M.1 l) (M.1 c) v))), (3, .int (nI i))] [] (wm sh M) Q) H ?_ ?_
  · repeat (first | refine x_kcg rfl ?_ | refine x_opp rfl rfl ?_ | refine x_go rfl ?_ | refine m_getg hg.1 rfl rfl rfl ?_)
    rw [hH]
    refine x_icm br_ge (fun _ => ?_) (fun h1 => absurd (nI_le (Nat.le_refl H) (by omega)) h1)
    repeat (first | refine x_kcg rfl ?_ | refine x_opp rfl rfl ?_ | refine x_go rfl ?_)
    rw [hH] at hq
    exact x_iret rfl hq
  · intro i hi hP
    have hi7 : i < 7 := by omega
    repeat (first | refine x_kcg rfl ?_ | refine x_opp rfl rfl ?_ | refine x_go rfl ?_ | refine m_getg hg.1 rfl rfl rfl ?_)
    refine x_icm br_ge (fun h1 => absurd h1 (by rw [hH]; exact nI_ge hi (by omega))) (fun _ => ?_)
    repeat (first | refine x_kcg rfl ?_ | refine x_incg rfl rfl ?_ | refine x_opp rfl rfl ?_)
    refine x_fall ?_
    refine x_lvs [(0, .ref g), (1, .int v), (2, .int (nI (gEN i (M.1 g 5) (M.1 l) (M.1 c) v + cnt (gEr (M.1 g 5) (M.1 l) (M.1 c) v i) 0))), (3, .int (nI i)), (4, .int (nI 0))] rfl rfl rfl ⟨rfl, rfl, rfl, rfl, rfl, trivial⟩ ?_
    refine loop_dn (P := fun j => sm_X L xs (d + 4) 116 3 (sm_code 116 3) [(0, .ref g), (1, .int v), (2, .int (nI (gEN i (M.1 g 5) (M.1 l) (M.1 c) v + cnt (gEr (M.1 g 5) (M.1 l) (M.1 c) v i) j))), (3, .int (nI i)), (4, .int (nI j))] [] (wm sh M) Q) (M.1 l i).toNatClampNeg ?_ ?_
    · have hc7 := ln_cl (hl i hi7).1 (hl i hi7).2
      repeat (first | refine x_kcg rfl ?_ | refine x_opp rfl rfl ?_ | refine x_go rfl ?_ | refine m_getg hg.1 rfl rfl rfl ?_)
      refine m_iald hg.2.2.1 (in7 hi7) ?_
      rw [nI_clamp (by omega)]
      refine x_icm br_ge (fun _ => ?_) (fun h1 => absurd (ln_ge (hl i hi7).1 (hl i hi7).2 (Nat.le_refl _) hc7) h1)
      repeat (first | refine x_kcg rfl ?_ | refine x_incg rfl rfl ?_ | refine x_opp rfl rfl ?_)
      refine x_goto ?_
      refine x_lvs [(0, .ref g), (1, .int v), (2, .int (nI (gEN (i + 1) (M.1 g 5) (M.1 l) (M.1 c) v))), (3, .int (nI (i + 1)))] rfl rfl rfl ⟨rfl, rfl, rfl, rfl, trivial⟩ ?_
      exact hP
    · intro j hj hP2
      have hj7 : j < 7 := Nat.lt_of_lt_of_le hj (ln_cl (hl i hi7).1 (hl i hi7).2)
      have no : gEr (M.1 g 5) (M.1 l) (M.1 c) v i j = false → sm_X L xs (d + 4) 116 7 (sm_code 116 7) [(0, .ref g), (1, .int v), (2, .int (nI (gEN i (M.1 g 5) (M.1 l) (M.1 c) v + cnt (gEr (M.1 g 5) (M.1 l) (M.1 c) v i) j))), (3, .int (nI i)), (4, .int (nI j))] [] (wm sh M) Q := by
        intro hf
        rw [cnt_f hf] at hP2
        repeat (first | refine x_kcg rfl ?_ | refine x_incg rfl rfl ?_ | refine x_opp rfl rfl ?_)
        refine x_goto ?_
        refine x_lvs [(0, .ref g), (1, .int v), (2, .int (nI (gEN i (M.1 g 5) (M.1 l) (M.1 c) v + cnt (gEr (M.1 g 5) (M.1 l) (M.1 c) v i) j))), (3, .int (nI i)), (4, .int (nI (j + 1)))] rfl rfl rfl ⟨rfl, rfl, rfl, rfl, rfl, trivial⟩ ?_
        exact hP2
      repeat (first | refine x_kcg rfl ?_ | refine x_opp rfl rfl ?_ | refine x_go rfl ?_ | refine m_getg hg.1 rfl rfl rfl ?_)
      refine m_iald hg.2.2.1 (in7 hi7) ?_
      rw [nI_clamp (by omega)]
      refine x_icm br_ge (fun h1 => absurd h1 (ln_lt (hl i hi7).1 (hl i hi7).2 hj)) (fun _ => ?_)
      repeat (first | refine x_kcg rfl ?_ | refine x_opp rfl rfl ?_ | refine x_go rfl ?_ | refine m_getg hg.1 rfl rfl rfl ?_)
      refine m_callV hg.1 rfl rfl rfl (c_white hg hk ?_)
      refine x_ifc br_eqz (fun h2 => ?_) (fun h2 => ?_)
      · refine no ?_
        unfold gEr
        rw [h2]
        rfl
      · repeat (first | refine x_kcg rfl ?_ | refine x_opp rfl rfl ?_ | refine x_go rfl ?_ | refine m_getg hg.1 rfl rfl rfl ?_)
        refine m_callV hg.1 rfl rfl rfl (c_entriesThrough hg hk ?_)
        repeat (first | refine x_kcg rfl ?_ | refine x_opp rfl rfl ?_ | refine x_go rfl ?_)
        refine x_icm br_ne (fun h3 => ?_) (fun h3 => ?_)
        · refine no ?_
          unfold gEr
          rw [decide_eq_false h3, Bool.and_false]
        · have ht : gEr (M.1 g 5) (M.1 l) (M.1 c) v i j = true := by
            unfold gEr
            rw [nf_t h2, decide_eq_true (Decidable.not_not.mp h3)]
            rfl
          rw [cnt_t ht] at hP2
          repeat (first | refine x_kcg rfl ?_ | refine x_incg rfl rfl ?_ | refine x_opp rfl rfl ?_)
          refine x_fall ?_
          repeat (first | refine x_kcg rfl ?_ | refine x_incg rfl rfl ?_ | refine x_opp rfl rfl ?_)
          refine x_goto ?_
          refine x_lvs [(0, .ref g), (1, .int v), (2, .int (nI (gEN i (M.1 g 5) (M.1 l) (M.1 c) v + (cnt (gEr (M.1 g 5) (M.1 l) (M.1 c) v i) j + 1)))), (3, .int (nI i)), (4, .int (nI (j + 1)))] rfl rfl rfl ⟨rfl, rfl, rfl, rfl, rfl, trivial⟩ ?_
          exact hP2
theorem c_squares {H : Nat} (hg : gSh sh g c l sp re) (hk : gOK M g l) (hH : M.1 g 5 = nI H) (hH7 : H ≤ 7) (hq : Q (some (.int (nI (gSN H (M.1 l))))) (wm sh M)) : sm_E L xs (d + 2) 113 [.ref g] (wm sh M) Q := by
  have hl := gOK_7 hk
  refine e_intro rfl rfl ?_
  repeat (first | refine x_kcg rfl ?_ | refine x_incg rfl rfl ?_ | refine x_opp rfl rfl ?_)
  refine x_fall ?_
  refine x_lvs [(0, .ref g), (1, .int (nI 0)), (2, .int (nI 0))] rfl rfl rfl ⟨rfl, rfl, rfl, trivial⟩ ?_
  refine loop_dn (P := fun i => sm_X L xs (d + 1) 113 1 (sm_code 113 1) [(0, .ref g), (1, .int (nI (gSN i (M.1 l)))), (2, .int (nI i))] [] (wm sh M) Q) H ?_ ?_
  · repeat (first | refine x_kcg rfl ?_ | refine x_opp rfl rfl ?_ | refine x_go rfl ?_ | refine m_getg hg.1 rfl rfl rfl ?_)
    rw [hH]
    refine x_icm br_ge (fun _ => ?_) (fun h1 => absurd (nI_le (Nat.le_refl H) (by omega)) h1)
    repeat (first | refine x_kcg rfl ?_ | refine x_opp rfl rfl ?_ | refine x_go rfl ?_)
    exact x_iret rfl hq
  · intro i hi hP
    have hi7 : i < 7 := by omega
    repeat (first | refine x_kcg rfl ?_ | refine x_opp rfl rfl ?_ | refine x_go rfl ?_ | refine m_getg hg.1 rfl rfl rfl ?_)
    rw [hH]
    refine x_icm br_ge (fun h1 => absurd h1 (nI_ge hi (by omega))) (fun _ => ?_)
    repeat (first | refine x_kcg rfl ?_ | refine x_opp rfl rfl ?_ | refine x_go rfl ?_ | refine m_getg hg.1 rfl rfl rfl ?_)
    refine m_iald hg.2.2.1 (in7 hi7) ?_
    rw [nI_clamp (by omega)]
    repeat (first | refine x_kcg rfl ?_ | refine x_opp rfl rfl ?_ | refine x_go rfl ?_)
    refine m_callS rfl rfl (c_max ?_)
    rw [max0 (hl i hi7).1 (hl i hi7).2]
    repeat (first | refine x_kcg rfl ?_ | refine x_incg rfl rfl ?_ | refine x_opp rfl rfl ?_)
    rw [nI_add]
    refine x_goto ?_
    refine x_lvs [(0, .ref g), (1, .int (nI (gSN (i + 1) (M.1 l)))), (2, .int (nI (i + 1)))] rfl rfl rfl ⟨rfl, rfl, rfl, trivial⟩ ?_
    exact hP
theorem c_sum {H : Nat} (hg : gSh sh g c l sp re) (hk : gOK M g l) (hH : M.1 g 5 = nI H) (hH7 : H ≤ 7) (hq : Q (some (.long (dAll (M.1 l) (M.1 c) H))) (wm sh M)) : sm_E L xs (d + 1) 143 [.ref g] (wm sh M) Q := by
  have hl := gOK_7 hk
  refine e_intro rfl rfl ?_
  repeat (first | refine x_kcg rfl ?_ | refine x_incg rfl rfl ?_ | refine x_opp rfl rfl ?_)
  refine x_fall ?_
  refine x_lvs [(0, .ref g), (1, .long (dAll (M.1 l) (M.1 c) 0)), (3, .int (nI 0))] rfl rfl rfl ⟨rfl, rfl, rfl, trivial⟩ ?_
  refine loop_dn (P := fun i => sm_X L xs d 143 1 (sm_code 143 1) [(0, .ref g), (1, .long (dAll (M.1 l) (M.1 c) i)), (3, .int (nI i))] [] (wm sh M) Q) H ?_ ?_
  · repeat (first | refine x_kcg rfl ?_ | refine x_opp rfl rfl ?_ | refine x_go rfl ?_ | refine m_getg hg.1 rfl rfl rfl ?_)
    rw [hH]
    refine x_icm br_ge (fun _ => ?_) (fun h1 => absurd (nI_le (Nat.le_refl H) (by omega)) h1)
    repeat (first | refine x_kcg rfl ?_ | refine x_opp rfl rfl ?_ | refine x_go rfl ?_)
    exact x_lret hq
  · intro i hi hP
    have hi7 : i < 7 := by omega
    repeat (first | refine x_kcg rfl ?_ | refine x_opp rfl rfl ?_ | refine x_go rfl ?_ | refine m_getg hg.1 rfl rfl rfl ?_)
    rw [hH]
    refine x_icm br_ge (fun h1 => absurd h1 (nI_ge hi (by omega))) (fun _ => ?_)
    repeat (first | refine x_kcg rfl ?_ | refine x_opp rfl rfl ?_ | refine x_go rfl ?_ | refine m_getg hg.1 rfl rfl rfl ?_)
    refine m_iald hg.2.2.1 (in7 hi7) ?_
    rw [nI_clamp (by omega)]
    repeat (first | refine x_kcg rfl ?_ | refine x_incg rfl rfl ?_ | refine x_opp rfl rfl ?_)
    refine x_fall ?_
    refine x_lvs [(0, .ref g), (1, .long (dRow (M.1 c) i (31 * dAll (M.1 l) (M.1 c) i + (M.1 l i).toInt64) 0)), (3, .int (nI i)), (4, .int (nI 0))] rfl rfl rfl ⟨rfl, rfl, rfl, rfl, trivial⟩ ?_
    refine loop_dn (P := fun j => sm_X L xs d 143 3 (sm_code 143 3) [(0, .ref g), (1, .long (dRow (M.1 c) i (31 * dAll (M.1 l) (M.1 c) i + (M.1 l i).toInt64) j)), (3, .int (nI i)), (4, .int (nI j))] [] (wm sh M) Q) (M.1 l i).toNatClampNeg ?_ ?_
    · have hc7 := ln_cl (hl i hi7).1 (hl i hi7).2
      repeat (first | refine x_kcg rfl ?_ | refine x_opp rfl rfl ?_ | refine x_go rfl ?_ | refine m_getg hg.1 rfl rfl rfl ?_)
      refine m_iald hg.2.2.1 (in7 hi7) ?_
      rw [nI_clamp (by omega)]
      refine x_icm br_ge (fun _ => ?_) (fun h1 => absurd (ln_ge (hl i hi7).1 (hl i hi7).2 (Nat.le_refl _) hc7) h1)
      repeat (first | refine x_kcg rfl ?_ | refine x_incg rfl rfl ?_ | refine x_opp rfl rfl ?_)
      refine x_goto ?_
      refine x_lvs [(0, .ref g), (1, .long (dAll (M.1 l) (M.1 c) (i + 1))), (3, .int (nI (i + 1)))] rfl rfl rfl ⟨rfl, rfl, rfl, trivial⟩ ?_
      exact hP
    · intro j hj hP2
      have hj7 : j < 7 := Nat.lt_of_lt_of_le hj (ln_cl (hl i hi7).1 (hl i hi7).2)
      repeat (first | refine x_kcg rfl ?_ | refine x_opp rfl rfl ?_ | refine x_go rfl ?_ | refine m_getg hg.1 rfl rfl rfl ?_)
      refine m_iald hg.2.2.1 (in7 hi7) ?_
      rw [nI_clamp (by omega)]
      refine x_icm br_ge (fun h1 => absurd h1 (ln_lt (hl i hi7).1 (hl i hi7).2 hj)) (fun _ => ?_)
      repeat (first | refine x_kcg rfl ?_ | refine x_opp rfl rfl ?_ | refine x_go rfl ?_ | refine m_getg hg.1 rfl rfl rfl ?_)
      refine m_iald hg.2.1 (in49 hi7 hj7) ?_
      rw [mul7, nI_clamp (by omega)]
      repeat (first | refine x_kcg rfl ?_ | refine x_incg rfl rfl ?_ | refine x_opp rfl rfl ?_)
      refine x_goto ?_
      refine x_lvs [(0, .ref g), (1, .long (dRow (M.1 c) i (31 * dAll (M.1 l) (M.1 c) i + (M.1 l i).toInt64) (j + 1))), (3, .int (nI i)), (4, .int (nI (j + 1)))] rfl rfl rfl ⟨rfl, rfl, rfl, rfl, trivial⟩ ?_
      exact hP2
theorem c_halfTurn {H Wd : Nat} (hg : gSh sh g c l sp re) (hk : gOK M g l) (hH : M.1 g 5 = nI H) (hH7 : H ≤ 7) (hW : M.1 g 6 = nI Wd) (hW7 : Wd ≤ 7) (hq : Q (some (.int (zz (!(any2 (gHt (M.1 g 5) (M.1 g 6) (M.1 l) (M.1 c)) Wd H))))) (wm sh M)) : sm_E L xs (d + 3) 122 [.ref g] (wm sh M) Q := by
  refine e_intro rfl rfl ?_
  repeat (first | refine x_kcg rfl ?_ | refine x_incg rfl rfl ?_ | refine x_opp rfl rfl ?_)
  refine x_fall ?_
  refine x_lvs [(0, .ref g), (1, .int (nI 0))] rfl rfl rfl ⟨rfl, rfl, trivial⟩ ?_
  refine loop_dn (P := fun i => (∀ a, a < i → anyB (gHt (M.1 g 5) (M.1 g 6) (M.1 l) (M.1 c) a) Wd = false) → sm_X L xs (d + 2) 122 1 (sm_code 122 1) [(0, .ref g), (1, .int (nI i))] [] (wm sh M) Q) H ?_ ?_ (fun a ha => absurd ha (Nat.not_lt_zero a))
  · intro hall
    repeat (first | refine x_kcg rfl ?_ | refine x_opp rfl rfl ?_ | refine x_go rfl ?_ | refine m_getg hg.1 rfl rfl rfl ?_)
    refine x_icm br_ge (fun _ => ?_) (fun h1 => absurd (by rw [hH]; exact nI_le (Nat.le_refl H) (by omega)) h1)
    repeat (first | refine x_kcg rfl ?_ | refine x_opp rfl rfl ?_ | refine x_go rfl ?_)
    refine x_zret (Or.inr rfl) ?_
    unfold any2 at hq
    rw [anyB_f hall] at hq
    exact hq
  · intro i hi hP hall
    repeat (first | refine x_kcg rfl ?_ | refine x_opp rfl rfl ?_ | refine x_go rfl ?_ | refine m_getg hg.1 rfl rfl rfl ?_)
    refine x_icm br_ge (fun h1 => absurd h1 (by rw [hH]; exact nI_ge hi (by omega))) (fun _ => ?_)
    repeat (first | refine x_kcg rfl ?_ | refine x_incg rfl rfl ?_ | refine x_opp rfl rfl ?_)
    refine x_fall ?_
    refine x_lvs [(0, .ref g), (1, .int (nI i)), (2, .int (nI 0))] rfl rfl rfl ⟨rfl, rfl, rfl, trivial⟩ ?_
    refine loop_dn (P := fun j => (∀ a, a < j → gHt (M.1 g 5) (M.1 g 6) (M.1 l) (M.1 c) i a = false) → sm_X L xs (d + 2) 122 3 (sm_code 122 3) [(0, .ref g), (1, .int (nI i)), (2, .int (nI j))] [] (wm sh M) Q) Wd ?_ ?_ (fun a ha => absurd ha (Nat.not_lt_zero a))
    · intro hall2
      repeat (first | refine x_kcg rfl ?_ | refine x_opp rfl rfl ?_ | refine x_go rfl ?_ | refine m_getg hg.1 rfl rfl rfl ?_)
      refine x_icm br_ge (fun _ => ?_) (fun h1 => absurd (by rw [hW]; exact nI_le (Nat.le_refl Wd) (by omega)) h1)
      repeat (first | refine x_kcg rfl ?_ | refine x_incg rfl rfl ?_ | refine x_opp rfl rfl ?_)
      refine x_goto ?_
      refine x_lvs [(0, .ref g), (1, .int (nI (i + 1)))] rfl rfl rfl ⟨rfl, rfl, trivial⟩ ?_
      refine hP (fun a ha => ?_)
      by_cases e : a = i
      · subst e
        exact anyB_f hall2
      · exact hall a (by omega)
    · intro j hj hP2 hall2
      have go : gHt (M.1 g 5) (M.1 g 6) (M.1 l) (M.1 c) i j = false → sm_X L xs (d + 2) 122 7 (sm_code 122 7) [(0, .ref g), (1, .int (nI i)), (2, .int (nI j))] [] (wm sh M) Q := by
        intro hf
        repeat (first | refine x_kcg rfl ?_ | refine x_incg rfl rfl ?_ | refine x_opp rfl rfl ?_)
        refine x_goto ?_
        refine x_lvs [(0, .ref g), (1, .int (nI i)), (2, .int (nI (j + 1)))] rfl rfl rfl ⟨rfl, rfl, rfl, trivial⟩ ?_
        refine hP2 (fun a ha => ?_)
        by_cases e : a = j
        · subst e
          exact hf
        · exact hall2 a (by omega)
      repeat (first | refine x_kcg rfl ?_ | refine x_opp rfl rfl ?_ | refine x_go rfl ?_ | refine m_getg hg.1 rfl rfl rfl ?_)
      refine x_icm br_ge (fun h1 => absurd h1 (by rw [hW]; exact nI_ge hj (by omega))) (fun _ => ?_)
      repeat (first | refine x_kcg rfl ?_ | refine x_opp rfl rfl ?_ | refine x_go rfl ?_ | refine m_getg hg.1 rfl rfl rfl ?_)
      refine m_callV hg.1 rfl rfl rfl (c_white hg hk ?_)
      refine x_ifc br_eqz (fun h2 => ?_) (fun h2 => ?_)
      · refine go ?_
        unfold gHt
        rw [h2]
        rfl
      · repeat (first | refine x_kcg rfl ?_ | refine x_opp rfl rfl ?_ | refine x_go rfl ?_ | refine m_getg hg.1 rfl rfl rfl ?_)
        refine m_callV hg.1 rfl rfl rfl (c_white hg hk ?_)
        refine x_ifc br_nez (fun h3 => ?_) (fun h3 => ?_)
        · refine go ?_
          unfold gHt
          rw [h3]
          simp
        · repeat (first | refine x_kcg rfl ?_ | refine x_opp rfl rfl ?_ | refine x_go rfl ?_)
          refine x_zret (Or.inl rfl) ?_
          unfold any2 at hq
          have hp : anyB (gHt (M.1 g 5) (M.1 g 6) (M.1 l) (M.1 c) i) Wd = true := anyB_t (i := j) (by unfold gHt; rw [nf_t h2, nt_f h3]; rfl) hj
          rw [anyB_t (p := fun i => anyB (gHt (M.1 g 5) (M.1 g 6) (M.1 l) (M.1 c) i) Wd) (i := i) hp hi] at hq
          exact hq
end G5
end
section
/-! the table of entries: its small methods -/
def tSh (sh : List sh_T) (t sa dn le nu : Nat) : Prop := sh[t]? = some (tableS sa dn le nu) ∧ sh[sa]? = some (arrI 42) ∧ sh[dn]? = some (arrZ 42) ∧ sh[le]? = some (arrI 42) ∧ sh[nu]? = some (arrI 42) ∧ sa ≠ t ∧ dn ≠ t ∧ le ≠ t ∧ nu ≠ t ∧ dn ≠ sa ∧ le ≠ sa ∧ nu ≠ sa ∧ le ≠ dn ∧ nu ≠ dn ∧ nu ≠ le
/-- how far a run goes: from m on while p, k places more at most -/
def runF (p : Nat → Bool) : Nat → Nat → Nat
  | m, 0 => m
  | m, k + 1 => if p m = true then runF p (m + 1) k else m
theorem sub1 {a b : Nat} (h : 1 ≤ b) : nI a + nI b - 1 = nI (a + b - 1) := by
  rw [nI_add, show (1 : Int32) = nI 1 from rfl, pk_sub (by omega)]
section T2
variable {L : Nat} {xs : Nat → Int32} {d : Nat} {sh : List sh_T} {M : mm_T} {Q : Option Value → sm_W → Prop} {g c l sp re t sa dn le nu : Nat}
theorem c_has {k : Int32} (ht : tSh sh t sa dn le nu) (hq : Q (some (.int (zz (gRow (M.1 t 4) k)))) (wm sh M)) : sm_E L xs (d + 1) 82 [.ref t, .int k] (wm sh M) Q := by
  refine e_intro rfl rfl ?_
  repeat (first | refine x_kcg rfl ?_ | refine x_opp rfl rfl ?_ | refine x_go rfl ?_ | refine m_getg ht.1 rfl rfl rfl ?_)
  refine x_ifc br_lt (fun h1 => ?_) (fun h1 => ?_)
  · repeat (first | refine x_kcg rfl ?_ | refine x_opp rfl rfl ?_ | refine x_go rfl ?_ | refine m_getg ht.1 rfl rfl rfl ?_)
    refine x_zret (Or.inl rfl) ?_
    simp only [gRow, h1, if_true, zz_f] at hq
    exact hq
  · repeat (first | refine x_kcg rfl ?_ | refine x_opp rfl rfl ?_ | refine x_go rfl ?_ | refine m_getg ht.1 rfl rfl rfl ?_)
    refine x_icm br_ge (fun h2 => ?_) (fun h2 => ?_)
    · repeat (first | refine x_kcg rfl ?_ | refine x_opp rfl rfl ?_ | refine x_go rfl ?_)
      refine x_zret (Or.inl rfl) ?_
      simp only [gRow, h1, h2, if_true, if_false, zz_f] at hq
      exact hq
    · repeat (first | refine x_kcg rfl ?_ | refine x_opp rfl rfl ?_ | refine x_go rfl ?_)
      refine x_zret (Or.inr rfl) ?_
      simp only [gRow, h1, h2, if_false, zz_t] at hq
      exact hq
def tCell (st dn : Nat → Int32) (k : Nat) (p : Int32) : Int32 := st k + p * (if dn k = 0 then 1 else 7)
theorem c_cellOf {k : Nat} {p : Int32} (ht : tSh sh t sa dn le nu) (hk : k < 42) (hq : Q (some (.int (tCell (M.1 sa) (M.1 dn) k p))) (wm sh M)) : sm_E L xs (d + 1) 85 [.ref t, .int (nI k), .int p] (wm sh M) Q := by
  refine e_intro rfl rfl ?_
  repeat (first | refine x_kcg rfl ?_ | refine x_opp rfl rfl ?_ | refine x_go rfl ?_ | refine m_getg ht.1 rfl rfl rfl ?_)
  refine m_iald ht.2.1 (vp_in_nI hk (by decide)) ?_
  rw [nI_clamp (by omega)]
  repeat (first | refine x_kcg rfl ?_ | refine x_opp rfl rfl ?_ | refine x_go rfl ?_ | refine m_getg ht.1 rfl rfl rfl ?_)
  refine m_bald ht.2.2.1 (vp_in_nI hk (by decide)) ?_
  rw [nI_clamp (by omega)]
  unfold tCell at hq
  refine x_ifc br_eq (fun h1 => ?_) (fun h1 => ?_)
  · rw [if_pos h1] at hq
    repeat (first | refine x_kcg rfl ?_ | refine x_opp rfl rfl ?_ | refine x_go rfl ?_)
    exact x_iret rfl hq
  · rw [if_neg h1] at hq
    repeat (first | refine x_kcg rfl ?_ | refine x_opp rfl rfl ?_ | refine x_go rfl ?_)
    exact x_iret rfl hq
def tAdd (M : mm_T) (t sa dn le nu k : Nat) (a b c e : Int32) : mm_T := m_setI (m_setI (m_setI (m_setI (m_setI M sa k a) dn k b) le k c) nu k e) t 4 (nI (k + 1))
theorem c_add {k : Nat} {a b cc e : Int32} (ht : tSh sh t sa dn le nu) (hs : M.1 t 4 = nI k) (hk : k < 42) (hb : b = 0 ∨ b = 1) (hq : Q none (wm sh (tAdd M t sa dn le nu k a b cc e))) : sm_E L xs (d + 1) 79 [.ref t, .int a, .int b, .int cc, .int e] (wm sh M) Q := by
  refine e_intro rfl rfl ?_
  obtain ⟨h1, h2, h3, h4, h5, n1, n2, n3, n4, -⟩ := ht
  have e0 := Ne.symm n1
  have e1 := Ne.symm n2
  have e2 := Ne.symm n3
  have e3 := Ne.symm n4
  have hin : vp_in (nI k) 42 := vp_in_nI hk (by decide)
  have hcl : (nI k).toNatClampNeg = k := nI_clamp (by omega)
  repeat (first | refine x_kcg rfl ?_ | refine x_opp rfl rfl ?_ | refine x_go rfl ?_ | refine m_getg h1 rfl rfl rfl ?_)
  rw [hs]
  refine x_icm br_ge (fun g1 => absurd g1 (nI_ge (b := 42) hk (by decide))) (fun _ => ?_)
  repeat (first | refine x_kcg rfl ?_ | refine x_opp rfl rfl ?_ | refine x_go rfl ?_ | refine m_getg h1 rfl rfl rfl ?_)
  rw [hs]
  refine m_iast h2 hin ?_
  rw [hcl]
  repeat (first | refine x_kcg rfl ?_ | refine x_opp rfl rfl ?_ | refine x_go rfl ?_ | refine m_getg h1 rfl rfl rfl ?_)
  rw [mI_ne _ _ _ e0, hs]
  refine m_bast h3 hin hb ?_
  rw [hcl]
  repeat (first | refine x_kcg rfl ?_ | refine x_opp rfl rfl ?_ | refine x_go rfl ?_ | refine m_getg h1 rfl rfl rfl ?_)
  rw [mI_ne _ _ _ e1, mI_ne _ _ _ e0, hs]
  refine m_iast h4 hin ?_
  rw [hcl]
  repeat (first | refine x_kcg rfl ?_ | refine x_opp rfl rfl ?_ | refine x_go rfl ?_ | refine m_getg h1 rfl rfl rfl ?_)
  rw [mI_ne _ _ _ e2, mI_ne _ _ _ e1, mI_ne _ _ _ e0, hs]
  refine m_iast h5 hin ?_
  rw [hcl]
  repeat (first | refine x_kcg rfl ?_ | refine x_opp rfl rfl ?_ | refine x_go rfl ?_ | refine m_getg h1 rfl rfl rfl ?_)
  rw [mI_ne _ _ _ e3, mI_ne _ _ _ e2, mI_ne _ _ _ e1, mI_ne _ _ _ e0, hs]
  refine m_putI h1 rfl ?_
  repeat (first | refine x_kcg rfl ?_ | refine x_opp rfl rfl ?_ | refine x_go rfl ?_)
  refine x_ret ?_
  rw [nI_1]
  exact hq
theorem l_across {i j : Nat} (hg : gSh sh g c l sp re) (hk : gOK M g l) : ∀ k m, m + k = 7 → 1 ≤ m → Q (some (.int (nI (runF (fun n => gJR (M.1 g 5) (M.1 l) (M.1 c) (nI i) (nI (j + n - 1))) m k)))) (wm sh M) → sm_X L xs (d + 3) 78 1 (sm_code 78 1) [(0, .ref g), (1, .int (nI i)), (2, .int (nI j)), (3, .int (nI m))] [] (wm sh M) Q := by
  intro k
  induction k with
  | zero =>
    intro m hm h1m hq
    have e : m = 7 := hm
    subst e
    repeat (first | refine x_kcg rfl ?_ | refine x_opp rfl rfl ?_ | refine x_go rfl ?_)
    refine x_icm br_ge (fun _ => ?_) (fun h1 => absurd (nI_le (a := 7) (Nat.le_refl 7) (by decide)) h1)
    repeat (first | refine x_kcg rfl ?_ | refine x_opp rfl rfl ?_ | refine x_go rfl ?_)
    exact x_iret rfl hq
  | succ k ih =>
    intro m hm h1m hq
    repeat (first | refine x_kcg rfl ?_ | refine x_opp rfl rfl ?_ | refine x_go rfl ?_)
    refine x_icm br_ge (fun h1 => absurd h1 (nI_ge (b := 7) (by omega) (by decide))) (fun _ => ?_)
    repeat (first | refine x_kcg rfl ?_ | refine x_opp rfl rfl ?_ | refine x_go rfl ?_)
    rw [sub1 h1m]
    refine m_callV hg.1 rfl rfl rfl (c_joinsRight hg hk ?_)
    unfold runF at hq
    refine x_ifc br_eqz (fun h2 => ?_) (fun h2 => ?_)
    · rw [if_neg (by rw [h2]; exact Bool.false_ne_true)] at hq
      repeat (first | refine x_kcg rfl ?_ | refine x_opp rfl rfl ?_ | refine x_go rfl ?_)
      exact x_iret rfl hq
    · rw [if_pos (nf_t h2)] at hq
      repeat (first | refine x_kcg rfl ?_ | refine x_incg rfl rfl ?_ | refine x_opp rfl rfl ?_)
      refine x_goto ?_
      refine x_lvs [(0, .ref g), (1, .int (nI i)), (2, .int (nI j)), (3, .int (nI (m + 1)))] rfl rfl rfl ⟨rfl, rfl, rfl, rfl, trivial⟩ ?_
      exact ih (m + 1) (by omega) (by omega) hq
theorem c_across {i j : Nat} (hg : gSh sh g c l sp re) (hk : gOK M g l) (hq : Q (some (.int (nI (runF (fun n => gJR (M.1 g 5) (M.1 l) (M.1 c) (nI i) (nI (j + n - 1))) 1 6)))) (wm sh M)) : sm_E L xs (d + 4) 78 [.ref g, .int (nI i), .int (nI j)] (wm sh M) Q := by
  refine e_intro rfl rfl ?_
  repeat (first | refine x_kcg rfl ?_ | refine x_incg rfl rfl ?_ | refine x_opp rfl rfl ?_)
  refine x_fall ?_
  refine x_lvs [(0, .ref g), (1, .int (nI i)), (2, .int (nI j)), (3, .int (nI 1))] rfl rfl rfl ⟨rfl, rfl, rfl, rfl, trivial⟩ ?_
  exact l_across hg hk 6 1 rfl (Nat.le_refl 1) hq
theorem l_downL {i j : Nat} (hg : gSh sh g c l sp re) (hk : gOK M g l) : ∀ k m, m + k = 7 → 1 ≤ m → Q (some (.int (nI (runF (fun n => gJB (M.1 g 5) (M.1 l) (M.1 c) (nI (i + n - 1)) (nI j)) m k)))) (wm sh M) → sm_X L xs (d + 3) 80 1 (sm_code 80 1) [(0, .ref g), (1, .int (nI i)), (2, .int (nI j)), (3, .int (nI m))] [] (wm sh M) Q := by
  intro k
  induction k with
  | zero =>
    intro m hm h1m hq
    have e : m = 7 := hm
    subst e
    repeat (first | refine x_kcg rfl ?_ | refine x_opp rfl rfl ?_ | refine x_go rfl ?_)
    refine x_icm br_ge (fun _ => ?_) (fun h1 => absurd (nI_le (a := 7) (Nat.le_refl 7) (by decide)) h1)
    repeat (first | refine x_kcg rfl ?_ | refine x_opp rfl rfl ?_ | refine x_go rfl ?_)
    exact x_iret rfl hq
  | succ k ih =>
    intro m hm h1m hq
    repeat (first | refine x_kcg rfl ?_ | refine x_opp rfl rfl ?_ | refine x_go rfl ?_)
    refine x_icm br_ge (fun h1 => absurd h1 (nI_ge (b := 7) (by omega) (by decide))) (fun _ => ?_)
    repeat (first | refine x_kcg rfl ?_ | refine x_opp rfl rfl ?_ | refine x_go rfl ?_)
    rw [sub1 h1m]
    refine m_callV hg.1 rfl rfl rfl (c_joinsBelow hg hk ?_)
    unfold runF at hq
    refine x_ifc br_eqz (fun h2 => ?_) (fun h2 => ?_)
    · rw [if_neg (by rw [h2]; exact Bool.false_ne_true)] at hq
      repeat (first | refine x_kcg rfl ?_ | refine x_opp rfl rfl ?_ | refine x_go rfl ?_)
      exact x_iret rfl hq
    · rw [if_pos (nf_t h2)] at hq
      repeat (first | refine x_kcg rfl ?_ | refine x_incg rfl rfl ?_ | refine x_opp rfl rfl ?_)
      refine x_goto ?_
      refine x_lvs [(0, .ref g), (1, .int (nI i)), (2, .int (nI j)), (3, .int (nI (m + 1)))] rfl rfl rfl ⟨rfl, rfl, rfl, rfl, trivial⟩ ?_
      exact ih (m + 1) (by omega) (by omega) hq
theorem c_downL {i j : Nat} (hg : gSh sh g c l sp re) (hk : gOK M g l) (hq : Q (some (.int (nI (runF (fun n => gJB (M.1 g 5) (M.1 l) (M.1 c) (nI (i + n - 1)) (nI j)) 1 6)))) (wm sh M)) : sm_E L xs (d + 4) 80 [.ref g, .int (nI i), .int (nI j)] (wm sh M) Q := by
  refine e_intro rfl rfl ?_
  repeat (first | refine x_kcg rfl ?_ | refine x_incg rfl rfl ?_ | refine x_opp rfl rfl ?_)
  refine x_fall ?_
  refine x_lvs [(0, .ref g), (1, .int (nI i)), (2, .int (nI j)), (3, .int (nI 1))] rfl rfl rfl ⟨rfl, rfl, rfl, rfl, trivial⟩ ?_
  exact l_downL hg hk 6 1 rfl (Nat.le_refl 1) hq
/-- what stands in an entry: its letters, five bits each -/
def stF (f : Nat → Int32) : Nat → Int64
  | 0 => 0
  | i + 1 => stF f i ||| ((f i &&& 31).toInt64 <<< ((5 * nI i).toInt64 &&& 63))
theorem c_standing {k N q : Nat} (ht : tSh sh t sa dn le nu) (hc : sh[q]? = some (arrI 49)) (hk : k < 42) (hN : M.1 le k = nI N) (hN7 : N ≤ 7) (hin : ∀ i, i < N → vp_in (tCell (M.1 sa) (M.1 dn) k (nI i)) 49)
    (hq : Q (some (.long (stF (fun i => M.1 q (tCell (M.1 sa) (M.1 dn) k (nI i)).toNatClampNeg) N))) (wm sh M)) : sm_E L xs (d + 2) 84 [.ref t, .int (nI k), .ref q] (wm sh M) Q := by
  have hi42 : vp_in (nI k) 42 := vp_in_nI hk (by decide)
  have hcl : (nI k).toNatClampNeg = k := nI_clamp (by omega)
  refine e_intro rfl rfl ?_
  repeat (first | refine x_kcg rfl ?_ | refine x_incg rfl rfl ?_ | refine x_opp rfl rfl ?_)
  refine x_fall ?_
  refine x_lvs [(0, .ref t), (1, .int (nI k)), (2, .ref q), (3, .long (stF (fun i => M.1 q (tCell (M.1 sa) (M.1 dn) k (nI i)).toNatClampNeg) 0)), (5, .int (nI 0))] rfl rfl rfl ⟨rfl, rfl, rfl, rfl, rfl, trivial⟩ ?_
  refine loop_dn (P := fun i => sm_X L xs (d + 1) 84 1 (sm_code 84 1) [(0, .ref t), (1, .int (nI k)), (2, .ref q), (3, .long (stF (fun i => M.1 q (tCell (M.1 sa) (M.1 dn) k (nI i)).toNatClampNeg) i)), (5, .int (nI i))] [] (wm sh M) Q) N ?_ ?_
  · repeat (first | refine x_kcg rfl ?_ | refine x_opp rfl rfl ?_ | refine x_go rfl ?_ | refine m_getg ht.1 rfl rfl rfl ?_)
    refine m_iald ht.2.2.2.1 hi42 ?_
    rw [hcl, hN]
    refine x_icm br_ge (fun _ => ?_) (fun h1 => absurd (nI_le (Nat.le_refl N) (by omega)) h1)
    repeat (first | refine x_kcg rfl ?_ | refine x_opp rfl rfl ?_ | refine x_go rfl ?_)
    exact x_lret hq
  · intro i hi hP
    repeat (first | refine x_kcg rfl ?_ | refine x_opp rfl rfl ?_ | refine x_go rfl ?_ | refine m_getg ht.1 rfl rfl rfl ?_)
    refine m_iald ht.2.2.2.1 hi42 ?_
    rw [hcl, hN]
    refine x_icm br_ge (fun h1 => absurd h1 (nI_ge hi (by omega))) (fun _ => ?_)
    repeat (first | refine x_kcg rfl ?_ | refine x_opp rfl rfl ?_ | refine x_go rfl ?_ | refine m_getg ht.1 rfl rfl rfl ?_)
    refine m_callV ht.1 rfl rfl rfl (c_cellOf ht hk ?_)
    refine m_iald hc (hin i hi) ?_
    repeat (first | refine x_kcg rfl ?_ | refine x_incg rfl rfl ?_ | refine x_opp rfl rfl ?_)
    refine x_goto ?_
    refine x_lvs [(0, .ref t), (1, .int (nI k)), (2, .ref q), (3, .long (stF (fun i => M.1 q (tCell (M.1 sa) (M.1 dn) k (nI i)).toNatClampNeg) (i + 1))), (5, .int (nI (i + 1)))] rfl rfl rfl ⟨rfl, rfl, rfl, rfl, rfl, trivial⟩ ?_
    exact hP
end T2
end
section
/-! words as numbers; the shelf -/
theorem br_leq {x z : Int64} (a b : sm_O) : (x = z → sm_br .eq (lg_cmp x z) 0 a b = a) ∧ (¬ x = z → sm_br .eq (lg_cmp x z) 0 a b = b) := by
  unfold lg_cmp
  by_cases h : x = z
  · subst h
    refine ⟨fun _ => ?_, fun h => absurd rfl h⟩
    rw [if_neg (Int64.lt_irrefl (a := x)), if_pos rfl]
    rfl
  · refine ⟨fun g => absurd g h, fun _ => ?_⟩
    by_cases h2 : x > z
    · rw [if_pos h2]; rfl
    · rw [if_neg h2, if_neg h]; rfl
theorem br_lne {x z : Int64} (a b : sm_O) : (x ≠ z → sm_br .ne (lg_cmp x z) 0 a b = a) ∧ (¬ x ≠ z → sm_br .ne (lg_cmp x z) 0 a b = b) := by
  unfold lg_cmp
  by_cases h : x = z
  · subst h
    refine ⟨fun g => absurd rfl g, fun _ => ?_⟩
    rw [if_neg (Int64.lt_irrefl (a := x)), if_pos rfl]
    rfl
  · refine ⟨fun _ => ?_, fun g => absurd h g⟩
    by_cases h2 : x > z
    · rw [if_pos h2]; rfl
    · rw [if_neg h2, if_neg h]; rfl
theorem br_lgt {x z : Int64} (a b : sm_O) : (z < x → sm_br .gt (lg_cmp x z) 0 a b = a) ∧ (¬ z < x → sm_br .gt (lg_cmp x z) 0 a b = b) := by
  unfold lg_cmp
  by_cases h : z < x
  · refine ⟨fun _ => ?_, fun g => absurd h g⟩
    rw [if_pos h]
    rfl
  · refine ⟨fun g => absurd g h, fun _ => ?_⟩
    rw [if_neg h]
    by_cases h2 : x = z
    · rw [if_pos h2]; rfl
    · rw [if_neg h2]; rfl
def shr5 (r : Int64) : Int64 := (r.toUInt64 >>> ((5 : Int32).toInt64.toUInt64 &&& Int64.toUInt64 63)).toInt64
def ltr (w : Int64) (i : Int32) : Int32 := ((w.toUInt64 >>> ((5 * i).toInt64.toUInt64 &&& Int64.toUInt64 63)).toInt64 &&& 31).toInt32
def lnUp (top : Int32) : Nat → Int64 → Nat → Int64 × Nat
  | 0, r, n => (r, n)
  | k + 1, r, n => if r &&& 31 = 0 then (r, n) else if top.toInt64 < r &&& 31 then (r, n) else lnUp top k (shr5 r) (n + 1)
/-- how many letters up to top a word has; 0: it is none -/
def lenU (w : Int64) (top : Int32) : Int32 := if (lnUp top 7 w 0).1 ≠ 0 then 0 else if nI (lnUp top 7 w 0).2 < 2 then 0 else nI (lnUp top 7 w 0).2
def mkF (w : Int64) : Nat → Int64
  | 0 => 0
  | i + 1 => if ltr w (nI i) = 0 then mkF w i else mkF w i ||| (31 <<< ((5 * nI i).toInt64 &&& 63))
def bfF (v w : Int64) : Nat → Nat → Bool
  | 0, _ => false
  | k + 1, i => if ltr v (nI i) - ltr w (nI i) = 0 then bfF v w k (i + 1) else if 0 ≤ ltr v (nI i) - ltr w (nI i) then false else true
section W1
variable {L : Nat} {xs : Nat → Int32} {d : Nat} {w : sm_W} {sh : List sh_T} {M : mm_T} {Q : Option Value → sm_W → Prop} {sf no ls we ri ti : Nat}
theorem c_isGridNumber {g : Int32} (hq : Q (some (.int (zz (gRow 4 g)))) w) : sm_E L xs (d + 1) 9 [.int g] w Q := by
  refine e_intro rfl rfl ?_
  repeat (first | refine x_kcg rfl ?_ | refine x_opp rfl rfl ?_ | refine x_go rfl ?_)
  refine x_ifc br_lt (fun h1 => ?_) (fun h1 => ?_)
  · repeat (first | refine x_kcg rfl ?_ | refine x_opp rfl rfl ?_ | refine x_go rfl ?_)
    refine x_zret (Or.inl rfl) ?_
    simp only [gRow, h1, if_true, zz_f] at hq
    exact hq
  · repeat (first | refine x_kcg rfl ?_ | refine x_opp rfl rfl ?_ | refine x_go rfl ?_)
    refine x_icm br_ge (fun h2 => ?_) (fun h2 => ?_)
    · repeat (first | refine x_kcg rfl ?_ | refine x_opp rfl rfl ?_ | refine x_go rfl ?_)
      refine x_zret (Or.inl rfl) ?_
      simp only [gRow, h1, h2, if_true, if_false, zz_f] at hq
      exact hq
    · repeat (first | refine x_kcg rfl ?_ | refine x_opp rfl rfl ?_ | refine x_go rfl ?_)
      refine x_zret (Or.inr rfl) ?_
      simp only [gRow, h1, h2, if_false, zz_t] at hq
      exact hq
def stOk (s : Int32) : Bool := if s < 1 then false else if 5000 < s then false else true
theorem c_isStepNumber {s : Int32} (hq : Q (some (.int (zz (stOk s)))) w) : sm_E L xs (d + 1) 89 [.int s] w Q := by
  refine e_intro rfl rfl ?_
  repeat (first | refine x_kcg rfl ?_ | refine x_opp rfl rfl ?_ | refine x_go rfl ?_)
  refine x_icm br_lt (fun h1 => ?_) (fun h1 => ?_)
  · repeat (first | refine x_kcg rfl ?_ | refine x_opp rfl rfl ?_ | refine x_go rfl ?_)
    refine x_zret (Or.inl rfl) ?_
    simp only [stOk, h1, if_true, zz_f] at hq
    exact hq
  · repeat (first | refine x_kcg rfl ?_ | refine x_opp rfl rfl ?_ | refine x_go rfl ?_)
    refine x_icm br_gt (fun h2 => ?_) (fun h2 => ?_)
    · repeat (first | refine x_kcg rfl ?_ | refine x_opp rfl rfl ?_ | refine x_go rfl ?_)
      refine x_zret (Or.inl rfl) ?_
      simp only [stOk, h1, h2, if_true, if_false, zz_f] at hq
      exact hq
    · repeat (first | refine x_kcg rfl ?_ | refine x_opp rfl rfl ?_ | refine x_go rfl ?_)
      refine x_zret (Or.inr rfl) ?_
      simp only [stOk, h1, h2, if_false, zz_t] at hq
      exact hq
theorem c_letterOf {v : Int64} {i : Int32} (hq : Q (some (.int (ltr v i))) w) : sm_E L xs (d + 1) 36 [.long v, .int i] w Q := by
  refine e_intro rfl rfl ?_
  repeat (first | refine x_kcg rfl ?_ | refine x_opp rfl rfl ?_ | refine x_go rfl ?_)
  exact x_iret rfl hq
theorem l_lenU {v : Int64} {top : Int32} : ∀ k r n, n + k = 7 → Q (some (.int (if (lnUp top k r n).1 ≠ 0 then 0 else if nI (lnUp top k r n).2 < 2 then 0 else nI (lnUp top k r n).2))) w → sm_X L xs d 28 1 (sm_code 28 1) [(0, .long v), (2, .int top), (3, .long r), (5, .int (nI n))] [] w Q := by
  have fin : ∀ r n, Q (some (.int (if r ≠ 0 then 0 else if nI n < 2 then 0 else nI n))) w → sm_X L xs d 28 5 (sm_code 28 5) [(0, .long v), (2, .int top), (3, .long r), (5, .int (nI n))] [] w Q := by
    intro r n hq
    repeat (first | refine x_kcg rfl ?_ | refine x_opp rfl rfl ?_ | refine x_go rfl ?_)
    refine x_ifc br_lne (fun h1 => ?_) (fun h1 => ?_)
    · have h1 : r ≠ 0 := h1
      rw [if_pos h1] at hq
      repeat (first | refine x_kcg rfl ?_ | refine x_opp rfl rfl ?_ | refine x_go rfl ?_)
      exact x_iret rfl hq
    · have h1 : ¬ r ≠ 0 := h1
      rw [if_neg h1] at hq
      repeat (first | refine x_kcg rfl ?_ | refine x_opp rfl rfl ?_ | refine x_go rfl ?_)
      refine x_icm br_lt (fun h2 => ?_) (fun h2 => ?_)
      · rw [if_pos h2] at hq
        repeat (first | refine x_kcg rfl ?_ | refine x_opp rfl rfl ?_ | refine x_go rfl ?_)
        exact x_iret rfl hq
      · rw [if_neg h2] at hq
        repeat (first | refine x_kcg rfl ?_ | refine x_opp rfl rfl ?_ | refine x_go rfl ?_)
        exact x_iret rfl hq
  intro k
  induction k with
  | zero =>
    intro r n hn hq
    have e : n = 7 := hn
    subst e
    repeat (first | refine x_kcg rfl ?_ | refine x_opp rfl rfl ?_ | refine x_go rfl ?_)
    refine x_icm br_ge (fun _ => ?_) (fun h1 => absurd (nI_le (a := 7) (Nat.le_refl 7) (by decide)) h1)
    exact fin r 7 hq
  | succ k ih =>
    intro r n hn hq
    repeat (first | refine x_kcg rfl ?_ | refine x_opp rfl rfl ?_ | refine x_go rfl ?_)
    refine x_icm br_ge (fun h1 => absurd h1 (nI_ge (b := 7) (by omega) (by decide))) (fun _ => ?_)
    repeat (first | refine x_kcg rfl ?_ | refine x_opp rfl rfl ?_ | refine x_go rfl ?_)
    unfold lnUp at hq
    refine x_ifc br_leq (fun h1 => ?_) (fun h1 => ?_)
    · have h1 : r &&& 31 = 0 := h1
      rw [if_pos h1] at hq
      exact fin r n hq
    · have h1 : ¬ r &&& 31 = 0 := h1
      rw [if_neg h1] at hq
      repeat (first | refine x_kcg rfl ?_ | refine x_opp rfl rfl ?_ | refine x_go rfl ?_)
      refine x_ifc br_lgt (fun h2 => ?_) (fun h2 => ?_)
      · have h2 : top.toInt64 < r &&& 31 := h2
        rw [if_pos h2] at hq
        exact fin r n hq
      · have h2 : ¬ top.toInt64 < r &&& 31 := h2
        rw [if_neg h2] at hq
        repeat (first | refine x_kcg rfl ?_ | refine x_incg rfl rfl ?_ | refine x_opp rfl rfl ?_)
        refine x_goto ?_
        refine x_lvs [(0, .long v), (2, .int top), (3, .long (shr5 r)), (5, .int (nI (n + 1)))] rfl rfl rfl ⟨rfl, rfl, rfl, rfl, trivial⟩ ?_
        exact ih (shr5 r) (n + 1) (by omega) hq
theorem c_lengthUpTo {v : Int64} {top : Int32} (hq : Q (some (.int (lenU v top))) w) : sm_E L xs (d + 1) 28 [.long v, .int top] w Q := by
  refine e_intro rfl rfl ?_
  repeat (first | refine x_kcg rfl ?_ | refine x_incg rfl rfl ?_ | refine x_opp rfl rfl ?_)
  refine x_fall ?_
  refine x_lvs [(0, .long v), (2, .int top), (3, .long v), (5, .int (nI 0))] rfl rfl rfl ⟨rfl, rfl, rfl, rfl, trivial⟩ ?_
  exact l_lenU 7 v 0 rfl hq
theorem c_isWord {v : Int64} (hq : Q (some (.int (zz (decide (lenU v 26 ≠ 0))))) w) : sm_E L xs (d + 2) 43 [.long v] w Q := by
  refine e_intro rfl rfl ?_
  repeat (first | refine x_kcg rfl ?_ | refine x_opp rfl rfl ?_ | refine x_go rfl ?_)
  refine x_invS rfl (c_lengthUpTo (top := 26) ?_) (fun _ _ h => h)
  refine x_ifc br_eq (fun h1 => ?_) (fun h1 => ?_)
  · repeat (first | refine x_kcg rfl ?_ | refine x_opp rfl rfl ?_ | refine x_go rfl ?_)
    refine x_zret (Or.inl rfl) ?_
    rw [show decide (lenU v 26 ≠ 0) = false from decide_eq_false (fun h => h h1)] at hq
    exact hq
  · repeat (first | refine x_kcg rfl ?_ | refine x_opp rfl rfl ?_ | refine x_go rfl ?_)
    refine x_zret (Or.inr rfl) ?_
    rw [show decide (lenU v 26 ≠ 0) = true from decide_eq_true h1] at hq
    exact hq
theorem c_maskOf {v : Int64} (hq : Q (some (.long (mkF v 7))) w) : sm_E L xs (d + 2) 37 [.long v] w Q := by
  refine e_intro rfl rfl ?_
  repeat (first | refine x_kcg rfl ?_ | refine x_incg rfl rfl ?_ | refine x_opp rfl rfl ?_)
  refine x_fall ?_
  refine x_lvs [(0, .long v), (2, .long (mkF v 0)), (4, .int (nI 0))] rfl rfl rfl ⟨rfl, rfl, rfl, trivial⟩ ?_
  refine loop_dn (P := fun i => sm_X L xs (d + 1) 37 1 (sm_code 37 1) [(0, .long v), (2, .long (mkF v i)), (4, .int (nI i))] [] w Q) 7 ?_ ?_
  · repeat (first | refine x_kcg rfl ?_ | refine x_opp rfl rfl ?_ | refine x_go rfl ?_)
    refine x_icm br_ge (fun _ => ?_) (fun h1 => absurd (nI_le (a := 7) (Nat.le_refl 7) (by decide)) h1)
    repeat (first | refine x_kcg rfl ?_ | refine x_opp rfl rfl ?_ | refine x_go rfl ?_)
    exact x_lret hq
  · intro i hi hP
    repeat (first | refine x_kcg rfl ?_ | refine x_opp rfl rfl ?_ | refine x_go rfl ?_)
    refine x_icm br_ge (fun h1 => absurd h1 (nI_ge (b := 7) (by omega) (by decide))) (fun _ => ?_)
    repeat (first | refine x_kcg rfl ?_ | refine x_opp rfl rfl ?_ | refine x_go rfl ?_)
    refine x_invS rfl (c_letterOf ?_) (fun _ _ h => h)
    refine x_ifc br_eq (fun h1 => ?_) (fun h1 => ?_)
    · repeat (first | refine x_kcg rfl ?_ | refine x_incg rfl rfl ?_ | refine x_opp rfl rfl ?_)
      refine x_goto ?_
      rw [show mkF v (i + 1) = mkF v i from if_pos h1] at hP
      refine x_lvs [(0, .long v), (2, .long (mkF v i)), (4, .int (nI (i + 1)))] rfl rfl rfl ⟨rfl, rfl, rfl, trivial⟩ ?_
      exact hP
    · repeat (first | refine x_kcg rfl ?_ | refine x_incg rfl rfl ?_ | refine x_opp rfl rfl ?_)
      refine x_fall ?_
      repeat (first | refine x_kcg rfl ?_ | refine x_incg rfl rfl ?_ | refine x_opp rfl rfl ?_)
      refine x_goto ?_
      rw [show mkF v (i + 1) = mkF v i ||| (31 <<< ((5 * nI i).toInt64 &&& 63)) from if_neg h1] at hP
      refine x_lvs [(0, .long v), (2, .long (mkF v i ||| (31 <<< ((5 * nI i).toInt64 &&& 63)))), (4, .int (nI (i + 1)))] rfl rfl rfl ⟨rfl, rfl, rfl, trivial⟩ ?_
      exact hP
theorem l_isBefore {v u : Int64} : ∀ k i, i + k = 7 → Q (some (.int (zz (bfF v u k i)))) w → sm_X L xs (d + 1) 94 1 (sm_code 94 1) [(0, .long v), (2, .long u), (4, .int (nI i))] [] w Q := by
  intro k
  induction k with
  | zero =>
    intro i hi hq
    have e : i = 7 := hi
    subst e
    repeat (first | refine x_kcg rfl ?_ | refine x_opp rfl rfl ?_ | refine x_go rfl ?_)
    refine x_icm br_ge (fun _ => ?_) (fun h1 => absurd (nI_le (a := 7) (Nat.le_refl 7) (by decide)) h1)
    repeat (first | refine x_kcg rfl ?_ | refine x_opp rfl rfl ?_ | refine x_go rfl ?_)
    exact x_zret (Or.inl rfl) hq
  | succ k ih =>
    intro i hi hq
    repeat (first | refine x_kcg rfl ?_ | refine x_opp rfl rfl ?_ | refine x_go rfl ?_)
    refine x_icm br_ge (fun h1 => absurd h1 (nI_ge (b := 7) (by omega) (by decide))) (fun _ => ?_)
    repeat (first | refine x_kcg rfl ?_ | refine x_opp rfl rfl ?_ | refine x_go rfl ?_)
    refine x_invS rfl (c_letterOf ?_) (fun _ _ h => h)
    repeat (first | refine x_kcg rfl ?_ | refine x_opp rfl rfl ?_ | refine x_go rfl ?_)
    refine x_invS rfl (c_letterOf ?_) (fun _ _ h => h)
    repeat (first | refine x_kcg rfl ?_ | refine x_opp rfl rfl ?_ | refine x_go rfl ?_)
    unfold bfF at hq
    refine x_ifc br_eq (fun h1 => ?_) (fun h1 => ?_)
    · rw [if_pos h1] at hq
      repeat (first | refine x_kcg rfl ?_ | refine x_incg rfl rfl ?_ | refine x_opp rfl rfl ?_)
      refine x_goto ?_
      refine x_lvs [(0, .long v), (2, .long u), (4, .int (nI (i + 1)))] rfl rfl rfl ⟨rfl, rfl, rfl, trivial⟩ ?_
      exact ih (i + 1) (by omega) hq
    · rw [if_neg h1] at hq
      repeat (first | refine x_kcg rfl ?_ | refine x_opp rfl rfl ?_ | refine x_go rfl ?_)
      refine x_ifc br_ge (fun h2 => ?_) (fun h2 => ?_)
      · rw [if_pos h2] at hq
        repeat (first | refine x_kcg rfl ?_ | refine x_opp rfl rfl ?_ | refine x_go rfl ?_)
        exact x_zret (Or.inl rfl) hq
      · rw [if_neg h2] at hq
        repeat (first | refine x_kcg rfl ?_ | refine x_opp rfl rfl ?_ | refine x_go rfl ?_)
        exact x_zret (Or.inr rfl) hq
theorem c_isBefore {v u : Int64} (hq : Q (some (.int (zz (bfF v u 7 0)))) w) : sm_E L xs (d + 2) 94 [.long v, .long u] w Q := by
  refine e_intro rfl rfl ?_
  repeat (first | refine x_kcg rfl ?_ | refine x_incg rfl rfl ?_ | refine x_opp rfl rfl ?_)
  refine x_fall ?_
  refine x_lvs [(0, .long v), (2, .long u), (4, .int (nI 0))] rfl rfl rfl ⟨rfl, rfl, rfl, trivial⟩ ?_
  exact l_isBefore 7 0 rfl hq
def sSh (sh : List sh_T) (sf no ls we ri ti : Nat) : Prop := sh[sf]? = some (shelfS no ls we) ∧ sh[ls]? = some (arrW 16) ∧ sh[we]? = some (arrI 16) ∧ sh[no]? = some (notesS ri ti) ∧ sh[ri]? = some (arrI 100) ∧ sh[ti]? = some (arrI 6) ∧ ti ≠ no ∧ ri ≠ no ∧ sf ≠ no ∧ we ≠ no ∧ we ≠ sf ∧ ti ≠ sf ∧ ri ≠ sf ∧ ti ≠ ri ∧ we ≠ ti ∧ we ≠ ri
theorem c_wasMade {k : Int32} (hs : sSh sh sf no ls we ri ti) (hq : Q (some (.int (zz (gRow (M.1 sf 3) k)))) (wm sh M)) : sm_E L xs (d + 1) 27 [.ref sf, .int k] (wm sh M) Q := by
  refine e_intro rfl rfl ?_
  repeat (first | refine x_kcg rfl ?_ | refine x_opp rfl rfl ?_ | refine x_go rfl ?_ | refine m_getg hs.1 rfl rfl rfl ?_)
  refine x_ifc br_lt (fun h1 => ?_) (fun h1 => ?_)
  · repeat (first | refine x_kcg rfl ?_ | refine x_opp rfl rfl ?_ | refine x_go rfl ?_ | refine m_getg hs.1 rfl rfl rfl ?_)
    refine x_zret (Or.inl rfl) ?_
    simp only [gRow, h1, if_true, zz_f] at hq
    exact hq
  · repeat (first | refine x_kcg rfl ?_ | refine x_opp rfl rfl ?_ | refine x_go rfl ?_ | refine m_getg hs.1 rfl rfl rfl ?_)
    refine x_icm br_ge (fun h2 => ?_) (fun h2 => ?_)
    · repeat (first | refine x_kcg rfl ?_ | refine x_opp rfl rfl ?_ | refine x_go rfl ?_)
      refine x_zret (Or.inl rfl) ?_
      simp only [gRow, h1, h2, if_true, if_false, zz_f] at hq
      exact hq
    · repeat (first | refine x_kcg rfl ?_ | refine x_opp rfl rfl ?_ | refine x_go rfl ?_)
      refine x_zret (Or.inr rfl) ?_
      simp only [gRow, h1, h2, if_false, zz_t] at hq
      exact hq
def wantP (M : mm_T) (sf ls : Nat) (k : Int32) : Option Nat := if gRow (M.1 sf 3) k = true then M.2.2 ls k.toNatClampNeg else none
theorem in16 {h r : Int32} (g : gRow h r = true) (h16 : h ≤ 16) : ∃ i : Nat, i < 16 ∧ r = nI i := by
  unfold gRow at g
  split at g
  · cases g
  · split at g
    · cases g
    · rename_i h1 h2
      obtain ⟨j, hj, rfl⟩ := nI_of h1
      refine ⟨j, ?_, rfl⟩
      rw [Int32.le_iff_toInt_le] at h2 h16
      rw [nI_toInt hj] at h2
      have : (16 : Int32).toInt = 16 := by decide
      omega
theorem c_wanted {k : Int32} (hs : sSh sh sf no ls we ri ti) (h16 : M.1 sf 3 ≤ 16) (hq1 : ∀ a, wantP M sf ls k = some a → Q (some (.ref a)) (wm sh M)) (hq2 : wantP M sf ls k = none → Q (some .null) (wm sh (nFind M no ti 1))) : sm_E L xs (d + 3) 41 [.ref sf, .int k] (wm sh M) Q := by
  refine e_intro rfl rfl ?_
  repeat (first | refine x_kcg rfl ?_ | refine x_opp rfl rfl ?_ | refine x_go rfl ?_ | refine m_getg hs.1 rfl rfl rfl ?_)
  refine m_callV hs.1 rfl rfl rfl (c_wasMade hs ?_)
  refine x_ifc br_eqz (fun h1 => ?_) (fun h1 => ?_)
  · have hn : wantP M sf ls k = none := by
      unfold wantP
      rw [if_neg (by rw [h1]; exact Bool.false_ne_true)]
    repeat (first | refine x_kcg rfl ?_ | refine x_opp rfl rfl ?_ | refine x_go rfl ?_ | refine m_getg hs.1 rfl rfl rfl ?_)
    refine x_ifnonN ?_
    repeat (first | refine x_kcg rfl ?_ | refine x_opp rfl rfl ?_ | refine x_go rfl ?_ | refine m_getg hs.1 rfl rfl rfl ?_)
    refine m_callV hs.2.2.2.1 rfl rfl rfl (c_find (k := 1) hs.2.2.2.1 hs.2.2.2.2.2.1 hs.2.2.2.2.2.2.1 (vp_in_nI (n := 1) (by decide) (by decide)) ?_)
    repeat (first | refine x_kcg rfl ?_ | refine x_opp rfl rfl ?_ | refine x_go rfl ?_)
    exact x_aretN (hq2 hn)
  · obtain ⟨i, hi, rfl⟩ := in16 (nf_t h1) h16
    have hw : wantP M sf ls (nI i) = M.2.2 ls i := by
      unfold wantP
      rw [if_pos (nf_t h1), nI_clamp (by omega)]
    repeat (first | refine x_kcg rfl ?_ | refine x_opp rfl rfl ?_ | refine x_go rfl ?_ | refine m_getg hs.1 rfl rfl rfl ?_)
    refine m_aaldW hs.2.1 (vp_in_nI hi (by decide)) rfl ?_
    rw [nI_clamp (by omega)]
    cases hr : M.2.2 ls i with
    | none =>
      rw [hr] at hw
      show sm_X L xs (d + 2) _ _ _ _ [Value.null] _ _
      repeat (first | refine x_kcg rfl ?_ | refine x_opp rfl rfl ?_ | refine x_go rfl ?_ | refine m_getg hs.1 rfl rfl rfl ?_)
      refine x_ifnonN ?_
      repeat (first | refine x_kcg rfl ?_ | refine x_opp rfl rfl ?_ | refine x_go rfl ?_ | refine m_getg hs.1 rfl rfl rfl ?_)
      refine m_callV hs.2.2.2.1 rfl rfl rfl (c_find (k := 1) hs.2.2.2.1 hs.2.2.2.2.2.1 hs.2.2.2.2.2.2.1 (vp_in_nI (n := 1) (by decide) (by decide)) ?_)
      repeat (first | refine x_kcg rfl ?_ | refine x_opp rfl rfl ?_ | refine x_go rfl ?_)
      exact x_aretN (hq2 hw)
    | some a =>
      rw [hr] at hw
      show sm_X L xs (d + 2) _ _ _ _ [Value.ref a] _ _
      repeat (first | refine x_kcg rfl ?_ | refine x_opp rfl rfl ?_ | refine x_go rfl ?_ | refine m_getg hs.1 rfl rfl rfl ?_)
      refine x_ifnonR ?_
      repeat (first | refine x_kcg rfl ?_ | refine x_opp rfl rfl ?_ | refine x_go rfl ?_)
      exact x_aret (hq1 a hw)
end W1
end
section
/-! the shelf's other methods; lists of words -/
section P1
variable {L : Nat} {xs : Nat → Int32} {d : Nat} {sh : List sh_T} {M : mm_T} {Q : Option Value → sm_W → Prop} {sf no ls we ri ti a wo : Nat} {s : sh_T}
def wgt (we : Nat → Int32) (k p q : Int32) : Int32 := (if k < 3 then 1 else 1 + we p.toNatClampNeg) + (if k = 4 then we q.toNatClampNeg else 0)
theorem c_weightOf {k p q : Int32} (hs : sSh sh sf no ls we ri ti) (hp : ¬ k < 3 → vp_in p 16) (hr : k = 4 → vp_in q 16) (hq : Q (some (.int (wgt (M.1 we) k p q))) (wm sh M)) : sm_E L xs (d + 1) 29 [.ref sf, .int k, .int p, .int q] (wm sh M) Q := by
  refine e_intro rfl rfl ?_
  unfold wgt at hq
  have tail : ∀ n : Int32, Q (some (.int (n + (if k = 4 then M.1 we q.toNatClampNeg else 0)))) (wm sh M) → sm_X L xs d 29 2 (sm_code 29 2) [(0, .ref sf), (1, .int k), (2, .int p), (3, .int q), (4, .int n)] [] (wm sh M) Q := by
    intro n hn
    repeat (first | refine x_kcg rfl ?_ | refine x_opp rfl rfl ?_ | refine x_go rfl ?_)
    refine x_icm br_ne (fun h1 => ?_) (fun h1 => ?_)
    · have h1 : k ≠ 4 := h1
      rw [if_neg h1, Int32.add_zero] at hn
      repeat (first | refine x_kcg rfl ?_ | refine x_opp rfl rfl ?_ | refine x_go rfl ?_)
      exact x_iret rfl hn
    · have h1 : k = 4 := Decidable.not_not.mp h1
      rw [if_pos h1] at hn
      repeat (first | refine x_kcg rfl ?_ | refine x_opp rfl rfl ?_ | refine x_go rfl ?_ | refine m_getg hs.1 rfl rfl rfl ?_)
      refine m_iald hs.2.2.1 (hr h1) ?_
      repeat (first | refine x_kcg rfl ?_ | refine x_opp rfl rfl ?_ | refine x_go rfl ?_)
      exact x_iret rfl hn
  repeat (first | refine x_kcg rfl ?_ | refine x_opp rfl rfl ?_ | refine x_go rfl ?_)
  refine x_icm br_lt (fun h1 => ?_) (fun h1 => ?_)
  · rw [if_pos h1] at hq
    refine x_lvs [(0, .ref sf), (1, .int k), (2, .int p), (3, .int q), (4, .int 1)] rfl rfl rfl ⟨rfl, rfl, rfl, rfl, rfl, trivial⟩ ?_
    exact tail 1 hq
  · rw [if_neg h1] at hq
    repeat (first | refine x_kcg rfl ?_ | refine x_opp rfl rfl ?_ | refine x_go rfl ?_ | refine m_getg hs.1 rfl rfl rfl ?_)
    refine m_iald hs.2.2.1 (hp h1) ?_
    repeat (first | refine x_kcg rfl ?_ | refine x_incg rfl rfl ?_ | refine x_opp rfl rfl ?_)
    refine x_fall ?_
    refine x_lvs [(0, .ref sf), (1, .int k), (2, .int p), (3, .int q), (4, .int (1 + M.1 we p.toNatClampNeg))] rfl rfl rfl ⟨rfl, rfl, rfl, rfl, rfl, trivial⟩ ?_
    exact tail _ hq
/-- lists that are there -/
def thr (r : Nat → Option Nat) : Nat → Bool := fun i => (r i).isSome
theorem c_those {n : Nat} (hs : sSh sh sf no ls we ri ti) (hn : M.1 sf 3 = nI n) (h16 : n ≤ 16) (hq : Q (some (.int (nI (cnt (thr (M.2.2 ls)) n)))) (wm sh M)) : sm_E L xs (d + 1) 145 [.ref sf] (wm sh M) Q := by
  refine e_intro rfl rfl ?_
  repeat (first | refine x_kcg rfl ?_ | refine x_incg rfl rfl ?_ | refine x_opp rfl rfl ?_)
  refine x_fall ?_
  refine x_lvs [(0, .ref sf), (1, .int (nI 0)), (2, .int (nI 0))] rfl rfl rfl ⟨rfl, rfl, rfl, trivial⟩ ?_
  refine loop_dn (P := fun i => sm_X L xs d 145 1 (sm_code 145 1) [(0, .ref sf), (1, .int (nI (cnt (thr (M.2.2 ls)) i))), (2, .int (nI i))] [] (wm sh M) Q) n ?_ ?_
  · repeat (first | refine x_kcg rfl ?_ | refine x_opp rfl rfl ?_ | refine x_go rfl ?_ | refine m_getg hs.1 rfl rfl rfl ?_)
    rw [hn]
    refine x_icm br_ge (fun _ => ?_) (fun h1 => absurd (nI_le (Nat.le_refl n) (by omega)) h1)
    repeat (first | refine x_kcg rfl ?_ | refine x_opp rfl rfl ?_ | refine x_go rfl ?_)
    exact x_iret rfl hq
  · intro i hi hP
    repeat (first | refine x_kcg rfl ?_ | refine x_opp rfl rfl ?_ | refine x_go rfl ?_ | refine m_getg hs.1 rfl rfl rfl ?_)
    rw [hn]
    refine x_icm br_ge (fun h1 => absurd h1 (nI_ge hi (by omega))) (fun _ => ?_)
    repeat (first | refine x_kcg rfl ?_ | refine x_opp rfl rfl ?_ | refine x_go rfl ?_ | refine m_getg hs.1 rfl rfl rfl ?_)
    refine m_aaldW hs.2.1 (vp_in_nI (n := i) (by omega) (by decide)) rfl ?_
    rw [nI_clamp (by omega)]
    cases hr : M.2.2 ls i with
    | none =>
      show sm_X L xs d _ _ _ _ [Value.null] _ _
      refine x_ifnullN ?_
      rw [cnt_f (show thr (M.2.2 ls) i = false by unfold thr; rw [hr]; rfl)] at hP
      repeat (first | refine x_kcg rfl ?_ | refine x_incg rfl rfl ?_ | refine x_opp rfl rfl ?_)
      refine x_goto ?_
      refine x_lvs [(0, .ref sf), (1, .int (nI (cnt (thr (M.2.2 ls)) i))), (2, .int (nI (i + 1)))] rfl rfl rfl ⟨rfl, rfl, rfl, trivial⟩ ?_
      exact hP
    | some q =>
      show sm_X L xs d _ _ _ _ [Value.ref q] _ _
      refine x_ifnullR ?_
      rw [cnt_t (show thr (M.2.2 ls) i = true by unfold thr; rw [hr]; rfl)] at hP
      repeat (first | refine x_kcg rfl ?_ | refine x_incg rfl rfl ?_ | refine x_opp rfl rfl ?_)
      refine x_fall ?_
      repeat (first | refine x_kcg rfl ?_ | refine x_incg rfl rfl ?_ | refine x_opp rfl rfl ?_)
      refine x_goto ?_
      refine x_lvs [(0, .ref sf), (1, .int (nI (cnt (thr (M.2.2 ls)) i + 1))), (2, .int (nI (i + 1)))] rfl rfl rfl ⟨rfl, rfl, rfl, trivial⟩ ?_
      exact hP
/-- a shape of the plain family: its notes, its words, its size -/
def pSh (s : sh_T) (no wo : Nat) : Prop := (∀ f g r, m_fd (s f g r) 3595 = some (.ref wo)) ∧ (∀ f g r, m_fd (s f g r) 3596 = some (.int (f 3))) ∧ (∀ f g r, m_fd (s f g r) 6151 = some (.ref no)) ∧ (∀ f g r v, m_pf (s f g r) 3596 (.int v) = some (s (upd f 3 v) g r)) ∧ (∀ f g r, m_vt (s f g r) 11634 = some 45)
theorem pSh_plain (no wo : Nat) : pSh (plainS no wo) no wo := ⟨fun _ _ _ => rfl, fun _ _ _ => rfl, fun _ _ _ => rfl, fun _ _ _ _ => rfl, fun _ _ _ => rfl⟩
theorem pSh_scored (no wo nu : Nat) : pSh (scoredS no wo nu) no wo := ⟨fun _ _ _ => rfl, fun _ _ _ => rfl, fun _ _ _ => rfl, fun _ _ _ _ => rfl, fun _ _ _ => rfl⟩
theorem pSh_banned (no wo : Nat) : pSh (bannedS no wo) no wo := ⟨fun _ _ _ => rfl, fun _ _ _ => rfl, fun _ _ _ => rfl, fun _ _ _ _ => rfl, fun _ _ _ => rfl⟩
/-- where a word first stands, from i on, k places -/
def pIx (f : Nat → Int64) (v : Int64) : Nat → Nat → Option Nat
  | _, 0 => none
  | i, k + 1 => if f i = v then some i else pIx f v (i + 1) k
def ixI (q : Option Nat) : Int32 := match q with | some i => nI i | none => -1
theorem l_placeOf {v : Int64} {n : Nat} (hs : sh[a]? = some s) (hp : pSh s no wo) (hw : sh[wo]? = some (arrL 40)) (hn : M.1 a 3 = nI n) (h40 : n ≤ 40) : ∀ k i, i + k = n → Q (some (.int (ixI (pIx (M.2.1 wo) v i k)))) (wm sh M) → sm_X L xs d 45 1 (sm_code 45 1) [(0, .ref a), (1, .long v), (3, .int (nI i))] [] (wm sh M) Q := by
  intro k
  induction k with
  | zero =>
    intro i hi hq
    have e : i = n := hi
    subst e
    repeat (first | refine x_kcg rfl ?_ | refine x_opp rfl rfl ?_ | refine x_go rfl ?_)
    refine m_getg hs rfl rfl (hp.2.1 _ _ _) ?_
    rw [hn]
    refine x_icm br_ge (fun _ => ?_) (fun h1 => absurd (nI_le (Nat.le_refl i) (by omega)) h1)
    repeat (first | refine x_kcg rfl ?_ | refine x_opp rfl rfl ?_ | refine x_go rfl ?_)
    exact x_iret rfl hq
  | succ k ih =>
    intro i hi hq
    repeat (first | refine x_kcg rfl ?_ | refine x_opp rfl rfl ?_ | refine x_go rfl ?_)
    refine m_getg hs rfl rfl (hp.2.1 _ _ _) ?_
    rw [hn]
    refine x_icm br_ge (fun h1 => absurd h1 (nI_ge (by omega) (by omega))) (fun _ => ?_)
    repeat (first | refine x_kcg rfl ?_ | refine x_opp rfl rfl ?_ | refine x_go rfl ?_)
    refine m_getg hs rfl rfl (hp.1 _ _ _) ?_
    repeat (first | refine x_kcg rfl ?_ | refine x_opp rfl rfl ?_ | refine x_go rfl ?_)
    refine m_lald hw (vp_in_nI (by omega) (by decide)) ?_
    rw [nI_clamp (by omega)]
    repeat (first | refine x_kcg rfl ?_ | refine x_opp rfl rfl ?_ | refine x_go rfl ?_)
    unfold pIx at hq
    refine x_ifc br_lne (fun h1 => ?_) (fun h1 => ?_)
    · rw [if_neg h1] at hq
      repeat (first | refine x_kcg rfl ?_ | refine x_incg rfl rfl ?_ | refine x_opp rfl rfl ?_)
      refine x_goto ?_
      refine x_lvs [(0, .ref a), (1, .long v), (3, .int (nI (i + 1)))] rfl rfl rfl ⟨rfl, rfl, rfl, trivial⟩ ?_
      exact ih (i + 1) (by omega) hq
    · rw [if_pos (Decidable.not_not.mp h1)] at hq
      repeat (first | refine x_kcg rfl ?_ | refine x_opp rfl rfl ?_ | refine x_go rfl ?_)
      exact x_iret rfl hq
theorem c_placeOf {v : Int64} {n : Nat} (hs : sh[a]? = some s) (hp : pSh s no wo) (hw : sh[wo]? = some (arrL 40)) (hn : M.1 a 3 = nI n) (h40 : n ≤ 40) (hq : Q (some (.int (ixI (pIx (M.2.1 wo) v 0 n)))) (wm sh M)) : sm_E L xs (d + 1) 45 [.ref a, .long v] (wm sh M) Q := by
  refine e_intro rfl rfl ?_
  repeat (first | refine x_kcg rfl ?_ | refine x_incg rfl rfl ?_ | refine x_opp rfl rfl ?_)
  refine x_fall ?_
  refine x_lvs [(0, .ref a), (1, .long v), (3, .int (nI 0))] rfl rfl rfl ⟨rfl, rfl, rfl, trivial⟩ ?_
  exact l_placeOf hs hp hw hn h40 n 0 (Nat.zero_add n) hq
theorem pIx_lt {f : Nat → Int64} {v : Int64} : ∀ {k i j}, pIx f v i k = some j → i ≤ j ∧ j < i + k
  | 0, _, _, h => by cases h
  | k + 1, i, j, h => by
    unfold pIx at h
    split at h
    · cases h
      omega
    · have := pIx_lt h
      omega
theorem ixI_neg {q : Option Nat} (h : ixI q < 0) (hb : ∀ i, q = some i → i < 40) : q = none := by
  cases q with
  | none => rfl
  | some i =>
    have hi := hb i rfl
    exact absurd h (nI_pos (by omega))
/-- a word comes into a list of the plain family: the memory then; (0: it is full) -/
def pTake (M : mm_T) (a wo n : Nat) (v : Int64) : mm_T × Int32 := match pIx (M.2.1 wo) v 0 n with
  | some _ => (M, 1)
  | none => if n = 40 then (M, 0) else (m_setI (m_setL M wo n v) a 3 (nI (n + 1)), 1)
theorem c_ptake {v : Int64} {e : Int32} {n : Nat} (hs : sh[a]? = some s) (hp : pSh s no wo) (hw : sh[wo]? = some (arrL 40)) (hn : M.1 a 3 = nI n) (h40 : n ≤ 40) (hq : Q (some (.int (pTake M a wo n v).2)) (wm sh (pTake M a wo n v).1)) : sm_E L xs (d + 2) 46 [.ref a, .long v, .int e] (wm sh M) Q := by
  refine e_intro rfl rfl ?_
  have hb : ∀ i, pIx (M.2.1 wo) v 0 n = some i → i < 40 := fun i h => by
    have := pIx_lt h
    omega
  repeat (first | refine x_kcg rfl ?_ | refine x_opp rfl rfl ?_ | refine x_go rfl ?_)
  refine m_callV hs (hp.2.2.2.2 _ _ _) rfl rfl (c_placeOf hs hp hw hn h40 ?_)
  unfold pTake at hq
  refine x_ifc br_lt (fun h1 => ?_) (fun h1 => ?_)
  · rw [ixI_neg h1 hb] at hq
    dsimp only at hq
    repeat (first | refine x_kcg rfl ?_ | refine x_opp rfl rfl ?_ | refine x_go rfl ?_)
    refine m_getg hs rfl rfl (hp.2.1 _ _ _) ?_
    rw [hn]
    repeat (first | refine x_kcg rfl ?_ | refine x_opp rfl rfl ?_ | refine x_go rfl ?_)
    refine x_icm br_ne (fun h2 => ?_) (fun h2 => ?_)
    · have h3 : n ≠ 40 := fun g => h2 (by rw [g]; rfl)
      rw [if_neg h3] at hq
      repeat (first | refine x_kcg rfl ?_ | refine x_opp rfl rfl ?_ | refine x_go rfl ?_)
      refine m_getg hs rfl rfl (hp.1 _ _ _) ?_
      repeat (first | refine x_kcg rfl ?_ | refine x_opp rfl rfl ?_ | refine x_go rfl ?_)
      refine m_getg hs rfl rfl (hp.2.1 _ _ _) ?_
      rw [hn]
      repeat (first | refine x_kcg rfl ?_ | refine x_opp rfl rfl ?_ | refine x_go rfl ?_)
      refine m_last hw (vp_in_nI (by omega) (by decide)) ?_
      rw [nI_clamp (by omega)]
      repeat (first | refine x_kcg rfl ?_ | refine x_opp rfl rfl ?_ | refine x_go rfl ?_)
      refine m_getg hs rfl rfl (hp.2.1 _ _ _) ?_
      rw [show (m_setL M wo n v).1 a 3 = nI n from hn]
      repeat (first | refine x_kcg rfl ?_ | refine x_opp rfl rfl ?_ | refine x_go rfl ?_)
      refine m_putI hs (hp.2.2.2.1 _ _ _ _) ?_
      repeat (first | refine x_kcg rfl ?_ | refine x_opp rfl rfl ?_ | refine x_go rfl ?_)
      refine x_zret (Or.inr rfl) ?_
      rw [nI_1]
      exact hq
    · have h3 : n = 40 := by
        have h4 : nI n = 40 := Decidable.not_not.mp h2
        exact (nI_eq (a := n) (b := 40) (by omega) (by decide)).mp h4
      rw [if_pos h3] at hq
      repeat (first | refine x_kcg rfl ?_ | refine x_opp rfl rfl ?_ | refine x_go rfl ?_)
      exact x_zret (Or.inl rfl) hq
  · cases hx : pIx (M.2.1 wo) v 0 n with
    | none =>
      rw [hx] at h1
      exact absurd (show ixI none < 0 from by decide) h1
    | some i =>
      rw [hx] at hq
      dsimp only at hq
      repeat (first | refine x_kcg rfl ?_ | refine x_opp rfl rfl ?_ | refine x_go rfl ?_)
      exact x_zret (Or.inr rfl) hq
end P1
end
section
/-! the entries of a grid -/
abbrev eT : Type := Nat × Bool × Nat × Nat
/-- what a square adds to the entries (A, B: one across, one down begins there; la, lb: how long) -/
def eStep (A B : Nat → Nat → Bool) (la lb : Nat → Nat → Nat) (i j : Nat) (s : List eT × Nat) : List eT × Nat :=
  let n := s.2 + (if (A i j || B i j) = true then 1 else 0)
  (s.1 ++ ((if A i j = true then [(i * 7 + j, false, la i j, n)] else []) ++ (if B i j = true then [(i * 7 + j, true, lb i j, n)] else [])), n)
def eRow (A B : Nat → Nat → Bool) (la lb : Nat → Nat → Nat) (i : Nat) (s : List eT × Nat) : Nat → List eT × Nat
  | 0 => s
  | j + 1 => eStep A B la lb i j (eRow A B la lb i s j)
def eAll (A B : Nat → Nat → Bool) (la lb : Nat → Nat → Nat) (W : Nat) : Nat → List eT × Nat
  | 0 => ([], 0)
  | i + 1 => eRow A B la lb i (eAll A B la lb W i) W
theorem eStep_le (A B : Nat → Nat → Bool) (la lb : Nat → Nat → Nat) (i j : Nat) (s : List eT × Nat) : s.1.length ≤ (eStep A B la lb i j s).1.length := by
  unfold eStep
  dsimp only
  rw [List.length_append]
  omega
theorem eRow_le (A B : Nat → Nat → Bool) (la lb : Nat → Nat → Nat) (i : Nat) (s : List eT × Nat) {j k : Nat} (h : j ≤ k) : (eRow A B la lb i s j).1.length ≤ (eRow A B la lb i s k).1.length := by
  induction h with
  | refl => exact Nat.le_refl _
  | step _ ih => exact Nat.le_trans ih (eStep_le A B la lb i _ _)
theorem eAll_le (A B : Nat → Nat → Bool) (la lb : Nat → Nat → Nat) (W : Nat) {i k : Nat} (h : i ≤ k) : (eAll A B la lb W i).1.length ≤ (eAll A B la lb W k).1.length := by
  induction h with
  | refl => exact Nat.le_refl _
  | step _ ih => exact Nat.le_trans ih (eRow_le A B la lb _ _ (Nat.zero_le W))
def tabIs (M : mm_T) (t sa dn le nu : Nat) (es : List eT) : Prop := M.1 t 4 = nI es.length ∧ ∀ k q, es[k]? = some q → M.1 sa k = nI q.1 ∧ M.1 dn k = zz q.2.1 ∧ M.1 le k = nI q.2.2.1 ∧ M.1 nu k = nI q.2.2.2
def tFr (M M' : mm_T) (t sa dn le nu : Nat) : Prop := M'.2 = M.2 ∧ ∀ a, a ≠ t → a ≠ sa → a ≠ dn → a ≠ le → a ≠ nu → M'.1 a = M.1 a
theorem tabIs_add {sh : List sh_T} {M M0 : mm_T} {t sa dn le nu s k n : Nat} {b : Bool} {es : List eT} (ht : tSh sh t sa dn le nu) (h : tabIs M t sa dn le nu es) (hf : tFr M0 M t sa dn le nu) :
    tabIs (tAdd M t sa dn le nu es.length (nI s) (zz b) (nI k) (nI n)) t sa dn le nu (es ++ [(s, b, k, n)]) ∧ tFr M0 (tAdd M t sa dn le nu es.length (nI s) (zz b) (nI k) (nI n)) t sa dn le nu := by
  obtain ⟨-, -, -, -, -, n1, n2, n3, n4, n5, n6, n7, n8, n9, n10⟩ := ht
  have e1 : (tAdd M t sa dn le nu es.length (nI s) (zz b) (nI k) (nI n)).1 sa = upd (M.1 sa) es.length (nI s) := by
    unfold tAdd
    rw [mI_ne _ _ _ n1, mI_ne _ _ _ (Ne.symm n7), mI_ne _ _ _ (Ne.symm n6), mI_ne _ _ _ (Ne.symm n5), mI_eq]
  have e2 : (tAdd M t sa dn le nu es.length (nI s) (zz b) (nI k) (nI n)).1 dn = upd (M.1 dn) es.length (zz b) := by
    unfold tAdd
    rw [mI_ne _ _ _ n2, mI_ne _ _ _ (Ne.symm n9), mI_ne _ _ _ (Ne.symm n8), mI_eq, mI_ne _ _ _ n5]
  have e3 : (tAdd M t sa dn le nu es.length (nI s) (zz b) (nI k) (nI n)).1 le = upd (M.1 le) es.length (nI k) := by
    unfold tAdd
    rw [mI_ne _ _ _ n3, mI_ne _ _ _ (Ne.symm n10), mI_eq, mI_ne _ _ _ n8, mI_ne _ _ _ n6]
  have e4 : (tAdd M t sa dn le nu es.length (nI s) (zz b) (nI k) (nI n)).1 nu = upd (M.1 nu) es.length (nI n) := by
    unfold tAdd
    rw [mI_ne _ _ _ n4, mI_eq, mI_ne _ _ _ n10, mI_ne _ _ _ n9, mI_ne _ _ _ n7]
  refine ⟨⟨?_, ?_⟩, ?_, ?_⟩
  · unfold tAdd
    rw [mI_eq, pk_us, List.length_append]
    rfl
  · intro j q hj
    rw [e1, e2, e3, e4]
    by_cases hl : j < es.length
    · rw [List.getElem?_append_left hl] at hj
      have hne : j ≠ es.length := by omega
      rw [pk_un hne, pk_un hne, pk_un hne, pk_un hne]
      exact h.2 j q hj
    · rw [List.getElem?_append_right (by omega)] at hj
      have h1 : j - es.length < 1 := (List.getElem?_eq_some_iff.mp hj).1
      have h2 : j = es.length := by omega
      subst h2
      rw [Nat.sub_self] at hj
      cases hj
      rw [pk_us, pk_us, pk_us, pk_us]
      exact ⟨rfl, rfl, rfl, rfl⟩
  · exact hf.1
  · intro a g1 g2 g3 g4 g5
    unfold tAdd
    rw [mI_ne _ _ _ g1, mI_ne _ _ _ g5, mI_ne _ _ _ g4, mI_ne _ _ _ g3, mI_ne _ _ _ g2]
    exact hf.2 a g1 g2 g3 g4 g5
def eA (h : Int32) (ln cs : Nat → Int32) (i j : Nat) : Bool := if gJR h ln cs (nI i) (nI j) = false then false else if gJR h ln cs (nI i) (nI j - 1) = true then false else true
def eB (h : Int32) (ln cs : Nat → Int32) (i j : Nat) : Bool := if gJB h ln cs (nI i) (nI j) = false then false else if gJB h ln cs (nI i - 1) (nI j) = true then false else true
def eLa (h : Int32) (ln cs : Nat → Int32) (i j : Nat) : Nat := runF (fun n => gJR h ln cs (nI i) (nI (j + n - 1))) 1 6
def eLb (h : Int32) (ln cs : Nat → Int32) (i j : Nat) : Nat := runF (fun n => gJB h ln cs (nI (i + n - 1)) (nI j)) 1 6
def ents (h : Int32) (ln cs : Nat → Int32) (W H : Nat) : List eT := (eAll (eA h ln cs) (eB h ln cs) (eLa h ln cs) (eLb h ln cs) W H).1
section LA
variable {L : Nat} {xs : Nat → Int32} {d : Nat} {sh : List sh_T} {M : mm_T} {Q : Option Value → sm_W → Prop} {g c l sp re t sa dn le nu : Nat}
theorem c_lookAt {H Wd : Nat} (hg : gSh sh g c l sp re) (ht : tSh sh t sa dn le nu) (hk : gOK M g l) (hH : M.1 g 5 = nI H) (hH7 : H ≤ 7) (hW : M.1 g 6 = nI Wd) (hW7 : Wd ≤ 7)
    (hgt : g ≠ t ∧ g ≠ sa ∧ g ≠ dn ∧ g ≠ le ∧ g ≠ nu) (hct : c ≠ t ∧ c ≠ sa ∧ c ≠ dn ∧ c ≠ le ∧ c ≠ nu) (hlt : l ≠ t ∧ l ≠ sa ∧ l ≠ dn ∧ l ≠ le ∧ l ≠ nu)
    (h42 : (ents (M.1 g 5) (M.1 l) (M.1 c) Wd H).length ≤ 42)
    (hq : ∀ M', tabIs M' t sa dn le nu (ents (M.1 g 5) (M.1 l) (M.1 c) Wd H) → tFr M M' t sa dn le nu → Q none (wm sh M')) : sm_E L xs (d + 5) 74 [.ref t, .ref g] (wm sh M) Q := by
  have key : ∀ M', tFr M M' t sa dn le nu → M'.1 g = M.1 g ∧ M'.1 c = M.1 c ∧ M'.1 l = M.1 l ∧ gOK M' g l := by
    intro M' hf
    have k1 := hf.2 g hgt.1 hgt.2.1 hgt.2.2.1 hgt.2.2.2.1 hgt.2.2.2.2
    have k2 := hf.2 c hct.1 hct.2.1 hct.2.2.1 hct.2.2.2.1 hct.2.2.2.2
    have k3 := hf.2 l hlt.1 hlt.2.1 hlt.2.2.1 hlt.2.2.2.1 hlt.2.2.2.2
    refine ⟨k1, k2, k3, ?_⟩
    unfold gOK
    rw [k1, k3]
    exact hk
  unfold ents at h42 hq
  generalize hA : eA (M.1 g 5) (M.1 l) (M.1 c) = A at h42 hq
  generalize hB : eB (M.1 g 5) (M.1 l) (M.1 c) = B at h42 hq
  generalize hla : eLa (M.1 g 5) (M.1 l) (M.1 c) = la at h42 hq
  generalize hlb : eLb (M.1 g 5) (M.1 l) (M.1 c) = lb at h42 hq
  refine e_intro rfl rfl ?_
  repeat (first | refine x_kcg rfl ?_ | refine x_incg rfl rfl ?_ | refine x_opp rfl rfl ?_)
  refine m_putI ht.1 rfl ?_
  repeat (first | refine x_kcg rfl ?_ | refine x_incg rfl rfl ?_ | refine x_opp rfl rfl ?_)
  refine x_fall ?_
  refine x_lvs [(0, .ref t), (1, .ref g), (2, .int (nI 0)), (3, .int (nI 0))] rfl rfl rfl ⟨rfl, rfl, rfl, rfl, trivial⟩ ?_
  have hstart : tabIs (m_setI M t 4 0) t sa dn le nu [] ∧ tFr M (m_setI M t 4 0) t sa dn le nu := by
    refine ⟨⟨by rw [mI_eq]; rfl, fun k q h => (by cases h)⟩, rfl, fun a h1 _ _ _ _ => mI_ne _ _ _ h1⟩
  refine loop_dn (P := fun i => ∀ M', tabIs M' t sa dn le nu (eAll A B la lb Wd i).1 → tFr M M' t sa dn le nu → sm_X L xs (d + 4) 74 1 (sm_code 74 1) [(0, .ref t), (1, .ref g), (2, .int (nI (eAll A B la lb Wd i).2)), (3, .int (nI i))] [] (wm sh M') Q) H ?_ ?_ _ hstart.1 hstart.2
  · intro M' h1 h2
    obtain ⟨k1, -, -, -⟩ := key M' h2
    repeat (first | refine x_kcg rfl ?_ | refine x_opp rfl rfl ?_ | refine x_go rfl ?_ | refine m_getg hg.1 rfl rfl rfl ?_)
    rw [k1, hH]
    refine x_icm br_ge (fun _ => ?_) (fun h3 => absurd (nI_le (Nat.le_refl H) (by omega)) h3)
    exact x_ret (hq M' h1 h2)
  · intro i hi hP M' h1 h2
    obtain ⟨k1, -, -, -⟩ := key M' h2
    repeat (first | refine x_kcg rfl ?_ | refine x_opp rfl rfl ?_ | refine x_go rfl ?_ | refine m_getg hg.1 rfl rfl rfl ?_)
    rw [k1, hH]
    refine x_icm br_ge (fun h3 => absurd h3 (nI_ge hi (by omega))) (fun _ => ?_)
    repeat (first | refine x_kcg rfl ?_ | refine x_incg rfl rfl ?_ | refine x_opp rfl rfl ?_)
    refine x_fall ?_
    refine x_lvs [(0, .ref t), (1, .ref g), (2, .int (nI (eRow A B la lb i (eAll A B la lb Wd i) 0).2)), (3, .int (nI i)), (4, .int (nI 0))] rfl rfl rfl ⟨rfl, rfl, rfl, rfl, rfl, trivial⟩ ?_
    refine loop_dn (P := fun j => ∀ M', tabIs M' t sa dn le nu (eRow A B la lb i (eAll A B la lb Wd i) j).1 → tFr M M' t sa dn le nu → sm_X L xs (d + 4) 74 3 (sm_code 74 3) [(0, .ref t), (1, .ref g), (2, .int (nI (eRow A B la lb i (eAll A B la lb Wd i) j).2)), (3, .int (nI i)), (4, .int (nI j))] [] (wm sh M') Q) Wd ?_ ?_ M' h1 h2
    · intro M1 g1 g2
      obtain ⟨k1, -, -, -⟩ := key M1 g2
      repeat (first | refine x_kcg rfl ?_ | refine x_opp rfl rfl ?_ | refine x_go rfl ?_ | refine m_getg hg.1 rfl rfl rfl ?_)
      rw [k1, hW]
      refine x_icm br_ge (fun _ => ?_) (fun h3 => absurd (nI_le (Nat.le_refl Wd) (by omega)) h3)
      repeat (first | refine x_kcg rfl ?_ | refine x_incg rfl rfl ?_ | refine x_opp rfl rfl ?_)
      refine x_goto ?_
      refine x_lvs [(0, .ref t), (1, .ref g), (2, .int (nI (eAll A B la lb Wd (i + 1)).2)), (3, .int (nI (i + 1)))] rfl rfl rfl ⟨rfl, rfl, rfl, rfl, trivial⟩ ?_
      exact hP M1 g1 g2
    · intro j hj hP2 M1 g1 g2
      obtain ⟨k1, k2, k3, k4⟩ := key M1 g2
      have hle : (eStep A B la lb i j (eRow A B la lb i (eAll A B la lb Wd i) j)).1.length ≤ 42 := by
        refine Nat.le_trans ?_ h42
        refine Nat.le_trans ?_ (eAll_le A B la lb Wd (show i + 1 ≤ H by omega))
        exact eRow_le A B la lb i _ (show j + 1 ≤ Wd by omega)
      have hP3 : ∀ M', tabIs M' t sa dn le nu (eStep A B la lb i j (eRow A B la lb i (eAll A B la lb Wd i) j)).1 → tFr M M' t sa dn le nu → sm_X L xs (d + 4) 74 3 (sm_code 74 3) [(0, .ref t), (1, .ref g), (2, .int (nI (eStep A B la lb i j (eRow A B la lb i (eAll A B la lb Wd i) j)).2)), (3, .int (nI i)), (4, .int (nI (j + 1)))] [] (wm sh M') Q := hP2
      generalize eRow A B la lb i (eAll A B la lb Wd i) j = s at g1 hle hP3 ⊢
      obtain ⟨es, num⟩ := s
      dsimp only at g1 ⊢
      unfold eStep at hle hP3
      dsimp only at hle hP3
      repeat (first | refine x_kcg rfl ?_ | refine x_opp rfl rfl ?_ | refine x_go rfl ?_ | refine m_getg hg.1 rfl rfl rfl ?_)
      rw [k1, hW]
      refine x_icm br_ge (fun h3 => absurd h3 (nI_ge hj (by omega))) (fun _ => ?_)
      have eb : eB (M.1 g 5) (M.1 l) (M.1 c) i j = B i j := by rw [hB]
      have ea : eA (M.1 g 5) (M.1 l) (M.1 c) i j = A i j := by rw [hA]
      generalize hn1 : num + (if (A i j || B i j) = true then 1 else 0) = n1 at hle hP3
      rw [List.length_append, List.length_append] at hle
      have T19 : ∀ M2, tabIs M2 t sa dn le nu (es ++ ((if A i j = true then [(i * 7 + j, false, la i j, n1)] else []) ++ (if B i j = true then [(i * 7 + j, true, lb i j, n1)] else []))) → tFr M M2 t sa dn le nu → sm_X L xs (d + 4) 74 19 (sm_code 74 19) [(0, .ref t), (1, .ref g), (2, .int (nI n1)), (3, .int (nI i)), (4, .int (nI j)), (5, .int (zz (A i j))), (6, .int (zz (B i j)))] [] (wm sh M2) Q := by
        intro M2 q1 q2
        repeat (first | refine x_kcg rfl ?_ | refine x_incg rfl rfl ?_ | refine x_opp rfl rfl ?_)
        refine x_goto ?_
        refine x_lvs [(0, .ref t), (1, .ref g), (2, .int (nI n1)), (3, .int (nI i)), (4, .int (nI (j + 1)))] rfl rfl rfl ⟨rfl, rfl, rfl, rfl, rfl, trivial⟩ ?_
        exact hP3 M2 q1 q2
      have T17 : ∀ M2, tabIs M2 t sa dn le nu (es ++ (if A i j = true then [(i * 7 + j, false, la i j, n1)] else [])) → tFr M M2 t sa dn le nu → sm_X L xs (d + 4) 74 17 (sm_code 74 17) [(0, .ref t), (1, .ref g), (2, .int (nI n1)), (3, .int (nI i)), (4, .int (nI j)), (5, .int (zz (A i j))), (6, .int (zz (B i j)))] [] (wm sh M2) Q := by
        intro M2 q1 q2
        repeat (first | refine x_kcg rfl ?_ | refine x_opp rfl rfl ?_ | refine x_go rfl ?_)
        refine x_ifc br_eqz (fun h3 => ?_) (fun h3 => ?_)
        · refine T19 M2 ?_ q2
          rw [if_neg (show ¬ B i j = true by rw [h3]; exact Bool.false_ne_true), List.append_nil]
          exact q1
        · have h3 := nf_t h3
          obtain ⟨u1, u2, u3, u4⟩ := key M2 q2
          rw [if_pos h3] at hle
          rw [show ([(i * 7 + j, true, lb i j, n1)] : List eT).length = 1 from rfl] at hle
          repeat (first | refine x_kcg rfl ?_ | refine x_opp rfl rfl ?_ | refine x_go rfl ?_)
          rw [mul7]
          refine m_callS rfl rfl (c_downL hg u4 ?_)
          rw [u1, u2, u3, show runF (fun n => gJB (M.1 g 5) (M.1 l) (M.1 c) (nI (i + n - 1)) (nI j)) 1 6 = lb i j by rw [← hlb]; rfl]
          repeat (first | refine x_kcg rfl ?_ | refine x_opp rfl rfl ?_ | refine x_go rfl ?_)
          have hlen : (es ++ (if A i j = true then [(i * 7 + j, false, la i j, n1)] else [])).length < 42 := by
            rw [List.length_append]
            omega
          refine m_callV ht.1 rfl rfl rfl (c_add ht q1.1 hlen (Or.inr rfl) ?_)
          obtain ⟨v1, v2⟩ := tabIs_add (s := i * 7 + j) (b := true) (k := lb i j) (n := n1) ht q1 q2
          repeat (first | refine x_kcg rfl ?_ | refine x_incg rfl rfl ?_ | refine x_opp rfl rfl ?_)
          refine x_fall ?_
          refine T19 _ ?_ v2
          rw [if_pos h3, ← List.append_assoc]
          exact v1
      have T15 : ∀ M2, tabIs M2 t sa dn le nu es → tFr M M2 t sa dn le nu → sm_X L xs (d + 4) 74 15 (sm_code 74 15) [(0, .ref t), (1, .ref g), (2, .int (nI n1)), (3, .int (nI i)), (4, .int (nI j)), (5, .int (zz (A i j))), (6, .int (zz (B i j)))] [] (wm sh M2) Q := by
        intro M2 q1 q2
        repeat (first | refine x_kcg rfl ?_ | refine x_opp rfl rfl ?_ | refine x_go rfl ?_)
        refine x_ifc br_eqz (fun h3 => ?_) (fun h3 => ?_)
        · refine T17 M2 ?_ q2
          rw [if_neg (show ¬ A i j = true by rw [h3]; exact Bool.false_ne_true), List.append_nil]
          exact q1
        · have h3 := nf_t h3
          obtain ⟨u1, u2, u3, u4⟩ := key M2 q2
          rw [if_pos h3] at hle
          rw [show ([(i * 7 + j, false, la i j, n1)] : List eT).length = 1 from rfl] at hle
          repeat (first | refine x_kcg rfl ?_ | refine x_opp rfl rfl ?_ | refine x_go rfl ?_)
          rw [mul7]
          refine m_callS rfl rfl (c_across hg u4 ?_)
          rw [u1, u2, u3, show runF (fun n => gJR (M.1 g 5) (M.1 l) (M.1 c) (nI i) (nI (j + n - 1))) 1 6 = la i j by rw [← hla]; rfl]
          repeat (first | refine x_kcg rfl ?_ | refine x_opp rfl rfl ?_ | refine x_go rfl ?_)
          refine m_callV ht.1 rfl rfl rfl (c_add ht q1.1 (by omega) (Or.inl rfl) ?_)
          obtain ⟨v1, v2⟩ := tabIs_add (s := i * 7 + j) (b := false) (k := la i j) (n := n1) ht q1 q2
          repeat (first | refine x_kcg rfl ?_ | refine x_incg rfl rfl ?_ | refine x_opp rfl rfl ?_)
          refine x_fall ?_
          refine T17 _ ?_ v2
          rw [if_pos h3]
          exact v1
      have T12 : sm_X L xs (d + 4) 74 12 (sm_code 74 12) [(0, .ref t), (1, .ref g), (2, .int (nI num)), (3, .int (nI i)), (4, .int (nI j)), (5, .int (zz (A i j)))] [.int (zz (B i j))] (wm sh M1) Q := by
        have T14 : (A i j || B i j) = true → sm_X L xs (d + 4) 74 14 (sm_code 74 14) [(0, .ref t), (1, .ref g), (2, .int (nI num)), (3, .int (nI i)), (4, .int (nI j)), (5, .int (zz (A i j))), (6, .int (zz (B i j)))] [] (wm sh M1) Q := by
          intro hab
          rw [if_pos hab] at hn1
          subst hn1
          repeat (first | refine x_kcg rfl ?_ | refine x_incg rfl rfl ?_ | refine x_opp rfl rfl ?_)
          refine x_fall ?_
          refine x_lvs [(0, .ref t), (1, .ref g), (2, .int (nI (num + 1))), (3, .int (nI i)), (4, .int (nI j)), (5, .int (zz (A i j))), (6, .int (zz (B i j)))] rfl rfl rfl ⟨rfl, rfl, rfl, rfl, rfl, rfl, rfl, trivial⟩ ?_
          exact T15 M1 g1 g2
        repeat (first | refine x_kcg rfl ?_ | refine x_opp rfl rfl ?_ | refine x_go rfl ?_)
        refine x_ifc br_nez (fun h3 => ?_) (fun h3 => ?_)
        · refine x_lvs [(0, .ref t), (1, .ref g), (2, .int (nI num)), (3, .int (nI i)), (4, .int (nI j)), (5, .int (zz (A i j))), (6, .int (zz (B i j)))] rfl rfl rfl ⟨rfl, rfl, rfl, rfl, rfl, rfl, rfl, trivial⟩ ?_
          exact T14 (by rw [h3]; rfl)
        · repeat (first | refine x_kcg rfl ?_ | refine x_opp rfl rfl ?_ | refine x_go rfl ?_)
          refine x_ifc br_eqz (fun h4 => ?_) (fun h4 => ?_)
          · rw [if_neg (by rw [nt_f h3, h4]; exact Bool.false_ne_true)] at hn1
            subst hn1
            refine x_lvs [(0, .ref t), (1, .ref g), (2, .int (nI num)), (3, .int (nI i)), (4, .int (nI j)), (5, .int (zz (A i j))), (6, .int (zz (B i j)))] rfl rfl rfl ⟨rfl, rfl, rfl, rfl, rfl, rfl, rfl, trivial⟩ ?_
            exact T15 M1 g1 g2
          · refine x_lvs [(0, .ref t), (1, .ref g), (2, .int (nI num)), (3, .int (nI i)), (4, .int (nI j)), (5, .int (zz (A i j))), (6, .int (zz (B i j)))] rfl rfl rfl ⟨rfl, rfl, rfl, rfl, rfl, rfl, rfl, trivial⟩ ?_
            exact T14 (by rw [nf_t h4, Bool.or_true])
      have T8 : sm_X L xs (d + 4) 74 8 (sm_code 74 8) [(0, .ref t), (1, .ref g), (2, .int (nI num)), (3, .int (nI i)), (4, .int (nI j))] [.int (zz (A i j))] (wm sh M1) Q := by
        unfold eB at eb
        repeat (first | refine x_kcg rfl ?_ | refine x_opp rfl rfl ?_ | refine x_go rfl ?_)
        refine m_callV hg.1 rfl rfl rfl (c_joinsBelow hg k4 ?_)
        rw [k1, k2, k3]
        refine x_ifc br_eqz (fun h3 => ?_) (fun h3 => ?_)
        · rw [if_pos h3] at eb
          rw [← eb] at T12
          repeat (first | refine x_kcg rfl ?_ | refine x_incg rfl rfl ?_ | refine x_opp rfl rfl ?_)
          refine x_fall ?_
          refine x_lvs [(0, .ref t), (1, .ref g), (2, .int (nI num)), (3, .int (nI i)), (4, .int (nI j)), (5, .int (zz (A i j)))] rfl rfl rfl ⟨rfl, rfl, rfl, rfl, rfl, rfl, trivial⟩ ?_
          exact T12
        · rw [if_neg h3] at eb
          repeat (first | refine x_kcg rfl ?_ | refine x_opp rfl rfl ?_ | refine x_go rfl ?_)
          refine m_callV hg.1 rfl rfl rfl (c_joinsBelow hg k4 ?_)
          rw [k1, k2, k3]
          refine x_ifc br_nez (fun h4 => ?_) (fun h4 => ?_)
          · rw [if_pos h4] at eb
            rw [← eb] at T12
            repeat (first | refine x_kcg rfl ?_ | refine x_incg rfl rfl ?_ | refine x_opp rfl rfl ?_)
            refine x_fall ?_
            refine x_lvs [(0, .ref t), (1, .ref g), (2, .int (nI num)), (3, .int (nI i)), (4, .int (nI j)), (5, .int (zz (A i j)))] rfl rfl rfl ⟨rfl, rfl, rfl, rfl, rfl, rfl, trivial⟩ ?_
            exact T12
          · rw [if_neg h4] at eb
            rw [← eb] at T12
            repeat (first | refine x_kcg rfl ?_ | refine x_incg rfl rfl ?_ | refine x_opp rfl rfl ?_)
            refine x_goto ?_
            refine x_lvs [(0, .ref t), (1, .ref g), (2, .int (nI num)), (3, .int (nI i)), (4, .int (nI j)), (5, .int (zz (A i j)))] rfl rfl rfl ⟨rfl, rfl, rfl, rfl, rfl, rfl, trivial⟩ ?_
            exact T12
      unfold eA at ea
      repeat (first | refine x_kcg rfl ?_ | refine x_opp rfl rfl ?_ | refine x_go rfl ?_)
      refine m_callV hg.1 rfl rfl rfl (c_joinsRight hg k4 ?_)
      rw [k1, k2, k3]
      refine x_ifc br_eqz (fun h3 => ?_) (fun h3 => ?_)
      · rw [if_pos h3] at ea
        rw [← ea] at T8
        repeat (first | refine x_kcg rfl ?_ | refine x_incg rfl rfl ?_ | refine x_opp rfl rfl ?_)
        refine x_fall ?_
        exact T8
      · rw [if_neg h3] at ea
        repeat (first | refine x_kcg rfl ?_ | refine x_opp rfl rfl ?_ | refine x_go rfl ?_)
        refine m_callV hg.1 rfl rfl rfl (c_joinsRight hg k4 ?_)
        rw [k1, k2, k3]
        refine x_ifc br_nez (fun h4 => ?_) (fun h4 => ?_)
        · rw [if_pos h4] at ea
          rw [← ea] at T8
          repeat (first | refine x_kcg rfl ?_ | refine x_incg rfl rfl ?_ | refine x_opp rfl rfl ?_)
          refine x_fall ?_
          exact T8
        · rw [if_neg h4] at ea
          rw [← ea] at T8
          repeat (first | refine x_kcg rfl ?_ | refine x_incg rfl rfl ?_ | refine x_opp rfl rfl ?_)
          refine x_goto ?_
          exact T8
end LA
end
section
/-! rules that fit any instruction at the head, for walks of whole trees -/
def ifI (i : sm_I) : Option (Jvm.ClassFile.Cond × Nat) := match i with | .ifCond c t => some (c, t.toNat) | _ => none
def icI (i : sm_I) : Option (Jvm.ClassFile.Cond × Nat) := match i with | .if_icmp c t => some (c, t.toNat) | _ => none
def rtI (i : sm_I) : Nat := match i with | .ireturn => 1 | .lreturn => 2 | .areturn => 3 | .return_ => 4 | .iaload => 5 | .baload => 6 | .laload => 7 | .aaload => 8 | .iastore => 9 | .bastore => 10 | .lastore => 11 | .aastore => 12 | .idiv => 13 | .irem => 14 | _ => 0
def pfI (i : sm_I) : Option Nat := match i with | .putfield k => some k | _ => none
def ivI (i : sm_I) : Option (Nat × Nat) := match i with | .invokestatic k => some (0, k) | .invokespecial k => some (1, k) | .invokevirtual k => some (2, k) | _ => none
def stR (st : List Value) : Nat := match st with | _ :: .ref a :: _ => a | _ => 0
theorem tnf {b : Bool} (h : b = true) : ¬ b = false := by rw [h]; decide
theorem fnt {b : Bool} (h : b = false) : ¬ b = true := by rw [h]; decide
def isIf (i : sm_I) : Bool := match i with | .ifCond _ _ => true | _ => false
def isIc (i : sm_I) : Bool := match i with | .if_icmp _ _ => true | _ => false
def isGf (i : sm_I) : Bool := match i with | .getfield _ => true | _ => false
def isPf (i : sm_I) : Bool := match i with | .putfield _ => true | _ => false
def isIv (i : sm_I) : Bool := match i with | .invokestatic _ => true | .invokevirtual _ => true | .invokespecial _ => true | _ => false
def isAr (i : sm_I) : Bool := Nat.ble 5 (rtI i)
def isRt (i : sm_I) : Bool := Nat.ble 1 (rtI i) && Nat.ble (rtI i) 4
section AU
variable {L : Nat} {xs : Nat → Int32} {d y cb : Nat} {is : List sm_I} {lv : sm_L} {st st0 : List Value} {w : sm_W} {Q : Option Value → sm_W → Prop} {i : sm_I} {sh : List sh_T} {M : mm_T} {a n : Nat} {s : sh_T} {x z : Int32} {t : Nat}
theorem a_at (f : sm_I → Bool) (hi : f i = true) (h : sm_X L xs d y cb (i :: is) lv st0 w Q) : sm_X L xs d y cb (i :: is) lv st0 w Q := h
theorem a_stop (b : Nat) (hb : Nat.beq cb b = true) (h : sm_X L xs d y cb is lv st0 w Q) : sm_X L xs d y cb is lv st0 w Q := h
theorem a_if {cd : Jvm.ClassFile.Cond} {P : Prop} (hi : ifI i = some (cd, t)) (hst : st0 = .int x :: st) (hP : ∀ a b : sm_O, (P → sm_br cd x 0 a b = a) ∧ (¬ P → sm_br cd x 0 a b = b)) (h1 : P → sm_X L xs d y t (sm_code y t) lv st w Q) (h2 : ¬ P → sm_X L xs d y (cb + 1) (sm_code y (cb + 1)) lv st w Q) : sm_X L xs d y cb (i :: is) lv st0 w Q := by
  unfold ifI at hi
  split at hi
  · cases hi
    subst hst
    exact x_ifc hP h1 h2
  · cases hi
theorem a_ic {cd : Jvm.ClassFile.Cond} {P : Prop} (hi : icI i = some (cd, t)) (hst : st0 = .int z :: .int x :: st) (hP : ∀ a b : sm_O, (P → sm_br cd x z a b = a) ∧ (¬ P → sm_br cd x z a b = b)) (h1 : P → sm_X L xs d y t (sm_code y t) lv st w Q) (h2 : ¬ P → sm_X L xs d y (cb + 1) (sm_code y (cb + 1)) lv st w Q) : sm_X L xs d y cb (i :: is) lv st0 w Q := by
  unfold icI at hi
  split at hi
  · cases hi
    subst hst
    exact x_icm hP h1 h2
  · cases hi
theorem a_ifT {cd : Jvm.ClassFile.Cond} {P : Prop} (hi : ifI i = some (cd, t)) (hst : st0 = .int x :: st) (hP : ∀ a b : sm_O, (P → sm_br cd x 0 a b = a) ∧ (¬ P → sm_br cd x 0 a b = b)) (hp : P) (h1 : sm_X L xs d y t (sm_code y t) lv st w Q) : sm_X L xs d y cb (i :: is) lv st0 w Q := a_if hi hst hP (fun _ => h1) (fun h => absurd hp h)
theorem a_ifF {cd : Jvm.ClassFile.Cond} {P : Prop} (hi : ifI i = some (cd, t)) (hst : st0 = .int x :: st) (hP : ∀ a b : sm_O, (P → sm_br cd x 0 a b = a) ∧ (¬ P → sm_br cd x 0 a b = b)) (hp : ¬ P) (h2 : sm_X L xs d y (cb + 1) (sm_code y (cb + 1)) lv st w Q) : sm_X L xs d y cb (i :: is) lv st0 w Q := a_if hi hst hP (fun h => absurd h hp) (fun _ => h2)
theorem a_icT {cd : Jvm.ClassFile.Cond} {P : Prop} (hi : icI i = some (cd, t)) (hst : st0 = .int z :: .int x :: st) (hP : ∀ a b : sm_O, (P → sm_br cd x z a b = a) ∧ (¬ P → sm_br cd x z a b = b)) (hp : P) (h1 : sm_X L xs d y t (sm_code y t) lv st w Q) : sm_X L xs d y cb (i :: is) lv st0 w Q := a_ic hi hst hP (fun _ => h1) (fun h => absurd hp h)
theorem a_icF {cd : Jvm.ClassFile.Cond} {P : Prop} (hi : icI i = some (cd, t)) (hst : st0 = .int z :: .int x :: st) (hP : ∀ a b : sm_O, (P → sm_br cd x z a b = a) ∧ (¬ P → sm_br cd x z a b = b)) (hp : ¬ P) (h2 : sm_X L xs d y (cb + 1) (sm_code y (cb + 1)) lv st w Q) : sm_X L xs d y cb (i :: is) lv st0 w Q := a_ic hi hst hP (fun h => absurd h hp) (fun _ => h2)
theorem a_iret (hi : rtI i = 1) (hst : st0 = [.int x]) (hb : sm_bo y = false) (h : Q (some (.int x)) w) : sm_X L xs d y cb (i :: is) lv st0 w Q := by
  subst hst
  cases i <;> first | exact x_iret hb h | cases hi
theorem a_zret (hi : rtI i = 1) (hst : st0 = [.int x]) (hx : x = 0 ∨ x = 1) (h : Q (some (.int x)) w) : sm_X L xs d y cb (i :: is) lv st0 w Q := by
  subst hst
  cases i <;> first | exact x_zret hx h | cases hi
theorem a_lret {v : Int64} (hi : rtI i = 2) (hst : st0 = [.long v]) (h : Q (some (.long v)) w) : sm_X L xs d y cb (i :: is) lv st0 w Q := by
  subst hst
  cases i <;> first | exact x_lret h | cases hi
theorem a_ret (hi : rtI i = 4) (hst : st0 = []) (h : Q none w) : sm_X L xs d y cb (i :: is) lv st0 w Q := by
  subst hst
  cases i <;> first | exact x_ret h | cases hi
theorem a_ialdN {k : Nat} (hs : sh[a]? = some (arrI n)) (hi : rtI i = 5) (ha : stR st0 = a) (hst : st0 = .int (nI k) :: .ref a :: st) (hk : k < n) (hn : n < 2 ^ 31) (h : sm_X L xs d y cb is lv (.int (M.1 a k) :: st) (wm sh M) Q) : sm_X L xs d y cb (i :: is) lv st0 (wm sh M) Q := by
  subst hst
  have e : (nI k).toNatClampNeg = k := nI_clamp (by omega)
  cases i <;> first | exact m_iald hs (vp_in_nI hk hn) (by rw [e]; exact h) | cases hi
theorem a_baldN {k : Nat} (hs : sh[a]? = some (arrZ n)) (hi : rtI i = 6) (ha : stR st0 = a) (hst : st0 = .int (nI k) :: .ref a :: st) (hk : k < n) (hn : n < 2 ^ 31) (h : sm_X L xs d y cb is lv (.int (M.1 a k) :: st) (wm sh M) Q) : sm_X L xs d y cb (i :: is) lv st0 (wm sh M) Q := by
  subst hst
  have e : (nI k).toNatClampNeg = k := nI_clamp (by omega)
  cases i <;> first | exact m_bald hs (vp_in_nI hk hn) (by rw [e]; exact h) | cases hi
theorem a_laldN {k : Nat} (hs : sh[a]? = some (arrL n)) (hi : rtI i = 7) (ha : stR st0 = a) (hst : st0 = .int (nI k) :: .ref a :: st) (hk : k < n) (hn : n < 2 ^ 31) (h : sm_X L xs d y cb is lv (.long (M.2.1 a k) :: st) (wm sh M) Q) : sm_X L xs d y cb (i :: is) lv st0 (wm sh M) Q := by
  subst hst
  have e : (nI k).toNatClampNeg = k := nI_clamp (by omega)
  cases i <;> first | exact m_lald hs (vp_in_nI hk hn) (by rw [e]; exact h) | cases hi
theorem a_iastN {k : Nat} {v : Int32} (hs : sh[a]? = some (arrI n)) (hi : rtI i = 9) (ha : stR (st0.drop 1) = a) (hst : st0 = .int v :: .int (nI k) :: .ref a :: st) (hk : k < n) (hn : n < 2 ^ 31) (h : sm_X L xs d y cb is lv st (wm sh (m_setI M a k v)) Q) : sm_X L xs d y cb (i :: is) lv st0 (wm sh M) Q := by
  subst hst
  have e : (nI k).toNatClampNeg = k := nI_clamp (by omega)
  cases i <;> first | exact m_iast hs (vp_in_nI hk hn) (by rw [e]; exact h) | cases hi
theorem a_bastN {k : Nat} {v : Int32} (hs : sh[a]? = some (arrZ n)) (hi : rtI i = 10) (ha : stR (st0.drop 1) = a) (hst : st0 = .int v :: .int (nI k) :: .ref a :: st) (hk : k < n) (hn : n < 2 ^ 31) (hv : v = 0 ∨ v = 1) (h : sm_X L xs d y cb is lv st (wm sh (m_setI M a k v)) Q) : sm_X L xs d y cb (i :: is) lv st0 (wm sh M) Q := by
  subst hst
  have e : (nI k).toNatClampNeg = k := nI_clamp (by omega)
  cases i <;> first | exact m_bast hs (vp_in_nI hk hn) hv (by rw [e]; exact h) | cases hi
theorem a_lastN {k : Nat} {v : Int64} (hs : sh[a]? = some (arrL n)) (hi : rtI i = 11) (ha : stR (st0.drop 1) = a) (hst : st0 = .long v :: .int (nI k) :: .ref a :: st) (hk : k < n) (hn : n < 2 ^ 31) (h : sm_X L xs d y cb is lv st (wm sh (m_setL M a k v)) Q) : sm_X L xs d y cb (i :: is) lv st0 (wm sh M) Q := by
  subst hst
  have e : (nI k).toNatClampNeg = k := nI_clamp (by omega)
  cases i <;> first | exact m_last hs (vp_in_nI hk hn) (by rw [e]; exact h) | cases hi
theorem a_iald {j : Int32} (hs : sh[a]? = some (arrI n)) (hi : rtI i = 5) (hst : st0 = .int j :: .ref a :: st) (hj : vp_in j n) (h : sm_X L xs d y cb is lv (.int (M.1 a j.toNatClampNeg) :: st) (wm sh M) Q) : sm_X L xs d y cb (i :: is) lv st0 (wm sh M) Q := by
  subst hst
  cases i <;> first | exact m_iald hs hj h | cases hi
theorem a_bald {j : Int32} (hs : sh[a]? = some (arrZ n)) (hi : rtI i = 6) (hst : st0 = .int j :: .ref a :: st) (hj : vp_in j n) (h : sm_X L xs d y cb is lv (.int (M.1 a j.toNatClampNeg) :: st) (wm sh M) Q) : sm_X L xs d y cb (i :: is) lv st0 (wm sh M) Q := by
  subst hst
  cases i <;> first | exact m_bald hs hj h | cases hi
theorem a_lald {j : Int32} (hs : sh[a]? = some (arrL n)) (hi : rtI i = 7) (hst : st0 = .int j :: .ref a :: st) (hj : vp_in j n) (h : sm_X L xs d y cb is lv (.long (M.2.1 a j.toNatClampNeg) :: st) (wm sh M) Q) : sm_X L xs d y cb (i :: is) lv st0 (wm sh M) Q := by
  subst hst
  cases i <;> first | exact m_lald hs hj h | cases hi
theorem a_iast {j v : Int32} (hs : sh[a]? = some (arrI n)) (hi : rtI i = 9) (hst : st0 = .int v :: .int j :: .ref a :: st) (hj : vp_in j n) (h : sm_X L xs d y cb is lv st (wm sh (m_setI M a j.toNatClampNeg v)) Q) : sm_X L xs d y cb (i :: is) lv st0 (wm sh M) Q := by
  subst hst
  cases i <;> first | exact m_iast hs hj h | cases hi
theorem a_bast {j v : Int32} (hs : sh[a]? = some (arrZ n)) (hi : rtI i = 10) (hst : st0 = .int v :: .int j :: .ref a :: st) (hj : vp_in j n) (hv : v = 0 ∨ v = 1) (h : sm_X L xs d y cb is lv st (wm sh (m_setI M a j.toNatClampNeg v)) Q) : sm_X L xs d y cb (i :: is) lv st0 (wm sh M) Q := by
  subst hst
  cases i <;> first | exact m_bast hs hj hv h | cases hi
theorem a_last {j : Int32} {v : Int64} (hs : sh[a]? = some (arrL n)) (hi : rtI i = 11) (hst : st0 = .long v :: .int j :: .ref a :: st) (hj : vp_in j n) (h : sm_X L xs d y cb is lv st (wm sh (m_setL M a j.toNatClampNeg v)) Q) : sm_X L xs d y cb (i :: is) lv st0 (wm sh M) Q := by
  subst hst
  cases i <;> first | exact m_last hs hj h | cases hi
theorem a_putI {k : Nat} {v : Int32} (hs : sh[a]? = some s) (hi : pfI i = some k) (hst : st0 = .int v :: .ref a :: st) (hv : m_pf (s (M.1 a) (M.2.1 a) (M.2.2 a)) k (.int v) = some (s (upd (M.1 a) (k / 4 % 128) v) (M.2.1 a) (M.2.2 a))) (h : sm_X L xs d y cb is lv st (wm sh (m_setI M a (k / 4 % 128) v)) Q) : sm_X L xs d y cb (i :: is) lv st0 (wm sh M) Q := by
  subst hst
  cases i <;> first | (cases hi; exact m_putI hs hv h) | cases hi
theorem a_putL {k : Nat} {v : Int64} (hs : sh[a]? = some s) (hi : pfI i = some k) (hst : st0 = .long v :: .ref a :: st) (hv : m_pf (s (M.1 a) (M.2.1 a) (M.2.2 a)) k (.long v) = some (s (M.1 a) (vp_updL (M.2.1 a) (k / 4 % 128) v) (M.2.2 a))) (h : sm_X L xs d y cb is lv st (wm sh (m_setL M a (k / 4 % 128) v)) Q) : sm_X L xs d y cb (i :: is) lv st0 (wm sh M) Q := by
  subst hst
  cases i <;> first | (cases hi; exact m_putL hs hv h) | cases hi
theorem a_callV {k yy : Nat} {as : List Value} (hs : sh[a]? = some s) (hi : ivI i = some (2, k)) (ht : m_vt (s (M.1 a) (M.2.1 a) (M.2.2 a)) k = some yy) (hb : (Nat.ble (k % 16) st.length && Nat.ble (sm_words (st.drop (k % 16))) 8) = true) (hst : (st.take (k % 16)).reverse = .ref a :: as) (he : sm_E L xs d yy (.ref a :: as) (wm sh M) (fun r w1 => sm_X L xs d y cb is lv (r.toList ++ st.drop (k % 16)) w1 Q)) : sm_X L xs d y cb (i :: is) lv st (wm sh M) Q := by
  unfold ivI at hi
  split at hi
  · cases hi
  · cases hi
  · cases hi
    exact m_callV hs ht hb hst he
  · cases hi
theorem a_callS {k yy : Nat} {as : List Value} (hi : ivI i = some (0, k)) (ht : k / 256 = yy) (hb : (Nat.ble (k % 16) st.length && Nat.ble (sm_words (st.drop (k % 16))) 8) = true) (hst : (st.take (k % 16)).reverse = as) (he : sm_E L xs d yy as (wm sh M) (fun r w1 => sm_X L xs d y cb is lv (r.toList ++ st.drop (k % 16)) w1 Q)) : sm_X L xs d y cb (i :: is) lv st (wm sh M) Q := by
  unfold ivI at hi
  split at hi
  · cases hi
    subst ht
    exact m_callS hb hst he
  · cases hi
  · cases hi
  · cases hi
end AU
theorem zz0 (b : Bool) : (zz b = 0) = (b = false) := by cases b <;> simp [zz]
theorem zz1 (b : Bool) : (zz b = 1) = (b = true) := by cases b <;> simp [zz]
theorem zzn (b : Bool) : (zz b ≠ 0) = (b = true) := by cases b <;> simp [zz]
theorem lc0 (u v : Int64) : (lg_cmp u v = 0) = (u = v) := by
  have h := br_leq (x := u) (z := v) none (some (none, []))
  apply propext
  constructor
  · intro e
    by_cases g : u = v
    · exact g
    · have h2 := h.2 g
      rw [e] at h2
      cases h2
  · intro e
    by_cases g : lg_cmp u v = 0
    · exact g
    · have h1 := h.1 e
      unfold sm_br at h1
      dsimp only at h1
      rw [if_neg g] at h1
      cases h1
theorem lcg (u v : Int64) : (0 < lg_cmp u v) = (v < u) := by
  have h := br_lgt (x := u) (z := v) none (some (none, []))
  apply propext
  constructor
  · intro e
    by_cases g : v < u
    · exact g
    · have h2 := h.2 g
      unfold sm_br at h2
      dsimp only at h2
      rw [if_pos e] at h2
      cases h2
  · intro e
    by_cases g : 0 < lg_cmp u v
    · exact g
    · have h1 := h.1 e
      unfold sm_br at h1
      dsimp only at h1
      rw [if_neg g] at h1
      cases h1
end
section
/-! the reference's small methods -/
def inR (v lo hi : Int32) : Bool := if v < lo then false else if hi < v then false else true
theorem in_row {h r : Int32} (h0 : 0 ≤ h) : inR r 0 (h - 1) = gRow h r := by
  unfold inR gRow
  by_cases h1 : r < 0
  · rw [if_pos h1, if_pos h1]
  · rw [if_neg h1, if_neg h1]
    have e : (h - 1 < r) = (h ≤ r) := by
      apply propext
      rw [Int32.le_iff_toInt_le] at h0
      rw [Int32.lt_iff_toInt_lt, Int32.le_iff_toInt_le]
      have e0 : (0 : Int32).toInt = 0 := by decide
      have e1 : (1 : Int32).toInt = 1 := by decide
      have b1 := Int32.toInt_lt h
      have es : (h - 1).toInt = h.toInt - 1 := by
        rw [Int32.toInt_sub, e1]
        apply Int.bmod_eq_of_le <;> omega
      omega
    by_cases h2 : h ≤ r
    · rw [if_pos h2, if_pos (by rw [e]; exact h2)]
    · rw [if_neg h2, if_neg (by rw [e]; exact h2)]
theorem in_pl (ln c : Int32) : inR c 0 (ln - 1) = gPl ln c 1 := rfl
theorem in_grid (g : Int32) : inR g 0 3 = gRow 4 g := in_row (h := 4) (by decide)
def tld (M : mm_T) (s : Nat) : Int32 := M.1 70 s + (if M.1 71 s = 0 then 0 else 32) + (if M.1 72 s = 0 then 0 else 64)
def mL (M : mm_T) (G : Nat) : Nat → Int32 := fun i => M.1 69 (7 * G + i)
def mC (M : mm_T) (G : Nat) : Nat → Int32 := fun s => tld M (49 * G + s)
/-- what a grid of the reference keeps to -/
def mgOK (M : mm_T) (G : Nat) : Prop := (0 ≤ M.1 67 G ∧ M.1 67 G ≤ 7) ∧ (0 ≤ M.1 68 G ∧ M.1 68 G ≤ 7) ∧ ∀ i, i < 7 → -1 ≤ mL M G i ∧ mL M G i ≤ M.1 68 G
theorem mgOK_7 {M : mm_T} {G : Nat} (h : mgOK M G) : ∀ i, i < 7 → -1 ≤ mL M G i ∧ mL M G i ≤ 7 := fun i hi => ⟨(h.2.2 i hi).1, Int32.le_trans (h.2.2 i hi).2 h.2.1.2⟩
/-- the signs and bars of all squares -/
def msOK (M : mm_T) : Prop := ∀ s, s < 196 → (∃ n, n < 32 ∧ M.1 70 s = nI n) ∧ (M.1 71 s = 0 ∨ M.1 71 s = 1) ∧ (M.1 72 s = 0 ∨ M.1 72 s = 1)
theorem tld_dec : ∀ n, n < 32 → ∀ a b : Bool, ((nI n + (if a = true then 0 else 32) + (if b = true then 0 else 64)) &&& 31 = nI n) ∧ ((nI n + (if a = true then 0 else 32) + (if b = true then 0 else 64)) &&& 32 = if a = true then 0 else 32) ∧ ((nI n + (if a = true then 0 else 32) + (if b = true then 0 else 64)) &&& 64 = if b = true then 0 else 64) := by decide +kernel
theorem tld_3 {M : mm_T} (h : msOK M) {s : Nat} (hs : s < 196) : tld M s &&& 31 = M.1 70 s ∧ tld M s &&& 32 = (if M.1 71 s = 0 then 0 else 32) ∧ tld M s &&& 64 = (if M.1 72 s = 0 then 0 else 64) := by
  obtain ⟨⟨n, hn, e⟩, -, -⟩ := h s hs
  have k := tld_dec n hn (decide (M.1 71 s = 0)) (decide (M.1 72 s = 0))
  simp only [decide_eq_true_eq] at k
  unfold tld
  rw [e]
  exact k
theorem sq_eq (G i j : Nat) : 49 * nI G + 7 * nI i + nI j = nI (49 * G + (i * 7 + j)) := by
  rw [show (49 : Int32) = nI 49 from rfl, show (7 : Int32) = nI 7 from rfl, pk_mul, pk_mul, nI_add, nI_add, Nat.mul_comm 7 i, Nat.add_assoc]
theorem rw_eq (G i : Nat) : 7 * nI G + nI i = nI (7 * G + i) := by
  rw [show (7 : Int32) = nI 7 from rfl, pk_mul, nI_add]
theorem sv_eq (i j : Nat) : nI i * 7 + nI j = nI (i * 7 + j) := mul7 i j
section MA
variable {L : Nat} {xs : Nat → Int32} {d : Nat} {dy : List sh_T} {M : mm_T} {Q : Option Value → sm_W → Prop}
theorem k_in {v lo hi : Int32} (hq : Q (some (.int (zz (inR v lo hi)))) (wm (sh0 ++ dy) M)) : sm_E L xs (d + 1) 150 [.int v, .int lo, .int hi] (wm (sh0 ++ dy) M) Q := by
  refine e_intro rfl rfl ?_
  repeat' (first | refine x_kcg rfl ?_ | refine x_opp rfl rfl ?_ | refine x_go rfl ?_ | (refine a_at isIf rfl ?_; first | (refine a_ifT rfl rfl br_eqz (by assumption) ?_) | (refine a_ifF rfl rfl br_eqz (by assumption) ?_) | (refine a_ifT rfl rfl br_nez (by assumption) ?_) | (refine a_ifF rfl rfl br_nez (by assumption) ?_) | (refine a_ifT rfl rfl br_eqz (nt_f (by assumption)) ?_) | (refine a_ifF rfl rfl br_eqz (tnf (by assumption)) ?_) | (refine a_ifF rfl rfl br_nez (fnt (by assumption)) ?_) | (refine a_if rfl rfl br_eqz (fun _ => ?_) (fun _ => ?_)) | (refine a_if rfl rfl br_nez (fun _ => ?_) (fun _ => ?_)) | (refine a_ifT rfl rfl br_eq (by assumption) ?_) | (refine a_ifF rfl rfl br_eq (by assumption) ?_) | (refine a_ifT rfl rfl br_ne (by assumption) ?_) | (refine a_ifF rfl rfl br_ne (by assumption) ?_) | (refine a_ifT rfl rfl br_lt (by assumption) ?_) | (refine a_ifF rfl rfl br_lt (by assumption) ?_) | (refine a_ifT rfl rfl br_ge (by assumption) ?_) | (refine a_ifF rfl rfl br_ge (by assumption) ?_) | (refine a_ifT rfl rfl br_gt (by assumption) ?_) | (refine a_ifF rfl rfl br_gt (by assumption) ?_) | (refine a_ifT rfl rfl br_le (by assumption) ?_) | (refine a_ifF rfl rfl br_le (by assumption) ?_) | (refine a_if rfl rfl br_eq (fun _ => ?_) (fun _ => ?_)) | (refine a_if rfl rfl br_ne (fun _ => ?_) (fun _ => ?_)) | (refine a_if rfl rfl br_lt (fun _ => ?_) (fun _ => ?_)) | (refine a_if rfl rfl br_ge (fun _ => ?_) (fun _ => ?_)) | (refine a_if rfl rfl br_gt (fun _ => ?_) (fun _ => ?_)) | (refine a_if rfl rfl br_le (fun _ => ?_) (fun _ => ?_))) | (refine a_at isIc rfl ?_; first | (refine a_icT rfl rfl br_eq (by assumption) ?_) | (refine a_icF rfl rfl br_eq (by assumption) ?_) | (refine a_icT rfl rfl br_ne (by assumption) ?_) | (refine a_icF rfl rfl br_ne (by assumption) ?_) | (refine a_icT rfl rfl br_lt (by assumption) ?_) | (refine a_icF rfl rfl br_lt (by assumption) ?_) | (refine a_icT rfl rfl br_ge (by assumption) ?_) | (refine a_icF rfl rfl br_ge (by assumption) ?_) | (refine a_icT rfl rfl br_gt (by assumption) ?_) | (refine a_icF rfl rfl br_gt (by assumption) ?_) | (refine a_icT rfl rfl br_le (by assumption) ?_) | (refine a_icF rfl rfl br_le (by assumption) ?_) | (refine a_ic rfl rfl br_eq (fun _ => ?_) (fun _ => ?_)) | (refine a_ic rfl rfl br_ne (fun _ => ?_) (fun _ => ?_)) | (refine a_ic rfl rfl br_lt (fun _ => ?_) (fun _ => ?_)) | (refine a_ic rfl rfl br_ge (fun _ => ?_) (fun _ => ?_)) | (refine a_ic rfl rfl br_gt (fun _ => ?_) (fun _ => ?_)) | (refine a_ic rfl rfl br_le (fun _ => ?_) (fun _ => ?_))) | (refine a_at isRt rfl ?_; first | refine a_iret rfl rfl rfl ?_ | refine a_zret rfl rfl ?_ ?_ | refine a_lret rfl rfl ?_ | refine a_ret rfl rfl ?_))
  any_goals (first | exact zz_01 _ | exact Or.inl rfl | exact Or.inr rfl)
  all_goals (simp only [inR, *, if_true, if_false, zz_t, zz_f] at hq; exact hq)
theorem k_inRow {v h : Int32} (h0 : 0 ≤ h) (hq : Q (some (.int (zz (gRow h v)))) (wm (sh0 ++ dy) M)) : sm_E L xs (d + 1) 150 [.int v, .int 0, .int (h - 1)] (wm (sh0 ++ dy) M) Q := k_in (by rw [in_row h0]; exact hq)
theorem k_inPl {v ln : Int32} (hq : Q (some (.int (zz (gPl ln v 1)))) (wm (sh0 ++ dy) M)) : sm_E L xs (d + 1) 150 [.int v, .int 0, .int (ln - 1)] (wm (sh0 ++ dy) M) Q := k_in (by rw [in_pl]; exact hq)
theorem k_isGrid {v : Int32} (hq : Q (some (.int (zz (gRow 4 v)))) (wm (sh0 ++ dy) M)) : sm_E L xs (d + 2) 149 [.int v] (wm (sh0 ++ dy) M) Q := by
  rw [← in_grid] at hq
  refine e_intro rfl rfl ?_
  repeat' (first | refine x_kcg rfl ?_ | refine x_opp rfl rfl ?_ | refine x_go rfl ?_ | (refine a_at isIv rfl ?_; first | refine a_callS rfl rfl rfl rfl (k_in ?_)) | (refine a_at isIf rfl ?_; first | (refine a_ifT rfl rfl br_eqz (by assumption) ?_) | (refine a_ifF rfl rfl br_eqz (by assumption) ?_) | (refine a_ifT rfl rfl br_nez (by assumption) ?_) | (refine a_ifF rfl rfl br_nez (by assumption) ?_) | (refine a_ifT rfl rfl br_eqz (nt_f (by assumption)) ?_) | (refine a_ifF rfl rfl br_eqz (tnf (by assumption)) ?_) | (refine a_ifF rfl rfl br_nez (fnt (by assumption)) ?_) | (refine a_if rfl rfl br_eqz (fun _ => ?_) (fun _ => ?_)) | (refine a_if rfl rfl br_nez (fun _ => ?_) (fun _ => ?_)) | (refine a_ifT rfl rfl br_eq (by assumption) ?_) | (refine a_ifF rfl rfl br_eq (by assumption) ?_) | (refine a_ifT rfl rfl br_ne (by assumption) ?_) | (refine a_ifF rfl rfl br_ne (by assumption) ?_) | (refine a_ifT rfl rfl br_lt (by assumption) ?_) | (refine a_ifF rfl rfl br_lt (by assumption) ?_) | (refine a_ifT rfl rfl br_ge (by assumption) ?_) | (refine a_ifF rfl rfl br_ge (by assumption) ?_) | (refine a_ifT rfl rfl br_gt (by assumption) ?_) | (refine a_ifF rfl rfl br_gt (by assumption) ?_) | (refine a_ifT rfl rfl br_le (by assumption) ?_) | (refine a_ifF rfl rfl br_le (by assumption) ?_) | (refine a_if rfl rfl br_eq (fun _ => ?_) (fun _ => ?_)) | (refine a_if rfl rfl br_ne (fun _ => ?_) (fun _ => ?_)) | (refine a_if rfl rfl br_lt (fun _ => ?_) (fun _ => ?_)) | (refine a_if rfl rfl br_ge (fun _ => ?_) (fun _ => ?_)) | (refine a_if rfl rfl br_gt (fun _ => ?_) (fun _ => ?_)) | (refine a_if rfl rfl br_le (fun _ => ?_) (fun _ => ?_))) | (refine a_at isIc rfl ?_; first | (refine a_icT rfl rfl br_eq (by assumption) ?_) | (refine a_icF rfl rfl br_eq (by assumption) ?_) | (refine a_icT rfl rfl br_ne (by assumption) ?_) | (refine a_icF rfl rfl br_ne (by assumption) ?_) | (refine a_icT rfl rfl br_lt (by assumption) ?_) | (refine a_icF rfl rfl br_lt (by assumption) ?_) | (refine a_icT rfl rfl br_ge (by assumption) ?_) | (refine a_icF rfl rfl br_ge (by assumption) ?_) | (refine a_icT rfl rfl br_gt (by assumption) ?_) | (refine a_icF rfl rfl br_gt (by assumption) ?_) | (refine a_icT rfl rfl br_le (by assumption) ?_) | (refine a_icF rfl rfl br_le (by assumption) ?_) | (refine a_ic rfl rfl br_eq (fun _ => ?_) (fun _ => ?_)) | (refine a_ic rfl rfl br_ne (fun _ => ?_) (fun _ => ?_)) | (refine a_ic rfl rfl br_lt (fun _ => ?_) (fun _ => ?_)) | (refine a_ic rfl rfl br_ge (fun _ => ?_) (fun _ => ?_)) | (refine a_ic rfl rfl br_gt (fun _ => ?_) (fun _ => ?_)) | (refine a_ic rfl rfl br_le (fun _ => ?_) (fun _ => ?_))) | (refine a_at isRt rfl ?_; first | refine a_iret rfl rfl rfl ?_ | refine a_zret rfl rfl ?_ ?_ | refine a_lret rfl rfl ?_ | refine a_ret rfl rfl ?_))
  any_goals (first | exact zz_01 _ | exact Or.inl rfl | exact Or.inr rfl)
  exact hq
set_option maxRecDepth 4000 in
theorem k_isList {v : Int32} (h0 : 0 ≤ M.1 65 9) (hq : Q (some (.int (zz (gRow (M.1 65 9) v)))) (wm (sh0 ++ dy) M)) : sm_E L xs (d + 2) 163 [.ref 65, .int v] (wm (sh0 ++ dy) M) Q := by
  rw [← in_row h0] at hq
  refine e_intro rfl rfl ?_
  repeat' (first | refine x_kcg rfl ?_ | refine x_opp rfl rfl ?_ | refine x_go rfl ?_ | (refine a_at isGf rfl ?_; first | refine m_getg (s_65 dy) rfl rfl rfl ?_) | (refine a_at isPf rfl ?_; first | refine a_putI (s_65 dy) rfl rfl rfl ?_ | refine a_putL (s_65 dy) rfl rfl rfl ?_) | (refine a_at isIv rfl ?_; first | refine a_callS rfl rfl rfl rfl (k_in ?_)) | (refine a_at isIf rfl ?_; first | (refine a_ifT rfl rfl br_eqz (by assumption) ?_) | (refine a_ifF rfl rfl br_eqz (by assumption) ?_) | (refine a_ifT rfl rfl br_nez (by assumption) ?_) | (refine a_ifF rfl rfl br_nez (by assumption) ?_) | (refine a_ifT rfl rfl br_eqz (nt_f (by assumption)) ?_) | (refine a_ifF rfl rfl br_eqz (tnf (by assumption)) ?_) | (refine a_ifF rfl rfl br_nez (fnt (by assumption)) ?_) | (refine a_if rfl rfl br_eqz (fun _ => ?_) (fun _ => ?_)) | (refine a_if rfl rfl br_nez (fun _ => ?_) (fun _ => ?_)) | (refine a_ifT rfl rfl br_eq (by assumption) ?_) | (refine a_ifF rfl rfl br_eq (by assumption) ?_) | (refine a_ifT rfl rfl br_ne (by assumption) ?_) | (refine a_ifF rfl rfl br_ne (by assumption) ?_) | (refine a_ifT rfl rfl br_lt (by assumption) ?_) | (refine a_ifF rfl rfl br_lt (by assumption) ?_) | (refine a_ifT rfl rfl br_ge (by assumption) ?_) | (refine a_ifF rfl rfl br_ge (by assumption) ?_) | (refine a_ifT rfl rfl br_gt (by assumption) ?_) | (refine a_ifF rfl rfl br_gt (by assumption) ?_) | (refine a_ifT rfl rfl br_le (by assumption) ?_) | (refine a_ifF rfl rfl br_le (by assumption) ?_) | (refine a_if rfl rfl br_eq (fun _ => ?_) (fun _ => ?_)) | (refine a_if rfl rfl br_ne (fun _ => ?_) (fun _ => ?_)) | (refine a_if rfl rfl br_lt (fun _ => ?_) (fun _ => ?_)) | (refine a_if rfl rfl br_ge (fun _ => ?_) (fun _ => ?_)) | (refine a_if rfl rfl br_gt (fun _ => ?_) (fun _ => ?_)) | (refine a_if rfl rfl br_le (fun _ => ?_) (fun _ => ?_))) | (refine a_at isIc rfl ?_; first | (refine a_icT rfl rfl br_eq (by assumption) ?_) | (refine a_icF rfl rfl br_eq (by assumption) ?_) | (refine a_icT rfl rfl br_ne (by assumption) ?_) | (refine a_icF rfl rfl br_ne (by assumption) ?_) | (refine a_icT rfl rfl br_lt (by assumption) ?_) | (refine a_icF rfl rfl br_lt (by assumption) ?_) | (refine a_icT rfl rfl br_ge (by assumption) ?_) | (refine a_icF rfl rfl br_ge (by assumption) ?_) | (refine a_icT rfl rfl br_gt (by assumption) ?_) | (refine a_icF rfl rfl br_gt (by assumption) ?_) | (refine a_icT rfl rfl br_le (by assumption) ?_) | (refine a_icF rfl rfl br_le (by assumption) ?_) | (refine a_ic rfl rfl br_eq (fun _ => ?_) (fun _ => ?_)) | (refine a_ic rfl rfl br_ne (fun _ => ?_) (fun _ => ?_)) | (refine a_ic rfl rfl br_lt (fun _ => ?_) (fun _ => ?_)) | (refine a_ic rfl rfl br_ge (fun _ => ?_) (fun _ => ?_)) | (refine a_ic rfl rfl br_gt (fun _ => ?_) (fun _ => ?_)) | (refine a_ic rfl rfl br_le (fun _ => ?_) (fun _ => ?_))) | (refine a_at isRt rfl ?_; first | refine a_iret rfl rfl rfl ?_ | refine a_zret rfl rfl ?_ ?_ | refine a_lret rfl rfl ?_ | refine a_ret rfl rfl ?_))
  any_goals (first | exact zz_01 _ | exact Or.inl rfl | exact Or.inr rfl)
  exact hq
def mMet (M : mm_T) (v : Int32) : mm_T := m_setI (m_setI M 65 19 v) 84 v.toNatClampNeg (M.1 84 v.toNatClampNeg + 1)
set_option maxRecDepth 4000 in
theorem k_met {v : Int32} (hv : vp_in v 6) (hq : Q (some (.int (-10 - v))) (wm (sh0 ++ dy) (mMet M v))) : sm_E L xs (d + 1) 151 [.ref 65, .int v] (wm (sh0 ++ dy) M) Q := by
  refine e_intro rfl rfl ?_
  repeat' (first | refine x_kcg rfl ?_ | refine x_opp rfl rfl ?_ | refine x_go rfl ?_ | (refine a_at isGf rfl ?_; first | refine m_getg (s_65 dy) rfl rfl rfl ?_) | (refine a_at isPf rfl ?_; first | refine a_putI (s_65 dy) rfl rfl rfl ?_ | refine a_putL (s_65 dy) rfl rfl rfl ?_) | (refine a_at isAr rfl ?_; first | refine a_iald (s_84 dy) rfl rfl ?_ ?_ | refine a_bald (s_84 dy) rfl rfl ?_ ?_ | refine a_lald (s_84 dy) rfl rfl ?_ ?_ | refine a_iast (s_84 dy) rfl rfl ?_ ?_ | refine a_last (s_84 dy) rfl rfl ?_ ?_ | refine a_bast (s_84 dy) rfl rfl ?_ ?_ ?_) | (refine a_at isIf rfl ?_; first | (refine a_ifT rfl rfl br_eqz (by assumption) ?_) | (refine a_ifF rfl rfl br_eqz (by assumption) ?_) | (refine a_ifT rfl rfl br_nez (by assumption) ?_) | (refine a_ifF rfl rfl br_nez (by assumption) ?_) | (refine a_ifT rfl rfl br_eqz (nt_f (by assumption)) ?_) | (refine a_ifF rfl rfl br_eqz (tnf (by assumption)) ?_) | (refine a_ifF rfl rfl br_nez (fnt (by assumption)) ?_) | (refine a_if rfl rfl br_eqz (fun _ => ?_) (fun _ => ?_)) | (refine a_if rfl rfl br_nez (fun _ => ?_) (fun _ => ?_)) | (refine a_ifT rfl rfl br_eq (by assumption) ?_) | (refine a_ifF rfl rfl br_eq (by assumption) ?_) | (refine a_ifT rfl rfl br_ne (by assumption) ?_) | (refine a_ifF rfl rfl br_ne (by assumption) ?_) | (refine a_ifT rfl rfl br_lt (by assumption) ?_) | (refine a_ifF rfl rfl br_lt (by assumption) ?_) | (refine a_ifT rfl rfl br_ge (by assumption) ?_) | (refine a_ifF rfl rfl br_ge (by assumption) ?_) | (refine a_ifT rfl rfl br_gt (by assumption) ?_) | (refine a_ifF rfl rfl br_gt (by assumption) ?_) | (refine a_ifT rfl rfl br_le (by assumption) ?_) | (refine a_ifF rfl rfl br_le (by assumption) ?_) | (refine a_if rfl rfl br_eq (fun _ => ?_) (fun _ => ?_)) | (refine a_if rfl rfl br_ne (fun _ => ?_) (fun _ => ?_)) | (refine a_if rfl rfl br_lt (fun _ => ?_) (fun _ => ?_)) | (refine a_if rfl rfl br_ge (fun _ => ?_) (fun _ => ?_)) | (refine a_if rfl rfl br_gt (fun _ => ?_) (fun _ => ?_)) | (refine a_if rfl rfl br_le (fun _ => ?_) (fun _ => ?_))) | (refine a_at isIc rfl ?_; first | (refine a_icT rfl rfl br_eq (by assumption) ?_) | (refine a_icF rfl rfl br_eq (by assumption) ?_) | (refine a_icT rfl rfl br_ne (by assumption) ?_) | (refine a_icF rfl rfl br_ne (by assumption) ?_) | (refine a_icT rfl rfl br_lt (by assumption) ?_) | (refine a_icF rfl rfl br_lt (by assumption) ?_) | (refine a_icT rfl rfl br_ge (by assumption) ?_) | (refine a_icF rfl rfl br_ge (by assumption) ?_) | (refine a_icT rfl rfl br_gt (by assumption) ?_) | (refine a_icF rfl rfl br_gt (by assumption) ?_) | (refine a_icT rfl rfl br_le (by assumption) ?_) | (refine a_icF rfl rfl br_le (by assumption) ?_) | (refine a_ic rfl rfl br_eq (fun _ => ?_) (fun _ => ?_)) | (refine a_ic rfl rfl br_ne (fun _ => ?_) (fun _ => ?_)) | (refine a_ic rfl rfl br_lt (fun _ => ?_) (fun _ => ?_)) | (refine a_ic rfl rfl br_ge (fun _ => ?_) (fun _ => ?_)) | (refine a_ic rfl rfl br_gt (fun _ => ?_) (fun _ => ?_)) | (refine a_ic rfl rfl br_le (fun _ => ?_) (fun _ => ?_))) | (refine a_at isRt rfl ?_; first | refine a_iret rfl rfl rfl ?_ | refine a_zret rfl rfl ?_ ?_ | refine a_lret rfl rfl ?_ | refine a_ret rfl rfl ?_))
  · exact hv
  · exact hv
  · exact hq
set_option maxRecDepth 4000 in
theorem k_metLong {v : Int32} (hv : vp_in v 6) (hq : Q (some (.long 0)) (wm (sh0 ++ dy) (mMet M v))) : sm_E L xs (d + 2) 180 [.ref 65, .int v] (wm (sh0 ++ dy) M) Q := by
  refine e_intro rfl rfl ?_
  repeat' (first | refine x_kcg rfl ?_ | refine x_opp rfl rfl ?_ | refine x_go rfl ?_ | (refine a_at isGf rfl ?_; first | refine m_getg (s_65 dy) rfl rfl rfl ?_) | (refine a_at isPf rfl ?_; first | refine a_putI (s_65 dy) rfl rfl rfl ?_ | refine a_putL (s_65 dy) rfl rfl rfl ?_) | (refine a_at isIv rfl ?_; first | refine a_callV (s_65 dy) rfl rfl rfl rfl (k_met hv ?_)) | (refine a_at isIf rfl ?_; first | (refine a_ifT rfl rfl br_eqz (by assumption) ?_) | (refine a_ifF rfl rfl br_eqz (by assumption) ?_) | (refine a_ifT rfl rfl br_nez (by assumption) ?_) | (refine a_ifF rfl rfl br_nez (by assumption) ?_) | (refine a_ifT rfl rfl br_eqz (nt_f (by assumption)) ?_) | (refine a_ifF rfl rfl br_eqz (tnf (by assumption)) ?_) | (refine a_ifF rfl rfl br_nez (fnt (by assumption)) ?_) | (refine a_if rfl rfl br_eqz (fun _ => ?_) (fun _ => ?_)) | (refine a_if rfl rfl br_nez (fun _ => ?_) (fun _ => ?_)) | (refine a_ifT rfl rfl br_eq (by assumption) ?_) | (refine a_ifF rfl rfl br_eq (by assumption) ?_) | (refine a_ifT rfl rfl br_ne (by assumption) ?_) | (refine a_ifF rfl rfl br_ne (by assumption) ?_) | (refine a_ifT rfl rfl br_lt (by assumption) ?_) | (refine a_ifF rfl rfl br_lt (by assumption) ?_) | (refine a_ifT rfl rfl br_ge (by assumption) ?_) | (refine a_ifF rfl rfl br_ge (by assumption) ?_) | (refine a_ifT rfl rfl br_gt (by assumption) ?_) | (refine a_ifF rfl rfl br_gt (by assumption) ?_) | (refine a_ifT rfl rfl br_le (by assumption) ?_) | (refine a_ifF rfl rfl br_le (by assumption) ?_) | (refine a_if rfl rfl br_eq (fun _ => ?_) (fun _ => ?_)) | (refine a_if rfl rfl br_ne (fun _ => ?_) (fun _ => ?_)) | (refine a_if rfl rfl br_lt (fun _ => ?_) (fun _ => ?_)) | (refine a_if rfl rfl br_ge (fun _ => ?_) (fun _ => ?_)) | (refine a_if rfl rfl br_gt (fun _ => ?_) (fun _ => ?_)) | (refine a_if rfl rfl br_le (fun _ => ?_) (fun _ => ?_))) | (refine a_at isIc rfl ?_; first | (refine a_icT rfl rfl br_eq (by assumption) ?_) | (refine a_icF rfl rfl br_eq (by assumption) ?_) | (refine a_icT rfl rfl br_ne (by assumption) ?_) | (refine a_icF rfl rfl br_ne (by assumption) ?_) | (refine a_icT rfl rfl br_lt (by assumption) ?_) | (refine a_icF rfl rfl br_lt (by assumption) ?_) | (refine a_icT rfl rfl br_ge (by assumption) ?_) | (refine a_icF rfl rfl br_ge (by assumption) ?_) | (refine a_icT rfl rfl br_gt (by assumption) ?_) | (refine a_icF rfl rfl br_gt (by assumption) ?_) | (refine a_icT rfl rfl br_le (by assumption) ?_) | (refine a_icF rfl rfl br_le (by assumption) ?_) | (refine a_ic rfl rfl br_eq (fun _ => ?_) (fun _ => ?_)) | (refine a_ic rfl rfl br_ne (fun _ => ?_) (fun _ => ?_)) | (refine a_ic rfl rfl br_lt (fun _ => ?_) (fun _ => ?_)) | (refine a_ic rfl rfl br_ge (fun _ => ?_) (fun _ => ?_)) | (refine a_ic rfl rfl br_gt (fun _ => ?_) (fun _ => ?_)) | (refine a_ic rfl rfl br_le (fun _ => ?_) (fun _ => ?_))) | (refine a_at isRt rfl ?_; first | refine a_iret rfl rfl rfl ?_ | refine a_zret rfl rfl ?_ ?_ | refine a_lret rfl rfl ?_ | refine a_ret rfl rfl ?_))
  exact hq
set_option maxRecDepth 4000 in
theorem k_changed (hq : Q none (wm (sh0 ++ dy) (m_setI M 65 38 0))) : sm_E L xs (d + 1) 152 [.ref 65] (wm (sh0 ++ dy) M) Q := by
  refine e_intro rfl rfl ?_
  repeat' (first | refine x_kcg rfl ?_ | refine x_opp rfl rfl ?_ | refine x_go rfl ?_ | (refine a_at isGf rfl ?_; first | refine m_getg (s_65 dy) rfl rfl rfl ?_) | (refine a_at isPf rfl ?_; first | refine a_putI (s_65 dy) rfl rfl rfl ?_ | refine a_putL (s_65 dy) rfl rfl rfl ?_) | (refine a_at isIf rfl ?_; first | (refine a_ifT rfl rfl br_eqz (by assumption) ?_) | (refine a_ifF rfl rfl br_eqz (by assumption) ?_) | (refine a_ifT rfl rfl br_nez (by assumption) ?_) | (refine a_ifF rfl rfl br_nez (by assumption) ?_) | (refine a_ifT rfl rfl br_eqz (nt_f (by assumption)) ?_) | (refine a_ifF rfl rfl br_eqz (tnf (by assumption)) ?_) | (refine a_ifF rfl rfl br_nez (fnt (by assumption)) ?_) | (refine a_if rfl rfl br_eqz (fun _ => ?_) (fun _ => ?_)) | (refine a_if rfl rfl br_nez (fun _ => ?_) (fun _ => ?_)) | (refine a_ifT rfl rfl br_eq (by assumption) ?_) | (refine a_ifF rfl rfl br_eq (by assumption) ?_) | (refine a_ifT rfl rfl br_ne (by assumption) ?_) | (refine a_ifF rfl rfl br_ne (by assumption) ?_) | (refine a_ifT rfl rfl br_lt (by assumption) ?_) | (refine a_ifF rfl rfl br_lt (by assumption) ?_) | (refine a_ifT rfl rfl br_ge (by assumption) ?_) | (refine a_ifF rfl rfl br_ge (by assumption) ?_) | (refine a_ifT rfl rfl br_gt (by assumption) ?_) | (refine a_ifF rfl rfl br_gt (by assumption) ?_) | (refine a_ifT rfl rfl br_le (by assumption) ?_) | (refine a_ifF rfl rfl br_le (by assumption) ?_) | (refine a_if rfl rfl br_eq (fun _ => ?_) (fun _ => ?_)) | (refine a_if rfl rfl br_ne (fun _ => ?_) (fun _ => ?_)) | (refine a_if rfl rfl br_lt (fun _ => ?_) (fun _ => ?_)) | (refine a_if rfl rfl br_ge (fun _ => ?_) (fun _ => ?_)) | (refine a_if rfl rfl br_gt (fun _ => ?_) (fun _ => ?_)) | (refine a_if rfl rfl br_le (fun _ => ?_) (fun _ => ?_))) | (refine a_at isIc rfl ?_; first | (refine a_icT rfl rfl br_eq (by assumption) ?_) | (refine a_icF rfl rfl br_eq (by assumption) ?_) | (refine a_icT rfl rfl br_ne (by assumption) ?_) | (refine a_icF rfl rfl br_ne (by assumption) ?_) | (refine a_icT rfl rfl br_lt (by assumption) ?_) | (refine a_icF rfl rfl br_lt (by assumption) ?_) | (refine a_icT rfl rfl br_ge (by assumption) ?_) | (refine a_icF rfl rfl br_ge (by assumption) ?_) | (refine a_icT rfl rfl br_gt (by assumption) ?_) | (refine a_icF rfl rfl br_gt (by assumption) ?_) | (refine a_icT rfl rfl br_le (by assumption) ?_) | (refine a_icF rfl rfl br_le (by assumption) ?_) | (refine a_ic rfl rfl br_eq (fun _ => ?_) (fun _ => ?_)) | (refine a_ic rfl rfl br_ne (fun _ => ?_) (fun _ => ?_)) | (refine a_ic rfl rfl br_lt (fun _ => ?_) (fun _ => ?_)) | (refine a_ic rfl rfl br_ge (fun _ => ?_) (fun _ => ?_)) | (refine a_ic rfl rfl br_gt (fun _ => ?_) (fun _ => ?_)) | (refine a_ic rfl rfl br_le (fun _ => ?_) (fun _ => ?_))) | (refine a_at isRt rfl ?_; first | refine a_iret rfl rfl rfl ?_ | refine a_zret rfl rfl ?_ ?_ | refine a_lret rfl rfl ?_ | refine a_ret rfl rfl ?_))
  exact hq
theorem k_square {g r c : Int32} (hq : Q (some (.int (49 * g + 7 * r + c))) (wm (sh0 ++ dy) M)) : sm_E L xs (d + 1) 157 [.int g, .int r, .int c] (wm (sh0 ++ dy) M) Q := by
  refine e_intro rfl rfl ?_
  repeat' (first | refine x_kcg rfl ?_ | refine x_opp rfl rfl ?_ | refine x_go rfl ?_ | (refine a_at isIf rfl ?_; first | (refine a_ifT rfl rfl br_eqz (by assumption) ?_) | (refine a_ifF rfl rfl br_eqz (by assumption) ?_) | (refine a_ifT rfl rfl br_nez (by assumption) ?_) | (refine a_ifF rfl rfl br_nez (by assumption) ?_) | (refine a_ifT rfl rfl br_eqz (nt_f (by assumption)) ?_) | (refine a_ifF rfl rfl br_eqz (tnf (by assumption)) ?_) | (refine a_ifF rfl rfl br_nez (fnt (by assumption)) ?_) | (refine a_if rfl rfl br_eqz (fun _ => ?_) (fun _ => ?_)) | (refine a_if rfl rfl br_nez (fun _ => ?_) (fun _ => ?_)) | (refine a_ifT rfl rfl br_eq (by assumption) ?_) | (refine a_ifF rfl rfl br_eq (by assumption) ?_) | (refine a_ifT rfl rfl br_ne (by assumption) ?_) | (refine a_ifF rfl rfl br_ne (by assumption) ?_) | (refine a_ifT rfl rfl br_lt (by assumption) ?_) | (refine a_ifF rfl rfl br_lt (by assumption) ?_) | (refine a_ifT rfl rfl br_ge (by assumption) ?_) | (refine a_ifF rfl rfl br_ge (by assumption) ?_) | (refine a_ifT rfl rfl br_gt (by assumption) ?_) | (refine a_ifF rfl rfl br_gt (by assumption) ?_) | (refine a_ifT rfl rfl br_le (by assumption) ?_) | (refine a_ifF rfl rfl br_le (by assumption) ?_) | (refine a_if rfl rfl br_eq (fun _ => ?_) (fun _ => ?_)) | (refine a_if rfl rfl br_ne (fun _ => ?_) (fun _ => ?_)) | (refine a_if rfl rfl br_lt (fun _ => ?_) (fun _ => ?_)) | (refine a_if rfl rfl br_ge (fun _ => ?_) (fun _ => ?_)) | (refine a_if rfl rfl br_gt (fun _ => ?_) (fun _ => ?_)) | (refine a_if rfl rfl br_le (fun _ => ?_) (fun _ => ?_))) | (refine a_at isIc rfl ?_; first | (refine a_icT rfl rfl br_eq (by assumption) ?_) | (refine a_icF rfl rfl br_eq (by assumption) ?_) | (refine a_icT rfl rfl br_ne (by assumption) ?_) | (refine a_icF rfl rfl br_ne (by assumption) ?_) | (refine a_icT rfl rfl br_lt (by assumption) ?_) | (refine a_icF rfl rfl br_lt (by assumption) ?_) | (refine a_icT rfl rfl br_ge (by assumption) ?_) | (refine a_icF rfl rfl br_ge (by assumption) ?_) | (refine a_icT rfl rfl br_gt (by assumption) ?_) | (refine a_icF rfl rfl br_gt (by assumption) ?_) | (refine a_icT rfl rfl br_le (by assumption) ?_) | (refine a_icF rfl rfl br_le (by assumption) ?_) | (refine a_ic rfl rfl br_eq (fun _ => ?_) (fun _ => ?_)) | (refine a_ic rfl rfl br_ne (fun _ => ?_) (fun _ => ?_)) | (refine a_ic rfl rfl br_lt (fun _ => ?_) (fun _ => ?_)) | (refine a_ic rfl rfl br_ge (fun _ => ?_) (fun _ => ?_)) | (refine a_ic rfl rfl br_gt (fun _ => ?_) (fun _ => ?_)) | (refine a_ic rfl rfl br_le (fun _ => ?_) (fun _ => ?_))) | (refine a_at isRt rfl ?_; first | refine a_iret rfl rfl rfl ?_ | refine a_zret rfl rfl ?_ ?_ | refine a_lret rfl rfl ?_ | refine a_ret rfl rfl ?_))
  exact hq
set_option maxRecDepth 4000 in
theorem k_rowOf {G i : Nat} (hG : G < 4) (hi : i < 7) (hq : Q (some (.int (mL M G i))) (wm (sh0 ++ dy) M)) : sm_E L xs (d + 1) 154 [.ref 65, .int (nI G), .int (nI i)] (wm (sh0 ++ dy) M) Q := by
  refine e_intro rfl rfl ?_
  repeat' (first | refine x_kcg rfl ?_ | refine x_opp rfl rfl ?_ | refine x_go rfl ?_ | (refine a_at isGf rfl ?_; first | refine m_getg (s_65 dy) rfl rfl rfl ?_) | (refine a_at isPf rfl ?_; first | refine a_putI (s_65 dy) rfl rfl rfl ?_ | refine a_putL (s_65 dy) rfl rfl rfl ?_) | (refine a_at isAr rfl ?_; first | refine a_iald (s_69 dy) rfl rfl ?_ ?_ | refine a_bald (s_69 dy) rfl rfl ?_ ?_ | refine a_lald (s_69 dy) rfl rfl ?_ ?_ | refine a_iast (s_69 dy) rfl rfl ?_ ?_ | refine a_last (s_69 dy) rfl rfl ?_ ?_ | refine a_bast (s_69 dy) rfl rfl ?_ ?_ ?_) | (refine a_at isIf rfl ?_; first | (refine a_ifT rfl rfl br_eqz (by assumption) ?_) | (refine a_ifF rfl rfl br_eqz (by assumption) ?_) | (refine a_ifT rfl rfl br_nez (by assumption) ?_) | (refine a_ifF rfl rfl br_nez (by assumption) ?_) | (refine a_ifT rfl rfl br_eqz (nt_f (by assumption)) ?_) | (refine a_ifF rfl rfl br_eqz (tnf (by assumption)) ?_) | (refine a_ifF rfl rfl br_nez (fnt (by assumption)) ?_) | (refine a_if rfl rfl br_eqz (fun _ => ?_) (fun _ => ?_)) | (refine a_if rfl rfl br_nez (fun _ => ?_) (fun _ => ?_)) | (refine a_ifT rfl rfl br_eq (by assumption) ?_) | (refine a_ifF rfl rfl br_eq (by assumption) ?_) | (refine a_ifT rfl rfl br_ne (by assumption) ?_) | (refine a_ifF rfl rfl br_ne (by assumption) ?_) | (refine a_ifT rfl rfl br_lt (by assumption) ?_) | (refine a_ifF rfl rfl br_lt (by assumption) ?_) | (refine a_ifT rfl rfl br_ge (by assumption) ?_) | (refine a_ifF rfl rfl br_ge (by assumption) ?_) | (refine a_ifT rfl rfl br_gt (by assumption) ?_) | (refine a_ifF rfl rfl br_gt (by assumption) ?_) | (refine a_ifT rfl rfl br_le (by assumption) ?_) | (refine a_ifF rfl rfl br_le (by assumption) ?_) | (refine a_if rfl rfl br_eq (fun _ => ?_) (fun _ => ?_)) | (refine a_if rfl rfl br_ne (fun _ => ?_) (fun _ => ?_)) | (refine a_if rfl rfl br_lt (fun _ => ?_) (fun _ => ?_)) | (refine a_if rfl rfl br_ge (fun _ => ?_) (fun _ => ?_)) | (refine a_if rfl rfl br_gt (fun _ => ?_) (fun _ => ?_)) | (refine a_if rfl rfl br_le (fun _ => ?_) (fun _ => ?_))) | (refine a_at isIc rfl ?_; first | (refine a_icT rfl rfl br_eq (by assumption) ?_) | (refine a_icF rfl rfl br_eq (by assumption) ?_) | (refine a_icT rfl rfl br_ne (by assumption) ?_) | (refine a_icF rfl rfl br_ne (by assumption) ?_) | (refine a_icT rfl rfl br_lt (by assumption) ?_) | (refine a_icF rfl rfl br_lt (by assumption) ?_) | (refine a_icT rfl rfl br_ge (by assumption) ?_) | (refine a_icF rfl rfl br_ge (by assumption) ?_) | (refine a_icT rfl rfl br_gt (by assumption) ?_) | (refine a_icF rfl rfl br_gt (by assumption) ?_) | (refine a_icT rfl rfl br_le (by assumption) ?_) | (refine a_icF rfl rfl br_le (by assumption) ?_) | (refine a_ic rfl rfl br_eq (fun _ => ?_) (fun _ => ?_)) | (refine a_ic rfl rfl br_ne (fun _ => ?_) (fun _ => ?_)) | (refine a_ic rfl rfl br_lt (fun _ => ?_) (fun _ => ?_)) | (refine a_ic rfl rfl br_ge (fun _ => ?_) (fun _ => ?_)) | (refine a_ic rfl rfl br_gt (fun _ => ?_) (fun _ => ?_)) | (refine a_ic rfl rfl br_le (fun _ => ?_) (fun _ => ?_))) | (refine a_at isRt rfl ?_; first | refine a_iret rfl rfl rfl ?_ | refine a_zret rfl rfl ?_ ?_ | refine a_lret rfl rfl ?_ | refine a_ret rfl rfl ?_))
  · rw [rw_eq]
    exact vp_in_nI (by omega) (by decide)
  · rw [rw_eq, nI_clamp (by omega)]
    exact hq
set_option maxRecDepth 4000 in
theorem k_told {s : Nat} (hs : s < 196) (hq : Q (some (.int (tld M s))) (wm (sh0 ++ dy) M)) : sm_E L xs (d + 1) 161 [.ref 65, .int (nI s)] (wm (sh0 ++ dy) M) Q := by
  have hv : vp_in (nI s) 196 := vp_in_nI hs (by decide)
  unfold tld at hq
  refine e_intro rfl rfl ?_
  repeat' (first | refine x_kcg rfl ?_ | refine x_opp rfl rfl ?_ | refine x_go rfl ?_ | (refine a_at isGf rfl ?_; first | refine m_getg (s_65 dy) rfl rfl rfl ?_) | (refine a_at isPf rfl ?_; first | refine a_putI (s_65 dy) rfl rfl rfl ?_ | refine a_putL (s_65 dy) rfl rfl rfl ?_) | (refine a_at isAr rfl ?_; first | refine a_ialdN (s_70 dy) (k := s) rfl rfl rfl (by omega) (by decide) ?_ | refine a_baldN (s_70 dy) (k := s) rfl rfl rfl (by omega) (by decide) ?_ | refine a_laldN (s_70 dy) (k := s) rfl rfl rfl (by omega) (by decide) ?_ | refine a_iastN (s_70 dy) (k := s) rfl rfl rfl (by omega) (by decide) ?_ | refine a_lastN (s_70 dy) (k := s) rfl rfl rfl (by omega) (by decide) ?_ | refine a_bastN (s_70 dy) (k := s) rfl rfl rfl (by omega) (by decide) ?_ ?_ | refine a_ialdN (s_71 dy) (k := s) rfl rfl rfl (by omega) (by decide) ?_ | refine a_baldN (s_71 dy) (k := s) rfl rfl rfl (by omega) (by decide) ?_ | refine a_laldN (s_71 dy) (k := s) rfl rfl rfl (by omega) (by decide) ?_ | refine a_iastN (s_71 dy) (k := s) rfl rfl rfl (by omega) (by decide) ?_ | refine a_lastN (s_71 dy) (k := s) rfl rfl rfl (by omega) (by decide) ?_ | refine a_bastN (s_71 dy) (k := s) rfl rfl rfl (by omega) (by decide) ?_ ?_ | refine a_ialdN (s_72 dy) (k := s) rfl rfl rfl (by omega) (by decide) ?_ | refine a_baldN (s_72 dy) (k := s) rfl rfl rfl (by omega) (by decide) ?_ | refine a_laldN (s_72 dy) (k := s) rfl rfl rfl (by omega) (by decide) ?_ | refine a_iastN (s_72 dy) (k := s) rfl rfl rfl (by omega) (by decide) ?_ | refine a_lastN (s_72 dy) (k := s) rfl rfl rfl (by omega) (by decide) ?_ | refine a_bastN (s_72 dy) (k := s) rfl rfl rfl (by omega) (by decide) ?_ ?_) | (refine a_at isIf rfl ?_; first | (refine a_ifT rfl rfl br_eq (by assumption) ?_) | (refine a_ifF rfl rfl br_eq (by assumption) ?_) | (refine a_ifT rfl rfl br_ne (by assumption) ?_) | (refine a_ifF rfl rfl br_ne (by assumption) ?_) | (refine a_ifT rfl rfl br_lt (by assumption) ?_) | (refine a_ifF rfl rfl br_lt (by assumption) ?_) | (refine a_ifT rfl rfl br_ge (by assumption) ?_) | (refine a_ifF rfl rfl br_ge (by assumption) ?_) | (refine a_ifT rfl rfl br_gt (by assumption) ?_) | (refine a_ifF rfl rfl br_gt (by assumption) ?_) | (refine a_ifT rfl rfl br_le (by assumption) ?_) | (refine a_ifF rfl rfl br_le (by assumption) ?_) | (refine a_if rfl rfl br_eq (fun _ => ?_) (fun _ => ?_)) | (refine a_if rfl rfl br_ne (fun _ => ?_) (fun _ => ?_)) | (refine a_if rfl rfl br_lt (fun _ => ?_) (fun _ => ?_)) | (refine a_if rfl rfl br_ge (fun _ => ?_) (fun _ => ?_)) | (refine a_if rfl rfl br_gt (fun _ => ?_) (fun _ => ?_)) | (refine a_if rfl rfl br_le (fun _ => ?_) (fun _ => ?_))) | (refine a_at isIc rfl ?_; first | (refine a_icT rfl rfl br_eq (by assumption) ?_) | (refine a_icF rfl rfl br_eq (by assumption) ?_) | (refine a_icT rfl rfl br_ne (by assumption) ?_) | (refine a_icF rfl rfl br_ne (by assumption) ?_) | (refine a_icT rfl rfl br_lt (by assumption) ?_) | (refine a_icF rfl rfl br_lt (by assumption) ?_) | (refine a_icT rfl rfl br_ge (by assumption) ?_) | (refine a_icF rfl rfl br_ge (by assumption) ?_) | (refine a_icT rfl rfl br_gt (by assumption) ?_) | (refine a_icF rfl rfl br_gt (by assumption) ?_) | (refine a_icT rfl rfl br_le (by assumption) ?_) | (refine a_icF rfl rfl br_le (by assumption) ?_) | (refine a_ic rfl rfl br_eq (fun _ => ?_) (fun _ => ?_)) | (refine a_ic rfl rfl br_ne (fun _ => ?_) (fun _ => ?_)) | (refine a_ic rfl rfl br_lt (fun _ => ?_) (fun _ => ?_)) | (refine a_ic rfl rfl br_ge (fun _ => ?_) (fun _ => ?_)) | (refine a_ic rfl rfl br_gt (fun _ => ?_) (fun _ => ?_)) | (refine a_ic rfl rfl br_le (fun _ => ?_) (fun _ => ?_))) | (refine a_at isRt rfl ?_; first | refine a_iret rfl rfl rfl ?_ | refine a_zret rfl rfl ?_ ?_ | refine a_lret rfl rfl ?_ | refine a_ret rfl rfl ?_))
  all_goals (simp only [*, if_true, if_false] at hq; exact hq)
end MA
end
section
/-! the reference's questions of a grid -/
theorem i10 : ((1 : Int32) = 0) = False := by decide
theorem i20 : ((2 : Int32) = 0) = False := by decide
section MB
variable {L : Nat} {xs : Nat → Int32} {d : Nat} {dy : List sh_T} {M : mm_T} {Q : Option Value → sm_W → Prop} {G : Nat}
set_option maxRecDepth 4000 in
theorem k_wrong {r c : Int32} (hG : G < 4) (hk : mgOK M G) (hq : Q (some (.int (gSR (M.1 66 G) (M.1 67 G) (mL M G) r c))) (wm (sh0 ++ dy) M)) : sm_E L xs (d + 2) 156 [.ref 65, .int (nI G), .int r, .int c] (wm (sh0 ++ dy) M) Q := by
  refine e_intro rfl rfl ?_
  unfold gSR gRR at hq
  by_cases h1 : M.1 66 G = 0
  · repeat' (first | refine x_kcg rfl ?_ | refine x_incg rfl rfl ?_ | refine x_opp rfl rfl ?_ | refine x_go rfl ?_ | (refine a_at isGf rfl ?_; first | refine m_getg (s_65 dy) rfl rfl rfl ?_) | (refine a_at isPf rfl ?_; first | refine a_putI (s_65 dy) rfl rfl rfl ?_ | refine a_putL (s_65 dy) rfl rfl rfl ?_) | (refine a_at isAr rfl ?_; first | refine a_ialdN (s_66 dy) (k := G) rfl rfl rfl (by omega) (by decide) ?_ | refine a_baldN (s_66 dy) (k := G) rfl rfl rfl (by omega) (by decide) ?_ | refine a_laldN (s_66 dy) (k := G) rfl rfl rfl (by omega) (by decide) ?_ | refine a_iastN (s_66 dy) (k := G) rfl rfl rfl (by omega) (by decide) ?_ | refine a_lastN (s_66 dy) (k := G) rfl rfl rfl (by omega) (by decide) ?_ | refine a_bastN (s_66 dy) (k := G) rfl rfl rfl (by omega) (by decide) ?_ ?_) | (refine a_at isIf rfl ?_; first | (refine a_ifT rfl rfl br_eqz (by assumption) ?_) | (refine a_ifF rfl rfl br_eqz (by assumption) ?_) | (refine a_ifT rfl rfl br_nez (by assumption) ?_) | (refine a_ifF rfl rfl br_nez (by assumption) ?_) | (refine a_ifT rfl rfl br_eqz (nt_f (by assumption)) ?_) | (refine a_ifF rfl rfl br_eqz (tnf (by assumption)) ?_) | (refine a_ifF rfl rfl br_nez (fnt (by assumption)) ?_) | (refine a_if rfl rfl br_eqz (fun _ => ?_) (fun _ => ?_)) | (refine a_if rfl rfl br_nez (fun _ => ?_) (fun _ => ?_)) | (refine a_ifF rfl rfl br_ne (fun h => h (by assumption)) ?_) | (refine a_ifT rfl rfl br_eq (by assumption) ?_) | (refine a_ifF rfl rfl br_eq (by assumption) ?_) | (refine a_ifT rfl rfl br_ne (by assumption) ?_) | (refine a_ifF rfl rfl br_ne (by assumption) ?_) | (refine a_ifT rfl rfl br_lt (by assumption) ?_) | (refine a_ifF rfl rfl br_lt (by assumption) ?_) | (refine a_ifT rfl rfl br_ge (by assumption) ?_) | (refine a_ifF rfl rfl br_ge (by assumption) ?_) | (refine a_ifT rfl rfl br_gt (by assumption) ?_) | (refine a_ifF rfl rfl br_gt (by assumption) ?_) | (refine a_ifT rfl rfl br_le (by assumption) ?_) | (refine a_ifF rfl rfl br_le (by assumption) ?_) | (refine a_if rfl rfl br_eq (fun _ => ?_) (fun _ => ?_)) | (refine a_if rfl rfl br_ne (fun _ => ?_) (fun _ => ?_)) | (refine a_if rfl rfl br_lt (fun _ => ?_) (fun _ => ?_)) | (refine a_if rfl rfl br_ge (fun _ => ?_) (fun _ => ?_)) | (refine a_if rfl rfl br_gt (fun _ => ?_) (fun _ => ?_)) | (refine a_if rfl rfl br_le (fun _ => ?_) (fun _ => ?_))) | (refine a_at isIc rfl ?_; first | (refine a_icF rfl rfl br_ne (fun h => h (by assumption)) ?_) | (refine a_icT rfl rfl br_eq (by assumption) ?_) | (refine a_icF rfl rfl br_eq (by assumption) ?_) | (refine a_icT rfl rfl br_ne (by assumption) ?_) | (refine a_icF rfl rfl br_ne (by assumption) ?_) | (refine a_icT rfl rfl br_lt (by assumption) ?_) | (refine a_icF rfl rfl br_lt (by assumption) ?_) | (refine a_icT rfl rfl br_ge (by assumption) ?_) | (refine a_icF rfl rfl br_ge (by assumption) ?_) | (refine a_icT rfl rfl br_gt (by assumption) ?_) | (refine a_icF rfl rfl br_gt (by assumption) ?_) | (refine a_icT rfl rfl br_le (by assumption) ?_) | (refine a_icF rfl rfl br_le (by assumption) ?_) | (refine a_ic rfl rfl br_eq (fun _ => ?_) (fun _ => ?_)) | (refine a_ic rfl rfl br_ne (fun _ => ?_) (fun _ => ?_)) | (refine a_ic rfl rfl br_lt (fun _ => ?_) (fun _ => ?_)) | (refine a_ic rfl rfl br_ge (fun _ => ?_) (fun _ => ?_)) | (refine a_ic rfl rfl br_gt (fun _ => ?_) (fun _ => ?_)) | (refine a_ic rfl rfl br_le (fun _ => ?_) (fun _ => ?_))) | (refine a_at isRt rfl ?_; first | refine a_iret rfl rfl rfl ?_ | refine a_zret rfl rfl ?_ ?_ | refine a_lret rfl rfl ?_ | refine a_ret rfl rfl ?_))
    simp only [h1, ne_eq, not_true_eq_false, if_false, i10] at hq
    exact hq
  · by_cases h2 : gRow (M.1 67 G) r = true
    · obtain ⟨i, hi, rfl⟩ := gRow_t h2 hk.1.2
      rw [nI_clamp (by omega)] at hq
      repeat' (first | refine x_kcg rfl ?_ | refine x_incg rfl rfl ?_ | refine x_opp rfl rfl ?_ | refine x_go rfl ?_ | (refine a_at isGf rfl ?_; first | refine m_getg (s_65 dy) rfl rfl rfl ?_) | (refine a_at isPf rfl ?_; first | refine a_putI (s_65 dy) rfl rfl rfl ?_ | refine a_putL (s_65 dy) rfl rfl rfl ?_) | (refine a_at isIv rfl ?_; first | refine a_callS rfl rfl rfl rfl (k_inRow hk.1.1 ?_) | refine a_callV (s_65 dy) rfl rfl rfl rfl (k_rowOf hG hi ?_) | refine a_callS rfl rfl rfl rfl (k_inPl ?_)) | (refine a_at isAr rfl ?_; first | refine a_ialdN (s_66 dy) (k := G) rfl rfl rfl (by omega) (by decide) ?_ | refine a_baldN (s_66 dy) (k := G) rfl rfl rfl (by omega) (by decide) ?_ | refine a_laldN (s_66 dy) (k := G) rfl rfl rfl (by omega) (by decide) ?_ | refine a_iastN (s_66 dy) (k := G) rfl rfl rfl (by omega) (by decide) ?_ | refine a_lastN (s_66 dy) (k := G) rfl rfl rfl (by omega) (by decide) ?_ | refine a_bastN (s_66 dy) (k := G) rfl rfl rfl (by omega) (by decide) ?_ ?_ | refine a_ialdN (s_67 dy) (k := G) rfl rfl rfl (by omega) (by decide) ?_ | refine a_baldN (s_67 dy) (k := G) rfl rfl rfl (by omega) (by decide) ?_ | refine a_laldN (s_67 dy) (k := G) rfl rfl rfl (by omega) (by decide) ?_ | refine a_iastN (s_67 dy) (k := G) rfl rfl rfl (by omega) (by decide) ?_ | refine a_lastN (s_67 dy) (k := G) rfl rfl rfl (by omega) (by decide) ?_ | refine a_bastN (s_67 dy) (k := G) rfl rfl rfl (by omega) (by decide) ?_ ?_) | (refine a_at isIf rfl ?_; first | (refine a_ifT rfl rfl br_eqz (by assumption) ?_) | (refine a_ifF rfl rfl br_eqz (by assumption) ?_) | (refine a_ifT rfl rfl br_nez (by assumption) ?_) | (refine a_ifF rfl rfl br_nez (by assumption) ?_) | (refine a_ifT rfl rfl br_eqz (nt_f (by assumption)) ?_) | (refine a_ifF rfl rfl br_eqz (tnf (by assumption)) ?_) | (refine a_ifF rfl rfl br_nez (fnt (by assumption)) ?_) | (refine a_if rfl rfl br_eqz (fun _ => ?_) (fun _ => ?_)) | (refine a_if rfl rfl br_nez (fun _ => ?_) (fun _ => ?_)) | (refine a_ifF rfl rfl br_ne (fun h => h (by assumption)) ?_) | (refine a_ifT rfl rfl br_eq (by assumption) ?_) | (refine a_ifF rfl rfl br_eq (by assumption) ?_) | (refine a_ifT rfl rfl br_ne (by assumption) ?_) | (refine a_ifF rfl rfl br_ne (by assumption) ?_) | (refine a_ifT rfl rfl br_lt (by assumption) ?_) | (refine a_ifF rfl rfl br_lt (by assumption) ?_) | (refine a_ifT rfl rfl br_ge (by assumption) ?_) | (refine a_ifF rfl rfl br_ge (by assumption) ?_) | (refine a_ifT rfl rfl br_gt (by assumption) ?_) | (refine a_ifF rfl rfl br_gt (by assumption) ?_) | (refine a_ifT rfl rfl br_le (by assumption) ?_) | (refine a_ifF rfl rfl br_le (by assumption) ?_) | (refine a_if rfl rfl br_eq (fun _ => ?_) (fun _ => ?_)) | (refine a_if rfl rfl br_ne (fun _ => ?_) (fun _ => ?_)) | (refine a_if rfl rfl br_lt (fun _ => ?_) (fun _ => ?_)) | (refine a_if rfl rfl br_ge (fun _ => ?_) (fun _ => ?_)) | (refine a_if rfl rfl br_gt (fun _ => ?_) (fun _ => ?_)) | (refine a_if rfl rfl br_le (fun _ => ?_) (fun _ => ?_))) | (refine a_at isIc rfl ?_; first | (refine a_icF rfl rfl br_ne (fun h => h (by assumption)) ?_) | (refine a_icT rfl rfl br_eq (by assumption) ?_) | (refine a_icF rfl rfl br_eq (by assumption) ?_) | (refine a_icT rfl rfl br_ne (by assumption) ?_) | (refine a_icF rfl rfl br_ne (by assumption) ?_) | (refine a_icT rfl rfl br_lt (by assumption) ?_) | (refine a_icF rfl rfl br_lt (by assumption) ?_) | (refine a_icT rfl rfl br_ge (by assumption) ?_) | (refine a_icF rfl rfl br_ge (by assumption) ?_) | (refine a_icT rfl rfl br_gt (by assumption) ?_) | (refine a_icF rfl rfl br_gt (by assumption) ?_) | (refine a_icT rfl rfl br_le (by assumption) ?_) | (refine a_icF rfl rfl br_le (by assumption) ?_) | (refine a_ic rfl rfl br_eq (fun _ => ?_) (fun _ => ?_)) | (refine a_ic rfl rfl br_ne (fun _ => ?_) (fun _ => ?_)) | (refine a_ic rfl rfl br_lt (fun _ => ?_) (fun _ => ?_)) | (refine a_ic rfl rfl br_ge (fun _ => ?_) (fun _ => ?_)) | (refine a_ic rfl rfl br_gt (fun _ => ?_) (fun _ => ?_)) | (refine a_ic rfl rfl br_le (fun _ => ?_) (fun _ => ?_))) | (refine a_at isRt rfl ?_; first | refine a_iret rfl rfl rfl ?_ | refine a_zret rfl rfl ?_ ?_ | refine a_lret rfl rfl ?_ | refine a_ret rfl rfl ?_))
      all_goals (simp only [h1, h2, ne_eq, not_false_eq_true, if_true, *, if_false, i10, i20] at hq; exact hq)
    · repeat' (first | refine x_kcg rfl ?_ | refine x_incg rfl rfl ?_ | refine x_opp rfl rfl ?_ | refine x_go rfl ?_ | (refine a_at isGf rfl ?_; first | refine m_getg (s_65 dy) rfl rfl rfl ?_) | (refine a_at isPf rfl ?_; first | refine a_putI (s_65 dy) rfl rfl rfl ?_ | refine a_putL (s_65 dy) rfl rfl rfl ?_) | (refine a_at isIv rfl ?_; first | refine a_callS rfl rfl rfl rfl (k_inRow hk.1.1 ?_)) | (refine a_at isAr rfl ?_; first | refine a_ialdN (s_66 dy) (k := G) rfl rfl rfl (by omega) (by decide) ?_ | refine a_baldN (s_66 dy) (k := G) rfl rfl rfl (by omega) (by decide) ?_ | refine a_laldN (s_66 dy) (k := G) rfl rfl rfl (by omega) (by decide) ?_ | refine a_iastN (s_66 dy) (k := G) rfl rfl rfl (by omega) (by decide) ?_ | refine a_lastN (s_66 dy) (k := G) rfl rfl rfl (by omega) (by decide) ?_ | refine a_bastN (s_66 dy) (k := G) rfl rfl rfl (by omega) (by decide) ?_ ?_ | refine a_ialdN (s_67 dy) (k := G) rfl rfl rfl (by omega) (by decide) ?_ | refine a_baldN (s_67 dy) (k := G) rfl rfl rfl (by omega) (by decide) ?_ | refine a_laldN (s_67 dy) (k := G) rfl rfl rfl (by omega) (by decide) ?_ | refine a_iastN (s_67 dy) (k := G) rfl rfl rfl (by omega) (by decide) ?_ | refine a_lastN (s_67 dy) (k := G) rfl rfl rfl (by omega) (by decide) ?_ | refine a_bastN (s_67 dy) (k := G) rfl rfl rfl (by omega) (by decide) ?_ ?_) | (refine a_at isIf rfl ?_; first | (refine a_ifT rfl rfl br_eqz (by assumption) ?_) | (refine a_ifF rfl rfl br_eqz (by assumption) ?_) | (refine a_ifT rfl rfl br_nez (by assumption) ?_) | (refine a_ifF rfl rfl br_nez (by assumption) ?_) | (refine a_ifT rfl rfl br_eqz (nt_f (by assumption)) ?_) | (refine a_ifF rfl rfl br_eqz (tnf (by assumption)) ?_) | (refine a_ifF rfl rfl br_nez (fnt (by assumption)) ?_) | (refine a_if rfl rfl br_eqz (fun _ => ?_) (fun _ => ?_)) | (refine a_if rfl rfl br_nez (fun _ => ?_) (fun _ => ?_)) | (refine a_ifF rfl rfl br_ne (fun h => h (by assumption)) ?_) | (refine a_ifT rfl rfl br_eq (by assumption) ?_) | (refine a_ifF rfl rfl br_eq (by assumption) ?_) | (refine a_ifT rfl rfl br_ne (by assumption) ?_) | (refine a_ifF rfl rfl br_ne (by assumption) ?_) | (refine a_ifT rfl rfl br_lt (by assumption) ?_) | (refine a_ifF rfl rfl br_lt (by assumption) ?_) | (refine a_ifT rfl rfl br_ge (by assumption) ?_) | (refine a_ifF rfl rfl br_ge (by assumption) ?_) | (refine a_ifT rfl rfl br_gt (by assumption) ?_) | (refine a_ifF rfl rfl br_gt (by assumption) ?_) | (refine a_ifT rfl rfl br_le (by assumption) ?_) | (refine a_ifF rfl rfl br_le (by assumption) ?_) | (refine a_if rfl rfl br_eq (fun _ => ?_) (fun _ => ?_)) | (refine a_if rfl rfl br_ne (fun _ => ?_) (fun _ => ?_)) | (refine a_if rfl rfl br_lt (fun _ => ?_) (fun _ => ?_)) | (refine a_if rfl rfl br_ge (fun _ => ?_) (fun _ => ?_)) | (refine a_if rfl rfl br_gt (fun _ => ?_) (fun _ => ?_)) | (refine a_if rfl rfl br_le (fun _ => ?_) (fun _ => ?_))) | (refine a_at isIc rfl ?_; first | (refine a_icF rfl rfl br_ne (fun h => h (by assumption)) ?_) | (refine a_icT rfl rfl br_eq (by assumption) ?_) | (refine a_icF rfl rfl br_eq (by assumption) ?_) | (refine a_icT rfl rfl br_ne (by assumption) ?_) | (refine a_icF rfl rfl br_ne (by assumption) ?_) | (refine a_icT rfl rfl br_lt (by assumption) ?_) | (refine a_icF rfl rfl br_lt (by assumption) ?_) | (refine a_icT rfl rfl br_ge (by assumption) ?_) | (refine a_icF rfl rfl br_ge (by assumption) ?_) | (refine a_icT rfl rfl br_gt (by assumption) ?_) | (refine a_icF rfl rfl br_gt (by assumption) ?_) | (refine a_icT rfl rfl br_le (by assumption) ?_) | (refine a_icF rfl rfl br_le (by assumption) ?_) | (refine a_ic rfl rfl br_eq (fun _ => ?_) (fun _ => ?_)) | (refine a_ic rfl rfl br_ne (fun _ => ?_) (fun _ => ?_)) | (refine a_ic rfl rfl br_lt (fun _ => ?_) (fun _ => ?_)) | (refine a_ic rfl rfl br_ge (fun _ => ?_) (fun _ => ?_)) | (refine a_ic rfl rfl br_gt (fun _ => ?_) (fun _ => ?_)) | (refine a_ic rfl rfl br_le (fun _ => ?_) (fun _ => ?_))) | (refine a_at isRt rfl ?_; first | refine a_iret rfl rfl rfl ?_ | refine a_zret rfl rfl ?_ ?_ | refine a_lret rfl rfl ?_ | refine a_ret rfl rfl ?_))
      simp only [h1, h2, ne_eq, not_false_eq_true, if_true, if_false, Bool.false_eq_true, i10, i20] at hq
      exact hq
set_option maxRecDepth 4000 in
theorem k_isThere {r c : Int32} (hG : G < 4) (hk : mgOK M G) (hq : Q (some (.int (zz (if gRow (M.1 67 G) r = false then false else gPl (mL M G r.toNatClampNeg) c 1)))) (wm (sh0 ++ dy) M)) : sm_E L xs (d + 2) 187 [.ref 65, .int (nI G), .int r, .int c] (wm (sh0 ++ dy) M) Q := by
  refine e_intro rfl rfl ?_
  by_cases h2 : gRow (M.1 67 G) r = true
  · obtain ⟨i, hi, rfl⟩ := gRow_t h2 hk.1.2
    rw [nI_clamp (by omega)] at hq
    repeat' (first | refine x_kcg rfl ?_ | refine x_incg rfl rfl ?_ | refine x_opp rfl rfl ?_ | refine x_go rfl ?_ | (refine a_at isGf rfl ?_; first | refine m_getg (s_65 dy) rfl rfl rfl ?_) | (refine a_at isPf rfl ?_; first | refine a_putI (s_65 dy) rfl rfl rfl ?_ | refine a_putL (s_65 dy) rfl rfl rfl ?_) | (refine a_at isIv rfl ?_; first | refine a_callS rfl rfl rfl rfl (k_inRow hk.1.1 ?_) | refine a_callV (s_65 dy) rfl rfl rfl rfl (k_rowOf hG hi ?_) | refine a_callS rfl rfl rfl rfl (k_inPl ?_)) | (refine a_at isAr rfl ?_; first | refine a_ialdN (s_67 dy) (k := G) rfl rfl rfl (by omega) (by decide) ?_ | refine a_baldN (s_67 dy) (k := G) rfl rfl rfl (by omega) (by decide) ?_ | refine a_laldN (s_67 dy) (k := G) rfl rfl rfl (by omega) (by decide) ?_ | refine a_iastN (s_67 dy) (k := G) rfl rfl rfl (by omega) (by decide) ?_ | refine a_lastN (s_67 dy) (k := G) rfl rfl rfl (by omega) (by decide) ?_ | refine a_bastN (s_67 dy) (k := G) rfl rfl rfl (by omega) (by decide) ?_ ?_) | (refine a_at isIf rfl ?_; first | (refine a_ifT rfl rfl br_eqz (by assumption) ?_) | (refine a_ifF rfl rfl br_eqz (by assumption) ?_) | (refine a_ifT rfl rfl br_nez (by assumption) ?_) | (refine a_ifF rfl rfl br_nez (by assumption) ?_) | (refine a_ifT rfl rfl br_eqz (nt_f (by assumption)) ?_) | (refine a_ifF rfl rfl br_eqz (tnf (by assumption)) ?_) | (refine a_ifF rfl rfl br_nez (fnt (by assumption)) ?_) | (refine a_if rfl rfl br_eqz (fun _ => ?_) (fun _ => ?_)) | (refine a_if rfl rfl br_nez (fun _ => ?_) (fun _ => ?_)) | (refine a_ifF rfl rfl br_ne (fun h => h (by assumption)) ?_) | (refine a_ifT rfl rfl br_eq (by assumption) ?_) | (refine a_ifF rfl rfl br_eq (by assumption) ?_) | (refine a_ifT rfl rfl br_ne (by assumption) ?_) | (refine a_ifF rfl rfl br_ne (by assumption) ?_) | (refine a_ifT rfl rfl br_lt (by assumption) ?_) | (refine a_ifF rfl rfl br_lt (by assumption) ?_) | (refine a_ifT rfl rfl br_ge (by assumption) ?_) | (refine a_ifF rfl rfl br_ge (by assumption) ?_) | (refine a_ifT rfl rfl br_gt (by assumption) ?_) | (refine a_ifF rfl rfl br_gt (by assumption) ?_) | (refine a_ifT rfl rfl br_le (by assumption) ?_) | (refine a_ifF rfl rfl br_le (by assumption) ?_) | (refine a_if rfl rfl br_eq (fun _ => ?_) (fun _ => ?_)) | (refine a_if rfl rfl br_ne (fun _ => ?_) (fun _ => ?_)) | (refine a_if rfl rfl br_lt (fun _ => ?_) (fun _ => ?_)) | (refine a_if rfl rfl br_ge (fun _ => ?_) (fun _ => ?_)) | (refine a_if rfl rfl br_gt (fun _ => ?_) (fun _ => ?_)) | (refine a_if rfl rfl br_le (fun _ => ?_) (fun _ => ?_))) | (refine a_at isIc rfl ?_; first | (refine a_icF rfl rfl br_ne (fun h => h (by assumption)) ?_) | (refine a_icT rfl rfl br_eq (by assumption) ?_) | (refine a_icF rfl rfl br_eq (by assumption) ?_) | (refine a_icT rfl rfl br_ne (by assumption) ?_) | (refine a_icF rfl rfl br_ne (by assumption) ?_) | (refine a_icT rfl rfl br_lt (by assumption) ?_) | (refine a_icF rfl rfl br_lt (by assumption) ?_) | (refine a_icT rfl rfl br_ge (by assumption) ?_) | (refine a_icF rfl rfl br_ge (by assumption) ?_) | (refine a_icT rfl rfl br_gt (by assumption) ?_) | (refine a_icF rfl rfl br_gt (by assumption) ?_) | (refine a_icT rfl rfl br_le (by assumption) ?_) | (refine a_icF rfl rfl br_le (by assumption) ?_) | (refine a_ic rfl rfl br_eq (fun _ => ?_) (fun _ => ?_)) | (refine a_ic rfl rfl br_ne (fun _ => ?_) (fun _ => ?_)) | (refine a_ic rfl rfl br_lt (fun _ => ?_) (fun _ => ?_)) | (refine a_ic rfl rfl br_ge (fun _ => ?_) (fun _ => ?_)) | (refine a_ic rfl rfl br_gt (fun _ => ?_) (fun _ => ?_)) | (refine a_ic rfl rfl br_le (fun _ => ?_) (fun _ => ?_))) | (refine a_at isRt rfl ?_; first | refine a_iret rfl rfl rfl ?_ | refine a_zret rfl rfl ?_ ?_ | refine a_lret rfl rfl ?_ | refine a_ret rfl rfl ?_))
    any_goals (first | exact zz_01 _ | exact Or.inl rfl | exact Or.inr rfl)
    all_goals (simp only [h2, *, if_true, if_false, Bool.true_eq_false, zz_t, zz_f] at hq; exact hq)
  · repeat' (first | refine x_kcg rfl ?_ | refine x_incg rfl rfl ?_ | refine x_opp rfl rfl ?_ | refine x_go rfl ?_ | (refine a_at isGf rfl ?_; first | refine m_getg (s_65 dy) rfl rfl rfl ?_) | (refine a_at isPf rfl ?_; first | refine a_putI (s_65 dy) rfl rfl rfl ?_ | refine a_putL (s_65 dy) rfl rfl rfl ?_) | (refine a_at isIv rfl ?_; first | refine a_callS rfl rfl rfl rfl (k_inRow hk.1.1 ?_)) | (refine a_at isAr rfl ?_; first | refine a_ialdN (s_67 dy) (k := G) rfl rfl rfl (by omega) (by decide) ?_ | refine a_baldN (s_67 dy) (k := G) rfl rfl rfl (by omega) (by decide) ?_ | refine a_laldN (s_67 dy) (k := G) rfl rfl rfl (by omega) (by decide) ?_ | refine a_iastN (s_67 dy) (k := G) rfl rfl rfl (by omega) (by decide) ?_ | refine a_lastN (s_67 dy) (k := G) rfl rfl rfl (by omega) (by decide) ?_ | refine a_bastN (s_67 dy) (k := G) rfl rfl rfl (by omega) (by decide) ?_ ?_) | (refine a_at isIf rfl ?_; first | (refine a_ifT rfl rfl br_eqz (by assumption) ?_) | (refine a_ifF rfl rfl br_eqz (by assumption) ?_) | (refine a_ifT rfl rfl br_nez (by assumption) ?_) | (refine a_ifF rfl rfl br_nez (by assumption) ?_) | (refine a_ifT rfl rfl br_eqz (nt_f (by assumption)) ?_) | (refine a_ifF rfl rfl br_eqz (tnf (by assumption)) ?_) | (refine a_ifF rfl rfl br_nez (fnt (by assumption)) ?_) | (refine a_if rfl rfl br_eqz (fun _ => ?_) (fun _ => ?_)) | (refine a_if rfl rfl br_nez (fun _ => ?_) (fun _ => ?_)) | (refine a_ifF rfl rfl br_ne (fun h => h (by assumption)) ?_) | (refine a_ifT rfl rfl br_eq (by assumption) ?_) | (refine a_ifF rfl rfl br_eq (by assumption) ?_) | (refine a_ifT rfl rfl br_ne (by assumption) ?_) | (refine a_ifF rfl rfl br_ne (by assumption) ?_) | (refine a_ifT rfl rfl br_lt (by assumption) ?_) | (refine a_ifF rfl rfl br_lt (by assumption) ?_) | (refine a_ifT rfl rfl br_ge (by assumption) ?_) | (refine a_ifF rfl rfl br_ge (by assumption) ?_) | (refine a_ifT rfl rfl br_gt (by assumption) ?_) | (refine a_ifF rfl rfl br_gt (by assumption) ?_) | (refine a_ifT rfl rfl br_le (by assumption) ?_) | (refine a_ifF rfl rfl br_le (by assumption) ?_) | (refine a_if rfl rfl br_eq (fun _ => ?_) (fun _ => ?_)) | (refine a_if rfl rfl br_ne (fun _ => ?_) (fun _ => ?_)) | (refine a_if rfl rfl br_lt (fun _ => ?_) (fun _ => ?_)) | (refine a_if rfl rfl br_ge (fun _ => ?_) (fun _ => ?_)) | (refine a_if rfl rfl br_gt (fun _ => ?_) (fun _ => ?_)) | (refine a_if rfl rfl br_le (fun _ => ?_) (fun _ => ?_))) | (refine a_at isIc rfl ?_; first | (refine a_icF rfl rfl br_ne (fun h => h (by assumption)) ?_) | (refine a_icT rfl rfl br_eq (by assumption) ?_) | (refine a_icF rfl rfl br_eq (by assumption) ?_) | (refine a_icT rfl rfl br_ne (by assumption) ?_) | (refine a_icF rfl rfl br_ne (by assumption) ?_) | (refine a_icT rfl rfl br_lt (by assumption) ?_) | (refine a_icF rfl rfl br_lt (by assumption) ?_) | (refine a_icT rfl rfl br_ge (by assumption) ?_) | (refine a_icF rfl rfl br_ge (by assumption) ?_) | (refine a_icT rfl rfl br_gt (by assumption) ?_) | (refine a_icF rfl rfl br_gt (by assumption) ?_) | (refine a_icT rfl rfl br_le (by assumption) ?_) | (refine a_icF rfl rfl br_le (by assumption) ?_) | (refine a_ic rfl rfl br_eq (fun _ => ?_) (fun _ => ?_)) | (refine a_ic rfl rfl br_ne (fun _ => ?_) (fun _ => ?_)) | (refine a_ic rfl rfl br_lt (fun _ => ?_) (fun _ => ?_)) | (refine a_ic rfl rfl br_ge (fun _ => ?_) (fun _ => ?_)) | (refine a_ic rfl rfl br_gt (fun _ => ?_) (fun _ => ?_)) | (refine a_ic rfl rfl br_le (fun _ => ?_) (fun _ => ?_))) | (refine a_at isRt rfl ?_; first | refine a_iret rfl rfl rfl ?_ | refine a_zret rfl rfl ?_ ?_ | refine a_lret rfl rfl ?_ | refine a_ret rfl rfl ?_))
    any_goals (first | exact zz_01 _ | exact Or.inl rfl | exact Or.inr rfl)
    simp only [nt_f h2, if_true, zz_f] at hq
    exact hq
theorem gPl_7 {M : mm_T} (hk : mgOK M G) {i : Nat} (hi : i < 7) {c : Int32} (h : gPl (mL M G i) c 1 = true) : ∃ j, j < 7 ∧ c = nI j := gPl_t h (mgOK_7 hk i hi).2 (mgOK_7 hk i hi).1
set_option maxRecDepth 4000 in
theorem k_isWhite {r c : Int32} (hG : G < 4) (hk : mgOK M G) (hs : msOK M) (hq : Q (some (.int (zz (gWh (M.1 67 G) (mL M G) (mC M G) r c)))) (wm (sh0 ++ dy) M)) : sm_E L xs (d + 3) 186 [.ref 65, .int (nI G), .int r, .int c] (wm (sh0 ++ dy) M) Q := by
  refine e_intro rfl rfl ?_
  unfold gWh at hq
  by_cases h2 : gRow (M.1 67 G) r = true
  · obtain ⟨i, hi, rfl⟩ := gRow_t h2 hk.1.2
    rw [nI_clamp (by omega)] at hq
    by_cases h3 : gPl (mL M G i) c 1 = true
    · obtain ⟨j, hj, rfl⟩ := gPl_7 hk hi h3
      have e := (tld_3 hs (show 49 * G + (i * 7 + j) < 196 by omega)).1
      rw [mul7, nI_clamp (by omega)] at hq
      unfold mC at hq
      rw [e] at hq
      simp only [h2, h3, Bool.true_eq_false, if_false] at hq
      have hr : (if gRow (M.1 67 G) (nI i) = false then false else gPl (mL M G (nI i).toNatClampNeg) (nI j) 1) = true := by rw [nI_clamp (by omega), if_neg (by rw [h2]; decide)]; exact h3
      repeat' (first | refine x_kcg rfl ?_ | refine x_incg rfl rfl ?_ | refine x_opp rfl rfl ?_ | refine x_go rfl ?_ | (refine a_at isGf rfl ?_; first | refine m_getg (s_65 dy) rfl rfl rfl ?_) | (refine a_at isPf rfl ?_; first | refine a_putI (s_65 dy) rfl rfl rfl ?_ | refine a_putL (s_65 dy) rfl rfl rfl ?_) | (refine a_at isIv rfl ?_; first | refine a_callV (s_65 dy) rfl rfl rfl rfl (k_isThere hG hk ?_) | (refine a_callS rfl rfl rfl rfl (k_square ?_); rw [sq_eq])) | (refine a_at isAr rfl ?_; first | refine a_ialdN (s_70 dy) (k := (49 * G + (i * 7 + j))) rfl rfl rfl (by omega) (by decide) ?_ | refine a_baldN (s_70 dy) (k := (49 * G + (i * 7 + j))) rfl rfl rfl (by omega) (by decide) ?_ | refine a_laldN (s_70 dy) (k := (49 * G + (i * 7 + j))) rfl rfl rfl (by omega) (by decide) ?_ | refine a_iastN (s_70 dy) (k := (49 * G + (i * 7 + j))) rfl rfl rfl (by omega) (by decide) ?_ | refine a_lastN (s_70 dy) (k := (49 * G + (i * 7 + j))) rfl rfl rfl (by omega) (by decide) ?_ | refine a_bastN (s_70 dy) (k := (49 * G + (i * 7 + j))) rfl rfl rfl (by omega) (by decide) ?_ ?_) | (refine a_at isIf rfl ?_; first | (refine a_ifT rfl rfl br_eqz (by assumption) ?_) | (refine a_ifF rfl rfl br_eqz (by assumption) ?_) | (refine a_ifT rfl rfl br_nez (by assumption) ?_) | (refine a_ifF rfl rfl br_nez (by assumption) ?_) | (refine a_ifT rfl rfl br_eqz (nt_f (by assumption)) ?_) | (refine a_ifF rfl rfl br_eqz (tnf (by assumption)) ?_) | (refine a_ifF rfl rfl br_nez (fnt (by assumption)) ?_) | (refine a_if rfl rfl br_eqz (fun _ => ?_) (fun _ => ?_)) | (refine a_if rfl rfl br_nez (fun _ => ?_) (fun _ => ?_)) | (refine a_ifF rfl rfl br_ne (fun h => h (by assumption)) ?_) | (refine a_ifT rfl rfl br_eq (by assumption) ?_) | (refine a_ifF rfl rfl br_eq (by assumption) ?_) | (refine a_ifT rfl rfl br_ne (by assumption) ?_) | (refine a_ifF rfl rfl br_ne (by assumption) ?_) | (refine a_ifT rfl rfl br_lt (by assumption) ?_) | (refine a_ifF rfl rfl br_lt (by assumption) ?_) | (refine a_ifT rfl rfl br_ge (by assumption) ?_) | (refine a_ifF rfl rfl br_ge (by assumption) ?_) | (refine a_ifT rfl rfl br_gt (by assumption) ?_) | (refine a_ifF rfl rfl br_gt (by assumption) ?_) | (refine a_ifT rfl rfl br_le (by assumption) ?_) | (refine a_ifF rfl rfl br_le (by assumption) ?_) | (refine a_if rfl rfl br_eq (fun _ => ?_) (fun _ => ?_)) | (refine a_if rfl rfl br_ne (fun _ => ?_) (fun _ => ?_)) | (refine a_if rfl rfl br_lt (fun _ => ?_) (fun _ => ?_)) | (refine a_if rfl rfl br_ge (fun _ => ?_) (fun _ => ?_)) | (refine a_if rfl rfl br_gt (fun _ => ?_) (fun _ => ?_)) | (refine a_if rfl rfl br_le (fun _ => ?_) (fun _ => ?_))) | (refine a_at isIc rfl ?_; first | (refine a_icF rfl rfl br_ne (fun h => h (by assumption)) ?_) | (refine a_icT rfl rfl br_eq (by assumption) ?_) | (refine a_icF rfl rfl br_eq (by assumption) ?_) | (refine a_icT rfl rfl br_ne (by assumption) ?_) | (refine a_icF rfl rfl br_ne (by assumption) ?_) | (refine a_icT rfl rfl br_lt (by assumption) ?_) | (refine a_icF rfl rfl br_lt (by assumption) ?_) | (refine a_icT rfl rfl br_ge (by assumption) ?_) | (refine a_icF rfl rfl br_ge (by assumption) ?_) | (refine a_icT rfl rfl br_gt (by assumption) ?_) | (refine a_icF rfl rfl br_gt (by assumption) ?_) | (refine a_icT rfl rfl br_le (by assumption) ?_) | (refine a_icF rfl rfl br_le (by assumption) ?_) | (refine a_ic rfl rfl br_eq (fun _ => ?_) (fun _ => ?_)) | (refine a_ic rfl rfl br_ne (fun _ => ?_) (fun _ => ?_)) | (refine a_ic rfl rfl br_lt (fun _ => ?_) (fun _ => ?_)) | (refine a_ic rfl rfl br_ge (fun _ => ?_) (fun _ => ?_)) | (refine a_ic rfl rfl br_gt (fun _ => ?_) (fun _ => ?_)) | (refine a_ic rfl rfl br_le (fun _ => ?_) (fun _ => ?_))) | (refine a_at isRt rfl ?_; first | refine a_iret rfl rfl rfl ?_ | refine a_zret rfl rfl ?_ ?_ | refine a_lret rfl rfl ?_ | refine a_ret rfl rfl ?_))
      any_goals (first | exact zz_01 _ | exact Or.inl rfl | exact Or.inr rfl)
      all_goals (simp only [*, if_true, if_false, zz_t, zz_f] at hq; exact hq)
    · have hr : (if gRow (M.1 67 G) (nI i) = false then false else gPl (mL M G (nI i).toNatClampNeg) c 1) = false := by rw [nI_clamp (by omega), if_neg (by rw [h2]; decide)]; exact nt_f h3
      repeat' (first | refine x_kcg rfl ?_ | refine x_incg rfl rfl ?_ | refine x_opp rfl rfl ?_ | refine x_go rfl ?_ | (refine a_at isGf rfl ?_; first | refine m_getg (s_65 dy) rfl rfl rfl ?_) | (refine a_at isPf rfl ?_; first | refine a_putI (s_65 dy) rfl rfl rfl ?_ | refine a_putL (s_65 dy) rfl rfl rfl ?_) | (refine a_at isIv rfl ?_; first | refine a_callV (s_65 dy) rfl rfl rfl rfl (k_isThere hG hk ?_)) | (refine a_at isIf rfl ?_; first | (refine a_ifT rfl rfl br_eqz (by assumption) ?_) | (refine a_ifF rfl rfl br_eqz (by assumption) ?_) | (refine a_ifT rfl rfl br_nez (by assumption) ?_) | (refine a_ifF rfl rfl br_nez (by assumption) ?_) | (refine a_ifT rfl rfl br_eqz (nt_f (by assumption)) ?_) | (refine a_ifF rfl rfl br_eqz (tnf (by assumption)) ?_) | (refine a_ifF rfl rfl br_nez (fnt (by assumption)) ?_) | (refine a_if rfl rfl br_eqz (fun _ => ?_) (fun _ => ?_)) | (refine a_if rfl rfl br_nez (fun _ => ?_) (fun _ => ?_)) | (refine a_ifF rfl rfl br_ne (fun h => h (by assumption)) ?_) | (refine a_ifT rfl rfl br_eq (by assumption) ?_) | (refine a_ifF rfl rfl br_eq (by assumption) ?_) | (refine a_ifT rfl rfl br_ne (by assumption) ?_) | (refine a_ifF rfl rfl br_ne (by assumption) ?_) | (refine a_ifT rfl rfl br_lt (by assumption) ?_) | (refine a_ifF rfl rfl br_lt (by assumption) ?_) | (refine a_ifT rfl rfl br_ge (by assumption) ?_) | (refine a_ifF rfl rfl br_ge (by assumption) ?_) | (refine a_ifT rfl rfl br_gt (by assumption) ?_) | (refine a_ifF rfl rfl br_gt (by assumption) ?_) | (refine a_ifT rfl rfl br_le (by assumption) ?_) | (refine a_ifF rfl rfl br_le (by assumption) ?_) | (refine a_if rfl rfl br_eq (fun _ => ?_) (fun _ => ?_)) | (refine a_if rfl rfl br_ne (fun _ => ?_) (fun _ => ?_)) | (refine a_if rfl rfl br_lt (fun _ => ?_) (fun _ => ?_)) | (refine a_if rfl rfl br_ge (fun _ => ?_) (fun _ => ?_)) | (refine a_if rfl rfl br_gt (fun _ => ?_) (fun _ => ?_)) | (refine a_if rfl rfl br_le (fun _ => ?_) (fun _ => ?_))) | (refine a_at isIc rfl ?_; first | (refine a_icF rfl rfl br_ne (fun h => h (by assumption)) ?_) | (refine a_icT rfl rfl br_eq (by assumption) ?_) | (refine a_icF rfl rfl br_eq (by assumption) ?_) | (refine a_icT rfl rfl br_ne (by assumption) ?_) | (refine a_icF rfl rfl br_ne (by assumption) ?_) | (refine a_icT rfl rfl br_lt (by assumption) ?_) | (refine a_icF rfl rfl br_lt (by assumption) ?_) | (refine a_icT rfl rfl br_ge (by assumption) ?_) | (refine a_icF rfl rfl br_ge (by assumption) ?_) | (refine a_icT rfl rfl br_gt (by assumption) ?_) | (refine a_icF rfl rfl br_gt (by assumption) ?_) | (refine a_icT rfl rfl br_le (by assumption) ?_) | (refine a_icF rfl rfl br_le (by assumption) ?_) | (refine a_ic rfl rfl br_eq (fun _ => ?_) (fun _ => ?_)) | (refine a_ic rfl rfl br_ne (fun _ => ?_) (fun _ => ?_)) | (refine a_ic rfl rfl br_lt (fun _ => ?_) (fun _ => ?_)) | (refine a_ic rfl rfl br_ge (fun _ => ?_) (fun _ => ?_)) | (refine a_ic rfl rfl br_gt (fun _ => ?_) (fun _ => ?_)) | (refine a_ic rfl rfl br_le (fun _ => ?_) (fun _ => ?_))) | (refine a_at isRt rfl ?_; first | refine a_iret rfl rfl rfl ?_ | refine a_zret rfl rfl ?_ ?_ | refine a_lret rfl rfl ?_ | refine a_ret rfl rfl ?_))
      any_goals (first | exact zz_01 _ | exact Or.inl rfl | exact Or.inr rfl)
      simp only [h2, nt_f h3, if_true, Bool.true_eq_false, if_false, zz_f] at hq
      exact hq
  · have hr : (if gRow (M.1 67 G) r = false then false else gPl (mL M G r.toNatClampNeg) c 1) = false := if_pos (nt_f h2)
    repeat' (first | refine x_kcg rfl ?_ | refine x_incg rfl rfl ?_ | refine x_opp rfl rfl ?_ | refine x_go rfl ?_ | (refine a_at isGf rfl ?_; first | refine m_getg (s_65 dy) rfl rfl rfl ?_) | (refine a_at isPf rfl ?_; first | refine a_putI (s_65 dy) rfl rfl rfl ?_ | refine a_putL (s_65 dy) rfl rfl rfl ?_) | (refine a_at isIv rfl ?_; first | refine a_callV (s_65 dy) rfl rfl rfl rfl (k_isThere hG hk ?_)) | (refine a_at isIf rfl ?_; first | (refine a_ifT rfl rfl br_eqz (by assumption) ?_) | (refine a_ifF rfl rfl br_eqz (by assumption) ?_) | (refine a_ifT rfl rfl br_nez (by assumption) ?_) | (refine a_ifF rfl rfl br_nez (by assumption) ?_) | (refine a_ifT rfl rfl br_eqz (nt_f (by assumption)) ?_) | (refine a_ifF rfl rfl br_eqz (tnf (by assumption)) ?_) | (refine a_ifF rfl rfl br_nez (fnt (by assumption)) ?_) | (refine a_if rfl rfl br_eqz (fun _ => ?_) (fun _ => ?_)) | (refine a_if rfl rfl br_nez (fun _ => ?_) (fun _ => ?_)) | (refine a_ifF rfl rfl br_ne (fun h => h (by assumption)) ?_) | (refine a_ifT rfl rfl br_eq (by assumption) ?_) | (refine a_ifF rfl rfl br_eq (by assumption) ?_) | (refine a_ifT rfl rfl br_ne (by assumption) ?_) | (refine a_ifF rfl rfl br_ne (by assumption) ?_) | (refine a_ifT rfl rfl br_lt (by assumption) ?_) | (refine a_ifF rfl rfl br_lt (by assumption) ?_) | (refine a_ifT rfl rfl br_ge (by assumption) ?_) | (refine a_ifF rfl rfl br_ge (by assumption) ?_) | (refine a_ifT rfl rfl br_gt (by assumption) ?_) | (refine a_ifF rfl rfl br_gt (by assumption) ?_) | (refine a_ifT rfl rfl br_le (by assumption) ?_) | (refine a_ifF rfl rfl br_le (by assumption) ?_) | (refine a_if rfl rfl br_eq (fun _ => ?_) (fun _ => ?_)) | (refine a_if rfl rfl br_ne (fun _ => ?_) (fun _ => ?_)) | (refine a_if rfl rfl br_lt (fun _ => ?_) (fun _ => ?_)) | (refine a_if rfl rfl br_ge (fun _ => ?_) (fun _ => ?_)) | (refine a_if rfl rfl br_gt (fun _ => ?_) (fun _ => ?_)) | (refine a_if rfl rfl br_le (fun _ => ?_) (fun _ => ?_))) | (refine a_at isIc rfl ?_; first | (refine a_icF rfl rfl br_ne (fun h => h (by assumption)) ?_) | (refine a_icT rfl rfl br_eq (by assumption) ?_) | (refine a_icF rfl rfl br_eq (by assumption) ?_) | (refine a_icT rfl rfl br_ne (by assumption) ?_) | (refine a_icF rfl rfl br_ne (by assumption) ?_) | (refine a_icT rfl rfl br_lt (by assumption) ?_) | (refine a_icF rfl rfl br_lt (by assumption) ?_) | (refine a_icT rfl rfl br_ge (by assumption) ?_) | (refine a_icF rfl rfl br_ge (by assumption) ?_) | (refine a_icT rfl rfl br_gt (by assumption) ?_) | (refine a_icF rfl rfl br_gt (by assumption) ?_) | (refine a_icT rfl rfl br_le (by assumption) ?_) | (refine a_icF rfl rfl br_le (by assumption) ?_) | (refine a_ic rfl rfl br_eq (fun _ => ?_) (fun _ => ?_)) | (refine a_ic rfl rfl br_ne (fun _ => ?_) (fun _ => ?_)) | (refine a_ic rfl rfl br_lt (fun _ => ?_) (fun _ => ?_)) | (refine a_ic rfl rfl br_ge (fun _ => ?_) (fun _ => ?_)) | (refine a_ic rfl rfl br_gt (fun _ => ?_) (fun _ => ?_)) | (refine a_ic rfl rfl br_le (fun _ => ?_) (fun _ => ?_))) | (refine a_at isRt rfl ?_; first | refine a_iret rfl rfl rfl ?_ | refine a_zret rfl rfl ?_ ?_ | refine a_lret rfl rfl ?_ | refine a_ret rfl rfl ?_))
    any_goals (first | exact zz_01 _ | exact Or.inl rfl | exact Or.inr rfl)
    simp only [nt_f h2, if_true, zz_f] at hq
    exact hq
end MB
end
section
/-! the entries of a grid, in the reference -/
theorem gJR_hi {h : Int32} {ln cs : Nat → Int32} {r : Int32} {c : Nat} (h7 : h ≤ 7) (hl : ∀ i, i < 7 → -1 ≤ ln i ∧ ln i ≤ 7) (hc : c + 1 < 2 ^ 31) (g : gJR h ln cs r (nI c) = true) : c + 1 < 7 := by
  unfold gJR at g
  split at g
  · cases g
  · split at g
    · cases g
    · rename_i h1 h2
      obtain ⟨i, j, hi, hj, -, e⟩ := gWh_t (nf_t h2) h7 hl
      rw [nI_1] at e
      have e2 := congrArg Int32.toNatClampNeg e
      rw [nI_clamp hc, nI_clamp (by omega)] at e2
      omega
theorem gJB_hi {h : Int32} {ln cs : Nat → Int32} {k : Int32} {r : Nat} (h7 : h ≤ 7) (hl : ∀ i, i < 7 → -1 ≤ ln i ∧ ln i ≤ 7) (hc : r + 1 < 2 ^ 31) (g : gJB h ln cs (nI r) k = true) : r + 1 < 7 := by
  unfold gJB at g
  split at g
  · cases g
  · split at g
    · cases g
    · rename_i h1 h2
      obtain ⟨i, j, hi, hj, e, -⟩ := gWh_t (nf_t h2) h7 hl
      rw [nI_1] at e
      have e2 := congrArg Int32.toNatClampNeg e
      rw [nI_clamp hc, nI_clamp (by omega)] at e2
      omega
theorem z10 : ¬ (1 : Int32) = 0 := by decide
theorem z00 : (0 : Int32) = 0 := rfl
section MC2
variable {L : Nat} {xs : Nat → Int32} {d : Nat} {dy : List sh_T} {M : mm_T} {Q : Option Value → sm_W → Prop} {G : Nat}
set_option maxRecDepth 4000 in
theorem k_goesR {r c : Int32} (hG : G < 4) (hk : mgOK M G) (hs : msOK M) (hq : Q (some (.int (zz (gJR (M.1 67 G) (mL M G) (mC M G) r c)))) (wm (sh0 ++ dy) M)) : sm_E L xs (d + 4) 185 [.ref 65, .int (nI G), .int r, .int c, .int 0] (wm (sh0 ++ dy) M) Q := by
  refine e_intro rfl rfl ?_
  have e0 := z00
  unfold gJR at hq
  by_cases h1 : gWh (M.1 67 G) (mL M G) (mC M G) r c = true
  · obtain ⟨i, j, hi, hj, rfl, rfl⟩ := gWh_t h1 hk.1.2 (mgOK_7 hk)
    have e := (tld_3 hs (show 49 * G + (i * 7 + j) < 196 by omega)).2.1
    rw [mul7, nI_clamp (by omega)] at hq
    have e2 : mC M G (i * 7 + j) &&& 32 = if M.1 71 (49 * G + (i * 7 + j)) = 0 then 0 else 32 := e
    rw [e2] at hq
    repeat' (first | refine x_kcg rfl ?_ | refine x_incg rfl rfl ?_ | refine x_opp rfl rfl ?_ | refine x_go rfl ?_ | (refine a_at isGf rfl ?_; first | refine m_getg (s_65 dy) rfl rfl rfl ?_) | (refine a_at isPf rfl ?_; first | refine a_putI (s_65 dy) rfl rfl rfl ?_ | refine a_putL (s_65 dy) rfl rfl rfl ?_) | (refine a_at isIv rfl ?_; first | refine a_callV (s_65 dy) rfl rfl rfl rfl (k_isWhite hG hk hs ?_) | (refine a_callS rfl rfl rfl rfl (k_square ?_); rw [sq_eq])) | (refine a_at isAr rfl ?_; first | refine a_ialdN (s_71 dy) (k := (49 * G + (i * 7 + j))) rfl rfl rfl (by omega) (by decide) ?_ | refine a_baldN (s_71 dy) (k := (49 * G + (i * 7 + j))) rfl rfl rfl (by omega) (by decide) ?_ | refine a_laldN (s_71 dy) (k := (49 * G + (i * 7 + j))) rfl rfl rfl (by omega) (by decide) ?_ | refine a_iastN (s_71 dy) (k := (49 * G + (i * 7 + j))) rfl rfl rfl (by omega) (by decide) ?_ | refine a_lastN (s_71 dy) (k := (49 * G + (i * 7 + j))) rfl rfl rfl (by omega) (by decide) ?_ | refine a_bastN (s_71 dy) (k := (49 * G + (i * 7 + j))) rfl rfl rfl (by omega) (by decide) ?_ ?_) | (refine a_at isIf rfl ?_; first | (refine a_ifT rfl rfl br_eqz (by assumption) ?_) | (refine a_ifF rfl rfl br_eqz (by assumption) ?_) | (refine a_ifT rfl rfl br_nez (by assumption) ?_) | (refine a_ifF rfl rfl br_nez (by assumption) ?_) | (refine a_ifT rfl rfl br_eqz (nt_f (by assumption)) ?_) | (refine a_ifF rfl rfl br_eqz (tnf (by assumption)) ?_) | (refine a_ifF rfl rfl br_nez (fnt (by assumption)) ?_) | (refine a_if rfl rfl br_eqz (fun _ => ?_) (fun _ => ?_)) | (refine a_if rfl rfl br_nez (fun _ => ?_) (fun _ => ?_)) | (refine a_ifF rfl rfl br_ne (fun h => h (by assumption)) ?_) | (refine a_ifT rfl rfl br_eq (by assumption) ?_) | (refine a_ifF rfl rfl br_eq (by assumption) ?_) | (refine a_ifT rfl rfl br_ne (by assumption) ?_) | (refine a_ifF rfl rfl br_ne (by assumption) ?_) | (refine a_ifT rfl rfl br_lt (by assumption) ?_) | (refine a_ifF rfl rfl br_lt (by assumption) ?_) | (refine a_ifT rfl rfl br_ge (by assumption) ?_) | (refine a_ifF rfl rfl br_ge (by assumption) ?_) | (refine a_ifT rfl rfl br_gt (by assumption) ?_) | (refine a_ifF rfl rfl br_gt (by assumption) ?_) | (refine a_ifT rfl rfl br_le (by assumption) ?_) | (refine a_ifF rfl rfl br_le (by assumption) ?_) | (refine a_if rfl rfl br_eq (fun _ => ?_) (fun _ => ?_)) | (refine a_if rfl rfl br_ne (fun _ => ?_) (fun _ => ?_)) | (refine a_if rfl rfl br_lt (fun _ => ?_) (fun _ => ?_)) | (refine a_if rfl rfl br_ge (fun _ => ?_) (fun _ => ?_)) | (refine a_if rfl rfl br_gt (fun _ => ?_) (fun _ => ?_)) | (refine a_if rfl rfl br_le (fun _ => ?_) (fun _ => ?_))) | (refine a_at isIc rfl ?_; first | (refine a_icF rfl rfl br_ne (fun h => h (by assumption)) ?_) | (refine a_icT rfl rfl br_eq (by assumption) ?_) | (refine a_icF rfl rfl br_eq (by assumption) ?_) | (refine a_icT rfl rfl br_ne (by assumption) ?_) | (refine a_icF rfl rfl br_ne (by assumption) ?_) | (refine a_icT rfl rfl br_lt (by assumption) ?_) | (refine a_icF rfl rfl br_lt (by assumption) ?_) | (refine a_icT rfl rfl br_ge (by assumption) ?_) | (refine a_icF rfl rfl br_ge (by assumption) ?_) | (refine a_icT rfl rfl br_gt (by assumption) ?_) | (refine a_icF rfl rfl br_gt (by assumption) ?_) | (refine a_icT rfl rfl br_le (by assumption) ?_) | (refine a_icF rfl rfl br_le (by assumption) ?_) | (refine a_ic rfl rfl br_eq (fun _ => ?_) (fun _ => ?_)) | (refine a_ic rfl rfl br_ne (fun _ => ?_) (fun _ => ?_)) | (refine a_ic rfl rfl br_lt (fun _ => ?_) (fun _ => ?_)) | (refine a_ic rfl rfl br_ge (fun _ => ?_) (fun _ => ?_)) | (refine a_ic rfl rfl br_gt (fun _ => ?_) (fun _ => ?_)) | (refine a_ic rfl rfl br_le (fun _ => ?_) (fun _ => ?_))) | (refine a_at isRt rfl ?_; first | refine a_iret rfl rfl rfl ?_ | refine a_zret rfl rfl ?_ ?_ | refine a_lret rfl rfl ?_ | refine a_ret rfl rfl ?_))
    any_goals (first | exact zz_01 _ | exact Or.inl rfl | exact Or.inr rfl)
    all_goals (try simp only [ne_eq, Classical.not_not] at *); all_goals (simp only [h1, show ¬ (32 : Int32) = 0 by decide, *, if_true, if_false, zz_t, zz_f, Bool.true_eq_false, Bool.false_eq_true, not_true_eq_false, not_false_eq_true] at hq; exact hq)
  · repeat' (first | refine x_kcg rfl ?_ | refine x_incg rfl rfl ?_ | refine x_opp rfl rfl ?_ | refine x_go rfl ?_ | (refine a_at isGf rfl ?_; first | refine m_getg (s_65 dy) rfl rfl rfl ?_) | (refine a_at isPf rfl ?_; first | refine a_putI (s_65 dy) rfl rfl rfl ?_ | refine a_putL (s_65 dy) rfl rfl rfl ?_) | (refine a_at isIv rfl ?_; first | refine a_callV (s_65 dy) rfl rfl rfl rfl (k_isWhite hG hk hs ?_)) | (refine a_at isIf rfl ?_; first | (refine a_ifT rfl rfl br_eqz (by assumption) ?_) | (refine a_ifF rfl rfl br_eqz (by assumption) ?_) | (refine a_ifT rfl rfl br_nez (by assumption) ?_) | (refine a_ifF rfl rfl br_nez (by assumption) ?_) | (refine a_ifT rfl rfl br_eqz (nt_f (by assumption)) ?_) | (refine a_ifF rfl rfl br_eqz (tnf (by assumption)) ?_) | (refine a_ifF rfl rfl br_nez (fnt (by assumption)) ?_) | (refine a_if rfl rfl br_eqz (fun _ => ?_) (fun _ => ?_)) | (refine a_if rfl rfl br_nez (fun _ => ?_) (fun _ => ?_)) | (refine a_ifF rfl rfl br_ne (fun h => h (by assumption)) ?_) | (refine a_ifT rfl rfl br_eq (by assumption) ?_) | (refine a_ifF rfl rfl br_eq (by assumption) ?_) | (refine a_ifT rfl rfl br_ne (by assumption) ?_) | (refine a_ifF rfl rfl br_ne (by assumption) ?_) | (refine a_ifT rfl rfl br_lt (by assumption) ?_) | (refine a_ifF rfl rfl br_lt (by assumption) ?_) | (refine a_ifT rfl rfl br_ge (by assumption) ?_) | (refine a_ifF rfl rfl br_ge (by assumption) ?_) | (refine a_ifT rfl rfl br_gt (by assumption) ?_) | (refine a_ifF rfl rfl br_gt (by assumption) ?_) | (refine a_ifT rfl rfl br_le (by assumption) ?_) | (refine a_ifF rfl rfl br_le (by assumption) ?_) | (refine a_if rfl rfl br_eq (fun _ => ?_) (fun _ => ?_)) | (refine a_if rfl rfl br_ne (fun _ => ?_) (fun _ => ?_)) | (refine a_if rfl rfl br_lt (fun _ => ?_) (fun _ => ?_)) | (refine a_if rfl rfl br_ge (fun _ => ?_) (fun _ => ?_)) | (refine a_if rfl rfl br_gt (fun _ => ?_) (fun _ => ?_)) | (refine a_if rfl rfl br_le (fun _ => ?_) (fun _ => ?_))) | (refine a_at isIc rfl ?_; first | (refine a_icF rfl rfl br_ne (fun h => h (by assumption)) ?_) | (refine a_icT rfl rfl br_eq (by assumption) ?_) | (refine a_icF rfl rfl br_eq (by assumption) ?_) | (refine a_icT rfl rfl br_ne (by assumption) ?_) | (refine a_icF rfl rfl br_ne (by assumption) ?_) | (refine a_icT rfl rfl br_lt (by assumption) ?_) | (refine a_icF rfl rfl br_lt (by assumption) ?_) | (refine a_icT rfl rfl br_ge (by assumption) ?_) | (refine a_icF rfl rfl br_ge (by assumption) ?_) | (refine a_icT rfl rfl br_gt (by assumption) ?_) | (refine a_icF rfl rfl br_gt (by assumption) ?_) | (refine a_icT rfl rfl br_le (by assumption) ?_) | (refine a_icF rfl rfl br_le (by assumption) ?_) | (refine a_ic rfl rfl br_eq (fun _ => ?_) (fun _ => ?_)) | (refine a_ic rfl rfl br_ne (fun _ => ?_) (fun _ => ?_)) | (refine a_ic rfl rfl br_lt (fun _ => ?_) (fun _ => ?_)) | (refine a_ic rfl rfl br_ge (fun _ => ?_) (fun _ => ?_)) | (refine a_ic rfl rfl br_gt (fun _ => ?_) (fun _ => ?_)) | (refine a_ic rfl rfl br_le (fun _ => ?_) (fun _ => ?_))) | (refine a_at isRt rfl ?_; first | refine a_iret rfl rfl rfl ?_ | refine a_zret rfl rfl ?_ ?_ | refine a_lret rfl rfl ?_ | refine a_ret rfl rfl ?_))
    any_goals (first | exact zz_01 _ | exact Or.inl rfl | exact Or.inr rfl)
    simp only [nt_f h1, if_true, zz_f] at hq
    exact hq
set_option maxRecDepth 4000 in
theorem k_goesB {r c : Int32} (hG : G < 4) (hk : mgOK M G) (hs : msOK M) (hq : Q (some (.int (zz (gJB (M.1 67 G) (mL M G) (mC M G) r c)))) (wm (sh0 ++ dy) M)) : sm_E L xs (d + 4) 185 [.ref 65, .int (nI G), .int r, .int c, .int 1] (wm (sh0 ++ dy) M) Q := by
  refine e_intro rfl rfl ?_
  have e0 := z10
  unfold gJB at hq
  by_cases h1 : gWh (M.1 67 G) (mL M G) (mC M G) r c = true
  · obtain ⟨i, j, hi, hj, rfl, rfl⟩ := gWh_t h1 hk.1.2 (mgOK_7 hk)
    have e := (tld_3 hs (show 49 * G + (i * 7 + j) < 196 by omega)).2.2
    rw [mul7, nI_clamp (by omega)] at hq
    have e2 : mC M G (i * 7 + j) &&& 64 = if M.1 72 (49 * G + (i * 7 + j)) = 0 then 0 else 64 := e
    rw [e2] at hq
    repeat' (first | refine x_kcg rfl ?_ | refine x_incg rfl rfl ?_ | refine x_opp rfl rfl ?_ | refine x_go rfl ?_ | (refine a_at isGf rfl ?_; first | refine m_getg (s_65 dy) rfl rfl rfl ?_) | (refine a_at isPf rfl ?_; first | refine a_putI (s_65 dy) rfl rfl rfl ?_ | refine a_putL (s_65 dy) rfl rfl rfl ?_) | (refine a_at isIv rfl ?_; first | refine a_callV (s_65 dy) rfl rfl rfl rfl (k_isWhite hG hk hs ?_) | (refine a_callS rfl rfl rfl rfl (k_square ?_); rw [sq_eq])) | (refine a_at isAr rfl ?_; first | refine a_ialdN (s_72 dy) (k := (49 * G + (i * 7 + j))) rfl rfl rfl (by omega) (by decide) ?_ | refine a_baldN (s_72 dy) (k := (49 * G + (i * 7 + j))) rfl rfl rfl (by omega) (by decide) ?_ | refine a_laldN (s_72 dy) (k := (49 * G + (i * 7 + j))) rfl rfl rfl (by omega) (by decide) ?_ | refine a_iastN (s_72 dy) (k := (49 * G + (i * 7 + j))) rfl rfl rfl (by omega) (by decide) ?_ | refine a_lastN (s_72 dy) (k := (49 * G + (i * 7 + j))) rfl rfl rfl (by omega) (by decide) ?_ | refine a_bastN (s_72 dy) (k := (49 * G + (i * 7 + j))) rfl rfl rfl (by omega) (by decide) ?_ ?_) | (refine a_at isIf rfl ?_; first | (refine a_ifT rfl rfl br_eqz (by assumption) ?_) | (refine a_ifF rfl rfl br_eqz (by assumption) ?_) | (refine a_ifT rfl rfl br_nez (by assumption) ?_) | (refine a_ifF rfl rfl br_nez (by assumption) ?_) | (refine a_ifT rfl rfl br_eqz (nt_f (by assumption)) ?_) | (refine a_ifF rfl rfl br_eqz (tnf (by assumption)) ?_) | (refine a_ifF rfl rfl br_nez (fnt (by assumption)) ?_) | (refine a_if rfl rfl br_eqz (fun _ => ?_) (fun _ => ?_)) | (refine a_if rfl rfl br_nez (fun _ => ?_) (fun _ => ?_)) | (refine a_ifF rfl rfl br_ne (fun h => h (by assumption)) ?_) | (refine a_ifT rfl rfl br_eq (by assumption) ?_) | (refine a_ifF rfl rfl br_eq (by assumption) ?_) | (refine a_ifT rfl rfl br_ne (by assumption) ?_) | (refine a_ifF rfl rfl br_ne (by assumption) ?_) | (refine a_ifT rfl rfl br_lt (by assumption) ?_) | (refine a_ifF rfl rfl br_lt (by assumption) ?_) | (refine a_ifT rfl rfl br_ge (by assumption) ?_) | (refine a_ifF rfl rfl br_ge (by assumption) ?_) | (refine a_ifT rfl rfl br_gt (by assumption) ?_) | (refine a_ifF rfl rfl br_gt (by assumption) ?_) | (refine a_ifT rfl rfl br_le (by assumption) ?_) | (refine a_ifF rfl rfl br_le (by assumption) ?_) | (refine a_if rfl rfl br_eq (fun _ => ?_) (fun _ => ?_)) | (refine a_if rfl rfl br_ne (fun _ => ?_) (fun _ => ?_)) | (refine a_if rfl rfl br_lt (fun _ => ?_) (fun _ => ?_)) | (refine a_if rfl rfl br_ge (fun _ => ?_) (fun _ => ?_)) | (refine a_if rfl rfl br_gt (fun _ => ?_) (fun _ => ?_)) | (refine a_if rfl rfl br_le (fun _ => ?_) (fun _ => ?_))) | (refine a_at isIc rfl ?_; first | (refine a_icF rfl rfl br_ne (fun h => h (by assumption)) ?_) | (refine a_icT rfl rfl br_eq (by assumption) ?_) | (refine a_icF rfl rfl br_eq (by assumption) ?_) | (refine a_icT rfl rfl br_ne (by assumption) ?_) | (refine a_icF rfl rfl br_ne (by assumption) ?_) | (refine a_icT rfl rfl br_lt (by assumption) ?_) | (refine a_icF rfl rfl br_lt (by assumption) ?_) | (refine a_icT rfl rfl br_ge (by assumption) ?_) | (refine a_icF rfl rfl br_ge (by assumption) ?_) | (refine a_icT rfl rfl br_gt (by assumption) ?_) | (refine a_icF rfl rfl br_gt (by assumption) ?_) | (refine a_icT rfl rfl br_le (by assumption) ?_) | (refine a_icF rfl rfl br_le (by assumption) ?_) | (refine a_ic rfl rfl br_eq (fun _ => ?_) (fun _ => ?_)) | (refine a_ic rfl rfl br_ne (fun _ => ?_) (fun _ => ?_)) | (refine a_ic rfl rfl br_lt (fun _ => ?_) (fun _ => ?_)) | (refine a_ic rfl rfl br_ge (fun _ => ?_) (fun _ => ?_)) | (refine a_ic rfl rfl br_gt (fun _ => ?_) (fun _ => ?_)) | (refine a_ic rfl rfl br_le (fun _ => ?_) (fun _ => ?_))) | (refine a_at isRt rfl ?_; first | refine a_iret rfl rfl rfl ?_ | refine a_zret rfl rfl ?_ ?_ | refine a_lret rfl rfl ?_ | refine a_ret rfl rfl ?_))
    any_goals (first | exact zz_01 _ | exact Or.inl rfl | exact Or.inr rfl)
    all_goals (try simp only [ne_eq, Classical.not_not] at *); all_goals (simp only [h1, show ¬ (64 : Int32) = 0 by decide, *, if_true, if_false, zz_t, zz_f, Bool.true_eq_false, Bool.false_eq_true, not_true_eq_false, not_false_eq_true] at hq; exact hq)
  · repeat' (first | refine x_kcg rfl ?_ | refine x_incg rfl rfl ?_ | refine x_opp rfl rfl ?_ | refine x_go rfl ?_ | (refine a_at isGf rfl ?_; first | refine m_getg (s_65 dy) rfl rfl rfl ?_) | (refine a_at isPf rfl ?_; first | refine a_putI (s_65 dy) rfl rfl rfl ?_ | refine a_putL (s_65 dy) rfl rfl rfl ?_) | (refine a_at isIv rfl ?_; first | refine a_callV (s_65 dy) rfl rfl rfl rfl (k_isWhite hG hk hs ?_)) | (refine a_at isIf rfl ?_; first | (refine a_ifT rfl rfl br_eqz (by assumption) ?_) | (refine a_ifF rfl rfl br_eqz (by assumption) ?_) | (refine a_ifT rfl rfl br_nez (by assumption) ?_) | (refine a_ifF rfl rfl br_nez (by assumption) ?_) | (refine a_ifT rfl rfl br_eqz (nt_f (by assumption)) ?_) | (refine a_ifF rfl rfl br_eqz (tnf (by assumption)) ?_) | (refine a_ifF rfl rfl br_nez (fnt (by assumption)) ?_) | (refine a_if rfl rfl br_eqz (fun _ => ?_) (fun _ => ?_)) | (refine a_if rfl rfl br_nez (fun _ => ?_) (fun _ => ?_)) | (refine a_ifF rfl rfl br_ne (fun h => h (by assumption)) ?_) | (refine a_ifT rfl rfl br_eq (by assumption) ?_) | (refine a_ifF rfl rfl br_eq (by assumption) ?_) | (refine a_ifT rfl rfl br_ne (by assumption) ?_) | (refine a_ifF rfl rfl br_ne (by assumption) ?_) | (refine a_ifT rfl rfl br_lt (by assumption) ?_) | (refine a_ifF rfl rfl br_lt (by assumption) ?_) | (refine a_ifT rfl rfl br_ge (by assumption) ?_) | (refine a_ifF rfl rfl br_ge (by assumption) ?_) | (refine a_ifT rfl rfl br_gt (by assumption) ?_) | (refine a_ifF rfl rfl br_gt (by assumption) ?_) | (refine a_ifT rfl rfl br_le (by assumption) ?_) | (refine a_ifF rfl rfl br_le (by assumption) ?_) | (refine a_if rfl rfl br_eq (fun _ => ?_) (fun _ => ?_)) | (refine a_if rfl rfl br_ne (fun _ => ?_) (fun _ => ?_)) | (refine a_if rfl rfl br_lt (fun _ => ?_) (fun _ => ?_)) | (refine a_if rfl rfl br_ge (fun _ => ?_) (fun _ => ?_)) | (refine a_if rfl rfl br_gt (fun _ => ?_) (fun _ => ?_)) | (refine a_if rfl rfl br_le (fun _ => ?_) (fun _ => ?_))) | (refine a_at isIc rfl ?_; first | (refine a_icF rfl rfl br_ne (fun h => h (by assumption)) ?_) | (refine a_icT rfl rfl br_eq (by assumption) ?_) | (refine a_icF rfl rfl br_eq (by assumption) ?_) | (refine a_icT rfl rfl br_ne (by assumption) ?_) | (refine a_icF rfl rfl br_ne (by assumption) ?_) | (refine a_icT rfl rfl br_lt (by assumption) ?_) | (refine a_icF rfl rfl br_lt (by assumption) ?_) | (refine a_icT rfl rfl br_ge (by assumption) ?_) | (refine a_icF rfl rfl br_ge (by assumption) ?_) | (refine a_icT rfl rfl br_gt (by assumption) ?_) | (refine a_icF rfl rfl br_gt (by assumption) ?_) | (refine a_icT rfl rfl br_le (by assumption) ?_) | (refine a_icF rfl rfl br_le (by assumption) ?_) | (refine a_ic rfl rfl br_eq (fun _ => ?_) (fun _ => ?_)) | (refine a_ic rfl rfl br_ne (fun _ => ?_) (fun _ => ?_)) | (refine a_ic rfl rfl br_lt (fun _ => ?_) (fun _ => ?_)) | (refine a_ic rfl rfl br_ge (fun _ => ?_) (fun _ => ?_)) | (refine a_ic rfl rfl br_gt (fun _ => ?_) (fun _ => ?_)) | (refine a_ic rfl rfl br_le (fun _ => ?_) (fun _ => ?_))) | (refine a_at isRt rfl ?_; first | refine a_iret rfl rfl rfl ?_ | refine a_zret rfl rfl ?_ ?_ | refine a_lret rfl rfl ?_ | refine a_ret rfl rfl ?_))
    any_goals (first | exact zz_01 _ | exact Or.inl rfl | exact Or.inr rfl)
    simp only [nt_f h1, if_true, zz_f] at hq
    exact hq
set_option maxRecDepth 4000 in
theorem k_beginsA {i j : Nat} (hG : G < 4) (hk : mgOK M G) (hs : msOK M) (hq : Q (some (.int (zz (eA (M.1 67 G) (mL M G) (mC M G) i j)))) (wm (sh0 ++ dy) M)) : sm_E L xs (d + 5) 184 [.ref 65, .int (nI G), .int (nI i), .int (nI j), .int 0] (wm (sh0 ++ dy) M) Q := by
  refine e_intro rfl rfl ?_
  have e0 := z00
  unfold eA at hq
  repeat' (first | refine x_kcg rfl ?_ | refine x_incg rfl rfl ?_ | refine x_opp rfl rfl ?_ | refine x_go rfl ?_ | (refine a_at isGf rfl ?_; first | refine m_getg (s_65 dy) rfl rfl rfl ?_) | (refine a_at isPf rfl ?_; first | refine a_putI (s_65 dy) rfl rfl rfl ?_ | refine a_putL (s_65 dy) rfl rfl rfl ?_) | (refine a_at isIv rfl ?_; first | refine a_callV (s_65 dy) rfl rfl rfl rfl (k_goesR hG hk hs ?_)) | (refine a_at isIf rfl ?_; first | (refine a_ifT rfl rfl br_eqz (by assumption) ?_) | (refine a_ifF rfl rfl br_eqz (by assumption) ?_) | (refine a_ifT rfl rfl br_nez (by assumption) ?_) | (refine a_ifF rfl rfl br_nez (by assumption) ?_) | (refine a_ifT rfl rfl br_eqz (nt_f (by assumption)) ?_) | (refine a_ifF rfl rfl br_eqz (tnf (by assumption)) ?_) | (refine a_ifF rfl rfl br_nez (fnt (by assumption)) ?_) | (refine a_if rfl rfl br_eqz (fun _ => ?_) (fun _ => ?_)) | (refine a_if rfl rfl br_nez (fun _ => ?_) (fun _ => ?_)) | (refine a_ifF rfl rfl br_ne (fun h => h (by assumption)) ?_) | (refine a_ifT rfl rfl br_eq (by assumption) ?_) | (refine a_ifF rfl rfl br_eq (by assumption) ?_) | (refine a_ifT rfl rfl br_ne (by assumption) ?_) | (refine a_ifF rfl rfl br_ne (by assumption) ?_) | (refine a_ifT rfl rfl br_lt (by assumption) ?_) | (refine a_ifF rfl rfl br_lt (by assumption) ?_) | (refine a_ifT rfl rfl br_ge (by assumption) ?_) | (refine a_ifF rfl rfl br_ge (by assumption) ?_) | (refine a_ifT rfl rfl br_gt (by assumption) ?_) | (refine a_ifF rfl rfl br_gt (by assumption) ?_) | (refine a_ifT rfl rfl br_le (by assumption) ?_) | (refine a_ifF rfl rfl br_le (by assumption) ?_) | (refine a_if rfl rfl br_eq (fun _ => ?_) (fun _ => ?_)) | (refine a_if rfl rfl br_ne (fun _ => ?_) (fun _ => ?_)) | (refine a_if rfl rfl br_lt (fun _ => ?_) (fun _ => ?_)) | (refine a_if rfl rfl br_ge (fun _ => ?_) (fun _ => ?_)) | (refine a_if rfl rfl br_gt (fun _ => ?_) (fun _ => ?_)) | (refine a_if rfl rfl br_le (fun _ => ?_) (fun _ => ?_))) | (refine a_at isIc rfl ?_; first | (refine a_icF rfl rfl br_ne (fun h => h (by assumption)) ?_) | (refine a_icT rfl rfl br_eq (by assumption) ?_) | (refine a_icF rfl rfl br_eq (by assumption) ?_) | (refine a_icT rfl rfl br_ne (by assumption) ?_) | (refine a_icF rfl rfl br_ne (by assumption) ?_) | (refine a_icT rfl rfl br_lt (by assumption) ?_) | (refine a_icF rfl rfl br_lt (by assumption) ?_) | (refine a_icT rfl rfl br_ge (by assumption) ?_) | (refine a_icF rfl rfl br_ge (by assumption) ?_) | (refine a_icT rfl rfl br_gt (by assumption) ?_) | (refine a_icF rfl rfl br_gt (by assumption) ?_) | (refine a_icT rfl rfl br_le (by assumption) ?_) | (refine a_icF rfl rfl br_le (by assumption) ?_) | (refine a_ic rfl rfl br_eq (fun _ => ?_) (fun _ => ?_)) | (refine a_ic rfl rfl br_ne (fun _ => ?_) (fun _ => ?_)) | (refine a_ic rfl rfl br_lt (fun _ => ?_) (fun _ => ?_)) | (refine a_ic rfl rfl br_ge (fun _ => ?_) (fun _ => ?_)) | (refine a_ic rfl rfl br_gt (fun _ => ?_) (fun _ => ?_)) | (refine a_ic rfl rfl br_le (fun _ => ?_) (fun _ => ?_))) | (refine a_at isRt rfl ?_; first | refine a_iret rfl rfl rfl ?_ | refine a_zret rfl rfl ?_ ?_ | refine a_lret rfl rfl ?_ | refine a_ret rfl rfl ?_))
  any_goals (first | exact zz_01 _ | exact Or.inl rfl | exact Or.inr rfl)
  all_goals (simp only [*, if_true, if_false, zz_t, zz_f, Bool.true_eq_false, Bool.false_eq_true] at hq; exact hq)
set_option maxRecDepth 4000 in
theorem k_beginsB {i j : Nat} (hG : G < 4) (hk : mgOK M G) (hs : msOK M) (hq : Q (some (.int (zz (eB (M.1 67 G) (mL M G) (mC M G) i j)))) (wm (sh0 ++ dy) M)) : sm_E L xs (d + 5) 184 [.ref 65, .int (nI G), .int (nI i), .int (nI j), .int 1] (wm (sh0 ++ dy) M) Q := by
  refine e_intro rfl rfl ?_
  have e0 := z10
  unfold eB at hq
  repeat' (first | refine x_kcg rfl ?_ | refine x_incg rfl rfl ?_ | refine x_opp rfl rfl ?_ | refine x_go rfl ?_ | (refine a_at isGf rfl ?_; first | refine m_getg (s_65 dy) rfl rfl rfl ?_) | (refine a_at isPf rfl ?_; first | refine a_putI (s_65 dy) rfl rfl rfl ?_ | refine a_putL (s_65 dy) rfl rfl rfl ?_) | (refine a_at isIv rfl ?_; first | refine a_callV (s_65 dy) rfl rfl rfl rfl (k_goesB hG hk hs ?_)) | (refine a_at isIf rfl ?_; first | (refine a_ifT rfl rfl br_eqz (by assumption) ?_) | (refine a_ifF rfl rfl br_eqz (by assumption) ?_) | (refine a_ifT rfl rfl br_nez (by assumption) ?_) | (refine a_ifF rfl rfl br_nez (by assumption) ?_) | (refine a_ifT rfl rfl br_eqz (nt_f (by assumption)) ?_) | (refine a_ifF rfl rfl br_eqz (tnf (by assumption)) ?_) | (refine a_ifF rfl rfl br_nez (fnt (by assumption)) ?_) | (refine a_if rfl rfl br_eqz (fun _ => ?_) (fun _ => ?_)) | (refine a_if rfl rfl br_nez (fun _ => ?_) (fun _ => ?_)) | (refine a_ifF rfl rfl br_ne (fun h => h (by assumption)) ?_) | (refine a_ifT rfl rfl br_eq (by assumption) ?_) | (refine a_ifF rfl rfl br_eq (by assumption) ?_) | (refine a_ifT rfl rfl br_ne (by assumption) ?_) | (refine a_ifF rfl rfl br_ne (by assumption) ?_) | (refine a_ifT rfl rfl br_lt (by assumption) ?_) | (refine a_ifF rfl rfl br_lt (by assumption) ?_) | (refine a_ifT rfl rfl br_ge (by assumption) ?_) | (refine a_ifF rfl rfl br_ge (by assumption) ?_) | (refine a_ifT rfl rfl br_gt (by assumption) ?_) | (refine a_ifF rfl rfl br_gt (by assumption) ?_) | (refine a_ifT rfl rfl br_le (by assumption) ?_) | (refine a_ifF rfl rfl br_le (by assumption) ?_) | (refine a_if rfl rfl br_eq (fun _ => ?_) (fun _ => ?_)) | (refine a_if rfl rfl br_ne (fun _ => ?_) (fun _ => ?_)) | (refine a_if rfl rfl br_lt (fun _ => ?_) (fun _ => ?_)) | (refine a_if rfl rfl br_ge (fun _ => ?_) (fun _ => ?_)) | (refine a_if rfl rfl br_gt (fun _ => ?_) (fun _ => ?_)) | (refine a_if rfl rfl br_le (fun _ => ?_) (fun _ => ?_))) | (refine a_at isIc rfl ?_; first | (refine a_icF rfl rfl br_ne (fun h => h (by assumption)) ?_) | (refine a_icT rfl rfl br_eq (by assumption) ?_) | (refine a_icF rfl rfl br_eq (by assumption) ?_) | (refine a_icT rfl rfl br_ne (by assumption) ?_) | (refine a_icF rfl rfl br_ne (by assumption) ?_) | (refine a_icT rfl rfl br_lt (by assumption) ?_) | (refine a_icF rfl rfl br_lt (by assumption) ?_) | (refine a_icT rfl rfl br_ge (by assumption) ?_) | (refine a_icF rfl rfl br_ge (by assumption) ?_) | (refine a_icT rfl rfl br_gt (by assumption) ?_) | (refine a_icF rfl rfl br_gt (by assumption) ?_) | (refine a_icT rfl rfl br_le (by assumption) ?_) | (refine a_icF rfl rfl br_le (by assumption) ?_) | (refine a_ic rfl rfl br_eq (fun _ => ?_) (fun _ => ?_)) | (refine a_ic rfl rfl br_ne (fun _ => ?_) (fun _ => ?_)) | (refine a_ic rfl rfl br_lt (fun _ => ?_) (fun _ => ?_)) | (refine a_ic rfl rfl br_ge (fun _ => ?_) (fun _ => ?_)) | (refine a_ic rfl rfl br_gt (fun _ => ?_) (fun _ => ?_)) | (refine a_ic rfl rfl br_le (fun _ => ?_) (fun _ => ?_))) | (refine a_at isRt rfl ?_; first | refine a_iret rfl rfl rfl ?_ | refine a_zret rfl rfl ?_ ?_ | refine a_lret rfl rfl ?_ | refine a_ret rfl rfl ?_))
  any_goals (first | exact zz_01 _ | exact Or.inl rfl | exact Or.inr rfl)
  all_goals (simp only [*, if_true, if_false, zz_t, zz_f, Bool.true_eq_false, Bool.false_eq_true] at hq; exact hq)
def mAdd (M : mm_T) (k : Nat) (a b c n m : Int32) : mm_T := m_setI (m_setI (m_setI (m_setI (m_setI (m_setI M 91 k a) 92 k b) 93 k c) 94 k n) 95 k m) 65 32 (nI (k + 1))
set_option maxRecDepth 4000 in
theorem l_mAddT {i j m : Nat} {b num : Int32} {k : Nat} (hb : b = 0 ∨ b = 1) (hk48 : k < 48) (he : M.1 65 32 = nI k) (hq : Q (some (.int (nI m))) (wm (sh0 ++ dy) (mAdd M k (nI i) (nI j) b (nI m) num))) :
    sm_X L xs d 188 9 (sm_code 188 9) [(0, .ref 65), (1, .int (nI G)), (2, .int (nI i)), (3, .int (nI j)), (4, .int b), (5, .int num), (6, .int (nI m))] [] (wm (sh0 ++ dy) M) Q := by
  have f : ∀ (M1 : mm_T) (a x : Nat) (v : Int32), a ≠ 65 → M1.1 65 32 = nI k → (m_setI M1 a x v).1 65 32 = nI k := by
    intro M1 a x v h1 h2
    rw [mI_ne _ _ _ (Ne.symm h1)]
    exact h2
  have hm := s_65 dy
  repeat (first | refine x_kcg rfl ?_ | refine x_opp rfl rfl ?_ | refine x_go rfl ?_ | refine m_getg hm rfl rfl rfl ?_)
  rw [he]
  refine m_iast (s_91 dy) (vp_in_nI hk48 (by decide)) ?_
  rw [nI_clamp (by omega)]
  have h1 := f M 91 k (nI i) (by decide) he
  repeat (first | refine x_kcg rfl ?_ | refine x_opp rfl rfl ?_ | refine x_go rfl ?_ | refine m_getg hm rfl rfl rfl ?_)
  rw [h1]
  refine m_iast (s_92 dy) (vp_in_nI hk48 (by decide)) ?_
  rw [nI_clamp (by omega)]
  have h2 := f _ 92 k (nI j) (by decide) h1
  repeat (first | refine x_kcg rfl ?_ | refine x_opp rfl rfl ?_ | refine x_go rfl ?_ | refine m_getg hm rfl rfl rfl ?_)
  rw [h2]
  refine m_bast (s_93 dy) (vp_in_nI hk48 (by decide)) hb ?_
  rw [nI_clamp (by omega)]
  have h3 := f _ 93 k b (by decide) h2
  repeat (first | refine x_kcg rfl ?_ | refine x_opp rfl rfl ?_ | refine x_go rfl ?_ | refine m_getg hm rfl rfl rfl ?_)
  rw [h3]
  refine m_iast (s_94 dy) (vp_in_nI hk48 (by decide)) ?_
  rw [nI_clamp (by omega)]
  have h4 := f _ 94 k (nI m) (by decide) h3
  repeat (first | refine x_kcg rfl ?_ | refine x_opp rfl rfl ?_ | refine x_go rfl ?_ | refine m_getg hm rfl rfl rfl ?_)
  rw [h4]
  refine m_iast (s_95 dy) (vp_in_nI hk48 (by decide)) ?_
  rw [nI_clamp (by omega)]
  have h5 := f _ 95 k num (by decide) h4
  repeat (first | refine x_kcg rfl ?_ | refine x_opp rfl rfl ?_ | refine x_go rfl ?_ | refine m_getg hm rfl rfl rfl ?_)
  rw [h5]
  refine m_putI (s_65 dy) rfl ?_
  repeat (first | refine x_kcg rfl ?_ | refine x_opp rfl rfl ?_ | refine x_go rfl ?_)
  refine x_iret rfl ?_
  rw [nI_1]
  exact hq
set_option maxRecDepth 4000 in
theorem l_addA {i j : Nat} {num : Int32} {es : Nat} (hG : G < 4) (hk : mgOK M G) (hs : msOK M) (hj : j < 7) (h48 : es < 48) (he : M.1 65 32 = nI es) : ∀ k m, m + k = 7 → 1 ≤ m → (let n := runF (fun n => gJR (M.1 67 G) (mL M G) (mC M G) (nI i) (nI (j + n - 1))) m k; Q (some (.int (nI n))) (wm (sh0 ++ dy) (mAdd M es (nI i) (nI j) 0 (nI n) num))) →
    sm_X L xs (d + 4) 188 1 (sm_code 188 1) [(0, .ref 65), (1, .int (nI G)), (2, .int (nI i)), (3, .int (nI j)), (4, .int 0), (5, .int num), (6, .int (nI m))] [] (wm (sh0 ++ dy) M) Q := by
  intro k
  have e0 := z00
  induction k with
  | zero =>
    intro m hm h1m hq
    have e : m = 7 := hm
    subst e
    have hf : gJR (M.1 67 G) (mL M G) (mC M G) (nI i) (nI (j + 7 - 1)) = false := by
      cases hb : gJR (M.1 67 G) (mL M G) (mC M G) (nI i) (nI (j + 7 - 1)) with
      | false => rfl
      | true => have := gJR_hi hk.1.2 (mgOK_7 hk) (by omega) hb; omega
    repeat' (first | (refine a_stop 9 rfl ?_; exact l_mAddT (Or.inl rfl) h48 he hq) | refine x_kcg rfl ?_ | refine x_incg rfl rfl ?_ | refine x_opp rfl rfl ?_ | refine x_go (t := 3) rfl ?_ | refine x_go (t := 4) rfl ?_ | refine x_go (t := 6) rfl ?_ | refine x_go (t := 7) rfl ?_ | (refine a_at isGf rfl ?_; first | refine m_getg (s_65 dy) rfl rfl rfl ?_) | (refine a_at isPf rfl ?_; first | refine a_putI (s_65 dy) rfl rfl rfl ?_ | refine a_putL (s_65 dy) rfl rfl rfl ?_) | (refine a_at isIv rfl ?_; first | (refine a_callV (s_65 dy) rfl rfl rfl rfl ?_; rw [sub1 h1m]; refine k_goesR hG hk hs ?_)) | (refine a_at isIf rfl ?_; first | (refine a_ifT rfl rfl br_eqz (by assumption) ?_) | (refine a_ifF rfl rfl br_eqz (by assumption) ?_) | (refine a_ifT rfl rfl br_nez (by assumption) ?_) | (refine a_ifF rfl rfl br_nez (by assumption) ?_) | (refine a_ifT rfl rfl br_eqz (nt_f (by assumption)) ?_) | (refine a_ifF rfl rfl br_eqz (tnf (by assumption)) ?_) | (refine a_ifF rfl rfl br_nez (fnt (by assumption)) ?_) | (refine a_if rfl rfl br_eqz (fun _ => ?_) (fun _ => ?_)) | (refine a_if rfl rfl br_nez (fun _ => ?_) (fun _ => ?_)) | (refine a_ifF rfl rfl br_ne (fun h => h (by assumption)) ?_) | (refine a_ifT rfl rfl br_eq (by assumption) ?_) | (refine a_ifF rfl rfl br_eq (by assumption) ?_) | (refine a_ifT rfl rfl br_ne (by assumption) ?_) | (refine a_ifF rfl rfl br_ne (by assumption) ?_) | (refine a_ifT rfl rfl br_lt (by assumption) ?_) | (refine a_ifF rfl rfl br_lt (by assumption) ?_) | (refine a_ifT rfl rfl br_ge (by assumption) ?_) | (refine a_ifF rfl rfl br_ge (by assumption) ?_) | (refine a_ifT rfl rfl br_gt (by assumption) ?_) | (refine a_ifF rfl rfl br_gt (by assumption) ?_) | (refine a_ifT rfl rfl br_le (by assumption) ?_) | (refine a_ifF rfl rfl br_le (by assumption) ?_) | (refine a_if rfl rfl br_eq (fun _ => ?_) (fun _ => ?_)) | (refine a_if rfl rfl br_ne (fun _ => ?_) (fun _ => ?_)) | (refine a_if rfl rfl br_lt (fun _ => ?_) (fun _ => ?_)) | (refine a_if rfl rfl br_ge (fun _ => ?_) (fun _ => ?_)) | (refine a_if rfl rfl br_gt (fun _ => ?_) (fun _ => ?_)) | (refine a_if rfl rfl br_le (fun _ => ?_) (fun _ => ?_))) | (refine a_at isIc rfl ?_; first | (refine a_icF rfl rfl br_ne (fun h => h (by assumption)) ?_) | (refine a_icT rfl rfl br_eq (by assumption) ?_) | (refine a_icF rfl rfl br_eq (by assumption) ?_) | (refine a_icT rfl rfl br_ne (by assumption) ?_) | (refine a_icF rfl rfl br_ne (by assumption) ?_) | (refine a_icT rfl rfl br_lt (by assumption) ?_) | (refine a_icF rfl rfl br_lt (by assumption) ?_) | (refine a_icT rfl rfl br_ge (by assumption) ?_) | (refine a_icF rfl rfl br_ge (by assumption) ?_) | (refine a_icT rfl rfl br_gt (by assumption) ?_) | (refine a_icF rfl rfl br_gt (by assumption) ?_) | (refine a_icT rfl rfl br_le (by assumption) ?_) | (refine a_icF rfl rfl br_le (by assumption) ?_) | (refine a_ic rfl rfl br_eq (fun _ => ?_) (fun _ => ?_)) | (refine a_ic rfl rfl br_ne (fun _ => ?_) (fun _ => ?_)) | (refine a_ic rfl rfl br_lt (fun _ => ?_) (fun _ => ?_)) | (refine a_ic rfl rfl br_ge (fun _ => ?_) (fun _ => ?_)) | (refine a_ic rfl rfl br_gt (fun _ => ?_) (fun _ => ?_)) | (refine a_ic rfl rfl br_le (fun _ => ?_) (fun _ => ?_))) | (refine a_at isRt rfl ?_; first | refine a_iret rfl rfl rfl ?_ | refine a_zret rfl rfl ?_ ?_ | refine a_lret rfl rfl ?_ | refine a_ret rfl rfl ?_))
  | succ k ih =>
    intro m hm h1m hq
    unfold runF at hq
    by_cases hb : gJR (M.1 67 G) (mL M G) (mC M G) (nI i) (nI (j + m - 1)) = true
    · rw [if_pos hb] at hq
      repeat' (first | (refine x_go (t := 1) rfl ?_; refine x_lvs [(0, .ref 65), (1, .int (nI G)), (2, .int (nI i)), (3, .int (nI j)), (4, .int 0), (5, .int num), (6, .int (nI (m + 1)))] rfl rfl rfl ⟨rfl, rfl, rfl, rfl, rfl, rfl, rfl, trivial⟩ ?_; exact ih (m + 1) (by omega) (by omega) hq) | refine x_kcg rfl ?_ | refine x_incg rfl rfl ?_ | refine x_opp rfl rfl ?_ | refine x_go (t := 3) rfl ?_ | refine x_go (t := 4) rfl ?_ | refine x_go (t := 6) rfl ?_ | refine x_go (t := 7) rfl ?_ | (refine a_at isGf rfl ?_; first | refine m_getg (s_65 dy) rfl rfl rfl ?_) | (refine a_at isPf rfl ?_; first | refine a_putI (s_65 dy) rfl rfl rfl ?_ | refine a_putL (s_65 dy) rfl rfl rfl ?_) | (refine a_at isIv rfl ?_; first | (refine a_callV (s_65 dy) rfl rfl rfl rfl ?_; rw [sub1 h1m]; refine k_goesR hG hk hs ?_)) | (refine a_at isIf rfl ?_; first | (refine a_ifT rfl rfl br_eqz (by assumption) ?_) | (refine a_ifF rfl rfl br_eqz (by assumption) ?_) | (refine a_ifT rfl rfl br_nez (by assumption) ?_) | (refine a_ifF rfl rfl br_nez (by assumption) ?_) | (refine a_ifT rfl rfl br_eqz (nt_f (by assumption)) ?_) | (refine a_ifF rfl rfl br_eqz (tnf (by assumption)) ?_) | (refine a_ifF rfl rfl br_nez (fnt (by assumption)) ?_) | (refine a_if rfl rfl br_eqz (fun _ => ?_) (fun _ => ?_)) | (refine a_if rfl rfl br_nez (fun _ => ?_) (fun _ => ?_)) | (refine a_ifF rfl rfl br_ne (fun h => h (by assumption)) ?_) | (refine a_ifT rfl rfl br_eq (by assumption) ?_) | (refine a_ifF rfl rfl br_eq (by assumption) ?_) | (refine a_ifT rfl rfl br_ne (by assumption) ?_) | (refine a_ifF rfl rfl br_ne (by assumption) ?_) | (refine a_ifT rfl rfl br_lt (by assumption) ?_) | (refine a_ifF rfl rfl br_lt (by assumption) ?_) | (refine a_ifT rfl rfl br_ge (by assumption) ?_) | (refine a_ifF rfl rfl br_ge (by assumption) ?_) | (refine a_ifT rfl rfl br_gt (by assumption) ?_) | (refine a_ifF rfl rfl br_gt (by assumption) ?_) | (refine a_ifT rfl rfl br_le (by assumption) ?_) | (refine a_ifF rfl rfl br_le (by assumption) ?_) | (refine a_if rfl rfl br_eq (fun _ => ?_) (fun _ => ?_)) | (refine a_if rfl rfl br_ne (fun _ => ?_) (fun _ => ?_)) | (refine a_if rfl rfl br_lt (fun _ => ?_) (fun _ => ?_)) | (refine a_if rfl rfl br_ge (fun _ => ?_) (fun _ => ?_)) | (refine a_if rfl rfl br_gt (fun _ => ?_) (fun _ => ?_)) | (refine a_if rfl rfl br_le (fun _ => ?_) (fun _ => ?_))) | (refine a_at isIc rfl ?_; first | (refine a_icF rfl rfl br_ne (fun h => h (by assumption)) ?_) | (refine a_icT rfl rfl br_eq (by assumption) ?_) | (refine a_icF rfl rfl br_eq (by assumption) ?_) | (refine a_icT rfl rfl br_ne (by assumption) ?_) | (refine a_icF rfl rfl br_ne (by assumption) ?_) | (refine a_icT rfl rfl br_lt (by assumption) ?_) | (refine a_icF rfl rfl br_lt (by assumption) ?_) | (refine a_icT rfl rfl br_ge (by assumption) ?_) | (refine a_icF rfl rfl br_ge (by assumption) ?_) | (refine a_icT rfl rfl br_gt (by assumption) ?_) | (refine a_icF rfl rfl br_gt (by assumption) ?_) | (refine a_icT rfl rfl br_le (by assumption) ?_) | (refine a_icF rfl rfl br_le (by assumption) ?_) | (refine a_ic rfl rfl br_eq (fun _ => ?_) (fun _ => ?_)) | (refine a_ic rfl rfl br_ne (fun _ => ?_) (fun _ => ?_)) | (refine a_ic rfl rfl br_lt (fun _ => ?_) (fun _ => ?_)) | (refine a_ic rfl rfl br_ge (fun _ => ?_) (fun _ => ?_)) | (refine a_ic rfl rfl br_gt (fun _ => ?_) (fun _ => ?_)) | (refine a_ic rfl rfl br_le (fun _ => ?_) (fun _ => ?_))) | (refine a_at isRt rfl ?_; first | refine a_iret rfl rfl rfl ?_ | refine a_zret rfl rfl ?_ ?_ | refine a_lret rfl rfl ?_ | refine a_ret rfl rfl ?_))
    · rw [if_neg hb] at hq
      repeat' (first | (refine a_stop 9 rfl ?_; exact l_mAddT (Or.inl rfl) h48 he hq) | refine x_kcg rfl ?_ | refine x_incg rfl rfl ?_ | refine x_opp rfl rfl ?_ | refine x_go (t := 3) rfl ?_ | refine x_go (t := 4) rfl ?_ | refine x_go (t := 6) rfl ?_ | refine x_go (t := 7) rfl ?_ | (refine a_at isGf rfl ?_; first | refine m_getg (s_65 dy) rfl rfl rfl ?_) | (refine a_at isPf rfl ?_; first | refine a_putI (s_65 dy) rfl rfl rfl ?_ | refine a_putL (s_65 dy) rfl rfl rfl ?_) | (refine a_at isIv rfl ?_; first | (refine a_callV (s_65 dy) rfl rfl rfl rfl ?_; rw [sub1 h1m]; refine k_goesR hG hk hs ?_)) | (refine a_at isIf rfl ?_; first | (refine a_ifT rfl rfl br_eqz (by assumption) ?_) | (refine a_ifF rfl rfl br_eqz (by assumption) ?_) | (refine a_ifT rfl rfl br_nez (by assumption) ?_) | (refine a_ifF rfl rfl br_nez (by assumption) ?_) | (refine a_ifT rfl rfl br_eqz (nt_f (by assumption)) ?_) | (refine a_ifF rfl rfl br_eqz (tnf (by assumption)) ?_) | (refine a_ifF rfl rfl br_nez (fnt (by assumption)) ?_) | (refine a_if rfl rfl br_eqz (fun _ => ?_) (fun _ => ?_)) | (refine a_if rfl rfl br_nez (fun _ => ?_) (fun _ => ?_)) | (refine a_ifF rfl rfl br_ne (fun h => h (by assumption)) ?_) | (refine a_ifT rfl rfl br_eq (by assumption) ?_) | (refine a_ifF rfl rfl br_eq (by assumption) ?_) | (refine a_ifT rfl rfl br_ne (by assumption) ?_) | (refine a_ifF rfl rfl br_ne (by assumption) ?_) | (refine a_ifT rfl rfl br_lt (by assumption) ?_) | (refine a_ifF rfl rfl br_lt (by assumption) ?_) | (refine a_ifT rfl rfl br_ge (by assumption) ?_) | (refine a_ifF rfl rfl br_ge (by assumption) ?_) | (refine a_ifT rfl rfl br_gt (by assumption) ?_) | (refine a_ifF rfl rfl br_gt (by assumption) ?_) | (refine a_ifT rfl rfl br_le (by assumption) ?_) | (refine a_ifF rfl rfl br_le (by assumption) ?_) | (refine a_if rfl rfl br_eq (fun _ => ?_) (fun _ => ?_)) | (refine a_if rfl rfl br_ne (fun _ => ?_) (fun _ => ?_)) | (refine a_if rfl rfl br_lt (fun _ => ?_) (fun _ => ?_)) | (refine a_if rfl rfl br_ge (fun _ => ?_) (fun _ => ?_)) | (refine a_if rfl rfl br_gt (fun _ => ?_) (fun _ => ?_)) | (refine a_if rfl rfl br_le (fun _ => ?_) (fun _ => ?_))) | (refine a_at isIc rfl ?_; first | (refine a_icF rfl rfl br_ne (fun h => h (by assumption)) ?_) | (refine a_icT rfl rfl br_eq (by assumption) ?_) | (refine a_icF rfl rfl br_eq (by assumption) ?_) | (refine a_icT rfl rfl br_ne (by assumption) ?_) | (refine a_icF rfl rfl br_ne (by assumption) ?_) | (refine a_icT rfl rfl br_lt (by assumption) ?_) | (refine a_icF rfl rfl br_lt (by assumption) ?_) | (refine a_icT rfl rfl br_ge (by assumption) ?_) | (refine a_icF rfl rfl br_ge (by assumption) ?_) | (refine a_icT rfl rfl br_gt (by assumption) ?_) | (refine a_icF rfl rfl br_gt (by assumption) ?_) | (refine a_icT rfl rfl br_le (by assumption) ?_) | (refine a_icF rfl rfl br_le (by assumption) ?_) | (refine a_ic rfl rfl br_eq (fun _ => ?_) (fun _ => ?_)) | (refine a_ic rfl rfl br_ne (fun _ => ?_) (fun _ => ?_)) | (refine a_ic rfl rfl br_lt (fun _ => ?_) (fun _ => ?_)) | (refine a_ic rfl rfl br_ge (fun _ => ?_) (fun _ => ?_)) | (refine a_ic rfl rfl br_gt (fun _ => ?_) (fun _ => ?_)) | (refine a_ic rfl rfl br_le (fun _ => ?_) (fun _ => ?_))) | (refine a_at isRt rfl ?_; first | refine a_iret rfl rfl rfl ?_ | refine a_zret rfl rfl ?_ ?_ | refine a_lret rfl rfl ?_ | refine a_ret rfl rfl ?_))
set_option maxRecDepth 4000 in
theorem l_addB {i j : Nat} {num : Int32} {es : Nat} (hG : G < 4) (hk : mgOK M G) (hs : msOK M) (hi : i < 7) (h48 : es < 48) (he : M.1 65 32 = nI es) : ∀ k m, m + k = 7 → 1 ≤ m → (let n := runF (fun n => gJB (M.1 67 G) (mL M G) (mC M G) (nI (i + n - 1)) (nI j)) m k; Q (some (.int (nI n))) (wm (sh0 ++ dy) (mAdd M es (nI i) (nI j) 1 (nI n) num))) →
    sm_X L xs (d + 4) 188 1 (sm_code 188 1) [(0, .ref 65), (1, .int (nI G)), (2, .int (nI i)), (3, .int (nI j)), (4, .int 1), (5, .int num), (6, .int (nI m))] [] (wm (sh0 ++ dy) M) Q := by
  intro k
  have e0 := z10
  induction k with
  | zero =>
    intro m hm h1m hq
    have e : m = 7 := hm
    subst e
    have hf : gJB (M.1 67 G) (mL M G) (mC M G) (nI (i + 7 - 1)) (nI j) = false := by
      cases hb : gJB (M.1 67 G) (mL M G) (mC M G) (nI (i + 7 - 1)) (nI j) with
      | false => rfl
      | true => have := gJB_hi hk.1.2 (mgOK_7 hk) (by omega) hb; omega
    repeat' (first | (refine a_stop 9 rfl ?_; exact l_mAddT (Or.inr rfl) h48 he hq) | refine x_kcg rfl ?_ | refine x_incg rfl rfl ?_ | refine x_opp rfl rfl ?_ | refine x_go (t := 3) rfl ?_ | refine x_go (t := 4) rfl ?_ | refine x_go (t := 6) rfl ?_ | refine x_go (t := 7) rfl ?_ | (refine a_at isGf rfl ?_; first | refine m_getg (s_65 dy) rfl rfl rfl ?_) | (refine a_at isPf rfl ?_; first | refine a_putI (s_65 dy) rfl rfl rfl ?_ | refine a_putL (s_65 dy) rfl rfl rfl ?_) | (refine a_at isIv rfl ?_; first | (refine a_callV (s_65 dy) rfl rfl rfl rfl ?_; rw [sub1 h1m]; refine k_goesB hG hk hs ?_)) | (refine a_at isIf rfl ?_; first | (refine a_ifT rfl rfl br_eqz (by assumption) ?_) | (refine a_ifF rfl rfl br_eqz (by assumption) ?_) | (refine a_ifT rfl rfl br_nez (by assumption) ?_) | (refine a_ifF rfl rfl br_nez (by assumption) ?_) | (refine a_ifT rfl rfl br_eqz (nt_f (by assumption)) ?_) | (refine a_ifF rfl rfl br_eqz (tnf (by assumption)) ?_) | (refine a_ifF rfl rfl br_nez (fnt (by assumption)) ?_) | (refine a_if rfl rfl br_eqz (fun _ => ?_) (fun _ => ?_)) | (refine a_if rfl rfl br_nez (fun _ => ?_) (fun _ => ?_)) | (refine a_ifF rfl rfl br_ne (fun h => h (by assumption)) ?_) | (refine a_ifT rfl rfl br_eq (by assumption) ?_) | (refine a_ifF rfl rfl br_eq (by assumption) ?_) | (refine a_ifT rfl rfl br_ne (by assumption) ?_) | (refine a_ifF rfl rfl br_ne (by assumption) ?_) | (refine a_ifT rfl rfl br_lt (by assumption) ?_) | (refine a_ifF rfl rfl br_lt (by assumption) ?_) | (refine a_ifT rfl rfl br_ge (by assumption) ?_) | (refine a_ifF rfl rfl br_ge (by assumption) ?_) | (refine a_ifT rfl rfl br_gt (by assumption) ?_) | (refine a_ifF rfl rfl br_gt (by assumption) ?_) | (refine a_ifT rfl rfl br_le (by assumption) ?_) | (refine a_ifF rfl rfl br_le (by assumption) ?_) | (refine a_if rfl rfl br_eq (fun _ => ?_) (fun _ => ?_)) | (refine a_if rfl rfl br_ne (fun _ => ?_) (fun _ => ?_)) | (refine a_if rfl rfl br_lt (fun _ => ?_) (fun _ => ?_)) | (refine a_if rfl rfl br_ge (fun _ => ?_) (fun _ => ?_)) | (refine a_if rfl rfl br_gt (fun _ => ?_) (fun _ => ?_)) | (refine a_if rfl rfl br_le (fun _ => ?_) (fun _ => ?_))) | (refine a_at isIc rfl ?_; first | (refine a_icF rfl rfl br_ne (fun h => h (by assumption)) ?_) | (refine a_icT rfl rfl br_eq (by assumption) ?_) | (refine a_icF rfl rfl br_eq (by assumption) ?_) | (refine a_icT rfl rfl br_ne (by assumption) ?_) | (refine a_icF rfl rfl br_ne (by assumption) ?_) | (refine a_icT rfl rfl br_lt (by assumption) ?_) | (refine a_icF rfl rfl br_lt (by assumption) ?_) | (refine a_icT rfl rfl br_ge (by assumption) ?_) | (refine a_icF rfl rfl br_ge (by assumption) ?_) | (refine a_icT rfl rfl br_gt (by assumption) ?_) | (refine a_icF rfl rfl br_gt (by assumption) ?_) | (refine a_icT rfl rfl br_le (by assumption) ?_) | (refine a_icF rfl rfl br_le (by assumption) ?_) | (refine a_ic rfl rfl br_eq (fun _ => ?_) (fun _ => ?_)) | (refine a_ic rfl rfl br_ne (fun _ => ?_) (fun _ => ?_)) | (refine a_ic rfl rfl br_lt (fun _ => ?_) (fun _ => ?_)) | (refine a_ic rfl rfl br_ge (fun _ => ?_) (fun _ => ?_)) | (refine a_ic rfl rfl br_gt (fun _ => ?_) (fun _ => ?_)) | (refine a_ic rfl rfl br_le (fun _ => ?_) (fun _ => ?_))) | (refine a_at isRt rfl ?_; first | refine a_iret rfl rfl rfl ?_ | refine a_zret rfl rfl ?_ ?_ | refine a_lret rfl rfl ?_ | refine a_ret rfl rfl ?_))
  | succ k ih =>
    intro m hm h1m hq
    unfold runF at hq
    by_cases hb : gJB (M.1 67 G) (mL M G) (mC M G) (nI (i + m - 1)) (nI j) = true
    · rw [if_pos hb] at hq
      repeat' (first | (refine x_go (t := 1) rfl ?_; refine x_lvs [(0, .ref 65), (1, .int (nI G)), (2, .int (nI i)), (3, .int (nI j)), (4, .int 1), (5, .int num), (6, .int (nI (m + 1)))] rfl rfl rfl ⟨rfl, rfl, rfl, rfl, rfl, rfl, rfl, trivial⟩ ?_; exact ih (m + 1) (by omega) (by omega) hq) | refine x_kcg rfl ?_ | refine x_incg rfl rfl ?_ | refine x_opp rfl rfl ?_ | refine x_go (t := 3) rfl ?_ | refine x_go (t := 4) rfl ?_ | refine x_go (t := 6) rfl ?_ | refine x_go (t := 7) rfl ?_ | (refine a_at isGf rfl ?_; first | refine m_getg (s_65 dy) rfl rfl rfl ?_) | (refine a_at isPf rfl ?_; first | refine a_putI (s_65 dy) rfl rfl rfl ?_ | refine a_putL (s_65 dy) rfl rfl rfl ?_) | (refine a_at isIv rfl ?_; first | (refine a_callV (s_65 dy) rfl rfl rfl rfl ?_; rw [sub1 h1m]; refine k_goesB hG hk hs ?_)) | (refine a_at isIf rfl ?_; first | (refine a_ifT rfl rfl br_eqz (by assumption) ?_) | (refine a_ifF rfl rfl br_eqz (by assumption) ?_) | (refine a_ifT rfl rfl br_nez (by assumption) ?_) | (refine a_ifF rfl rfl br_nez (by assumption) ?_) | (refine a_ifT rfl rfl br_eqz (nt_f (by assumption)) ?_) | (refine a_ifF rfl rfl br_eqz (tnf (by assumption)) ?_) | (refine a_ifF rfl rfl br_nez (fnt (by assumption)) ?_) | (refine a_if rfl rfl br_eqz (fun _ => ?_) (fun _ => ?_)) | (refine a_if rfl rfl br_nez (fun _ => ?_) (fun _ => ?_)) | (refine a_ifF rfl rfl br_ne (fun h => h (by assumption)) ?_) | (refine a_ifT rfl rfl br_eq (by assumption) ?_) | (refine a_ifF rfl rfl br_eq (by assumption) ?_) | (refine a_ifT rfl rfl br_ne (by assumption) ?_) | (refine a_ifF rfl rfl br_ne (by assumption) ?_) | (refine a_ifT rfl rfl br_lt (by assumption) ?_) | (refine a_ifF rfl rfl br_lt (by assumption) ?_) | (refine a_ifT rfl rfl br_ge (by assumption) ?_) | (refine a_ifF rfl rfl br_ge (by assumption) ?_) | (refine a_ifT rfl rfl br_gt (by assumption) ?_) | (refine a_ifF rfl rfl br_gt (by assumption) ?_) | (refine a_ifT rfl rfl br_le (by assumption) ?_) | (refine a_ifF rfl rfl br_le (by assumption) ?_) | (refine a_if rfl rfl br_eq (fun _ => ?_) (fun _ => ?_)) | (refine a_if rfl rfl br_ne (fun _ => ?_) (fun _ => ?_)) | (refine a_if rfl rfl br_lt (fun _ => ?_) (fun _ => ?_)) | (refine a_if rfl rfl br_ge (fun _ => ?_) (fun _ => ?_)) | (refine a_if rfl rfl br_gt (fun _ => ?_) (fun _ => ?_)) | (refine a_if rfl rfl br_le (fun _ => ?_) (fun _ => ?_))) | (refine a_at isIc rfl ?_; first | (refine a_icF rfl rfl br_ne (fun h => h (by assumption)) ?_) | (refine a_icT rfl rfl br_eq (by assumption) ?_) | (refine a_icF rfl rfl br_eq (by assumption) ?_) | (refine a_icT rfl rfl br_ne (by assumption) ?_) | (refine a_icF rfl rfl br_ne (by assumption) ?_) | (refine a_icT rfl rfl br_lt (by assumption) ?_) | (refine a_icF rfl rfl br_lt (by assumption) ?_) | (refine a_icT rfl rfl br_ge (by assumption) ?_) | (refine a_icF rfl rfl br_ge (by assumption) ?_) | (refine a_icT rfl rfl br_gt (by assumption) ?_) | (refine a_icF rfl rfl br_gt (by assumption) ?_) | (refine a_icT rfl rfl br_le (by assumption) ?_) | (refine a_icF rfl rfl br_le (by assumption) ?_) | (refine a_ic rfl rfl br_eq (fun _ => ?_) (fun _ => ?_)) | (refine a_ic rfl rfl br_ne (fun _ => ?_) (fun _ => ?_)) | (refine a_ic rfl rfl br_lt (fun _ => ?_) (fun _ => ?_)) | (refine a_ic rfl rfl br_ge (fun _ => ?_) (fun _ => ?_)) | (refine a_ic rfl rfl br_gt (fun _ => ?_) (fun _ => ?_)) | (refine a_ic rfl rfl br_le (fun _ => ?_) (fun _ => ?_))) | (refine a_at isRt rfl ?_; first | refine a_iret rfl rfl rfl ?_ | refine a_zret rfl rfl ?_ ?_ | refine a_lret rfl rfl ?_ | refine a_ret rfl rfl ?_))
    · rw [if_neg hb] at hq
      repeat' (first | (refine a_stop 9 rfl ?_; exact l_mAddT (Or.inr rfl) h48 he hq) | refine x_kcg rfl ?_ | refine x_incg rfl rfl ?_ | refine x_opp rfl rfl ?_ | refine x_go (t := 3) rfl ?_ | refine x_go (t := 4) rfl ?_ | refine x_go (t := 6) rfl ?_ | refine x_go (t := 7) rfl ?_ | (refine a_at isGf rfl ?_; first | refine m_getg (s_65 dy) rfl rfl rfl ?_) | (refine a_at isPf rfl ?_; first | refine a_putI (s_65 dy) rfl rfl rfl ?_ | refine a_putL (s_65 dy) rfl rfl rfl ?_) | (refine a_at isIv rfl ?_; first | (refine a_callV (s_65 dy) rfl rfl rfl rfl ?_; rw [sub1 h1m]; refine k_goesB hG hk hs ?_)) | (refine a_at isIf rfl ?_; first | (refine a_ifT rfl rfl br_eqz (by assumption) ?_) | (refine a_ifF rfl rfl br_eqz (by assumption) ?_) | (refine a_ifT rfl rfl br_nez (by assumption) ?_) | (refine a_ifF rfl rfl br_nez (by assumption) ?_) | (refine a_ifT rfl rfl br_eqz (nt_f (by assumption)) ?_) | (refine a_ifF rfl rfl br_eqz (tnf (by assumption)) ?_) | (refine a_ifF rfl rfl br_nez (fnt (by assumption)) ?_) | (refine a_if rfl rfl br_eqz (fun _ => ?_) (fun _ => ?_)) | (refine a_if rfl rfl br_nez (fun _ => ?_) (fun _ => ?_)) | (refine a_ifF rfl rfl br_ne (fun h => h (by assumption)) ?_) | (refine a_ifT rfl rfl br_eq (by assumption) ?_) | (refine a_ifF rfl rfl br_eq (by assumption) ?_) | (refine a_ifT rfl rfl br_ne (by assumption) ?_) | (refine a_ifF rfl rfl br_ne (by assumption) ?_) | (refine a_ifT rfl rfl br_lt (by assumption) ?_) | (refine a_ifF rfl rfl br_lt (by assumption) ?_) | (refine a_ifT rfl rfl br_ge (by assumption) ?_) | (refine a_ifF rfl rfl br_ge (by assumption) ?_) | (refine a_ifT rfl rfl br_gt (by assumption) ?_) | (refine a_ifF rfl rfl br_gt (by assumption) ?_) | (refine a_ifT rfl rfl br_le (by assumption) ?_) | (refine a_ifF rfl rfl br_le (by assumption) ?_) | (refine a_if rfl rfl br_eq (fun _ => ?_) (fun _ => ?_)) | (refine a_if rfl rfl br_ne (fun _ => ?_) (fun _ => ?_)) | (refine a_if rfl rfl br_lt (fun _ => ?_) (fun _ => ?_)) | (refine a_if rfl rfl br_ge (fun _ => ?_) (fun _ => ?_)) | (refine a_if rfl rfl br_gt (fun _ => ?_) (fun _ => ?_)) | (refine a_if rfl rfl br_le (fun _ => ?_) (fun _ => ?_))) | (refine a_at isIc rfl ?_; first | (refine a_icF rfl rfl br_ne (fun h => h (by assumption)) ?_) | (refine a_icT rfl rfl br_eq (by assumption) ?_) | (refine a_icF rfl rfl br_eq (by assumption) ?_) | (refine a_icT rfl rfl br_ne (by assumption) ?_) | (refine a_icF rfl rfl br_ne (by assumption) ?_) | (refine a_icT rfl rfl br_lt (by assumption) ?_) | (refine a_icF rfl rfl br_lt (by assumption) ?_) | (refine a_icT rfl rfl br_ge (by assumption) ?_) | (refine a_icF rfl rfl br_ge (by assumption) ?_) | (refine a_icT rfl rfl br_gt (by assumption) ?_) | (refine a_icF rfl rfl br_gt (by assumption) ?_) | (refine a_icT rfl rfl br_le (by assumption) ?_) | (refine a_icF rfl rfl br_le (by assumption) ?_) | (refine a_ic rfl rfl br_eq (fun _ => ?_) (fun _ => ?_)) | (refine a_ic rfl rfl br_ne (fun _ => ?_) (fun _ => ?_)) | (refine a_ic rfl rfl br_lt (fun _ => ?_) (fun _ => ?_)) | (refine a_ic rfl rfl br_ge (fun _ => ?_) (fun _ => ?_)) | (refine a_ic rfl rfl br_gt (fun _ => ?_) (fun _ => ?_)) | (refine a_ic rfl rfl br_le (fun _ => ?_) (fun _ => ?_))) | (refine a_at isRt rfl ?_; first | refine a_iret rfl rfl rfl ?_ | refine a_zret rfl rfl ?_ ?_ | refine a_lret rfl rfl ?_ | refine a_ret rfl rfl ?_))
theorem k_addA {i j : Nat} {num : Int32} {es : Nat} (hG : G < 4) (hk : mgOK M G) (hs : msOK M) (hj : j < 7) (h48 : es < 48) (he : M.1 65 32 = nI es) (hq : Q (some (.int (nI (eLa (M.1 67 G) (mL M G) (mC M G) i j)))) (wm (sh0 ++ dy) (mAdd M es (nI i) (nI j) 0 (nI (eLa (M.1 67 G) (mL M G) (mC M G) i j)) num))) : sm_E L xs (d + 5) 188 [.ref 65, .int (nI G), .int (nI i), .int (nI j), .int 0, .int num] (wm (sh0 ++ dy) M) Q := by
  refine e_intro rfl rfl ?_
  repeat (first | refine x_kcg rfl ?_ | refine x_incg rfl rfl ?_ | refine x_opp rfl rfl ?_)
  refine x_fall ?_
  refine x_lvs [(0, .ref 65), (1, .int (nI G)), (2, .int (nI i)), (3, .int (nI j)), (4, .int 0), (5, .int num), (6, .int (nI 1))] rfl rfl rfl ⟨rfl, rfl, rfl, rfl, rfl, rfl, rfl, trivial⟩ ?_
  exact l_addA hG hk hs hj h48 he 6 1 rfl (Nat.le_refl 1) hq
theorem k_addB {i j : Nat} {num : Int32} {es : Nat} (hG : G < 4) (hk : mgOK M G) (hs : msOK M) (hi : i < 7) (h48 : es < 48) (he : M.1 65 32 = nI es) (hq : Q (some (.int (nI (eLb (M.1 67 G) (mL M G) (mC M G) i j)))) (wm (sh0 ++ dy) (mAdd M es (nI i) (nI j) 1 (nI (eLb (M.1 67 G) (mL M G) (mC M G) i j)) num))) : sm_E L xs (d + 5) 188 [.ref 65, .int (nI G), .int (nI i), .int (nI j), .int 1, .int num] (wm (sh0 ++ dy) M) Q := by
  refine e_intro rfl rfl ?_
  repeat (first | refine x_kcg rfl ?_ | refine x_incg rfl rfl ?_ | refine x_opp rfl rfl ?_)
  refine x_fall ?_
  refine x_lvs [(0, .ref 65), (1, .int (nI G)), (2, .int (nI i)), (3, .int (nI j)), (4, .int 1), (5, .int num), (6, .int (nI 1))] rfl rfl rfl ⟨rfl, rfl, rfl, rfl, rfl, rfl, rfl, trivial⟩ ?_
  exact l_addB hG hk hs hi h48 he 6 1 rfl (Nat.le_refl 1) hq
end MC2
end
