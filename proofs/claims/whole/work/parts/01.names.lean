/-- a private method of a class that the tables say can be made, by its rows of tables_1 -/
def lw_okq (q : MethodName × Nat) : Prop := (q.1.cls ≠ "java/lang/invoke/MethodHandle" ∧ q.1.cls ≠ "java/lang/invoke/VarHandle") ∧ Cond.instantiable q.1.cls q.2 ∈ tables_1 ∧ Cond.privateMethod q.1 ∈ tables_1 ∧ Cond.instanceMethod q.1 ∈ tables_1
theorem lw_p0 : lw_okq (⟨"java/lang/Throwable", "fillInStackTrace", "(I)Ljava/lang/Throwable;"⟩, 6) := ⟨⟨by decide +kernel, by decide +kernel⟩, List.mem_of_getElem? (i := 530) (by decide +kernel), List.mem_of_getElem? (i := 528) (by decide +kernel), List.mem_of_getElem? (i := 529) (by decide +kernel)⟩
theorem lw_p1 : lw_okq (⟨"ForkBridge", "demandChain", "(I)LForkBridge$Chain;"⟩, 3) := ⟨⟨by decide +kernel, by decide +kernel⟩, List.mem_of_getElem? (i := 22) (by decide +kernel), List.mem_of_getElem? (i := 615) (by decide +kernel), List.mem_of_getElem? (i := 616) (by decide +kernel)⟩
theorem lw_p2 : lw_okq (⟨"ForkBridge$Chain", "dropRivals", "(LForkBridge$Transaction;LForkBridge$Block;)V"⟩, 6) := ⟨⟨by decide +kernel, by decide +kernel⟩, List.mem_of_getElem? (i := 273) (by decide +kernel), List.mem_of_getElem? (i := 678) (by decide +kernel), List.mem_of_getElem? (i := 679) (by decide +kernel)⟩
theorem lw_p3 : lw_okq (⟨"ForkBridge$Chain", "throwOutFor", "(LForkBridge$Transaction;LForkBridge$Block;)Z"⟩, 6) := ⟨⟨by decide +kernel, by decide +kernel⟩, List.mem_of_getElem? (i := 273) (by decide +kernel), List.mem_of_getElem? (i := 686) (by decide +kernel), List.mem_of_getElem? (i := 687) (by decide +kernel)⟩
theorem lw_p4 : lw_okq (⟨"ForkBridge", "demandBlock", "(II)LForkBridge$Block;"⟩, 3) := ⟨⟨by decide +kernel, by decide +kernel⟩, List.mem_of_getElem? (i := 22) (by decide +kernel), List.mem_of_getElem? (i := 723) (by decide +kernel), List.mem_of_getElem? (i := 724) (by decide +kernel)⟩
theorem lw_p5 : lw_okq (⟨"ForkBridge$Chain", "isUpgraded", "(LForkBridge$Block;)Z"⟩, 6) := ⟨⟨by decide +kernel, by decide +kernel⟩, List.mem_of_getElem? (i := 273) (by decide +kernel), List.mem_of_getElem? (i := 746) (by decide +kernel), List.mem_of_getElem? (i := 747) (by decide +kernel)⟩
theorem lw_p6 : lw_okq (⟨"ForkBridge$Chain", "bestFor", "(LForkBridge$Block;)LForkBridge$Transaction;"⟩, 6) := ⟨⟨by decide +kernel, by decide +kernel⟩, List.mem_of_getElem? (i := 273) (by decide +kernel), List.mem_of_getElem? (i := 754) (by decide +kernel), List.mem_of_getElem? (i := 755) (by decide +kernel)⟩
theorem lw_p7 : lw_okq (⟨"ForkBridge$Machine", "payOut", "(LForkBridge$Transaction;)Z"⟩, 9) := ⟨⟨by decide +kernel, by decide +kernel⟩, List.mem_of_getElem? (i := 47) (by decide +kernel), List.mem_of_getElem? (i := 783) (by decide +kernel), List.mem_of_getElem? (i := 784) (by decide +kernel)⟩
theorem lw_p8 : lw_okq (⟨"ForkBridge$Machine", "found", "(IIII)I"⟩, 9) := ⟨⟨by decide +kernel, by decide +kernel⟩, List.mem_of_getElem? (i := 47) (by decide +kernel), List.mem_of_getElem? (i := 796) (by decide +kernel), List.mem_of_getElem? (i := 797) (by decide +kernel)⟩
theorem lw_p9 : lw_okq (⟨"ForkBridge$Machine", "deliver", "(IIIIII)Z"⟩, 9) := ⟨⟨by decide +kernel, by decide +kernel⟩, List.mem_of_getElem? (i := 47) (by decide +kernel), List.mem_of_getElem? (i := 801) (by decide +kernel), List.mem_of_getElem? (i := 802) (by decide +kernel)⟩
theorem lw_p10 : lw_okq (⟨"ForkBridge$Machine", "runProgram", "(ILForkBridge$Frame;)Z"⟩, 9) := ⟨⟨by decide +kernel, by decide +kernel⟩, List.mem_of_getElem? (i := 47) (by decide +kernel), List.mem_of_getElem? (i := 815) (by decide +kernel), List.mem_of_getElem? (i := 816) (by decide +kernel)⟩
theorem lw_p11 : lw_okq (⟨"ForkBridge$Machine", "extraGas", "(LForkBridge$Frame;II)I"⟩, 9) := ⟨⟨by decide +kernel, by decide +kernel⟩, List.mem_of_getElem? (i := 47) (by decide +kernel), List.mem_of_getElem? (i := 831) (by decide +kernel), List.mem_of_getElem? (i := 832) (by decide +kernel)⟩
theorem lw_p12 : lw_okq (⟨"ForkBridge$Machine", "finish", "(LForkBridge$Frame;I)Z"⟩, 9) := ⟨⟨by decide +kernel, by decide +kernel⟩, List.mem_of_getElem? (i := 47) (by decide +kernel), List.mem_of_getElem? (i := 855) (by decide +kernel), List.mem_of_getElem? (i := 856) (by decide +kernel)⟩
theorem lw_p13 : lw_okq (⟨"ForkBridge$Machine", "callFrom", "(ILForkBridge$Frame;)V"⟩, 9) := ⟨⟨by decide +kernel, by decide +kernel⟩, List.mem_of_getElem? (i := 47) (by decide +kernel), List.mem_of_getElem? (i := 864) (by decide +kernel), List.mem_of_getElem? (i := 865) (by decide +kernel)⟩
theorem lw_p14 : lw_okq (⟨"ForkBridge$Machine", "makeFrom", "(LForkBridge$Frame;I)V"⟩, 9) := ⟨⟨by decide +kernel, by decide +kernel⟩, List.mem_of_getElem? (i := 47) (by decide +kernel), List.mem_of_getElem? (i := 872) (by decide +kernel), List.mem_of_getElem? (i := 873) (by decide +kernel)⟩
theorem lw_p15 : lw_okq (⟨"ForkBridge$Machine", "touchState", "(LForkBridge$Frame;II)Z"⟩, 9) := ⟨⟨by decide +kernel, by decide +kernel⟩, List.mem_of_getElem? (i := 47) (by decide +kernel), List.mem_of_getElem? (i := 876) (by decide +kernel), List.mem_of_getElem? (i := 877) (by decide +kernel)⟩
def lw_privs_1 : List (MethodName × Nat) := [(⟨"java/lang/Throwable", "fillInStackTrace", "(I)Ljava/lang/Throwable;"⟩, 6), (⟨"ForkBridge", "demandChain", "(I)LForkBridge$Chain;"⟩, 3), (⟨"ForkBridge$Chain", "dropRivals", "(LForkBridge$Transaction;LForkBridge$Block;)V"⟩, 6), (⟨"ForkBridge$Chain", "throwOutFor", "(LForkBridge$Transaction;LForkBridge$Block;)Z"⟩, 6), (⟨"ForkBridge", "demandBlock", "(II)LForkBridge$Block;"⟩, 3), (⟨"ForkBridge$Chain", "isUpgraded", "(LForkBridge$Block;)Z"⟩, 6), (⟨"ForkBridge$Chain", "bestFor", "(LForkBridge$Block;)LForkBridge$Transaction;"⟩, 6), (⟨"ForkBridge$Machine", "payOut", "(LForkBridge$Transaction;)Z"⟩, 9), (⟨"ForkBridge$Machine", "found", "(IIII)I"⟩, 9), (⟨"ForkBridge$Machine", "deliver", "(IIIIII)Z"⟩, 9), (⟨"ForkBridge$Machine", "runProgram", "(ILForkBridge$Frame;)Z"⟩, 9), (⟨"ForkBridge$Machine", "extraGas", "(LForkBridge$Frame;II)I"⟩, 9), (⟨"ForkBridge$Machine", "finish", "(LForkBridge$Frame;I)Z"⟩, 9), (⟨"ForkBridge$Machine", "callFrom", "(ILForkBridge$Frame;)V"⟩, 9), (⟨"ForkBridge$Machine", "makeFrom", "(LForkBridge$Frame;I)V"⟩, 9), (⟨"ForkBridge$Machine", "touchState", "(LForkBridge$Frame;II)Z"⟩, 9)]
theorem lw_r1 : ∀ q ∈ lw_privs_1, lw_okq q := List.forall_mem_cons.mpr ⟨lw_p0, List.forall_mem_cons.mpr ⟨lw_p1, List.forall_mem_cons.mpr ⟨lw_p2, List.forall_mem_cons.mpr ⟨lw_p3, List.forall_mem_cons.mpr ⟨lw_p4, List.forall_mem_cons.mpr ⟨lw_p5, List.forall_mem_cons.mpr ⟨lw_p6, List.forall_mem_cons.mpr ⟨lw_p7, List.forall_mem_cons.mpr ⟨lw_p8, List.forall_mem_cons.mpr ⟨lw_p9, List.forall_mem_cons.mpr ⟨lw_p10, List.forall_mem_cons.mpr ⟨lw_p11, List.forall_mem_cons.mpr ⟨lw_p12, List.forall_mem_cons.mpr ⟨lw_p13, List.forall_mem_cons.mpr ⟨lw_p14, List.forall_mem_cons.mpr ⟨lw_p15, fun _ h => absurd h List.not_mem_nil⟩⟩⟩⟩⟩⟩⟩⟩⟩⟩⟩⟩⟩⟩⟩⟩
theorem lw_p16 : lw_okq (⟨"ForkBridge$Machine", "write", "(II)V"⟩, 9) := ⟨⟨by decide +kernel, by decide +kernel⟩, List.mem_of_getElem? (i := 47) (by decide +kernel), List.mem_of_getElem? (i := 880) (by decide +kernel), List.mem_of_getElem? (i := 881) (by decide +kernel)⟩
theorem lw_p17 : lw_okq (⟨"ForkBridge$Frame", "reach", "(I)V"⟩, 14) := ⟨⟨by decide +kernel, by decide +kernel⟩, List.mem_of_getElem? (i := 184) (by decide +kernel), List.mem_of_getElem? (i := 895) (by decide +kernel), List.mem_of_getElem? (i := 896) (by decide +kernel)⟩
theorem lw_p18 : lw_okq (⟨"ForkBridge$Frame", "calculate", "(I)V"⟩, 14) := ⟨⟨by decide +kernel, by decide +kernel⟩, List.mem_of_getElem? (i := 184) (by decide +kernel), List.mem_of_getElem? (i := 900) (by decide +kernel), List.mem_of_getElem? (i := 901) (by decide +kernel)⟩
theorem lw_p19 : lw_okq (⟨"ForkBridge$Machine", "undo", "(LForkBridge$Frame;)V"⟩, 9) := ⟨⟨by decide +kernel, by decide +kernel⟩, List.mem_of_getElem? (i := 47) (by decide +kernel), List.mem_of_getElem? (i := 909) (by decide +kernel), List.mem_of_getElem? (i := 910) (by decide +kernel)⟩
theorem lw_p20 : lw_okq (⟨"ForkBridge$Machine", "settleGas", "(LForkBridge$Transaction;II)V"⟩, 9) := ⟨⟨by decide +kernel, by decide +kernel⟩, List.mem_of_getElem? (i := 47) (by decide +kernel), List.mem_of_getElem? (i := 914) (by decide +kernel), List.mem_of_getElem? (i := 915) (by decide +kernel)⟩
theorem lw_p21 : lw_okq (⟨"ForkBridge", "demandState", "(III)LForkBridge$State;"⟩, 3) := ⟨⟨by decide +kernel, by decide +kernel⟩, List.mem_of_getElem? (i := 22) (by decide +kernel), List.mem_of_getElem? (i := 995) (by decide +kernel), List.mem_of_getElem? (i := 996) (by decide +kernel)⟩
theorem lw_p22 : lw_okq (⟨"ForkBridge$Vote", "surrounds", "(LForkBridge$Vote;)Z"⟩, 4) := ⟨⟨by decide +kernel, by decide +kernel⟩, List.mem_of_getElem? (i := 297) (by decide +kernel), List.mem_of_getElem? (i := 1112) (by decide +kernel), List.mem_of_getElem? (i := 1113) (by decide +kernel)⟩
theorem lw_p23 : lw_okq (⟨"ForkBridge$Finality", "justifyOne", "([LForkBridge$Block;)Z"⟩, 2) := ⟨⟨by decide +kernel, by decide +kernel⟩, List.mem_of_getElem? (i := 283) (by decide +kernel), List.mem_of_getElem? (i := 1120) (by decide +kernel), List.mem_of_getElem? (i := 1121) (by decide +kernel)⟩
theorem lw_p24 : lw_okq (⟨"ForkBridge$Finality", "justify", "([LForkBridge$Block;LForkBridge$Vote;)Z"⟩, 2) := ⟨⟨by decide +kernel, by decide +kernel⟩, List.mem_of_getElem? (i := 283) (by decide +kernel), List.mem_of_getElem? (i := 1130) (by decide +kernel), List.mem_of_getElem? (i := 1131) (by decide +kernel)⟩
theorem lw_p25 : lw_okq (⟨"ForkBridge$Finality", "carries", "(LForkBridge$Vote;)Z"⟩, 2) := ⟨⟨by decide +kernel, by decide +kernel⟩, List.mem_of_getElem? (i := 283) (by decide +kernel), List.mem_of_getElem? (i := 1134) (by decide +kernel), List.mem_of_getElem? (i := 1135) (by decide +kernel)⟩
theorem lw_p26 : lw_okq (⟨"ForkBridge$Finality", "moveFinal", "([LForkBridge$Block;)V"⟩, 2) := ⟨⟨by decide +kernel, by decide +kernel⟩, List.mem_of_getElem? (i := 283) (by decide +kernel), List.mem_of_getElem? (i := 1147) (by decide +kernel), List.mem_of_getElem? (i := 1148) (by decide +kernel)⟩
theorem lw_p27 : lw_okq (⟨"ForkBridgeModel", "rootOf", "(I)I"⟩, 61) := ⟨⟨by decide +kernel, by decide +kernel⟩, List.mem_of_getElem? (i := 1177) (by decide +kernel), List.mem_of_getElem? (i := 1183) (by decide +kernel), List.mem_of_getElem? (i := 1184) (by decide +kernel)⟩
theorem lw_p28 : lw_okq (⟨"ForkBridgeModel", "leafOf", "(II)I"⟩, 61) := ⟨⟨by decide +kernel, by decide +kernel⟩, List.mem_of_getElem? (i := 1177) (by decide +kernel), List.mem_of_getElem? (i := 1187) (by decide +kernel), List.mem_of_getElem? (i := 1188) (by decide +kernel)⟩
theorem lw_p29 : lw_okq (⟨"ForkBridgeModel", "mix", "(JJ)I"⟩, 61) := ⟨⟨by decide +kernel, by decide +kernel⟩, List.mem_of_getElem? (i := 1177) (by decide +kernel), List.mem_of_getElem? (i := 1191) (by decide +kernel), List.mem_of_getElem? (i := 1192) (by decide +kernel)⟩
theorem lw_p30 : lw_okq (⟨"ForkBridgeModel", "fold", "(I)V"⟩, 61) := ⟨⟨by decide +kernel, by decide +kernel⟩, List.mem_of_getElem? (i := 1177) (by decide +kernel), List.mem_of_getElem? (i := 1200) (by decide +kernel), List.mem_of_getElem? (i := 1201) (by decide +kernel)⟩
theorem lw_p31 : lw_okq (⟨"ForkBridgeModel", "in", "(III)Z"⟩, 61) := ⟨⟨by decide +kernel, by decide +kernel⟩, List.mem_of_getElem? (i := 1177) (by decide +kernel), List.mem_of_getElem? (i := 1397) (by decide +kernel), List.mem_of_getElem? (i := 1398) (by decide +kernel)⟩
def lw_privs_2 : List (MethodName × Nat) := [(⟨"ForkBridge$Machine", "write", "(II)V"⟩, 9), (⟨"ForkBridge$Frame", "reach", "(I)V"⟩, 14), (⟨"ForkBridge$Frame", "calculate", "(I)V"⟩, 14), (⟨"ForkBridge$Machine", "undo", "(LForkBridge$Frame;)V"⟩, 9), (⟨"ForkBridge$Machine", "settleGas", "(LForkBridge$Transaction;II)V"⟩, 9), (⟨"ForkBridge", "demandState", "(III)LForkBridge$State;"⟩, 3), (⟨"ForkBridge$Vote", "surrounds", "(LForkBridge$Vote;)Z"⟩, 4), (⟨"ForkBridge$Finality", "justifyOne", "([LForkBridge$Block;)Z"⟩, 2), (⟨"ForkBridge$Finality", "justify", "([LForkBridge$Block;LForkBridge$Vote;)Z"⟩, 2), (⟨"ForkBridge$Finality", "carries", "(LForkBridge$Vote;)Z"⟩, 2), (⟨"ForkBridge$Finality", "moveFinal", "([LForkBridge$Block;)V"⟩, 2), (⟨"ForkBridgeModel", "rootOf", "(I)I"⟩, 61), (⟨"ForkBridgeModel", "leafOf", "(II)I"⟩, 61), (⟨"ForkBridgeModel", "mix", "(JJ)I"⟩, 61), (⟨"ForkBridgeModel", "fold", "(I)V"⟩, 61), (⟨"ForkBridgeModel", "in", "(III)Z"⟩, 61)]
theorem lw_r2 : ∀ q ∈ lw_privs_2, lw_okq q := List.forall_mem_cons.mpr ⟨lw_p16, List.forall_mem_cons.mpr ⟨lw_p17, List.forall_mem_cons.mpr ⟨lw_p18, List.forall_mem_cons.mpr ⟨lw_p19, List.forall_mem_cons.mpr ⟨lw_p20, List.forall_mem_cons.mpr ⟨lw_p21, List.forall_mem_cons.mpr ⟨lw_p22, List.forall_mem_cons.mpr ⟨lw_p23, List.forall_mem_cons.mpr ⟨lw_p24, List.forall_mem_cons.mpr ⟨lw_p25, List.forall_mem_cons.mpr ⟨lw_p26, List.forall_mem_cons.mpr ⟨lw_p27, List.forall_mem_cons.mpr ⟨lw_p28, List.forall_mem_cons.mpr ⟨lw_p29, List.forall_mem_cons.mpr ⟨lw_p30, List.forall_mem_cons.mpr ⟨lw_p31, fun _ h => absurd h List.not_mem_nil⟩⟩⟩⟩⟩⟩⟩⟩⟩⟩⟩⟩⟩⟩⟩⟩
theorem lw_p32 : lw_okq (⟨"ForkBridgeModel", "most", "(I)I"⟩, 61) := ⟨⟨by decide +kernel, by decide +kernel⟩, List.mem_of_getElem? (i := 1177) (by decide +kernel), List.mem_of_getElem? (i := 1401) (by decide +kernel), List.mem_of_getElem? (i := 1402) (by decide +kernel)⟩
theorem lw_p33 : lw_okq (⟨"ForkBridgeModel", "holds", "(I)Z"⟩, 61) := ⟨⟨by decide +kernel, by decide +kernel⟩, List.mem_of_getElem? (i := 1177) (by decide +kernel), List.mem_of_getElem? (i := 1405) (by decide +kernel), List.mem_of_getElem? (i := 1406) (by decide +kernel)⟩
theorem lw_p34 : lw_okq (⟨"ForkBridgeModel", "isChain", "(I)Z"⟩, 61) := ⟨⟨by decide +kernel, by decide +kernel⟩, List.mem_of_getElem? (i := 1177) (by decide +kernel), List.mem_of_getElem? (i := 1413) (by decide +kernel), List.mem_of_getElem? (i := 1414) (by decide +kernel)⟩
theorem lw_p35 : lw_okq (⟨"ForkBridgeModel", "enter", "(IIIIIIIII)I"⟩, 61) := ⟨⟨by decide +kernel, by decide +kernel⟩, List.mem_of_getElem? (i := 1177) (by decide +kernel), List.mem_of_getElem? (i := 1421) (by decide +kernel), List.mem_of_getElem? (i := 1422) (by decide +kernel)⟩
theorem lw_p36 : lw_okq (⟨"ForkBridgeModel", "headOf", "(I)I"⟩, 61) := ⟨⟨by decide +kernel, by decide +kernel⟩, List.mem_of_getElem? (i := 1177) (by decide +kernel), List.mem_of_getElem? (i := 1425) (by decide +kernel), List.mem_of_getElem? (i := 1426) (by decide +kernel)⟩
theorem lw_p37 : lw_okq (⟨"ForkBridgeModel", "from", "(III)Z"⟩, 61) := ⟨⟨by decide +kernel, by decide +kernel⟩, List.mem_of_getElem? (i := 1177) (by decide +kernel), List.mem_of_getElem? (i := 1429) (by decide +kernel), List.mem_of_getElem? (i := 1430) (by decide +kernel)⟩
theorem lw_p38 : lw_okq (⟨"ForkBridgeModel", "pooled", "(III)Z"⟩, 61) := ⟨⟨by decide +kernel, by decide +kernel⟩, List.mem_of_getElem? (i := 1177) (by decide +kernel), List.mem_of_getElem? (i := 1433) (by decide +kernel), List.mem_of_getElem? (i := 1434) (by decide +kernel)⟩
theorem lw_p39 : lw_okq (⟨"ForkBridgeModel", "isIn", "(III)Z"⟩, 61) := ⟨⟨by decide +kernel, by decide +kernel⟩, List.mem_of_getElem? (i := 1177) (by decide +kernel), List.mem_of_getElem? (i := 1437) (by decide +kernel), List.mem_of_getElem? (i := 1438) (by decide +kernel)⟩
theorem lw_p40 : lw_okq (⟨"ForkBridgeModel", "size", "(I)I"⟩, 61) := ⟨⟨by decide +kernel, by decide +kernel⟩, List.mem_of_getElem? (i := 1177) (by decide +kernel), List.mem_of_getElem? (i := 1441) (by decide +kernel), List.mem_of_getElem? (i := 1442) (by decide +kernel)⟩
theorem lw_p41 : lw_okq (⟨"ForkBridgeModel", "isTx", "(II)Z"⟩, 61) := ⟨⟨by decide +kernel, by decide +kernel⟩, List.mem_of_getElem? (i := 1177) (by decide +kernel), List.mem_of_getElem? (i := 1449) (by decide +kernel), List.mem_of_getElem? (i := 1450) (by decide +kernel)⟩
theorem lw_p42 : lw_okq (⟨"ForkBridgeModel", "isBlock", "(II)Z"⟩, 61) := ⟨⟨by decide +kernel, by decide +kernel⟩, List.mem_of_getElem? (i := 1177) (by decide +kernel), List.mem_of_getElem? (i := 1461) (by decide +kernel), List.mem_of_getElem? (i := 1462) (by decide +kernel)⟩
theorem lw_p43 : lw_okq (⟨"ForkBridgeModel", "copyIn", "(I)V"⟩, 61) := ⟨⟨by decide +kernel, by decide +kernel⟩, List.mem_of_getElem? (i := 1177) (by decide +kernel), List.mem_of_getElem? (i := 1465) (by decide +kernel), List.mem_of_getElem? (i := 1466) (by decide +kernel)⟩
theorem lw_p44 : lw_okq (⟨"ForkBridgeModel", "pick", "(II)I"⟩, 61) := ⟨⟨by decide +kernel, by decide +kernel⟩, List.mem_of_getElem? (i := 1177) (by decide +kernel), List.mem_of_getElem? (i := 1469) (by decide +kernel), List.mem_of_getElem? (i := 1470) (by decide +kernel)⟩
theorem lw_p45 : lw_okq (⟨"ForkBridgeModel", "fit", "(II)Z"⟩, 61) := ⟨⟨by decide +kernel, by decide +kernel⟩, List.mem_of_getElem? (i := 1177) (by decide +kernel), List.mem_of_getElem? (i := 1473) (by decide +kernel), List.mem_of_getElem? (i := 1474) (by decide +kernel)⟩
theorem lw_p46 : lw_okq (⟨"ForkBridgeModel", "price", "(II)I"⟩, 61) := ⟨⟨by decide +kernel, by decide +kernel⟩, List.mem_of_getElem? (i := 1177) (by decide +kernel), List.mem_of_getElem? (i := 1477) (by decide +kernel), List.mem_of_getElem? (i := 1478) (by decide +kernel)⟩
theorem lw_p47 : lw_okq (⟨"ForkBridgeModel", "runs", "(III)V"⟩, 61) := ⟨⟨by decide +kernel, by decide +kernel⟩, List.mem_of_getElem? (i := 1177) (by decide +kernel), List.mem_of_getElem? (i := 1481) (by decide +kernel), List.mem_of_getElem? (i := 1482) (by decide +kernel)⟩
def lw_privs_3 : List (MethodName × Nat) := [(⟨"ForkBridgeModel", "most", "(I)I"⟩, 61), (⟨"ForkBridgeModel", "holds", "(I)Z"⟩, 61), (⟨"ForkBridgeModel", "isChain", "(I)Z"⟩, 61), (⟨"ForkBridgeModel", "enter", "(IIIIIIIII)I"⟩, 61), (⟨"ForkBridgeModel", "headOf", "(I)I"⟩, 61), (⟨"ForkBridgeModel", "from", "(III)Z"⟩, 61), (⟨"ForkBridgeModel", "pooled", "(III)Z"⟩, 61), (⟨"ForkBridgeModel", "isIn", "(III)Z"⟩, 61), (⟨"ForkBridgeModel", "size", "(I)I"⟩, 61), (⟨"ForkBridgeModel", "isTx", "(II)Z"⟩, 61), (⟨"ForkBridgeModel", "isBlock", "(II)Z"⟩, 61), (⟨"ForkBridgeModel", "copyIn", "(I)V"⟩, 61), (⟨"ForkBridgeModel", "pick", "(II)I"⟩, 61), (⟨"ForkBridgeModel", "fit", "(II)Z"⟩, 61), (⟨"ForkBridgeModel", "price", "(II)I"⟩, 61), (⟨"ForkBridgeModel", "runs", "(III)V"⟩, 61)]
theorem lw_r3 : ∀ q ∈ lw_privs_3, lw_okq q := List.forall_mem_cons.mpr ⟨lw_p32, List.forall_mem_cons.mpr ⟨lw_p33, List.forall_mem_cons.mpr ⟨lw_p34, List.forall_mem_cons.mpr ⟨lw_p35, List.forall_mem_cons.mpr ⟨lw_p36, List.forall_mem_cons.mpr ⟨lw_p37, List.forall_mem_cons.mpr ⟨lw_p38, List.forall_mem_cons.mpr ⟨lw_p39, List.forall_mem_cons.mpr ⟨lw_p40, List.forall_mem_cons.mpr ⟨lw_p41, List.forall_mem_cons.mpr ⟨lw_p42, List.forall_mem_cons.mpr ⟨lw_p43, List.forall_mem_cons.mpr ⟨lw_p44, List.forall_mem_cons.mpr ⟨lw_p45, List.forall_mem_cons.mpr ⟨lw_p46, List.forall_mem_cons.mpr ⟨lw_p47, fun _ h => absurd h List.not_mem_nil⟩⟩⟩⟩⟩⟩⟩⟩⟩⟩⟩⟩⟩⟩⟩⟩
theorem lw_p48 : lw_okq (⟨"ForkBridgeModel", "effect", "(II)V"⟩, 61) := ⟨⟨by decide +kernel, by decide +kernel⟩, List.mem_of_getElem? (i := 1177) (by decide +kernel), List.mem_of_getElem? (i := 1485) (by decide +kernel), List.mem_of_getElem? (i := 1486) (by decide +kernel)⟩
theorem lw_p49 : lw_okq (⟨"ForkBridgeModel", "paysLock", "(II)Z"⟩, 61) := ⟨⟨by decide +kernel, by decide +kernel⟩, List.mem_of_getElem? (i := 1177) (by decide +kernel), List.mem_of_getElem? (i := 1489) (by decide +kernel), List.mem_of_getElem? (i := 1490) (by decide +kernel)⟩
theorem lw_p50 : lw_okq (⟨"ForkBridgeModel", "move", "(III)V"⟩, 61) := ⟨⟨by decide +kernel, by decide +kernel⟩, List.mem_of_getElem? (i := 1177) (by decide +kernel), List.mem_of_getElem? (i := 1493) (by decide +kernel), List.mem_of_getElem? (i := 1494) (by decide +kernel)⟩
theorem lw_p51 : lw_okq (⟨"ForkBridgeModel", "made", "(IIII)I"⟩, 61) := ⟨⟨by decide +kernel, by decide +kernel⟩, List.mem_of_getElem? (i := 1177) (by decide +kernel), List.mem_of_getElem? (i := 1497) (by decide +kernel), List.mem_of_getElem? (i := 1498) (by decide +kernel)⟩
theorem lw_p52 : lw_okq (⟨"ForkBridgeModel", "address", "(II)I"⟩, 61) := ⟨⟨by decide +kernel, by decide +kernel⟩, List.mem_of_getElem? (i := 1177) (by decide +kernel), List.mem_of_getElem? (i := 1501) (by decide +kernel), List.mem_of_getElem? (i := 1502) (by decide +kernel)⟩
theorem lw_p53 : lw_okq (⟨"ForkBridgeModel", "mark", "(I)V"⟩, 61) := ⟨⟨by decide +kernel, by decide +kernel⟩, List.mem_of_getElem? (i := 1177) (by decide +kernel), List.mem_of_getElem? (i := 1505) (by decide +kernel), List.mem_of_getElem? (i := 1506) (by decide +kernel)⟩
theorem lw_p54 : lw_okq (⟨"ForkBridgeModel", "snap", "(I)V"⟩, 61) := ⟨⟨by decide +kernel, by decide +kernel⟩, List.mem_of_getElem? (i := 1177) (by decide +kernel), List.mem_of_getElem? (i := 1509) (by decide +kernel), List.mem_of_getElem? (i := 1510) (by decide +kernel)⟩
theorem lw_p55 : lw_okq (⟨"ForkBridgeModel", "begin", "(IIIII)V"⟩, 61) := ⟨⟨by decide +kernel, by decide +kernel⟩, List.mem_of_getElem? (i := 1177) (by decide +kernel), List.mem_of_getElem? (i := 1513) (by decide +kernel), List.mem_of_getElem? (i := 1514) (by decide +kernel)⟩
theorem lw_p56 : lw_okq (⟨"ForkBridgeModel", "machine", "()V"⟩, 61) := ⟨⟨by decide +kernel, by decide +kernel⟩, List.mem_of_getElem? (i := 1177) (by decide +kernel), List.mem_of_getElem? (i := 1517) (by decide +kernel), List.mem_of_getElem? (i := 1518) (by decide +kernel)⟩
theorem lw_p57 : lw_okq (⟨"ForkBridgeModel", "finish", "(ZI)V"⟩, 61) := ⟨⟨by decide +kernel, by decide +kernel⟩, List.mem_of_getElem? (i := 1177) (by decide +kernel), List.mem_of_getElem? (i := 1521) (by decide +kernel), List.mem_of_getElem? (i := 1522) (by decide +kernel)⟩
theorem lw_p58 : lw_okq (⟨"ForkBridgeModel", "undone", "(I)V"⟩, 61) := ⟨⟨by decide +kernel, by decide +kernel⟩, List.mem_of_getElem? (i := 1177) (by decide +kernel), List.mem_of_getElem? (i := 1525) (by decide +kernel), List.mem_of_getElem? (i := 1526) (by decide +kernel)⟩
theorem lw_p59 : lw_okq (⟨"ForkBridgeModel", "undo", "(I)V"⟩, 61) := ⟨⟨by decide +kernel, by decide +kernel⟩, List.mem_of_getElem? (i := 1177) (by decide +kernel), List.mem_of_getElem? (i := 1529) (by decide +kernel), List.mem_of_getElem? (i := 1530) (by decide +kernel)⟩
theorem lw_p60 : lw_okq (⟨"ForkBridgeModel", "push", "(II)V"⟩, 61) := ⟨⟨by decide +kernel, by decide +kernel⟩, List.mem_of_getElem? (i := 1177) (by decide +kernel), List.mem_of_getElem? (i := 1533) (by decide +kernel), List.mem_of_getElem? (i := 1534) (by decide +kernel)⟩
theorem lw_p61 : lw_okq (⟨"ForkBridgeModel", "cost", "(III)I"⟩, 61) := ⟨⟨by decide +kernel, by decide +kernel⟩, List.mem_of_getElem? (i := 1177) (by decide +kernel), List.mem_of_getElem? (i := 1537) (by decide +kernel), List.mem_of_getElem? (i := 1538) (by decide +kernel)⟩
theorem lw_p62 : lw_okq (⟨"ForkBridgeModel", "square", "(I)I"⟩, 61) := ⟨⟨by decide +kernel, by decide +kernel⟩, List.mem_of_getElem? (i := 1177) (by decide +kernel), List.mem_of_getElem? (i := 1541) (by decide +kernel), List.mem_of_getElem? (i := 1542) (by decide +kernel)⟩
theorem lw_p63 : lw_okq (⟨"ForkBridgeModel", "need", "(I)I"⟩, 61) := ⟨⟨by decide +kernel, by decide +kernel⟩, List.mem_of_getElem? (i := 1177) (by decide +kernel), List.mem_of_getElem? (i := 1545) (by decide +kernel), List.mem_of_getElem? (i := 1546) (by decide +kernel)⟩
def lw_privs_4 : List (MethodName × Nat) := [(⟨"ForkBridgeModel", "effect", "(II)V"⟩, 61), (⟨"ForkBridgeModel", "paysLock", "(II)Z"⟩, 61), (⟨"ForkBridgeModel", "move", "(III)V"⟩, 61), (⟨"ForkBridgeModel", "made", "(IIII)I"⟩, 61), (⟨"ForkBridgeModel", "address", "(II)I"⟩, 61), (⟨"ForkBridgeModel", "mark", "(I)V"⟩, 61), (⟨"ForkBridgeModel", "snap", "(I)V"⟩, 61), (⟨"ForkBridgeModel", "begin", "(IIIII)V"⟩, 61), (⟨"ForkBridgeModel", "machine", "()V"⟩, 61), (⟨"ForkBridgeModel", "finish", "(ZI)V"⟩, 61), (⟨"ForkBridgeModel", "undone", "(I)V"⟩, 61), (⟨"ForkBridgeModel", "undo", "(I)V"⟩, 61), (⟨"ForkBridgeModel", "push", "(II)V"⟩, 61), (⟨"ForkBridgeModel", "cost", "(III)I"⟩, 61), (⟨"ForkBridgeModel", "square", "(I)I"⟩, 61), (⟨"ForkBridgeModel", "need", "(I)I"⟩, 61)]
theorem lw_r4 : ∀ q ∈ lw_privs_4, lw_okq q := List.forall_mem_cons.mpr ⟨lw_p48, List.forall_mem_cons.mpr ⟨lw_p49, List.forall_mem_cons.mpr ⟨lw_p50, List.forall_mem_cons.mpr ⟨lw_p51, List.forall_mem_cons.mpr ⟨lw_p52, List.forall_mem_cons.mpr ⟨lw_p53, List.forall_mem_cons.mpr ⟨lw_p54, List.forall_mem_cons.mpr ⟨lw_p55, List.forall_mem_cons.mpr ⟨lw_p56, List.forall_mem_cons.mpr ⟨lw_p57, List.forall_mem_cons.mpr ⟨lw_p58, List.forall_mem_cons.mpr ⟨lw_p59, List.forall_mem_cons.mpr ⟨lw_p60, List.forall_mem_cons.mpr ⟨lw_p61, List.forall_mem_cons.mpr ⟨lw_p62, List.forall_mem_cons.mpr ⟨lw_p63, fun _ h => absurd h List.not_mem_nil⟩⟩⟩⟩⟩⟩⟩⟩⟩⟩⟩⟩⟩⟩⟩⟩
theorem lw_p64 : lw_okq (⟨"ForkBridgeModel", "grows", "(I)I"⟩, 61) := ⟨⟨by decide +kernel, by decide +kernel⟩, List.mem_of_getElem? (i := 1177) (by decide +kernel), List.mem_of_getElem? (i := 1549) (by decide +kernel), List.mem_of_getElem? (i := 1550) (by decide +kernel)⟩
theorem lw_p65 : lw_okq (⟨"ForkBridgeModel", "does", "(III)V"⟩, 61) := ⟨⟨by decide +kernel, by decide +kernel⟩, List.mem_of_getElem? (i := 1177) (by decide +kernel), List.mem_of_getElem? (i := 1553) (by decide +kernel), List.mem_of_getElem? (i := 1554) (by decide +kernel)⟩
theorem lw_p66 : lw_okq (⟨"ForkBridgeModel", "pop", "(I)I"⟩, 61) := ⟨⟨by decide +kernel, by decide +kernel⟩, List.mem_of_getElem? (i := 1177) (by decide +kernel), List.mem_of_getElem? (i := 1557) (by decide +kernel), List.mem_of_getElem? (i := 1558) (by decide +kernel)⟩
theorem lw_p67 : lw_okq (⟨"ForkBridgeModel", "reckoned", "(III)I"⟩, 61) := ⟨⟨by decide +kernel, by decide +kernel⟩, List.mem_of_getElem? (i := 1177) (by decide +kernel), List.mem_of_getElem? (i := 1561) (by decide +kernel), List.mem_of_getElem? (i := 1562) (by decide +kernel)⟩
theorem lw_p68 : lw_okq (⟨"ForkBridgeModel", "writes", "(II)V"⟩, 61) := ⟨⟨by decide +kernel, by decide +kernel⟩, List.mem_of_getElem? (i := 1177) (by decide +kernel), List.mem_of_getElem? (i := 1567) (by decide +kernel), List.mem_of_getElem? (i := 1568) (by decide +kernel)⟩
theorem lw_p69 : lw_okq (⟨"ForkBridgeModel", "cells", "(III)V"⟩, 61) := ⟨⟨by decide +kernel, by decide +kernel⟩, List.mem_of_getElem? (i := 1177) (by decide +kernel), List.mem_of_getElem? (i := 1571) (by decide +kernel), List.mem_of_getElem? (i := 1572) (by decide +kernel)⟩
theorem lw_p70 : lw_okq (⟨"ForkBridgeModel", "calls", "(I)V"⟩, 61) := ⟨⟨by decide +kernel, by decide +kernel⟩, List.mem_of_getElem? (i := 1177) (by decide +kernel), List.mem_of_getElem? (i := 1575) (by decide +kernel), List.mem_of_getElem? (i := 1576) (by decide +kernel)⟩
theorem lw_p71 : lw_okq (⟨"ForkBridgeModel", "logs", "(I)V"⟩, 61) := ⟨⟨by decide +kernel, by decide +kernel⟩, List.mem_of_getElem? (i := 1177) (by decide +kernel), List.mem_of_getElem? (i := 1579) (by decide +kernel), List.mem_of_getElem? (i := 1580) (by decide +kernel)⟩
theorem lw_p72 : lw_okq (⟨"ForkBridgeModel", "makes", "(II)V"⟩, 61) := ⟨⟨by decide +kernel, by decide +kernel⟩, List.mem_of_getElem? (i := 1177) (by decide +kernel), List.mem_of_getElem? (i := 1583) (by decide +kernel), List.mem_of_getElem? (i := 1584) (by decide +kernel)⟩
theorem lw_p73 : lw_okq (⟨"ForkBridgeModel", "ends", "(I)V"⟩, 61) := ⟨⟨by decide +kernel, by decide +kernel⟩, List.mem_of_getElem? (i := 1177) (by decide +kernel), List.mem_of_getElem? (i := 1587) (by decide +kernel), List.mem_of_getElem? (i := 1588) (by decide +kernel)⟩
theorem lw_p74 : lw_okq (⟨"ForkBridgeModel", "missing", "(IIZ)I"⟩, 61) := ⟨⟨by decide +kernel, by decide +kernel⟩, List.mem_of_getElem? (i := 1177) (by decide +kernel), List.mem_of_getElem? (i := 1624) (by decide +kernel), List.mem_of_getElem? (i := 1625) (by decide +kernel)⟩
theorem lw_p75 : lw_okq (⟨"ForkBridgeModel", "at", "(II)I"⟩, 61) := ⟨⟨by decide +kernel, by decide +kernel⟩, List.mem_of_getElem? (i := 1177) (by decide +kernel), List.mem_of_getElem? (i := 1628) (by decide +kernel), List.mem_of_getElem? (i := 1629) (by decide +kernel)⟩
theorem lw_p76 : lw_okq (⟨"ForkBridgeModel", "up", "(IIII)I"⟩, 61) := ⟨⟨by decide +kernel, by decide +kernel⟩, List.mem_of_getElem? (i := 1177) (by decide +kernel), List.mem_of_getElem? (i := 1666) (by decide +kernel), List.mem_of_getElem? (i := 1667) (by decide +kernel)⟩
theorem lw_p77 : lw_okq (⟨"ForkBridgeModel", "surrounds", "(IIIII)Z"⟩, 61) := ⟨⟨by decide +kernel, by decide +kernel⟩, List.mem_of_getElem? (i := 1177) (by decide +kernel), List.mem_of_getElem? (i := 1678) (by decide +kernel), List.mem_of_getElem? (i := 1679) (by decide +kernel)⟩
theorem lw_p78 : lw_okq (⟨"ForkBridgeModel", "justify", "(I)V"⟩, 61) := ⟨⟨by decide +kernel, by decide +kernel⟩, List.mem_of_getElem? (i := 1177) (by decide +kernel), List.mem_of_getElem? (i := 1682) (by decide +kernel), List.mem_of_getElem? (i := 1683) (by decide +kernel)⟩
theorem lw_p79 : lw_okq (⟨"ForkBridgeModel", "behind", "(III)I"⟩, 61) := ⟨⟨by decide +kernel, by decide +kernel⟩, List.mem_of_getElem? (i := 1177) (by decide +kernel), List.mem_of_getElem? (i := 1686) (by decide +kernel), List.mem_of_getElem? (i := 1687) (by decide +kernel)⟩
def lw_privs_5 : List (MethodName × Nat) := [(⟨"ForkBridgeModel", "grows", "(I)I"⟩, 61), (⟨"ForkBridgeModel", "does", "(III)V"⟩, 61), (⟨"ForkBridgeModel", "pop", "(I)I"⟩, 61), (⟨"ForkBridgeModel", "reckoned", "(III)I"⟩, 61), (⟨"ForkBridgeModel", "writes", "(II)V"⟩, 61), (⟨"ForkBridgeModel", "cells", "(III)V"⟩, 61), (⟨"ForkBridgeModel", "calls", "(I)V"⟩, 61), (⟨"ForkBridgeModel", "logs", "(I)V"⟩, 61), (⟨"ForkBridgeModel", "makes", "(II)V"⟩, 61), (⟨"ForkBridgeModel", "ends", "(I)V"⟩, 61), (⟨"ForkBridgeModel", "missing", "(IIZ)I"⟩, 61), (⟨"ForkBridgeModel", "at", "(II)I"⟩, 61), (⟨"ForkBridgeModel", "up", "(IIII)I"⟩, 61), (⟨"ForkBridgeModel", "surrounds", "(IIIII)Z"⟩, 61), (⟨"ForkBridgeModel", "justify", "(I)V"⟩, 61), (⟨"ForkBridgeModel", "behind", "(III)I"⟩, 61)]
theorem lw_r5 : ∀ q ∈ lw_privs_5, lw_okq q := List.forall_mem_cons.mpr ⟨lw_p64, List.forall_mem_cons.mpr ⟨lw_p65, List.forall_mem_cons.mpr ⟨lw_p66, List.forall_mem_cons.mpr ⟨lw_p67, List.forall_mem_cons.mpr ⟨lw_p68, List.forall_mem_cons.mpr ⟨lw_p69, List.forall_mem_cons.mpr ⟨lw_p70, List.forall_mem_cons.mpr ⟨lw_p71, List.forall_mem_cons.mpr ⟨lw_p72, List.forall_mem_cons.mpr ⟨lw_p73, List.forall_mem_cons.mpr ⟨lw_p74, List.forall_mem_cons.mpr ⟨lw_p75, List.forall_mem_cons.mpr ⟨lw_p76, List.forall_mem_cons.mpr ⟨lw_p77, List.forall_mem_cons.mpr ⟨lw_p78, List.forall_mem_cons.mpr ⟨lw_p79, fun _ h => absurd h List.not_mem_nil⟩⟩⟩⟩⟩⟩⟩⟩⟩⟩⟩⟩⟩⟩⟩⟩
def lw_privs : List (MethodName × Nat) := lw_privs_1 ++ (lw_privs_2 ++ (lw_privs_3 ++ (lw_privs_4 ++ (lw_privs_5))))
def lw_tbl : List Cond := k2_sels lw_privs ++ tables_1
theorem lw_privs_ok : ∀ q ∈ lw_privs, lw_okq q := by
  show ∀ q ∈ lw_privs_1 ++ (lw_privs_2 ++ (lw_privs_3 ++ (lw_privs_4 ++ (lw_privs_5)))), lw_okq q
  exact List.forall_mem_append.mpr ⟨lw_r1, List.forall_mem_append.mpr ⟨lw_r2, List.forall_mem_append.mpr ⟨lw_r3, List.forall_mem_append.mpr ⟨lw_r4, lw_r5⟩⟩⟩⟩
def RX0 : String := "ForkBridge$Block"
def TX0 : u_T := fun k => match k with
  | 0 => ("ForkBridge$Block", "number", "I", true)
  | 1 => ("ForkBridge$Block", "state", "LForkBridge$State;", true)
  | 2 => ("ForkBridge$Block", "height", "I", false)
  | 3 => ("ForkBridge$Block", "producer", "I", false)
  | 4 => ("ForkBridge$Block", "total", "I", false)
  | 5 => ("ForkBridge$Block", "base", "I", false)
  | 6 => ("ForkBridge$Block", "used", "I", false)
  | 7 => ("ForkBridge$Block", "results", "[I", true)
  | 8 => ("ForkBridge$Block", "resultCount", "I", false)
  | 9 => ("ForkBridge$Block", "events", "[I", true)
  | 10 => ("ForkBridge$Block", "eventCount", "I", false)
  | 11 => ("ForkBridge$Block", "bloom", "I", false)
  | 12 => ("ForkBridge$Block", "root", "I", false)
  | 13 => ("ForkBridge$Block", "dropped", "Z", false)
  | 14 => ("ForkBridge$Block", "justified", "Z", false)
  | 15 => ("ForkBridge$Block", "justifies", "I", false)
  | 16 => ("ForkBridge$Block", "line", "I", false)
  | _ => ("ForkBridge$Block", "held", "J", false)
def tyX0 : Nat → FieldType := fun k => match k with
  | 0 => .int
  | 1 => .object "ForkBridge$State"
  | 2 => .int
  | 3 => .int
  | 4 => .int
  | 5 => .int
  | 6 => .int
  | 7 => .array .int
  | 8 => .int
  | 9 => .array .int
  | 10 => .int
  | 11 => .int
  | 12 => .int
  | 13 => .boolean
  | 14 => .boolean
  | 15 => .int
  | 16 => .int
  | _ => .long
abbrev wsX00 : List Cond := u_ws RX0 TX0 18
theorem nmX0 : ∀ a, a < 18 → ∀ b, b < 18 → a ≠ b → (TX0 a).2.1 ≠ (TX0 b).2.1 := by decide +kernel
theorem tyX0_ok : ∀ k, k < 18 → parseFieldDescriptor (TX0 k).2.2.1 = some (tyX0 k) := by decide +kernel
abbrev cX0_init : ByteArray := prog_2_method_1_code
def yX0_init : MethodName := ⟨RX0, "<init>", "(I)V"⟩
abbrev cX0_becomeFirst : ByteArray := prog_2_method_2_code
def yX0_becomeFirst : MethodName := ⟨RX0, "becomeFirst", "()V"⟩
abbrev cX0_follow : ByteArray := prog_2_method_3_code
def yX0_follow : MethodName := ⟨RX0, "follow", "(LForkBridge$Block;II)V"⟩
abbrev cX0_imitate : ByteArray := prog_2_method_4_code
def yX0_imitate : MethodName := ⟨RX0, "imitate", "(LForkBridge$Block;)V"⟩
abbrev cX0_enter : ByteArray := prog_2_method_5_code
def yX0_enter : MethodName := ⟨RX0, "enter", "(IIZ)V"⟩
abbrev cX0_transactionIn : ByteArray := prog_2_method_6_code
def yX0_transactionIn : MethodName := ⟨RX0, "transactionIn", "(I)I"⟩
abbrev cX0_addEvent : ByteArray := prog_2_method_7_code
def yX0_addEvent : MethodName := ⟨RX0, "addEvent", "(II)V"⟩
abbrev cX0_seal : ByteArray := prog_2_method_8_code
def yX0_seal : MethodName := ⟨RX0, "seal", "()V"⟩
abbrev cX0_topicIn : ByteArray := prog_2_method_9_code
def yX0_topicIn : MethodName := ⟨RX0, "topicIn", "(I)I"⟩
abbrev cX0_comesFrom : ByteArray := prog_2_method_10_code
def yX0_comesFrom : MethodName := ⟨RX0, "comesFrom", "(LForkBridge$Block;)Z"⟩
abbrev cX0_holds : ByteArray := prog_2_method_11_code
def yX0_holds : MethodName := ⟨RX0, "holds", "(I)Z"⟩
abbrev cX0_hasBloomOf : ByteArray := prog_2_method_12_code
def yX0_hasBloomOf : MethodName := ⟨RX0, "hasBloomOf", "(I)Z"⟩
abbrev cX0_countEvents : ByteArray := prog_2_method_13_code
def yX0_countEvents : MethodName := ⟨RX0, "countEvents", "(I)I"⟩
abbrev cX0_bloomOf : ByteArray := prog_2_method_14_code
def yX0_bloomOf : MethodName := ⟨RX0, "bloomOf", "(I)I"⟩
def RX1 : String := "ForkBridge$Chain"
def TX1 : u_T := fun k => match k with
  | 0 => ("ForkBridge$Chain", "blocks", "[LForkBridge$Block;", true)
  | 1 => ("ForkBridge$Chain", "blockCount", "I", false)
  | 2 => ("ForkBridge$Chain", "transactions", "[LForkBridge$Transaction;", true)
  | 3 => ("ForkBridge$Chain", "transactionCount", "I", false)
  | 4 => ("ForkBridge$Chain", "upgradeHeight", "I", false)
  | _ => ("ForkBridge$Chain", "finality", "LForkBridge$Finality;", true)
def tyX1 : Nat → FieldType := fun k => match k with
  | 0 => .array (.object "ForkBridge$Block")
  | 1 => .int
  | 2 => .array (.object "ForkBridge$Transaction")
  | 3 => .int
  | 4 => .int
  | _ => .object "ForkBridge$Finality"
abbrev wsX10 : List Cond := u_ws RX1 TX1 6
theorem nmX1 : ∀ a, a < 6 → ∀ b, b < 6 → a ≠ b → (TX1 a).2.1 ≠ (TX1 b).2.1 := by decide +kernel
theorem tyX1_ok : ∀ k, k < 6 → parseFieldDescriptor (TX1 k).2.2.1 = some (tyX1 k) := by decide +kernel
abbrev cX1_init : ByteArray := prog_3_method_1_code
def yX1_init : MethodName := ⟨RX1, "<init>", "()V"⟩
abbrev cX1_numberedBlock : ByteArray := prog_3_method_2_code
def yX1_numberedBlock : MethodName := ⟨RX1, "numberedBlock", "(I)LForkBridge$Block;"⟩
abbrev cX1_numbered : ByteArray := prog_3_method_3_code
def yX1_numbered : MethodName := ⟨RX1, "numbered", "(I)LForkBridge$Transaction;"⟩
abbrev cX1_lastFinalBlock : ByteArray := prog_3_method_4_code
def yX1_lastFinalBlock : MethodName := ⟨RX1, "lastFinalBlock", "()LForkBridge$Block;"⟩
abbrev cX1_headBlock : ByteArray := prog_3_method_5_code
def yX1_headBlock : MethodName := ⟨RX1, "headBlock", "()LForkBridge$Block;"⟩
abbrev cX1_countWaiting : ByteArray := prog_3_method_6_code
def yX1_countWaiting : MethodName := ⟨RX1, "countWaiting", "()I"⟩
abbrev cX1_draft : ByteArray := prog_3_method_7_code
def yX1_draft : MethodName := ⟨RX1, "draft", "()LForkBridge$Transaction;"⟩
abbrev cX1_admit : ByteArray := prog_3_method_8_code
def yX1_admit : MethodName := ⟨RX1, "\x61dmit", "(LForkBridge$Transaction;)I"⟩
abbrev cX1_dropRivals : ByteArray := prog_3_method_9_code
def yX1_dropRivals : MethodName := ⟨RX1, "dropRivals", "(LForkBridge$Transaction;LForkBridge$Block;)V"⟩
abbrev cX1_throwOutFor : ByteArray := prog_3_method_10_code
def yX1_throwOutFor : MethodName := ⟨RX1, "throwOutFor", "(LForkBridge$Transaction;LForkBridge$Block;)Z"⟩
abbrev cX1_grow : ByteArray := prog_3_method_11_code
def yX1_grow : MethodName := ⟨RX1, "grow", "(LForkBridge$Machine;LForkBridge$Block;II)I"⟩
abbrev cX1_bestFor : ByteArray := prog_3_method_12_code
def yX1_bestFor : MethodName := ⟨RX1, "bestFor", "(LForkBridge$Block;)LForkBridge$Transaction;"⟩
abbrev cX1_isUpgraded : ByteArray := prog_3_method_13_code
def yX1_isUpgraded : MethodName := ⟨RX1, "isUpgraded", "(LForkBridge$Block;)Z"⟩
abbrev cX1_runAnew : ByteArray := prog_3_method_14_code
def yX1_runAnew : MethodName := ⟨RX1, "runAnew", "(LForkBridge$Machine;LForkBridge$Block;)I"⟩
abbrev cX1_search : ByteArray := prog_3_method_15_code
def yX1_search : MethodName := ⟨RX1, "search", "(I)I"⟩
abbrev cX1_dropLower : ByteArray := prog_3_method_16_code
def yX1_dropLower : MethodName := ⟨RX1, "dropLower", "()I"⟩
def RX2 : String := "ForkBridge$Finality"
def TX2 : u_T := fun k => match k with
  | 0 => ("ForkBridge$Finality", "validators", "[LForkBridge$Validator;", true)
  | _ => ("ForkBridge$Finality", "lastFinal", "I", false)
def tyX2 : Nat → FieldType := fun k => match k with
  | 0 => .array (.object "ForkBridge$Validator")
  | _ => .int
abbrev wsX20 : List Cond := u_ws RX2 TX2 2
theorem nmX2 : ∀ a, a < 2 → ∀ b, b < 2 → a ≠ b → (TX2 a).2.1 ≠ (TX2 b).2.1 := by decide +kernel
theorem tyX2_ok : ∀ k, k < 2 → parseFieldDescriptor (TX2 k).2.2.1 = some (tyX2 k) := by decide +kernel
abbrev cX2_init : ByteArray := prog_4_method_1_code
def yX2_init : MethodName := ⟨RX2, "<init>", "()V"⟩
abbrev cX2_validator : ByteArray := prog_4_method_2_code
def yX2_validator : MethodName := ⟨RX2, "validator", "(I)LForkBridge$Validator;"⟩
abbrev cX2_settle : ByteArray := prog_4_method_3_code
def yX2_settle : MethodName := ⟨RX2, "settle", "([LForkBridge$Block;)V"⟩
abbrev cX2_justifyOne : ByteArray := prog_4_method_4_code
def yX2_justifyOne : MethodName := ⟨RX2, "justifyOne", "([LForkBridge$Block;)Z"⟩
abbrev cX2_justify : ByteArray := prog_4_method_5_code
def yX2_justify : MethodName := ⟨RX2, "justify", "([LForkBridge$Block;LForkBridge$Vote;)Z"⟩
abbrev cX2_carries : ByteArray := prog_4_method_6_code
def yX2_carries : MethodName := ⟨RX2, "carries", "(LForkBridge$Vote;)Z"⟩
abbrev cX2_moveFinal : ByteArray := prog_4_method_7_code
def yX2_moveFinal : MethodName := ⟨RX2, "moveFinal", "([LForkBridge$Block;)V"⟩
abbrev cX2_justifiesNext : ByteArray := prog_4_method_8_code
def yX2_justifiesNext : MethodName := ⟨RX2, "justifiesNext", "([LForkBridge$Block;LForkBridge$Block;)Z"⟩
def RX3 : String := "ForkBridge$Frame"
def TX3 : u_T := fun k => match k with
  | 0 => ("ForkBridge$Frame", "heap", "[I", true)
  | 1 => ("ForkBridge$Frame", "size", "I", false)
  | 2 => ("ForkBridge$Frame", "memory", "[I", true)
  | 3 => ("ForkBridge$Frame", "highestCell", "I", false)
  | 4 => ("ForkBridge$Frame", "own", "I", false)
  | 5 => ("ForkBridge$Frame", "caller", "I", false)
  | 6 => ("ForkBridge$Frame", "value", "I", false)
  | 7 => ("ForkBridge$Frame", "input", "I", false)
  | 8 => ("ForkBridge$Frame", "program", "I", false)
  | 9 => ("ForkBridge$Frame", "next", "I", false)
  | 10 => ("ForkBridge$Frame", "gas", "I", false)
  | 11 => ("ForkBridge$Frame", "savedState", "LForkBridge$State;", true)
  | 12 => ("ForkBridge$Frame", "savedEvents", "I", false)
  | _ => ("ForkBridge$Frame", "savedRefund", "I", false)
def tyX3 : Nat → FieldType := fun k => match k with
  | 0 => .array .int
  | 1 => .int
  | 2 => .array .int
  | 3 => .int
  | 4 => .int
  | 5 => .int
  | 6 => .int
  | 7 => .int
  | 8 => .int
  | 9 => .int
  | 10 => .int
  | 11 => .object "ForkBridge$State"
  | 12 => .int
  | _ => .int
abbrev wsX30 : List Cond := u_ws RX3 TX3 14
theorem nmX3 : ∀ a, a < 14 → ∀ b, b < 14 → a ≠ b → (TX3 a).2.1 ≠ (TX3 b).2.1 := by decide +kernel
theorem tyX3_ok : ∀ k, k < 14 → parseFieldDescriptor (TX3 k).2.2.1 = some (tyX3 k) := by decide +kernel
abbrev cX3_init : ByteArray := prog_5_method_1_code
def yX3_init : MethodName := ⟨RX3, "<init>", "()V"⟩
abbrev cX3_open : ByteArray := prog_5_method_2_code
def yX3_open : MethodName := ⟨RX3, "open", "(IIIII)V"⟩
abbrev cX3_save : ByteArray := prog_5_method_3_code
def yX3_save : MethodName := ⟨RX3, "save", "(LForkBridge$State;II)V"⟩
abbrev cX3_heapAllows : ByteArray := prog_5_method_4_code
def yX3_heapAllows : MethodName := ⟨RX3, "heapAllows", "(I)Z"⟩
abbrev cX3_top : ByteArray := prog_5_method_5_code
def yX3_top : MethodName := ⟨RX3, "top", "()I"⟩
abbrev cX3_take : ByteArray := prog_5_method_6_code
def yX3_take : MethodName := ⟨RX3, "take", "()I"⟩
abbrev cX3_push : ByteArray := prog_5_method_7_code
def yX3_push : MethodName := ⟨RX3, "push", "(I)V"⟩
abbrev cX3_growthTo : ByteArray := prog_5_method_8_code
def yX3_growthTo : MethodName := ⟨RX3, "growthTo", "(I)I"⟩
abbrev cX3_memoryGas : ByteArray := prog_5_method_9_code
def yX3_memoryGas : MethodName := ⟨RX3, "memoryGas", "(I)I"⟩
abbrev cX3_reach : ByteArray := prog_5_method_10_code
def yX3_reach : MethodName := ⟨RX3, "reach", "(I)V"⟩
abbrev cX3_perform : ByteArray := prog_5_method_11_code
def yX3_perform : MethodName := ⟨RX3, "perform", "(II)V"⟩
abbrev cX3_calculate : ByteArray := prog_5_method_12_code
def yX3_calculate : MethodName := ⟨RX3, "calculate", "(I)V"⟩
def RX4 : String := "ForkBridge$Machine"
def TX4 : u_T := fun k => match k with
  | 0 => ("ForkBridge$Machine", "programs", "LForkBridge$Programs;", true)
  | 1 => ("ForkBridge$Machine", "frames", "[LForkBridge$Frame;", true)
  | 2 => ("ForkBridge$Machine", "bench", "LForkBridge$Block;", true)
  | 3 => ("ForkBridge$Machine", "block", "LForkBridge$Block;", false)
  | 4 => ("ForkBridge$Machine", "state", "LForkBridge$State;", false)
  | 5 => ("ForkBridge$Machine", "freshWriteGas", "I", false)
  | 6 => ("ForkBridge$Machine", "refund", "I", false)
  | 7 => ("ForkBridge$Machine", "gasUsed", "I", false)
  | _ => ("ForkBridge$Machine", "endedWell", "Z", false)
def tyX4 : Nat → FieldType := fun k => match k with
  | 0 => .object "ForkBridge$Programs"
  | 1 => .array (.object "ForkBridge$Frame")
  | 2 => .object "ForkBridge$Block"
  | 3 => .object "ForkBridge$Block"
  | 4 => .object "ForkBridge$State"
  | 5 => .int
  | 6 => .int
  | 7 => .int
  | _ => .boolean
abbrev wsX40 : List Cond := u_ws RX4 TX4 9
theorem nmX4 : ∀ a, a < 9 → ∀ b, b < 9 → a ≠ b → (TX4 a).2.1 ≠ (TX4 b).2.1 := by decide +kernel
theorem tyX4_ok : ∀ k, k < 9 → parseFieldDescriptor (TX4 k).2.2.1 = some (tyX4 k) := by decide +kernel
abbrev cX4_init : ByteArray := prog_6_method_1_code
def yX4_init : MethodName := ⟨RX4, "<init>", "(LForkBridge$Programs;)V"⟩
abbrev cX4_open : ByteArray := prog_6_method_2_code
def yX4_open : MethodName := ⟨RX4, "open", "(LForkBridge$Block;Z)V"⟩
abbrev cX4_transact : ByteArray := prog_6_method_3_code
def yX4_transact : MethodName := ⟨RX4, "transact", "(LForkBridge$Transaction;)V"⟩
abbrev cX4_settleGas : ByteArray := prog_6_method_4_code
def yX4_settleGas : MethodName := ⟨RX4, "settleGas", "(LForkBridge$Transaction;II)V"⟩
abbrev cX4_payOut : ByteArray := prog_6_method_5_code
def yX4_payOut : MethodName := ⟨RX4, "payOut", "(LForkBridge$Transaction;)Z"⟩
abbrev cX4_found : ByteArray := prog_6_method_6_code
def yX4_found : MethodName := ⟨RX4, "found", "(IIII)I"⟩
abbrev cX4_deliver : ByteArray := prog_6_method_7_code
def yX4_deliver : MethodName := ⟨RX4, "deliver", "(IIIIII)Z"⟩
abbrev cX4_undo : ByteArray := prog_6_method_8_code
def yX4_undo : MethodName := ⟨RX4, "undo", "(LForkBridge$Frame;)V"⟩
abbrev cX4_runProgram : ByteArray := prog_6_method_9_code
def yX4_runProgram : MethodName := ⟨RX4, "runProgram", "(ILForkBridge$Frame;)Z"⟩
abbrev cX4_extraGas : ByteArray := prog_6_method_10_code
def yX4_extraGas : MethodName := ⟨RX4, "extraGas", "(LForkBridge$Frame;II)I"⟩
abbrev cX4_finish : ByteArray := prog_6_method_11_code
def yX4_finish : MethodName := ⟨RX4, "finish", "(LForkBridge$Frame;I)Z"⟩
abbrev cX4_touchState : ByteArray := prog_6_method_12_code
def yX4_touchState : MethodName := ⟨RX4, "touchState", "(LForkBridge$Frame;II)Z"⟩
abbrev cX4_write : ByteArray := prog_6_method_13_code
def yX4_write : MethodName := ⟨RX4, "write", "(II)V"⟩
abbrev cX4_callFrom : ByteArray := prog_6_method_14_code
def yX4_callFrom : MethodName := ⟨RX4, "callFrom", "(ILForkBridge$Frame;)V"⟩
abbrev cX4_makeFrom : ByteArray := prog_6_method_15_code
def yX4_makeFrom : MethodName := ⟨RX4, "makeFrom", "(LForkBridge$Frame;I)V"⟩
def RX5 : String := "ForkBridge$Programs"
def TX5 : u_T := fun k => match k with
  | 0 => ("ForkBridge$Programs", "operations", "[I", true)
  | 1 => ("ForkBridge$Programs", "arguments", "[I", true)
  | _ => ("ForkBridge$Programs", "lengths", "[I", true)
def tyX5 : Nat → FieldType := fun k => match k with
  | 0 => .array .int
  | 1 => .array .int
  | _ => .array .int
abbrev wsX50 : List Cond := u_ws RX5 TX5 3
theorem nmX5 : ∀ a, a < 3 → ∀ b, b < 3 → a ≠ b → (TX5 a).2.1 ≠ (TX5 b).2.1 := by decide +kernel
theorem tyX5_ok : ∀ k, k < 3 → parseFieldDescriptor (TX5 k).2.2.1 = some (tyX5 k) := by decide +kernel
abbrev cX5_init : ByteArray := prog_7_method_1_code
def yX5_init : MethodName := ⟨RX5, "<init>", "()V"⟩
abbrev cX5_lengthOf : ByteArray := prog_7_method_2_code
def yX5_lengthOf : MethodName := ⟨RX5, "lengthOf", "(I)I"⟩
abbrev cX5_operationAt : ByteArray := prog_7_method_3_code
def yX5_operationAt : MethodName := ⟨RX5, "operationAt", "(II)I"⟩
abbrev cX5_argumentAt : ByteArray := prog_7_method_4_code
def yX5_argumentAt : MethodName := ⟨RX5, "argumentAt", "(II)I"⟩
abbrev cX5_append : ByteArray := prog_7_method_5_code
def yX5_append : MethodName := ⟨RX5, "append", "(III)I"⟩
def RX6 : String := "ForkBridge$State"
def TX6 : u_T := fun k => match k with
  | 0 => ("ForkBridge$State", "coins", "[I", true)
  | 1 => ("ForkBridge$State", "nonces", "[I", true)
  | 2 => ("ForkBridge$State", "codes", "[I", true)
  | 3 => ("ForkBridge$State", "slots", "[I", true)
  | 4 => ("ForkBridge$State", "burned", "I", false)
  | _ => ("ForkBridge$State", "paid", "J", false)
def tyX6 : Nat → FieldType := fun k => match k with
  | 0 => .array .int
  | 1 => .array .int
  | 2 => .array .int
  | 3 => .array .int
  | 4 => .int
  | _ => .long
abbrev wsX60 : List Cond := u_ws RX6 TX6 6
theorem nmX6 : ∀ a, a < 6 → ∀ b, b < 6 → a ≠ b → (TX6 a).2.1 ≠ (TX6 b).2.1 := by decide +kernel
theorem tyX6_ok : ∀ k, k < 6 → parseFieldDescriptor (TX6 k).2.2.1 = some (tyX6 k) := by decide +kernel
abbrev cX6_init : ByteArray := prog_8_method_1_code
def yX6_init : MethodName := ⟨RX6, "<init>", "()V"⟩
abbrev cX6_becomeFirst : ByteArray := prog_8_method_2_code
def yX6_becomeFirst : MethodName := ⟨RX6, "becomeFirst", "()V"⟩
abbrev cX6_copyFrom : ByteArray := prog_8_method_3_code
def yX6_copyFrom : MethodName := ⟨RX6, "copyFrom", "(LForkBridge$State;)V"⟩
abbrev cX6_gain : ByteArray := prog_8_method_4_code
def yX6_gain : MethodName := ⟨RX6, "gain", "(II)V"⟩
abbrev cX6_move : ByteArray := prog_8_method_5_code
def yX6_move : MethodName := ⟨RX6, "move", "(III)V"⟩
abbrev cX6_raiseNonce : ByteArray := prog_8_method_6_code
def yX6_raiseNonce : MethodName := ⟨RX6, "raiseNonce", "(I)V"⟩
abbrev cX6_dropProgram : ByteArray := prog_8_method_7_code
def yX6_dropProgram : MethodName := ⟨RX6, "dropProgram", "(I)V"⟩
abbrev cX6_isPaid : ByteArray := prog_8_method_8_code
def yX6_isPaid : MethodName := ⟨RX6, "isPaid", "(I)Z"⟩
abbrev cX6_leafOf : ByteArray := prog_8_method_9_code
def yX6_leafOf : MethodName := ⟨RX6, "leafOf", "(I)I"⟩
def RX7 : String := "ForkBridge$Transaction"
def TX7 : u_T := fun k => match k with
  | 0 => ("ForkBridge$Transaction", "number", "I", true)
  | 1 => ("ForkBridge$Transaction", "sender", "I", false)
  | 2 => ("ForkBridge$Transaction", "nonce", "I", false)
  | 3 => ("ForkBridge$Transaction", "target", "I", false)
  | 4 => ("ForkBridge$Transaction", "value", "I", false)
  | 5 => ("ForkBridge$Transaction", "input", "I", false)
  | 6 => ("ForkBridge$Transaction", "gas", "I", false)
  | 7 => ("ForkBridge$Transaction", "most", "I", false)
  | 8 => ("ForkBridge$Transaction", "tip", "I", false)
  | 9 => ("ForkBridge$Transaction", "lock", "I", false)
  | 10 => ("ForkBridge$Transaction", "lockedValue", "I", false)
  | 11 => ("ForkBridge$Transaction", "payee", "I", false)
  | _ => ("ForkBridge$Transaction", "live", "Z", false)
def tyX7 : Nat → FieldType := fun k => match k with
  | 0 => .int
  | 1 => .int
  | 2 => .int
  | 3 => .int
  | 4 => .int
  | 5 => .int
  | 6 => .int
  | 7 => .int
  | 8 => .int
  | 9 => .int
  | 10 => .int
  | 11 => .int
  | _ => .boolean
abbrev wsX70 : List Cond := u_ws RX7 TX7 13
theorem nmX7 : ∀ a, a < 13 → ∀ b, b < 13 → a ≠ b → (TX7 a).2.1 ≠ (TX7 b).2.1 := by decide +kernel
theorem tyX7_ok : ∀ k, k < 13 → parseFieldDescriptor (TX7 k).2.2.1 = some (tyX7 k) := by decide +kernel
abbrev cX7_init : ByteArray := prog_9_method_1_code
def yX7_init : MethodName := ⟨RX7, "<init>", "(I)V"⟩
abbrev cX7_order : ByteArray := prog_9_method_2_code
def yX7_order : MethodName := ⟨RX7, "order", "(IIIIII)V"⟩
abbrev cX7_bid : ByteArray := prog_9_method_3_code
def yX7_bid : MethodName := ⟨RX7, "bid", "(II)V"⟩
abbrev cX7_nameLock : ByteArray := prog_9_method_4_code
def yX7_nameLock : MethodName := ⟨RX7, "nameLock", "(LForkBridge$Transaction;)V"⟩
abbrev cX7_isLock : ByteArray := prog_9_method_5_code
def yX7_isLock : MethodName := ⟨RX7, "isLock", "()Z"⟩
abbrev cX7_rivals : ByteArray := prog_9_method_6_code
def yX7_rivals : MethodName := ⟨RX7, "rivals", "(LForkBridge$Transaction;)Z"⟩
abbrev cX7_outbids : ByteArray := prog_9_method_7_code
def yX7_outbids : MethodName := ⟨RX7, "outbids", "(LForkBridge$Transaction;)Z"⟩
abbrev cX7_waitsBehind : ByteArray := prog_9_method_8_code
def yX7_waitsBehind : MethodName := ⟨RX7, "waitsBehind", "(LForkBridge$Block;)Z"⟩
abbrev cX7_priceAt : ByteArray := prog_9_method_9_code
def yX7_priceAt : MethodName := ⟨RX7, "priceAt", "(I)I"⟩
abbrev cX7_fits : ByteArray := prog_9_method_10_code
def yX7_fits : MethodName := ⟨RX7, "fits", "(LForkBridge$Block;)Z"⟩
def RX8 : String := "ForkBridge$Validator"
def TX8 : u_T := fun k => match k with
  | 0 => ("ForkBridge$Validator", "votes", "[LForkBridge$Vote;", true)
  | 1 => ("ForkBridge$Validator", "voteCount", "I", false)
  | _ => ("ForkBridge$Validator", "punished", "Z", false)
def tyX8 : Nat → FieldType := fun k => match k with
  | 0 => .array (.object "ForkBridge$Vote")
  | 1 => .int
  | _ => .boolean
abbrev wsX80 : List Cond := u_ws RX8 TX8 3
theorem nmX8 : ∀ a, a < 3 → ∀ b, b < 3 → a ≠ b → (TX8 a).2.1 ≠ (TX8 b).2.1 := by decide +kernel
theorem tyX8_ok : ∀ k, k < 3 → parseFieldDescriptor (TX8 k).2.2.1 = some (tyX8 k) := by decide +kernel
abbrev cX8_init : ByteArray := prog_10_method_1_code
def yX8_init : MethodName := ⟨RX8, "<init>", "()V"⟩
abbrev cX8_stakeNow : ByteArray := prog_10_method_2_code
def yX8_stakeNow : MethodName := ⟨RX8, "stakeNow", "()I"⟩
abbrev cX8_countingVotes : ByteArray := prog_10_method_3_code
def yX8_countingVotes : MethodName := ⟨RX8, "countingVotes", "()I"⟩
abbrev cX8_voteAt : ByteArray := prog_10_method_4_code
def yX8_voteAt : MethodName := ⟨RX8, "voteAt", "(I)LForkBridge$Vote;"⟩
abbrev cX8_give : ByteArray := prog_10_method_5_code
def yX8_give : MethodName := ⟨RX8, "give", "(LForkBridge$Block;LForkBridge$Block;)Z"⟩
abbrev cX8_supports : ByteArray := prog_10_method_6_code
def yX8_supports : MethodName := ⟨RX8, "supports", "(LForkBridge$Vote;)Z"⟩
def RX9 : String := "ForkBridge$Vote"
def TX9 : u_T := fun k => match k with
  | 0 => ("ForkBridge$Vote", "source", "I", false)
  | 1 => ("ForkBridge$Vote", "target", "I", false)
  | 2 => ("ForkBridge$Vote", "sourceHeight", "I", false)
  | _ => ("ForkBridge$Vote", "targetHeight", "I", false)
def tyX9 : Nat → FieldType := fun k => match k with
  | 0 => .int
  | 1 => .int
  | 2 => .int
  | _ => .int
abbrev wsX90 : List Cond := u_ws RX9 TX9 4
theorem nmX9 : ∀ a, a < 4 → ∀ b, b < 4 → a ≠ b → (TX9 a).2.1 ≠ (TX9 b).2.1 := by decide +kernel
theorem tyX9_ok : ∀ k, k < 4 → parseFieldDescriptor (TX9 k).2.2.1 = some (tyX9 k) := by decide +kernel
abbrev cX9_init : ByteArray := prog_11_method_1_code
def yX9_init : MethodName := ⟨RX9, "<init>", "()V"⟩
abbrev cX9_become : ByteArray := prog_11_method_2_code
def yX9_become : MethodName := ⟨RX9, "become", "(LForkBridge$Block;LForkBridge$Block;)V"⟩
abbrev cX9_clashesWith : ByteArray := prog_11_method_3_code
def yX9_clashesWith : MethodName := ⟨RX9, "clashesWith", "(LForkBridge$Vote;)Z"⟩
abbrev cX9_surrounds : ByteArray := prog_11_method_4_code
def yX9_surrounds : MethodName := ⟨RX9, "surrounds", "(LForkBridge$Vote;)Z"⟩
def RX10 : String := "ForkBridge"
def TX10 : u_T := fun k => match k with
  | 0 => ("ForkBridge", "programs", "LForkBridge$Programs;", true)
  | 1 => ("ForkBridge", "machine", "LForkBridge$Machine;", true)
  | _ => ("ForkBridge", "chains", "[LForkBridge$Chain;", true)
def tyX10 : Nat → FieldType := fun k => match k with
  | 0 => .object "ForkBridge$Programs"
  | 1 => .object "ForkBridge$Machine"
  | _ => .array (.object "ForkBridge$Chain")
abbrev wsX100 : List Cond := u_ws RX10 TX10 3
theorem nmX10 : ∀ a, a < 3 → ∀ b, b < 3 → a ≠ b → (TX10 a).2.1 ≠ (TX10 b).2.1 := by decide +kernel
theorem tyX10_ok : ∀ k, k < 3 → parseFieldDescriptor (TX10 k).2.2.1 = some (tyX10 k) := by decide +kernel
abbrev cX10_init : ByteArray := prog_1_method_1_code
def yX10_init : MethodName := ⟨RX10, "<init>", "()V"⟩
abbrev cX10_step : ByteArray := prog_1_method_2_code
def yX10_step : MethodName := ⟨RX10, "step", "(III)I"⟩
abbrev cX10_upgrade : ByteArray := prog_1_method_3_code
def yX10_upgrade : MethodName := ⟨RX10, "upgrade", "(II)I"⟩
abbrev cX10_submit : ByteArray := prog_1_method_4_code
def yX10_submit : MethodName := ⟨RX10, "submit", "(IIIIIIIII)I"⟩
abbrev cX10_claim : ByteArray := prog_1_method_5_code
def yX10_claim : MethodName := ⟨RX10, "claim", "(IIIIII)I"⟩
abbrev cX10_pool : ByteArray := prog_1_method_6_code
def yX10_pool : MethodName := ⟨RX10, "pool", "(I)I"⟩
abbrev cX10_make : ByteArray := prog_1_method_7_code
def yX10_make : MethodName := ⟨RX10, "make", "(IIII)I"⟩
abbrev cX10_head : ByteArray := prog_1_method_8_code
def yX10_head : MethodName := ⟨RX10, "head", "(I)I"⟩
abbrev cX10_base : ByteArray := prog_1_method_9_code
def yX10_base : MethodName := ⟨RX10, "base", "(II)I"⟩
abbrev cX10_used : ByteArray := prog_1_method_10_code
def yX10_used : MethodName := ⟨RX10, "used", "(II)I"⟩
abbrev cX10_transactionAt : ByteArray := prog_1_method_11_code
def yX10_transactionAt : MethodName := ⟨RX10, "transactionAt", "(III)I"⟩
abbrev cX10_eventAt : ByteArray := prog_1_method_12_code
def yX10_eventAt : MethodName := ⟨RX10, "eventAt", "(III)I"⟩
abbrev cX10_bloom : ByteArray := prog_1_method_13_code
def yX10_bloom : MethodName := ⟨RX10, "bloom", "(II)I"⟩
abbrev cX10_find : ByteArray := prog_1_method_14_code
def yX10_find : MethodName := ⟨RX10, "find", "(II)I"⟩
abbrev cX10_coins : ByteArray := prog_1_method_15_code
def yX10_coins : MethodName := ⟨RX10, "coins", "(III)I"⟩
abbrev cX10_codeOf : ByteArray := prog_1_method_16_code
def yX10_codeOf : MethodName := ⟨RX10, "codeOf", "(III)I"⟩
abbrev cX10_slot : ByteArray := prog_1_method_17_code
def yX10_slot : MethodName := ⟨RX10, "slot", "(IIII)I"⟩
abbrev cX10_burned : ByteArray := prog_1_method_18_code
def yX10_burned : MethodName := ⟨RX10, "burned", "(II)I"⟩
abbrev cX10_root : ByteArray := prog_1_method_19_code
def yX10_root : MethodName := ⟨RX10, "root", "(II)I"⟩
abbrev cX10_rootAnew : ByteArray := prog_1_method_20_code
def yX10_rootAnew : MethodName := ⟨RX10, "rootAnew", "(II)I"⟩
abbrev cX10_leaf : ByteArray := prog_1_method_21_code
def yX10_leaf : MethodName := ⟨RX10, "leaf", "(III)I"⟩
abbrev cX10_proof : ByteArray := prog_1_method_22_code
def yX10_proof : MethodName := ⟨RX10, "proof", "(IIII)I"⟩
abbrev cX10_proves : ByteArray := prog_1_method_23_code
def yX10_proves : MethodName := ⟨RX10, "proves", "(IIIIIIII)Z"⟩
abbrev cX10_prune : ByteArray := prog_1_method_24_code
def yX10_prune : MethodName := ⟨RX10, "prune", "(I)I"⟩
abbrev cX10_vote : ByteArray := prog_1_method_25_code
def yX10_vote : MethodName := ⟨RX10, "vote", "(IIII)Z"⟩
abbrev cX10_isJustified : ByteArray := prog_1_method_26_code
def yX10_isJustified : MethodName := ⟨RX10, "isJustified", "(II)Z"⟩
abbrev cX10_lastFinal : ByteArray := prog_1_method_27_code
def yX10_lastFinal : MethodName := ⟨RX10, "lastFinal", "(I)I"⟩
abbrev cX10_stake : ByteArray := prog_1_method_28_code
def yX10_stake : MethodName := ⟨RX10, "stake", "(II)I"⟩
abbrev cX10_demandIndex : ByteArray := prog_1_method_29_code
def yX10_demandIndex : MethodName := ⟨RX10, "demandIndex", "(II)V"⟩
abbrev cX10_demandArgument : ByteArray := prog_1_method_30_code
def yX10_demandArgument : MethodName := ⟨RX10, "demandArgument", "(Z)V"⟩
abbrev cX10_demandRange : ByteArray := prog_1_method_31_code
def yX10_demandRange : MethodName := ⟨RX10, "demandRange", "(III)V"⟩
abbrev cX10_demandState : ByteArray := prog_1_method_32_code
def yX10_demandState : MethodName := ⟨RX10, "demandState", "(Z)V"⟩
abbrev cX10_demandChain : ByteArray := prog_1_method_33_code
def yX10_demandChain : MethodName := ⟨RX10, "demandChain", "(I)LForkBridge$Chain;"⟩
abbrev cX10_demandBlock : ByteArray := prog_1_method_34_code
def yX10_demandBlock : MethodName := ⟨RX10, "demandBlock", "(II)LForkBridge$Block;"⟩
abbrev cX10_demandState_ : ByteArray := prog_1_method_35_code
def yX10_demandState_ : MethodName := ⟨RX10, "demandState", "(III)LForkBridge$State;"⟩
abbrev cX10_at : ByteArray := prog_1_method_36_code
def yX10_at : MethodName := ⟨RX10, "at", "([II)I"⟩
abbrev cX10_put : ByteArray := prog_1_method_37_code
def yX10_put : MethodName := ⟨RX10, "put", "([III)V"⟩
abbrev cX10_mix : ByteArray := prog_1_method_38_code
def yX10_mix : MethodName := ⟨RX10, "mix", "(II)I"⟩
abbrev cX10_join : ByteArray := prog_1_method_39_code
def yX10_join : MethodName := ⟨RX10, "join", "(III)I"⟩
abbrev cX10_nodeOver : ByteArray := prog_1_method_40_code
def yX10_nodeOver : MethodName := ⟨RX10, "nodeOver", "(LForkBridge$State;II)I"⟩
def RX11 : String := "ForkBridgeModel"
def TX11 : u_T := fun k => match k with
  | 0 => ("ForkBridgeModel", "states", "[I", true)
  | 1 => ("ForkBridgeModel", "cur", "[I", true)
  | 2 => ("ForkBridgeModel", "snaps", "[I", true)
  | 3 => ("ForkBridgeModel", "ops", "[I", true)
  | 4 => ("ForkBridgeModel", "args", "[I", true)
  | 5 => ("ForkBridgeModel", "steps", "[I", true)
  | 6 => ("ForkBridgeModel", "isBegun", "Z", false)
  | 7 => ("ForkBridgeModel", "ups", "[I", true)
  | 8 => ("ForkBridgeModel", "txs", "[I", true)
  | 9 => ("ForkBridgeModel", "blocks", "[I", true)
  | 10 => ("ForkBridgeModel", "fin", "[I", true)
  | 11 => ("ForkBridgeModel", "ts", "[I", true)
  | 12 => ("ForkBridgeModel", "tn", "[I", true)
  | 13 => ("ForkBridgeModel", "tt", "[I", true)
  | 14 => ("ForkBridgeModel", "tv", "[I", true)
  | 15 => ("ForkBridgeModel", "ti", "[I", true)
  | 16 => ("ForkBridgeModel", "tg", "[I", true)
  | 17 => ("ForkBridgeModel", "tm", "[I", true)
  | 18 => ("ForkBridgeModel", "tp", "[I", true)
  | 19 => ("ForkBridgeModel", "out", "[I", true)
  | 20 => ("ForkBridgeModel", "bp", "[I", true)
  | 21 => ("ForkBridgeModel", "bh", "[I", true)
  | 22 => ("ForkBridgeModel", "br", "[I", true)
  | 23 => ("ForkBridgeModel", "bw", "[J", true)
  | 24 => ("ForkBridgeModel", "bb", "[I", true)
  | 25 => ("ForkBridgeModel", "bu", "[I", true)
  | 26 => ("ForkBridgeModel", "bd", "[I", true)
  | 27 => ("ForkBridgeModel", "bo", "[I", true)
  | 28 => ("ForkBridgeModel", "bm", "[I", true)
  | 29 => ("ForkBridgeModel", "bt", "[I", true)
  | 30 => ("ForkBridgeModel", "be", "[I", true)
  | 31 => ("ForkBridgeModel", "rows", "[I", true)
  | 32 => ("ForkBridgeModel", "events", "[I", true)
  | 33 => ("ForkBridgeModel", "just", "[I", true)
  | 34 => ("ForkBridgeModel", "pair", "[I", true)
  | 35 => ("ForkBridgeModel", "vs", "[I", true)
  | 36 => ("ForkBridgeModel", "vt", "[I", true)
  | 37 => ("ForkBridgeModel", "vc", "[I", true)
  | 38 => ("ForkBridgeModel", "votes", "[I", true)
  | 39 => ("ForkBridgeModel", "stakes", "[I", true)
  | 40 => ("ForkBridgeModel", "ca", "[I", true)
  | 41 => ("ForkBridgeModel", "cc", "[I", true)
  | 42 => ("ForkBridgeModel", "cv", "[I", true)
  | 43 => ("ForkBridgeModel", "ci", "[I", true)
  | 44 => ("ForkBridgeModel", "cg", "[I", true)
  | 45 => ("ForkBridgeModel", "cp", "[I", true)
  | 46 => ("ForkBridgeModel", "cs", "[I", true)
  | 47 => ("ForkBridgeModel", "heap", "[I", true)
  | 48 => ("ForkBridgeModel", "heaps", "[I", true)
  | 49 => ("ForkBridgeModel", "mem", "[I", true)
  | 50 => ("ForkBridgeModel", "high", "[I", true)
  | 51 => ("ForkBridgeModel", "backs", "[I", true)
  | 52 => ("ForkBridgeModel", "befores", "[I", true)
  | 53 => ("ForkBridgeModel", "depth", "I", false)
  | 54 => ("ForkBridgeModel", "back", "I", false)
  | 55 => ("ForkBridgeModel", "leftGas", "I", false)
  | 56 => ("ForkBridgeModel", "isWell", "Z", false)
  | 57 => ("ForkBridgeModel", "chain", "I", false)
  | 58 => ("ForkBridgeModel", "block", "I", false)
  | 59 => ("ForkBridgeModel", "leaves", "[I", true)
  | _ => ("ForkBridgeModel", "thrown", "I", false)
def tyX11 : Nat → FieldType := fun k => match k with
  | 0 => .array .int
  | 1 => .array .int
  | 2 => .array .int
  | 3 => .array .int
  | 4 => .array .int
  | 5 => .array .int
  | 6 => .boolean
  | 7 => .array .int
  | 8 => .array .int
  | 9 => .array .int
  | 10 => .array .int
  | 11 => .array .int
  | 12 => .array .int
  | 13 => .array .int
  | 14 => .array .int
  | 15 => .array .int
  | 16 => .array .int
  | 17 => .array .int
  | 18 => .array .int
  | 19 => .array .int
  | 20 => .array .int
  | 21 => .array .int
  | 22 => .array .int
  | 23 => .array .long
  | 24 => .array .int
  | 25 => .array .int
  | 26 => .array .int
  | 27 => .array .int
  | 28 => .array .int
  | 29 => .array .int
  | 30 => .array .int
  | 31 => .array .int
  | 32 => .array .int
  | 33 => .array .int
  | 34 => .array .int
  | 35 => .array .int
  | 36 => .array .int
  | 37 => .array .int
  | 38 => .array .int
  | 39 => .array .int
  | 40 => .array .int
  | 41 => .array .int
  | 42 => .array .int
  | 43 => .array .int
  | 44 => .array .int
  | 45 => .array .int
  | 46 => .array .int
  | 47 => .array .int
  | 48 => .array .int
  | 49 => .array .int
  | 50 => .array .int
  | 51 => .array .int
  | 52 => .array .int
  | 53 => .int
  | 54 => .int
  | 55 => .int
  | 56 => .boolean
  | 57 => .int
  | 58 => .int
  | 59 => .array .int
  | _ => .int
abbrev wsX110 : List Cond := u_ws RX11 TX11 61
theorem nmX11 : ∀ a, a < 61 → ∀ b, b < 61 → a ≠ b → (TX11 a).2.1 ≠ (TX11 b).2.1 := by decide +kernel
theorem tyX11_ok : ∀ k, k < 61 → parseFieldDescriptor (TX11 k).2.2.1 = some (tyX11 k) := by decide +kernel
abbrev cX11_init : ByteArray := prog_13_method_1_code
def yX11_init : MethodName := ⟨RX11, "<init>", "()V"⟩
abbrev cX11_thrown : ByteArray := prog_13_method_2_code
def yX11_thrown : MethodName := ⟨RX11, "thrown", "()I"⟩
abbrev cX11_holds : ByteArray := prog_13_method_3_code
def yX11_holds : MethodName := ⟨RX11, "holds", "(I)Z"⟩
abbrev cX11_in : ByteArray := prog_13_method_4_code
def yX11_in : MethodName := ⟨RX11, "in", "(III)Z"⟩
abbrev cX11_isChain : ByteArray := prog_13_method_5_code
def yX11_isChain : MethodName := ⟨RX11, "isChain", "(I)Z"⟩
abbrev cX11_isBlock : ByteArray := prog_13_method_6_code
def yX11_isBlock : MethodName := ⟨RX11, "isBlock", "(II)Z"⟩
abbrev cX11_isTx : ByteArray := prog_13_method_7_code
def yX11_isTx : MethodName := ⟨RX11, "isTx", "(II)Z"⟩
abbrev cX11_mix : ByteArray := prog_13_method_8_code
def yX11_mix : MethodName := ⟨RX11, "mix", "(JJ)I"⟩
abbrev cX11_leafOf : ByteArray := prog_13_method_9_code
def yX11_leafOf : MethodName := ⟨RX11, "leafOf", "(II)I"⟩
abbrev cX11_rootOf : ByteArray := prog_13_method_10_code
def yX11_rootOf : MethodName := ⟨RX11, "rootOf", "(I)I"⟩
abbrev cX11_fold : ByteArray := prog_13_method_11_code
def yX11_fold : MethodName := ⟨RX11, "fold", "(I)V"⟩
abbrev cX11_most : ByteArray := prog_13_method_12_code
def yX11_most : MethodName := ⟨RX11, "most", "(I)I"⟩
abbrev cX11_step : ByteArray := prog_13_method_13_code
def yX11_step : MethodName := ⟨RX11, "step", "(III)I"⟩
abbrev cX11_upgrade : ByteArray := prog_13_method_14_code
def yX11_upgrade : MethodName := ⟨RX11, "upgrade", "(II)I"⟩
abbrev cX11_isIn : ByteArray := prog_13_method_15_code
def yX11_isIn : MethodName := ⟨RX11, "isIn", "(III)Z"⟩
abbrev cX11_pooled : ByteArray := prog_13_method_16_code
def yX11_pooled : MethodName := ⟨RX11, "pooled", "(III)Z"⟩
abbrev cX11_size : ByteArray := prog_13_method_17_code
def yX11_size : MethodName := ⟨RX11, "size", "(I)I"⟩
abbrev cX11_enter : ByteArray := prog_13_method_18_code
def yX11_enter : MethodName := ⟨RX11, "enter", "(IIIIIIIII)I"⟩
abbrev cX11_submit : ByteArray := prog_13_method_19_code
def yX11_submit : MethodName := ⟨RX11, "submit", "(IIIIIIIII)I"⟩
abbrev cX11_claim : ByteArray := prog_13_method_20_code
def yX11_claim : MethodName := ⟨RX11, "claim", "(IIIIII)I"⟩
abbrev cX11_pool : ByteArray := prog_13_method_21_code
def yX11_pool : MethodName := ⟨RX11, "pool", "(I)I"⟩
abbrev cX11_copyIn : ByteArray := prog_13_method_22_code
def yX11_copyIn : MethodName := ⟨RX11, "copyIn", "(I)V"⟩
abbrev cX11_snap : ByteArray := prog_13_method_23_code
def yX11_snap : MethodName := ⟨RX11, "snap", "(I)V"⟩
abbrev cX11_undo : ByteArray := prog_13_method_24_code
def yX11_undo : MethodName := ⟨RX11, "undo", "(I)V"⟩
abbrev cX11_begin : ByteArray := prog_13_method_25_code
def yX11_begin : MethodName := ⟨RX11, "begin", "(IIIII)V"⟩
abbrev cX11_mark : ByteArray := prog_13_method_26_code
def yX11_mark : MethodName := ⟨RX11, "mark", "(I)V"⟩
abbrev cX11_undone : ByteArray := prog_13_method_27_code
def yX11_undone : MethodName := ⟨RX11, "undone", "(I)V"⟩
abbrev cX11_need : ByteArray := prog_13_method_28_code
def yX11_need : MethodName := ⟨RX11, "need", "(I)I"⟩
abbrev cX11_grows : ByteArray := prog_13_method_29_code
def yX11_grows : MethodName := ⟨RX11, "grows", "(I)I"⟩
abbrev cX11_square : ByteArray := prog_13_method_30_code
def yX11_square : MethodName := ⟨RX11, "square", "(I)I"⟩
abbrev cX11_cost : ByteArray := prog_13_method_31_code
def yX11_cost : MethodName := ⟨RX11, "cost", "(III)I"⟩
abbrev cX11_pop : ByteArray := prog_13_method_32_code
def yX11_pop : MethodName := ⟨RX11, "pop", "(I)I"⟩
abbrev cX11_push : ByteArray := prog_13_method_33_code
def yX11_push : MethodName := ⟨RX11, "push", "(II)V"⟩
abbrev cX11_finish : ByteArray := prog_13_method_34_code
def yX11_finish : MethodName := ⟨RX11, "finish", "(ZI)V"⟩
abbrev cX11_reckoned : ByteArray := prog_13_method_35_code
def yX11_reckoned : MethodName := ⟨RX11, "reckoned", "(III)I"⟩
abbrev cX11_move : ByteArray := prog_13_method_36_code
def yX11_move : MethodName := ⟨RX11, "move", "(III)V"⟩
abbrev cX11_address : ByteArray := prog_13_method_37_code
def yX11_address : MethodName := ⟨RX11, "address", "(II)I"⟩
abbrev cX11_made : ByteArray := prog_13_method_38_code
def yX11_made : MethodName := ⟨RX11, "made", "(IIII)I"⟩
abbrev cX11_calls : ByteArray := prog_13_method_39_code
def yX11_calls : MethodName := ⟨RX11, "calls", "(I)V"⟩
abbrev cX11_ends : ByteArray := prog_13_method_40_code
def yX11_ends : MethodName := ⟨RX11, "ends", "(I)V"⟩
abbrev cX11_writes : ByteArray := prog_13_method_41_code
def yX11_writes : MethodName := ⟨RX11, "writes", "(II)V"⟩
abbrev cX11_logs : ByteArray := prog_13_method_42_code
def yX11_logs : MethodName := ⟨RX11, "logs", "(I)V"⟩
abbrev cX11_makes : ByteArray := prog_13_method_43_code
def yX11_makes : MethodName := ⟨RX11, "makes", "(II)V"⟩
abbrev cX11_cells : ByteArray := prog_13_method_44_code
def yX11_cells : MethodName := ⟨RX11, "cells", "(III)V"⟩
abbrev cX11_does : ByteArray := prog_13_method_45_code
def yX11_does : MethodName := ⟨RX11, "does", "(III)V"⟩
abbrev cX11_machine : ByteArray := prog_13_method_46_code
def yX11_machine : MethodName := ⟨RX11, "machine", "()V"⟩
abbrev cX11_fit : ByteArray := prog_13_method_47_code
def yX11_fit : MethodName := ⟨RX11, "fit", "(II)Z"⟩
abbrev cX11_price : ByteArray := prog_13_method_48_code
def yX11_price : MethodName := ⟨RX11, "price", "(II)I"⟩
abbrev cX11_paysLock : ByteArray := prog_13_method_49_code
def yX11_paysLock : MethodName := ⟨RX11, "paysLock", "(II)Z"⟩
abbrev cX11_effect : ByteArray := prog_13_method_50_code
def yX11_effect : MethodName := ⟨RX11, "effect", "(II)V"⟩
abbrev cX11_runs : ByteArray := prog_13_method_51_code
def yX11_runs : MethodName := ⟨RX11, "runs", "(III)V"⟩
abbrev cX11_pick : ByteArray := prog_13_method_52_code
def yX11_pick : MethodName := ⟨RX11, "pick", "(II)I"⟩
abbrev cX11_make : ByteArray := prog_13_method_53_code
def yX11_make : MethodName := ⟨RX11, "make", "(IIII)I"⟩
abbrev cX11_from : ByteArray := prog_13_method_54_code
def yX11_from : MethodName := ⟨RX11, "from", "(III)Z"⟩
abbrev cX11_headOf : ByteArray := prog_13_method_55_code
def yX11_headOf : MethodName := ⟨RX11, "headOf", "(I)I"⟩
abbrev cX11_head : ByteArray := prog_13_method_56_code
def yX11_head : MethodName := ⟨RX11, "head", "(I)I"⟩
abbrev cX11_base : ByteArray := prog_13_method_57_code
def yX11_base : MethodName := ⟨RX11, "base", "(II)I"⟩
abbrev cX11_used : ByteArray := prog_13_method_58_code
def yX11_used : MethodName := ⟨RX11, "used", "(II)I"⟩
abbrev cX11_transactionAt : ByteArray := prog_13_method_59_code
def yX11_transactionAt : MethodName := ⟨RX11, "transactionAt", "(III)I"⟩
abbrev cX11_eventAt : ByteArray := prog_13_method_60_code
def yX11_eventAt : MethodName := ⟨RX11, "eventAt", "(III)I"⟩
abbrev cX11_bloom : ByteArray := prog_13_method_61_code
def yX11_bloom : MethodName := ⟨RX11, "bloom", "(II)I"⟩
abbrev cX11_find : ByteArray := prog_13_method_62_code
def yX11_find : MethodName := ⟨RX11, "find", "(II)I"⟩
abbrev cX11_missing : ByteArray := prog_13_method_63_code
def yX11_missing : MethodName := ⟨RX11, "missing", "(IIZ)I"⟩
abbrev cX11_at : ByteArray := prog_13_method_64_code
def yX11_at : MethodName := ⟨RX11, "at", "(II)I"⟩
abbrev cX11_coins : ByteArray := prog_13_method_65_code
def yX11_coins : MethodName := ⟨RX11, "coins", "(III)I"⟩
abbrev cX11_codeOf : ByteArray := prog_13_method_66_code
def yX11_codeOf : MethodName := ⟨RX11, "codeOf", "(III)I"⟩
abbrev cX11_slot : ByteArray := prog_13_method_67_code
def yX11_slot : MethodName := ⟨RX11, "slot", "(IIII)I"⟩
abbrev cX11_burned : ByteArray := prog_13_method_68_code
def yX11_burned : MethodName := ⟨RX11, "burned", "(II)I"⟩
abbrev cX11_root : ByteArray := prog_13_method_69_code
def yX11_root : MethodName := ⟨RX11, "root", "(II)I"⟩
abbrev cX11_rootAnew : ByteArray := prog_13_method_70_code
def yX11_rootAnew : MethodName := ⟨RX11, "rootAnew", "(II)I"⟩
abbrev cX11_leaf : ByteArray := prog_13_method_71_code
def yX11_leaf : MethodName := ⟨RX11, "leaf", "(III)I"⟩
abbrev cX11_proof : ByteArray := prog_13_method_72_code
def yX11_proof : MethodName := ⟨RX11, "proof", "(IIII)I"⟩
abbrev cX11_up : ByteArray := prog_13_method_73_code
def yX11_up : MethodName := ⟨RX11, "up", "(IIII)I"⟩
abbrev cX11_proves : ByteArray := prog_13_method_74_code
def yX11_proves : MethodName := ⟨RX11, "proves", "(IIIIIIII)Z"⟩
abbrev cX11_prune : ByteArray := prog_13_method_75_code
def yX11_prune : MethodName := ⟨RX11, "prune", "(I)I"⟩
abbrev cX11_surrounds : ByteArray := prog_13_method_76_code
def yX11_surrounds : MethodName := ⟨RX11, "surrounds", "(IIIII)Z"⟩
abbrev cX11_behind : ByteArray := prog_13_method_77_code
def yX11_behind : MethodName := ⟨RX11, "behind", "(III)I"⟩
abbrev cX11_justify : ByteArray := prog_13_method_78_code
def yX11_justify : MethodName := ⟨RX11, "justify", "(I)V"⟩
abbrev cX11_vote : ByteArray := prog_13_method_79_code
def yX11_vote : MethodName := ⟨RX11, "vote", "(IIII)Z"⟩
abbrev cX11_isJustified : ByteArray := prog_13_method_80_code
def yX11_isJustified : MethodName := ⟨RX11, "isJustified", "(II)Z"⟩
abbrev cX11_lastFinal : ByteArray := prog_13_method_81_code
def yX11_lastFinal : MethodName := ⟨RX11, "lastFinal", "(I)I"⟩
abbrev cX11_stake : ByteArray := prog_13_method_82_code
def yX11_stake : MethodName := ⟨RX11, "stake", "(II)I"⟩
def RJ9 : String := "java/lang/Math"
def TJ9 : u_T := fun k => match k with
  | _ => ("", "", "", false)
def tyJ9 : Nat → FieldType := fun k => match k with
  | _ => .int
abbrev wsJ90 : List Cond := u_ws RJ9 TJ9 0
theorem nmJ9 : ∀ a, a < 0 → ∀ b, b < 0 → a ≠ b → (TJ9 a).2.1 ≠ (TJ9 b).2.1 := by decide +kernel
theorem tyJ9_ok : ∀ k, k < 0 → parseFieldDescriptor (TJ9 k).2.2.1 = some (tyJ9 k) := by decide +kernel
abbrev cJ9_floorMod_7cf53 : ByteArray := prog_18_method_50_code
def yJ9_floorMod_7cf53 : MethodName := ⟨RJ9, "floorMod", "(II)I"⟩
abbrev cJ9_max_7cf53 : ByteArray := prog_18_method_65_code
def yJ9_max_7cf53 : MethodName := ⟨RJ9, "max", "(II)I"⟩
abbrev cJ9_min_7cf53 : ByteArray := prog_18_method_69_code
def yJ9_min_7cf53 : MethodName := ⟨RJ9, "min", "(II)I"⟩
def RJ10 : String := "java/lang/System"
def TJ10 : u_T := fun k => match k with
  | _ => ("", "", "", false)
def tyJ10 : Nat → FieldType := fun k => match k with
  | _ => .int
abbrev wsJ100 : List Cond := u_ws RJ10 TJ10 0
theorem nmJ10 : ∀ a, a < 0 → ∀ b, b < 0 → a ≠ b → (TJ10 a).2.1 ≠ (TJ10 b).2.1 := by decide +kernel
theorem tyJ10_ok : ∀ k, k < 0 → parseFieldDescriptor (TJ10 k).2.2.1 = some (tyJ10 k) := by decide +kernel
def RL : String := "ForkBridgeLaw"
abbrev cL_step : ByteArray := method_3_code
def yL_step : MethodName := ⟨RL, "step", "(LForkBridge;III[J)I"⟩
abbrev cL_upgrade : ByteArray := method_4_code
def yL_upgrade : MethodName := ⟨RL, "upgrade", "(LForkBridge;II[J)I"⟩
abbrev cL_submit : ByteArray := method_5_code
def yL_submit : MethodName := ⟨RL, "submit", "(LForkBridge;IIIIIIIII[J)I"⟩
abbrev cL_claim : ByteArray := method_6_code
def yL_claim : MethodName := ⟨RL, "claim", "(LForkBridge;IIIIII[J)I"⟩
abbrev cL_pool : ByteArray := method_7_code
def yL_pool : MethodName := ⟨RL, "pool", "(LForkBridge;I[J)I"⟩
abbrev cL_make : ByteArray := method_8_code
def yL_make : MethodName := ⟨RL, "make", "(LForkBridge;IIII[J)I"⟩
abbrev cL_head : ByteArray := method_9_code
def yL_head : MethodName := ⟨RL, "head", "(LForkBridge;I[J)I"⟩
abbrev cL_base : ByteArray := method_10_code
def yL_base : MethodName := ⟨RL, "base", "(LForkBridge;II[J)I"⟩
abbrev cL_used : ByteArray := method_11_code
def yL_used : MethodName := ⟨RL, "used", "(LForkBridge;II[J)I"⟩
abbrev cL_transactionAt : ByteArray := method_12_code
def yL_transactionAt : MethodName := ⟨RL, "transactionAt", "(LForkBridge;III[J)I"⟩
abbrev cL_eventAt : ByteArray := method_13_code
def yL_eventAt : MethodName := ⟨RL, "eventAt", "(LForkBridge;III[J)I"⟩
abbrev cL_bloom : ByteArray := method_14_code
def yL_bloom : MethodName := ⟨RL, "bloom", "(LForkBridge;II[J)I"⟩
abbrev cL_find : ByteArray := method_15_code
def yL_find : MethodName := ⟨RL, "find", "(LForkBridge;II[J)I"⟩
abbrev cL_coins : ByteArray := method_16_code
def yL_coins : MethodName := ⟨RL, "coins", "(LForkBridge;III[J)I"⟩
abbrev cL_codeOf : ByteArray := method_17_code
def yL_codeOf : MethodName := ⟨RL, "codeOf", "(LForkBridge;III[J)I"⟩
abbrev cL_slot : ByteArray := method_18_code
def yL_slot : MethodName := ⟨RL, "slot", "(LForkBridge;IIII[J)I"⟩
abbrev cL_burned : ByteArray := method_19_code
def yL_burned : MethodName := ⟨RL, "burned", "(LForkBridge;II[J)I"⟩
abbrev cL_root : ByteArray := method_20_code
def yL_root : MethodName := ⟨RL, "root", "(LForkBridge;II[J)I"⟩
abbrev cL_rootAnew : ByteArray := method_21_code
def yL_rootAnew : MethodName := ⟨RL, "rootAnew", "(LForkBridge;II[J)I"⟩
abbrev cL_leaf : ByteArray := method_22_code
def yL_leaf : MethodName := ⟨RL, "leaf", "(LForkBridge;III[J)I"⟩
abbrev cL_proof : ByteArray := method_23_code
def yL_proof : MethodName := ⟨RL, "proof", "(LForkBridge;IIII[J)I"⟩
abbrev cL_proves : ByteArray := method_24_code
def yL_proves : MethodName := ⟨RL, "proves", "(LForkBridge;IIIIIIII[J)I"⟩
abbrev cL_prune : ByteArray := method_25_code
def yL_prune : MethodName := ⟨RL, "prune", "(LForkBridge;I[J)I"⟩
abbrev cL_vote : ByteArray := method_26_code
def yL_vote : MethodName := ⟨RL, "vote", "(LForkBridge;IIII[J)I"⟩
abbrev cL_isJustified : ByteArray := method_27_code
def yL_isJustified : MethodName := ⟨RL, "isJustified", "(LForkBridge;II[J)I"⟩
abbrev cL_lastFinal : ByteArray := method_28_code
def yL_lastFinal : MethodName := ⟨RL, "lastFinal", "(LForkBridge;I[J)I"⟩
abbrev cL_stake : ByteArray := method_29_code
def yL_stake : MethodName := ⟨RL, "stake", "(LForkBridge;II[J)I"⟩
abbrev cL_law : ByteArray := code
def yL_law : MethodName := ⟨RL, "law", "([I)Z"⟩
abbrev vwCl : List vw_C := [(RX0, TX0, 18), (RX1, TX1, 6), (RX2, TX2, 2), (RX3, TX3, 14), (RX4, TX4, 9), (RX5, TX5, 3), (RX6, TX6, 6), (RX7, TX7, 13), (RX8, TX8, 3), (RX9, TX9, 4), (RX10, TX10, 3), (RX11, TX11, 61)]
