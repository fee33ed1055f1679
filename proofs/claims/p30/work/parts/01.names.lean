/-- a private method of a class that the tables say can be made, by its rows of tables_1 -/
def lw_okq (q : MethodName × Nat) : Prop := (q.1.cls ≠ "java/lang/invoke/MethodHandle" ∧ q.1.cls ≠ "java/lang/invoke/VarHandle") ∧ Cond.instantiable q.1.cls q.2 ∈ tables_1 ∧ Cond.privateMethod q.1 ∈ tables_1 ∧ Cond.instanceMethod q.1 ∈ tables_1
theorem lw_p0 : lw_okq (⟨"java/lang/Throwable", "fillInStackTrace", "(I)Ljava/lang/Throwable;"⟩, 6) := ⟨⟨by decide +kernel, by decide +kernel⟩, List.mem_of_getElem? (i := 528) (by decide +kernel), List.mem_of_getElem? (i := 526) (by decide +kernel), List.mem_of_getElem? (i := 527) (by decide +kernel)⟩
theorem lw_p1 : lw_okq (⟨"ForkBridge", "demandChain", "(I)LForkBridge$Chain;"⟩, 3) := ⟨⟨by decide +kernel, by decide +kernel⟩, List.mem_of_getElem? (i := 21) (by decide +kernel), List.mem_of_getElem? (i := 613) (by decide +kernel), List.mem_of_getElem? (i := 614) (by decide +kernel)⟩
theorem lw_p2 : lw_okq (⟨"ForkBridge$Chain", "dropRivals", "(LForkBridge$Transaction;LForkBridge$Block;)V"⟩, 6) := ⟨⟨by decide +kernel, by decide +kernel⟩, List.mem_of_getElem? (i := 264) (by decide +kernel), List.mem_of_getElem? (i := 669) (by decide +kernel), List.mem_of_getElem? (i := 670) (by decide +kernel)⟩
theorem lw_p3 : lw_okq (⟨"ForkBridge$Chain", "throwOutFor", "(LForkBridge$Transaction;LForkBridge$Block;)Z"⟩, 6) := ⟨⟨by decide +kernel, by decide +kernel⟩, List.mem_of_getElem? (i := 264) (by decide +kernel), List.mem_of_getElem? (i := 677) (by decide +kernel), List.mem_of_getElem? (i := 678) (by decide +kernel)⟩
theorem lw_p4 : lw_okq (⟨"ForkBridge", "demandBlock", "(II)LForkBridge$Block;"⟩, 3) := ⟨⟨by decide +kernel, by decide +kernel⟩, List.mem_of_getElem? (i := 21) (by decide +kernel), List.mem_of_getElem? (i := 706) (by decide +kernel), List.mem_of_getElem? (i := 707) (by decide +kernel)⟩
theorem lw_p5 : lw_okq (⟨"ForkBridge$Chain", "isUpgraded", "(LForkBridge$Block;)Z"⟩, 6) := ⟨⟨by decide +kernel, by decide +kernel⟩, List.mem_of_getElem? (i := 264) (by decide +kernel), List.mem_of_getElem? (i := 729) (by decide +kernel), List.mem_of_getElem? (i := 730) (by decide +kernel)⟩
theorem lw_p6 : lw_okq (⟨"ForkBridge$Chain", "bestFor", "(LForkBridge$Block;)LForkBridge$Transaction;"⟩, 6) := ⟨⟨by decide +kernel, by decide +kernel⟩, List.mem_of_getElem? (i := 264) (by decide +kernel), List.mem_of_getElem? (i := 737) (by decide +kernel), List.mem_of_getElem? (i := 738) (by decide +kernel)⟩
theorem lw_p7 : lw_okq (⟨"ForkBridge$Machine", "payOut", "(LForkBridge$Transaction;)Z"⟩, 9) := ⟨⟨by decide +kernel, by decide +kernel⟩, List.mem_of_getElem? (i := 46) (by decide +kernel), List.mem_of_getElem? (i := 766) (by decide +kernel), List.mem_of_getElem? (i := 767) (by decide +kernel)⟩
theorem lw_p8 : lw_okq (⟨"ForkBridge$Machine", "found", "(IIII)I"⟩, 9) := ⟨⟨by decide +kernel, by decide +kernel⟩, List.mem_of_getElem? (i := 46) (by decide +kernel), List.mem_of_getElem? (i := 779) (by decide +kernel), List.mem_of_getElem? (i := 780) (by decide +kernel)⟩
theorem lw_p9 : lw_okq (⟨"ForkBridge$Machine", "deliver", "(IIIIII)Z"⟩, 9) := ⟨⟨by decide +kernel, by decide +kernel⟩, List.mem_of_getElem? (i := 46) (by decide +kernel), List.mem_of_getElem? (i := 784) (by decide +kernel), List.mem_of_getElem? (i := 785) (by decide +kernel)⟩
theorem lw_p10 : lw_okq (⟨"ForkBridge$Machine", "runProgram", "(ILForkBridge$Frame;)Z"⟩, 9) := ⟨⟨by decide +kernel, by decide +kernel⟩, List.mem_of_getElem? (i := 46) (by decide +kernel), List.mem_of_getElem? (i := 798) (by decide +kernel), List.mem_of_getElem? (i := 799) (by decide +kernel)⟩
theorem lw_p11 : lw_okq (⟨"ForkBridge$Machine", "extraGas", "(LForkBridge$Frame;II)I"⟩, 9) := ⟨⟨by decide +kernel, by decide +kernel⟩, List.mem_of_getElem? (i := 46) (by decide +kernel), List.mem_of_getElem? (i := 814) (by decide +kernel), List.mem_of_getElem? (i := 815) (by decide +kernel)⟩
theorem lw_p12 : lw_okq (⟨"ForkBridge$Machine", "finish", "(LForkBridge$Frame;I)Z"⟩, 9) := ⟨⟨by decide +kernel, by decide +kernel⟩, List.mem_of_getElem? (i := 46) (by decide +kernel), List.mem_of_getElem? (i := 838) (by decide +kernel), List.mem_of_getElem? (i := 839) (by decide +kernel)⟩
theorem lw_p13 : lw_okq (⟨"ForkBridge$Machine", "callFrom", "(ILForkBridge$Frame;)V"⟩, 9) := ⟨⟨by decide +kernel, by decide +kernel⟩, List.mem_of_getElem? (i := 46) (by decide +kernel), List.mem_of_getElem? (i := 847) (by decide +kernel), List.mem_of_getElem? (i := 848) (by decide +kernel)⟩
theorem lw_p14 : lw_okq (⟨"ForkBridge$Machine", "makeFrom", "(LForkBridge$Frame;I)V"⟩, 9) := ⟨⟨by decide +kernel, by decide +kernel⟩, List.mem_of_getElem? (i := 46) (by decide +kernel), List.mem_of_getElem? (i := 855) (by decide +kernel), List.mem_of_getElem? (i := 856) (by decide +kernel)⟩
theorem lw_p15 : lw_okq (⟨"ForkBridge$Machine", "touchState", "(LForkBridge$Frame;II)Z"⟩, 9) := ⟨⟨by decide +kernel, by decide +kernel⟩, List.mem_of_getElem? (i := 46) (by decide +kernel), List.mem_of_getElem? (i := 859) (by decide +kernel), List.mem_of_getElem? (i := 860) (by decide +kernel)⟩
def lw_privs_1 : List (MethodName × Nat) := [(⟨"java/lang/Throwable", "fillInStackTrace", "(I)Ljava/lang/Throwable;"⟩, 6), (⟨"ForkBridge", "demandChain", "(I)LForkBridge$Chain;"⟩, 3), (⟨"ForkBridge$Chain", "dropRivals", "(LForkBridge$Transaction;LForkBridge$Block;)V"⟩, 6), (⟨"ForkBridge$Chain", "throwOutFor", "(LForkBridge$Transaction;LForkBridge$Block;)Z"⟩, 6), (⟨"ForkBridge", "demandBlock", "(II)LForkBridge$Block;"⟩, 3), (⟨"ForkBridge$Chain", "isUpgraded", "(LForkBridge$Block;)Z"⟩, 6), (⟨"ForkBridge$Chain", "bestFor", "(LForkBridge$Block;)LForkBridge$Transaction;"⟩, 6), (⟨"ForkBridge$Machine", "payOut", "(LForkBridge$Transaction;)Z"⟩, 9), (⟨"ForkBridge$Machine", "found", "(IIII)I"⟩, 9), (⟨"ForkBridge$Machine", "deliver", "(IIIIII)Z"⟩, 9), (⟨"ForkBridge$Machine", "runProgram", "(ILForkBridge$Frame;)Z"⟩, 9), (⟨"ForkBridge$Machine", "extraGas", "(LForkBridge$Frame;II)I"⟩, 9), (⟨"ForkBridge$Machine", "finish", "(LForkBridge$Frame;I)Z"⟩, 9), (⟨"ForkBridge$Machine", "callFrom", "(ILForkBridge$Frame;)V"⟩, 9), (⟨"ForkBridge$Machine", "makeFrom", "(LForkBridge$Frame;I)V"⟩, 9), (⟨"ForkBridge$Machine", "touchState", "(LForkBridge$Frame;II)Z"⟩, 9)]
theorem lw_r1 : ∀ q ∈ lw_privs_1, lw_okq q := List.forall_mem_cons.mpr ⟨lw_p0, List.forall_mem_cons.mpr ⟨lw_p1, List.forall_mem_cons.mpr ⟨lw_p2, List.forall_mem_cons.mpr ⟨lw_p3, List.forall_mem_cons.mpr ⟨lw_p4, List.forall_mem_cons.mpr ⟨lw_p5, List.forall_mem_cons.mpr ⟨lw_p6, List.forall_mem_cons.mpr ⟨lw_p7, List.forall_mem_cons.mpr ⟨lw_p8, List.forall_mem_cons.mpr ⟨lw_p9, List.forall_mem_cons.mpr ⟨lw_p10, List.forall_mem_cons.mpr ⟨lw_p11, List.forall_mem_cons.mpr ⟨lw_p12, List.forall_mem_cons.mpr ⟨lw_p13, List.forall_mem_cons.mpr ⟨lw_p14, List.forall_mem_cons.mpr ⟨lw_p15, fun _ h => absurd h List.not_mem_nil⟩⟩⟩⟩⟩⟩⟩⟩⟩⟩⟩⟩⟩⟩⟩⟩
theorem lw_p16 : lw_okq (⟨"ForkBridge$Machine", "write", "(II)V"⟩, 9) := ⟨⟨by decide +kernel, by decide +kernel⟩, List.mem_of_getElem? (i := 46) (by decide +kernel), List.mem_of_getElem? (i := 863) (by decide +kernel), List.mem_of_getElem? (i := 864) (by decide +kernel)⟩
theorem lw_p17 : lw_okq (⟨"ForkBridge$Frame", "reach", "(I)V"⟩, 14) := ⟨⟨by decide +kernel, by decide +kernel⟩, List.mem_of_getElem? (i := 175) (by decide +kernel), List.mem_of_getElem? (i := 878) (by decide +kernel), List.mem_of_getElem? (i := 879) (by decide +kernel)⟩
theorem lw_p18 : lw_okq (⟨"ForkBridge$Frame", "calculate", "(I)V"⟩, 14) := ⟨⟨by decide +kernel, by decide +kernel⟩, List.mem_of_getElem? (i := 175) (by decide +kernel), List.mem_of_getElem? (i := 883) (by decide +kernel), List.mem_of_getElem? (i := 884) (by decide +kernel)⟩
theorem lw_p19 : lw_okq (⟨"ForkBridge$Machine", "undo", "(LForkBridge$Frame;)V"⟩, 9) := ⟨⟨by decide +kernel, by decide +kernel⟩, List.mem_of_getElem? (i := 46) (by decide +kernel), List.mem_of_getElem? (i := 892) (by decide +kernel), List.mem_of_getElem? (i := 893) (by decide +kernel)⟩
theorem lw_p20 : lw_okq (⟨"ForkBridge$Machine", "settleGas", "(LForkBridge$Transaction;II)V"⟩, 9) := ⟨⟨by decide +kernel, by decide +kernel⟩, List.mem_of_getElem? (i := 46) (by decide +kernel), List.mem_of_getElem? (i := 897) (by decide +kernel), List.mem_of_getElem? (i := 898) (by decide +kernel)⟩
theorem lw_p21 : lw_okq (⟨"ForkBridge$Vote", "surrounds", "(LForkBridge$Vote;)Z"⟩, 4) := ⟨⟨by decide +kernel, by decide +kernel⟩, List.mem_of_getElem? (i := 288) (by decide +kernel), List.mem_of_getElem? (i := 937) (by decide +kernel), List.mem_of_getElem? (i := 938) (by decide +kernel)⟩
theorem lw_p22 : lw_okq (⟨"ForkBridge$Finality", "justifyOne", "([LForkBridge$Block;)Z"⟩, 2) := ⟨⟨by decide +kernel, by decide +kernel⟩, List.mem_of_getElem? (i := 274) (by decide +kernel), List.mem_of_getElem? (i := 945) (by decide +kernel), List.mem_of_getElem? (i := 946) (by decide +kernel)⟩
theorem lw_p23 : lw_okq (⟨"ForkBridge$Finality", "justify", "([LForkBridge$Block;LForkBridge$Vote;)Z"⟩, 2) := ⟨⟨by decide +kernel, by decide +kernel⟩, List.mem_of_getElem? (i := 274) (by decide +kernel), List.mem_of_getElem? (i := 955) (by decide +kernel), List.mem_of_getElem? (i := 956) (by decide +kernel)⟩
theorem lw_p24 : lw_okq (⟨"ForkBridge$Finality", "carries", "(LForkBridge$Vote;)Z"⟩, 2) := ⟨⟨by decide +kernel, by decide +kernel⟩, List.mem_of_getElem? (i := 274) (by decide +kernel), List.mem_of_getElem? (i := 959) (by decide +kernel), List.mem_of_getElem? (i := 960) (by decide +kernel)⟩
theorem lw_p25 : lw_okq (⟨"ForkBridge$Finality", "moveFinal", "([LForkBridge$Block;)V"⟩, 2) := ⟨⟨by decide +kernel, by decide +kernel⟩, List.mem_of_getElem? (i := 274) (by decide +kernel), List.mem_of_getElem? (i := 972) (by decide +kernel), List.mem_of_getElem? (i := 973) (by decide +kernel)⟩
theorem lw_p26 : lw_okq (⟨"ForkBridge", "demandState", "(III)LForkBridge$State;"⟩, 3) := ⟨⟨by decide +kernel, by decide +kernel⟩, List.mem_of_getElem? (i := 21) (by decide +kernel), List.mem_of_getElem? (i := 987) (by decide +kernel), List.mem_of_getElem? (i := 988) (by decide +kernel)⟩
def lw_privs_2 : List (MethodName × Nat) := [(⟨"ForkBridge$Machine", "write", "(II)V"⟩, 9), (⟨"ForkBridge$Frame", "reach", "(I)V"⟩, 14), (⟨"ForkBridge$Frame", "calculate", "(I)V"⟩, 14), (⟨"ForkBridge$Machine", "undo", "(LForkBridge$Frame;)V"⟩, 9), (⟨"ForkBridge$Machine", "settleGas", "(LForkBridge$Transaction;II)V"⟩, 9), (⟨"ForkBridge$Vote", "surrounds", "(LForkBridge$Vote;)Z"⟩, 4), (⟨"ForkBridge$Finality", "justifyOne", "([LForkBridge$Block;)Z"⟩, 2), (⟨"ForkBridge$Finality", "justify", "([LForkBridge$Block;LForkBridge$Vote;)Z"⟩, 2), (⟨"ForkBridge$Finality", "carries", "(LForkBridge$Vote;)Z"⟩, 2), (⟨"ForkBridge$Finality", "moveFinal", "([LForkBridge$Block;)V"⟩, 2), (⟨"ForkBridge", "demandState", "(III)LForkBridge$State;"⟩, 3)]
theorem lw_r2 : ∀ q ∈ lw_privs_2, lw_okq q := List.forall_mem_cons.mpr ⟨lw_p16, List.forall_mem_cons.mpr ⟨lw_p17, List.forall_mem_cons.mpr ⟨lw_p18, List.forall_mem_cons.mpr ⟨lw_p19, List.forall_mem_cons.mpr ⟨lw_p20, List.forall_mem_cons.mpr ⟨lw_p21, List.forall_mem_cons.mpr ⟨lw_p22, List.forall_mem_cons.mpr ⟨lw_p23, List.forall_mem_cons.mpr ⟨lw_p24, List.forall_mem_cons.mpr ⟨lw_p25, List.forall_mem_cons.mpr ⟨lw_p26, fun _ h => absurd h List.not_mem_nil⟩⟩⟩⟩⟩⟩⟩⟩⟩⟩⟩
def lw_privs : List (MethodName × Nat) := lw_privs_1 ++ (lw_privs_2)
def lw_tbl : List Cond := k2_sels lw_privs ++ tables_1
theorem lw_privs_ok : ∀ q ∈ lw_privs, lw_okq q := by
  show ∀ q ∈ lw_privs_1 ++ (lw_privs_2), lw_okq q
  exact List.forall_mem_append.mpr ⟨lw_r1, lw_r2⟩
def RX0 : String := "ForkBridge$Block"
def TX0 : u_T := fun k => match k with
  | 0 => ("ForkBridge$Block", "number", "I", true)
  | 1 => ("ForkBridge$Block", "state", "LForkBridge$State;", true)
  | 2 => ("ForkBridge$Block", "height", "I", false)
  | 3 => ("ForkBridge$Block", "producer", "I", false)
  | 4 => ("ForkBridge$Block", "total", "I", false)
  | 5 => ("ForkBridge$Block", "base", "I", false)
  | 6 => ("ForkBridge$Block", "used", "I", false)
  | 7 => ("ForkBridge$Block", "results", "[I", true)
  | 8 => ("ForkBridge$Block", "resultCount", "I", false)
  | 9 => ("ForkBridge$Block", "events", "[I", true)
  | 10 => ("ForkBridge$Block", "eventCount", "I", false)
  | 11 => ("ForkBridge$Block", "bloom", "I", false)
  | 12 => ("ForkBridge$Block", "root", "I", false)
  | 13 => ("ForkBridge$Block", "dropped", "Z", false)
  | 14 => ("ForkBridge$Block", "justified", "Z", false)
  | 15 => ("ForkBridge$Block", "justifies", "I", false)
  | 16 => ("ForkBridge$Block", "line", "I", false)
  | _ => ("ForkBridge$Block", "held", "J", false)
def tyX0 : Nat → FieldType := fun k => match k with
  | 0 => .int
  | 1 => .object "ForkBridge$State"
  | 2 => .int
  | 3 => .int
  | 4 => .int
  | 5 => .int
  | 6 => .int
  | 7 => .array .int
  | 8 => .int
  | 9 => .array .int
  | 10 => .int
  | 11 => .int
  | 12 => .int
  | 13 => .boolean
  | 14 => .boolean
  | 15 => .int
  | 16 => .int
  | _ => .long
abbrev wsX00 : List Cond := u_ws RX0 TX0 18
theorem nmX0 : ∀ a, a < 18 → ∀ b, b < 18 → a ≠ b → (TX0 a).2.1 ≠ (TX0 b).2.1 := by decide +kernel
theorem tyX0_ok : ∀ k, k < 18 → parseFieldDescriptor (TX0 k).2.2.1 = some (tyX0 k) := by decide +kernel
abbrev cX0_init : ByteArray := prog_2_method_1_code
def yX0_init : MethodName := ⟨RX0, "<init>", "(I)V"⟩
abbrev cX0_becomeFirst : ByteArray := prog_2_method_2_code
def yX0_becomeFirst : MethodName := ⟨RX0, "becomeFirst", "()V"⟩
abbrev cX0_follow : ByteArray := prog_2_method_3_code
def yX0_follow : MethodName := ⟨RX0, "follow", "(LForkBridge$Block;II)V"⟩
abbrev cX0_imitate : ByteArray := prog_2_method_4_code
def yX0_imitate : MethodName := ⟨RX0, "imitate", "(LForkBridge$Block;)V"⟩
abbrev cX0_enter : ByteArray := prog_2_method_5_code
def yX0_enter : MethodName := ⟨RX0, "enter", "(IIZ)V"⟩
abbrev cX0_transactionIn : ByteArray := prog_2_method_6_code
def yX0_transactionIn : MethodName := ⟨RX0, "transactionIn", "(I)I"⟩
abbrev cX0_addEvent : ByteArray := prog_2_method_7_code
def yX0_addEvent : MethodName := ⟨RX0, "addEvent", "(II)V"⟩
abbrev cX0_seal : ByteArray := prog_2_method_8_code
def yX0_seal : MethodName := ⟨RX0, "seal", "()V"⟩
abbrev cX0_topicIn : ByteArray := prog_2_method_9_code
def yX0_topicIn : MethodName := ⟨RX0, "topicIn", "(I)I"⟩
abbrev cX0_comesFrom : ByteArray := prog_2_method_10_code
def yX0_comesFrom : MethodName := ⟨RX0, "comesFrom", "(LForkBridge$Block;)Z"⟩
abbrev cX0_holds : ByteArray := prog_2_method_11_code
def yX0_holds : MethodName := ⟨RX0, "holds", "(I)Z"⟩
abbrev cX0_bloomOf : ByteArray := prog_2_method_14_code
def yX0_bloomOf : MethodName := ⟨RX0, "bloomOf", "(I)I"⟩
def RX1 : String := "ForkBridge$Chain"
def TX1 : u_T := fun k => match k with
  | 0 => ("ForkBridge$Chain", "blocks", "[LForkBridge$Block;", true)
  | 1 => ("ForkBridge$Chain", "blockCount", "I", false)
  | 2 => ("ForkBridge$Chain", "transactions", "[LForkBridge$Transaction;", true)
  | 3 => ("ForkBridge$Chain", "transactionCount", "I", false)
  | 4 => ("ForkBridge$Chain", "upgradeHeight", "I", false)
  | _ => ("ForkBridge$Chain", "finality", "LForkBridge$Finality;", true)
def tyX1 : Nat → FieldType := fun k => match k with
  | 0 => .array (.object "ForkBridge$Block")
  | 1 => .int
  | 2 => .array (.object "ForkBridge$Transaction")
  | 3 => .int
  | 4 => .int
  | _ => .object "ForkBridge$Finality"
abbrev wsX10 : List Cond := u_ws RX1 TX1 6
theorem nmX1 : ∀ a, a < 6 → ∀ b, b < 6 → a ≠ b → (TX1 a).2.1 ≠ (TX1 b).2.1 := by decide +kernel
theorem tyX1_ok : ∀ k, k < 6 → parseFieldDescriptor (TX1 k).2.2.1 = some (tyX1 k) := by decide +kernel
abbrev cX1_init : ByteArray := prog_3_method_1_code
def yX1_init : MethodName := ⟨RX1, "<init>", "()V"⟩
abbrev cX1_numberedBlock : ByteArray := prog_3_method_2_code
def yX1_numberedBlock : MethodName := ⟨RX1, "numberedBlock", "(I)LForkBridge$Block;"⟩
abbrev cX1_numbered : ByteArray := prog_3_method_3_code
def yX1_numbered : MethodName := ⟨RX1, "numbered", "(I)LForkBridge$Transaction;"⟩
abbrev cX1_lastFinalBlock : ByteArray := prog_3_method_4_code
def yX1_lastFinalBlock : MethodName := ⟨RX1, "lastFinalBlock", "()LForkBridge$Block;"⟩
abbrev cX1_headBlock : ByteArray := prog_3_method_5_code
def yX1_headBlock : MethodName := ⟨RX1, "headBlock", "()LForkBridge$Block;"⟩
abbrev cX1_countWaiting : ByteArray := prog_3_method_6_code
def yX1_countWaiting : MethodName := ⟨RX1, "countWaiting", "()I"⟩
abbrev cX1_draft : ByteArray := prog_3_method_7_code
def yX1_draft : MethodName := ⟨RX1, "draft", "()LForkBridge$Transaction;"⟩
abbrev cX1_admit : ByteArray := prog_3_method_8_code
def yX1_admit : MethodName := ⟨RX1, "\x61dmit", "(LForkBridge$Transaction;)I"⟩
abbrev cX1_dropRivals : ByteArray := prog_3_method_9_code
def yX1_dropRivals : MethodName := ⟨RX1, "dropRivals", "(LForkBridge$Transaction;LForkBridge$Block;)V"⟩
abbrev cX1_throwOutFor : ByteArray := prog_3_method_10_code
def yX1_throwOutFor : MethodName := ⟨RX1, "throwOutFor", "(LForkBridge$Transaction;LForkBridge$Block;)Z"⟩
abbrev cX1_grow : ByteArray := prog_3_method_11_code
def yX1_grow : MethodName := ⟨RX1, "grow", "(LForkBridge$Machine;LForkBridge$Block;II)I"⟩
abbrev cX1_bestFor : ByteArray := prog_3_method_12_code
def yX1_bestFor : MethodName := ⟨RX1, "bestFor", "(LForkBridge$Block;)LForkBridge$Transaction;"⟩
abbrev cX1_isUpgraded : ByteArray := prog_3_method_13_code
def yX1_isUpgraded : MethodName := ⟨RX1, "isUpgraded", "(LForkBridge$Block;)Z"⟩
abbrev cX1_runAnew : ByteArray := prog_3_method_14_code
def yX1_runAnew : MethodName := ⟨RX1, "runAnew", "(LForkBridge$Machine;LForkBridge$Block;)I"⟩
abbrev cX1_dropLower : ByteArray := prog_3_method_16_code
def yX1_dropLower : MethodName := ⟨RX1, "dropLower", "()I"⟩
def RX2 : String := "ForkBridge$Finality"
def TX2 : u_T := fun k => match k with
  | 0 => ("ForkBridge$Finality", "validators", "[LForkBridge$Validator;", true)
  | _ => ("ForkBridge$Finality", "lastFinal", "I", false)
def tyX2 : Nat → FieldType := fun k => match k with
  | 0 => .array (.object "ForkBridge$Validator")
  | _ => .int
abbrev wsX20 : List Cond := u_ws RX2 TX2 2
theorem nmX2 : ∀ a, a < 2 → ∀ b, b < 2 → a ≠ b → (TX2 a).2.1 ≠ (TX2 b).2.1 := by decide +kernel
theorem tyX2_ok : ∀ k, k < 2 → parseFieldDescriptor (TX2 k).2.2.1 = some (tyX2 k) := by decide +kernel
abbrev cX2_init : ByteArray := prog_4_method_1_code
def yX2_init : MethodName := ⟨RX2, "<init>", "()V"⟩
abbrev cX2_validator : ByteArray := prog_4_method_2_code
def yX2_validator : MethodName := ⟨RX2, "validator", "(I)LForkBridge$Validator;"⟩
abbrev cX2_settle : ByteArray := prog_4_method_3_code
def yX2_settle : MethodName := ⟨RX2, "settle", "([LForkBridge$Block;)V"⟩
abbrev cX2_justifyOne : ByteArray := prog_4_method_4_code
def yX2_justifyOne : MethodName := ⟨RX2, "justifyOne", "([LForkBridge$Block;)Z"⟩
abbrev cX2_justify : ByteArray := prog_4_method_5_code
def yX2_justify : MethodName := ⟨RX2, "justify", "([LForkBridge$Block;LForkBridge$Vote;)Z"⟩
abbrev cX2_carries : ByteArray := prog_4_method_6_code
def yX2_carries : MethodName := ⟨RX2, "carries", "(LForkBridge$Vote;)Z"⟩
abbrev cX2_moveFinal : ByteArray := prog_4_method_7_code
def yX2_moveFinal : MethodName := ⟨RX2, "moveFinal", "([LForkBridge$Block;)V"⟩
abbrev cX2_justifiesNext : ByteArray := prog_4_method_8_code
def yX2_justifiesNext : MethodName := ⟨RX2, "justifiesNext", "([LForkBridge$Block;LForkBridge$Block;)Z"⟩
def RX3 : String := "ForkBridge$Frame"
def TX3 : u_T := fun k => match k with
  | 0 => ("ForkBridge$Frame", "heap", "[I", true)
  | 1 => ("ForkBridge$Frame", "size", "I", false)
  | 2 => ("ForkBridge$Frame", "memory", "[I", true)
  | 3 => ("ForkBridge$Frame", "highestCell", "I", false)
  | 4 => ("ForkBridge$Frame", "own", "I", false)
  | 5 => ("ForkBridge$Frame", "caller", "I", false)
  | 6 => ("ForkBridge$Frame", "value", "I", false)
  | 7 => ("ForkBridge$Frame", "input", "I", false)
  | 8 => ("ForkBridge$Frame", "program", "I", false)
  | 9 => ("ForkBridge$Frame", "next", "I", false)
  | 10 => ("ForkBridge$Frame", "gas", "I", false)
  | 11 => ("ForkBridge$Frame", "savedState", "LForkBridge$State;", true)
  | 12 => ("ForkBridge$Frame", "savedEvents", "I", false)
  | _ => ("ForkBridge$Frame", "savedRefund", "I", false)
def tyX3 : Nat → FieldType := fun k => match k with
  | 0 => .array .int
  | 1 => .int
  | 2 => .array .int
  | 3 => .int
  | 4 => .int
  | 5 => .int
  | 6 => .int
  | 7 => .int
  | 8 => .int
  | 9 => .int
  | 10 => .int
  | 11 => .object "ForkBridge$State"
  | 12 => .int
  | _ => .int
abbrev wsX30 : List Cond := u_ws RX3 TX3 14
theorem nmX3 : ∀ a, a < 14 → ∀ b, b < 14 → a ≠ b → (TX3 a).2.1 ≠ (TX3 b).2.1 := by decide +kernel
theorem tyX3_ok : ∀ k, k < 14 → parseFieldDescriptor (TX3 k).2.2.1 = some (tyX3 k) := by decide +kernel
abbrev cX3_init : ByteArray := prog_5_method_1_code
def yX3_init : MethodName := ⟨RX3, "<init>", "()V"⟩
abbrev cX3_open : ByteArray := prog_5_method_2_code
def yX3_open : MethodName := ⟨RX3, "open", "(IIIII)V"⟩
abbrev cX3_save : ByteArray := prog_5_method_3_code
def yX3_save : MethodName := ⟨RX3, "save", "(LForkBridge$State;II)V"⟩
abbrev cX3_heapAllows : ByteArray := prog_5_method_4_code
def yX3_heapAllows : MethodName := ⟨RX3, "heapAllows", "(I)Z"⟩
abbrev cX3_top : ByteArray := prog_5_method_5_code
def yX3_top : MethodName := ⟨RX3, "top", "()I"⟩
abbrev cX3_take : ByteArray := prog_5_method_6_code
def yX3_take : MethodName := ⟨RX3, "take", "()I"⟩
abbrev cX3_push : ByteArray := prog_5_method_7_code
def yX3_push : MethodName := ⟨RX3, "push", "(I)V"⟩
abbrev cX3_growthTo : ByteArray := prog_5_method_8_code
def yX3_growthTo : MethodName := ⟨RX3, "growthTo", "(I)I"⟩
abbrev cX3_memoryGas : ByteArray := prog_5_method_9_code
def yX3_memoryGas : MethodName := ⟨RX3, "memoryGas", "(I)I"⟩
abbrev cX3_reach : ByteArray := prog_5_method_10_code
def yX3_reach : MethodName := ⟨RX3, "reach", "(I)V"⟩
abbrev cX3_perform : ByteArray := prog_5_method_11_code
def yX3_perform : MethodName := ⟨RX3, "perform", "(II)V"⟩
abbrev cX3_calculate : ByteArray := prog_5_method_12_code
def yX3_calculate : MethodName := ⟨RX3, "calculate", "(I)V"⟩
def RX4 : String := "ForkBridge$Machine"
def TX4 : u_T := fun k => match k with
  | 0 => ("ForkBridge$Machine", "programs", "LForkBridge$Programs;", true)
  | 1 => ("ForkBridge$Machine", "frames", "[LForkBridge$Frame;", true)
  | 2 => ("ForkBridge$Machine", "bench", "LForkBridge$Block;", true)
  | 3 => ("ForkBridge$Machine", "block", "LForkBridge$Block;", false)
  | 4 => ("ForkBridge$Machine", "state", "LForkBridge$State;", false)
  | 5 => ("ForkBridge$Machine", "freshWriteGas", "I", false)
  | 6 => ("ForkBridge$Machine", "refund", "I", false)
  | 7 => ("ForkBridge$Machine", "gasUsed", "I", false)
  | _ => ("ForkBridge$Machine", "endedWell", "Z", false)
def tyX4 : Nat → FieldType := fun k => match k with
  | 0 => .object "ForkBridge$Programs"
  | 1 => .array (.object "ForkBridge$Frame")
  | 2 => .object "ForkBridge$Block"
  | 3 => .object "ForkBridge$Block"
  | 4 => .object "ForkBridge$State"
  | 5 => .int
  | 6 => .int
  | 7 => .int
  | _ => .boolean
abbrev wsX40 : List Cond := u_ws RX4 TX4 9
theorem nmX4 : ∀ a, a < 9 → ∀ b, b < 9 → a ≠ b → (TX4 a).2.1 ≠ (TX4 b).2.1 := by decide +kernel
theorem tyX4_ok : ∀ k, k < 9 → parseFieldDescriptor (TX4 k).2.2.1 = some (tyX4 k) := by decide +kernel
abbrev cX4_init : ByteArray := prog_6_method_1_code
def yX4_init : MethodName := ⟨RX4, "<init>", "(LForkBridge$Programs;)V"⟩
abbrev cX4_open : ByteArray := prog_6_method_2_code
def yX4_open : MethodName := ⟨RX4, "open", "(LForkBridge$Block;Z)V"⟩
abbrev cX4_transact : ByteArray := prog_6_method_3_code
def yX4_transact : MethodName := ⟨RX4, "transact", "(LForkBridge$Transaction;)V"⟩
abbrev cX4_settleGas : ByteArray := prog_6_method_4_code
def yX4_settleGas : MethodName := ⟨RX4, "settleGas", "(LForkBridge$Transaction;II)V"⟩
abbrev cX4_payOut : ByteArray := prog_6_method_5_code
def yX4_payOut : MethodName := ⟨RX4, "payOut", "(LForkBridge$Transaction;)Z"⟩
abbrev cX4_found : ByteArray := prog_6_method_6_code
def yX4_found : MethodName := ⟨RX4, "found", "(IIII)I"⟩
abbrev cX4_deliver : ByteArray := prog_6_method_7_code
def yX4_deliver : MethodName := ⟨RX4, "deliver", "(IIIIII)Z"⟩
abbrev cX4_undo : ByteArray := prog_6_method_8_code
def yX4_undo : MethodName := ⟨RX4, "undo", "(LForkBridge$Frame;)V"⟩
abbrev cX4_runProgram : ByteArray := prog_6_method_9_code
def yX4_runProgram : MethodName := ⟨RX4, "runProgram", "(ILForkBridge$Frame;)Z"⟩
abbrev cX4_extraGas : ByteArray := prog_6_method_10_code
def yX4_extraGas : MethodName := ⟨RX4, "extraGas", "(LForkBridge$Frame;II)I"⟩
abbrev cX4_finish : ByteArray := prog_6_method_11_code
def yX4_finish : MethodName := ⟨RX4, "finish", "(LForkBridge$Frame;I)Z"⟩
abbrev cX4_touchState : ByteArray := prog_6_method_12_code
def yX4_touchState : MethodName := ⟨RX4, "touchState", "(LForkBridge$Frame;II)Z"⟩
abbrev cX4_write : ByteArray := prog_6_method_13_code
def yX4_write : MethodName := ⟨RX4, "write", "(II)V"⟩
abbrev cX4_callFrom : ByteArray := prog_6_method_14_code
def yX4_callFrom : MethodName := ⟨RX4, "callFrom", "(ILForkBridge$Frame;)V"⟩
abbrev cX4_makeFrom : ByteArray := prog_6_method_15_code
def yX4_makeFrom : MethodName := ⟨RX4, "makeFrom", "(LForkBridge$Frame;I)V"⟩
def RX5 : String := "ForkBridge$Programs"
def TX5 : u_T := fun k => match k with
  | 0 => ("ForkBridge$Programs", "operations", "[I", true)
  | 1 => ("ForkBridge$Programs", "arguments", "[I", true)
  | _ => ("ForkBridge$Programs", "lengths", "[I", true)
def tyX5 : Nat → FieldType := fun k => match k with
  | 0 => .array .int
  | 1 => .array .int
  | _ => .array .int
abbrev wsX50 : List Cond := u_ws RX5 TX5 3
theorem nmX5 : ∀ a, a < 3 → ∀ b, b < 3 → a ≠ b → (TX5 a).2.1 ≠ (TX5 b).2.1 := by decide +kernel
theorem tyX5_ok : ∀ k, k < 3 → parseFieldDescriptor (TX5 k).2.2.1 = some (tyX5 k) := by decide +kernel
abbrev cX5_init : ByteArray := prog_7_method_1_code
def yX5_init : MethodName := ⟨RX5, "<init>", "()V"⟩
abbrev cX5_lengthOf : ByteArray := prog_7_method_2_code
def yX5_lengthOf : MethodName := ⟨RX5, "lengthOf", "(I)I"⟩
abbrev cX5_operationAt : ByteArray := prog_7_method_3_code
def yX5_operationAt : MethodName := ⟨RX5, "operationAt", "(II)I"⟩
abbrev cX5_argumentAt : ByteArray := prog_7_method_4_code
def yX5_argumentAt : MethodName := ⟨RX5, "argumentAt", "(II)I"⟩
abbrev cX5_append : ByteArray := prog_7_method_5_code
def yX5_append : MethodName := ⟨RX5, "append", "(III)I"⟩
def RX6 : String := "ForkBridge$State"
def TX6 : u_T := fun k => match k with
  | 0 => ("ForkBridge$State", "coins", "[I", true)
  | 1 => ("ForkBridge$State", "nonces", "[I", true)
  | 2 => ("ForkBridge$State", "codes", "[I", true)
  | 3 => ("ForkBridge$State", "slots", "[I", true)
  | 4 => ("ForkBridge$State", "burned", "I", false)
  | _ => ("ForkBridge$State", "paid", "J", false)
def tyX6 : Nat → FieldType := fun k => match k with
  | 0 => .array .int
  | 1 => .array .int
  | 2 => .array .int
  | 3 => .array .int
  | 4 => .int
  | _ => .long
abbrev wsX60 : List Cond := u_ws RX6 TX6 6
theorem nmX6 : ∀ a, a < 6 → ∀ b, b < 6 → a ≠ b → (TX6 a).2.1 ≠ (TX6 b).2.1 := by decide +kernel
theorem tyX6_ok : ∀ k, k < 6 → parseFieldDescriptor (TX6 k).2.2.1 = some (tyX6 k) := by decide +kernel
abbrev cX6_init : ByteArray := prog_8_method_1_code
def yX6_init : MethodName := ⟨RX6, "<init>", "()V"⟩
abbrev cX6_becomeFirst : ByteArray := prog_8_method_2_code
def yX6_becomeFirst : MethodName := ⟨RX6, "becomeFirst", "()V"⟩
abbrev cX6_copyFrom : ByteArray := prog_8_method_3_code
def yX6_copyFrom : MethodName := ⟨RX6, "copyFrom", "(LForkBridge$State;)V"⟩
abbrev cX6_gain : ByteArray := prog_8_method_4_code
def yX6_gain : MethodName := ⟨RX6, "gain", "(II)V"⟩
abbrev cX6_move : ByteArray := prog_8_method_5_code
def yX6_move : MethodName := ⟨RX6, "move", "(III)V"⟩
abbrev cX6_raiseNonce : ByteArray := prog_8_method_6_code
def yX6_raiseNonce : MethodName := ⟨RX6, "raiseNonce", "(I)V"⟩
abbrev cX6_dropProgram : ByteArray := prog_8_method_7_code
def yX6_dropProgram : MethodName := ⟨RX6, "dropProgram", "(I)V"⟩
abbrev cX6_isPaid : ByteArray := prog_8_method_8_code
def yX6_isPaid : MethodName := ⟨RX6, "isPaid", "(I)Z"⟩
abbrev cX6_leafOf : ByteArray := prog_8_method_9_code
def yX6_leafOf : MethodName := ⟨RX6, "leafOf", "(I)I"⟩
def RX7 : String := "ForkBridge$Transaction"
def TX7 : u_T := fun k => match k with
  | 0 => ("ForkBridge$Transaction", "number", "I", true)
  | 1 => ("ForkBridge$Transaction", "sender", "I", false)
  | 2 => ("ForkBridge$Transaction", "nonce", "I", false)
  | 3 => ("ForkBridge$Transaction", "target", "I", false)
  | 4 => ("ForkBridge$Transaction", "value", "I", false)
  | 5 => ("ForkBridge$Transaction", "input", "I", false)
  | 6 => ("ForkBridge$Transaction", "gas", "I", false)
  | 7 => ("ForkBridge$Transaction", "most", "I", false)
  | 8 => ("ForkBridge$Transaction", "tip", "I", false)
  | 9 => ("ForkBridge$Transaction", "lock", "I", false)
  | 10 => ("ForkBridge$Transaction", "lockedValue", "I", false)
  | 11 => ("ForkBridge$Transaction", "payee", "I", false)
  | _ => ("ForkBridge$Transaction", "live", "Z", false)
def tyX7 : Nat → FieldType := fun k => match k with
  | 0 => .int
  | 1 => .int
  | 2 => .int
  | 3 => .int
  | 4 => .int
  | 5 => .int
  | 6 => .int
  | 7 => .int
  | 8 => .int
  | 9 => .int
  | 10 => .int
  | 11 => .int
  | _ => .boolean
abbrev wsX70 : List Cond := u_ws RX7 TX7 13
theorem nmX7 : ∀ a, a < 13 → ∀ b, b < 13 → a ≠ b → (TX7 a).2.1 ≠ (TX7 b).2.1 := by decide +kernel
theorem tyX7_ok : ∀ k, k < 13 → parseFieldDescriptor (TX7 k).2.2.1 = some (tyX7 k) := by decide +kernel
abbrev cX7_init : ByteArray := prog_9_method_1_code
def yX7_init : MethodName := ⟨RX7, "<init>", "(I)V"⟩
abbrev cX7_order : ByteArray := prog_9_method_2_code
def yX7_order : MethodName := ⟨RX7, "order", "(IIIIII)V"⟩
abbrev cX7_bid : ByteArray := prog_9_method_3_code
def yX7_bid : MethodName := ⟨RX7, "bid", "(II)V"⟩
abbrev cX7_nameLock : ByteArray := prog_9_method_4_code
def yX7_nameLock : MethodName := ⟨RX7, "nameLock", "(LForkBridge$Transaction;)V"⟩
abbrev cX7_isLock : ByteArray := prog_9_method_5_code
def yX7_isLock : MethodName := ⟨RX7, "isLock", "()Z"⟩
abbrev cX7_rivals : ByteArray := prog_9_method_6_code
def yX7_rivals : MethodName := ⟨RX7, "rivals", "(LForkBridge$Transaction;)Z"⟩
abbrev cX7_outbids : ByteArray := prog_9_method_7_code
def yX7_outbids : MethodName := ⟨RX7, "outbids", "(LForkBridge$Transaction;)Z"⟩
abbrev cX7_waitsBehind : ByteArray := prog_9_method_8_code
def yX7_waitsBehind : MethodName := ⟨RX7, "waitsBehind", "(LForkBridge$Block;)Z"⟩
abbrev cX7_priceAt : ByteArray := prog_9_method_9_code
def yX7_priceAt : MethodName := ⟨RX7, "priceAt", "(I)I"⟩
abbrev cX7_fits : ByteArray := prog_9_method_10_code
def yX7_fits : MethodName := ⟨RX7, "fits", "(LForkBridge$Block;)Z"⟩
def RX8 : String := "ForkBridge$Validator"
def TX8 : u_T := fun k => match k with
  | 0 => ("ForkBridge$Validator", "votes", "[LForkBridge$Vote;", true)
  | 1 => ("ForkBridge$Validator", "voteCount", "I", false)
  | _ => ("ForkBridge$Validator", "punished", "Z", false)
def tyX8 : Nat → FieldType := fun k => match k with
  | 0 => .array (.object "ForkBridge$Vote")
  | 1 => .int
  | _ => .boolean
abbrev wsX80 : List Cond := u_ws RX8 TX8 3
theorem nmX8 : ∀ a, a < 3 → ∀ b, b < 3 → a ≠ b → (TX8 a).2.1 ≠ (TX8 b).2.1 := by decide +kernel
theorem tyX8_ok : ∀ k, k < 3 → parseFieldDescriptor (TX8 k).2.2.1 = some (tyX8 k) := by decide +kernel
abbrev cX8_init : ByteArray := prog_10_method_1_code
def yX8_init : MethodName := ⟨RX8, "<init>", "()V"⟩
abbrev cX8_stakeNow : ByteArray := prog_10_method_2_code
def yX8_stakeNow : MethodName := ⟨RX8, "stakeNow", "()I"⟩
abbrev cX8_countingVotes : ByteArray := prog_10_method_3_code
def yX8_countingVotes : MethodName := ⟨RX8, "countingVotes", "()I"⟩
abbrev cX8_voteAt : ByteArray := prog_10_method_4_code
def yX8_voteAt : MethodName := ⟨RX8, "voteAt", "(I)LForkBridge$Vote;"⟩
abbrev cX8_give : ByteArray := prog_10_method_5_code
def yX8_give : MethodName := ⟨RX8, "give", "(LForkBridge$Block;LForkBridge$Block;)Z"⟩
abbrev cX8_supports : ByteArray := prog_10_method_6_code
def yX8_supports : MethodName := ⟨RX8, "supports", "(LForkBridge$Vote;)Z"⟩
def RX9 : String := "ForkBridge$Vote"
def TX9 : u_T := fun k => match k with
  | 0 => ("ForkBridge$Vote", "source", "I", false)
  | 1 => ("ForkBridge$Vote", "target", "I", false)
  | 2 => ("ForkBridge$Vote", "sourceHeight", "I", false)
  | _ => ("ForkBridge$Vote", "targetHeight", "I", false)
def tyX9 : Nat → FieldType := fun k => match k with
  | 0 => .int
  | 1 => .int
  | 2 => .int
  | _ => .int
abbrev wsX90 : List Cond := u_ws RX9 TX9 4
theorem nmX9 : ∀ a, a < 4 → ∀ b, b < 4 → a ≠ b → (TX9 a).2.1 ≠ (TX9 b).2.1 := by decide +kernel
theorem tyX9_ok : ∀ k, k < 4 → parseFieldDescriptor (TX9 k).2.2.1 = some (tyX9 k) := by decide +kernel
abbrev cX9_init : ByteArray := prog_11_method_1_code
def yX9_init : MethodName := ⟨RX9, "<init>", "()V"⟩
abbrev cX9_become : ByteArray := prog_11_method_2_code
def yX9_become : MethodName := ⟨RX9, "become", "(LForkBridge$Block;LForkBridge$Block;)V"⟩
abbrev cX9_clashesWith : ByteArray := prog_11_method_3_code
def yX9_clashesWith : MethodName := ⟨RX9, "clashesWith", "(LForkBridge$Vote;)Z"⟩
abbrev cX9_surrounds : ByteArray := prog_11_method_4_code
def yX9_surrounds : MethodName := ⟨RX9, "surrounds", "(LForkBridge$Vote;)Z"⟩
def RX10 : String := "ForkBridge"
def TX10 : u_T := fun k => match k with
  | 0 => ("ForkBridge", "programs", "LForkBridge$Programs;", true)
  | 1 => ("ForkBridge", "machine", "LForkBridge$Machine;", true)
  | _ => ("ForkBridge", "chains", "[LForkBridge$Chain;", true)
def tyX10 : Nat → FieldType := fun k => match k with
  | 0 => .object "ForkBridge$Programs"
  | 1 => .object "ForkBridge$Machine"
  | _ => .array (.object "ForkBridge$Chain")
abbrev wsX100 : List Cond := u_ws RX10 TX10 3
theorem nmX10 : ∀ a, a < 3 → ∀ b, b < 3 → a ≠ b → (TX10 a).2.1 ≠ (TX10 b).2.1 := by decide +kernel
theorem tyX10_ok : ∀ k, k < 3 → parseFieldDescriptor (TX10 k).2.2.1 = some (tyX10 k) := by decide +kernel
abbrev cX10_init : ByteArray := prog_1_method_1_code
def yX10_init : MethodName := ⟨RX10, "<init>", "()V"⟩
abbrev cX10_step : ByteArray := prog_1_method_2_code
def yX10_step : MethodName := ⟨RX10, "step", "(III)I"⟩
abbrev cX10_submit : ByteArray := prog_1_method_4_code
def yX10_submit : MethodName := ⟨RX10, "submit", "(IIIIIIIII)I"⟩
abbrev cX10_claim : ByteArray := prog_1_method_5_code
def yX10_claim : MethodName := ⟨RX10, "claim", "(IIIIII)I"⟩
abbrev cX10_pool : ByteArray := prog_1_method_6_code
def yX10_pool : MethodName := ⟨RX10, "pool", "(I)I"⟩
abbrev cX10_make : ByteArray := prog_1_method_7_code
def yX10_make : MethodName := ⟨RX10, "make", "(IIII)I"⟩
abbrev cX10_head : ByteArray := prog_1_method_8_code
def yX10_head : MethodName := ⟨RX10, "head", "(I)I"⟩
abbrev cX10_base : ByteArray := prog_1_method_9_code
def yX10_base : MethodName := ⟨RX10, "base", "(II)I"⟩
abbrev cX10_used : ByteArray := prog_1_method_10_code
def yX10_used : MethodName := ⟨RX10, "used", "(II)I"⟩
abbrev cX10_coins : ByteArray := prog_1_method_15_code
def yX10_coins : MethodName := ⟨RX10, "coins", "(III)I"⟩
abbrev cX10_burned : ByteArray := prog_1_method_18_code
def yX10_burned : MethodName := ⟨RX10, "burned", "(II)I"⟩
abbrev cX10_root : ByteArray := prog_1_method_19_code
def yX10_root : MethodName := ⟨RX10, "root", "(II)I"⟩
abbrev cX10_rootAnew : ByteArray := prog_1_method_20_code
def yX10_rootAnew : MethodName := ⟨RX10, "rootAnew", "(II)I"⟩
abbrev cX10_leaf : ByteArray := prog_1_method_21_code
def yX10_leaf : MethodName := ⟨RX10, "leaf", "(III)I"⟩
abbrev cX10_proof : ByteArray := prog_1_method_22_code
def yX10_proof : MethodName := ⟨RX10, "proof", "(IIII)I"⟩
abbrev cX10_proves : ByteArray := prog_1_method_23_code
def yX10_proves : MethodName := ⟨RX10, "proves", "(IIIIIIII)Z"⟩
abbrev cX10_prune : ByteArray := prog_1_method_24_code
def yX10_prune : MethodName := ⟨RX10, "prune", "(I)I"⟩
abbrev cX10_vote : ByteArray := prog_1_method_25_code
def yX10_vote : MethodName := ⟨RX10, "vote", "(IIII)Z"⟩
abbrev cX10_isJustified : ByteArray := prog_1_method_26_code
def yX10_isJustified : MethodName := ⟨RX10, "isJustified", "(II)Z"⟩
abbrev cX10_lastFinal : ByteArray := prog_1_method_27_code
def yX10_lastFinal : MethodName := ⟨RX10, "lastFinal", "(I)I"⟩
abbrev cX10_stake : ByteArray := prog_1_method_28_code
def yX10_stake : MethodName := ⟨RX10, "stake", "(II)I"⟩
abbrev cX10_demandIndex : ByteArray := prog_1_method_29_code
def yX10_demandIndex : MethodName := ⟨RX10, "demandIndex", "(II)V"⟩
abbrev cX10_demandArgument : ByteArray := prog_1_method_30_code
def yX10_demandArgument : MethodName := ⟨RX10, "demandArgument", "(Z)V"⟩
abbrev cX10_demandRange : ByteArray := prog_1_method_31_code
def yX10_demandRange : MethodName := ⟨RX10, "demandRange", "(III)V"⟩
abbrev cX10_demandState : ByteArray := prog_1_method_32_code
def yX10_demandState : MethodName := ⟨RX10, "demandState", "(Z)V"⟩
abbrev cX10_demandChain : ByteArray := prog_1_method_33_code
def yX10_demandChain : MethodName := ⟨RX10, "demandChain", "(I)LForkBridge$Chain;"⟩
abbrev cX10_demandBlock : ByteArray := prog_1_method_34_code
def yX10_demandBlock : MethodName := ⟨RX10, "demandBlock", "(II)LForkBridge$Block;"⟩
abbrev cX10_demandState_ : ByteArray := prog_1_method_35_code
def yX10_demandState_ : MethodName := ⟨RX10, "demandState", "(III)LForkBridge$State;"⟩
abbrev cX10_at : ByteArray := prog_1_method_36_code
def yX10_at : MethodName := ⟨RX10, "at", "([II)I"⟩
abbrev cX10_put : ByteArray := prog_1_method_37_code
def yX10_put : MethodName := ⟨RX10, "put", "([III)V"⟩
abbrev cX10_mix : ByteArray := prog_1_method_38_code
def yX10_mix : MethodName := ⟨RX10, "mix", "(II)I"⟩
abbrev cX10_join : ByteArray := prog_1_method_39_code
def yX10_join : MethodName := ⟨RX10, "join", "(III)I"⟩
abbrev cX10_nodeOver : ByteArray := prog_1_method_40_code
def yX10_nodeOver : MethodName := ⟨RX10, "nodeOver", "(LForkBridge$State;II)I"⟩
def RX11 : String := "ForkBridgeModel"
def TX11 : u_T := fun k => match k with
  | _ => ("", "", "", false)
def tyX11 : Nat → FieldType := fun k => match k with
  | _ => .int
abbrev wsX110 : List Cond := u_ws RX11 TX11 0
theorem nmX11 : ∀ a, a < 0 → ∀ b, b < 0 → a ≠ b → (TX11 a).2.1 ≠ (TX11 b).2.1 := by decide +kernel
theorem tyX11_ok : ∀ k, k < 0 → parseFieldDescriptor (TX11 k).2.2.1 = some (tyX11 k) := by decide +kernel
def RJ9 : String := "java/lang/Math"
def TJ9 : u_T := fun k => match k with
  | _ => ("", "", "", false)
def tyJ9 : Nat → FieldType := fun k => match k with
  | _ => .int
abbrev wsJ90 : List Cond := u_ws RJ9 TJ9 0
theorem nmJ9 : ∀ a, a < 0 → ∀ b, b < 0 → a ≠ b → (TJ9 a).2.1 ≠ (TJ9 b).2.1 := by decide +kernel
theorem tyJ9_ok : ∀ k, k < 0 → parseFieldDescriptor (TJ9 k).2.2.1 = some (tyJ9 k) := by decide +kernel
abbrev cJ9_floorMod_7cf53 : ByteArray := prog_18_method_50_code
def yJ9_floorMod_7cf53 : MethodName := ⟨RJ9, "floorMod", "(II)I"⟩
abbrev cJ9_max_7cf53 : ByteArray := prog_18_method_65_code
def yJ9_max_7cf53 : MethodName := ⟨RJ9, "max", "(II)I"⟩
abbrev cJ9_min_7cf53 : ByteArray := prog_18_method_69_code
def yJ9_min_7cf53 : MethodName := ⟨RJ9, "min", "(II)I"⟩
def RJ10 : String := "java/lang/System"
def TJ10 : u_T := fun k => match k with
  | _ => ("", "", "", false)
def tyJ10 : Nat → FieldType := fun k => match k with
  | _ => .int
abbrev wsJ100 : List Cond := u_ws RJ10 TJ10 0
theorem nmJ10 : ∀ a, a < 0 → ∀ b, b < 0 → a ≠ b → (TJ10 a).2.1 ≠ (TJ10 b).2.1 := by decide +kernel
theorem tyJ10_ok : ∀ k, k < 0 → parseFieldDescriptor (TJ10 k).2.2.1 = some (tyJ10 k) := by decide +kernel
def RL : String := "ForkBridgeLaw"
abbrev cL_cell : ByteArray := method_2_code
def yL_cell : MethodName := ⟨RL, "cell", "([II)I"⟩
abbrev cL_low : ByteArray := method_3_code
def yL_low : MethodName := ⟨RL, "low", "(II)I"⟩
abbrev cL_steps : ByteArray := method_4_code
def yL_steps : MethodName := ⟨RL, "steps", "(LForkBridge;III)I"⟩
abbrev cL_submits : ByteArray := method_5_code
def yL_submits : MethodName := ⟨RL, "submits", "(LForkBridge;IIIIII)I"⟩
abbrev cL_claims : ByteArray := method_6_code
def yL_claims : MethodName := ⟨RL, "claims", "(LForkBridge;IIIII)I"⟩
abbrev cL_makes : ByteArray := method_7_code
def yL_makes : MethodName := ⟨RL, "makes", "(LForkBridge;IIII)I"⟩
abbrev cL_votes : ByteArray := method_8_code
def yL_votes : MethodName := ⟨RL, "votes", "(LForkBridge;IIII)I"⟩
abbrev cL_coins : ByteArray := method_9_code
def yL_coins : MethodName := ⟨RL, "coins", "(LForkBridge;III)I"⟩
abbrev cL_tell : ByteArray := method_10_code
def yL_tell : MethodName := ⟨RL, "tell", "(LForkBridge;[I)[I"⟩
abbrev cL_same : ByteArray := method_11_code
def yL_same : MethodName := ⟨RL, "same", "([I[I)Z"⟩
abbrev cL_proved : ByteArray := method_12_code
def yL_proved : MethodName := ⟨RL, "proved", "(LForkBridge;III)Z"⟩
abbrev cL_asks : ByteArray := method_13_code
def yL_asks : MethodName := ⟨RL, "asks", "(LForkBridge;[II)Z"⟩
abbrev cL_act : ByteArray := method_14_code
def yL_act : MethodName := ⟨RL, "act", "(LForkBridge;[III)I"⟩
abbrev cL_law : ByteArray := code
def yL_law : MethodName := ⟨RL, "law", "([I)Z"⟩
abbrev vwCl : List vw_C := [(RX0, TX0, 18), (RX1, TX1, 6), (RX2, TX2, 2), (RX3, TX3, 14), (RX4, TX4, 9), (RX5, TX5, 3), (RX6, TX6, 6), (RX7, TX7, 13), (RX8, TX8, 3), (RX9, TX9, 4), (RX10, TX10, 3)]
