section
-- ===== PART A: goes FIRST, ahead of the names: the tables' words, and 'selects' of the private methods out of them =====
/-- a private method of a class that the tables say can be made, by its rows of tables_1 -/
def lw_okq (q : MethodName × Nat) : Prop := (q.1.cls ≠ "java/lang/invoke/MethodHandle" ∧ q.1.cls ≠ "java/lang/invoke/VarHandle") ∧ Cond.instantiable q.1.cls q.2 ∈ tables_1 ∧ Cond.privateMethod q.1 ∈ tables_1 ∧ Cond.instanceMethod q.1 ∈ tables_1
theorem lw_p0 : lw_okq (⟨"ChairCredits$Lane", "setting", "(I)I"⟩, 13) := ⟨⟨by decide +kernel, by decide +kernel⟩, List.mem_of_getElem? (i := 26) (by decide +kernel), List.mem_of_getElem? (i := 171) (by decide +kernel), List.mem_of_getElem? (i := 172) (by decide +kernel)⟩
theorem lw_p1 : lw_okq (⟨"ChairCredits", "remember", "()V"⟩, 8) := ⟨⟨by decide +kernel, by decide +kernel⟩, List.mem_of_getElem? (i := 9) (by decide +kernel), List.mem_of_getElem? (i := 175) (by decide +kernel), List.mem_of_getElem? (i := 176) (by decide +kernel)⟩
theorem lw_p2 : lw_okq (⟨"ChairCredits", "dropOldest", "()V"⟩, 8) := ⟨⟨by decide +kernel, by decide +kernel⟩, List.mem_of_getElem? (i := 9) (by decide +kernel), List.mem_of_getElem? (i := 179) (by decide +kernel), List.mem_of_getElem? (i := 180) (by decide +kernel)⟩
theorem lw_p3 : lw_okq (⟨"ChairCredits$Box", "copyFrom", "(LChairCredits$Box;)V"⟩, 6) := ⟨⟨by decide +kernel, by decide +kernel⟩, List.mem_of_getElem? (i := 17) (by decide +kernel), List.mem_of_getElem? (i := 183) (by decide +kernel), List.mem_of_getElem? (i := 184) (by decide +kernel)⟩
theorem lw_p4 : lw_okq (⟨"ChairCredits$Lane", "copyFrom", "(LChairCredits$Lane;)V"⟩, 13) := ⟨⟨by decide +kernel, by decide +kernel⟩, List.mem_of_getElem? (i := 26) (by decide +kernel), List.mem_of_getElem? (i := 187) (by decide +kernel), List.mem_of_getElem? (i := 188) (by decide +kernel)⟩
theorem lw_p5 : lw_okq (⟨"ChairCredits$Queue", "copyFrom", "(LChairCredits$Queue;)V"⟩, 7) := ⟨⟨by decide +kernel, by decide +kernel⟩, List.mem_of_getElem? (i := 79) (by decide +kernel), List.mem_of_getElem? (i := 194) (by decide +kernel), List.mem_of_getElem? (i := 195) (by decide +kernel)⟩
theorem lw_p6 : lw_okq (⟨"ChairCredits$Lane", "change", "(II)V"⟩, 13) := ⟨⟨by decide +kernel, by decide +kernel⟩, List.mem_of_getElem? (i := 26) (by decide +kernel), List.mem_of_getElem? (i := 199) (by decide +kernel), List.mem_of_getElem? (i := 200) (by decide +kernel)⟩
theorem lw_p7 : lw_okq (⟨"ChairCredits$Queue", "isFull", "()Z"⟩, 7) := ⟨⟨by decide +kernel, by decide +kernel⟩, List.mem_of_getElem? (i := 79) (by decide +kernel), List.mem_of_getElem? (i := 214) (by decide +kernel), List.mem_of_getElem? (i := 215) (by decide +kernel)⟩
theorem lw_p8 : lw_okq (⟨"ChairCredits$Box", "admit", "(II)I"⟩, 6) := ⟨⟨by decide +kernel, by decide +kernel⟩, List.mem_of_getElem? (i := 17) (by decide +kernel), List.mem_of_getElem? (i := 218) (by decide +kernel), List.mem_of_getElem? (i := 219) (by decide +kernel)⟩
theorem lw_p9 : lw_okq (⟨"ChairCredits$Queue", "append", "(III)V"⟩, 7) := ⟨⟨by decide +kernel, by decide +kernel⟩, List.mem_of_getElem? (i := 79) (by decide +kernel), List.mem_of_getElem? (i := 222) (by decide +kernel), List.mem_of_getElem? (i := 223) (by decide +kernel)⟩
theorem lw_p10 : lw_okq (⟨"ChairCredits", "faultOfText", "()I"⟩, 8) := ⟨⟨by decide +kernel, by decide +kernel⟩, List.mem_of_getElem? (i := 9) (by decide +kernel), List.mem_of_getElem? (i := 231) (by decide +kernel), List.mem_of_getElem? (i := 232) (by decide +kernel)⟩
theorem lw_p11 : lw_okq (⟨"ChairCredits", "admitTextToTrial", "()I"⟩, 8) := ⟨⟨by decide +kernel, by decide +kernel⟩, List.mem_of_getElem? (i := 9) (by decide +kernel), List.mem_of_getElem? (i := 238) (by decide +kernel), List.mem_of_getElem? (i := 239) (by decide +kernel)⟩
theorem lw_p12 : lw_okq (⟨"ChairCredits", "tellsTimes", "(I)Z"⟩, 8) := ⟨⟨by decide +kernel, by decide +kernel⟩, List.mem_of_getElem? (i := 9) (by decide +kernel), List.mem_of_getElem? (i := 242) (by decide +kernel), List.mem_of_getElem? (i := 243) (by decide +kernel)⟩
theorem lw_p13 : lw_okq (⟨"ChairCredits$Box", "passTicks", "(I)I"⟩, 6) := ⟨⟨by decide +kernel, by decide +kernel⟩, List.mem_of_getElem? (i := 17) (by decide +kernel), List.mem_of_getElem? (i := 253) (by decide +kernel), List.mem_of_getElem? (i := 254) (by decide +kernel)⟩
theorem lw_p14 : lw_okq (⟨"ChairCredits$Box", "passTick", "()I"⟩, 6) := ⟨⟨by decide +kernel, by decide +kernel⟩, List.mem_of_getElem? (i := 17) (by decide +kernel), List.mem_of_getElem? (i := 257) (by decide +kernel), List.mem_of_getElem? (i := 258) (by decide +kernel)⟩
theorem lw_p15 : lw_okq (⟨"ChairCredits$Box", "beginTick", "()V"⟩, 6) := ⟨⟨by decide +kernel, by decide +kernel⟩, List.mem_of_getElem? (i := 17) (by decide +kernel), List.mem_of_getElem? (i := 261) (by decide +kernel), List.mem_of_getElem? (i := 262) (by decide +kernel)⟩
def lw_privs_1 : List (MethodName × Nat) := [(⟨"ChairCredits$Lane", "setting", "(I)I"⟩, 13), (⟨"ChairCredits", "remember", "()V"⟩, 8), (⟨"ChairCredits", "dropOldest", "()V"⟩, 8), (⟨"ChairCredits$Box", "copyFrom", "(LChairCredits$Box;)V"⟩, 6), (⟨"ChairCredits$Lane", "copyFrom", "(LChairCredits$Lane;)V"⟩, 13), (⟨"ChairCredits$Queue", "copyFrom", "(LChairCredits$Queue;)V"⟩, 7), (⟨"ChairCredits$Lane", "change", "(II)V"⟩, 13), (⟨"ChairCredits$Queue", "isFull", "()Z"⟩, 7), (⟨"ChairCredits$Box", "admit", "(II)I"⟩, 6), (⟨"ChairCredits$Queue", "append", "(III)V"⟩, 7), (⟨"ChairCredits", "faultOfText", "()I"⟩, 8), (⟨"ChairCredits", "admitTextToTrial", "()I"⟩, 8), (⟨"ChairCredits", "tellsTimes", "(I)Z"⟩, 8), (⟨"ChairCredits$Box", "passTicks", "(I)I"⟩, 6), (⟨"ChairCredits$Box", "passTick", "()I"⟩, 6), (⟨"ChairCredits$Box", "beginTick", "()V"⟩, 6)]
theorem lw_r1 : ∀ q ∈ lw_privs_1, lw_okq q := List.forall_mem_cons.mpr ⟨lw_p0, List.forall_mem_cons.mpr ⟨lw_p1, List.forall_mem_cons.mpr ⟨lw_p2, List.forall_mem_cons.mpr ⟨lw_p3, List.forall_mem_cons.mpr ⟨lw_p4, List.forall_mem_cons.mpr ⟨lw_p5, List.forall_mem_cons.mpr ⟨lw_p6, List.forall_mem_cons.mpr ⟨lw_p7, List.forall_mem_cons.mpr ⟨lw_p8, List.forall_mem_cons.mpr ⟨lw_p9, List.forall_mem_cons.mpr ⟨lw_p10, List.forall_mem_cons.mpr ⟨lw_p11, List.forall_mem_cons.mpr ⟨lw_p12, List.forall_mem_cons.mpr ⟨lw_p13, List.forall_mem_cons.mpr ⟨lw_p14, List.forall_mem_cons.mpr ⟨lw_p15, fun _ h => absurd h List.not_mem_nil⟩⟩⟩⟩⟩⟩⟩⟩⟩⟩⟩⟩⟩⟩⟩⟩
theorem lw_p16 : lw_okq (⟨"ChairCredits$Lane", "letCreditsCome", "(I)V"⟩, 13) := ⟨⟨by decide +kernel, by decide +kernel⟩, List.mem_of_getElem? (i := 26) (by decide +kernel), List.mem_of_getElem? (i := 265) (by decide +kernel), List.mem_of_getElem? (i := 266) (by decide +kernel)⟩
theorem lw_p17 : lw_okq (⟨"ChairCredits$Lane", "creditComes", "(I)Z"⟩, 13) := ⟨⟨by decide +kernel, by decide +kernel⟩, List.mem_of_getElem? (i := 26) (by decide +kernel), List.mem_of_getElem? (i := 269) (by decide +kernel), List.mem_of_getElem? (i := 270) (by decide +kernel)⟩
theorem lw_p18 : lw_okq (⟨"ChairCredits$Lane", "dropFirstOnTheWay", "()V"⟩, 13) := ⟨⟨by decide +kernel, by decide +kernel⟩, List.mem_of_getElem? (i := 26) (by decide +kernel), List.mem_of_getElem? (i := 273) (by decide +kernel), List.mem_of_getElem? (i := 274) (by decide +kernel)⟩
theorem lw_p19 : lw_okq (⟨"ChairCredits$Lane", "mend", "()V"⟩, 13) := ⟨⟨by decide +kernel, by decide +kernel⟩, List.mem_of_getElem? (i := 26) (by decide +kernel), List.mem_of_getElem? (i := 277) (by decide +kernel), List.mem_of_getElem? (i := 278) (by decide +kernel)⟩
theorem lw_p20 : lw_okq (⟨"ChairCredits$Lane", "missing", "()I"⟩, 13) := ⟨⟨by decide +kernel, by decide +kernel⟩, List.mem_of_getElem? (i := 26) (by decide +kernel), List.mem_of_getElem? (i := 281) (by decide +kernel), List.mem_of_getElem? (i := 282) (by decide +kernel)⟩
theorem lw_p21 : lw_okq (⟨"ChairCredits$Box", "sendTo", "(I)I"⟩, 6) := ⟨⟨by decide +kernel, by decide +kernel⟩, List.mem_of_getElem? (i := 17) (by decide +kernel), List.mem_of_getElem? (i := 285) (by decide +kernel), List.mem_of_getElem? (i := 286) (by decide +kernel)⟩
theorem lw_p22 : lw_okq (⟨"ChairCredits$Queue", "offerFor", "(II)I"⟩, 7) := ⟨⟨by decide +kernel, by decide +kernel⟩, List.mem_of_getElem? (i := 79) (by decide +kernel), List.mem_of_getElem? (i := 289) (by decide +kernel), List.mem_of_getElem? (i := 290) (by decide +kernel)⟩
theorem lw_p23 : lw_okq (⟨"ChairCredits$Queue", "sendFrom", "(I)I"⟩, 7) := ⟨⟨by decide +kernel, by decide +kernel⟩, List.mem_of_getElem? (i := 79) (by decide +kernel), List.mem_of_getElem? (i := 296) (by decide +kernel), List.mem_of_getElem? (i := 297) (by decide +kernel)⟩
theorem lw_p24 : lw_okq (⟨"ChairCredits$Lane", "receive", "(I)V"⟩, 13) := ⟨⟨by decide +kernel, by decide +kernel⟩, List.mem_of_getElem? (i := 26) (by decide +kernel), List.mem_of_getElem? (i := 300) (by decide +kernel), List.mem_of_getElem? (i := 301) (by decide +kernel)⟩
theorem lw_p25 : lw_okq (⟨"ChairCredits$Lane", "takeIfDue", "(I)V"⟩, 13) := ⟨⟨by decide +kernel, by decide +kernel⟩, List.mem_of_getElem? (i := 26) (by decide +kernel), List.mem_of_getElem? (i := 304) (by decide +kernel), List.mem_of_getElem? (i := 305) (by decide +kernel)⟩
theorem lw_p26 : lw_okq (⟨"ChairCredits$Lane", "sendCreditBack", "(I)V"⟩, 13) := ⟨⟨by decide +kernel, by decide +kernel⟩, List.mem_of_getElem? (i := 26) (by decide +kernel), List.mem_of_getElem? (i := 308) (by decide +kernel), List.mem_of_getElem? (i := 309) (by decide +kernel)⟩
theorem lw_p27 : lw_okq (⟨"ChairCredits$Queue", "countBlocked", "()V"⟩, 7) := ⟨⟨by decide +kernel, by decide +kernel⟩, List.mem_of_getElem? (i := 79) (by decide +kernel), List.mem_of_getElem? (i := 312) (by decide +kernel), List.mem_of_getElem? (i := 313) (by decide +kernel)⟩
theorem lw_p28 : lw_okq (⟨"ChairCredits$Lane", "loseFirst", "()V"⟩, 13) := ⟨⟨by decide +kernel, by decide +kernel⟩, List.mem_of_getElem? (i := 26) (by decide +kernel), List.mem_of_getElem? (i := 320) (by decide +kernel), List.mem_of_getElem? (i := 321) (by decide +kernel)⟩
theorem lw_p29 : lw_okq (⟨"ChairCredits$Box", "waitingFor", "(I)I"⟩, 6) := ⟨⟨by decide +kernel, by decide +kernel⟩, List.mem_of_getElem? (i := 17) (by decide +kernel), List.mem_of_getElem? (i := 358) (by decide +kernel), List.mem_of_getElem? (i := 359) (by decide +kernel)⟩
theorem lw_p30 : lw_okq (⟨"ChairCredits$Queue", "waitingFor", "(I)I"⟩, 7) := ⟨⟨by decide +kernel, by decide +kernel⟩, List.mem_of_getElem? (i := 79) (by decide +kernel), List.mem_of_getElem? (i := 362) (by decide +kernel), List.mem_of_getElem? (i := 363) (by decide +kernel)⟩
theorem lw_p31 : lw_okq (⟨"ChairCredits$Box", "isStuck", "(I)Z"⟩, 6) := ⟨⟨by decide +kernel, by decide +kernel⟩, List.mem_of_getElem? (i := 17) (by decide +kernel), List.mem_of_getElem? (i := 366) (by decide +kernel), List.mem_of_getElem? (i := 367) (by decide +kernel)⟩
def lw_privs_2 : List (MethodName × Nat) := [(⟨"ChairCredits$Lane", "letCreditsCome", "(I)V"⟩, 13), (⟨"ChairCredits$Lane", "creditComes", "(I)Z"⟩, 13), (⟨"ChairCredits$Lane", "dropFirstOnTheWay", "()V"⟩, 13), (⟨"ChairCredits$Lane", "mend", "()V"⟩, 13), (⟨"ChairCredits$Lane", "missing", "()I"⟩, 13), (⟨"ChairCredits$Box", "sendTo", "(I)I"⟩, 6), (⟨"ChairCredits$Queue", "offerFor", "(II)I"⟩, 7), (⟨"ChairCredits$Queue", "sendFrom", "(I)I"⟩, 7), (⟨"ChairCredits$Lane", "receive", "(I)V"⟩, 13), (⟨"ChairCredits$Lane", "takeIfDue", "(I)V"⟩, 13), (⟨"ChairCredits$Lane", "sendCreditBack", "(I)V"⟩, 13), (⟨"ChairCredits$Queue", "countBlocked", "()V"⟩, 7), (⟨"ChairCredits$Lane", "loseFirst", "()V"⟩, 13), (⟨"ChairCredits$Box", "waitingFor", "(I)I"⟩, 6), (⟨"ChairCredits$Queue", "waitingFor", "(I)I"⟩, 7), (⟨"ChairCredits$Box", "isStuck", "(I)Z"⟩, 6)]
theorem lw_r2 : ∀ q ∈ lw_privs_2, lw_okq q := List.forall_mem_cons.mpr ⟨lw_p16, List.forall_mem_cons.mpr ⟨lw_p17, List.forall_mem_cons.mpr ⟨lw_p18, List.forall_mem_cons.mpr ⟨lw_p19, List.forall_mem_cons.mpr ⟨lw_p20, List.forall_mem_cons.mpr ⟨lw_p21, List.forall_mem_cons.mpr ⟨lw_p22, List.forall_mem_cons.mpr ⟨lw_p23, List.forall_mem_cons.mpr ⟨lw_p24, List.forall_mem_cons.mpr ⟨lw_p25, List.forall_mem_cons.mpr ⟨lw_p26, List.forall_mem_cons.mpr ⟨lw_p27, List.forall_mem_cons.mpr ⟨lw_p28, List.forall_mem_cons.mpr ⟨lw_p29, List.forall_mem_cons.mpr ⟨lw_p30, List.forall_mem_cons.mpr ⟨lw_p31, fun _ h => absurd h List.not_mem_nil⟩⟩⟩⟩⟩⟩⟩⟩⟩⟩⟩⟩⟩⟩⟩⟩
theorem lw_p32 : lw_okq (⟨"ChairCredits$Lane", "isDry", "()Z"⟩, 13) := ⟨⟨by decide +kernel, by decide +kernel⟩, List.mem_of_getElem? (i := 26) (by decide +kernel), List.mem_of_getElem? (i := 370) (by decide +kernel), List.mem_of_getElem? (i := 371) (by decide +kernel)⟩
theorem lw_p33 : lw_okq (⟨"ChairCredits$Lane", "figure", "(I)I"⟩, 13) := ⟨⟨by decide +kernel, by decide +kernel⟩, List.mem_of_getElem? (i := 26) (by decide +kernel), List.mem_of_getElem? (i := 375) (by decide +kernel), List.mem_of_getElem? (i := 376) (by decide +kernel)⟩
theorem lw_p34 : lw_okq (⟨"ChairCredits$Queue", "figure", "(I)I"⟩, 7) := ⟨⟨by decide +kernel, by decide +kernel⟩, List.mem_of_getElem? (i := 79) (by decide +kernel), List.mem_of_getElem? (i := 391) (by decide +kernel), List.mem_of_getElem? (i := 392) (by decide +kernel)⟩
theorem lw_p35 : lw_okq (⟨"ChairCredits$Queue", "packetFigure", "(II)I"⟩, 7) := ⟨⟨by decide +kernel, by decide +kernel⟩, List.mem_of_getElem? (i := 79) (by decide +kernel), List.mem_of_getElem? (i := 399) (by decide +kernel), List.mem_of_getElem? (i := 400) (by decide +kernel)⟩
theorem lw_p36 : lw_okq (⟨"ChairCredits$Queue", "holds", "(I)Z"⟩, 7) := ⟨⟨by decide +kernel, by decide +kernel⟩, List.mem_of_getElem? (i := 79) (by decide +kernel), List.mem_of_getElem? (i := 414) (by decide +kernel), List.mem_of_getElem? (i := 415) (by decide +kernel)⟩
theorem lw_p37 : lw_okq (⟨"ChairCredits$Box", "figure", "(I)I"⟩, 6) := ⟨⟨by decide +kernel, by decide +kernel⟩, List.mem_of_getElem? (i := 17) (by decide +kernel), List.mem_of_getElem? (i := 426) (by decide +kernel), List.mem_of_getElem? (i := 427) (by decide +kernel)⟩
theorem lw_p38 : lw_okq (⟨"ChairCredits$Box", "sumOfQueues", "(I)I"⟩, 6) := ⟨⟨by decide +kernel, by decide +kernel⟩, List.mem_of_getElem? (i := 17) (by decide +kernel), List.mem_of_getElem? (i := 430) (by decide +kernel), List.mem_of_getElem? (i := 431) (by decide +kernel)⟩
theorem lw_p39 : lw_okq (⟨"ChairCredits$Box", "sumOfLanes", "(I)I"⟩, 6) := ⟨⟨by decide +kernel, by decide +kernel⟩, List.mem_of_getElem? (i := 17) (by decide +kernel), List.mem_of_getElem? (i := 435) (by decide +kernel), List.mem_of_getElem? (i := 436) (by decide +kernel)⟩
theorem lw_p40 : lw_okq (⟨"ChairCredits$Box", "stuckLanes", "()I"⟩, 6) := ⟨⟨by decide +kernel, by decide +kernel⟩, List.mem_of_getElem? (i := 17) (by decide +kernel), List.mem_of_getElem? (i := 440) (by decide +kernel), List.mem_of_getElem? (i := 441) (by decide +kernel)⟩
theorem lw_p41 : lw_okq (⟨"ChairCreditsModel", "lay", "(III)V"⟩, 11) := ⟨⟨by decide +kernel, by decide +kernel⟩, List.mem_of_getElem? (i := 445) (by decide +kernel), List.mem_of_getElem? (i := 451) (by decide +kernel), List.mem_of_getElem? (i := 452) (by decide +kernel)⟩
theorem lw_p42 : lw_okq (⟨"ChairCreditsModel", "open", "()V"⟩, 11) := ⟨⟨by decide +kernel, by decide +kernel⟩, List.mem_of_getElem? (i := 445) (by decide +kernel), List.mem_of_getElem? (i := 502) (by decide +kernel), List.mem_of_getElem? (i := 503) (by decide +kernel)⟩
theorem lw_p43 : lw_okq (⟨"ChairCreditsModel", "remember", "()V"⟩, 11) := ⟨⟨by decide +kernel, by decide +kernel⟩, List.mem_of_getElem? (i := 445) (by decide +kernel), List.mem_of_getElem? (i := 506) (by decide +kernel), List.mem_of_getElem? (i := 507) (by decide +kernel)⟩
theorem lw_p44 : lw_okq (⟨"ChairCreditsModel", "record", "()V"⟩, 11) := ⟨⟨by decide +kernel, by decide +kernel⟩, List.mem_of_getElem? (i := 445) (by decide +kernel), List.mem_of_getElem? (i := 510) (by decide +kernel), List.mem_of_getElem? (i := 511) (by decide +kernel)⟩
theorem lw_p45 : lw_okq (⟨"ChairCreditsModel", "of", "(II)I"⟩, 11) := ⟨⟨by decide +kernel, by decide +kernel⟩, List.mem_of_getElem? (i := 445) (by decide +kernel), List.mem_of_getElem? (i := 524) (by decide +kernel), List.mem_of_getElem? (i := 525) (by decide +kernel)⟩
theorem lw_p46 : lw_okq (⟨"ChairCreditsModel", "more", "(III)V"⟩, 11) := ⟨⟨by decide +kernel, by decide +kernel⟩, List.mem_of_getElem? (i := 445) (by decide +kernel), List.mem_of_getElem? (i := 528) (by decide +kernel), List.mem_of_getElem? (i := 529) (by decide +kernel)⟩
theorem lw_p47 : lw_okq (⟨"ChairCreditsModel", "by", "(II)I"⟩, 11) := ⟨⟨by decide +kernel, by decide +kernel⟩, List.mem_of_getElem? (i := 445) (by decide +kernel), List.mem_of_getElem? (i := 540) (by decide +kernel), List.mem_of_getElem? (i := 541) (by decide +kernel)⟩
def lw_privs_3 : List (MethodName × Nat) := [(⟨"ChairCredits$Lane", "isDry", "()Z"⟩, 13), (⟨"ChairCredits$Lane", "figure", "(I)I"⟩, 13), (⟨"ChairCredits$Queue", "figure", "(I)I"⟩, 7), (⟨"ChairCredits$Queue", "packetFigure", "(II)I"⟩, 7), (⟨"ChairCredits$Queue", "holds", "(I)Z"⟩, 7), (⟨"ChairCredits$Box", "figure", "(I)I"⟩, 6), (⟨"ChairCredits$Box", "sumOfQueues", "(I)I"⟩, 6), (⟨"ChairCredits$Box", "sumOfLanes", "(I)I"⟩, 6), (⟨"ChairCredits$Box", "stuckLanes", "()I"⟩, 6), (⟨"ChairCreditsModel", "lay", "(III)V"⟩, 11), (⟨"ChairCreditsModel", "open", "()V"⟩, 11), (⟨"ChairCreditsModel", "remember", "()V"⟩, 11), (⟨"ChairCreditsModel", "record", "()V"⟩, 11), (⟨"ChairCreditsModel", "of", "(II)I"⟩, 11), (⟨"ChairCreditsModel", "more", "(III)V"⟩, 11), (⟨"ChairCreditsModel", "by", "(II)I"⟩, 11)]
theorem lw_r3 : ∀ q ∈ lw_privs_3, lw_okq q := List.forall_mem_cons.mpr ⟨lw_p32, List.forall_mem_cons.mpr ⟨lw_p33, List.forall_mem_cons.mpr ⟨lw_p34, List.forall_mem_cons.mpr ⟨lw_p35, List.forall_mem_cons.mpr ⟨lw_p36, List.forall_mem_cons.mpr ⟨lw_p37, List.forall_mem_cons.mpr ⟨lw_p38, List.forall_mem_cons.mpr ⟨lw_p39, List.forall_mem_cons.mpr ⟨lw_p40, List.forall_mem_cons.mpr ⟨lw_p41, List.forall_mem_cons.mpr ⟨lw_p42, List.forall_mem_cons.mpr ⟨lw_p43, List.forall_mem_cons.mpr ⟨lw_p44, List.forall_mem_cons.mpr ⟨lw_p45, List.forall_mem_cons.mpr ⟨lw_p46, List.forall_mem_cons.mpr ⟨lw_p47, fun _ h => absurd h List.not_mem_nil⟩⟩⟩⟩⟩⟩⟩⟩⟩⟩⟩⟩⟩⟩⟩⟩
theorem lw_p48 : lw_okq (⟨"ChairCreditsModel", "bring", "(II)V"⟩, 11) := ⟨⟨by decide +kernel, by decide +kernel⟩, List.mem_of_getElem? (i := 445) (by decide +kernel), List.mem_of_getElem? (i := 544) (by decide +kernel), List.mem_of_getElem? (i := 545) (by decide +kernel)⟩
theorem lw_p49 : lw_okq (⟨"ChairCreditsModel", "arrivals", "(Z)I"⟩, 11) := ⟨⟨by decide +kernel, by decide +kernel⟩, List.mem_of_getElem? (i := 445) (by decide +kernel), List.mem_of_getElem? (i := 552) (by decide +kernel), List.mem_of_getElem? (i := 553) (by decide +kernel)⟩
theorem lw_p50 : lw_okq (⟨"ChairCreditsModel", "arrival", "(Z)I"⟩, 11) := ⟨⟨by decide +kernel, by decide +kernel⟩, List.mem_of_getElem? (i := 445) (by decide +kernel), List.mem_of_getElem? (i := 556) (by decide +kernel), List.mem_of_getElem? (i := 557) (by decide +kernel)⟩
theorem lw_p51 : lw_okq (⟨"ChairCreditsModel", "sees", "(CC)Z"⟩, 11) := ⟨⟨by decide +kernel, by decide +kernel⟩, List.mem_of_getElem? (i := 445) (by decide +kernel), List.mem_of_getElem? (i := 560) (by decide +kernel), List.mem_of_getElem? (i := 561) (by decide +kernel)⟩
theorem lw_p52 : lw_okq (⟨"ChairCreditsModel", "goBack", "()V"⟩, 11) := ⟨⟨by decide +kernel, by decide +kernel⟩, List.mem_of_getElem? (i := 445) (by decide +kernel), List.mem_of_getElem? (i := 564) (by decide +kernel), List.mem_of_getElem? (i := 565) (by decide +kernel)⟩
theorem lw_p53 : lw_okq (⟨"ChairCreditsModel", "passAll", "(I)I"⟩, 11) := ⟨⟨by decide +kernel, by decide +kernel⟩, List.mem_of_getElem? (i := 445) (by decide +kernel), List.mem_of_getElem? (i := 572) (by decide +kernel), List.mem_of_getElem? (i := 573) (by decide +kernel)⟩
theorem lw_p54 : lw_okq (⟨"ChairCreditsModel", "tick", "()I"⟩, 11) := ⟨⟨by decide +kernel, by decide +kernel⟩, List.mem_of_getElem? (i := 445) (by decide +kernel), List.mem_of_getElem? (i := 576) (by decide +kernel), List.mem_of_getElem? (i := 577) (by decide +kernel)⟩
theorem lw_p55 : lw_okq (⟨"ChairCreditsModel", "come", "(I)V"⟩, 11) := ⟨⟨by decide +kernel, by decide +kernel⟩, List.mem_of_getElem? (i := 445) (by decide +kernel), List.mem_of_getElem? (i := 580) (by decide +kernel), List.mem_of_getElem? (i := 581) (by decide +kernel)⟩
theorem lw_p56 : lw_okq (⟨"ChairCreditsModel", "dropFirst", "(I)V"⟩, 11) := ⟨⟨by decide +kernel, by decide +kernel⟩, List.mem_of_getElem? (i := 445) (by decide +kernel), List.mem_of_getElem? (i := 584) (by decide +kernel), List.mem_of_getElem? (i := 585) (by decide +kernel)⟩
theorem lw_p57 : lw_okq (⟨"ChairCreditsModel", "missing", "(I)I"⟩, 11) := ⟨⟨by decide +kernel, by decide +kernel⟩, List.mem_of_getElem? (i := 445) (by decide +kernel), List.mem_of_getElem? (i := 588) (by decide +kernel), List.mem_of_getElem? (i := 589) (by decide +kernel)⟩
theorem lw_p58 : lw_okq (⟨"ChairCreditsModel", "send", "(I)I"⟩, 11) := ⟨⟨by decide +kernel, by decide +kernel⟩, List.mem_of_getElem? (i := 445) (by decide +kernel), List.mem_of_getElem? (i := 592) (by decide +kernel), List.mem_of_getElem? (i := 593) (by decide +kernel)⟩
theorem lw_p59 : lw_okq (⟨"ChairCreditsModel", "offer", "(II)I"⟩, 11) := ⟨⟨by decide +kernel, by decide +kernel⟩, List.mem_of_getElem? (i := 445) (by decide +kernel), List.mem_of_getElem? (i := 596) (by decide +kernel), List.mem_of_getElem? (i := 597) (by decide +kernel)⟩
theorem lw_p60 : lw_okq (⟨"ChairCreditsModel", "leave", "(II)I"⟩, 11) := ⟨⟨by decide +kernel, by decide +kernel⟩, List.mem_of_getElem? (i := 445) (by decide +kernel), List.mem_of_getElem? (i := 600) (by decide +kernel), List.mem_of_getElem? (i := 601) (by decide +kernel)⟩
theorem lw_p61 : lw_okq (⟨"ChairCreditsModel", "take", "(I)V"⟩, 11) := ⟨⟨by decide +kernel, by decide +kernel⟩, List.mem_of_getElem? (i := 445) (by decide +kernel), List.mem_of_getElem? (i := 604) (by decide +kernel), List.mem_of_getElem? (i := 605) (by decide +kernel)⟩
theorem lw_p62 : lw_okq (⟨"ChairCreditsModel", "waiting", "(I)I"⟩, 11) := ⟨⟨by decide +kernel, by decide +kernel⟩, List.mem_of_getElem? (i := 445) (by decide +kernel), List.mem_of_getElem? (i := 632) (by decide +kernel), List.mem_of_getElem? (i := 633) (by decide +kernel)⟩
theorem lw_p63 : lw_okq (⟨"ChairCreditsModel", "isStuck", "(I)Z"⟩, 11) := ⟨⟨by decide +kernel, by decide +kernel⟩, List.mem_of_getElem? (i := 445) (by decide +kernel), List.mem_of_getElem? (i := 636) (by decide +kernel), List.mem_of_getElem? (i := 637) (by decide +kernel)⟩
def lw_privs_4 : List (MethodName × Nat) := [(⟨"ChairCreditsModel", "bring", "(II)V"⟩, 11), (⟨"ChairCreditsModel", "arrivals", "(Z)I"⟩, 11), (⟨"ChairCreditsModel", "arrival", "(Z)I"⟩, 11), (⟨"ChairCreditsModel", "sees", "(CC)Z"⟩, 11), (⟨"ChairCreditsModel", "goBack", "()V"⟩, 11), (⟨"ChairCreditsModel", "passAll", "(I)I"⟩, 11), (⟨"ChairCreditsModel", "tick", "()I"⟩, 11), (⟨"ChairCreditsModel", "come", "(I)V"⟩, 11), (⟨"ChairCreditsModel", "dropFirst", "(I)V"⟩, 11), (⟨"ChairCreditsModel", "missing", "(I)I"⟩, 11), (⟨"ChairCreditsModel", "send", "(I)I"⟩, 11), (⟨"ChairCreditsModel", "offer", "(II)I"⟩, 11), (⟨"ChairCreditsModel", "leave", "(II)I"⟩, 11), (⟨"ChairCreditsModel", "take", "(I)V"⟩, 11), (⟨"ChairCreditsModel", "waiting", "(I)I"⟩, 11), (⟨"ChairCreditsModel", "isStuck", "(I)Z"⟩, 11)]
theorem lw_r4 : ∀ q ∈ lw_privs_4, lw_okq q := List.forall_mem_cons.mpr ⟨lw_p48, List.forall_mem_cons.mpr ⟨lw_p49, List.forall_mem_cons.mpr ⟨lw_p50, List.forall_mem_cons.mpr ⟨lw_p51, List.forall_mem_cons.mpr ⟨lw_p52, List.forall_mem_cons.mpr ⟨lw_p53, List.forall_mem_cons.mpr ⟨lw_p54, List.forall_mem_cons.mpr ⟨lw_p55, List.forall_mem_cons.mpr ⟨lw_p56, List.forall_mem_cons.mpr ⟨lw_p57, List.forall_mem_cons.mpr ⟨lw_p58, List.forall_mem_cons.mpr ⟨lw_p59, List.forall_mem_cons.mpr ⟨lw_p60, List.forall_mem_cons.mpr ⟨lw_p61, List.forall_mem_cons.mpr ⟨lw_p62, List.forall_mem_cons.mpr ⟨lw_p63, fun _ h => absurd h List.not_mem_nil⟩⟩⟩⟩⟩⟩⟩⟩⟩⟩⟩⟩⟩⟩⟩⟩
theorem lw_p64 : lw_okq (⟨"ChairCreditsModel", "waits", "(II)Z"⟩, 11) := ⟨⟨by decide +kernel, by decide +kernel⟩, List.mem_of_getElem? (i := 445) (by decide +kernel), List.mem_of_getElem? (i := 664) (by decide +kernel), List.mem_of_getElem? (i := 665) (by decide +kernel)⟩
theorem lw_p65 : lw_okq (⟨"ChairCreditsModel", "over", "(IZ)I"⟩, 11) := ⟨⟨by decide +kernel, by decide +kernel⟩, List.mem_of_getElem? (i := 445) (by decide +kernel), List.mem_of_getElem? (i := 676) (by decide +kernel), List.mem_of_getElem? (i := 677) (by decide +kernel)⟩
theorem lw_p66 : lw_okq (⟨"ChairCreditsModel", "stuckOnes", "()I"⟩, 11) := ⟨⟨by decide +kernel, by decide +kernel⟩, List.mem_of_getElem? (i := 445) (by decide +kernel), List.mem_of_getElem? (i := 680) (by decide +kernel), List.mem_of_getElem? (i := 681) (by decide +kernel)⟩
def lw_privs_5 : List (MethodName × Nat) := [(⟨"ChairCreditsModel", "waits", "(II)Z"⟩, 11), (⟨"ChairCreditsModel", "over", "(IZ)I"⟩, 11), (⟨"ChairCreditsModel", "stuckOnes", "()I"⟩, 11)]
theorem lw_r5 : ∀ q ∈ lw_privs_5, lw_okq q := List.forall_mem_cons.mpr ⟨lw_p64, List.forall_mem_cons.mpr ⟨lw_p65, List.forall_mem_cons.mpr ⟨lw_p66, fun _ h => absurd h List.not_mem_nil⟩⟩⟩
def lw_privs : List (MethodName × Nat) := lw_privs_1 ++ (lw_privs_2 ++ (lw_privs_3 ++ (lw_privs_4 ++ (lw_privs_5))))
def lw_tbl : List Cond := k2_sels lw_privs ++ tables_1
theorem lw_privs_ok : ∀ q ∈ lw_privs, lw_okq q := by
  show ∀ q ∈ lw_privs_1 ++ (lw_privs_2 ++ (lw_privs_3 ++ (lw_privs_4 ++ (lw_privs_5)))), lw_okq q
  exact List.forall_mem_append.mpr ⟨lw_r1, List.forall_mem_append.mpr ⟨lw_r2, List.forall_mem_append.mpr ⟨lw_r3, List.forall_mem_append.mpr ⟨lw_r4, lw_r5⟩⟩⟩⟩
def RX0 : String := "ChairCredits$Box"
def TX0 : u_T := fun k => match k with
  | 0 => ("ChairCredits$Box", "tick", "I", false)
  | 1 => ("ChairCredits$Box", "mode", "I", false)
  | 2 => ("ChairCredits$Box", "watch", "I", false)
  | 3 => ("ChairCredits$Box", "arrived", "I", false)
  | 4 => ("ChairCredits$Box", "lanes", "[LChairCredits$Lane;", true)
  | _ => ("ChairCredits$Box", "queues", "[LChairCredits$Queue;", true)
def tyX0 : Nat → FieldType := fun k => match k with
  | 0 => .int
  | 1 => .int
  | 2 => .int
  | 3 => .int
  | 4 => .array (.object "ChairCredits$Lane")
  | _ => .array (.object "ChairCredits$Queue")
abbrev wsX00 : List Cond := u_ws RX0 TX0 6
theorem nmX0 : ∀ a, a < 6 → ∀ b, b < 6 → a ≠ b → (TX0 a).2.1 ≠ (TX0 b).2.1 := by decide +kernel
theorem tyX0_ok : ∀ k, k < 6 → parseFieldDescriptor (TX0 k).2.2.1 = some (tyX0 k) := by decide +kernel
abbrev cX0_init : ByteArray := prog_2_method_1_code
def yX0_init : MethodName := ⟨RX0, "<init>", "()V"⟩
abbrev cX0_copyFrom : ByteArray := prog_2_method_2_code
def yX0_copyFrom : MethodName := ⟨RX0, "copyFrom", "(LChairCredits$Box;)V"⟩
abbrev cX0_admit : ByteArray := prog_2_method_3_code
def yX0_admit : MethodName := ⟨RX0, "admit", "(II)I"⟩
abbrev cX0_passTicks : ByteArray := prog_2_method_4_code
def yX0_passTicks : MethodName := ⟨RX0, "passTicks", "(I)I"⟩
abbrev cX0_passTick : ByteArray := prog_2_method_5_code
def yX0_passTick : MethodName := ⟨RX0, "passTick", "()I"⟩
abbrev cX0_beginTick : ByteArray := prog_2_method_6_code
def yX0_beginTick : MethodName := ⟨RX0, "beginTick", "()V"⟩
abbrev cX0_sendTo : ByteArray := prog_2_method_7_code
def yX0_sendTo : MethodName := ⟨RX0, "sendTo", "(I)I"⟩
abbrev cX0_waitingFor : ByteArray := prog_2_method_8_code
def yX0_waitingFor : MethodName := ⟨RX0, "waitingFor", "(I)I"⟩
abbrev cX0_isStuck : ByteArray := prog_2_method_9_code
def yX0_isStuck : MethodName := ⟨RX0, "isStuck", "(I)Z"⟩
abbrev cX0_stuckLanes : ByteArray := prog_2_method_10_code
def yX0_stuckLanes : MethodName := ⟨RX0, "stuckLanes", "()I"⟩
abbrev cX0_figure : ByteArray := prog_2_method_11_code
def yX0_figure : MethodName := ⟨RX0, "figure", "(I)I"⟩
abbrev cX0_sumOfLanes : ByteArray := prog_2_method_12_code
def yX0_sumOfLanes : MethodName := ⟨RX0, "sumOfLanes", "(I)I"⟩
abbrev cX0_sumOfQueues : ByteArray := prog_2_method_13_code
def yX0_sumOfQueues : MethodName := ⟨RX0, "sumOfQueues", "(I)I"⟩
def RX1 : String := "ChairCredits$Lane"
def TX1 : u_T := fun k => match k with
  | 0 => ("ChairCredits$Lane", "chairs", "I", false)
  | 1 => ("ChairCredits$Lane", "period", "I", false)
  | 2 => ("ChairCredits$Lane", "delay", "I", false)
  | 3 => ("ChairCredits$Lane", "credits", "I", false)
  | 4 => ("ChairCredits$Lane", "turn", "I", false)
  | 5 => ("ChairCredits$Lane", "sent", "I", false)
  | 6 => ("ChairCredits$Lane", "taken", "I", false)
  | 7 => ("ChairCredits$Lane", "spilled", "I", false)
  | 8 => ("ChairCredits$Lane", "lost", "I", false)
  | 9 => ("ChairCredits$Lane", "seatedNumbers", "[I", true)
  | 10 => ("ChairCredits$Lane", "seatedSize", "I", false)
  | 11 => ("ChairCredits$Lane", "wayTicks", "[I", true)
  | _ => ("ChairCredits$Lane", "wayLength", "I", false)
def tyX1 : Nat → FieldType := fun k => match k with
  | 0 => .int
  | 1 => .int
  | 2 => .int
  | 3 => .int
  | 4 => .int
  | 5 => .int
  | 6 => .int
  | 7 => .int
  | 8 => .int
  | 9 => .array .int
  | 10 => .int
  | 11 => .array .int
  | _ => .int
abbrev wsX10 : List Cond := u_ws RX1 TX1 13
theorem nmX1 : ∀ a, a < 13 → ∀ b, b < 13 → a ≠ b → (TX1 a).2.1 ≠ (TX1 b).2.1 := by decide +kernel
theorem tyX1_ok : ∀ k, k < 13 → parseFieldDescriptor (TX1 k).2.2.1 = some (tyX1 k) := by decide +kernel
abbrev cX1_init : ByteArray := prog_3_method_1_code
def yX1_init : MethodName := ⟨RX1, "<init>", "()V"⟩
abbrev cX1_copyFrom : ByteArray := prog_3_method_2_code
def yX1_copyFrom : MethodName := ⟨RX1, "copyFrom", "(LChairCredits$Lane;)V"⟩
abbrev cX1_setting : ByteArray := prog_3_method_3_code
def yX1_setting : MethodName := ⟨RX1, "setting", "(I)I"⟩
abbrev cX1_change : ByteArray := prog_3_method_4_code
def yX1_change : MethodName := ⟨RX1, "change", "(II)V"⟩
abbrev cX1_missing : ByteArray := prog_3_method_5_code
def yX1_missing : MethodName := ⟨RX1, "missing", "()I"⟩
abbrev cX1_mend : ByteArray := prog_3_method_6_code
def yX1_mend : MethodName := ⟨RX1, "mend", "()V"⟩
abbrev cX1_isDry : ByteArray := prog_3_method_7_code
def yX1_isDry : MethodName := ⟨RX1, "isDry", "()Z"⟩
abbrev cX1_letCreditsCome : ByteArray := prog_3_method_8_code
def yX1_letCreditsCome : MethodName := ⟨RX1, "letCreditsCome", "(I)V"⟩
abbrev cX1_creditComes : ByteArray := prog_3_method_9_code
def yX1_creditComes : MethodName := ⟨RX1, "creditComes", "(I)Z"⟩
abbrev cX1_loseFirst : ByteArray := prog_3_method_10_code
def yX1_loseFirst : MethodName := ⟨RX1, "loseFirst", "()V"⟩
abbrev cX1_dropFirstOnTheWay : ByteArray := prog_3_method_11_code
def yX1_dropFirstOnTheWay : MethodName := ⟨RX1, "dropFirstOnTheWay", "()V"⟩
abbrev cX1_receive : ByteArray := prog_3_method_12_code
def yX1_receive : MethodName := ⟨RX1, "receive", "(I)V"⟩
abbrev cX1_takeIfDue : ByteArray := prog_3_method_13_code
def yX1_takeIfDue : MethodName := ⟨RX1, "takeIfDue", "(I)V"⟩
abbrev cX1_sendCreditBack : ByteArray := prog_3_method_14_code
def yX1_sendCreditBack : MethodName := ⟨RX1, "sendCreditBack", "(I)V"⟩
abbrev cX1_figure : ByteArray := prog_3_method_15_code
def yX1_figure : MethodName := ⟨RX1, "figure", "(I)I"⟩
def RX2 : String := "ChairCredits$Queue"
def TX2 : u_T := fun k => match k with
  | 0 => ("ChairCredits$Queue", "numbers", "[I", true)
  | 1 => ("ChairCredits$Queue", "outputs", "[I", true)
  | 2 => ("ChairCredits$Queue", "arrivalTicks", "[I", true)
  | 3 => ("ChairCredits$Queue", "size", "I", false)
  | 4 => ("ChairCredits$Queue", "blocked", "I", false)
  | 5 => ("ChairCredits$Queue", "sent", "I", false)
  | _ => ("ChairCredits$Queue", "hasSent", "Z", false)
def tyX2 : Nat → FieldType := fun k => match k with
  | 0 => .array .int
  | 1 => .array .int
  | 2 => .array .int
  | 3 => .int
  | 4 => .int
  | 5 => .int
  | _ => .boolean
abbrev wsX20 : List Cond := u_ws RX2 TX2 7
theorem nmX2 : ∀ a, a < 7 → ∀ b, b < 7 → a ≠ b → (TX2 a).2.1 ≠ (TX2 b).2.1 := by decide +kernel
theorem tyX2_ok : ∀ k, k < 7 → parseFieldDescriptor (TX2 k).2.2.1 = some (tyX2 k) := by decide +kernel
abbrev cX2_init : ByteArray := prog_4_method_1_code
def yX2_init : MethodName := ⟨RX2, "<init>", "()V"⟩
abbrev cX2_copyFrom : ByteArray := prog_4_method_2_code
def yX2_copyFrom : MethodName := ⟨RX2, "copyFrom", "(LChairCredits$Queue;)V"⟩
abbrev cX2_isFull : ByteArray := prog_4_method_3_code
def yX2_isFull : MethodName := ⟨RX2, "isFull", "()Z"⟩
abbrev cX2_append : ByteArray := prog_4_method_4_code
def yX2_append : MethodName := ⟨RX2, "append", "(III)V"⟩
abbrev cX2_offerFor : ByteArray := prog_4_method_5_code
def yX2_offerFor : MethodName := ⟨RX2, "offerFor", "(II)I"⟩
abbrev cX2_sendFrom : ByteArray := prog_4_method_6_code
def yX2_sendFrom : MethodName := ⟨RX2, "sendFrom", "(I)I"⟩
abbrev cX2_countBlocked : ByteArray := prog_4_method_7_code
def yX2_countBlocked : MethodName := ⟨RX2, "countBlocked", "()V"⟩
abbrev cX2_waitingFor : ByteArray := prog_4_method_8_code
def yX2_waitingFor : MethodName := ⟨RX2, "waitingFor", "(I)I"⟩
abbrev cX2_holds : ByteArray := prog_4_method_9_code
def yX2_holds : MethodName := ⟨RX2, "holds", "(I)Z"⟩
abbrev cX2_figure : ByteArray := prog_4_method_10_code
def yX2_figure : MethodName := ⟨RX2, "figure", "(I)I"⟩
abbrev cX2_packetFigure : ByteArray := prog_4_method_11_code
def yX2_packetFigure : MethodName := ⟨RX2, "packetFigure", "(II)I"⟩
def RX3 : String := "ChairCredits"
def TX3 : u_T := fun k => match k with
  | 0 => ("ChairCredits", "box", "LChairCredits$Box;", true)
  | 1 => ("ChairCredits", "trial", "LChairCredits$Box;", true)
  | 2 => ("ChairCredits", "snapshot", "LChairCredits$Box;", true)
  | 3 => ("ChairCredits", "hasSnapshot", "Z", false)
  | 4 => ("ChairCredits", "history", "[LChairCredits$Box;", true)
  | 5 => ("ChairCredits", "historySize", "I", false)
  | 6 => ("ChairCredits", "text", "[C", true)
  | _ => ("ChairCredits", "textLength", "I", false)
def tyX3 : Nat → FieldType := fun k => match k with
  | 0 => .object "ChairCredits$Box"
  | 1 => .object "ChairCredits$Box"
  | 2 => .object "ChairCredits$Box"
  | 3 => .boolean
  | 4 => .array (.object "ChairCredits$Box")
  | 5 => .int
  | 6 => .array .char
  | _ => .int
abbrev wsX30 : List Cond := u_ws RX3 TX3 8
theorem nmX3 : ∀ a, a < 8 → ∀ b, b < 8 → a ≠ b → (TX3 a).2.1 ≠ (TX3 b).2.1 := by decide +kernel
theorem tyX3_ok : ∀ k, k < 8 → parseFieldDescriptor (TX3 k).2.2.1 = some (tyX3 k) := by decide +kernel
abbrev cX3_init : ByteArray := prog_1_method_1_code
def yX3_init : MethodName := ⟨RX3, "<init>", "()V"⟩
abbrev cX3_setLane : ByteArray := prog_1_method_2_code
def yX3_setLane : MethodName := ⟨RX3, "setLane", "(III)I"⟩
abbrev cX3_set : ByteArray := prog_1_method_3_code
def yX3_set : MethodName := ⟨RX3, "set", "(II)I"⟩
abbrev cX3_arrive : ByteArray := prog_1_method_4_code
def yX3_arrive : MethodName := ⟨RX3, "arrive", "(II)I"⟩
abbrev cX3_readArrivals : ByteArray := prog_1_method_5_code
def yX3_readArrivals : MethodName := ⟨RX3, "readArrivals", "()I"⟩
abbrev cX3_pass : ByteArray := prog_1_method_6_code
def yX3_pass : MethodName := ⟨RX3, "pass", "(I)I"⟩
abbrev cX3_lose : ByteArray := prog_1_method_7_code
def yX3_lose : MethodName := ⟨RX3, "lose", "(I)I"⟩
abbrev cX3_forge : ByteArray := prog_1_method_8_code
def yX3_forge : MethodName := ⟨RX3, "forge", "(I)I"⟩
abbrev cX3_repair : ByteArray := prog_1_method_9_code
def yX3_repair : MethodName := ⟨RX3, "repair", "(I)I"⟩
abbrev cX3_type : ByteArray := prog_1_method_10_code
def yX3_type : MethodName := ⟨RX3, "type", "(C)I"⟩
abbrev cX3_clearText : ByteArray := prog_1_method_11_code
def yX3_clearText : MethodName := ⟨RX3, "clearText", "()I"⟩
abbrev cX3_undo : ByteArray := prog_1_method_12_code
def yX3_undo : MethodName := ⟨RX3, "undo", "()I"⟩
abbrev cX3_keep : ByteArray := prog_1_method_13_code
def yX3_keep : MethodName := ⟨RX3, "keep", "()I"⟩
abbrev cX3_restore : ByteArray := prog_1_method_14_code
def yX3_restore : MethodName := ⟨RX3, "restore", "()I"⟩
abbrev cX3_lane : ByteArray := prog_1_method_15_code
def yX3_lane : MethodName := ⟨RX3, "lane", "(II)I"⟩
abbrev cX3_seated : ByteArray := prog_1_method_16_code
def yX3_seated : MethodName := ⟨RX3, "seated", "(II)I"⟩
abbrev cX3_onTheWay : ByteArray := prog_1_method_17_code
def yX3_onTheWay : MethodName := ⟨RX3, "onTheWay", "(II)I"⟩
abbrev cX3_input : ByteArray := prog_1_method_18_code
def yX3_input : MethodName := ⟨RX3, "input", "(II)I"⟩
abbrev cX3_packet : ByteArray := prog_1_method_19_code
def yX3_packet : MethodName := ⟨RX3, "packet", "(III)I"⟩
abbrev cX3_next : ByteArray := prog_1_method_20_code
def yX3_next : MethodName := ⟨RX3, "next", "(I)I"⟩
abbrev cX3_leavesIn : ByteArray := prog_1_method_21_code
def yX3_leavesIn : MethodName := ⟨RX3, "leavesIn", "(II)I"⟩
abbrev cX3_wouldSend : ByteArray := prog_1_method_22_code
def yX3_wouldSend : MethodName := ⟨RX3, "wouldSend", "(II)I"⟩
abbrev cX3_count : ByteArray := prog_1_method_23_code
def yX3_count : MethodName := ⟨RX3, "count", "(I)I"⟩
abbrev cX3_isPort : ByteArray := prog_1_method_24_code
def yX3_isPort : MethodName := ⟨RX3, "isPort", "(I)Z"⟩
abbrev cX3_isTickCount : ByteArray := prog_1_method_25_code
def yX3_isTickCount : MethodName := ⟨RX3, "isTickCount", "(I)Z"⟩
abbrev cX3_mostOfLane : ByteArray := prog_1_method_26_code
def yX3_mostOfLane : MethodName := ⟨RX3, "mostOfLane", "(I)I"⟩
abbrev cX3_mostOfBox : ByteArray := prog_1_method_27_code
def yX3_mostOfBox : MethodName := ⟨RX3, "mostOfBox", "(I)I"⟩
abbrev cX3_remember : ByteArray := prog_1_method_28_code
def yX3_remember : MethodName := ⟨RX3, "remember", "()V"⟩
abbrev cX3_dropOldest : ByteArray := prog_1_method_29_code
def yX3_dropOldest : MethodName := ⟨RX3, "dropOldest", "()V"⟩
abbrev cX3_faultOfText : ByteArray := prog_1_method_30_code
def yX3_faultOfText : MethodName := ⟨RX3, "faultOfText", "()I"⟩
abbrev cX3_dueBehind : ByteArray := prog_1_method_31_code
def yX3_dueBehind : MethodName := ⟨RX3, "dueBehind", "(IC)I"⟩
abbrev cX3_admitTextToTrial : ByteArray := prog_1_method_32_code
def yX3_admitTextToTrial : MethodName := ⟨RX3, "admitTextToTrial", "()I"⟩
abbrev cX3_tellsTimes : ByteArray := prog_1_method_33_code
def yX3_tellsTimes : MethodName := ⟨RX3, "tellsTimes", "(I)Z"⟩
def RX4 : String := "ChairCreditsModel"
def TX4 : u_T := fun k => match k with
  | 0 => ("ChairCreditsModel", "row", "[I", true)
  | 1 => ("ChairCreditsModel", "past", "[I", true)
  | 2 => ("ChairCreditsModel", "aside", "[I", true)
  | 3 => ("ChairCreditsModel", "before", "[I", true)
  | 4 => ("ChairCreditsModel", "states", "I", false)
  | 5 => ("ChairCreditsModel", "isAside", "Z", false)
  | 6 => ("ChairCreditsModel", "text", "[C", true)
  | 7 => ("ChairCreditsModel", "length", "I", false)
  | 8 => ("ChairCreditsModel", "at", "I", false)
  | 9 => ("ChairCreditsModel", "hasSent", "[Z", true)
  | _ => ("ChairCreditsModel", "sentTo", "[I", true)
def tyX4 : Nat → FieldType := fun k => match k with
  | 0 => .array .int
  | 1 => .array .int
  | 2 => .array .int
  | 3 => .array .int
  | 4 => .int
  | 5 => .boolean
  | 6 => .array .char
  | 7 => .int
  | 8 => .int
  | 9 => .array .boolean
  | _ => .array .int
abbrev wsX40 : List Cond := u_ws RX4 TX4 11
theorem nmX4 : ∀ a, a < 11 → ∀ b, b < 11 → a ≠ b → (TX4 a).2.1 ≠ (TX4 b).2.1 := by decide +kernel
theorem tyX4_ok : ∀ k, k < 11 → parseFieldDescriptor (TX4 k).2.2.1 = some (tyX4 k) := by decide +kernel
abbrev cX4_init : ByteArray := prog_6_method_1_code
def yX4_init : MethodName := ⟨RX4, "<init>", "()V"⟩
abbrev cX4_in : ByteArray := prog_6_method_2_code
def yX4_in : MethodName := ⟨RX4, "in", "(III)Z"⟩
abbrev cX4_noPort : ByteArray := prog_6_method_3_code
def yX4_noPort : MethodName := ⟨RX4, "noPort", "(I)Z"⟩
abbrev cX4_of : ByteArray := prog_6_method_4_code
def yX4_of : MethodName := ⟨RX4, "of", "(II)I"⟩
abbrev cX4_lay : ByteArray := prog_6_method_5_code
def yX4_lay : MethodName := ⟨RX4, "lay", "(III)V"⟩
abbrev cX4_more : ByteArray := prog_6_method_6_code
def yX4_more : MethodName := ⟨RX4, "more", "(III)V"⟩
abbrev cX4_by : ByteArray := prog_6_method_7_code
def yX4_by : MethodName := ⟨RX4, "by", "(II)I"⟩
abbrev cX4_remember : ByteArray := prog_6_method_8_code
def yX4_remember : MethodName := ⟨RX4, "remember", "()V"⟩
abbrev cX4_goBack : ByteArray := prog_6_method_9_code
def yX4_goBack : MethodName := ⟨RX4, "goBack", "()V"⟩
abbrev cX4_record : ByteArray := prog_6_method_10_code
def yX4_record : MethodName := ⟨RX4, "record", "()V"⟩
abbrev cX4_open : ByteArray := prog_6_method_11_code
def yX4_open : MethodName := ⟨RX4, "open", "()V"⟩
abbrev cX4_undo : ByteArray := prog_6_method_12_code
def yX4_undo : MethodName := ⟨RX4, "undo", "()I"⟩
abbrev cX4_keep : ByteArray := prog_6_method_13_code
def yX4_keep : MethodName := ⟨RX4, "keep", "()I"⟩
abbrev cX4_restore : ByteArray := prog_6_method_14_code
def yX4_restore : MethodName := ⟨RX4, "restore", "()I"⟩
abbrev cX4_setLane : ByteArray := prog_6_method_15_code
def yX4_setLane : MethodName := ⟨RX4, "setLane", "(III)I"⟩
abbrev cX4_set : ByteArray := prog_6_method_16_code
def yX4_set : MethodName := ⟨RX4, "set", "(II)I"⟩
abbrev cX4_bring : ByteArray := prog_6_method_17_code
def yX4_bring : MethodName := ⟨RX4, "bring", "(II)V"⟩
abbrev cX4_arrive : ByteArray := prog_6_method_18_code
def yX4_arrive : MethodName := ⟨RX4, "arrive", "(II)I"⟩
abbrev cX4_sees : ByteArray := prog_6_method_19_code
def yX4_sees : MethodName := ⟨RX4, "sees", "(CC)Z"⟩
abbrev cX4_arrival : ByteArray := prog_6_method_20_code
def yX4_arrival : MethodName := ⟨RX4, "arrival", "(Z)I"⟩
abbrev cX4_arrivals : ByteArray := prog_6_method_21_code
def yX4_arrivals : MethodName := ⟨RX4, "arrivals", "(Z)I"⟩
abbrev cX4_readArrivals : ByteArray := prog_6_method_22_code
def yX4_readArrivals : MethodName := ⟨RX4, "readArrivals", "()I"⟩
abbrev cX4_missing : ByteArray := prog_6_method_23_code
def yX4_missing : MethodName := ⟨RX4, "missing", "(I)I"⟩
abbrev cX4_come : ByteArray := prog_6_method_24_code
def yX4_come : MethodName := ⟨RX4, "come", "(I)V"⟩
abbrev cX4_dropFirst : ByteArray := prog_6_method_25_code
def yX4_dropFirst : MethodName := ⟨RX4, "dropFirst", "(I)V"⟩
abbrev cX4_offer : ByteArray := prog_6_method_26_code
def yX4_offer : MethodName := ⟨RX4, "offer", "(II)I"⟩
abbrev cX4_leave : ByteArray := prog_6_method_27_code
def yX4_leave : MethodName := ⟨RX4, "leave", "(II)I"⟩
abbrev cX4_send : ByteArray := prog_6_method_28_code
def yX4_send : MethodName := ⟨RX4, "send", "(I)I"⟩
abbrev cX4_take : ByteArray := prog_6_method_29_code
def yX4_take : MethodName := ⟨RX4, "take", "(I)V"⟩
abbrev cX4_tick : ByteArray := prog_6_method_30_code
def yX4_tick : MethodName := ⟨RX4, "tick", "()I"⟩
abbrev cX4_passAll : ByteArray := prog_6_method_31_code
def yX4_passAll : MethodName := ⟨RX4, "passAll", "(I)I"⟩
abbrev cX4_pass : ByteArray := prog_6_method_32_code
def yX4_pass : MethodName := ⟨RX4, "pass", "(I)I"⟩
abbrev cX4_lose : ByteArray := prog_6_method_33_code
def yX4_lose : MethodName := ⟨RX4, "lose", "(I)I"⟩
abbrev cX4_forge : ByteArray := prog_6_method_34_code
def yX4_forge : MethodName := ⟨RX4, "forge", "(I)I"⟩
abbrev cX4_repair : ByteArray := prog_6_method_35_code
def yX4_repair : MethodName := ⟨RX4, "repair", "(I)I"⟩
abbrev cX4_type : ByteArray := prog_6_method_36_code
def yX4_type : MethodName := ⟨RX4, "type", "(C)I"⟩
abbrev cX4_clearText : ByteArray := prog_6_method_37_code
def yX4_clearText : MethodName := ⟨RX4, "clearText", "()I"⟩
abbrev cX4_waiting : ByteArray := prog_6_method_38_code
def yX4_waiting : MethodName := ⟨RX4, "waiting", "(I)I"⟩
abbrev cX4_isStuck : ByteArray := prog_6_method_39_code
def yX4_isStuck : MethodName := ⟨RX4, "isStuck", "(I)Z"⟩
abbrev cX4_lane : ByteArray := prog_6_method_40_code
def yX4_lane : MethodName := ⟨RX4, "lane", "(II)I"⟩
abbrev cX4_seated : ByteArray := prog_6_method_41_code
def yX4_seated : MethodName := ⟨RX4, "seated", "(II)I"⟩
abbrev cX4_onTheWay : ByteArray := prog_6_method_42_code
def yX4_onTheWay : MethodName := ⟨RX4, "onTheWay", "(II)I"⟩
abbrev cX4_input : ByteArray := prog_6_method_43_code
def yX4_input : MethodName := ⟨RX4, "input", "(II)I"⟩
abbrev cX4_packet : ByteArray := prog_6_method_44_code
def yX4_packet : MethodName := ⟨RX4, "packet", "(III)I"⟩
abbrev cX4_next : ByteArray := prog_6_method_45_code
def yX4_next : MethodName := ⟨RX4, "next", "(I)I"⟩
abbrev cX4_waits : ByteArray := prog_6_method_46_code
def yX4_waits : MethodName := ⟨RX4, "waits", "(II)Z"⟩
abbrev cX4_leavesIn : ByteArray := prog_6_method_47_code
def yX4_leavesIn : MethodName := ⟨RX4, "leavesIn", "(II)I"⟩
abbrev cX4_wouldSend : ByteArray := prog_6_method_48_code
def yX4_wouldSend : MethodName := ⟨RX4, "wouldSend", "(II)I"⟩
abbrev cX4_over : ByteArray := prog_6_method_49_code
def yX4_over : MethodName := ⟨RX4, "over", "(IZ)I"⟩
abbrev cX4_stuckOnes : ByteArray := prog_6_method_50_code
def yX4_stuckOnes : MethodName := ⟨RX4, "stuckOnes", "()I"⟩
abbrev cX4_count : ByteArray := prog_6_method_51_code
def yX4_count : MethodName := ⟨RX4, "count", "(I)I"⟩
def RJ9 : String := "java/lang/Math"
abbrev cJ9_min_7cf53 : ByteArray := prog_7_method_69_code
def yJ9_min_7cf53 : MethodName := ⟨RJ9, "min", "(II)I"⟩
def RJ10 : String := "java/lang/System"
def RL : String := "ChairCreditsLaw"
abbrev cL_law : ByteArray := code
def yL_law : MethodName := ⟨RL, "law", "([I)Z"⟩
abbrev vwCl : List vw_C := [(RX0, TX0, 6), (RX1, TX1, 13), (RX2, TX2, 7), (RX3, TX3, 8), (RX4, TX4, 11)]

-- ===== the tables' words that stay good whatever is called, and those of nest mates =====
def cc_GT : List Cond := lw_tbl.filter goodWord
theorem cc_gt {w : Cond} (i : Nat) (h : lw_tbl[i]? = some w) (g : goodWord w = true) : w ∈ cc_GT := List.mem_filter.mpr ⟨List.mem_of_getElem? h, g⟩
def cc_isNest : Cond → Bool
  | .fieldLinkNest .. => true
  | .methodLinkNest .. => true
  | _ => false
def cc_NT : List Cond := tables_1.filter cc_isNest
theorem in_L : Cond.initialized RL ∈ cc_GT := cc_gt 67 (by decide +kernel) (by decide +kernel)
theorem in_X3 : Cond.initialized RX3 ∈ cc_GT := cc_gt 68 (by decide +kernel) (by decide +kernel)
theorem in_X0 : Cond.initialized RX0 ∈ cc_GT := cc_gt 69 (by decide +kernel) (by decide +kernel)
theorem in_X1 : Cond.initialized RX1 ∈ cc_GT := cc_gt 70 (by decide +kernel) (by decide +kernel)
theorem in_X2 : Cond.initialized RX2 ∈ cc_GT := cc_gt 71 (by decide +kernel) (by decide +kernel)
theorem in_X4 : Cond.initialized RX4 ∈ cc_GT := cc_gt 72 (by decide +kernel) (by decide +kernel)
theorem in_J10 : Cond.initialized RJ10 ∈ cc_GT := cc_gt 73 (by decide +kernel) (by decide +kernel)
theorem in_J9 : Cond.initialized RJ9 ∈ cc_GT := cc_gt 74 (by decide +kernel) (by decide +kernel)
theorem cl_L_7 : Cond.classLink RL 7 RX3 ∈ cc_GT := cc_gt 75 (by decide +kernel) (by decide +kernel)
theorem ib_X3 : Cond.instantiable RX3 8 ∈ cc_GT := cc_gt 76 (by decide +kernel) (by decide +kernel)
theorem ml_L_9 : Cond.methodLink RL 9 yX3_init ∈ cc_GT := cc_gt 77 (by decide +kernel) (by decide +kernel)
theorem im_X3_init : Cond.instanceMethod yX3_init ∈ cc_GT := cc_gt 78 (by decide +kernel) (by decide +kernel)
theorem cd_X3_init : Cond.code yX3_init prog_1_method_1_code 2 (none : Option FieldType) ∈ cc_GT := cc_gt 79 (by decide +kernel) (by decide +kernel)
theorem ml_X3_1 : Cond.methodLink RX3 1 ⟨"java/lang/Object", "<init>", "()V"⟩ ∈ cc_GT := cc_gt 80 (by decide +kernel) (by decide +kernel)
theorem im_objinit : Cond.instanceMethod ⟨"java/lang/Object", "<init>", "()V"⟩ ∈ cc_GT := cc_gt 81 (by decide +kernel) (by decide +kernel)
theorem cd_objinit : Cond.code ⟨"java/lang/Object", "<init>", "()V"⟩ object_method_1_code 1 (none : Option FieldType) ∈ cc_GT := cc_gt 82 (by decide +kernel) (by decide +kernel)
theorem cl_X3_7 : Cond.classLink RX3 7 RX0 ∈ cc_GT := cc_gt 83 (by decide +kernel) (by decide +kernel)
theorem ib_X0 : Cond.instantiable RX0 6 ∈ cc_GT := cc_gt 84 (by decide +kernel) (by decide +kernel)
theorem mn_X3_9 : Cond.methodLinkNest RX3 9 yX0_init "ChairCredits" ∈ cc_NT := List.mem_filter.mpr ⟨List.mem_of_getElem? (i := 18) (by decide +kernel), by decide +kernel⟩
theorem im_X0_init : Cond.instanceMethod yX0_init ∈ cc_GT := cc_gt 86 (by decide +kernel) (by decide +kernel)
theorem cd_X0_init : Cond.code yX0_init prog_2_method_1_code 2 (none : Option FieldType) ∈ cc_GT := cc_gt 87 (by decide +kernel) (by decide +kernel)
theorem ml_X0_3 : Cond.methodLink RX0 3 ⟨"java/lang/Object", "<init>", "()V"⟩ ∈ cc_GT := cc_gt 88 (by decide +kernel) (by decide +kernel)
theorem cl_X0_24 : Cond.classLink RX0 24 RX1 ∈ cc_GT := cc_gt 89 (by decide +kernel) (by decide +kernel)
theorem ao_objectChairCreditsLane : Cond.arrayOver (.object "ChairCredits$Lane") ∈ lw_tbl := List.mem_of_getElem? (i := 90) (by decide +kernel)
theorem cl_X0_30 : Cond.classLink RX0 30 RX2 ∈ cc_GT := cc_gt 91 (by decide +kernel) (by decide +kernel)
theorem ao_objectChairCreditsQueue : Cond.arrayOver (.object "ChairCredits$Queue") ∈ lw_tbl := List.mem_of_getElem? (i := 92) (by decide +kernel)
theorem ib_X1 : Cond.instantiable RX1 13 ∈ cc_GT := cc_gt 93 (by decide +kernel) (by decide +kernel)
theorem mn_X0_36 : Cond.methodLinkNest RX0 36 yX1_init "ChairCredits" ∈ cc_NT := List.mem_filter.mpr ⟨List.mem_of_getElem? (i := 27) (by decide +kernel), by decide +kernel⟩
theorem im_X1_init : Cond.instanceMethod yX1_init ∈ cc_GT := cc_gt 95 (by decide +kernel) (by decide +kernel)
theorem cd_X1_init : Cond.code yX1_init prog_3_method_1_code 1 (none : Option FieldType) ∈ cc_GT := cc_gt 96 (by decide +kernel) (by decide +kernel)
theorem ml_X1_3 : Cond.methodLink RX1 3 ⟨"java/lang/Object", "<init>", "()V"⟩ ∈ cc_GT := cc_gt 97 (by decide +kernel) (by decide +kernel)
theorem fl_X1_9 : Cond.fieldLink RX1 9 "ChairCredits$Lane" "chairs" "I" ∈ cc_GT := cc_gt 98 (by decide +kernel) (by decide +kernel)
theorem fl_X1_15 : Cond.fieldLink RX1 15 "ChairCredits$Lane" "period" "I" ∈ cc_GT := cc_gt 99 (by decide +kernel) (by decide +kernel)
theorem fl_X1_18 : Cond.fieldLink RX1 18 "ChairCredits$Lane" "delay" "I" ∈ cc_GT := cc_gt 100 (by decide +kernel) (by decide +kernel)
theorem fl_X1_21 : Cond.fieldLink RX1 21 "ChairCredits$Lane" "credits" "I" ∈ cc_GT := cc_gt 101 (by decide +kernel) (by decide +kernel)
theorem fn_X0_77 : Cond.fieldLinkNest RX0 77 "ChairCredits$Lane" "credits" "I" "ChairCredits" ∈ cc_NT := List.mem_filter.mpr ⟨List.mem_of_getElem? (i := 35) (by decide +kernel), by decide +kernel⟩
theorem fn_X3_117 : Cond.fieldLinkNest RX3 117 "ChairCredits$Lane" "credits" "I" "ChairCredits" ∈ cc_NT := List.mem_filter.mpr ⟨List.mem_of_getElem? (i := 36) (by decide +kernel), by decide +kernel⟩
theorem fl_X1_24 : Cond.fieldLink RX1 24 "ChairCredits$Lane" "turn" "I" ∈ cc_GT := cc_gt 104 (by decide +kernel) (by decide +kernel)
theorem fn_X0_80 : Cond.fieldLinkNest RX0 80 "ChairCredits$Lane" "turn" "I" "ChairCredits" ∈ cc_NT := List.mem_filter.mpr ⟨List.mem_of_getElem? (i := 38) (by decide +kernel), by decide +kernel⟩
theorem fl_X1_27 : Cond.fieldLink RX1 27 "ChairCredits$Lane" "sent" "I" ∈ cc_GT := cc_gt 106 (by decide +kernel) (by decide +kernel)
theorem fl_X1_30 : Cond.fieldLink RX1 30 "ChairCredits$Lane" "taken" "I" ∈ cc_GT := cc_gt 107 (by decide +kernel) (by decide +kernel)
theorem fl_X1_33 : Cond.fieldLink RX1 33 "ChairCredits$Lane" "spilled" "I" ∈ cc_GT := cc_gt 108 (by decide +kernel) (by decide +kernel)
theorem fl_X1_36 : Cond.fieldLink RX1 36 "ChairCredits$Lane" "lost" "I" ∈ cc_GT := cc_gt 109 (by decide +kernel) (by decide +kernel)
theorem fl_X1_39 : Cond.fieldLink RX1 39 "ChairCredits$Lane" "seatedNumbers" "[I" ∈ cc_GT := cc_gt 110 (by decide +kernel) (by decide +kernel)
theorem fn_X3_135 : Cond.fieldLinkNest RX3 135 "ChairCredits$Lane" "seatedNumbers" "[I" "ChairCredits" ∈ cc_NT := List.mem_filter.mpr ⟨List.mem_of_getElem? (i := 44) (by decide +kernel), by decide +kernel⟩
theorem fl_X1_43 : Cond.fieldLink RX1 43 "ChairCredits$Lane" "seatedSize" "I" ∈ cc_GT := cc_gt 112 (by decide +kernel) (by decide +kernel)
theorem fn_X3_53 : Cond.fieldLinkNest RX3 53 "ChairCredits$Lane" "seatedSize" "I" "ChairCredits" ∈ cc_NT := List.mem_filter.mpr ⟨List.mem_of_getElem? (i := 46) (by decide +kernel), by decide +kernel⟩
theorem fl_X1_46 : Cond.fieldLink RX1 46 "ChairCredits$Lane" "wayTicks" "[I" ∈ cc_GT := cc_gt 114 (by decide +kernel) (by decide +kernel)
theorem fn_X3_139 : Cond.fieldLinkNest RX3 139 "ChairCredits$Lane" "wayTicks" "[I" "ChairCredits" ∈ cc_NT := List.mem_filter.mpr ⟨List.mem_of_getElem? (i := 48) (by decide +kernel), by decide +kernel⟩
theorem fl_X1_49 : Cond.fieldLink RX1 49 "ChairCredits$Lane" "wayLength" "I" ∈ cc_GT := cc_gt 116 (by decide +kernel) (by decide +kernel)
theorem fn_X3_111 : Cond.fieldLinkNest RX3 111 "ChairCredits$Lane" "wayLength" "I" "ChairCredits" ∈ cc_NT := List.mem_filter.mpr ⟨List.mem_of_getElem? (i := 50) (by decide +kernel), by decide +kernel⟩
theorem ac_int : Cond.arrayClass .int ∈ cc_GT := cc_gt 145 (by decide +kernel) (by decide +kernel)
theorem ib_X2 : Cond.instantiable RX2 7 ∈ cc_GT := cc_gt 146 (by decide +kernel) (by decide +kernel)
theorem mn_X0_37 : Cond.methodLinkNest RX0 37 yX2_init "ChairCredits" ∈ cc_NT := List.mem_filter.mpr ⟨List.mem_of_getElem? (i := 80) (by decide +kernel), by decide +kernel⟩
theorem im_X2_init : Cond.instanceMethod yX2_init ∈ cc_GT := cc_gt 148 (by decide +kernel) (by decide +kernel)
theorem cd_X2_init : Cond.code yX2_init prog_4_method_1_code 1 (none : Option FieldType) ∈ cc_GT := cc_gt 149 (by decide +kernel) (by decide +kernel)
theorem ml_X2_3 : Cond.methodLink RX2 3 ⟨"java/lang/Object", "<init>", "()V"⟩ ∈ cc_GT := cc_gt 150 (by decide +kernel) (by decide +kernel)
theorem fl_X2_9 : Cond.fieldLink RX2 9 "ChairCredits$Queue" "numbers" "[I" ∈ cc_GT := cc_gt 151 (by decide +kernel) (by decide +kernel)
theorem fn_X3_155 : Cond.fieldLinkNest RX3 155 "ChairCredits$Queue" "numbers" "[I" "ChairCredits" ∈ cc_NT := List.mem_filter.mpr ⟨List.mem_of_getElem? (i := 85) (by decide +kernel), by decide +kernel⟩
theorem fl_X2_15 : Cond.fieldLink RX2 15 "ChairCredits$Queue" "outputs" "[I" ∈ cc_GT := cc_gt 153 (by decide +kernel) (by decide +kernel)
theorem fl_X2_18 : Cond.fieldLink RX2 18 "ChairCredits$Queue" "arrivalTicks" "[I" ∈ cc_GT := cc_gt 154 (by decide +kernel) (by decide +kernel)
theorem fl_X2_21 : Cond.fieldLink RX2 21 "ChairCredits$Queue" "size" "I" ∈ cc_GT := cc_gt 155 (by decide +kernel) (by decide +kernel)
theorem fn_X3_152 : Cond.fieldLinkNest RX3 152 "ChairCredits$Queue" "size" "I" "ChairCredits" ∈ cc_NT := List.mem_filter.mpr ⟨List.mem_of_getElem? (i := 89) (by decide +kernel), by decide +kernel⟩
theorem fl_X2_25 : Cond.fieldLink RX2 25 "ChairCredits$Queue" "blocked" "I" ∈ cc_GT := cc_gt 157 (by decide +kernel) (by decide +kernel)
theorem fl_X2_28 : Cond.fieldLink RX2 28 "ChairCredits$Queue" "sent" "I" ∈ cc_GT := cc_gt 158 (by decide +kernel) (by decide +kernel)
theorem fl_X2_31 : Cond.fieldLink RX2 31 "ChairCredits$Queue" "hasSent" "Z" ∈ cc_GT := cc_gt 159 (by decide +kernel) (by decide +kernel)
theorem fn_X0_67 : Cond.fieldLinkNest RX0 67 "ChairCredits$Queue" "hasSent" "Z" "ChairCredits" ∈ cc_NT := List.mem_filter.mpr ⟨List.mem_of_getElem? (i := 93) (by decide +kernel), by decide +kernel⟩
theorem fl_X0_9 : Cond.fieldLink RX0 9 "ChairCredits$Box" "tick" "I" ∈ cc_GT := cc_gt 176 (by decide +kernel) (by decide +kernel)
theorem fn_X3_105 : Cond.fieldLinkNest RX3 105 "ChairCredits$Box" "tick" "I" "ChairCredits" ∈ cc_NT := List.mem_filter.mpr ⟨List.mem_of_getElem? (i := 110) (by decide +kernel), by decide +kernel⟩
theorem fl_X0_15 : Cond.fieldLink RX0 15 "ChairCredits$Box" "mode" "I" ∈ cc_GT := cc_gt 178 (by decide +kernel) (by decide +kernel)
theorem fn_X3_71 : Cond.fieldLinkNest RX3 71 "ChairCredits$Box" "mode" "I" "ChairCredits" ∈ cc_NT := List.mem_filter.mpr ⟨List.mem_of_getElem? (i := 112) (by decide +kernel), by decide +kernel⟩
theorem fl_X0_18 : Cond.fieldLink RX0 18 "ChairCredits$Box" "watch" "I" ∈ cc_GT := cc_gt 180 (by decide +kernel) (by decide +kernel)
theorem fn_X3_74 : Cond.fieldLinkNest RX3 74 "ChairCredits$Box" "watch" "I" "ChairCredits" ∈ cc_NT := List.mem_filter.mpr ⟨List.mem_of_getElem? (i := 114) (by decide +kernel), by decide +kernel⟩
theorem fl_X0_21 : Cond.fieldLink RX0 21 "ChairCredits$Box" "arrived" "I" ∈ cc_GT := cc_gt 182 (by decide +kernel) (by decide +kernel)
theorem fl_X0_26 : Cond.fieldLink RX0 26 "ChairCredits$Box" "lanes" "[LChairCredits$Lane;" ∈ cc_GT := cc_gt 183 (by decide +kernel) (by decide +kernel)
theorem fn_X3_49 : Cond.fieldLinkNest RX3 49 "ChairCredits$Box" "lanes" "[LChairCredits$Lane;" "ChairCredits" ∈ cc_NT := List.mem_filter.mpr ⟨List.mem_of_getElem? (i := 117) (by decide +kernel), by decide +kernel⟩
theorem fl_X0_32 : Cond.fieldLink RX0 32 "ChairCredits$Box" "queues" "[LChairCredits$Queue;" ∈ cc_GT := cc_gt 185 (by decide +kernel) (by decide +kernel)
theorem fn_X3_77 : Cond.fieldLinkNest RX3 77 "ChairCredits$Box" "queues" "[LChairCredits$Queue;" "ChairCredits" ∈ cc_NT := List.mem_filter.mpr ⟨List.mem_of_getElem? (i := 119) (by decide +kernel), by decide +kernel⟩
theorem ao_objectChairCreditsBox : Cond.arrayOver (.object "ChairCredits$Box") ∈ lw_tbl := List.mem_of_getElem? (i := 200) (by decide +kernel)
theorem fl_X3_10 : Cond.fieldLink RX3 10 "ChairCredits" "box" "LChairCredits$Box;" ∈ cc_GT := cc_gt 201 (by decide +kernel) (by decide +kernel)
theorem fl_X3_16 : Cond.fieldLink RX3 16 "ChairCredits" "trial" "LChairCredits$Box;" ∈ cc_GT := cc_gt 202 (by decide +kernel) (by decide +kernel)
theorem fl_X3_19 : Cond.fieldLink RX3 19 "ChairCredits" "snapshot" "LChairCredits$Box;" ∈ cc_GT := cc_gt 203 (by decide +kernel) (by decide +kernel)
theorem fl_X3_22 : Cond.fieldLink RX3 22 "ChairCredits" "hasSnapshot" "Z" ∈ cc_GT := cc_gt 204 (by decide +kernel) (by decide +kernel)
theorem fl_X3_26 : Cond.fieldLink RX3 26 "ChairCredits" "history" "[LChairCredits$Box;" ∈ cc_GT := cc_gt 205 (by decide +kernel) (by decide +kernel)
theorem fl_X3_30 : Cond.fieldLink RX3 30 "ChairCredits" "historySize" "I" ∈ cc_GT := cc_gt 206 (by decide +kernel) (by decide +kernel)
theorem fl_X3_34 : Cond.fieldLink RX3 34 "ChairCredits" "text" "[C" ∈ cc_GT := cc_gt 207 (by decide +kernel) (by decide +kernel)
theorem fl_X3_38 : Cond.fieldLink RX3 38 "ChairCredits" "textLength" "I" ∈ cc_GT := cc_gt 208 (by decide +kernel) (by decide +kernel)
theorem ac_char : Cond.arrayClass .char ∈ cc_GT := cc_gt 226 (by decide +kernel) (by decide +kernel)
theorem ml_L_13 : Cond.methodLink RL 13 yX3_setLane ∈ cc_GT := cc_gt 227 (by decide +kernel) (by decide +kernel)
theorem im_X3_setLane : Cond.instanceMethod yX3_setLane ∈ cc_GT := cc_gt 228 (by decide +kernel) (by decide +kernel)
theorem sl_X3_setLane : Cond.selects RX3 yX3_setLane yX3_setLane ∈ cc_GT := cc_gt 229 (by decide +kernel) (by decide +kernel)
theorem cd_X3_setLane : Cond.code yX3_setLane prog_1_method_2_code 6 (some .int) ∈ cc_GT := cc_gt 230 (by decide +kernel) (by decide +kernel)
theorem ml_X3_41 : Cond.methodLink RX3 41 yX3_isPort ∈ cc_GT := cc_gt 231 (by decide +kernel) (by decide +kernel)
theorem st_X3_isPort : Cond.static yX3_isPort ∈ cc_GT := cc_gt 232 (by decide +kernel) (by decide +kernel)
theorem cd_X3_isPort : Cond.code yX3_isPort prog_1_method_24_code 1 (some .boolean) ∈ cc_GT := cc_gt 233 (by decide +kernel) (by decide +kernel)
theorem ml_X3_45 : Cond.methodLink RX3 45 yX3_mostOfLane ∈ cc_GT := cc_gt 234 (by decide +kernel) (by decide +kernel)
theorem st_X3_mostOfLane : Cond.static yX3_mostOfLane ∈ cc_GT := cc_gt 235 (by decide +kernel) (by decide +kernel)
theorem cd_X3_mostOfLane : Cond.code yX3_mostOfLane prog_1_method_26_code 1 (some .int) ∈ cc_GT := cc_gt 236 (by decide +kernel) (by decide +kernel)
theorem mn_X3_58 : Cond.methodLinkNest RX3 58 yX1_setting "ChairCredits" ∈ cc_NT := List.mem_filter.mpr ⟨List.mem_of_getElem? (i := 170) (by decide +kernel), by decide +kernel⟩
theorem im_X1_setting : Cond.instanceMethod yX1_setting ∈ cc_GT := cc_gt 239 (by decide +kernel) (by decide +kernel)
theorem cd_X1_setting : Cond.code yX1_setting prog_3_method_3_code 2 (some .int) ∈ cc_GT := cc_gt 240 (by decide +kernel) (by decide +kernel)
theorem ml_X3_61 : Cond.methodLink RX3 61 yX3_remember ∈ cc_GT := cc_gt 241 (by decide +kernel) (by decide +kernel)
theorem im_X3_remember : Cond.instanceMethod yX3_remember ∈ cc_GT := cc_gt 243 (by decide +kernel) (by decide +kernel)
theorem cd_X3_remember : Cond.code yX3_remember prog_1_method_28_code 1 (none : Option FieldType) ∈ cc_GT := cc_gt 244 (by decide +kernel) (by decide +kernel)
theorem ml_X3_165 : Cond.methodLink RX3 165 yX3_dropOldest ∈ cc_GT := cc_gt 245 (by decide +kernel) (by decide +kernel)
theorem im_X3_dropOldest : Cond.instanceMethod yX3_dropOldest ∈ cc_GT := cc_gt 247 (by decide +kernel) (by decide +kernel)
theorem cd_X3_dropOldest : Cond.code yX3_dropOldest prog_1_method_29_code 3 (none : Option FieldType) ∈ cc_GT := cc_gt 248 (by decide +kernel) (by decide +kernel)
theorem mn_X3_95 : Cond.methodLinkNest RX3 95 yX0_copyFrom "ChairCredits" ∈ cc_NT := List.mem_filter.mpr ⟨List.mem_of_getElem? (i := 182) (by decide +kernel), by decide +kernel⟩
theorem im_X0_copyFrom : Cond.instanceMethod yX0_copyFrom ∈ cc_GT := cc_gt 251 (by decide +kernel) (by decide +kernel)
theorem cd_X0_copyFrom : Cond.code yX0_copyFrom prog_2_method_2_code 3 (none : Option FieldType) ∈ cc_GT := cc_gt 252 (by decide +kernel) (by decide +kernel)
theorem mn_X0_38 : Cond.methodLinkNest RX0 38 yX1_copyFrom "ChairCredits" ∈ cc_NT := List.mem_filter.mpr ⟨List.mem_of_getElem? (i := 186) (by decide +kernel), by decide +kernel⟩
theorem im_X1_copyFrom : Cond.instanceMethod yX1_copyFrom ∈ cc_GT := cc_gt 255 (by decide +kernel) (by decide +kernel)
theorem cd_X1_copyFrom : Cond.code yX1_copyFrom prog_3_method_2_code 2 (none : Option FieldType) ∈ cc_GT := cc_gt 256 (by decide +kernel) (by decide +kernel)
theorem ml_X1_52 : Cond.methodLink RX1 52 ⟨"java/lang/System", "arraycopy", "(Ljava/lang/Object;ILjava/lang/Object;II)V"⟩ ∈ cc_GT := cc_gt 257 (by decide +kernel) (by decide +kernel)
theorem st_arraycopy : Cond.static ⟨"java/lang/System", "arraycopy", "(Ljava/lang/Object;ILjava/lang/Object;II)V"⟩ ∈ cc_GT := cc_gt 258 (by decide +kernel) (by decide +kernel)
theorem nt_arraycopy : Cond.native ⟨"java/lang/System", "arraycopy", "(Ljava/lang/Object;ILjava/lang/Object;II)V"⟩ ∈ cc_GT := cc_gt 259 (by decide +kernel) (by decide +kernel)
theorem mn_X0_42 : Cond.methodLinkNest RX0 42 yX2_copyFrom "ChairCredits" ∈ cc_NT := List.mem_filter.mpr ⟨List.mem_of_getElem? (i := 193) (by decide +kernel), by decide +kernel⟩
theorem im_X2_copyFrom : Cond.instanceMethod yX2_copyFrom ∈ cc_GT := cc_gt 262 (by decide +kernel) (by decide +kernel)
theorem cd_X2_copyFrom : Cond.code yX2_copyFrom prog_4_method_2_code 2 (none : Option FieldType) ∈ cc_GT := cc_gt 263 (by decide +kernel) (by decide +kernel)
theorem ml_X2_35 : Cond.methodLink RX2 35 ⟨"java/lang/System", "arraycopy", "(Ljava/lang/Object;ILjava/lang/Object;II)V"⟩ ∈ cc_GT := cc_gt 264 (by decide +kernel) (by decide +kernel)
theorem mn_X3_64 : Cond.methodLinkNest RX3 64 yX1_change "ChairCredits" ∈ cc_NT := List.mem_filter.mpr ⟨List.mem_of_getElem? (i := 198) (by decide +kernel), by decide +kernel⟩
theorem im_X1_change : Cond.instanceMethod yX1_change ∈ cc_GT := cc_gt 267 (by decide +kernel) (by decide +kernel)
theorem cd_X1_change : Cond.code yX1_change prog_3_method_4_code 3 (none : Option FieldType) ∈ cc_GT := cc_gt 268 (by decide +kernel) (by decide +kernel)
theorem ml_L_18 : Cond.methodLink RL 18 yX3_set ∈ cc_GT := cc_gt 269 (by decide +kernel) (by decide +kernel)
theorem im_X3_set : Cond.instanceMethod yX3_set ∈ cc_GT := cc_gt 270 (by decide +kernel) (by decide +kernel)
theorem sl_X3_set : Cond.selects RX3 yX3_set yX3_set ∈ cc_GT := cc_gt 271 (by decide +kernel) (by decide +kernel)
theorem cd_X3_set : Cond.code yX3_set prog_1_method_3_code 4 (some .int) ∈ cc_GT := cc_gt 272 (by decide +kernel) (by decide +kernel)
theorem ml_X3_68 : Cond.methodLink RX3 68 yX3_mostOfBox ∈ cc_GT := cc_gt 273 (by decide +kernel) (by decide +kernel)
theorem st_X3_mostOfBox : Cond.static yX3_mostOfBox ∈ cc_GT := cc_gt 274 (by decide +kernel) (by decide +kernel)
theorem cd_X3_mostOfBox : Cond.code yX3_mostOfBox prog_1_method_27_code 1 (some .int) ∈ cc_GT := cc_gt 275 (by decide +kernel) (by decide +kernel)
theorem ml_L_23 : Cond.methodLink RL 23 yX3_arrive ∈ cc_GT := cc_gt 276 (by decide +kernel) (by decide +kernel)
theorem im_X3_arrive : Cond.instanceMethod yX3_arrive ∈ cc_GT := cc_gt 277 (by decide +kernel) (by decide +kernel)
theorem sl_X3_arrive : Cond.selects RX3 yX3_arrive yX3_arrive ∈ cc_GT := cc_gt 278 (by decide +kernel) (by decide +kernel)
theorem cd_X3_arrive : Cond.code yX3_arrive prog_1_method_4_code 3 (some .int) ∈ cc_GT := cc_gt 279 (by decide +kernel) (by decide +kernel)
theorem mn_X3_81 : Cond.methodLinkNest RX3 81 yX2_isFull "ChairCredits" ∈ cc_NT := List.mem_filter.mpr ⟨List.mem_of_getElem? (i := 213) (by decide +kernel), by decide +kernel⟩
theorem im_X2_isFull : Cond.instanceMethod yX2_isFull ∈ cc_GT := cc_gt 282 (by decide +kernel) (by decide +kernel)
theorem cd_X2_isFull : Cond.code yX2_isFull prog_4_method_3_code 1 (some .boolean) ∈ cc_GT := cc_gt 283 (by decide +kernel) (by decide +kernel)
theorem mn_X3_87 : Cond.methodLinkNest RX3 87 yX0_admit "ChairCredits" ∈ cc_NT := List.mem_filter.mpr ⟨List.mem_of_getElem? (i := 217) (by decide +kernel), by decide +kernel⟩
theorem im_X0_admit : Cond.instanceMethod yX0_admit ∈ cc_GT := cc_gt 286 (by decide +kernel) (by decide +kernel)
theorem cd_X0_admit : Cond.code yX0_admit prog_2_method_3_code 4 (some .int) ∈ cc_GT := cc_gt 287 (by decide +kernel) (by decide +kernel)
theorem mn_X0_45 : Cond.methodLinkNest RX0 45 yX2_append "ChairCredits" ∈ cc_NT := List.mem_filter.mpr ⟨List.mem_of_getElem? (i := 221) (by decide +kernel), by decide +kernel⟩
theorem im_X2_append : Cond.instanceMethod yX2_append ∈ cc_GT := cc_gt 290 (by decide +kernel) (by decide +kernel)
theorem cd_X2_append : Cond.code yX2_append prog_4_method_4_code 4 (none : Option FieldType) ∈ cc_GT := cc_gt 291 (by decide +kernel) (by decide +kernel)
theorem ml_X2_41 : Cond.methodLink RX2 41 yX2_isFull ∈ cc_GT := cc_gt 292 (by decide +kernel) (by decide +kernel)
theorem ml_L_27 : Cond.methodLink RL 27 yX3_readArrivals ∈ cc_GT := cc_gt 293 (by decide +kernel) (by decide +kernel)
theorem im_X3_readArrivals : Cond.instanceMethod yX3_readArrivals ∈ cc_GT := cc_gt 294 (by decide +kernel) (by decide +kernel)
theorem sl_X3_readArrivals : Cond.selects RX3 yX3_readArrivals yX3_readArrivals ∈ cc_GT := cc_gt 295 (by decide +kernel) (by decide +kernel)
theorem cd_X3_readArrivals : Cond.code yX3_readArrivals prog_1_method_5_code 3 (some .int) ∈ cc_GT := cc_gt 296 (by decide +kernel) (by decide +kernel)
theorem ml_X3_91 : Cond.methodLink RX3 91 yX3_faultOfText ∈ cc_GT := cc_gt 297 (by decide +kernel) (by decide +kernel)
theorem im_X3_faultOfText : Cond.instanceMethod yX3_faultOfText ∈ cc_GT := cc_gt 299 (by decide +kernel) (by decide +kernel)
theorem cd_X3_faultOfText : Cond.code yX3_faultOfText prog_1_method_30_code 3 (some .int) ∈ cc_GT := cc_gt 300 (by decide +kernel) (by decide +kernel)
theorem ml_X3_168 : Cond.methodLink RX3 168 yX3_dueBehind ∈ cc_GT := cc_gt 301 (by decide +kernel) (by decide +kernel)
theorem st_X3_dueBehind : Cond.static yX3_dueBehind ∈ cc_GT := cc_gt 302 (by decide +kernel) (by decide +kernel)
theorem cd_X3_dueBehind : Cond.code yX3_dueBehind prog_1_method_31_code 2 (some .int) ∈ cc_GT := cc_gt 303 (by decide +kernel) (by decide +kernel)
theorem ml_X3_99 : Cond.methodLink RX3 99 yX3_admitTextToTrial ∈ cc_GT := cc_gt 304 (by decide +kernel) (by decide +kernel)
theorem im_X3_admitTextToTrial : Cond.instanceMethod yX3_admitTextToTrial ∈ cc_GT := cc_gt 306 (by decide +kernel) (by decide +kernel)
theorem cd_X3_admitTextToTrial : Cond.code yX3_admitTextToTrial prog_1_method_32_code 7 (some .int) ∈ cc_GT := cc_gt 307 (by decide +kernel) (by decide +kernel)
theorem ml_X3_172 : Cond.methodLink RX3 172 yX3_tellsTimes ∈ cc_GT := cc_gt 308 (by decide +kernel) (by decide +kernel)
theorem im_X3_tellsTimes : Cond.instanceMethod yX3_tellsTimes ∈ cc_GT := cc_gt 310 (by decide +kernel) (by decide +kernel)
theorem cd_X3_tellsTimes : Cond.code yX3_tellsTimes prog_1_method_33_code 2 (some .boolean) ∈ cc_GT := cc_gt 311 (by decide +kernel) (by decide +kernel)
theorem ml_L_32 : Cond.methodLink RL 32 yX3_pass ∈ cc_GT := cc_gt 312 (by decide +kernel) (by decide +kernel)
theorem im_X3_pass : Cond.instanceMethod yX3_pass ∈ cc_GT := cc_gt 313 (by decide +kernel) (by decide +kernel)
theorem sl_X3_pass : Cond.selects RX3 yX3_pass yX3_pass ∈ cc_GT := cc_gt 314 (by decide +kernel) (by decide +kernel)
theorem cd_X3_pass : Cond.code yX3_pass prog_1_method_6_code 2 (some .int) ∈ cc_GT := cc_gt 315 (by decide +kernel) (by decide +kernel)
theorem ml_X3_102 : Cond.methodLink RX3 102 yX3_isTickCount ∈ cc_GT := cc_gt 316 (by decide +kernel) (by decide +kernel)
theorem st_X3_isTickCount : Cond.static yX3_isTickCount ∈ cc_GT := cc_gt 317 (by decide +kernel) (by decide +kernel)
theorem cd_X3_isTickCount : Cond.code yX3_isTickCount prog_1_method_25_code 1 (some .boolean) ∈ cc_GT := cc_gt 318 (by decide +kernel) (by decide +kernel)
theorem mn_X3_108 : Cond.methodLinkNest RX3 108 yX0_passTicks "ChairCredits" ∈ cc_NT := List.mem_filter.mpr ⟨List.mem_of_getElem? (i := 252) (by decide +kernel), by decide +kernel⟩
theorem im_X0_passTicks : Cond.instanceMethod yX0_passTicks ∈ cc_GT := cc_gt 321 (by decide +kernel) (by decide +kernel)
theorem cd_X0_passTicks : Cond.code yX0_passTicks prog_2_method_4_code 4 (some .int) ∈ cc_GT := cc_gt 322 (by decide +kernel) (by decide +kernel)
theorem ml_X0_49 : Cond.methodLink RX0 49 yX0_passTick ∈ cc_GT := cc_gt 323 (by decide +kernel) (by decide +kernel)
theorem im_X0_passTick : Cond.instanceMethod yX0_passTick ∈ cc_GT := cc_gt 325 (by decide +kernel) (by decide +kernel)
theorem cd_X0_passTick : Cond.code yX0_passTick prog_2_method_5_code 3 (some .int) ∈ cc_GT := cc_gt 326 (by decide +kernel) (by decide +kernel)
theorem ml_X0_53 : Cond.methodLink RX0 53 yX0_beginTick ∈ cc_GT := cc_gt 327 (by decide +kernel) (by decide +kernel)
theorem im_X0_beginTick : Cond.instanceMethod yX0_beginTick ∈ cc_GT := cc_gt 329 (by decide +kernel) (by decide +kernel)
theorem cd_X0_beginTick : Cond.code yX0_beginTick prog_2_method_6_code 3 (none : Option FieldType) ∈ cc_GT := cc_gt 330 (by decide +kernel) (by decide +kernel)
theorem mn_X0_71 : Cond.methodLinkNest RX0 71 yX1_letCreditsCome "ChairCredits" ∈ cc_NT := List.mem_filter.mpr ⟨List.mem_of_getElem? (i := 264) (by decide +kernel), by decide +kernel⟩
theorem im_X1_letCreditsCome : Cond.instanceMethod yX1_letCreditsCome ∈ cc_GT := cc_gt 333 (by decide +kernel) (by decide +kernel)
theorem cd_X1_letCreditsCome : Cond.code yX1_letCreditsCome prog_3_method_8_code 3 (none : Option FieldType) ∈ cc_GT := cc_gt 334 (by decide +kernel) (by decide +kernel)
theorem ml_X1_62 : Cond.methodLink RX1 62 yX1_creditComes ∈ cc_GT := cc_gt 335 (by decide +kernel) (by decide +kernel)
theorem im_X1_creditComes : Cond.instanceMethod yX1_creditComes ∈ cc_GT := cc_gt 337 (by decide +kernel) (by decide +kernel)
theorem cd_X1_creditComes : Cond.code yX1_creditComes prog_3_method_9_code 2 (some .boolean) ∈ cc_GT := cc_gt 338 (by decide +kernel) (by decide +kernel)
theorem ml_X1_66 : Cond.methodLink RX1 66 yX1_dropFirstOnTheWay ∈ cc_GT := cc_gt 339 (by decide +kernel) (by decide +kernel)
theorem im_X1_dropFirstOnTheWay : Cond.instanceMethod yX1_dropFirstOnTheWay ∈ cc_GT := cc_gt 341 (by decide +kernel) (by decide +kernel)
theorem cd_X1_dropFirstOnTheWay : Cond.code yX1_dropFirstOnTheWay prog_3_method_11_code 2 (none : Option FieldType) ∈ cc_GT := cc_gt 342 (by decide +kernel) (by decide +kernel)
theorem mn_X0_74 : Cond.methodLinkNest RX0 74 yX1_mend "ChairCredits" ∈ cc_NT := List.mem_filter.mpr ⟨List.mem_of_getElem? (i := 276) (by decide +kernel), by decide +kernel⟩
theorem im_X1_mend : Cond.instanceMethod yX1_mend ∈ cc_GT := cc_gt 345 (by decide +kernel) (by decide +kernel)
theorem cd_X1_mend : Cond.code yX1_mend prog_3_method_6_code 1 (none : Option FieldType) ∈ cc_GT := cc_gt 346 (by decide +kernel) (by decide +kernel)
theorem ml_X1_58 : Cond.methodLink RX1 58 yX1_missing ∈ cc_GT := cc_gt 347 (by decide +kernel) (by decide +kernel)
theorem im_X1_missing : Cond.instanceMethod yX1_missing ∈ cc_GT := cc_gt 349 (by decide +kernel) (by decide +kernel)
theorem cd_X1_missing : Cond.code yX1_missing prog_3_method_5_code 1 (some .int) ∈ cc_GT := cc_gt 350 (by decide +kernel) (by decide +kernel)
theorem ml_X0_56 : Cond.methodLink RX0 56 yX0_sendTo ∈ cc_GT := cc_gt 351 (by decide +kernel) (by decide +kernel)
theorem im_X0_sendTo : Cond.instanceMethod yX0_sendTo ∈ cc_GT := cc_gt 353 (by decide +kernel) (by decide +kernel)
theorem cd_X0_sendTo : Cond.code yX0_sendTo prog_2_method_7_code 7 (some .int) ∈ cc_GT := cc_gt 354 (by decide +kernel) (by decide +kernel)
theorem mn_X0_83 : Cond.methodLinkNest RX0 83 yX2_offerFor "ChairCredits" ∈ cc_NT := List.mem_filter.mpr ⟨List.mem_of_getElem? (i := 288) (by decide +kernel), by decide +kernel⟩
theorem im_X2_offerFor : Cond.instanceMethod yX2_offerFor ∈ cc_GT := cc_gt 357 (by decide +kernel) (by decide +kernel)
theorem cd_X2_offerFor : Cond.code yX2_offerFor prog_4_method_5_code 5 (some .int) ∈ cc_GT := cc_gt 358 (by decide +kernel) (by decide +kernel)
theorem ml_X2_45 : Cond.methodLink RX2 45 yJ9_min_7cf53 ∈ cc_GT := cc_gt 359 (by decide +kernel) (by decide +kernel)
theorem st_J9_min_7cf53 : Cond.static yJ9_min_7cf53 ∈ cc_GT := cc_gt 360 (by decide +kernel) (by decide +kernel)
theorem cd_J9_min_7cf53 : Cond.code yJ9_min_7cf53 prog_7_method_69_code 2 (some .int) ∈ cc_GT := cc_gt 361 (by decide +kernel) (by decide +kernel)
theorem mn_X0_87 : Cond.methodLinkNest RX0 87 yX2_sendFrom "ChairCredits" ∈ cc_NT := List.mem_filter.mpr ⟨List.mem_of_getElem? (i := 295) (by decide +kernel), by decide +kernel⟩
theorem im_X2_sendFrom : Cond.instanceMethod yX2_sendFrom ∈ cc_GT := cc_gt 364 (by decide +kernel) (by decide +kernel)
theorem cd_X2_sendFrom : Cond.code yX2_sendFrom prog_4_method_6_code 4 (some .int) ∈ cc_GT := cc_gt 365 (by decide +kernel) (by decide +kernel)
theorem mn_X0_90 : Cond.methodLinkNest RX0 90 yX1_receive "ChairCredits" ∈ cc_NT := List.mem_filter.mpr ⟨List.mem_of_getElem? (i := 299) (by decide +kernel), by decide +kernel⟩
theorem im_X1_receive : Cond.instanceMethod yX1_receive ∈ cc_GT := cc_gt 368 (by decide +kernel) (by decide +kernel)
theorem cd_X1_receive : Cond.code yX1_receive prog_3_method_12_code 2 (none : Option FieldType) ∈ cc_GT := cc_gt 369 (by decide +kernel) (by decide +kernel)
theorem mn_X0_60 : Cond.methodLinkNest RX0 60 yX1_takeIfDue "ChairCredits" ∈ cc_NT := List.mem_filter.mpr ⟨List.mem_of_getElem? (i := 303) (by decide +kernel), by decide +kernel⟩
theorem im_X1_takeIfDue : Cond.instanceMethod yX1_takeIfDue ∈ cc_GT := cc_gt 372 (by decide +kernel) (by decide +kernel)
theorem cd_X1_takeIfDue : Cond.code yX1_takeIfDue prog_3_method_13_code 4 (none : Option FieldType) ∈ cc_GT := cc_gt 373 (by decide +kernel) (by decide +kernel)
theorem ml_X1_69 : Cond.methodLink RX1 69 yX1_sendCreditBack ∈ cc_GT := cc_gt 374 (by decide +kernel) (by decide +kernel)
theorem im_X1_sendCreditBack : Cond.instanceMethod yX1_sendCreditBack ∈ cc_GT := cc_gt 376 (by decide +kernel) (by decide +kernel)
theorem cd_X1_sendCreditBack : Cond.code yX1_sendCreditBack prog_3_method_14_code 3 (none : Option FieldType) ∈ cc_GT := cc_gt 377 (by decide +kernel) (by decide +kernel)
theorem mn_X0_64 : Cond.methodLinkNest RX0 64 yX2_countBlocked "ChairCredits" ∈ cc_NT := List.mem_filter.mpr ⟨List.mem_of_getElem? (i := 311) (by decide +kernel), by decide +kernel⟩
theorem im_X2_countBlocked : Cond.instanceMethod yX2_countBlocked ∈ cc_GT := cc_gt 380 (by decide +kernel) (by decide +kernel)
theorem cd_X2_countBlocked : Cond.code yX2_countBlocked prog_4_method_7_code 1 (none : Option FieldType) ∈ cc_GT := cc_gt 381 (by decide +kernel) (by decide +kernel)
theorem ml_L_37 : Cond.methodLink RL 37 yX3_lose ∈ cc_GT := cc_gt 382 (by decide +kernel) (by decide +kernel)
theorem im_X3_lose : Cond.instanceMethod yX3_lose ∈ cc_GT := cc_gt 383 (by decide +kernel) (by decide +kernel)
theorem sl_X3_lose : Cond.selects RX3 yX3_lose yX3_lose ∈ cc_GT := cc_gt 384 (by decide +kernel) (by decide +kernel)
theorem cd_X3_lose : Cond.code yX3_lose prog_1_method_7_code 3 (some .int) ∈ cc_GT := cc_gt 385 (by decide +kernel) (by decide +kernel)
theorem mn_X3_114 : Cond.methodLinkNest RX3 114 yX1_loseFirst "ChairCredits" ∈ cc_NT := List.mem_filter.mpr ⟨List.mem_of_getElem? (i := 319) (by decide +kernel), by decide +kernel⟩
theorem im_X1_loseFirst : Cond.instanceMethod yX1_loseFirst ∈ cc_GT := cc_gt 388 (by decide +kernel) (by decide +kernel)
theorem cd_X1_loseFirst : Cond.code yX1_loseFirst prog_3_method_10_code 1 (none : Option FieldType) ∈ cc_GT := cc_gt 389 (by decide +kernel) (by decide +kernel)
theorem ml_L_41 : Cond.methodLink RL 41 yX3_forge ∈ cc_GT := cc_gt 390 (by decide +kernel) (by decide +kernel)
theorem im_X3_forge : Cond.instanceMethod yX3_forge ∈ cc_GT := cc_gt 391 (by decide +kernel) (by decide +kernel)
theorem sl_X3_forge : Cond.selects RX3 yX3_forge yX3_forge ∈ cc_GT := cc_gt 392 (by decide +kernel) (by decide +kernel)
theorem cd_X3_forge : Cond.code yX3_forge prog_1_method_8_code 3 (some .int) ∈ cc_GT := cc_gt 393 (by decide +kernel) (by decide +kernel)
theorem ml_L_45 : Cond.methodLink RL 45 yX3_repair ∈ cc_GT := cc_gt 394 (by decide +kernel) (by decide +kernel)
theorem im_X3_repair : Cond.instanceMethod yX3_repair ∈ cc_GT := cc_gt 395 (by decide +kernel) (by decide +kernel)
theorem sl_X3_repair : Cond.selects RX3 yX3_repair yX3_repair ∈ cc_GT := cc_gt 396 (by decide +kernel) (by decide +kernel)
theorem cd_X3_repair : Cond.code yX3_repair prog_1_method_9_code 4 (some .int) ∈ cc_GT := cc_gt 397 (by decide +kernel) (by decide +kernel)
theorem mn_X3_120 : Cond.methodLinkNest RX3 120 yX1_missing "ChairCredits" ∈ cc_NT := List.mem_filter.mpr ⟨List.mem_of_getElem? (i := 331) (by decide +kernel), by decide +kernel⟩
theorem mn_X3_123 : Cond.methodLinkNest RX3 123 yX1_mend "ChairCredits" ∈ cc_NT := List.mem_filter.mpr ⟨List.mem_of_getElem? (i := 332) (by decide +kernel), by decide +kernel⟩
theorem ml_L_49 : Cond.methodLink RL 49 yX3_type ∈ cc_GT := cc_gt 400 (by decide +kernel) (by decide +kernel)
theorem im_X3_type : Cond.instanceMethod yX3_type ∈ cc_GT := cc_gt 401 (by decide +kernel) (by decide +kernel)
theorem sl_X3_type : Cond.selects RX3 yX3_type yX3_type ∈ cc_GT := cc_gt 402 (by decide +kernel) (by decide +kernel)
theorem cd_X3_type : Cond.code yX3_type prog_1_method_10_code 2 (some .int) ∈ cc_GT := cc_gt 403 (by decide +kernel) (by decide +kernel)
theorem ml_L_54 : Cond.methodLink RL 54 yX3_clearText ∈ cc_GT := cc_gt 404 (by decide +kernel) (by decide +kernel)
theorem im_X3_clearText : Cond.instanceMethod yX3_clearText ∈ cc_GT := cc_gt 405 (by decide +kernel) (by decide +kernel)
theorem sl_X3_clearText : Cond.selects RX3 yX3_clearText yX3_clearText ∈ cc_GT := cc_gt 406 (by decide +kernel) (by decide +kernel)
theorem cd_X3_clearText : Cond.code yX3_clearText prog_1_method_11_code 2 (some .int) ∈ cc_GT := cc_gt 407 (by decide +kernel) (by decide +kernel)
theorem ml_L_58 : Cond.methodLink RL 58 yX3_undo ∈ cc_GT := cc_gt 408 (by decide +kernel) (by decide +kernel)
theorem im_X3_undo : Cond.instanceMethod yX3_undo ∈ cc_GT := cc_gt 409 (by decide +kernel) (by decide +kernel)
theorem sl_X3_undo : Cond.selects RX3 yX3_undo yX3_undo ∈ cc_GT := cc_gt 410 (by decide +kernel) (by decide +kernel)
theorem cd_X3_undo : Cond.code yX3_undo prog_1_method_12_code 1 (some .int) ∈ cc_GT := cc_gt 411 (by decide +kernel) (by decide +kernel)
theorem ml_L_62 : Cond.methodLink RL 62 yX3_keep ∈ cc_GT := cc_gt 412 (by decide +kernel) (by decide +kernel)
theorem im_X3_keep : Cond.instanceMethod yX3_keep ∈ cc_GT := cc_gt 413 (by decide +kernel) (by decide +kernel)
theorem sl_X3_keep : Cond.selects RX3 yX3_keep yX3_keep ∈ cc_GT := cc_gt 414 (by decide +kernel) (by decide +kernel)
theorem cd_X3_keep : Cond.code yX3_keep prog_1_method_13_code 1 (some .int) ∈ cc_GT := cc_gt 415 (by decide +kernel) (by decide +kernel)
theorem ml_L_66 : Cond.methodLink RL 66 yX3_restore ∈ cc_GT := cc_gt 416 (by decide +kernel) (by decide +kernel)
theorem im_X3_restore : Cond.instanceMethod yX3_restore ∈ cc_GT := cc_gt 417 (by decide +kernel) (by decide +kernel)
theorem sl_X3_restore : Cond.selects RX3 yX3_restore yX3_restore ∈ cc_GT := cc_gt 418 (by decide +kernel) (by decide +kernel)
theorem cd_X3_restore : Cond.code yX3_restore prog_1_method_14_code 1 (some .int) ∈ cc_GT := cc_gt 419 (by decide +kernel) (by decide +kernel)
theorem ml_L_70 : Cond.methodLink RL 70 yX3_lane ∈ cc_GT := cc_gt 420 (by decide +kernel) (by decide +kernel)
theorem im_X3_lane : Cond.instanceMethod yX3_lane ∈ cc_GT := cc_gt 421 (by decide +kernel) (by decide +kernel)
theorem sl_X3_lane : Cond.selects RX3 yX3_lane yX3_lane ∈ cc_GT := cc_gt 422 (by decide +kernel) (by decide +kernel)
theorem cd_X3_lane : Cond.code yX3_lane prog_1_method_15_code 3 (some .int) ∈ cc_GT := cc_gt 423 (by decide +kernel) (by decide +kernel)
theorem mn_X3_126 : Cond.methodLinkNest RX3 126 yX0_waitingFor "ChairCredits" ∈ cc_NT := List.mem_filter.mpr ⟨List.mem_of_getElem? (i := 357) (by decide +kernel), by decide +kernel⟩
theorem im_X0_waitingFor : Cond.instanceMethod yX0_waitingFor ∈ cc_GT := cc_gt 426 (by decide +kernel) (by decide +kernel)
theorem cd_X0_waitingFor : Cond.code yX0_waitingFor prog_2_method_8_code 4 (some .int) ∈ cc_GT := cc_gt 427 (by decide +kernel) (by decide +kernel)
theorem mn_X0_93 : Cond.methodLinkNest RX0 93 yX2_waitingFor "ChairCredits" ∈ cc_NT := List.mem_filter.mpr ⟨List.mem_of_getElem? (i := 361) (by decide +kernel), by decide +kernel⟩
theorem im_X2_waitingFor : Cond.instanceMethod yX2_waitingFor ∈ cc_GT := cc_gt 430 (by decide +kernel) (by decide +kernel)
theorem cd_X2_waitingFor : Cond.code yX2_waitingFor prog_4_method_8_code 4 (some .int) ∈ cc_GT := cc_gt 431 (by decide +kernel) (by decide +kernel)
theorem mn_X3_129 : Cond.methodLinkNest RX3 129 yX0_isStuck "ChairCredits" ∈ cc_NT := List.mem_filter.mpr ⟨List.mem_of_getElem? (i := 365) (by decide +kernel), by decide +kernel⟩
theorem im_X0_isStuck : Cond.instanceMethod yX0_isStuck ∈ cc_GT := cc_gt 434 (by decide +kernel) (by decide +kernel)
theorem cd_X0_isStuck : Cond.code yX0_isStuck prog_2_method_9_code 2 (some .boolean) ∈ cc_GT := cc_gt 435 (by decide +kernel) (by decide +kernel)
theorem mn_X0_96 : Cond.methodLinkNest RX0 96 yX1_isDry "ChairCredits" ∈ cc_NT := List.mem_filter.mpr ⟨List.mem_of_getElem? (i := 369) (by decide +kernel), by decide +kernel⟩
theorem im_X1_isDry : Cond.instanceMethod yX1_isDry ∈ cc_GT := cc_gt 438 (by decide +kernel) (by decide +kernel)
theorem cd_X1_isDry : Cond.code yX1_isDry prog_3_method_7_code 1 (some .boolean) ∈ cc_GT := cc_gt 439 (by decide +kernel) (by decide +kernel)
theorem ml_X0_100 : Cond.methodLink RX0 100 yX0_waitingFor ∈ cc_GT := cc_gt 440 (by decide +kernel) (by decide +kernel)
theorem mn_X3_132 : Cond.methodLinkNest RX3 132 yX1_figure "ChairCredits" ∈ cc_NT := List.mem_filter.mpr ⟨List.mem_of_getElem? (i := 374) (by decide +kernel), by decide +kernel⟩
theorem im_X1_figure : Cond.instanceMethod yX1_figure ∈ cc_GT := cc_gt 443 (by decide +kernel) (by decide +kernel)
theorem cd_X1_figure : Cond.code yX1_figure prog_3_method_15_code 2 (some .int) ∈ cc_GT := cc_gt 444 (by decide +kernel) (by decide +kernel)
theorem ml_L_74 : Cond.methodLink RL 74 yX3_seated ∈ cc_GT := cc_gt 445 (by decide +kernel) (by decide +kernel)
theorem im_X3_seated : Cond.instanceMethod yX3_seated ∈ cc_GT := cc_gt 446 (by decide +kernel) (by decide +kernel)
theorem sl_X3_seated : Cond.selects RX3 yX3_seated yX3_seated ∈ cc_GT := cc_gt 447 (by decide +kernel) (by decide +kernel)
theorem cd_X3_seated : Cond.code yX3_seated prog_1_method_16_code 4 (some .int) ∈ cc_GT := cc_gt 448 (by decide +kernel) (by decide +kernel)
theorem ml_L_78 : Cond.methodLink RL 78 yX3_onTheWay ∈ cc_GT := cc_gt 449 (by decide +kernel) (by decide +kernel)
theorem im_X3_onTheWay : Cond.instanceMethod yX3_onTheWay ∈ cc_GT := cc_gt 450 (by decide +kernel) (by decide +kernel)
theorem sl_X3_onTheWay : Cond.selects RX3 yX3_onTheWay yX3_onTheWay ∈ cc_GT := cc_gt 451 (by decide +kernel) (by decide +kernel)
theorem cd_X3_onTheWay : Cond.code yX3_onTheWay prog_1_method_17_code 4 (some .int) ∈ cc_GT := cc_gt 452 (by decide +kernel) (by decide +kernel)
theorem ml_L_82 : Cond.methodLink RL 82 yX3_input ∈ cc_GT := cc_gt 453 (by decide +kernel) (by decide +kernel)
theorem im_X3_input : Cond.instanceMethod yX3_input ∈ cc_GT := cc_gt 454 (by decide +kernel) (by decide +kernel)
theorem sl_X3_input : Cond.selects RX3 yX3_input yX3_input ∈ cc_GT := cc_gt 455 (by decide +kernel) (by decide +kernel)
theorem cd_X3_input : Cond.code yX3_input prog_1_method_18_code 3 (some .int) ∈ cc_GT := cc_gt 456 (by decide +kernel) (by decide +kernel)
theorem mn_X3_142 : Cond.methodLinkNest RX3 142 yX2_figure "ChairCredits" ∈ cc_NT := List.mem_filter.mpr ⟨List.mem_of_getElem? (i := 390) (by decide +kernel), by decide +kernel⟩
theorem im_X2_figure : Cond.instanceMethod yX2_figure ∈ cc_GT := cc_gt 459 (by decide +kernel) (by decide +kernel)
theorem cd_X2_figure : Cond.code yX2_figure prog_4_method_10_code 2 (some .int) ∈ cc_GT := cc_gt 460 (by decide +kernel) (by decide +kernel)
theorem ml_L_86 : Cond.methodLink RL 86 yX3_packet ∈ cc_GT := cc_gt 461 (by decide +kernel) (by decide +kernel)
theorem im_X3_packet : Cond.instanceMethod yX3_packet ∈ cc_GT := cc_gt 462 (by decide +kernel) (by decide +kernel)
theorem sl_X3_packet : Cond.selects RX3 yX3_packet yX3_packet ∈ cc_GT := cc_gt 463 (by decide +kernel) (by decide +kernel)
theorem cd_X3_packet : Cond.code yX3_packet prog_1_method_19_code 4 (some .int) ∈ cc_GT := cc_gt 464 (by decide +kernel) (by decide +kernel)
theorem mn_X3_143 : Cond.methodLinkNest RX3 143 yX2_packetFigure "ChairCredits" ∈ cc_NT := List.mem_filter.mpr ⟨List.mem_of_getElem? (i := 398) (by decide +kernel), by decide +kernel⟩
theorem im_X2_packetFigure : Cond.instanceMethod yX2_packetFigure ∈ cc_GT := cc_gt 467 (by decide +kernel) (by decide +kernel)
theorem cd_X2_packetFigure : Cond.code yX2_packetFigure prog_4_method_11_code 3 (some .int) ∈ cc_GT := cc_gt 468 (by decide +kernel) (by decide +kernel)
theorem ml_L_90 : Cond.methodLink RL 90 yX3_next ∈ cc_GT := cc_gt 469 (by decide +kernel) (by decide +kernel)
theorem im_X3_next : Cond.instanceMethod yX3_next ∈ cc_GT := cc_gt 470 (by decide +kernel) (by decide +kernel)
theorem sl_X3_next : Cond.selects RX3 yX3_next yX3_next ∈ cc_GT := cc_gt 471 (by decide +kernel) (by decide +kernel)
theorem cd_X3_next : Cond.code yX3_next prog_1_method_20_code 4 (some .int) ∈ cc_GT := cc_gt 472 (by decide +kernel) (by decide +kernel)
theorem mn_X3_146 : Cond.methodLinkNest RX3 146 yX0_beginTick "ChairCredits" ∈ cc_NT := List.mem_filter.mpr ⟨List.mem_of_getElem? (i := 406) (by decide +kernel), by decide +kernel⟩
theorem mn_X3_149 : Cond.methodLinkNest RX3 149 yX0_sendTo "ChairCredits" ∈ cc_NT := List.mem_filter.mpr ⟨List.mem_of_getElem? (i := 407) (by decide +kernel), by decide +kernel⟩
theorem ml_L_94 : Cond.methodLink RL 94 yX3_leavesIn ∈ cc_GT := cc_gt 475 (by decide +kernel) (by decide +kernel)
theorem im_X3_leavesIn : Cond.instanceMethod yX3_leavesIn ∈ cc_GT := cc_gt 476 (by decide +kernel) (by decide +kernel)
theorem sl_X3_leavesIn : Cond.selects RX3 yX3_leavesIn yX3_leavesIn ∈ cc_GT := cc_gt 477 (by decide +kernel) (by decide +kernel)
theorem cd_X3_leavesIn : Cond.code yX3_leavesIn prog_1_method_21_code 5 (some .int) ∈ cc_GT := cc_gt 478 (by decide +kernel) (by decide +kernel)
theorem mn_X3_158 : Cond.methodLinkNest RX3 158 yX0_passTick "ChairCredits" ∈ cc_NT := List.mem_filter.mpr ⟨List.mem_of_getElem? (i := 412) (by decide +kernel), by decide +kernel⟩
theorem mn_X3_161 : Cond.methodLinkNest RX3 161 yX2_holds "ChairCredits" ∈ cc_NT := List.mem_filter.mpr ⟨List.mem_of_getElem? (i := 413) (by decide +kernel), by decide +kernel⟩
theorem im_X2_holds : Cond.instanceMethod yX2_holds ∈ cc_GT := cc_gt 482 (by decide +kernel) (by decide +kernel)
theorem cd_X2_holds : Cond.code yX2_holds prog_4_method_9_code 3 (some .boolean) ∈ cc_GT := cc_gt 483 (by decide +kernel) (by decide +kernel)
theorem ml_L_98 : Cond.methodLink RL 98 yX3_wouldSend ∈ cc_GT := cc_gt 484 (by decide +kernel) (by decide +kernel)
theorem im_X3_wouldSend : Cond.instanceMethod yX3_wouldSend ∈ cc_GT := cc_gt 485 (by decide +kernel) (by decide +kernel)
theorem sl_X3_wouldSend : Cond.selects RX3 yX3_wouldSend yX3_wouldSend ∈ cc_GT := cc_gt 486 (by decide +kernel) (by decide +kernel)
theorem cd_X3_wouldSend : Cond.code yX3_wouldSend prog_1_method_22_code 3 (some .int) ∈ cc_GT := cc_gt 487 (by decide +kernel) (by decide +kernel)
theorem ml_L_102 : Cond.methodLink RL 102 yX3_count ∈ cc_GT := cc_gt 488 (by decide +kernel) (by decide +kernel)
theorem im_X3_count : Cond.instanceMethod yX3_count ∈ cc_GT := cc_gt 489 (by decide +kernel) (by decide +kernel)
theorem sl_X3_count : Cond.selects RX3 yX3_count yX3_count ∈ cc_GT := cc_gt 490 (by decide +kernel) (by decide +kernel)
theorem cd_X3_count : Cond.code yX3_count prog_1_method_23_code 2 (some .int) ∈ cc_GT := cc_gt 491 (by decide +kernel) (by decide +kernel)
theorem mn_X3_164 : Cond.methodLinkNest RX3 164 yX0_figure "ChairCredits" ∈ cc_NT := List.mem_filter.mpr ⟨List.mem_of_getElem? (i := 425) (by decide +kernel), by decide +kernel⟩
theorem im_X0_figure : Cond.instanceMethod yX0_figure ∈ cc_GT := cc_gt 494 (by decide +kernel) (by decide +kernel)
theorem cd_X0_figure : Cond.code yX0_figure prog_2_method_11_code 2 (some .int) ∈ cc_GT := cc_gt 495 (by decide +kernel) (by decide +kernel)
theorem ml_X0_105 : Cond.methodLink RX0 105 yX0_sumOfQueues ∈ cc_GT := cc_gt 496 (by decide +kernel) (by decide +kernel)
theorem im_X0_sumOfQueues : Cond.instanceMethod yX0_sumOfQueues ∈ cc_GT := cc_gt 498 (by decide +kernel) (by decide +kernel)
theorem cd_X0_sumOfQueues : Cond.code yX0_sumOfQueues prog_2_method_13_code 4 (some .int) ∈ cc_GT := cc_gt 499 (by decide +kernel) (by decide +kernel)
theorem mn_X0_117 : Cond.methodLinkNest RX0 117 yX2_figure "ChairCredits" ∈ cc_NT := List.mem_filter.mpr ⟨List.mem_of_getElem? (i := 433) (by decide +kernel), by decide +kernel⟩
theorem ml_X0_108 : Cond.methodLink RX0 108 yX0_sumOfLanes ∈ cc_GT := cc_gt 501 (by decide +kernel) (by decide +kernel)
theorem im_X0_sumOfLanes : Cond.instanceMethod yX0_sumOfLanes ∈ cc_GT := cc_gt 503 (by decide +kernel) (by decide +kernel)
theorem cd_X0_sumOfLanes : Cond.code yX0_sumOfLanes prog_2_method_12_code 4 (some .int) ∈ cc_GT := cc_gt 504 (by decide +kernel) (by decide +kernel)
theorem mn_X0_114 : Cond.methodLinkNest RX0 114 yX1_figure "ChairCredits" ∈ cc_NT := List.mem_filter.mpr ⟨List.mem_of_getElem? (i := 438) (by decide +kernel), by decide +kernel⟩
theorem ml_X0_111 : Cond.methodLink RX0 111 yX0_stuckLanes ∈ cc_GT := cc_gt 506 (by decide +kernel) (by decide +kernel)
theorem im_X0_stuckLanes : Cond.instanceMethod yX0_stuckLanes ∈ cc_GT := cc_gt 508 (by decide +kernel) (by decide +kernel)
theorem cd_X0_stuckLanes : Cond.code yX0_stuckLanes prog_2_method_10_code 3 (some .int) ∈ cc_GT := cc_gt 509 (by decide +kernel) (by decide +kernel)
theorem ml_X0_101 : Cond.methodLink RX0 101 yX0_isStuck ∈ cc_GT := cc_gt 510 (by decide +kernel) (by decide +kernel)
theorem cl_L_10 : Cond.classLink RL 10 RX4 ∈ cc_GT := cc_gt 511 (by decide +kernel) (by decide +kernel)
theorem ib_X4 : Cond.instantiable RX4 11 ∈ cc_GT := cc_gt 512 (by decide +kernel) (by decide +kernel)
theorem ml_L_12 : Cond.methodLink RL 12 yX4_init ∈ cc_GT := cc_gt 513 (by decide +kernel) (by decide +kernel)
theorem im_X4_init : Cond.instanceMethod yX4_init ∈ cc_GT := cc_gt 514 (by decide +kernel) (by decide +kernel)
theorem cd_X4_init : Cond.code yX4_init prog_6_method_1_code 2 (none : Option FieldType) ∈ cc_GT := cc_gt 515 (by decide +kernel) (by decide +kernel)
theorem ml_X4_1 : Cond.methodLink RX4 1 ⟨"java/lang/Object", "<init>", "()V"⟩ ∈ cc_GT := cc_gt 516 (by decide +kernel) (by decide +kernel)
theorem ml_X4_33 : Cond.methodLink RX4 33 yX4_lay ∈ cc_GT := cc_gt 517 (by decide +kernel) (by decide +kernel)
theorem im_X4_lay : Cond.instanceMethod yX4_lay ∈ cc_GT := cc_gt 519 (by decide +kernel) (by decide +kernel)
theorem cd_X4_lay : Cond.code yX4_lay prog_6_method_5_code 4 (none : Option FieldType) ∈ cc_GT := cc_gt 520 (by decide +kernel) (by decide +kernel)
theorem fl_X4_7 : Cond.fieldLink RX4 7 "ChairCreditsModel" "row" "[I" ∈ cc_GT := cc_gt 521 (by decide +kernel) (by decide +kernel)
theorem fl_X4_13 : Cond.fieldLink RX4 13 "ChairCreditsModel" "past" "[I" ∈ cc_GT := cc_gt 522 (by decide +kernel) (by decide +kernel)
theorem fl_X4_16 : Cond.fieldLink RX4 16 "ChairCreditsModel" "aside" "[I" ∈ cc_GT := cc_gt 523 (by decide +kernel) (by decide +kernel)
theorem fl_X4_19 : Cond.fieldLink RX4 19 "ChairCreditsModel" "before" "[I" ∈ cc_GT := cc_gt 524 (by decide +kernel) (by decide +kernel)
theorem fl_X4_41 : Cond.fieldLink RX4 41 "ChairCreditsModel" "states" "I" ∈ cc_GT := cc_gt 525 (by decide +kernel) (by decide +kernel)
theorem fl_X4_51 : Cond.fieldLink RX4 51 "ChairCreditsModel" "isAside" "Z" ∈ cc_GT := cc_gt 526 (by decide +kernel) (by decide +kernel)
theorem fl_X4_22 : Cond.fieldLink RX4 22 "ChairCreditsModel" "text" "[C" ∈ cc_GT := cc_gt 527 (by decide +kernel) (by decide +kernel)
theorem fl_X4_79 : Cond.fieldLink RX4 79 "ChairCreditsModel" "length" "I" ∈ cc_GT := cc_gt 528 (by decide +kernel) (by decide +kernel)
theorem fl_X4_76 : Cond.fieldLink RX4 76 "ChairCreditsModel" "at" "I" ∈ cc_GT := cc_gt 529 (by decide +kernel) (by decide +kernel)
theorem fl_X4_26 : Cond.fieldLink RX4 26 "ChairCreditsModel" "hasSent" "[Z" ∈ cc_GT := cc_gt 530 (by decide +kernel) (by decide +kernel)
theorem fl_X4_30 : Cond.fieldLink RX4 30 "ChairCreditsModel" "sentTo" "[I" ∈ cc_GT := cc_gt 531 (by decide +kernel) (by decide +kernel)
theorem ac_boolean : Cond.arrayClass .boolean ∈ cc_GT := cc_gt 555 (by decide +kernel) (by decide +kernel)
theorem ml_L_61 : Cond.methodLink RL 61 yX4_undo ∈ cc_GT := cc_gt 556 (by decide +kernel) (by decide +kernel)
theorem im_X4_undo : Cond.instanceMethod yX4_undo ∈ cc_GT := cc_gt 557 (by decide +kernel) (by decide +kernel)
theorem sl_X4_undo : Cond.selects RX4 yX4_undo yX4_undo ∈ cc_GT := cc_gt 558 (by decide +kernel) (by decide +kernel)
theorem cd_X4_undo : Cond.code yX4_undo prog_6_method_12_code 2 (some .int) ∈ cc_GT := cc_gt 559 (by decide +kernel) (by decide +kernel)
theorem ml_L_65 : Cond.methodLink RL 65 yX4_keep ∈ cc_GT := cc_gt 560 (by decide +kernel) (by decide +kernel)
theorem im_X4_keep : Cond.instanceMethod yX4_keep ∈ cc_GT := cc_gt 561 (by decide +kernel) (by decide +kernel)
theorem sl_X4_keep : Cond.selects RX4 yX4_keep yX4_keep ∈ cc_GT := cc_gt 562 (by decide +kernel) (by decide +kernel)
theorem cd_X4_keep : Cond.code yX4_keep prog_6_method_13_code 2 (some .int) ∈ cc_GT := cc_gt 563 (by decide +kernel) (by decide +kernel)
theorem ml_L_69 : Cond.methodLink RL 69 yX4_restore ∈ cc_GT := cc_gt 564 (by decide +kernel) (by decide +kernel)
theorem im_X4_restore : Cond.instanceMethod yX4_restore ∈ cc_GT := cc_gt 565 (by decide +kernel) (by decide +kernel)
theorem sl_X4_restore : Cond.selects RX4 yX4_restore yX4_restore ∈ cc_GT := cc_gt 566 (by decide +kernel) (by decide +kernel)
theorem cd_X4_restore : Cond.code yX4_restore prog_6_method_14_code 2 (some .int) ∈ cc_GT := cc_gt 567 (by decide +kernel) (by decide +kernel)
theorem ml_X4_55 : Cond.methodLink RX4 55 yX4_open ∈ cc_GT := cc_gt 568 (by decide +kernel) (by decide +kernel)
theorem im_X4_open : Cond.instanceMethod yX4_open ∈ cc_GT := cc_gt 570 (by decide +kernel) (by decide +kernel)
theorem cd_X4_open : Cond.code yX4_open prog_6_method_11_code 1 (none : Option FieldType) ∈ cc_GT := cc_gt 571 (by decide +kernel) (by decide +kernel)
theorem ml_X4_45 : Cond.methodLink RX4 45 yX4_remember ∈ cc_GT := cc_gt 572 (by decide +kernel) (by decide +kernel)
theorem im_X4_remember : Cond.instanceMethod yX4_remember ∈ cc_GT := cc_gt 574 (by decide +kernel) (by decide +kernel)
theorem cd_X4_remember : Cond.code yX4_remember prog_6_method_8_code 2 (none : Option FieldType) ∈ cc_GT := cc_gt 575 (by decide +kernel) (by decide +kernel)
theorem ml_X4_48 : Cond.methodLink RX4 48 yX4_record ∈ cc_GT := cc_gt 576 (by decide +kernel) (by decide +kernel)
theorem im_X4_record : Cond.instanceMethod yX4_record ∈ cc_GT := cc_gt 578 (by decide +kernel) (by decide +kernel)
theorem cd_X4_record : Cond.code yX4_record prog_6_method_10_code 2 (none : Option FieldType) ∈ cc_GT := cc_gt 579 (by decide +kernel) (by decide +kernel)
theorem ml_L_17 : Cond.methodLink RL 17 yX4_setLane ∈ cc_GT := cc_gt 580 (by decide +kernel) (by decide +kernel)
theorem im_X4_setLane : Cond.instanceMethod yX4_setLane ∈ cc_GT := cc_gt 581 (by decide +kernel) (by decide +kernel)
theorem sl_X4_setLane : Cond.selects RX4 yX4_setLane yX4_setLane ∈ cc_GT := cc_gt 582 (by decide +kernel) (by decide +kernel)
theorem cd_X4_setLane : Cond.code yX4_setLane prog_6_method_15_code 5 (some .int) ∈ cc_GT := cc_gt 583 (by decide +kernel) (by decide +kernel)
theorem ml_X4_58 : Cond.methodLink RX4 58 yX4_noPort ∈ cc_GT := cc_gt 584 (by decide +kernel) (by decide +kernel)
theorem st_X4_noPort : Cond.static yX4_noPort ∈ cc_GT := cc_gt 585 (by decide +kernel) (by decide +kernel)
theorem cd_X4_noPort : Cond.code yX4_noPort prog_6_method_3_code 1 (some .boolean) ∈ cc_GT := cc_gt 586 (by decide +kernel) (by decide +kernel)
theorem ml_X4_37 : Cond.methodLink RX4 37 yX4_in ∈ cc_GT := cc_gt 587 (by decide +kernel) (by decide +kernel)
theorem st_X4_in : Cond.static yX4_in ∈ cc_GT := cc_gt 588 (by decide +kernel) (by decide +kernel)
theorem cd_X4_in : Cond.code yX4_in prog_6_method_2_code 3 (some .boolean) ∈ cc_GT := cc_gt 589 (by decide +kernel) (by decide +kernel)
theorem ml_X4_62 : Cond.methodLink RX4 62 yX4_of ∈ cc_GT := cc_gt 590 (by decide +kernel) (by decide +kernel)
theorem im_X4_of : Cond.instanceMethod yX4_of ∈ cc_GT := cc_gt 592 (by decide +kernel) (by decide +kernel)
theorem cd_X4_of : Cond.code yX4_of prog_6_method_4_code 3 (some .int) ∈ cc_GT := cc_gt 593 (by decide +kernel) (by decide +kernel)
theorem ml_X4_66 : Cond.methodLink RX4 66 yX4_more ∈ cc_GT := cc_gt 594 (by decide +kernel) (by decide +kernel)
theorem im_X4_more : Cond.instanceMethod yX4_more ∈ cc_GT := cc_gt 596 (by decide +kernel) (by decide +kernel)
theorem cd_X4_more : Cond.code yX4_more prog_6_method_6_code 4 (none : Option FieldType) ∈ cc_GT := cc_gt 597 (by decide +kernel) (by decide +kernel)
theorem ml_L_22 : Cond.methodLink RL 22 yX4_set ∈ cc_GT := cc_gt 598 (by decide +kernel) (by decide +kernel)
theorem im_X4_set : Cond.instanceMethod yX4_set ∈ cc_GT := cc_gt 599 (by decide +kernel) (by decide +kernel)
theorem sl_X4_set : Cond.selects RX4 yX4_set yX4_set ∈ cc_GT := cc_gt 600 (by decide +kernel) (by decide +kernel)
theorem cd_X4_set : Cond.code yX4_set prog_6_method_16_code 4 (some .int) ∈ cc_GT := cc_gt 601 (by decide +kernel) (by decide +kernel)
theorem ml_L_26 : Cond.methodLink RL 26 yX4_arrive ∈ cc_GT := cc_gt 602 (by decide +kernel) (by decide +kernel)
theorem im_X4_arrive : Cond.instanceMethod yX4_arrive ∈ cc_GT := cc_gt 603 (by decide +kernel) (by decide +kernel)
theorem sl_X4_arrive : Cond.selects RX4 yX4_arrive yX4_arrive ∈ cc_GT := cc_gt 604 (by decide +kernel) (by decide +kernel)
theorem cd_X4_arrive : Cond.code yX4_arrive prog_6_method_18_code 3 (some .int) ∈ cc_GT := cc_gt 605 (by decide +kernel) (by decide +kernel)
theorem ml_X4_69 : Cond.methodLink RX4 69 yX4_by ∈ cc_GT := cc_gt 606 (by decide +kernel) (by decide +kernel)
theorem im_X4_by : Cond.instanceMethod yX4_by ∈ cc_GT := cc_gt 608 (by decide +kernel) (by decide +kernel)
theorem cd_X4_by : Cond.code yX4_by prog_6_method_7_code 3 (some .int) ∈ cc_GT := cc_gt 609 (by decide +kernel) (by decide +kernel)
theorem ml_X4_72 : Cond.methodLink RX4 72 yX4_bring ∈ cc_GT := cc_gt 610 (by decide +kernel) (by decide +kernel)
theorem im_X4_bring : Cond.instanceMethod yX4_bring ∈ cc_GT := cc_gt 612 (by decide +kernel) (by decide +kernel)
theorem cd_X4_bring : Cond.code yX4_bring prog_6_method_17_code 4 (none : Option FieldType) ∈ cc_GT := cc_gt 613 (by decide +kernel) (by decide +kernel)
theorem ml_L_31 : Cond.methodLink RL 31 yX4_readArrivals ∈ cc_GT := cc_gt 614 (by decide +kernel) (by decide +kernel)
theorem im_X4_readArrivals : Cond.instanceMethod yX4_readArrivals ∈ cc_GT := cc_gt 615 (by decide +kernel) (by decide +kernel)
theorem sl_X4_readArrivals : Cond.selects RX4 yX4_readArrivals yX4_readArrivals ∈ cc_GT := cc_gt 616 (by decide +kernel) (by decide +kernel)
theorem cd_X4_readArrivals : Cond.code yX4_readArrivals prog_6_method_22_code 2 (some .int) ∈ cc_GT := cc_gt 617 (by decide +kernel) (by decide +kernel)
theorem ml_X4_90 : Cond.methodLink RX4 90 yX4_arrivals ∈ cc_GT := cc_gt 618 (by decide +kernel) (by decide +kernel)
theorem im_X4_arrivals : Cond.instanceMethod yX4_arrivals ∈ cc_GT := cc_gt 620 (by decide +kernel) (by decide +kernel)
theorem cd_X4_arrivals : Cond.code yX4_arrivals prog_6_method_21_code 5 (some .int) ∈ cc_GT := cc_gt 621 (by decide +kernel) (by decide +kernel)
theorem ml_X4_86 : Cond.methodLink RX4 86 yX4_arrival ∈ cc_GT := cc_gt 622 (by decide +kernel) (by decide +kernel)
theorem im_X4_arrival : Cond.instanceMethod yX4_arrival ∈ cc_GT := cc_gt 624 (by decide +kernel) (by decide +kernel)
theorem cd_X4_arrival : Cond.code yX4_arrival prog_6_method_20_code 6 (some .int) ∈ cc_GT := cc_gt 625 (by decide +kernel) (by decide +kernel)
theorem ml_X4_82 : Cond.methodLink RX4 82 yX4_sees ∈ cc_GT := cc_gt 626 (by decide +kernel) (by decide +kernel)
theorem im_X4_sees : Cond.instanceMethod yX4_sees ∈ cc_GT := cc_gt 628 (by decide +kernel) (by decide +kernel)
theorem cd_X4_sees : Cond.code yX4_sees prog_6_method_19_code 3 (some .boolean) ∈ cc_GT := cc_gt 629 (by decide +kernel) (by decide +kernel)
theorem ml_X4_93 : Cond.methodLink RX4 93 yX4_goBack ∈ cc_GT := cc_gt 630 (by decide +kernel) (by decide +kernel)
theorem im_X4_goBack : Cond.instanceMethod yX4_goBack ∈ cc_GT := cc_gt 632 (by decide +kernel) (by decide +kernel)
theorem cd_X4_goBack : Cond.code yX4_goBack prog_6_method_9_code 2 (none : Option FieldType) ∈ cc_GT := cc_gt 633 (by decide +kernel) (by decide +kernel)
theorem ml_L_36 : Cond.methodLink RL 36 yX4_pass ∈ cc_GT := cc_gt 634 (by decide +kernel) (by decide +kernel)
theorem im_X4_pass : Cond.instanceMethod yX4_pass ∈ cc_GT := cc_gt 635 (by decide +kernel) (by decide +kernel)
theorem sl_X4_pass : Cond.selects RX4 yX4_pass yX4_pass ∈ cc_GT := cc_gt 636 (by decide +kernel) (by decide +kernel)
theorem cd_X4_pass : Cond.code yX4_pass prog_6_method_32_code 2 (some .int) ∈ cc_GT := cc_gt 637 (by decide +kernel) (by decide +kernel)
theorem ml_X4_123 : Cond.methodLink RX4 123 yX4_passAll ∈ cc_GT := cc_gt 638 (by decide +kernel) (by decide +kernel)
theorem im_X4_passAll : Cond.instanceMethod yX4_passAll ∈ cc_GT := cc_gt 640 (by decide +kernel) (by decide +kernel)
theorem cd_X4_passAll : Cond.code yX4_passAll prog_6_method_31_code 4 (some .int) ∈ cc_GT := cc_gt 641 (by decide +kernel) (by decide +kernel)
theorem ml_X4_119 : Cond.methodLink RX4 119 yX4_tick ∈ cc_GT := cc_gt 642 (by decide +kernel) (by decide +kernel)
theorem im_X4_tick : Cond.instanceMethod yX4_tick ∈ cc_GT := cc_gt 644 (by decide +kernel) (by decide +kernel)
theorem cd_X4_tick : Cond.code yX4_tick prog_6_method_30_code 3 (some .int) ∈ cc_GT := cc_gt 645 (by decide +kernel) (by decide +kernel)
theorem ml_X4_106 : Cond.methodLink RX4 106 yX4_come ∈ cc_GT := cc_gt 646 (by decide +kernel) (by decide +kernel)
theorem im_X4_come : Cond.instanceMethod yX4_come ∈ cc_GT := cc_gt 648 (by decide +kernel) (by decide +kernel)
theorem cd_X4_come : Cond.code yX4_come prog_6_method_24_code 2 (none : Option FieldType) ∈ cc_GT := cc_gt 649 (by decide +kernel) (by decide +kernel)
theorem ml_X4_96 : Cond.methodLink RX4 96 yX4_dropFirst ∈ cc_GT := cc_gt 650 (by decide +kernel) (by decide +kernel)
theorem im_X4_dropFirst : Cond.instanceMethod yX4_dropFirst ∈ cc_GT := cc_gt 652 (by decide +kernel) (by decide +kernel)
theorem cd_X4_dropFirst : Cond.code yX4_dropFirst prog_6_method_25_code 3 (none : Option FieldType) ∈ cc_GT := cc_gt 653 (by decide +kernel) (by decide +kernel)
theorem ml_X4_109 : Cond.methodLink RX4 109 yX4_missing ∈ cc_GT := cc_gt 654 (by decide +kernel) (by decide +kernel)
theorem im_X4_missing : Cond.instanceMethod yX4_missing ∈ cc_GT := cc_gt 656 (by decide +kernel) (by decide +kernel)
theorem cd_X4_missing : Cond.code yX4_missing prog_6_method_23_code 2 (some .int) ∈ cc_GT := cc_gt 657 (by decide +kernel) (by decide +kernel)
theorem ml_X4_113 : Cond.methodLink RX4 113 yX4_send ∈ cc_GT := cc_gt 658 (by decide +kernel) (by decide +kernel)
theorem im_X4_send : Cond.instanceMethod yX4_send ∈ cc_GT := cc_gt 660 (by decide +kernel) (by decide +kernel)
theorem cd_X4_send : Cond.code yX4_send prog_6_method_28_code 6 (some .int) ∈ cc_GT := cc_gt 661 (by decide +kernel) (by decide +kernel)
theorem ml_X4_100 : Cond.methodLink RX4 100 yX4_offer ∈ cc_GT := cc_gt 662 (by decide +kernel) (by decide +kernel)
theorem im_X4_offer : Cond.instanceMethod yX4_offer ∈ cc_GT := cc_gt 664 (by decide +kernel) (by decide +kernel)
theorem cd_X4_offer : Cond.code yX4_offer prog_6_method_26_code 5 (some .int) ∈ cc_GT := cc_gt 665 (by decide +kernel) (by decide +kernel)
theorem ml_X4_103 : Cond.methodLink RX4 103 yX4_leave ∈ cc_GT := cc_gt 666 (by decide +kernel) (by decide +kernel)
theorem im_X4_leave : Cond.instanceMethod yX4_leave ∈ cc_GT := cc_gt 668 (by decide +kernel) (by decide +kernel)
theorem cd_X4_leave : Cond.code yX4_leave prog_6_method_27_code 6 (some .int) ∈ cc_GT := cc_gt 669 (by decide +kernel) (by decide +kernel)
theorem ml_X4_116 : Cond.methodLink RX4 116 yX4_take ∈ cc_GT := cc_gt 670 (by decide +kernel) (by decide +kernel)
theorem im_X4_take : Cond.instanceMethod yX4_take ∈ cc_GT := cc_gt 672 (by decide +kernel) (by decide +kernel)
theorem cd_X4_take : Cond.code yX4_take prog_6_method_29_code 4 (none : Option FieldType) ∈ cc_GT := cc_gt 673 (by decide +kernel) (by decide +kernel)
theorem ml_L_40 : Cond.methodLink RL 40 yX4_lose ∈ cc_GT := cc_gt 674 (by decide +kernel) (by decide +kernel)
theorem im_X4_lose : Cond.instanceMethod yX4_lose ∈ cc_GT := cc_gt 675 (by decide +kernel) (by decide +kernel)
theorem sl_X4_lose : Cond.selects RX4 yX4_lose yX4_lose ∈ cc_GT := cc_gt 676 (by decide +kernel) (by decide +kernel)
theorem cd_X4_lose : Cond.code yX4_lose prog_6_method_33_code 2 (some .int) ∈ cc_GT := cc_gt 677 (by decide +kernel) (by decide +kernel)
theorem ml_L_44 : Cond.methodLink RL 44 yX4_forge ∈ cc_GT := cc_gt 678 (by decide +kernel) (by decide +kernel)
theorem im_X4_forge : Cond.instanceMethod yX4_forge ∈ cc_GT := cc_gt 679 (by decide +kernel) (by decide +kernel)
theorem sl_X4_forge : Cond.selects RX4 yX4_forge yX4_forge ∈ cc_GT := cc_gt 680 (by decide +kernel) (by decide +kernel)
theorem cd_X4_forge : Cond.code yX4_forge prog_6_method_34_code 2 (some .int) ∈ cc_GT := cc_gt 681 (by decide +kernel) (by decide +kernel)
theorem ml_L_48 : Cond.methodLink RL 48 yX4_repair ∈ cc_GT := cc_gt 682 (by decide +kernel) (by decide +kernel)
theorem im_X4_repair : Cond.instanceMethod yX4_repair ∈ cc_GT := cc_gt 683 (by decide +kernel) (by decide +kernel)
theorem sl_X4_repair : Cond.selects RX4 yX4_repair yX4_repair ∈ cc_GT := cc_gt 684 (by decide +kernel) (by decide +kernel)
theorem cd_X4_repair : Cond.code yX4_repair prog_6_method_35_code 3 (some .int) ∈ cc_GT := cc_gt 685 (by decide +kernel) (by decide +kernel)
theorem ml_L_53 : Cond.methodLink RL 53 yX4_type ∈ cc_GT := cc_gt 686 (by decide +kernel) (by decide +kernel)
theorem im_X4_type : Cond.instanceMethod yX4_type ∈ cc_GT := cc_gt 687 (by decide +kernel) (by decide +kernel)
theorem sl_X4_type : Cond.selects RX4 yX4_type yX4_type ∈ cc_GT := cc_gt 688 (by decide +kernel) (by decide +kernel)
theorem cd_X4_type : Cond.code yX4_type prog_6_method_36_code 2 (some .int) ∈ cc_GT := cc_gt 689 (by decide +kernel) (by decide +kernel)
theorem ml_L_57 : Cond.methodLink RL 57 yX4_clearText ∈ cc_GT := cc_gt 690 (by decide +kernel) (by decide +kernel)
theorem im_X4_clearText : Cond.instanceMethod yX4_clearText ∈ cc_GT := cc_gt 691 (by decide +kernel) (by decide +kernel)
theorem sl_X4_clearText : Cond.selects RX4 yX4_clearText yX4_clearText ∈ cc_GT := cc_gt 692 (by decide +kernel) (by decide +kernel)
theorem cd_X4_clearText : Cond.code yX4_clearText prog_6_method_37_code 2 (some .int) ∈ cc_GT := cc_gt 693 (by decide +kernel) (by decide +kernel)
theorem ml_L_73 : Cond.methodLink RL 73 yX4_lane ∈ cc_GT := cc_gt 694 (by decide +kernel) (by decide +kernel)
theorem im_X4_lane : Cond.instanceMethod yX4_lane ∈ cc_GT := cc_gt 695 (by decide +kernel) (by decide +kernel)
theorem sl_X4_lane : Cond.selects RX4 yX4_lane yX4_lane ∈ cc_GT := cc_gt 696 (by decide +kernel) (by decide +kernel)
theorem cd_X4_lane : Cond.code yX4_lane prog_6_method_40_code 3 (some .int) ∈ cc_GT := cc_gt 697 (by decide +kernel) (by decide +kernel)
theorem ml_X4_126 : Cond.methodLink RX4 126 yX4_waiting ∈ cc_GT := cc_gt 698 (by decide +kernel) (by decide +kernel)
theorem im_X4_waiting : Cond.instanceMethod yX4_waiting ∈ cc_GT := cc_gt 700 (by decide +kernel) (by decide +kernel)
theorem cd_X4_waiting : Cond.code yX4_waiting prog_6_method_38_code 5 (some .int) ∈ cc_GT := cc_gt 701 (by decide +kernel) (by decide +kernel)
theorem ml_X4_129 : Cond.methodLink RX4 129 yX4_isStuck ∈ cc_GT := cc_gt 702 (by decide +kernel) (by decide +kernel)
theorem im_X4_isStuck : Cond.instanceMethod yX4_isStuck ∈ cc_GT := cc_gt 704 (by decide +kernel) (by decide +kernel)
theorem cd_X4_isStuck : Cond.code yX4_isStuck prog_6_method_39_code 2 (some .boolean) ∈ cc_GT := cc_gt 705 (by decide +kernel) (by decide +kernel)
theorem ml_L_77 : Cond.methodLink RL 77 yX4_seated ∈ cc_GT := cc_gt 706 (by decide +kernel) (by decide +kernel)
theorem im_X4_seated : Cond.instanceMethod yX4_seated ∈ cc_GT := cc_gt 707 (by decide +kernel) (by decide +kernel)
theorem sl_X4_seated : Cond.selects RX4 yX4_seated yX4_seated ∈ cc_GT := cc_gt 708 (by decide +kernel) (by decide +kernel)
theorem cd_X4_seated : Cond.code yX4_seated prog_6_method_41_code 3 (some .int) ∈ cc_GT := cc_gt 709 (by decide +kernel) (by decide +kernel)
theorem ml_L_81 : Cond.methodLink RL 81 yX4_onTheWay ∈ cc_GT := cc_gt 710 (by decide +kernel) (by decide +kernel)
theorem im_X4_onTheWay : Cond.instanceMethod yX4_onTheWay ∈ cc_GT := cc_gt 711 (by decide +kernel) (by decide +kernel)
theorem sl_X4_onTheWay : Cond.selects RX4 yX4_onTheWay yX4_onTheWay ∈ cc_GT := cc_gt 712 (by decide +kernel) (by decide +kernel)
theorem cd_X4_onTheWay : Cond.code yX4_onTheWay prog_6_method_42_code 3 (some .int) ∈ cc_GT := cc_gt 713 (by decide +kernel) (by decide +kernel)
theorem ml_L_85 : Cond.methodLink RL 85 yX4_input ∈ cc_GT := cc_gt 714 (by decide +kernel) (by decide +kernel)
theorem im_X4_input : Cond.instanceMethod yX4_input ∈ cc_GT := cc_gt 715 (by decide +kernel) (by decide +kernel)
theorem sl_X4_input : Cond.selects RX4 yX4_input yX4_input ∈ cc_GT := cc_gt 716 (by decide +kernel) (by decide +kernel)
theorem cd_X4_input : Cond.code yX4_input prog_6_method_43_code 3 (some .int) ∈ cc_GT := cc_gt 717 (by decide +kernel) (by decide +kernel)
theorem ml_L_89 : Cond.methodLink RL 89 yX4_packet ∈ cc_GT := cc_gt 718 (by decide +kernel) (by decide +kernel)
theorem im_X4_packet : Cond.instanceMethod yX4_packet ∈ cc_GT := cc_gt 719 (by decide +kernel) (by decide +kernel)
theorem sl_X4_packet : Cond.selects RX4 yX4_packet yX4_packet ∈ cc_GT := cc_gt 720 (by decide +kernel) (by decide +kernel)
theorem cd_X4_packet : Cond.code yX4_packet prog_6_method_44_code 4 (some .int) ∈ cc_GT := cc_gt 721 (by decide +kernel) (by decide +kernel)
theorem ml_L_93 : Cond.methodLink RL 93 yX4_next ∈ cc_GT := cc_gt 722 (by decide +kernel) (by decide +kernel)
theorem im_X4_next : Cond.instanceMethod yX4_next ∈ cc_GT := cc_gt 723 (by decide +kernel) (by decide +kernel)
theorem sl_X4_next : Cond.selects RX4 yX4_next yX4_next ∈ cc_GT := cc_gt 724 (by decide +kernel) (by decide +kernel)
theorem cd_X4_next : Cond.code yX4_next prog_6_method_45_code 2 (some .int) ∈ cc_GT := cc_gt 725 (by decide +kernel) (by decide +kernel)
theorem ml_L_97 : Cond.methodLink RL 97 yX4_leavesIn ∈ cc_GT := cc_gt 726 (by decide +kernel) (by decide +kernel)
theorem im_X4_leavesIn : Cond.instanceMethod yX4_leavesIn ∈ cc_GT := cc_gt 727 (by decide +kernel) (by decide +kernel)
theorem sl_X4_leavesIn : Cond.selects RX4 yX4_leavesIn yX4_leavesIn ∈ cc_GT := cc_gt 728 (by decide +kernel) (by decide +kernel)
theorem cd_X4_leavesIn : Cond.code yX4_leavesIn prog_6_method_47_code 6 (some .int) ∈ cc_GT := cc_gt 729 (by decide +kernel) (by decide +kernel)
theorem ml_X4_132 : Cond.methodLink RX4 132 yX4_waits ∈ cc_GT := cc_gt 730 (by decide +kernel) (by decide +kernel)
theorem im_X4_waits : Cond.instanceMethod yX4_waits ∈ cc_GT := cc_gt 732 (by decide +kernel) (by decide +kernel)
theorem cd_X4_waits : Cond.code yX4_waits prog_6_method_46_code 5 (some .boolean) ∈ cc_GT := cc_gt 733 (by decide +kernel) (by decide +kernel)
theorem ml_L_101 : Cond.methodLink RL 101 yX4_wouldSend ∈ cc_GT := cc_gt 734 (by decide +kernel) (by decide +kernel)
theorem im_X4_wouldSend : Cond.instanceMethod yX4_wouldSend ∈ cc_GT := cc_gt 735 (by decide +kernel) (by decide +kernel)
theorem sl_X4_wouldSend : Cond.selects RX4 yX4_wouldSend yX4_wouldSend ∈ cc_GT := cc_gt 736 (by decide +kernel) (by decide +kernel)
theorem cd_X4_wouldSend : Cond.code yX4_wouldSend prog_6_method_48_code 4 (some .int) ∈ cc_GT := cc_gt 737 (by decide +kernel) (by decide +kernel)
theorem ml_L_105 : Cond.methodLink RL 105 yX4_count ∈ cc_GT := cc_gt 738 (by decide +kernel) (by decide +kernel)
theorem im_X4_count : Cond.instanceMethod yX4_count ∈ cc_GT := cc_gt 739 (by decide +kernel) (by decide +kernel)
theorem sl_X4_count : Cond.selects RX4 yX4_count yX4_count ∈ cc_GT := cc_gt 740 (by decide +kernel) (by decide +kernel)
theorem cd_X4_count : Cond.code yX4_count prog_6_method_51_code 2 (some .int) ∈ cc_GT := cc_gt 741 (by decide +kernel) (by decide +kernel)
theorem ml_X4_136 : Cond.methodLink RX4 136 yX4_over ∈ cc_GT := cc_gt 742 (by decide +kernel) (by decide +kernel)
theorem im_X4_over : Cond.instanceMethod yX4_over ∈ cc_GT := cc_gt 744 (by decide +kernel) (by decide +kernel)
theorem cd_X4_over : Cond.code yX4_over prog_6_method_49_code 5 (some .int) ∈ cc_GT := cc_gt 745 (by decide +kernel) (by decide +kernel)
theorem ml_X4_140 : Cond.methodLink RX4 140 yX4_stuckOnes ∈ cc_GT := cc_gt 746 (by decide +kernel) (by decide +kernel)
theorem im_X4_stuckOnes : Cond.instanceMethod yX4_stuckOnes ∈ cc_GT := cc_gt 748 (by decide +kernel) (by decide +kernel)
theorem cd_X4_stuckOnes : Cond.code yX4_stuckOnes prog_6_method_50_code 3 (some .int) ∈ cc_GT := cc_gt 749 (by decide +kernel) (by decide +kernel)
theorem sl_X1_setting : Cond.selects RX1 yX1_setting yX1_setting ∈ cc_GT := cc_gt 0 (by decide +kernel) (by decide +kernel)
theorem sl_X3_remember : Cond.selects RX3 yX3_remember yX3_remember ∈ cc_GT := cc_gt 1 (by decide +kernel) (by decide +kernel)
theorem sl_X3_dropOldest : Cond.selects RX3 yX3_dropOldest yX3_dropOldest ∈ cc_GT := cc_gt 2 (by decide +kernel) (by decide +kernel)
theorem sl_X0_copyFrom : Cond.selects RX0 yX0_copyFrom yX0_copyFrom ∈ cc_GT := cc_gt 3 (by decide +kernel) (by decide +kernel)
theorem sl_X1_copyFrom : Cond.selects RX1 yX1_copyFrom yX1_copyFrom ∈ cc_GT := cc_gt 4 (by decide +kernel) (by decide +kernel)
theorem sl_X2_copyFrom : Cond.selects RX2 yX2_copyFrom yX2_copyFrom ∈ cc_GT := cc_gt 5 (by decide +kernel) (by decide +kernel)
theorem sl_X1_change : Cond.selects RX1 yX1_change yX1_change ∈ cc_GT := cc_gt 6 (by decide +kernel) (by decide +kernel)
theorem sl_X2_isFull : Cond.selects RX2 yX2_isFull yX2_isFull ∈ cc_GT := cc_gt 7 (by decide +kernel) (by decide +kernel)
theorem sl_X0_admit : Cond.selects RX0 yX0_admit yX0_admit ∈ cc_GT := cc_gt 8 (by decide +kernel) (by decide +kernel)
theorem sl_X2_append : Cond.selects RX2 yX2_append yX2_append ∈ cc_GT := cc_gt 9 (by decide +kernel) (by decide +kernel)
theorem sl_X3_faultOfText : Cond.selects RX3 yX3_faultOfText yX3_faultOfText ∈ cc_GT := cc_gt 10 (by decide +kernel) (by decide +kernel)
theorem sl_X3_admitTextToTrial : Cond.selects RX3 yX3_admitTextToTrial yX3_admitTextToTrial ∈ cc_GT := cc_gt 11 (by decide +kernel) (by decide +kernel)
theorem sl_X3_tellsTimes : Cond.selects RX3 yX3_tellsTimes yX3_tellsTimes ∈ cc_GT := cc_gt 12 (by decide +kernel) (by decide +kernel)
theorem sl_X0_passTicks : Cond.selects RX0 yX0_passTicks yX0_passTicks ∈ cc_GT := cc_gt 13 (by decide +kernel) (by decide +kernel)
theorem sl_X0_passTick : Cond.selects RX0 yX0_passTick yX0_passTick ∈ cc_GT := cc_gt 14 (by decide +kernel) (by decide +kernel)
theorem sl_X0_beginTick : Cond.selects RX0 yX0_beginTick yX0_beginTick ∈ cc_GT := cc_gt 15 (by decide +kernel) (by decide +kernel)
theorem sl_X1_letCreditsCome : Cond.selects RX1 yX1_letCreditsCome yX1_letCreditsCome ∈ cc_GT := cc_gt 16 (by decide +kernel) (by decide +kernel)
theorem sl_X1_creditComes : Cond.selects RX1 yX1_creditComes yX1_creditComes ∈ cc_GT := cc_gt 17 (by decide +kernel) (by decide +kernel)
theorem sl_X1_dropFirstOnTheWay : Cond.selects RX1 yX1_dropFirstOnTheWay yX1_dropFirstOnTheWay ∈ cc_GT := cc_gt 18 (by decide +kernel) (by decide +kernel)
theorem sl_X1_mend : Cond.selects RX1 yX1_mend yX1_mend ∈ cc_GT := cc_gt 19 (by decide +kernel) (by decide +kernel)
theorem sl_X1_missing : Cond.selects RX1 yX1_missing yX1_missing ∈ cc_GT := cc_gt 20 (by decide +kernel) (by decide +kernel)
theorem sl_X0_sendTo : Cond.selects RX0 yX0_sendTo yX0_sendTo ∈ cc_GT := cc_gt 21 (by decide +kernel) (by decide +kernel)
theorem sl_X2_offerFor : Cond.selects RX2 yX2_offerFor yX2_offerFor ∈ cc_GT := cc_gt 22 (by decide +kernel) (by decide +kernel)
theorem sl_X2_sendFrom : Cond.selects RX2 yX2_sendFrom yX2_sendFrom ∈ cc_GT := cc_gt 23 (by decide +kernel) (by decide +kernel)
theorem sl_X1_receive : Cond.selects RX1 yX1_receive yX1_receive ∈ cc_GT := cc_gt 24 (by decide +kernel) (by decide +kernel)
theorem sl_X1_takeIfDue : Cond.selects RX1 yX1_takeIfDue yX1_takeIfDue ∈ cc_GT := cc_gt 25 (by decide +kernel) (by decide +kernel)
theorem sl_X1_sendCreditBack : Cond.selects RX1 yX1_sendCreditBack yX1_sendCreditBack ∈ cc_GT := cc_gt 26 (by decide +kernel) (by decide +kernel)
theorem sl_X2_countBlocked : Cond.selects RX2 yX2_countBlocked yX2_countBlocked ∈ cc_GT := cc_gt 27 (by decide +kernel) (by decide +kernel)
theorem sl_X1_loseFirst : Cond.selects RX1 yX1_loseFirst yX1_loseFirst ∈ cc_GT := cc_gt 28 (by decide +kernel) (by decide +kernel)
theorem sl_X0_waitingFor : Cond.selects RX0 yX0_waitingFor yX0_waitingFor ∈ cc_GT := cc_gt 29 (by decide +kernel) (by decide +kernel)
theorem sl_X2_waitingFor : Cond.selects RX2 yX2_waitingFor yX2_waitingFor ∈ cc_GT := cc_gt 30 (by decide +kernel) (by decide +kernel)
theorem sl_X0_isStuck : Cond.selects RX0 yX0_isStuck yX0_isStuck ∈ cc_GT := cc_gt 31 (by decide +kernel) (by decide +kernel)
theorem sl_X1_isDry : Cond.selects RX1 yX1_isDry yX1_isDry ∈ cc_GT := cc_gt 32 (by decide +kernel) (by decide +kernel)
theorem sl_X1_figure : Cond.selects RX1 yX1_figure yX1_figure ∈ cc_GT := cc_gt 33 (by decide +kernel) (by decide +kernel)
theorem sl_X2_figure : Cond.selects RX2 yX2_figure yX2_figure ∈ cc_GT := cc_gt 34 (by decide +kernel) (by decide +kernel)
theorem sl_X2_packetFigure : Cond.selects RX2 yX2_packetFigure yX2_packetFigure ∈ cc_GT := cc_gt 35 (by decide +kernel) (by decide +kernel)
theorem sl_X2_holds : Cond.selects RX2 yX2_holds yX2_holds ∈ cc_GT := cc_gt 36 (by decide +kernel) (by decide +kernel)
theorem sl_X0_figure : Cond.selects RX0 yX0_figure yX0_figure ∈ cc_GT := cc_gt 37 (by decide +kernel) (by decide +kernel)
theorem sl_X0_sumOfQueues : Cond.selects RX0 yX0_sumOfQueues yX0_sumOfQueues ∈ cc_GT := cc_gt 38 (by decide +kernel) (by decide +kernel)
theorem sl_X0_sumOfLanes : Cond.selects RX0 yX0_sumOfLanes yX0_sumOfLanes ∈ cc_GT := cc_gt 39 (by decide +kernel) (by decide +kernel)
theorem sl_X0_stuckLanes : Cond.selects RX0 yX0_stuckLanes yX0_stuckLanes ∈ cc_GT := cc_gt 40 (by decide +kernel) (by decide +kernel)
theorem sl_X4_lay : Cond.selects RX4 yX4_lay yX4_lay ∈ cc_GT := cc_gt 41 (by decide +kernel) (by decide +kernel)
theorem sl_X4_open : Cond.selects RX4 yX4_open yX4_open ∈ cc_GT := cc_gt 42 (by decide +kernel) (by decide +kernel)
theorem sl_X4_remember : Cond.selects RX4 yX4_remember yX4_remember ∈ cc_GT := cc_gt 43 (by decide +kernel) (by decide +kernel)
theorem sl_X4_record : Cond.selects RX4 yX4_record yX4_record ∈ cc_GT := cc_gt 44 (by decide +kernel) (by decide +kernel)
theorem sl_X4_of : Cond.selects RX4 yX4_of yX4_of ∈ cc_GT := cc_gt 45 (by decide +kernel) (by decide +kernel)
theorem sl_X4_more : Cond.selects RX4 yX4_more yX4_more ∈ cc_GT := cc_gt 46 (by decide +kernel) (by decide +kernel)
theorem sl_X4_by : Cond.selects RX4 yX4_by yX4_by ∈ cc_GT := cc_gt 47 (by decide +kernel) (by decide +kernel)
theorem sl_X4_bring : Cond.selects RX4 yX4_bring yX4_bring ∈ cc_GT := cc_gt 48 (by decide +kernel) (by decide +kernel)
theorem sl_X4_arrivals : Cond.selects RX4 yX4_arrivals yX4_arrivals ∈ cc_GT := cc_gt 49 (by decide +kernel) (by decide +kernel)
theorem sl_X4_arrival : Cond.selects RX4 yX4_arrival yX4_arrival ∈ cc_GT := cc_gt 50 (by decide +kernel) (by decide +kernel)
theorem sl_X4_sees : Cond.selects RX4 yX4_sees yX4_sees ∈ cc_GT := cc_gt 51 (by decide +kernel) (by decide +kernel)
theorem sl_X4_goBack : Cond.selects RX4 yX4_goBack yX4_goBack ∈ cc_GT := cc_gt 52 (by decide +kernel) (by decide +kernel)
theorem sl_X4_passAll : Cond.selects RX4 yX4_passAll yX4_passAll ∈ cc_GT := cc_gt 53 (by decide +kernel) (by decide +kernel)
theorem sl_X4_tick : Cond.selects RX4 yX4_tick yX4_tick ∈ cc_GT := cc_gt 54 (by decide +kernel) (by decide +kernel)
theorem sl_X4_come : Cond.selects RX4 yX4_come yX4_come ∈ cc_GT := cc_gt 55 (by decide +kernel) (by decide +kernel)
theorem sl_X4_dropFirst : Cond.selects RX4 yX4_dropFirst yX4_dropFirst ∈ cc_GT := cc_gt 56 (by decide +kernel) (by decide +kernel)
theorem sl_X4_missing : Cond.selects RX4 yX4_missing yX4_missing ∈ cc_GT := cc_gt 57 (by decide +kernel) (by decide +kernel)
theorem sl_X4_send : Cond.selects RX4 yX4_send yX4_send ∈ cc_GT := cc_gt 58 (by decide +kernel) (by decide +kernel)
theorem sl_X4_offer : Cond.selects RX4 yX4_offer yX4_offer ∈ cc_GT := cc_gt 59 (by decide +kernel) (by decide +kernel)
theorem sl_X4_leave : Cond.selects RX4 yX4_leave yX4_leave ∈ cc_GT := cc_gt 60 (by decide +kernel) (by decide +kernel)
theorem sl_X4_take : Cond.selects RX4 yX4_take yX4_take ∈ cc_GT := cc_gt 61 (by decide +kernel) (by decide +kernel)
theorem sl_X4_waiting : Cond.selects RX4 yX4_waiting yX4_waiting ∈ cc_GT := cc_gt 62 (by decide +kernel) (by decide +kernel)
theorem sl_X4_isStuck : Cond.selects RX4 yX4_isStuck yX4_isStuck ∈ cc_GT := cc_gt 63 (by decide +kernel) (by decide +kernel)
theorem sl_X4_waits : Cond.selects RX4 yX4_waits yX4_waits ∈ cc_GT := cc_gt 64 (by decide +kernel) (by decide +kernel)
theorem sl_X4_over : Cond.selects RX4 yX4_over yX4_over ∈ cc_GT := cc_gt 65 (by decide +kernel) (by decide +kernel)
theorem sl_X4_stuckOnes : Cond.selects RX4 yX4_stuckOnes yX4_stuckOnes ∈ cc_GT := cc_gt 66 (by decide +kernel) (by decide +kernel)
theorem uw_X0 : ∀ w ∈ u_ws RX0 TX0 6, w ∈ cc_GT := by decide +kernel
theorem uw_X1 : ∀ w ∈ u_ws RX1 TX1 13, w ∈ cc_GT := by decide +kernel
theorem uw_X2 : ∀ w ∈ u_ws RX2 TX2 7, w ∈ cc_GT := by decide +kernel
theorem uw_X3 : ∀ w ∈ u_ws RX3 TX3 8, w ∈ cc_GT := by decide +kernel
theorem uw_X4 : ∀ w ∈ u_ws RX4 TX4 11, w ∈ cc_GT := by decide +kernel
end
section
theorem dX0_init_0 : decode cX0_init 0 = .ok (.aload_n 0, 1) := by decide +kernel
theorem dX0_init_1 : decode cX0_init 1 = .ok (.invokespecial 3, 3) := by decide +kernel
theorem dX0_init_4 : decode cX0_init 4 = .ok (.aload_n 0, 1) := by decide +kernel
theorem dX0_init_5 : decode cX0_init 5 = .ok (.iconst 0, 1) := by decide +kernel
theorem dX0_init_6 : decode cX0_init 6 = .ok (.putfield 9, 3) := by decide +kernel
theorem dX0_init_9 : decode cX0_init 9 = .ok (.aload_n 0, 1) := by decide +kernel
theorem dX0_init_10 : decode cX0_init 10 = .ok (.iconst 0, 1) := by decide +kernel
theorem dX0_init_11 : decode cX0_init 11 = .ok (.putfield 15, 3) := by decide +kernel
theorem dX0_init_14 : decode cX0_init 14 = .ok (.aload_n 0, 1) := by decide +kernel
theorem dX0_init_15 : decode cX0_init 15 = .ok (.iconst 0, 1) := by decide +kernel
theorem dX0_init_16 : decode cX0_init 16 = .ok (.putfield 18, 3) := by decide +kernel
theorem dX0_init_19 : decode cX0_init 19 = .ok (.aload_n 0, 1) := by decide +kernel
theorem dX0_init_20 : decode cX0_init 20 = .ok (.iconst 0, 1) := by decide +kernel
theorem dX0_init_21 : decode cX0_init 21 = .ok (.putfield 21, 3) := by decide +kernel
theorem dX0_init_24 : decode cX0_init 24 = .ok (.aload_n 0, 1) := by decide +kernel
theorem dX0_init_25 : decode cX0_init 25 = .ok (.iconst 4, 1) := by decide +kernel
theorem dX0_init_26 : decode cX0_init 26 = .ok (.anewarray 24, 3) := by decide +kernel
theorem dX0_init_29 : decode cX0_init 29 = .ok (.putfield 26, 3) := by decide +kernel
theorem dX0_init_32 : decode cX0_init 32 = .ok (.aload_n 0, 1) := by decide +kernel
theorem dX0_init_33 : decode cX0_init 33 = .ok (.iconst 4, 1) := by decide +kernel
theorem dX0_init_34 : decode cX0_init 34 = .ok (.anewarray 30, 3) := by decide +kernel
theorem dX0_init_37 : decode cX0_init 37 = .ok (.putfield 32, 3) := by decide +kernel
theorem dX0_init_40 : decode cX0_init 40 = .ok (.iconst 0, 1) := by decide +kernel
theorem dX0_init_41 : decode cX0_init 41 = .ok (.istore_n 1, 1) := by decide +kernel
theorem dX0_init_42 : decode cX0_init 42 = .ok (.iload_n 1, 1) := by decide +kernel
theorem dX0_init_43 : decode cX0_init 43 = .ok (.iconst 4, 1) := by decide +kernel
theorem dX0_init_44 : decode cX0_init 44 = .ok (.if_icmp .ge 35, 3) := by decide +kernel
theorem dX0_init_47 : decode cX0_init 47 = .ok (.aload_n 0, 1) := by decide +kernel
theorem dX0_init_48 : decode cX0_init 48 = .ok (.getfield 26, 3) := by decide +kernel
theorem dX0_init_51 : decode cX0_init 51 = .ok (.iload_n 1, 1) := by decide +kernel
theorem dX0_init_52 : decode cX0_init 52 = .ok (.new 24, 3) := by decide +kernel
theorem dX0_init_55 : decode cX0_init 55 = .ok (.dup, 1) := by decide +kernel
theorem dX0_init_56 : decode cX0_init 56 = .ok (.invokespecial 36, 3) := by decide +kernel
theorem dX0_init_59 : decode cX0_init 59 = .ok (.aastore, 1) := by decide +kernel
theorem dX0_init_60 : decode cX0_init 60 = .ok (.aload_n 0, 1) := by decide +kernel
theorem dX0_init_61 : decode cX0_init 61 = .ok (.getfield 32, 3) := by decide +kernel
theorem dX0_init_64 : decode cX0_init 64 = .ok (.iload_n 1, 1) := by decide +kernel
theorem dX0_init_65 : decode cX0_init 65 = .ok (.new 30, 3) := by decide +kernel
theorem dX0_init_68 : decode cX0_init 68 = .ok (.dup, 1) := by decide +kernel
theorem dX0_init_69 : decode cX0_init 69 = .ok (.invokespecial 37, 3) := by decide +kernel
theorem dX0_init_72 : decode cX0_init 72 = .ok (.aastore, 1) := by decide +kernel
theorem dX0_init_73 : decode cX0_init 73 = .ok (.iinc 1 1, 3) := by decide +kernel
theorem dX0_init_76 : decode cX0_init 76 = .ok (.goto (-34), 3) := by decide +kernel
theorem dX0_init_79 : decode cX0_init 79 = .ok (.return_, 1) := by decide +kernel
theorem dX0_copyFrom_0 : decode cX0_copyFrom 0 = .ok (.aload_n 0, 1) := by decide +kernel
theorem dX0_copyFrom_1 : decode cX0_copyFrom 1 = .ok (.aload_n 1, 1) := by decide +kernel
theorem dX0_copyFrom_2 : decode cX0_copyFrom 2 = .ok (.getfield 9, 3) := by decide +kernel
theorem dX0_copyFrom_5 : decode cX0_copyFrom 5 = .ok (.putfield 9, 3) := by decide +kernel
theorem dX0_copyFrom_8 : decode cX0_copyFrom 8 = .ok (.aload_n 0, 1) := by decide +kernel
theorem dX0_copyFrom_9 : decode cX0_copyFrom 9 = .ok (.aload_n 1, 1) := by decide +kernel
theorem dX0_copyFrom_10 : decode cX0_copyFrom 10 = .ok (.getfield 15, 3) := by decide +kernel
theorem dX0_copyFrom_13 : decode cX0_copyFrom 13 = .ok (.putfield 15, 3) := by decide +kernel
theorem dX0_copyFrom_16 : decode cX0_copyFrom 16 = .ok (.aload_n 0, 1) := by decide +kernel
theorem dX0_copyFrom_17 : decode cX0_copyFrom 17 = .ok (.aload_n 1, 1) := by decide +kernel
theorem dX0_copyFrom_18 : decode cX0_copyFrom 18 = .ok (.getfield 18, 3) := by decide +kernel
theorem dX0_copyFrom_21 : decode cX0_copyFrom 21 = .ok (.putfield 18, 3) := by decide +kernel
theorem dX0_copyFrom_24 : decode cX0_copyFrom 24 = .ok (.aload_n 0, 1) := by decide +kernel
theorem dX0_copyFrom_25 : decode cX0_copyFrom 25 = .ok (.aload_n 1, 1) := by decide +kernel
theorem dX0_copyFrom_26 : decode cX0_copyFrom 26 = .ok (.getfield 21, 3) := by decide +kernel
theorem dX0_copyFrom_29 : decode cX0_copyFrom 29 = .ok (.putfield 21, 3) := by decide +kernel
theorem dX0_copyFrom_32 : decode cX0_copyFrom 32 = .ok (.iconst 0, 1) := by decide +kernel
theorem dX0_copyFrom_33 : decode cX0_copyFrom 33 = .ok (.istore_n 2, 1) := by decide +kernel
theorem dX0_copyFrom_34 : decode cX0_copyFrom 34 = .ok (.iload_n 2, 1) := by decide +kernel
theorem dX0_copyFrom_35 : decode cX0_copyFrom 35 = .ok (.iconst 4, 1) := by decide +kernel
theorem dX0_copyFrom_36 : decode cX0_copyFrom 36 = .ok (.if_icmp .ge 39, 3) := by decide +kernel
theorem dX0_copyFrom_39 : decode cX0_copyFrom 39 = .ok (.aload_n 0, 1) := by decide +kernel
theorem dX0_copyFrom_40 : decode cX0_copyFrom 40 = .ok (.getfield 26, 3) := by decide +kernel
theorem dX0_copyFrom_43 : decode cX0_copyFrom 43 = .ok (.iload_n 2, 1) := by decide +kernel
theorem dX0_copyFrom_44 : decode cX0_copyFrom 44 = .ok (.aaload, 1) := by decide +kernel
theorem dX0_copyFrom_45 : decode cX0_copyFrom 45 = .ok (.aload_n 1, 1) := by decide +kernel
theorem dX0_copyFrom_46 : decode cX0_copyFrom 46 = .ok (.getfield 26, 3) := by decide +kernel
theorem dX0_copyFrom_49 : decode cX0_copyFrom 49 = .ok (.iload_n 2, 1) := by decide +kernel
theorem dX0_copyFrom_50 : decode cX0_copyFrom 50 = .ok (.aaload, 1) := by decide +kernel
theorem dX0_copyFrom_51 : decode cX0_copyFrom 51 = .ok (.invokevirtual 38, 3) := by decide +kernel
theorem dX0_copyFrom_54 : decode cX0_copyFrom 54 = .ok (.aload_n 0, 1) := by decide +kernel
theorem dX0_copyFrom_55 : decode cX0_copyFrom 55 = .ok (.getfield 32, 3) := by decide +kernel
theorem dX0_copyFrom_58 : decode cX0_copyFrom 58 = .ok (.iload_n 2, 1) := by decide +kernel
theorem dX0_copyFrom_59 : decode cX0_copyFrom 59 = .ok (.aaload, 1) := by decide +kernel
theorem dX0_copyFrom_60 : decode cX0_copyFrom 60 = .ok (.aload_n 1, 1) := by decide +kernel
theorem dX0_copyFrom_61 : decode cX0_copyFrom 61 = .ok (.getfield 32, 3) := by decide +kernel
theorem dX0_copyFrom_64 : decode cX0_copyFrom 64 = .ok (.iload_n 2, 1) := by decide +kernel
theorem dX0_copyFrom_65 : decode cX0_copyFrom 65 = .ok (.aaload, 1) := by decide +kernel
theorem dX0_copyFrom_66 : decode cX0_copyFrom 66 = .ok (.invokevirtual 42, 3) := by decide +kernel
theorem dX0_copyFrom_69 : decode cX0_copyFrom 69 = .ok (.iinc 2 1, 3) := by decide +kernel
theorem dX0_copyFrom_72 : decode cX0_copyFrom 72 = .ok (.goto (-38), 3) := by decide +kernel
theorem dX0_copyFrom_75 : decode cX0_copyFrom 75 = .ok (.return_, 1) := by decide +kernel
theorem dX0_admit_0 : decode cX0_admit 0 = .ok (.aload_n 0, 1) := by decide +kernel
theorem dX0_admit_1 : decode cX0_admit 1 = .ok (.getfield 21, 3) := by decide +kernel
theorem dX0_admit_4 : decode cX0_admit 4 = .ok (.istore_n 3, 1) := by decide +kernel
theorem dX0_admit_5 : decode cX0_admit 5 = .ok (.aload_n 0, 1) := by decide +kernel
theorem dX0_admit_6 : decode cX0_admit 6 = .ok (.getfield 32, 3) := by decide +kernel
theorem dX0_admit_9 : decode cX0_admit 9 = .ok (.iload_n 1, 1) := by decide +kernel
theorem dX0_admit_10 : decode cX0_admit 10 = .ok (.aaload, 1) := by decide +kernel
theorem dX0_admit_11 : decode cX0_admit 11 = .ok (.iload_n 3, 1) := by decide +kernel
theorem dX0_admit_12 : decode cX0_admit 12 = .ok (.iload_n 2, 1) := by decide +kernel
theorem dX0_admit_13 : decode cX0_admit 13 = .ok (.aload_n 0, 1) := by decide +kernel
theorem dX0_admit_14 : decode cX0_admit 14 = .ok (.getfield 9, 3) := by decide +kernel
theorem dX0_admit_17 : decode cX0_admit 17 = .ok (.invokevirtual 45, 3) := by decide +kernel
theorem dX0_admit_20 : decode cX0_admit 20 = .ok (.aload_n 0, 1) := by decide +kernel
theorem dX0_admit_21 : decode cX0_admit 21 = .ok (.dup, 1) := by decide +kernel
theorem dX0_admit_22 : decode cX0_admit 22 = .ok (.getfield 21, 3) := by decide +kernel
theorem dX0_admit_25 : decode cX0_admit 25 = .ok (.iconst 1, 1) := by decide +kernel
theorem dX0_admit_26 : decode cX0_admit 26 = .ok (.iadd, 1) := by decide +kernel
theorem dX0_admit_27 : decode cX0_admit 27 = .ok (.putfield 21, 3) := by decide +kernel
theorem dX0_admit_30 : decode cX0_admit 30 = .ok (.iload_n 3, 1) := by decide +kernel
theorem dX0_admit_31 : decode cX0_admit 31 = .ok (.ireturn, 1) := by decide +kernel
theorem dX0_passTicks_0 : decode cX0_passTicks 0 = .ok (.iconst 0, 1) := by decide +kernel
theorem dX0_passTicks_1 : decode cX0_passTicks 1 = .ok (.istore_n 2, 1) := by decide +kernel
theorem dX0_passTicks_2 : decode cX0_passTicks 2 = .ok (.iconst 0, 1) := by decide +kernel
theorem dX0_passTicks_3 : decode cX0_passTicks 3 = .ok (.istore_n 3, 1) := by decide +kernel
theorem dX0_passTicks_4 : decode cX0_passTicks 4 = .ok (.iload_n 3, 1) := by decide +kernel
theorem dX0_passTicks_5 : decode cX0_passTicks 5 = .ok (.iload_n 1, 1) := by decide +kernel
theorem dX0_passTicks_6 : decode cX0_passTicks 6 = .ok (.if_icmp .ge 16, 3) := by decide +kernel
theorem dX0_passTicks_9 : decode cX0_passTicks 9 = .ok (.iload_n 2, 1) := by decide +kernel
theorem dX0_passTicks_10 : decode cX0_passTicks 10 = .ok (.aload_n 0, 1) := by decide +kernel
theorem dX0_passTicks_11 : decode cX0_passTicks 11 = .ok (.invokevirtual 49, 3) := by decide +kernel
theorem dX0_passTicks_14 : decode cX0_passTicks 14 = .ok (.iadd, 1) := by decide +kernel
theorem dX0_passTicks_15 : decode cX0_passTicks 15 = .ok (.istore_n 2, 1) := by decide +kernel
theorem dX0_passTicks_16 : decode cX0_passTicks 16 = .ok (.iinc 3 1, 3) := by decide +kernel
theorem dX0_passTicks_19 : decode cX0_passTicks 19 = .ok (.goto (-15), 3) := by decide +kernel
theorem dX0_passTicks_22 : decode cX0_passTicks 22 = .ok (.iload_n 2, 1) := by decide +kernel
theorem dX0_passTicks_23 : decode cX0_passTicks 23 = .ok (.ireturn, 1) := by decide +kernel
theorem dX0_passTick_0 : decode cX0_passTick 0 = .ok (.aload_n 0, 1) := by decide +kernel
theorem dX0_passTick_1 : decode cX0_passTick 1 = .ok (.invokevirtual 53, 3) := by decide +kernel
theorem dX0_passTick_4 : decode cX0_passTick 4 = .ok (.iconst 0, 1) := by decide +kernel
theorem dX0_passTick_5 : decode cX0_passTick 5 = .ok (.istore_n 1, 1) := by decide +kernel
theorem dX0_passTick_6 : decode cX0_passTick 6 = .ok (.iconst 0, 1) := by decide +kernel
theorem dX0_passTick_7 : decode cX0_passTick 7 = .ok (.istore_n 2, 1) := by decide +kernel
theorem dX0_passTick_8 : decode cX0_passTick 8 = .ok (.iload_n 2, 1) := by decide +kernel
theorem dX0_passTick_9 : decode cX0_passTick 9 = .ok (.iconst 4, 1) := by decide +kernel
theorem dX0_passTick_10 : decode cX0_passTick 10 = .ok (.if_icmp .ge 22, 3) := by decide +kernel
theorem dX0_passTick_13 : decode cX0_passTick 13 = .ok (.aload_n 0, 1) := by decide +kernel
theorem dX0_passTick_14 : decode cX0_passTick 14 = .ok (.iload_n 2, 1) := by decide +kernel
theorem dX0_passTick_15 : decode cX0_passTick 15 = .ok (.invokevirtual 56, 3) := by decide +kernel
theorem dX0_passTick_18 : decode cX0_passTick 18 = .ok (.bipush (-5), 2) := by decide +kernel
theorem dX0_passTick_20 : decode cX0_passTick 20 = .ok (.if_icmp .eq 6, 3) := by decide +kernel
theorem dX0_passTick_23 : decode cX0_passTick 23 = .ok (.iinc 1 1, 3) := by decide +kernel
theorem dX0_passTick_26 : decode cX0_passTick 26 = .ok (.iinc 2 1, 3) := by decide +kernel
theorem dX0_passTick_29 : decode cX0_passTick 29 = .ok (.goto (-21), 3) := by decide +kernel
theorem dX0_passTick_32 : decode cX0_passTick 32 = .ok (.iconst 0, 1) := by decide +kernel
theorem dX0_passTick_33 : decode cX0_passTick 33 = .ok (.istore_n 2, 1) := by decide +kernel
theorem dX0_passTick_34 : decode cX0_passTick 34 = .ok (.iload_n 2, 1) := by decide +kernel
theorem dX0_passTick_35 : decode cX0_passTick 35 = .ok (.iconst 4, 1) := by decide +kernel
theorem dX0_passTick_36 : decode cX0_passTick 36 = .ok (.if_icmp .ge 22, 3) := by decide +kernel
theorem dX0_passTick_39 : decode cX0_passTick 39 = .ok (.aload_n 0, 1) := by decide +kernel
theorem dX0_passTick_40 : decode cX0_passTick 40 = .ok (.getfield 26, 3) := by decide +kernel
theorem dX0_passTick_43 : decode cX0_passTick 43 = .ok (.iload_n 2, 1) := by decide +kernel
theorem dX0_passTick_44 : decode cX0_passTick 44 = .ok (.aaload, 1) := by decide +kernel
theorem dX0_passTick_45 : decode cX0_passTick 45 = .ok (.aload_n 0, 1) := by decide +kernel
theorem dX0_passTick_46 : decode cX0_passTick 46 = .ok (.getfield 9, 3) := by decide +kernel
theorem dX0_passTick_49 : decode cX0_passTick 49 = .ok (.invokevirtual 60, 3) := by decide +kernel
theorem dX0_passTick_52 : decode cX0_passTick 52 = .ok (.iinc 2 1, 3) := by decide +kernel
theorem dX0_passTick_55 : decode cX0_passTick 55 = .ok (.goto (-21), 3) := by decide +kernel
theorem dX0_passTick_58 : decode cX0_passTick 58 = .ok (.iconst 0, 1) := by decide +kernel
theorem dX0_passTick_59 : decode cX0_passTick 59 = .ok (.istore_n 2, 1) := by decide +kernel
theorem dX0_passTick_60 : decode cX0_passTick 60 = .ok (.iload_n 2, 1) := by decide +kernel
theorem dX0_passTick_61 : decode cX0_passTick 61 = .ok (.iconst 4, 1) := by decide +kernel
theorem dX0_passTick_62 : decode cX0_passTick 62 = .ok (.if_icmp .ge 18, 3) := by decide +kernel
theorem dX0_passTick_65 : decode cX0_passTick 65 = .ok (.aload_n 0, 1) := by decide +kernel
theorem dX0_passTick_66 : decode cX0_passTick 66 = .ok (.getfield 32, 3) := by decide +kernel
theorem dX0_passTick_69 : decode cX0_passTick 69 = .ok (.iload_n 2, 1) := by decide +kernel
theorem dX0_passTick_70 : decode cX0_passTick 70 = .ok (.aaload, 1) := by decide +kernel
theorem dX0_passTick_71 : decode cX0_passTick 71 = .ok (.invokevirtual 64, 3) := by decide +kernel
theorem dX0_passTick_74 : decode cX0_passTick 74 = .ok (.iinc 2 1, 3) := by decide +kernel
theorem dX0_passTick_77 : decode cX0_passTick 77 = .ok (.goto (-17), 3) := by decide +kernel
theorem dX0_passTick_80 : decode cX0_passTick 80 = .ok (.aload_n 0, 1) := by decide +kernel
theorem dX0_passTick_81 : decode cX0_passTick 81 = .ok (.dup, 1) := by decide +kernel
theorem dX0_passTick_82 : decode cX0_passTick 82 = .ok (.getfield 9, 3) := by decide +kernel
theorem dX0_passTick_85 : decode cX0_passTick 85 = .ok (.iconst 1, 1) := by decide +kernel
theorem dX0_passTick_86 : decode cX0_passTick 86 = .ok (.iadd, 1) := by decide +kernel
theorem dX0_passTick_87 : decode cX0_passTick 87 = .ok (.putfield 9, 3) := by decide +kernel
theorem dX0_passTick_90 : decode cX0_passTick 90 = .ok (.iload_n 1, 1) := by decide +kernel
theorem dX0_passTick_91 : decode cX0_passTick 91 = .ok (.ireturn, 1) := by decide +kernel
theorem dX0_beginTick_0 : decode cX0_beginTick 0 = .ok (.aload_n 0, 1) := by decide +kernel
theorem dX0_beginTick_1 : decode cX0_beginTick 1 = .ok (.getfield 18, 3) := by decide +kernel
theorem dX0_beginTick_4 : decode cX0_beginTick 4 = .ok (.ifCond .le 19, 3) := by decide +kernel
theorem dX0_beginTick_7 : decode cX0_beginTick 7 = .ok (.aload_n 0, 1) := by decide +kernel
theorem dX0_beginTick_8 : decode cX0_beginTick 8 = .ok (.getfield 9, 3) := by decide +kernel
theorem dX0_beginTick_11 : decode cX0_beginTick 11 = .ok (.aload_n 0, 1) := by decide +kernel
theorem dX0_beginTick_12 : decode cX0_beginTick 12 = .ok (.getfield 18, 3) := by decide +kernel
theorem dX0_beginTick_15 : decode cX0_beginTick 15 = .ok (.irem, 1) := by decide +kernel
theorem dX0_beginTick_16 : decode cX0_beginTick 16 = .ok (.ifCond .ne 7, 3) := by decide +kernel
theorem dX0_beginTick_19 : decode cX0_beginTick 19 = .ok (.iconst 1, 1) := by decide +kernel
theorem dX0_beginTick_20 : decode cX0_beginTick 20 = .ok (.goto 4, 3) := by decide +kernel
theorem dX0_beginTick_23 : decode cX0_beginTick 23 = .ok (.iconst 0, 1) := by decide +kernel
theorem dX0_beginTick_24 : decode cX0_beginTick 24 = .ok (.istore_n 1, 1) := by decide +kernel
theorem dX0_beginTick_25 : decode cX0_beginTick 25 = .ok (.iconst 0, 1) := by decide +kernel
theorem dX0_beginTick_26 : decode cX0_beginTick 26 = .ok (.istore_n 2, 1) := by decide +kernel
theorem dX0_beginTick_27 : decode cX0_beginTick 27 = .ok (.iload_n 2, 1) := by decide +kernel
theorem dX0_beginTick_28 : decode cX0_beginTick 28 = .ok (.iconst 4, 1) := by decide +kernel
theorem dX0_beginTick_29 : decode cX0_beginTick 29 = .ok (.if_icmp .ge 45, 3) := by decide +kernel
theorem dX0_beginTick_32 : decode cX0_beginTick 32 = .ok (.aload_n 0, 1) := by decide +kernel
theorem dX0_beginTick_33 : decode cX0_beginTick 33 = .ok (.getfield 32, 3) := by decide +kernel
theorem dX0_beginTick_36 : decode cX0_beginTick 36 = .ok (.iload_n 2, 1) := by decide +kernel
theorem dX0_beginTick_37 : decode cX0_beginTick 37 = .ok (.aaload, 1) := by decide +kernel
theorem dX0_beginTick_38 : decode cX0_beginTick 38 = .ok (.iconst 0, 1) := by decide +kernel
theorem dX0_beginTick_39 : decode cX0_beginTick 39 = .ok (.putfield 67, 3) := by decide +kernel
theorem dX0_beginTick_42 : decode cX0_beginTick 42 = .ok (.aload_n 0, 1) := by decide +kernel
theorem dX0_beginTick_43 : decode cX0_beginTick 43 = .ok (.getfield 26, 3) := by decide +kernel
theorem dX0_beginTick_46 : decode cX0_beginTick 46 = .ok (.iload_n 2, 1) := by decide +kernel
theorem dX0_beginTick_47 : decode cX0_beginTick 47 = .ok (.aaload, 1) := by decide +kernel
theorem dX0_beginTick_48 : decode cX0_beginTick 48 = .ok (.aload_n 0, 1) := by decide +kernel
theorem dX0_beginTick_49 : decode cX0_beginTick 49 = .ok (.getfield 9, 3) := by decide +kernel
theorem dX0_beginTick_52 : decode cX0_beginTick 52 = .ok (.invokevirtual 71, 3) := by decide +kernel
theorem dX0_beginTick_55 : decode cX0_beginTick 55 = .ok (.iload_n 1, 1) := by decide +kernel
theorem dX0_beginTick_56 : decode cX0_beginTick 56 = .ok (.ifCond .eq 12, 3) := by decide +kernel
theorem dX0_beginTick_59 : decode cX0_beginTick 59 = .ok (.aload_n 0, 1) := by decide +kernel
theorem dX0_beginTick_60 : decode cX0_beginTick 60 = .ok (.getfield 26, 3) := by decide +kernel
theorem dX0_beginTick_63 : decode cX0_beginTick 63 = .ok (.iload_n 2, 1) := by decide +kernel
theorem dX0_beginTick_64 : decode cX0_beginTick 64 = .ok (.aaload, 1) := by decide +kernel
theorem dX0_beginTick_65 : decode cX0_beginTick 65 = .ok (.invokevirtual 74, 3) := by decide +kernel
theorem dX0_beginTick_68 : decode cX0_beginTick 68 = .ok (.iinc 2 1, 3) := by decide +kernel
theorem dX0_beginTick_71 : decode cX0_beginTick 71 = .ok (.goto (-44), 3) := by decide +kernel
theorem dX0_beginTick_74 : decode cX0_beginTick 74 = .ok (.return_, 1) := by decide +kernel
theorem dX0_sendTo_0 : decode cX0_sendTo 0 = .ok (.aload_n 0, 1) := by decide +kernel
theorem dX0_sendTo_1 : decode cX0_sendTo 1 = .ok (.getfield 26, 3) := by decide +kernel
theorem dX0_sendTo_4 : decode cX0_sendTo 4 = .ok (.iload_n 1, 1) := by decide +kernel
theorem dX0_sendTo_5 : decode cX0_sendTo 5 = .ok (.aaload, 1) := by decide +kernel
theorem dX0_sendTo_6 : decode cX0_sendTo 6 = .ok (.astore_n 2, 1) := by decide +kernel
theorem dX0_sendTo_7 : decode cX0_sendTo 7 = .ok (.aload_n 2, 1) := by decide +kernel
theorem dX0_sendTo_8 : decode cX0_sendTo 8 = .ok (.getfield 77, 3) := by decide +kernel
theorem dX0_sendTo_11 : decode cX0_sendTo 11 = .ok (.ifCond .gt 6, 3) := by decide +kernel
theorem dX0_sendTo_14 : decode cX0_sendTo 14 = .ok (.bipush (-5), 2) := by decide +kernel
theorem dX0_sendTo_16 : decode cX0_sendTo 16 = .ok (.ireturn, 1) := by decide +kernel
theorem dX0_sendTo_17 : decode cX0_sendTo 17 = .ok (.iconst 0, 1) := by decide +kernel
theorem dX0_sendTo_18 : decode cX0_sendTo 18 = .ok (.istore_n 3, 1) := by decide +kernel
theorem dX0_sendTo_19 : decode cX0_sendTo 19 = .ok (.iload_n 3, 1) := by decide +kernel
theorem dX0_sendTo_20 : decode cX0_sendTo 20 = .ok (.iconst 4, 1) := by decide +kernel
theorem dX0_sendTo_21 : decode cX0_sendTo 21 = .ok (.if_icmp .ge 75, 3) := by decide +kernel
theorem dX0_sendTo_24 : decode cX0_sendTo 24 = .ok (.aload_n 2, 1) := by decide +kernel
theorem dX0_sendTo_25 : decode cX0_sendTo 25 = .ok (.getfield 80, 3) := by decide +kernel
theorem dX0_sendTo_28 : decode cX0_sendTo 28 = .ok (.iload_n 3, 1) := by decide +kernel
theorem dX0_sendTo_29 : decode cX0_sendTo 29 = .ok (.iadd, 1) := by decide +kernel
theorem dX0_sendTo_30 : decode cX0_sendTo 30 = .ok (.iconst 4, 1) := by decide +kernel
theorem dX0_sendTo_31 : decode cX0_sendTo 31 = .ok (.irem, 1) := by decide +kernel
theorem dX0_sendTo_32 : decode cX0_sendTo 32 = .ok (.istore 4, 2) := by decide +kernel
theorem dX0_sendTo_34 : decode cX0_sendTo 34 = .ok (.aload_n 0, 1) := by decide +kernel
theorem dX0_sendTo_35 : decode cX0_sendTo 35 = .ok (.getfield 32, 3) := by decide +kernel
theorem dX0_sendTo_38 : decode cX0_sendTo 38 = .ok (.iload 4, 2) := by decide +kernel
theorem dX0_sendTo_40 : decode cX0_sendTo 40 = .ok (.aaload, 1) := by decide +kernel
theorem dX0_sendTo_41 : decode cX0_sendTo 41 = .ok (.iload_n 1, 1) := by decide +kernel
theorem dX0_sendTo_42 : decode cX0_sendTo 42 = .ok (.aload_n 0, 1) := by decide +kernel
theorem dX0_sendTo_43 : decode cX0_sendTo 43 = .ok (.getfield 15, 3) := by decide +kernel
theorem dX0_sendTo_46 : decode cX0_sendTo 46 = .ok (.invokevirtual 83, 3) := by decide +kernel
theorem dX0_sendTo_49 : decode cX0_sendTo 49 = .ok (.istore 5, 2) := by decide +kernel
theorem dX0_sendTo_51 : decode cX0_sendTo 51 = .ok (.iload 5, 2) := by decide +kernel
theorem dX0_sendTo_53 : decode cX0_sendTo 53 = .ok (.iconst (-1), 1) := by decide +kernel
theorem dX0_sendTo_54 : decode cX0_sendTo 54 = .ok (.if_icmp .eq 36, 3) := by decide +kernel
theorem dX0_sendTo_57 : decode cX0_sendTo 57 = .ok (.aload_n 0, 1) := by decide +kernel
theorem dX0_sendTo_58 : decode cX0_sendTo 58 = .ok (.getfield 32, 3) := by decide +kernel
theorem dX0_sendTo_61 : decode cX0_sendTo 61 = .ok (.iload 4, 2) := by decide +kernel
theorem dX0_sendTo_63 : decode cX0_sendTo 63 = .ok (.aaload, 1) := by decide +kernel
theorem dX0_sendTo_64 : decode cX0_sendTo 64 = .ok (.iload 5, 2) := by decide +kernel
theorem dX0_sendTo_66 : decode cX0_sendTo 66 = .ok (.invokevirtual 87, 3) := by decide +kernel
theorem dX0_sendTo_69 : decode cX0_sendTo 69 = .ok (.istore 6, 2) := by decide +kernel
theorem dX0_sendTo_71 : decode cX0_sendTo 71 = .ok (.aload_n 2, 1) := by decide +kernel
theorem dX0_sendTo_72 : decode cX0_sendTo 72 = .ok (.iload 6, 2) := by decide +kernel
theorem dX0_sendTo_74 : decode cX0_sendTo 74 = .ok (.invokevirtual 90, 3) := by decide +kernel
theorem dX0_sendTo_77 : decode cX0_sendTo 77 = .ok (.aload_n 2, 1) := by decide +kernel
theorem dX0_sendTo_78 : decode cX0_sendTo 78 = .ok (.iload 4, 2) := by decide +kernel
theorem dX0_sendTo_80 : decode cX0_sendTo 80 = .ok (.iconst 1, 1) := by decide +kernel
theorem dX0_sendTo_81 : decode cX0_sendTo 81 = .ok (.iadd, 1) := by decide +kernel
theorem dX0_sendTo_82 : decode cX0_sendTo 82 = .ok (.iconst 4, 1) := by decide +kernel
theorem dX0_sendTo_83 : decode cX0_sendTo 83 = .ok (.irem, 1) := by decide +kernel
theorem dX0_sendTo_84 : decode cX0_sendTo 84 = .ok (.putfield 80, 3) := by decide +kernel
theorem dX0_sendTo_87 : decode cX0_sendTo 87 = .ok (.iload 6, 2) := by decide +kernel
theorem dX0_sendTo_89 : decode cX0_sendTo 89 = .ok (.ireturn, 1) := by decide +kernel
theorem dX0_sendTo_90 : decode cX0_sendTo 90 = .ok (.iinc 3 1, 3) := by decide +kernel
theorem dX0_sendTo_93 : decode cX0_sendTo 93 = .ok (.goto (-74), 3) := by decide +kernel
theorem dX0_sendTo_96 : decode cX0_sendTo 96 = .ok (.bipush (-5), 2) := by decide +kernel
theorem dX0_sendTo_98 : decode cX0_sendTo 98 = .ok (.ireturn, 1) := by decide +kernel
theorem dX0_waitingFor_0 : decode cX0_waitingFor 0 = .ok (.iconst 0, 1) := by decide +kernel
theorem dX0_waitingFor_1 : decode cX0_waitingFor 1 = .ok (.istore_n 2, 1) := by decide +kernel
theorem dX0_waitingFor_2 : decode cX0_waitingFor 2 = .ok (.iconst 0, 1) := by decide +kernel
theorem dX0_waitingFor_3 : decode cX0_waitingFor 3 = .ok (.istore_n 3, 1) := by decide +kernel
theorem dX0_waitingFor_4 : decode cX0_waitingFor 4 = .ok (.iload_n 3, 1) := by decide +kernel
theorem dX0_waitingFor_5 : decode cX0_waitingFor 5 = .ok (.iconst 4, 1) := by decide +kernel
theorem dX0_waitingFor_6 : decode cX0_waitingFor 6 = .ok (.if_icmp .ge 22, 3) := by decide +kernel
theorem dX0_waitingFor_9 : decode cX0_waitingFor 9 = .ok (.iload_n 2, 1) := by decide +kernel
theorem dX0_waitingFor_10 : decode cX0_waitingFor 10 = .ok (.aload_n 0, 1) := by decide +kernel
theorem dX0_waitingFor_11 : decode cX0_waitingFor 11 = .ok (.getfield 32, 3) := by decide +kernel
theorem dX0_waitingFor_14 : decode cX0_waitingFor 14 = .ok (.iload_n 3, 1) := by decide +kernel
theorem dX0_waitingFor_15 : decode cX0_waitingFor 15 = .ok (.aaload, 1) := by decide +kernel
theorem dX0_waitingFor_16 : decode cX0_waitingFor 16 = .ok (.iload_n 1, 1) := by decide +kernel
theorem dX0_waitingFor_17 : decode cX0_waitingFor 17 = .ok (.invokevirtual 93, 3) := by decide +kernel
theorem dX0_waitingFor_20 : decode cX0_waitingFor 20 = .ok (.iadd, 1) := by decide +kernel
theorem dX0_waitingFor_21 : decode cX0_waitingFor 21 = .ok (.istore_n 2, 1) := by decide +kernel
theorem dX0_waitingFor_22 : decode cX0_waitingFor 22 = .ok (.iinc 3 1, 3) := by decide +kernel
theorem dX0_waitingFor_25 : decode cX0_waitingFor 25 = .ok (.goto (-21), 3) := by decide +kernel
theorem dX0_waitingFor_28 : decode cX0_waitingFor 28 = .ok (.iload_n 2, 1) := by decide +kernel
theorem dX0_waitingFor_29 : decode cX0_waitingFor 29 = .ok (.ireturn, 1) := by decide +kernel
theorem dX0_isStuck_0 : decode cX0_isStuck 0 = .ok (.aload_n 0, 1) := by decide +kernel
theorem dX0_isStuck_1 : decode cX0_isStuck 1 = .ok (.getfield 18, 3) := by decide +kernel
theorem dX0_isStuck_4 : decode cX0_isStuck 4 = .ok (.ifCond .ne 27, 3) := by decide +kernel
theorem dX0_isStuck_7 : decode cX0_isStuck 7 = .ok (.aload_n 0, 1) := by decide +kernel
theorem dX0_isStuck_8 : decode cX0_isStuck 8 = .ok (.getfield 26, 3) := by decide +kernel
theorem dX0_isStuck_11 : decode cX0_isStuck 11 = .ok (.iload_n 1, 1) := by decide +kernel
theorem dX0_isStuck_12 : decode cX0_isStuck 12 = .ok (.aaload, 1) := by decide +kernel
theorem dX0_isStuck_13 : decode cX0_isStuck 13 = .ok (.invokevirtual 96, 3) := by decide +kernel
theorem dX0_isStuck_16 : decode cX0_isStuck 16 = .ok (.ifCond .eq 15, 3) := by decide +kernel
theorem dX0_isStuck_19 : decode cX0_isStuck 19 = .ok (.aload_n 0, 1) := by decide +kernel
theorem dX0_isStuck_20 : decode cX0_isStuck 20 = .ok (.iload_n 1, 1) := by decide +kernel
theorem dX0_isStuck_21 : decode cX0_isStuck 21 = .ok (.invokevirtual 100, 3) := by decide +kernel
theorem dX0_isStuck_24 : decode cX0_isStuck 24 = .ok (.ifCond .le 7, 3) := by decide +kernel
theorem dX0_isStuck_27 : decode cX0_isStuck 27 = .ok (.iconst 1, 1) := by decide +kernel
theorem dX0_isStuck_28 : decode cX0_isStuck 28 = .ok (.goto 4, 3) := by decide +kernel
theorem dX0_isStuck_31 : decode cX0_isStuck 31 = .ok (.iconst 0, 1) := by decide +kernel
theorem dX0_isStuck_32 : decode cX0_isStuck 32 = .ok (.ireturn, 1) := by decide +kernel
theorem dX0_stuckLanes_0 : decode cX0_stuckLanes 0 = .ok (.iconst 0, 1) := by decide +kernel
theorem dX0_stuckLanes_1 : decode cX0_stuckLanes 1 = .ok (.istore_n 1, 1) := by decide +kernel
theorem dX0_stuckLanes_2 : decode cX0_stuckLanes 2 = .ok (.iconst 0, 1) := by decide +kernel
theorem dX0_stuckLanes_3 : decode cX0_stuckLanes 3 = .ok (.istore_n 2, 1) := by decide +kernel
theorem dX0_stuckLanes_4 : decode cX0_stuckLanes 4 = .ok (.iload_n 2, 1) := by decide +kernel
theorem dX0_stuckLanes_5 : decode cX0_stuckLanes 5 = .ok (.iconst 4, 1) := by decide +kernel
theorem dX0_stuckLanes_6 : decode cX0_stuckLanes 6 = .ok (.if_icmp .ge 20, 3) := by decide +kernel
theorem dX0_stuckLanes_9 : decode cX0_stuckLanes 9 = .ok (.aload_n 0, 1) := by decide +kernel
theorem dX0_stuckLanes_10 : decode cX0_stuckLanes 10 = .ok (.iload_n 2, 1) := by decide +kernel
theorem dX0_stuckLanes_11 : decode cX0_stuckLanes 11 = .ok (.invokevirtual 101, 3) := by decide +kernel
theorem dX0_stuckLanes_14 : decode cX0_stuckLanes 14 = .ok (.ifCond .eq 6, 3) := by decide +kernel
theorem dX0_stuckLanes_17 : decode cX0_stuckLanes 17 = .ok (.iinc 1 1, 3) := by decide +kernel
theorem dX0_stuckLanes_20 : decode cX0_stuckLanes 20 = .ok (.iinc 2 1, 3) := by decide +kernel
theorem dX0_stuckLanes_23 : decode cX0_stuckLanes 23 = .ok (.goto (-19), 3) := by decide +kernel
theorem dX0_stuckLanes_26 : decode cX0_stuckLanes 26 = .ok (.iload_n 1, 1) := by decide +kernel
theorem dX0_stuckLanes_27 : decode cX0_stuckLanes 27 = .ok (.ireturn, 1) := by decide +kernel
theorem dX0_figure_0 : decode cX0_figure 0 = .ok (.iload_n 1, 1) := by decide +kernel
theorem dX0_figure_1 : decode cX0_figure 1 = .ok (.tableswitch 123 0 10 #[59, 64, 69, 75, 82, 89, 96, 102, 108, 113, 118], 59) := by decide +kernel
theorem dX0_figure_60 : decode cX0_figure 60 = .ok (.aload_n 0, 1) := by decide +kernel
theorem dX0_figure_61 : decode cX0_figure 61 = .ok (.getfield 9, 3) := by decide +kernel
theorem dX0_figure_64 : decode cX0_figure 64 = .ok (.ireturn, 1) := by decide +kernel
theorem dX0_figure_65 : decode cX0_figure 65 = .ok (.aload_n 0, 1) := by decide +kernel
theorem dX0_figure_66 : decode cX0_figure 66 = .ok (.getfield 21, 3) := by decide +kernel
theorem dX0_figure_69 : decode cX0_figure 69 = .ok (.ireturn, 1) := by decide +kernel
theorem dX0_figure_70 : decode cX0_figure 70 = .ok (.aload_n 0, 1) := by decide +kernel
theorem dX0_figure_71 : decode cX0_figure 71 = .ok (.iconst 0, 1) := by decide +kernel
theorem dX0_figure_72 : decode cX0_figure 72 = .ok (.invokevirtual 105, 3) := by decide +kernel
theorem dX0_figure_75 : decode cX0_figure 75 = .ok (.ireturn, 1) := by decide +kernel
theorem dX0_figure_76 : decode cX0_figure 76 = .ok (.aload_n 0, 1) := by decide +kernel
theorem dX0_figure_77 : decode cX0_figure 77 = .ok (.bipush 8, 2) := by decide +kernel
theorem dX0_figure_79 : decode cX0_figure 79 = .ok (.invokevirtual 108, 3) := by decide +kernel
theorem dX0_figure_82 : decode cX0_figure 82 = .ok (.ireturn, 1) := by decide +kernel
theorem dX0_figure_83 : decode cX0_figure 83 = .ok (.aload_n 0, 1) := by decide +kernel
theorem dX0_figure_84 : decode cX0_figure 84 = .ok (.bipush 9, 2) := by decide +kernel
theorem dX0_figure_86 : decode cX0_figure 86 = .ok (.invokevirtual 108, 3) := by decide +kernel
theorem dX0_figure_89 : decode cX0_figure 89 = .ok (.ireturn, 1) := by decide +kernel
theorem dX0_figure_90 : decode cX0_figure 90 = .ok (.aload_n 0, 1) := by decide +kernel
theorem dX0_figure_91 : decode cX0_figure 91 = .ok (.bipush 10, 2) := by decide +kernel
theorem dX0_figure_93 : decode cX0_figure 93 = .ok (.invokevirtual 108, 3) := by decide +kernel
theorem dX0_figure_96 : decode cX0_figure 96 = .ok (.ireturn, 1) := by decide +kernel
theorem dX0_figure_97 : decode cX0_figure 97 = .ok (.aload_n 0, 1) := by decide +kernel
theorem dX0_figure_98 : decode cX0_figure 98 = .ok (.iconst 4, 1) := by decide +kernel
theorem dX0_figure_99 : decode cX0_figure 99 = .ok (.invokevirtual 108, 3) := by decide +kernel
theorem dX0_figure_102 : decode cX0_figure 102 = .ok (.ireturn, 1) := by decide +kernel
theorem dX0_figure_103 : decode cX0_figure 103 = .ok (.aload_n 0, 1) := by decide +kernel
theorem dX0_figure_104 : decode cX0_figure 104 = .ok (.iconst 1, 1) := by decide +kernel
theorem dX0_figure_105 : decode cX0_figure 105 = .ok (.invokevirtual 105, 3) := by decide +kernel
theorem dX0_figure_108 : decode cX0_figure 108 = .ok (.ireturn, 1) := by decide +kernel
theorem dX0_figure_109 : decode cX0_figure 109 = .ok (.aload_n 0, 1) := by decide +kernel
theorem dX0_figure_110 : decode cX0_figure 110 = .ok (.getfield 15, 3) := by decide +kernel
theorem dX0_figure_113 : decode cX0_figure 113 = .ok (.ireturn, 1) := by decide +kernel
theorem dX0_figure_114 : decode cX0_figure 114 = .ok (.aload_n 0, 1) := by decide +kernel
theorem dX0_figure_115 : decode cX0_figure 115 = .ok (.getfield 18, 3) := by decide +kernel
theorem dX0_figure_118 : decode cX0_figure 118 = .ok (.ireturn, 1) := by decide +kernel
theorem dX0_figure_119 : decode cX0_figure 119 = .ok (.aload_n 0, 1) := by decide +kernel
theorem dX0_figure_120 : decode cX0_figure 120 = .ok (.invokevirtual 111, 3) := by decide +kernel
theorem dX0_figure_123 : decode cX0_figure 123 = .ok (.ireturn, 1) := by decide +kernel
theorem dX0_figure_124 : decode cX0_figure 124 = .ok (.bipush (-2), 2) := by decide +kernel
theorem dX0_figure_126 : decode cX0_figure 126 = .ok (.ireturn, 1) := by decide +kernel
theorem dX0_sumOfLanes_0 : decode cX0_sumOfLanes 0 = .ok (.iconst 0, 1) := by decide +kernel
theorem dX0_sumOfLanes_1 : decode cX0_sumOfLanes 1 = .ok (.istore_n 2, 1) := by decide +kernel
theorem dX0_sumOfLanes_2 : decode cX0_sumOfLanes 2 = .ok (.iconst 0, 1) := by decide +kernel
theorem dX0_sumOfLanes_3 : decode cX0_sumOfLanes 3 = .ok (.istore_n 3, 1) := by decide +kernel
theorem dX0_sumOfLanes_4 : decode cX0_sumOfLanes 4 = .ok (.iload_n 3, 1) := by decide +kernel
theorem dX0_sumOfLanes_5 : decode cX0_sumOfLanes 5 = .ok (.iconst 4, 1) := by decide +kernel
theorem dX0_sumOfLanes_6 : decode cX0_sumOfLanes 6 = .ok (.if_icmp .ge 22, 3) := by decide +kernel
theorem dX0_sumOfLanes_9 : decode cX0_sumOfLanes 9 = .ok (.iload_n 2, 1) := by decide +kernel
theorem dX0_sumOfLanes_10 : decode cX0_sumOfLanes 10 = .ok (.aload_n 0, 1) := by decide +kernel
theorem dX0_sumOfLanes_11 : decode cX0_sumOfLanes 11 = .ok (.getfield 26, 3) := by decide +kernel
theorem dX0_sumOfLanes_14 : decode cX0_sumOfLanes 14 = .ok (.iload_n 3, 1) := by decide +kernel
theorem dX0_sumOfLanes_15 : decode cX0_sumOfLanes 15 = .ok (.aaload, 1) := by decide +kernel
theorem dX0_sumOfLanes_16 : decode cX0_sumOfLanes 16 = .ok (.iload_n 1, 1) := by decide +kernel
theorem dX0_sumOfLanes_17 : decode cX0_sumOfLanes 17 = .ok (.invokevirtual 114, 3) := by decide +kernel
theorem dX0_sumOfLanes_20 : decode cX0_sumOfLanes 20 = .ok (.iadd, 1) := by decide +kernel
theorem dX0_sumOfLanes_21 : decode cX0_sumOfLanes 21 = .ok (.istore_n 2, 1) := by decide +kernel
theorem dX0_sumOfLanes_22 : decode cX0_sumOfLanes 22 = .ok (.iinc 3 1, 3) := by decide +kernel
theorem dX0_sumOfLanes_25 : decode cX0_sumOfLanes 25 = .ok (.goto (-21), 3) := by decide +kernel
theorem dX0_sumOfLanes_28 : decode cX0_sumOfLanes 28 = .ok (.iload_n 2, 1) := by decide +kernel
theorem dX0_sumOfLanes_29 : decode cX0_sumOfLanes 29 = .ok (.ireturn, 1) := by decide +kernel
theorem dX0_sumOfQueues_0 : decode cX0_sumOfQueues 0 = .ok (.iconst 0, 1) := by decide +kernel
theorem dX0_sumOfQueues_1 : decode cX0_sumOfQueues 1 = .ok (.istore_n 2, 1) := by decide +kernel
theorem dX0_sumOfQueues_2 : decode cX0_sumOfQueues 2 = .ok (.iconst 0, 1) := by decide +kernel
theorem dX0_sumOfQueues_3 : decode cX0_sumOfQueues 3 = .ok (.istore_n 3, 1) := by decide +kernel
theorem dX0_sumOfQueues_4 : decode cX0_sumOfQueues 4 = .ok (.iload_n 3, 1) := by decide +kernel
theorem dX0_sumOfQueues_5 : decode cX0_sumOfQueues 5 = .ok (.iconst 4, 1) := by decide +kernel
theorem dX0_sumOfQueues_6 : decode cX0_sumOfQueues 6 = .ok (.if_icmp .ge 22, 3) := by decide +kernel
theorem dX0_sumOfQueues_9 : decode cX0_sumOfQueues 9 = .ok (.iload_n 2, 1) := by decide +kernel
theorem dX0_sumOfQueues_10 : decode cX0_sumOfQueues 10 = .ok (.aload_n 0, 1) := by decide +kernel
theorem dX0_sumOfQueues_11 : decode cX0_sumOfQueues 11 = .ok (.getfield 32, 3) := by decide +kernel
theorem dX0_sumOfQueues_14 : decode cX0_sumOfQueues 14 = .ok (.iload_n 3, 1) := by decide +kernel
theorem dX0_sumOfQueues_15 : decode cX0_sumOfQueues 15 = .ok (.aaload, 1) := by decide +kernel
theorem dX0_sumOfQueues_16 : decode cX0_sumOfQueues 16 = .ok (.iload_n 1, 1) := by decide +kernel
theorem dX0_sumOfQueues_17 : decode cX0_sumOfQueues 17 = .ok (.invokevirtual 117, 3) := by decide +kernel
theorem dX0_sumOfQueues_20 : decode cX0_sumOfQueues 20 = .ok (.iadd, 1) := by decide +kernel
theorem dX0_sumOfQueues_21 : decode cX0_sumOfQueues 21 = .ok (.istore_n 2, 1) := by decide +kernel
theorem dX0_sumOfQueues_22 : decode cX0_sumOfQueues 22 = .ok (.iinc 3 1, 3) := by decide +kernel
theorem dX0_sumOfQueues_25 : decode cX0_sumOfQueues 25 = .ok (.goto (-21), 3) := by decide +kernel
theorem dX0_sumOfQueues_28 : decode cX0_sumOfQueues 28 = .ok (.iload_n 2, 1) := by decide +kernel
theorem dX0_sumOfQueues_29 : decode cX0_sumOfQueues 29 = .ok (.ireturn, 1) := by decide +kernel
theorem dX1_init_0 : decode cX1_init 0 = .ok (.aload_n 0, 1) := by decide +kernel
theorem dX1_init_1 : decode cX1_init 1 = .ok (.invokespecial 3, 3) := by decide +kernel
theorem dX1_init_4 : decode cX1_init 4 = .ok (.aload_n 0, 1) := by decide +kernel
theorem dX1_init_5 : decode cX1_init 5 = .ok (.iconst 3, 1) := by decide +kernel
theorem dX1_init_6 : decode cX1_init 6 = .ok (.putfield 9, 3) := by decide +kernel
theorem dX1_init_9 : decode cX1_init 9 = .ok (.aload_n 0, 1) := by decide +kernel
theorem dX1_init_10 : decode cX1_init 10 = .ok (.iconst 2, 1) := by decide +kernel
theorem dX1_init_11 : decode cX1_init 11 = .ok (.putfield 15, 3) := by decide +kernel
theorem dX1_init_14 : decode cX1_init 14 = .ok (.aload_n 0, 1) := by decide +kernel
theorem dX1_init_15 : decode cX1_init 15 = .ok (.iconst 2, 1) := by decide +kernel
theorem dX1_init_16 : decode cX1_init 16 = .ok (.putfield 18, 3) := by decide +kernel
theorem dX1_init_19 : decode cX1_init 19 = .ok (.aload_n 0, 1) := by decide +kernel
theorem dX1_init_20 : decode cX1_init 20 = .ok (.iconst 3, 1) := by decide +kernel
theorem dX1_init_21 : decode cX1_init 21 = .ok (.putfield 21, 3) := by decide +kernel
theorem dX1_init_24 : decode cX1_init 24 = .ok (.aload_n 0, 1) := by decide +kernel
theorem dX1_init_25 : decode cX1_init 25 = .ok (.iconst 0, 1) := by decide +kernel
theorem dX1_init_26 : decode cX1_init 26 = .ok (.putfield 24, 3) := by decide +kernel
theorem dX1_init_29 : decode cX1_init 29 = .ok (.aload_n 0, 1) := by decide +kernel
theorem dX1_init_30 : decode cX1_init 30 = .ok (.iconst 0, 1) := by decide +kernel
theorem dX1_init_31 : decode cX1_init 31 = .ok (.putfield 27, 3) := by decide +kernel
theorem dX1_init_34 : decode cX1_init 34 = .ok (.aload_n 0, 1) := by decide +kernel
theorem dX1_init_35 : decode cX1_init 35 = .ok (.iconst 0, 1) := by decide +kernel
theorem dX1_init_36 : decode cX1_init 36 = .ok (.putfield 30, 3) := by decide +kernel
theorem dX1_init_39 : decode cX1_init 39 = .ok (.aload_n 0, 1) := by decide +kernel
theorem dX1_init_40 : decode cX1_init 40 = .ok (.iconst 0, 1) := by decide +kernel
theorem dX1_init_41 : decode cX1_init 41 = .ok (.putfield 33, 3) := by decide +kernel
theorem dX1_init_44 : decode cX1_init 44 = .ok (.aload_n 0, 1) := by decide +kernel
theorem dX1_init_45 : decode cX1_init 45 = .ok (.iconst 0, 1) := by decide +kernel
theorem dX1_init_46 : decode cX1_init 46 = .ok (.putfield 36, 3) := by decide +kernel
theorem dX1_init_49 : decode cX1_init 49 = .ok (.aload_n 0, 1) := by decide +kernel
theorem dX1_init_50 : decode cX1_init 50 = .ok (.bipush 8, 2) := by decide +kernel
theorem dX1_init_52 : decode cX1_init 52 = .ok (.newarray .int, 2) := by decide +kernel
theorem dX1_init_54 : decode cX1_init 54 = .ok (.putfield 39, 3) := by decide +kernel
theorem dX1_init_57 : decode cX1_init 57 = .ok (.aload_n 0, 1) := by decide +kernel
theorem dX1_init_58 : decode cX1_init 58 = .ok (.iconst 0, 1) := by decide +kernel
theorem dX1_init_59 : decode cX1_init 59 = .ok (.putfield 43, 3) := by decide +kernel
theorem dX1_init_62 : decode cX1_init 62 = .ok (.aload_n 0, 1) := by decide +kernel
theorem dX1_init_63 : decode cX1_init 63 = .ok (.bipush 6, 2) := by decide +kernel
theorem dX1_init_65 : decode cX1_init 65 = .ok (.newarray .int, 2) := by decide +kernel
theorem dX1_init_67 : decode cX1_init 67 = .ok (.putfield 46, 3) := by decide +kernel
theorem dX1_init_70 : decode cX1_init 70 = .ok (.aload_n 0, 1) := by decide +kernel
theorem dX1_init_71 : decode cX1_init 71 = .ok (.iconst 0, 1) := by decide +kernel
theorem dX1_init_72 : decode cX1_init 72 = .ok (.putfield 49, 3) := by decide +kernel
theorem dX1_init_75 : decode cX1_init 75 = .ok (.return_, 1) := by decide +kernel
theorem dX1_copyFrom_0 : decode cX1_copyFrom 0 = .ok (.aload_n 0, 1) := by decide +kernel
theorem dX1_copyFrom_1 : decode cX1_copyFrom 1 = .ok (.aload_n 1, 1) := by decide +kernel
theorem dX1_copyFrom_2 : decode cX1_copyFrom 2 = .ok (.getfield 9, 3) := by decide +kernel
theorem dX1_copyFrom_5 : decode cX1_copyFrom 5 = .ok (.putfield 9, 3) := by decide +kernel
theorem dX1_copyFrom_8 : decode cX1_copyFrom 8 = .ok (.aload_n 0, 1) := by decide +kernel
theorem dX1_copyFrom_9 : decode cX1_copyFrom 9 = .ok (.aload_n 1, 1) := by decide +kernel
theorem dX1_copyFrom_10 : decode cX1_copyFrom 10 = .ok (.getfield 15, 3) := by decide +kernel
theorem dX1_copyFrom_13 : decode cX1_copyFrom 13 = .ok (.putfield 15, 3) := by decide +kernel
theorem dX1_copyFrom_16 : decode cX1_copyFrom 16 = .ok (.aload_n 0, 1) := by decide +kernel
theorem dX1_copyFrom_17 : decode cX1_copyFrom 17 = .ok (.aload_n 1, 1) := by decide +kernel
theorem dX1_copyFrom_18 : decode cX1_copyFrom 18 = .ok (.getfield 18, 3) := by decide +kernel
theorem dX1_copyFrom_21 : decode cX1_copyFrom 21 = .ok (.putfield 18, 3) := by decide +kernel
theorem dX1_copyFrom_24 : decode cX1_copyFrom 24 = .ok (.aload_n 0, 1) := by decide +kernel
theorem dX1_copyFrom_25 : decode cX1_copyFrom 25 = .ok (.aload_n 1, 1) := by decide +kernel
theorem dX1_copyFrom_26 : decode cX1_copyFrom 26 = .ok (.getfield 21, 3) := by decide +kernel
theorem dX1_copyFrom_29 : decode cX1_copyFrom 29 = .ok (.putfield 21, 3) := by decide +kernel
theorem dX1_copyFrom_32 : decode cX1_copyFrom 32 = .ok (.aload_n 0, 1) := by decide +kernel
theorem dX1_copyFrom_33 : decode cX1_copyFrom 33 = .ok (.aload_n 1, 1) := by decide +kernel
theorem dX1_copyFrom_34 : decode cX1_copyFrom 34 = .ok (.getfield 24, 3) := by decide +kernel
theorem dX1_copyFrom_37 : decode cX1_copyFrom 37 = .ok (.putfield 24, 3) := by decide +kernel
theorem dX1_copyFrom_40 : decode cX1_copyFrom 40 = .ok (.aload_n 0, 1) := by decide +kernel
theorem dX1_copyFrom_41 : decode cX1_copyFrom 41 = .ok (.aload_n 1, 1) := by decide +kernel
theorem dX1_copyFrom_42 : decode cX1_copyFrom 42 = .ok (.getfield 27, 3) := by decide +kernel
theorem dX1_copyFrom_45 : decode cX1_copyFrom 45 = .ok (.putfield 27, 3) := by decide +kernel
theorem dX1_copyFrom_48 : decode cX1_copyFrom 48 = .ok (.aload_n 0, 1) := by decide +kernel
theorem dX1_copyFrom_49 : decode cX1_copyFrom 49 = .ok (.aload_n 1, 1) := by decide +kernel
theorem dX1_copyFrom_50 : decode cX1_copyFrom 50 = .ok (.getfield 30, 3) := by decide +kernel
theorem dX1_copyFrom_53 : decode cX1_copyFrom 53 = .ok (.putfield 30, 3) := by decide +kernel
theorem dX1_copyFrom_56 : decode cX1_copyFrom 56 = .ok (.aload_n 0, 1) := by decide +kernel
theorem dX1_copyFrom_57 : decode cX1_copyFrom 57 = .ok (.aload_n 1, 1) := by decide +kernel
theorem dX1_copyFrom_58 : decode cX1_copyFrom 58 = .ok (.getfield 33, 3) := by decide +kernel
theorem dX1_copyFrom_61 : decode cX1_copyFrom 61 = .ok (.putfield 33, 3) := by decide +kernel
theorem dX1_copyFrom_64 : decode cX1_copyFrom 64 = .ok (.aload_n 0, 1) := by decide +kernel
theorem dX1_copyFrom_65 : decode cX1_copyFrom 65 = .ok (.aload_n 1, 1) := by decide +kernel
theorem dX1_copyFrom_66 : decode cX1_copyFrom 66 = .ok (.getfield 36, 3) := by decide +kernel
theorem dX1_copyFrom_69 : decode cX1_copyFrom 69 = .ok (.putfield 36, 3) := by decide +kernel
theorem dX1_copyFrom_72 : decode cX1_copyFrom 72 = .ok (.aload_n 0, 1) := by decide +kernel
theorem dX1_copyFrom_73 : decode cX1_copyFrom 73 = .ok (.aload_n 1, 1) := by decide +kernel
theorem dX1_copyFrom_74 : decode cX1_copyFrom 74 = .ok (.getfield 43, 3) := by decide +kernel
theorem dX1_copyFrom_77 : decode cX1_copyFrom 77 = .ok (.putfield 43, 3) := by decide +kernel
theorem dX1_copyFrom_80 : decode cX1_copyFrom 80 = .ok (.aload_n 0, 1) := by decide +kernel
theorem dX1_copyFrom_81 : decode cX1_copyFrom 81 = .ok (.aload_n 1, 1) := by decide +kernel
theorem dX1_copyFrom_82 : decode cX1_copyFrom 82 = .ok (.getfield 49, 3) := by decide +kernel
theorem dX1_copyFrom_85 : decode cX1_copyFrom 85 = .ok (.putfield 49, 3) := by decide +kernel
theorem dX1_copyFrom_88 : decode cX1_copyFrom 88 = .ok (.aload_n 1, 1) := by decide +kernel
theorem dX1_copyFrom_89 : decode cX1_copyFrom 89 = .ok (.getfield 39, 3) := by decide +kernel
theorem dX1_copyFrom_92 : decode cX1_copyFrom 92 = .ok (.iconst 0, 1) := by decide +kernel
theorem dX1_copyFrom_93 : decode cX1_copyFrom 93 = .ok (.aload_n 0, 1) := by decide +kernel
theorem dX1_copyFrom_94 : decode cX1_copyFrom 94 = .ok (.getfield 39, 3) := by decide +kernel
theorem dX1_copyFrom_97 : decode cX1_copyFrom 97 = .ok (.iconst 0, 1) := by decide +kernel
theorem dX1_copyFrom_98 : decode cX1_copyFrom 98 = .ok (.bipush 8, 2) := by decide +kernel
theorem dX1_copyFrom_100 : decode cX1_copyFrom 100 = .ok (.invokestatic 52, 3) := by decide +kernel
theorem dX1_copyFrom_103 : decode cX1_copyFrom 103 = .ok (.aload_n 1, 1) := by decide +kernel
theorem dX1_copyFrom_104 : decode cX1_copyFrom 104 = .ok (.getfield 46, 3) := by decide +kernel
theorem dX1_copyFrom_107 : decode cX1_copyFrom 107 = .ok (.iconst 0, 1) := by decide +kernel
theorem dX1_copyFrom_108 : decode cX1_copyFrom 108 = .ok (.aload_n 0, 1) := by decide +kernel
theorem dX1_copyFrom_109 : decode cX1_copyFrom 109 = .ok (.getfield 46, 3) := by decide +kernel
theorem dX1_copyFrom_112 : decode cX1_copyFrom 112 = .ok (.iconst 0, 1) := by decide +kernel
theorem dX1_copyFrom_113 : decode cX1_copyFrom 113 = .ok (.bipush 6, 2) := by decide +kernel
theorem dX1_copyFrom_115 : decode cX1_copyFrom 115 = .ok (.invokestatic 52, 3) := by decide +kernel
theorem dX1_copyFrom_118 : decode cX1_copyFrom 118 = .ok (.return_, 1) := by decide +kernel
theorem dX1_setting_0 : decode cX1_setting 0 = .ok (.iload_n 1, 1) := by decide +kernel
theorem dX1_setting_1 : decode cX1_setting 1 = .ok (.lookupswitch 37 #[(0, 27), (1, 32)], 27) := by decide +kernel
theorem dX1_setting_28 : decode cX1_setting 28 = .ok (.aload_n 0, 1) := by decide +kernel
theorem dX1_setting_29 : decode cX1_setting 29 = .ok (.getfield 9, 3) := by decide +kernel
theorem dX1_setting_32 : decode cX1_setting 32 = .ok (.ireturn, 1) := by decide +kernel
theorem dX1_setting_33 : decode cX1_setting 33 = .ok (.aload_n 0, 1) := by decide +kernel
theorem dX1_setting_34 : decode cX1_setting 34 = .ok (.getfield 15, 3) := by decide +kernel
theorem dX1_setting_37 : decode cX1_setting 37 = .ok (.ireturn, 1) := by decide +kernel
theorem dX1_setting_38 : decode cX1_setting 38 = .ok (.aload_n 0, 1) := by decide +kernel
theorem dX1_setting_39 : decode cX1_setting 39 = .ok (.getfield 18, 3) := by decide +kernel
theorem dX1_setting_42 : decode cX1_setting 42 = .ok (.ireturn, 1) := by decide +kernel
theorem dX1_change_0 : decode cX1_change 0 = .ok (.iload_n 1, 1) := by decide +kernel
theorem dX1_change_1 : decode cX1_change 1 = .ok (.lookupswitch 58 #[(0, 27), (1, 50)], 27) := by decide +kernel
theorem dX1_change_28 : decode cX1_change 28 = .ok (.aload_n 0, 1) := by decide +kernel
theorem dX1_change_29 : decode cX1_change 29 = .ok (.dup, 1) := by decide +kernel
theorem dX1_change_30 : decode cX1_change 30 = .ok (.getfield 21, 3) := by decide +kernel
theorem dX1_change_33 : decode cX1_change 33 = .ok (.iload_n 2, 1) := by decide +kernel
theorem dX1_change_34 : decode cX1_change 34 = .ok (.aload_n 0, 1) := by decide +kernel
theorem dX1_change_35 : decode cX1_change 35 = .ok (.getfield 9, 3) := by decide +kernel
theorem dX1_change_38 : decode cX1_change 38 = .ok (.isub, 1) := by decide +kernel
theorem dX1_change_39 : decode cX1_change 39 = .ok (.iadd, 1) := by decide +kernel
theorem dX1_change_40 : decode cX1_change 40 = .ok (.putfield 21, 3) := by decide +kernel
theorem dX1_change_43 : decode cX1_change 43 = .ok (.aload_n 0, 1) := by decide +kernel
theorem dX1_change_44 : decode cX1_change 44 = .ok (.iload_n 2, 1) := by decide +kernel
theorem dX1_change_45 : decode cX1_change 45 = .ok (.putfield 9, 3) := by decide +kernel
theorem dX1_change_48 : decode cX1_change 48 = .ok (.goto 16, 3) := by decide +kernel
theorem dX1_change_51 : decode cX1_change 51 = .ok (.aload_n 0, 1) := by decide +kernel
theorem dX1_change_52 : decode cX1_change 52 = .ok (.iload_n 2, 1) := by decide +kernel
theorem dX1_change_53 : decode cX1_change 53 = .ok (.putfield 15, 3) := by decide +kernel
theorem dX1_change_56 : decode cX1_change 56 = .ok (.goto 8, 3) := by decide +kernel
theorem dX1_change_59 : decode cX1_change 59 = .ok (.aload_n 0, 1) := by decide +kernel
theorem dX1_change_60 : decode cX1_change 60 = .ok (.iload_n 2, 1) := by decide +kernel
theorem dX1_change_61 : decode cX1_change 61 = .ok (.putfield 18, 3) := by decide +kernel
theorem dX1_change_64 : decode cX1_change 64 = .ok (.return_, 1) := by decide +kernel
theorem dX1_missing_0 : decode cX1_missing 0 = .ok (.aload_n 0, 1) := by decide +kernel
theorem dX1_missing_1 : decode cX1_missing 1 = .ok (.getfield 9, 3) := by decide +kernel
theorem dX1_missing_4 : decode cX1_missing 4 = .ok (.aload_n 0, 1) := by decide +kernel
theorem dX1_missing_5 : decode cX1_missing 5 = .ok (.getfield 21, 3) := by decide +kernel
theorem dX1_missing_8 : decode cX1_missing 8 = .ok (.isub, 1) := by decide +kernel
theorem dX1_missing_9 : decode cX1_missing 9 = .ok (.aload_n 0, 1) := by decide +kernel
theorem dX1_missing_10 : decode cX1_missing 10 = .ok (.getfield 43, 3) := by decide +kernel
theorem dX1_missing_13 : decode cX1_missing 13 = .ok (.isub, 1) := by decide +kernel
theorem dX1_missing_14 : decode cX1_missing 14 = .ok (.aload_n 0, 1) := by decide +kernel
theorem dX1_missing_15 : decode cX1_missing 15 = .ok (.getfield 49, 3) := by decide +kernel
theorem dX1_missing_18 : decode cX1_missing 18 = .ok (.isub, 1) := by decide +kernel
theorem dX1_missing_19 : decode cX1_missing 19 = .ok (.ireturn, 1) := by decide +kernel
theorem dX1_mend_0 : decode cX1_mend 0 = .ok (.aload_n 0, 1) := by decide +kernel
theorem dX1_mend_1 : decode cX1_mend 1 = .ok (.dup, 1) := by decide +kernel
theorem dX1_mend_2 : decode cX1_mend 2 = .ok (.getfield 21, 3) := by decide +kernel
theorem dX1_mend_5 : decode cX1_mend 5 = .ok (.aload_n 0, 1) := by decide +kernel
theorem dX1_mend_6 : decode cX1_mend 6 = .ok (.invokevirtual 58, 3) := by decide +kernel
theorem dX1_mend_9 : decode cX1_mend 9 = .ok (.iadd, 1) := by decide +kernel
theorem dX1_mend_10 : decode cX1_mend 10 = .ok (.putfield 21, 3) := by decide +kernel
theorem dX1_mend_13 : decode cX1_mend 13 = .ok (.return_, 1) := by decide +kernel
theorem dX1_isDry_0 : decode cX1_isDry 0 = .ok (.aload_n 0, 1) := by decide +kernel
theorem dX1_isDry_1 : decode cX1_isDry 1 = .ok (.getfield 21, 3) := by decide +kernel
theorem dX1_isDry_4 : decode cX1_isDry 4 = .ok (.ifCond .gt 21, 3) := by decide +kernel
theorem dX1_isDry_7 : decode cX1_isDry 7 = .ok (.aload_n 0, 1) := by decide +kernel
theorem dX1_isDry_8 : decode cX1_isDry 8 = .ok (.getfield 43, 3) := by decide +kernel
theorem dX1_isDry_11 : decode cX1_isDry 11 = .ok (.ifCond .ne 14, 3) := by decide +kernel
theorem dX1_isDry_14 : decode cX1_isDry 14 = .ok (.aload_n 0, 1) := by decide +kernel
theorem dX1_isDry_15 : decode cX1_isDry 15 = .ok (.getfield 49, 3) := by decide +kernel
theorem dX1_isDry_18 : decode cX1_isDry 18 = .ok (.ifCond .ne 7, 3) := by decide +kernel
theorem dX1_isDry_21 : decode cX1_isDry 21 = .ok (.iconst 1, 1) := by decide +kernel
theorem dX1_isDry_22 : decode cX1_isDry 22 = .ok (.goto 4, 3) := by decide +kernel
theorem dX1_isDry_25 : decode cX1_isDry 25 = .ok (.iconst 0, 1) := by decide +kernel
theorem dX1_isDry_26 : decode cX1_isDry 26 = .ok (.ireturn, 1) := by decide +kernel
theorem dX1_letCreditsCome_0 : decode cX1_letCreditsCome 0 = .ok (.iconst 0, 1) := by decide +kernel
theorem dX1_letCreditsCome_1 : decode cX1_letCreditsCome 1 = .ok (.istore_n 2, 1) := by decide +kernel
theorem dX1_letCreditsCome_2 : decode cX1_letCreditsCome 2 = .ok (.iload_n 2, 1) := by decide +kernel
theorem dX1_letCreditsCome_3 : decode cX1_letCreditsCome 3 = .ok (.bipush 6, 2) := by decide +kernel
theorem dX1_letCreditsCome_5 : decode cX1_letCreditsCome 5 = .ok (.if_icmp .ge 31, 3) := by decide +kernel
theorem dX1_letCreditsCome_8 : decode cX1_letCreditsCome 8 = .ok (.aload_n 0, 1) := by decide +kernel
theorem dX1_letCreditsCome_9 : decode cX1_letCreditsCome 9 = .ok (.iload_n 1, 1) := by decide +kernel
theorem dX1_letCreditsCome_10 : decode cX1_letCreditsCome 10 = .ok (.invokevirtual 62, 3) := by decide +kernel
theorem dX1_letCreditsCome_13 : decode cX1_letCreditsCome 13 = .ok (.ifCond .eq 23, 3) := by decide +kernel
theorem dX1_letCreditsCome_16 : decode cX1_letCreditsCome 16 = .ok (.aload_n 0, 1) := by decide +kernel
theorem dX1_letCreditsCome_17 : decode cX1_letCreditsCome 17 = .ok (.invokevirtual 66, 3) := by decide +kernel
theorem dX1_letCreditsCome_20 : decode cX1_letCreditsCome 20 = .ok (.aload_n 0, 1) := by decide +kernel
theorem dX1_letCreditsCome_21 : decode cX1_letCreditsCome 21 = .ok (.dup, 1) := by decide +kernel
theorem dX1_letCreditsCome_22 : decode cX1_letCreditsCome 22 = .ok (.getfield 21, 3) := by decide +kernel
theorem dX1_letCreditsCome_25 : decode cX1_letCreditsCome 25 = .ok (.iconst 1, 1) := by decide +kernel
theorem dX1_letCreditsCome_26 : decode cX1_letCreditsCome 26 = .ok (.iadd, 1) := by decide +kernel
theorem dX1_letCreditsCome_27 : decode cX1_letCreditsCome 27 = .ok (.putfield 21, 3) := by decide +kernel
theorem dX1_letCreditsCome_30 : decode cX1_letCreditsCome 30 = .ok (.iinc 2 1, 3) := by decide +kernel
theorem dX1_letCreditsCome_33 : decode cX1_letCreditsCome 33 = .ok (.goto (-31), 3) := by decide +kernel
theorem dX1_letCreditsCome_36 : decode cX1_letCreditsCome 36 = .ok (.return_, 1) := by decide +kernel
theorem dX1_creditComes_0 : decode cX1_creditComes 0 = .ok (.aload_n 0, 1) := by decide +kernel
theorem dX1_creditComes_1 : decode cX1_creditComes 1 = .ok (.getfield 49, 3) := by decide +kernel
theorem dX1_creditComes_4 : decode cX1_creditComes 4 = .ok (.ifCond .le 17, 3) := by decide +kernel
theorem dX1_creditComes_7 : decode cX1_creditComes 7 = .ok (.aload_n 0, 1) := by decide +kernel
theorem dX1_creditComes_8 : decode cX1_creditComes 8 = .ok (.getfield 46, 3) := by decide +kernel
theorem dX1_creditComes_11 : decode cX1_creditComes 11 = .ok (.iconst 0, 1) := by decide +kernel
theorem dX1_creditComes_12 : decode cX1_creditComes 12 = .ok (.iaload, 1) := by decide +kernel
theorem dX1_creditComes_13 : decode cX1_creditComes 13 = .ok (.iload_n 1, 1) := by decide +kernel
theorem dX1_creditComes_14 : decode cX1_creditComes 14 = .ok (.if_icmp .gt 7, 3) := by decide +kernel
theorem dX1_creditComes_17 : decode cX1_creditComes 17 = .ok (.iconst 1, 1) := by decide +kernel
theorem dX1_creditComes_18 : decode cX1_creditComes 18 = .ok (.goto 4, 3) := by decide +kernel
theorem dX1_creditComes_21 : decode cX1_creditComes 21 = .ok (.iconst 0, 1) := by decide +kernel
theorem dX1_creditComes_22 : decode cX1_creditComes 22 = .ok (.ireturn, 1) := by decide +kernel
theorem dX1_loseFirst_0 : decode cX1_loseFirst 0 = .ok (.aload_n 0, 1) := by decide +kernel
theorem dX1_loseFirst_1 : decode cX1_loseFirst 1 = .ok (.invokevirtual 66, 3) := by decide +kernel
theorem dX1_loseFirst_4 : decode cX1_loseFirst 4 = .ok (.aload_n 0, 1) := by decide +kernel
theorem dX1_loseFirst_5 : decode cX1_loseFirst 5 = .ok (.dup, 1) := by decide +kernel
theorem dX1_loseFirst_6 : decode cX1_loseFirst 6 = .ok (.getfield 36, 3) := by decide +kernel
theorem dX1_loseFirst_9 : decode cX1_loseFirst 9 = .ok (.iconst 1, 1) := by decide +kernel
theorem dX1_loseFirst_10 : decode cX1_loseFirst 10 = .ok (.iadd, 1) := by decide +kernel
theorem dX1_loseFirst_11 : decode cX1_loseFirst 11 = .ok (.putfield 36, 3) := by decide +kernel
theorem dX1_loseFirst_14 : decode cX1_loseFirst 14 = .ok (.return_, 1) := by decide +kernel
theorem dX1_dropFirstOnTheWay_0 : decode cX1_dropFirstOnTheWay 0 = .ok (.aload_n 0, 1) := by decide +kernel
theorem dX1_dropFirstOnTheWay_1 : decode cX1_dropFirstOnTheWay 1 = .ok (.getfield 49, 3) := by decide +kernel
theorem dX1_dropFirstOnTheWay_4 : decode cX1_dropFirstOnTheWay 4 = .ok (.ifCond .gt 4, 3) := by decide +kernel
theorem dX1_dropFirstOnTheWay_7 : decode cX1_dropFirstOnTheWay 7 = .ok (.return_, 1) := by decide +kernel
theorem dX1_dropFirstOnTheWay_8 : decode cX1_dropFirstOnTheWay 8 = .ok (.iconst 1, 1) := by decide +kernel
theorem dX1_dropFirstOnTheWay_9 : decode cX1_dropFirstOnTheWay 9 = .ok (.istore_n 1, 1) := by decide +kernel
theorem dX1_dropFirstOnTheWay_10 : decode cX1_dropFirstOnTheWay 10 = .ok (.iload_n 1, 1) := by decide +kernel
theorem dX1_dropFirstOnTheWay_11 : decode cX1_dropFirstOnTheWay 11 = .ok (.aload_n 0, 1) := by decide +kernel
theorem dX1_dropFirstOnTheWay_12 : decode cX1_dropFirstOnTheWay 12 = .ok (.getfield 49, 3) := by decide +kernel
theorem dX1_dropFirstOnTheWay_15 : decode cX1_dropFirstOnTheWay 15 = .ok (.if_icmp .ge 23, 3) := by decide +kernel
theorem dX1_dropFirstOnTheWay_18 : decode cX1_dropFirstOnTheWay 18 = .ok (.aload_n 0, 1) := by decide +kernel
theorem dX1_dropFirstOnTheWay_19 : decode cX1_dropFirstOnTheWay 19 = .ok (.getfield 46, 3) := by decide +kernel
theorem dX1_dropFirstOnTheWay_22 : decode cX1_dropFirstOnTheWay 22 = .ok (.iload_n 1, 1) := by decide +kernel
theorem dX1_dropFirstOnTheWay_23 : decode cX1_dropFirstOnTheWay 23 = .ok (.iconst 1, 1) := by decide +kernel
theorem dX1_dropFirstOnTheWay_24 : decode cX1_dropFirstOnTheWay 24 = .ok (.isub, 1) := by decide +kernel
theorem dX1_dropFirstOnTheWay_25 : decode cX1_dropFirstOnTheWay 25 = .ok (.aload_n 0, 1) := by decide +kernel
theorem dX1_dropFirstOnTheWay_26 : decode cX1_dropFirstOnTheWay 26 = .ok (.getfield 46, 3) := by decide +kernel
theorem dX1_dropFirstOnTheWay_29 : decode cX1_dropFirstOnTheWay 29 = .ok (.iload_n 1, 1) := by decide +kernel
theorem dX1_dropFirstOnTheWay_30 : decode cX1_dropFirstOnTheWay 30 = .ok (.iaload, 1) := by decide +kernel
theorem dX1_dropFirstOnTheWay_31 : decode cX1_dropFirstOnTheWay 31 = .ok (.iastore, 1) := by decide +kernel
theorem dX1_dropFirstOnTheWay_32 : decode cX1_dropFirstOnTheWay 32 = .ok (.iinc 1 1, 3) := by decide +kernel
theorem dX1_dropFirstOnTheWay_35 : decode cX1_dropFirstOnTheWay 35 = .ok (.goto (-25), 3) := by decide +kernel
theorem dX1_dropFirstOnTheWay_38 : decode cX1_dropFirstOnTheWay 38 = .ok (.aload_n 0, 1) := by decide +kernel
theorem dX1_dropFirstOnTheWay_39 : decode cX1_dropFirstOnTheWay 39 = .ok (.dup, 1) := by decide +kernel
theorem dX1_dropFirstOnTheWay_40 : decode cX1_dropFirstOnTheWay 40 = .ok (.getfield 49, 3) := by decide +kernel
theorem dX1_dropFirstOnTheWay_43 : decode cX1_dropFirstOnTheWay 43 = .ok (.iconst 1, 1) := by decide +kernel
theorem dX1_dropFirstOnTheWay_44 : decode cX1_dropFirstOnTheWay 44 = .ok (.isub, 1) := by decide +kernel
theorem dX1_dropFirstOnTheWay_45 : decode cX1_dropFirstOnTheWay 45 = .ok (.putfield 49, 3) := by decide +kernel
theorem dX1_dropFirstOnTheWay_48 : decode cX1_dropFirstOnTheWay 48 = .ok (.return_, 1) := by decide +kernel
theorem dX1_receive_0 : decode cX1_receive 0 = .ok (.aload_n 0, 1) := by decide +kernel
theorem dX1_receive_1 : decode cX1_receive 1 = .ok (.dup, 1) := by decide +kernel
theorem dX1_receive_2 : decode cX1_receive 2 = .ok (.getfield 21, 3) := by decide +kernel
theorem dX1_receive_5 : decode cX1_receive 5 = .ok (.iconst 1, 1) := by decide +kernel
theorem dX1_receive_6 : decode cX1_receive 6 = .ok (.isub, 1) := by decide +kernel
theorem dX1_receive_7 : decode cX1_receive 7 = .ok (.putfield 21, 3) := by decide +kernel
theorem dX1_receive_10 : decode cX1_receive 10 = .ok (.aload_n 0, 1) := by decide +kernel
theorem dX1_receive_11 : decode cX1_receive 11 = .ok (.dup, 1) := by decide +kernel
theorem dX1_receive_12 : decode cX1_receive 12 = .ok (.getfield 27, 3) := by decide +kernel
theorem dX1_receive_15 : decode cX1_receive 15 = .ok (.iconst 1, 1) := by decide +kernel
theorem dX1_receive_16 : decode cX1_receive 16 = .ok (.iadd, 1) := by decide +kernel
theorem dX1_receive_17 : decode cX1_receive 17 = .ok (.putfield 27, 3) := by decide +kernel
theorem dX1_receive_20 : decode cX1_receive 20 = .ok (.aload_n 0, 1) := by decide +kernel
theorem dX1_receive_21 : decode cX1_receive 21 = .ok (.getfield 43, 3) := by decide +kernel
theorem dX1_receive_24 : decode cX1_receive 24 = .ok (.aload_n 0, 1) := by decide +kernel
theorem dX1_receive_25 : decode cX1_receive 25 = .ok (.getfield 9, 3) := by decide +kernel
theorem dX1_receive_28 : decode cX1_receive 28 = .ok (.if_icmp .ge 35, 3) := by decide +kernel
theorem dX1_receive_31 : decode cX1_receive 31 = .ok (.aload_n 0, 1) := by decide +kernel
theorem dX1_receive_32 : decode cX1_receive 32 = .ok (.getfield 43, 3) := by decide +kernel
theorem dX1_receive_35 : decode cX1_receive 35 = .ok (.bipush 8, 2) := by decide +kernel
theorem dX1_receive_37 : decode cX1_receive 37 = .ok (.if_icmp .ge 26, 3) := by decide +kernel
theorem dX1_receive_40 : decode cX1_receive 40 = .ok (.aload_n 0, 1) := by decide +kernel
theorem dX1_receive_41 : decode cX1_receive 41 = .ok (.getfield 39, 3) := by decide +kernel
theorem dX1_receive_44 : decode cX1_receive 44 = .ok (.aload_n 0, 1) := by decide +kernel
theorem dX1_receive_45 : decode cX1_receive 45 = .ok (.getfield 43, 3) := by decide +kernel
theorem dX1_receive_48 : decode cX1_receive 48 = .ok (.iload_n 1, 1) := by decide +kernel
theorem dX1_receive_49 : decode cX1_receive 49 = .ok (.iastore, 1) := by decide +kernel
theorem dX1_receive_50 : decode cX1_receive 50 = .ok (.aload_n 0, 1) := by decide +kernel
theorem dX1_receive_51 : decode cX1_receive 51 = .ok (.dup, 1) := by decide +kernel
theorem dX1_receive_52 : decode cX1_receive 52 = .ok (.getfield 43, 3) := by decide +kernel
theorem dX1_receive_55 : decode cX1_receive 55 = .ok (.iconst 1, 1) := by decide +kernel
theorem dX1_receive_56 : decode cX1_receive 56 = .ok (.iadd, 1) := by decide +kernel
theorem dX1_receive_57 : decode cX1_receive 57 = .ok (.putfield 43, 3) := by decide +kernel
theorem dX1_receive_60 : decode cX1_receive 60 = .ok (.goto 13, 3) := by decide +kernel
theorem dX1_receive_63 : decode cX1_receive 63 = .ok (.aload_n 0, 1) := by decide +kernel
theorem dX1_receive_64 : decode cX1_receive 64 = .ok (.dup, 1) := by decide +kernel
theorem dX1_receive_65 : decode cX1_receive 65 = .ok (.getfield 33, 3) := by decide +kernel
theorem dX1_receive_68 : decode cX1_receive 68 = .ok (.iconst 1, 1) := by decide +kernel
theorem dX1_receive_69 : decode cX1_receive 69 = .ok (.iadd, 1) := by decide +kernel
theorem dX1_receive_70 : decode cX1_receive 70 = .ok (.putfield 33, 3) := by decide +kernel
theorem dX1_receive_73 : decode cX1_receive 73 = .ok (.return_, 1) := by decide +kernel
theorem dX1_takeIfDue_0 : decode cX1_takeIfDue 0 = .ok (.aload_n 0, 1) := by decide +kernel
theorem dX1_takeIfDue_1 : decode cX1_takeIfDue 1 = .ok (.getfield 15, 3) := by decide +kernel
theorem dX1_takeIfDue_4 : decode cX1_takeIfDue 4 = .ok (.ifCond .le 18, 3) := by decide +kernel
theorem dX1_takeIfDue_7 : decode cX1_takeIfDue 7 = .ok (.iload_n 1, 1) := by decide +kernel
theorem dX1_takeIfDue_8 : decode cX1_takeIfDue 8 = .ok (.iconst 1, 1) := by decide +kernel
theorem dX1_takeIfDue_9 : decode cX1_takeIfDue 9 = .ok (.iadd, 1) := by decide +kernel
theorem dX1_takeIfDue_10 : decode cX1_takeIfDue 10 = .ok (.aload_n 0, 1) := by decide +kernel
theorem dX1_takeIfDue_11 : decode cX1_takeIfDue 11 = .ok (.getfield 15, 3) := by decide +kernel
theorem dX1_takeIfDue_14 : decode cX1_takeIfDue 14 = .ok (.irem, 1) := by decide +kernel
theorem dX1_takeIfDue_15 : decode cX1_takeIfDue 15 = .ok (.ifCond .ne 7, 3) := by decide +kernel
theorem dX1_takeIfDue_18 : decode cX1_takeIfDue 18 = .ok (.iconst 1, 1) := by decide +kernel
theorem dX1_takeIfDue_19 : decode cX1_takeIfDue 19 = .ok (.goto 4, 3) := by decide +kernel
theorem dX1_takeIfDue_22 : decode cX1_takeIfDue 22 = .ok (.iconst 0, 1) := by decide +kernel
theorem dX1_takeIfDue_23 : decode cX1_takeIfDue 23 = .ok (.istore_n 2, 1) := by decide +kernel
theorem dX1_takeIfDue_24 : decode cX1_takeIfDue 24 = .ok (.iload_n 2, 1) := by decide +kernel
theorem dX1_takeIfDue_25 : decode cX1_takeIfDue 25 = .ok (.ifCond .eq 10, 3) := by decide +kernel
theorem dX1_takeIfDue_28 : decode cX1_takeIfDue 28 = .ok (.aload_n 0, 1) := by decide +kernel
theorem dX1_takeIfDue_29 : decode cX1_takeIfDue 29 = .ok (.getfield 43, 3) := by decide +kernel
theorem dX1_takeIfDue_32 : decode cX1_takeIfDue 32 = .ok (.ifCond .gt 4, 3) := by decide +kernel
theorem dX1_takeIfDue_35 : decode cX1_takeIfDue 35 = .ok (.return_, 1) := by decide +kernel
theorem dX1_takeIfDue_36 : decode cX1_takeIfDue 36 = .ok (.iconst 1, 1) := by decide +kernel
theorem dX1_takeIfDue_37 : decode cX1_takeIfDue 37 = .ok (.istore_n 3, 1) := by decide +kernel
theorem dX1_takeIfDue_38 : decode cX1_takeIfDue 38 = .ok (.iload_n 3, 1) := by decide +kernel
theorem dX1_takeIfDue_39 : decode cX1_takeIfDue 39 = .ok (.aload_n 0, 1) := by decide +kernel
theorem dX1_takeIfDue_40 : decode cX1_takeIfDue 40 = .ok (.getfield 43, 3) := by decide +kernel
theorem dX1_takeIfDue_43 : decode cX1_takeIfDue 43 = .ok (.if_icmp .ge 23, 3) := by decide +kernel
theorem dX1_takeIfDue_46 : decode cX1_takeIfDue 46 = .ok (.aload_n 0, 1) := by decide +kernel
theorem dX1_takeIfDue_47 : decode cX1_takeIfDue 47 = .ok (.getfield 39, 3) := by decide +kernel
theorem dX1_takeIfDue_50 : decode cX1_takeIfDue 50 = .ok (.iload_n 3, 1) := by decide +kernel
theorem dX1_takeIfDue_51 : decode cX1_takeIfDue 51 = .ok (.iconst 1, 1) := by decide +kernel
theorem dX1_takeIfDue_52 : decode cX1_takeIfDue 52 = .ok (.isub, 1) := by decide +kernel
theorem dX1_takeIfDue_53 : decode cX1_takeIfDue 53 = .ok (.aload_n 0, 1) := by decide +kernel
theorem dX1_takeIfDue_54 : decode cX1_takeIfDue 54 = .ok (.getfield 39, 3) := by decide +kernel
theorem dX1_takeIfDue_57 : decode cX1_takeIfDue 57 = .ok (.iload_n 3, 1) := by decide +kernel
theorem dX1_takeIfDue_58 : decode cX1_takeIfDue 58 = .ok (.iaload, 1) := by decide +kernel
theorem dX1_takeIfDue_59 : decode cX1_takeIfDue 59 = .ok (.iastore, 1) := by decide +kernel
theorem dX1_takeIfDue_60 : decode cX1_takeIfDue 60 = .ok (.iinc 3 1, 3) := by decide +kernel
theorem dX1_takeIfDue_63 : decode cX1_takeIfDue 63 = .ok (.goto (-25), 3) := by decide +kernel
theorem dX1_takeIfDue_66 : decode cX1_takeIfDue 66 = .ok (.aload_n 0, 1) := by decide +kernel
theorem dX1_takeIfDue_67 : decode cX1_takeIfDue 67 = .ok (.dup, 1) := by decide +kernel
theorem dX1_takeIfDue_68 : decode cX1_takeIfDue 68 = .ok (.getfield 43, 3) := by decide +kernel
theorem dX1_takeIfDue_71 : decode cX1_takeIfDue 71 = .ok (.iconst 1, 1) := by decide +kernel
theorem dX1_takeIfDue_72 : decode cX1_takeIfDue 72 = .ok (.isub, 1) := by decide +kernel
theorem dX1_takeIfDue_73 : decode cX1_takeIfDue 73 = .ok (.putfield 43, 3) := by decide +kernel
theorem dX1_takeIfDue_76 : decode cX1_takeIfDue 76 = .ok (.aload_n 0, 1) := by decide +kernel
theorem dX1_takeIfDue_77 : decode cX1_takeIfDue 77 = .ok (.dup, 1) := by decide +kernel
theorem dX1_takeIfDue_78 : decode cX1_takeIfDue 78 = .ok (.getfield 30, 3) := by decide +kernel
theorem dX1_takeIfDue_81 : decode cX1_takeIfDue 81 = .ok (.iconst 1, 1) := by decide +kernel
theorem dX1_takeIfDue_82 : decode cX1_takeIfDue 82 = .ok (.iadd, 1) := by decide +kernel
theorem dX1_takeIfDue_83 : decode cX1_takeIfDue 83 = .ok (.putfield 30, 3) := by decide +kernel
theorem dX1_takeIfDue_86 : decode cX1_takeIfDue 86 = .ok (.aload_n 0, 1) := by decide +kernel
theorem dX1_takeIfDue_87 : decode cX1_takeIfDue 87 = .ok (.iload_n 1, 1) := by decide +kernel
theorem dX1_takeIfDue_88 : decode cX1_takeIfDue 88 = .ok (.aload_n 0, 1) := by decide +kernel
theorem dX1_takeIfDue_89 : decode cX1_takeIfDue 89 = .ok (.getfield 18, 3) := by decide +kernel
theorem dX1_takeIfDue_92 : decode cX1_takeIfDue 92 = .ok (.iadd, 1) := by decide +kernel
theorem dX1_takeIfDue_93 : decode cX1_takeIfDue 93 = .ok (.invokevirtual 69, 3) := by decide +kernel
theorem dX1_takeIfDue_96 : decode cX1_takeIfDue 96 = .ok (.return_, 1) := by decide +kernel
theorem dX1_sendCreditBack_0 : decode cX1_sendCreditBack 0 = .ok (.aload_n 0, 1) := by decide +kernel
theorem dX1_sendCreditBack_1 : decode cX1_sendCreditBack 1 = .ok (.getfield 49, 3) := by decide +kernel
theorem dX1_sendCreditBack_4 : decode cX1_sendCreditBack 4 = .ok (.bipush 6, 2) := by decide +kernel
theorem dX1_sendCreditBack_6 : decode cX1_sendCreditBack 6 = .ok (.if_icmp .lt 4, 3) := by decide +kernel
theorem dX1_sendCreditBack_9 : decode cX1_sendCreditBack 9 = .ok (.return_, 1) := by decide +kernel
theorem dX1_sendCreditBack_10 : decode cX1_sendCreditBack 10 = .ok (.aload_n 0, 1) := by decide +kernel
theorem dX1_sendCreditBack_11 : decode cX1_sendCreditBack 11 = .ok (.getfield 49, 3) := by decide +kernel
theorem dX1_sendCreditBack_14 : decode cX1_sendCreditBack 14 = .ok (.istore_n 2, 1) := by decide +kernel
theorem dX1_sendCreditBack_15 : decode cX1_sendCreditBack 15 = .ok (.iload_n 2, 1) := by decide +kernel
theorem dX1_sendCreditBack_16 : decode cX1_sendCreditBack 16 = .ok (.ifCond .le 35, 3) := by decide +kernel
theorem dX1_sendCreditBack_19 : decode cX1_sendCreditBack 19 = .ok (.aload_n 0, 1) := by decide +kernel
theorem dX1_sendCreditBack_20 : decode cX1_sendCreditBack 20 = .ok (.getfield 46, 3) := by decide +kernel
theorem dX1_sendCreditBack_23 : decode cX1_sendCreditBack 23 = .ok (.iload_n 2, 1) := by decide +kernel
theorem dX1_sendCreditBack_24 : decode cX1_sendCreditBack 24 = .ok (.iconst 1, 1) := by decide +kernel
theorem dX1_sendCreditBack_25 : decode cX1_sendCreditBack 25 = .ok (.isub, 1) := by decide +kernel
theorem dX1_sendCreditBack_26 : decode cX1_sendCreditBack 26 = .ok (.iaload, 1) := by decide +kernel
theorem dX1_sendCreditBack_27 : decode cX1_sendCreditBack 27 = .ok (.iload_n 1, 1) := by decide +kernel
theorem dX1_sendCreditBack_28 : decode cX1_sendCreditBack 28 = .ok (.if_icmp .le 23, 3) := by decide +kernel
theorem dX1_sendCreditBack_31 : decode cX1_sendCreditBack 31 = .ok (.aload_n 0, 1) := by decide +kernel
theorem dX1_sendCreditBack_32 : decode cX1_sendCreditBack 32 = .ok (.getfield 46, 3) := by decide +kernel
theorem dX1_sendCreditBack_35 : decode cX1_sendCreditBack 35 = .ok (.iload_n 2, 1) := by decide +kernel
theorem dX1_sendCreditBack_36 : decode cX1_sendCreditBack 36 = .ok (.aload_n 0, 1) := by decide +kernel
theorem dX1_sendCreditBack_37 : decode cX1_sendCreditBack 37 = .ok (.getfield 46, 3) := by decide +kernel
theorem dX1_sendCreditBack_40 : decode cX1_sendCreditBack 40 = .ok (.iload_n 2, 1) := by decide +kernel
theorem dX1_sendCreditBack_41 : decode cX1_sendCreditBack 41 = .ok (.iconst 1, 1) := by decide +kernel
theorem dX1_sendCreditBack_42 : decode cX1_sendCreditBack 42 = .ok (.isub, 1) := by decide +kernel
theorem dX1_sendCreditBack_43 : decode cX1_sendCreditBack 43 = .ok (.iaload, 1) := by decide +kernel
theorem dX1_sendCreditBack_44 : decode cX1_sendCreditBack 44 = .ok (.iastore, 1) := by decide +kernel
theorem dX1_sendCreditBack_45 : decode cX1_sendCreditBack 45 = .ok (.iinc 2 (-1), 3) := by decide +kernel
theorem dX1_sendCreditBack_48 : decode cX1_sendCreditBack 48 = .ok (.goto (-33), 3) := by decide +kernel
theorem dX1_sendCreditBack_51 : decode cX1_sendCreditBack 51 = .ok (.aload_n 0, 1) := by decide +kernel
theorem dX1_sendCreditBack_52 : decode cX1_sendCreditBack 52 = .ok (.getfield 46, 3) := by decide +kernel
theorem dX1_sendCreditBack_55 : decode cX1_sendCreditBack 55 = .ok (.iload_n 2, 1) := by decide +kernel
theorem dX1_sendCreditBack_56 : decode cX1_sendCreditBack 56 = .ok (.iload_n 1, 1) := by decide +kernel
theorem dX1_sendCreditBack_57 : decode cX1_sendCreditBack 57 = .ok (.iastore, 1) := by decide +kernel
theorem dX1_sendCreditBack_58 : decode cX1_sendCreditBack 58 = .ok (.aload_n 0, 1) := by decide +kernel
theorem dX1_sendCreditBack_59 : decode cX1_sendCreditBack 59 = .ok (.dup, 1) := by decide +kernel
theorem dX1_sendCreditBack_60 : decode cX1_sendCreditBack 60 = .ok (.getfield 49, 3) := by decide +kernel
theorem dX1_sendCreditBack_63 : decode cX1_sendCreditBack 63 = .ok (.iconst 1, 1) := by decide +kernel
theorem dX1_sendCreditBack_64 : decode cX1_sendCreditBack 64 = .ok (.iadd, 1) := by decide +kernel
theorem dX1_sendCreditBack_65 : decode cX1_sendCreditBack 65 = .ok (.putfield 49, 3) := by decide +kernel
theorem dX1_sendCreditBack_68 : decode cX1_sendCreditBack 68 = .ok (.return_, 1) := by decide +kernel
theorem dX1_figure_0 : decode cX1_figure 0 = .ok (.iload_n 1, 1) := by decide +kernel
theorem dX1_figure_1 : decode cX1_figure 1 = .ok (.tableswitch 129 0 11 #[63, 68, 73, 78, 86, 91, 96, 104, 109, 114, 119, 124], 63) := by decide +kernel
theorem dX1_figure_64 : decode cX1_figure 64 = .ok (.aload_n 0, 1) := by decide +kernel
theorem dX1_figure_65 : decode cX1_figure 65 = .ok (.getfield 9, 3) := by decide +kernel
theorem dX1_figure_68 : decode cX1_figure 68 = .ok (.ireturn, 1) := by decide +kernel
theorem dX1_figure_69 : decode cX1_figure 69 = .ok (.aload_n 0, 1) := by decide +kernel
theorem dX1_figure_70 : decode cX1_figure 70 = .ok (.getfield 15, 3) := by decide +kernel
theorem dX1_figure_73 : decode cX1_figure 73 = .ok (.ireturn, 1) := by decide +kernel
theorem dX1_figure_74 : decode cX1_figure 74 = .ok (.aload_n 0, 1) := by decide +kernel
theorem dX1_figure_75 : decode cX1_figure 75 = .ok (.getfield 18, 3) := by decide +kernel
theorem dX1_figure_78 : decode cX1_figure 78 = .ok (.ireturn, 1) := by decide +kernel
theorem dX1_figure_79 : decode cX1_figure 79 = .ok (.aload_n 0, 1) := by decide +kernel
theorem dX1_figure_80 : decode cX1_figure 80 = .ok (.getfield 21, 3) := by decide +kernel
theorem dX1_figure_83 : decode cX1_figure 83 = .ok (.bipush 100, 2) := by decide +kernel
theorem dX1_figure_85 : decode cX1_figure 85 = .ok (.iadd, 1) := by decide +kernel
theorem dX1_figure_86 : decode cX1_figure 86 = .ok (.ireturn, 1) := by decide +kernel
theorem dX1_figure_87 : decode cX1_figure 87 = .ok (.aload_n 0, 1) := by decide +kernel
theorem dX1_figure_88 : decode cX1_figure 88 = .ok (.getfield 43, 3) := by decide +kernel
theorem dX1_figure_91 : decode cX1_figure 91 = .ok (.ireturn, 1) := by decide +kernel
theorem dX1_figure_92 : decode cX1_figure 92 = .ok (.aload_n 0, 1) := by decide +kernel
theorem dX1_figure_93 : decode cX1_figure 93 = .ok (.getfield 49, 3) := by decide +kernel
theorem dX1_figure_96 : decode cX1_figure 96 = .ok (.ireturn, 1) := by decide +kernel
theorem dX1_figure_97 : decode cX1_figure 97 = .ok (.aload_n 0, 1) := by decide +kernel
theorem dX1_figure_98 : decode cX1_figure 98 = .ok (.invokevirtual 58, 3) := by decide +kernel
theorem dX1_figure_101 : decode cX1_figure 101 = .ok (.bipush 100, 2) := by decide +kernel
theorem dX1_figure_103 : decode cX1_figure 103 = .ok (.iadd, 1) := by decide +kernel
theorem dX1_figure_104 : decode cX1_figure 104 = .ok (.ireturn, 1) := by decide +kernel
theorem dX1_figure_105 : decode cX1_figure 105 = .ok (.aload_n 0, 1) := by decide +kernel
theorem dX1_figure_106 : decode cX1_figure 106 = .ok (.getfield 24, 3) := by decide +kernel
theorem dX1_figure_109 : decode cX1_figure 109 = .ok (.ireturn, 1) := by decide +kernel
theorem dX1_figure_110 : decode cX1_figure 110 = .ok (.aload_n 0, 1) := by decide +kernel
theorem dX1_figure_111 : decode cX1_figure 111 = .ok (.getfield 27, 3) := by decide +kernel
theorem dX1_figure_114 : decode cX1_figure 114 = .ok (.ireturn, 1) := by decide +kernel
theorem dX1_figure_115 : decode cX1_figure 115 = .ok (.aload_n 0, 1) := by decide +kernel
theorem dX1_figure_116 : decode cX1_figure 116 = .ok (.getfield 30, 3) := by decide +kernel
theorem dX1_figure_119 : decode cX1_figure 119 = .ok (.ireturn, 1) := by decide +kernel
theorem dX1_figure_120 : decode cX1_figure 120 = .ok (.aload_n 0, 1) := by decide +kernel
theorem dX1_figure_121 : decode cX1_figure 121 = .ok (.getfield 33, 3) := by decide +kernel
theorem dX1_figure_124 : decode cX1_figure 124 = .ok (.ireturn, 1) := by decide +kernel
theorem dX1_figure_125 : decode cX1_figure 125 = .ok (.aload_n 0, 1) := by decide +kernel
theorem dX1_figure_126 : decode cX1_figure 126 = .ok (.getfield 36, 3) := by decide +kernel
theorem dX1_figure_129 : decode cX1_figure 129 = .ok (.ireturn, 1) := by decide +kernel
theorem dX1_figure_130 : decode cX1_figure 130 = .ok (.bipush (-2), 2) := by decide +kernel
theorem dX1_figure_132 : decode cX1_figure 132 = .ok (.ireturn, 1) := by decide +kernel
theorem dX2_init_0 : decode cX2_init 0 = .ok (.aload_n 0, 1) := by decide +kernel
theorem dX2_init_1 : decode cX2_init 1 = .ok (.invokespecial 3, 3) := by decide +kernel
theorem dX2_init_4 : decode cX2_init 4 = .ok (.aload_n 0, 1) := by decide +kernel
theorem dX2_init_5 : decode cX2_init 5 = .ok (.bipush 8, 2) := by decide +kernel
theorem dX2_init_7 : decode cX2_init 7 = .ok (.newarray .int, 2) := by decide +kernel
theorem dX2_init_9 : decode cX2_init 9 = .ok (.putfield 9, 3) := by decide +kernel
theorem dX2_init_12 : decode cX2_init 12 = .ok (.aload_n 0, 1) := by decide +kernel
theorem dX2_init_13 : decode cX2_init 13 = .ok (.bipush 8, 2) := by decide +kernel
theorem dX2_init_15 : decode cX2_init 15 = .ok (.newarray .int, 2) := by decide +kernel
theorem dX2_init_17 : decode cX2_init 17 = .ok (.putfield 15, 3) := by decide +kernel
theorem dX2_init_20 : decode cX2_init 20 = .ok (.aload_n 0, 1) := by decide +kernel
theorem dX2_init_21 : decode cX2_init 21 = .ok (.bipush 8, 2) := by decide +kernel
theorem dX2_init_23 : decode cX2_init 23 = .ok (.newarray .int, 2) := by decide +kernel
theorem dX2_init_25 : decode cX2_init 25 = .ok (.putfield 18, 3) := by decide +kernel
theorem dX2_init_28 : decode cX2_init 28 = .ok (.aload_n 0, 1) := by decide +kernel
theorem dX2_init_29 : decode cX2_init 29 = .ok (.iconst 0, 1) := by decide +kernel
theorem dX2_init_30 : decode cX2_init 30 = .ok (.putfield 21, 3) := by decide +kernel
theorem dX2_init_33 : decode cX2_init 33 = .ok (.aload_n 0, 1) := by decide +kernel
theorem dX2_init_34 : decode cX2_init 34 = .ok (.iconst 0, 1) := by decide +kernel
theorem dX2_init_35 : decode cX2_init 35 = .ok (.putfield 25, 3) := by decide +kernel
theorem dX2_init_38 : decode cX2_init 38 = .ok (.aload_n 0, 1) := by decide +kernel
theorem dX2_init_39 : decode cX2_init 39 = .ok (.iconst 0, 1) := by decide +kernel
theorem dX2_init_40 : decode cX2_init 40 = .ok (.putfield 28, 3) := by decide +kernel
theorem dX2_init_43 : decode cX2_init 43 = .ok (.aload_n 0, 1) := by decide +kernel
theorem dX2_init_44 : decode cX2_init 44 = .ok (.iconst 0, 1) := by decide +kernel
theorem dX2_init_45 : decode cX2_init 45 = .ok (.putfield 31, 3) := by decide +kernel
theorem dX2_init_48 : decode cX2_init 48 = .ok (.return_, 1) := by decide +kernel
theorem dX2_copyFrom_0 : decode cX2_copyFrom 0 = .ok (.aload_n 0, 1) := by decide +kernel
theorem dX2_copyFrom_1 : decode cX2_copyFrom 1 = .ok (.aload_n 1, 1) := by decide +kernel
theorem dX2_copyFrom_2 : decode cX2_copyFrom 2 = .ok (.getfield 21, 3) := by decide +kernel
theorem dX2_copyFrom_5 : decode cX2_copyFrom 5 = .ok (.putfield 21, 3) := by decide +kernel
theorem dX2_copyFrom_8 : decode cX2_copyFrom 8 = .ok (.aload_n 0, 1) := by decide +kernel
theorem dX2_copyFrom_9 : decode cX2_copyFrom 9 = .ok (.aload_n 1, 1) := by decide +kernel
theorem dX2_copyFrom_10 : decode cX2_copyFrom 10 = .ok (.getfield 25, 3) := by decide +kernel
theorem dX2_copyFrom_13 : decode cX2_copyFrom 13 = .ok (.putfield 25, 3) := by decide +kernel
theorem dX2_copyFrom_16 : decode cX2_copyFrom 16 = .ok (.aload_n 0, 1) := by decide +kernel
theorem dX2_copyFrom_17 : decode cX2_copyFrom 17 = .ok (.aload_n 1, 1) := by decide +kernel
theorem dX2_copyFrom_18 : decode cX2_copyFrom 18 = .ok (.getfield 28, 3) := by decide +kernel
theorem dX2_copyFrom_21 : decode cX2_copyFrom 21 = .ok (.putfield 28, 3) := by decide +kernel
theorem dX2_copyFrom_24 : decode cX2_copyFrom 24 = .ok (.aload_n 1, 1) := by decide +kernel
theorem dX2_copyFrom_25 : decode cX2_copyFrom 25 = .ok (.getfield 9, 3) := by decide +kernel
theorem dX2_copyFrom_28 : decode cX2_copyFrom 28 = .ok (.iconst 0, 1) := by decide +kernel
theorem dX2_copyFrom_29 : decode cX2_copyFrom 29 = .ok (.aload_n 0, 1) := by decide +kernel
theorem dX2_copyFrom_30 : decode cX2_copyFrom 30 = .ok (.getfield 9, 3) := by decide +kernel
theorem dX2_copyFrom_33 : decode cX2_copyFrom 33 = .ok (.iconst 0, 1) := by decide +kernel
theorem dX2_copyFrom_34 : decode cX2_copyFrom 34 = .ok (.bipush 8, 2) := by decide +kernel
theorem dX2_copyFrom_36 : decode cX2_copyFrom 36 = .ok (.invokestatic 35, 3) := by decide +kernel
theorem dX2_copyFrom_39 : decode cX2_copyFrom 39 = .ok (.aload_n 1, 1) := by decide +kernel
theorem dX2_copyFrom_40 : decode cX2_copyFrom 40 = .ok (.getfield 15, 3) := by decide +kernel
theorem dX2_copyFrom_43 : decode cX2_copyFrom 43 = .ok (.iconst 0, 1) := by decide +kernel
theorem dX2_copyFrom_44 : decode cX2_copyFrom 44 = .ok (.aload_n 0, 1) := by decide +kernel
theorem dX2_copyFrom_45 : decode cX2_copyFrom 45 = .ok (.getfield 15, 3) := by decide +kernel
theorem dX2_copyFrom_48 : decode cX2_copyFrom 48 = .ok (.iconst 0, 1) := by decide +kernel
theorem dX2_copyFrom_49 : decode cX2_copyFrom 49 = .ok (.bipush 8, 2) := by decide +kernel
theorem dX2_copyFrom_51 : decode cX2_copyFrom 51 = .ok (.invokestatic 35, 3) := by decide +kernel
theorem dX2_copyFrom_54 : decode cX2_copyFrom 54 = .ok (.aload_n 1, 1) := by decide +kernel
theorem dX2_copyFrom_55 : decode cX2_copyFrom 55 = .ok (.getfield 18, 3) := by decide +kernel
theorem dX2_copyFrom_58 : decode cX2_copyFrom 58 = .ok (.iconst 0, 1) := by decide +kernel
theorem dX2_copyFrom_59 : decode cX2_copyFrom 59 = .ok (.aload_n 0, 1) := by decide +kernel
theorem dX2_copyFrom_60 : decode cX2_copyFrom 60 = .ok (.getfield 18, 3) := by decide +kernel
theorem dX2_copyFrom_63 : decode cX2_copyFrom 63 = .ok (.iconst 0, 1) := by decide +kernel
theorem dX2_copyFrom_64 : decode cX2_copyFrom 64 = .ok (.bipush 8, 2) := by decide +kernel
theorem dX2_copyFrom_66 : decode cX2_copyFrom 66 = .ok (.invokestatic 35, 3) := by decide +kernel
theorem dX2_copyFrom_69 : decode cX2_copyFrom 69 = .ok (.return_, 1) := by decide +kernel
theorem dX2_isFull_0 : decode cX2_isFull 0 = .ok (.aload_n 0, 1) := by decide +kernel
theorem dX2_isFull_1 : decode cX2_isFull 1 = .ok (.getfield 21, 3) := by decide +kernel
theorem dX2_isFull_4 : decode cX2_isFull 4 = .ok (.bipush 8, 2) := by decide +kernel
theorem dX2_isFull_6 : decode cX2_isFull 6 = .ok (.if_icmp .lt 7, 3) := by decide +kernel
theorem dX2_isFull_9 : decode cX2_isFull 9 = .ok (.iconst 1, 1) := by decide +kernel
theorem dX2_isFull_10 : decode cX2_isFull 10 = .ok (.goto 4, 3) := by decide +kernel
theorem dX2_isFull_13 : decode cX2_isFull 13 = .ok (.iconst 0, 1) := by decide +kernel
theorem dX2_isFull_14 : decode cX2_isFull 14 = .ok (.ireturn, 1) := by decide +kernel
theorem dX2_append_0 : decode cX2_append 0 = .ok (.aload_n 0, 1) := by decide +kernel
theorem dX2_append_1 : decode cX2_append 1 = .ok (.invokevirtual 41, 3) := by decide +kernel
theorem dX2_append_4 : decode cX2_append 4 = .ok (.ifCond .eq 4, 3) := by decide +kernel
theorem dX2_append_7 : decode cX2_append 7 = .ok (.return_, 1) := by decide +kernel
theorem dX2_append_8 : decode cX2_append 8 = .ok (.aload_n 0, 1) := by decide +kernel
theorem dX2_append_9 : decode cX2_append 9 = .ok (.getfield 9, 3) := by decide +kernel
theorem dX2_append_12 : decode cX2_append 12 = .ok (.aload_n 0, 1) := by decide +kernel
theorem dX2_append_13 : decode cX2_append 13 = .ok (.getfield 21, 3) := by decide +kernel
theorem dX2_append_16 : decode cX2_append 16 = .ok (.iload_n 1, 1) := by decide +kernel
theorem dX2_append_17 : decode cX2_append 17 = .ok (.iastore, 1) := by decide +kernel
theorem dX2_append_18 : decode cX2_append 18 = .ok (.aload_n 0, 1) := by decide +kernel
theorem dX2_append_19 : decode cX2_append 19 = .ok (.getfield 15, 3) := by decide +kernel
theorem dX2_append_22 : decode cX2_append 22 = .ok (.aload_n 0, 1) := by decide +kernel
theorem dX2_append_23 : decode cX2_append 23 = .ok (.getfield 21, 3) := by decide +kernel
theorem dX2_append_26 : decode cX2_append 26 = .ok (.iload_n 2, 1) := by decide +kernel
theorem dX2_append_27 : decode cX2_append 27 = .ok (.iastore, 1) := by decide +kernel
theorem dX2_append_28 : decode cX2_append 28 = .ok (.aload_n 0, 1) := by decide +kernel
theorem dX2_append_29 : decode cX2_append 29 = .ok (.getfield 18, 3) := by decide +kernel
theorem dX2_append_32 : decode cX2_append 32 = .ok (.aload_n 0, 1) := by decide +kernel
theorem dX2_append_33 : decode cX2_append 33 = .ok (.getfield 21, 3) := by decide +kernel
theorem dX2_append_36 : decode cX2_append 36 = .ok (.iload_n 3, 1) := by decide +kernel
theorem dX2_append_37 : decode cX2_append 37 = .ok (.iastore, 1) := by decide +kernel
theorem dX2_append_38 : decode cX2_append 38 = .ok (.aload_n 0, 1) := by decide +kernel
theorem dX2_append_39 : decode cX2_append 39 = .ok (.dup, 1) := by decide +kernel
theorem dX2_append_40 : decode cX2_append 40 = .ok (.getfield 21, 3) := by decide +kernel
theorem dX2_append_43 : decode cX2_append 43 = .ok (.iconst 1, 1) := by decide +kernel
theorem dX2_append_44 : decode cX2_append 44 = .ok (.iadd, 1) := by decide +kernel
theorem dX2_append_45 : decode cX2_append 45 = .ok (.putfield 21, 3) := by decide +kernel
theorem dX2_append_48 : decode cX2_append 48 = .ok (.return_, 1) := by decide +kernel
theorem dX2_offerFor_0 : decode cX2_offerFor 0 = .ok (.aload_n 0, 1) := by decide +kernel
theorem dX2_offerFor_1 : decode cX2_offerFor 1 = .ok (.getfield 31, 3) := by decide +kernel
theorem dX2_offerFor_4 : decode cX2_offerFor 4 = .ok (.ifCond .eq 5, 3) := by decide +kernel
theorem dX2_offerFor_7 : decode cX2_offerFor 7 = .ok (.iconst (-1), 1) := by decide +kernel
theorem dX2_offerFor_8 : decode cX2_offerFor 8 = .ok (.ireturn, 1) := by decide +kernel
theorem dX2_offerFor_9 : decode cX2_offerFor 9 = .ok (.iload_n 2, 1) := by decide +kernel
theorem dX2_offerFor_10 : decode cX2_offerFor 10 = .ok (.ifCond .ne 14, 3) := by decide +kernel
theorem dX2_offerFor_13 : decode cX2_offerFor 13 = .ok (.aload_n 0, 1) := by decide +kernel
theorem dX2_offerFor_14 : decode cX2_offerFor 14 = .ok (.getfield 21, 3) := by decide +kernel
theorem dX2_offerFor_17 : decode cX2_offerFor 17 = .ok (.iconst 1, 1) := by decide +kernel
theorem dX2_offerFor_18 : decode cX2_offerFor 18 = .ok (.invokestatic 45, 3) := by decide +kernel
theorem dX2_offerFor_21 : decode cX2_offerFor 21 = .ok (.goto 7, 3) := by decide +kernel
theorem dX2_offerFor_24 : decode cX2_offerFor 24 = .ok (.aload_n 0, 1) := by decide +kernel
theorem dX2_offerFor_25 : decode cX2_offerFor 25 = .ok (.getfield 21, 3) := by decide +kernel
theorem dX2_offerFor_28 : decode cX2_offerFor 28 = .ok (.istore_n 3, 1) := by decide +kernel
theorem dX2_offerFor_29 : decode cX2_offerFor 29 = .ok (.iconst 0, 1) := by decide +kernel
theorem dX2_offerFor_30 : decode cX2_offerFor 30 = .ok (.istore 4, 2) := by decide +kernel
theorem dX2_offerFor_32 : decode cX2_offerFor 32 = .ok (.iload 4, 2) := by decide +kernel
theorem dX2_offerFor_34 : decode cX2_offerFor 34 = .ok (.iload_n 3, 1) := by decide +kernel
theorem dX2_offerFor_35 : decode cX2_offerFor 35 = .ok (.if_icmp .ge 23, 3) := by decide +kernel
theorem dX2_offerFor_38 : decode cX2_offerFor 38 = .ok (.aload_n 0, 1) := by decide +kernel
theorem dX2_offerFor_39 : decode cX2_offerFor 39 = .ok (.getfield 15, 3) := by decide +kernel
theorem dX2_offerFor_42 : decode cX2_offerFor 42 = .ok (.iload 4, 2) := by decide +kernel
theorem dX2_offerFor_44 : decode cX2_offerFor 44 = .ok (.iaload, 1) := by decide +kernel
theorem dX2_offerFor_45 : decode cX2_offerFor 45 = .ok (.iload_n 1, 1) := by decide +kernel
theorem dX2_offerFor_46 : decode cX2_offerFor 46 = .ok (.if_icmp .ne 6, 3) := by decide +kernel
theorem dX2_offerFor_49 : decode cX2_offerFor 49 = .ok (.iload 4, 2) := by decide +kernel
theorem dX2_offerFor_51 : decode cX2_offerFor 51 = .ok (.ireturn, 1) := by decide +kernel
theorem dX2_offerFor_52 : decode cX2_offerFor 52 = .ok (.iinc 4 1, 3) := by decide +kernel
theorem dX2_offerFor_55 : decode cX2_offerFor 55 = .ok (.goto (-23), 3) := by decide +kernel
theorem dX2_offerFor_58 : decode cX2_offerFor 58 = .ok (.iconst (-1), 1) := by decide +kernel
theorem dX2_offerFor_59 : decode cX2_offerFor 59 = .ok (.ireturn, 1) := by decide +kernel
theorem dX2_sendFrom_0 : decode cX2_sendFrom 0 = .ok (.aload_n 0, 1) := by decide +kernel
theorem dX2_sendFrom_1 : decode cX2_sendFrom 1 = .ok (.getfield 9, 3) := by decide +kernel
theorem dX2_sendFrom_4 : decode cX2_sendFrom 4 = .ok (.iload_n 1, 1) := by decide +kernel
theorem dX2_sendFrom_5 : decode cX2_sendFrom 5 = .ok (.iaload, 1) := by decide +kernel
theorem dX2_sendFrom_6 : decode cX2_sendFrom 6 = .ok (.istore_n 2, 1) := by decide +kernel
theorem dX2_sendFrom_7 : decode cX2_sendFrom 7 = .ok (.iload_n 1, 1) := by decide +kernel
theorem dX2_sendFrom_8 : decode cX2_sendFrom 8 = .ok (.iconst 1, 1) := by decide +kernel
theorem dX2_sendFrom_9 : decode cX2_sendFrom 9 = .ok (.iadd, 1) := by decide +kernel
theorem dX2_sendFrom_10 : decode cX2_sendFrom 10 = .ok (.istore_n 3, 1) := by decide +kernel
theorem dX2_sendFrom_11 : decode cX2_sendFrom 11 = .ok (.iload_n 3, 1) := by decide +kernel
theorem dX2_sendFrom_12 : decode cX2_sendFrom 12 = .ok (.aload_n 0, 1) := by decide +kernel
theorem dX2_sendFrom_13 : decode cX2_sendFrom 13 = .ok (.getfield 21, 3) := by decide +kernel
theorem dX2_sendFrom_16 : decode cX2_sendFrom 16 = .ok (.if_icmp .ge 51, 3) := by decide +kernel
theorem dX2_sendFrom_19 : decode cX2_sendFrom 19 = .ok (.aload_n 0, 1) := by decide +kernel
theorem dX2_sendFrom_20 : decode cX2_sendFrom 20 = .ok (.getfield 9, 3) := by decide +kernel
theorem dX2_sendFrom_23 : decode cX2_sendFrom 23 = .ok (.iload_n 3, 1) := by decide +kernel
theorem dX2_sendFrom_24 : decode cX2_sendFrom 24 = .ok (.iconst 1, 1) := by decide +kernel
theorem dX2_sendFrom_25 : decode cX2_sendFrom 25 = .ok (.isub, 1) := by decide +kernel
theorem dX2_sendFrom_26 : decode cX2_sendFrom 26 = .ok (.aload_n 0, 1) := by decide +kernel
theorem dX2_sendFrom_27 : decode cX2_sendFrom 27 = .ok (.getfield 9, 3) := by decide +kernel
theorem dX2_sendFrom_30 : decode cX2_sendFrom 30 = .ok (.iload_n 3, 1) := by decide +kernel
theorem dX2_sendFrom_31 : decode cX2_sendFrom 31 = .ok (.iaload, 1) := by decide +kernel
theorem dX2_sendFrom_32 : decode cX2_sendFrom 32 = .ok (.iastore, 1) := by decide +kernel
theorem dX2_sendFrom_33 : decode cX2_sendFrom 33 = .ok (.aload_n 0, 1) := by decide +kernel
theorem dX2_sendFrom_34 : decode cX2_sendFrom 34 = .ok (.getfield 15, 3) := by decide +kernel
theorem dX2_sendFrom_37 : decode cX2_sendFrom 37 = .ok (.iload_n 3, 1) := by decide +kernel
theorem dX2_sendFrom_38 : decode cX2_sendFrom 38 = .ok (.iconst 1, 1) := by decide +kernel
theorem dX2_sendFrom_39 : decode cX2_sendFrom 39 = .ok (.isub, 1) := by decide +kernel
theorem dX2_sendFrom_40 : decode cX2_sendFrom 40 = .ok (.aload_n 0, 1) := by decide +kernel
theorem dX2_sendFrom_41 : decode cX2_sendFrom 41 = .ok (.getfield 15, 3) := by decide +kernel
theorem dX2_sendFrom_44 : decode cX2_sendFrom 44 = .ok (.iload_n 3, 1) := by decide +kernel
theorem dX2_sendFrom_45 : decode cX2_sendFrom 45 = .ok (.iaload, 1) := by decide +kernel
theorem dX2_sendFrom_46 : decode cX2_sendFrom 46 = .ok (.iastore, 1) := by decide +kernel
theorem dX2_sendFrom_47 : decode cX2_sendFrom 47 = .ok (.aload_n 0, 1) := by decide +kernel
theorem dX2_sendFrom_48 : decode cX2_sendFrom 48 = .ok (.getfield 18, 3) := by decide +kernel
theorem dX2_sendFrom_51 : decode cX2_sendFrom 51 = .ok (.iload_n 3, 1) := by decide +kernel
theorem dX2_sendFrom_52 : decode cX2_sendFrom 52 = .ok (.iconst 1, 1) := by decide +kernel
theorem dX2_sendFrom_53 : decode cX2_sendFrom 53 = .ok (.isub, 1) := by decide +kernel
theorem dX2_sendFrom_54 : decode cX2_sendFrom 54 = .ok (.aload_n 0, 1) := by decide +kernel
theorem dX2_sendFrom_55 : decode cX2_sendFrom 55 = .ok (.getfield 18, 3) := by decide +kernel
theorem dX2_sendFrom_58 : decode cX2_sendFrom 58 = .ok (.iload_n 3, 1) := by decide +kernel
theorem dX2_sendFrom_59 : decode cX2_sendFrom 59 = .ok (.iaload, 1) := by decide +kernel
theorem dX2_sendFrom_60 : decode cX2_sendFrom 60 = .ok (.iastore, 1) := by decide +kernel
theorem dX2_sendFrom_61 : decode cX2_sendFrom 61 = .ok (.iinc 3 1, 3) := by decide +kernel
theorem dX2_sendFrom_64 : decode cX2_sendFrom 64 = .ok (.goto (-53), 3) := by decide +kernel
theorem dX2_sendFrom_67 : decode cX2_sendFrom 67 = .ok (.aload_n 0, 1) := by decide +kernel
theorem dX2_sendFrom_68 : decode cX2_sendFrom 68 = .ok (.dup, 1) := by decide +kernel
theorem dX2_sendFrom_69 : decode cX2_sendFrom 69 = .ok (.getfield 21, 3) := by decide +kernel
theorem dX2_sendFrom_72 : decode cX2_sendFrom 72 = .ok (.iconst 1, 1) := by decide +kernel
theorem dX2_sendFrom_73 : decode cX2_sendFrom 73 = .ok (.isub, 1) := by decide +kernel
theorem dX2_sendFrom_74 : decode cX2_sendFrom 74 = .ok (.putfield 21, 3) := by decide +kernel
theorem dX2_sendFrom_77 : decode cX2_sendFrom 77 = .ok (.aload_n 0, 1) := by decide +kernel
theorem dX2_sendFrom_78 : decode cX2_sendFrom 78 = .ok (.dup, 1) := by decide +kernel
theorem dX2_sendFrom_79 : decode cX2_sendFrom 79 = .ok (.getfield 28, 3) := by decide +kernel
theorem dX2_sendFrom_82 : decode cX2_sendFrom 82 = .ok (.iconst 1, 1) := by decide +kernel
theorem dX2_sendFrom_83 : decode cX2_sendFrom 83 = .ok (.iadd, 1) := by decide +kernel
theorem dX2_sendFrom_84 : decode cX2_sendFrom 84 = .ok (.putfield 28, 3) := by decide +kernel
theorem dX2_sendFrom_87 : decode cX2_sendFrom 87 = .ok (.aload_n 0, 1) := by decide +kernel
theorem dX2_sendFrom_88 : decode cX2_sendFrom 88 = .ok (.iconst 1, 1) := by decide +kernel
theorem dX2_sendFrom_89 : decode cX2_sendFrom 89 = .ok (.putfield 31, 3) := by decide +kernel
theorem dX2_sendFrom_92 : decode cX2_sendFrom 92 = .ok (.iload_n 2, 1) := by decide +kernel
theorem dX2_sendFrom_93 : decode cX2_sendFrom 93 = .ok (.ireturn, 1) := by decide +kernel
theorem dX2_countBlocked_0 : decode cX2_countBlocked 0 = .ok (.aload_n 0, 1) := by decide +kernel
theorem dX2_countBlocked_1 : decode cX2_countBlocked 1 = .ok (.getfield 21, 3) := by decide +kernel
theorem dX2_countBlocked_4 : decode cX2_countBlocked 4 = .ok (.ifCond .le 20, 3) := by decide +kernel
theorem dX2_countBlocked_7 : decode cX2_countBlocked 7 = .ok (.aload_n 0, 1) := by decide +kernel
theorem dX2_countBlocked_8 : decode cX2_countBlocked 8 = .ok (.getfield 31, 3) := by decide +kernel
theorem dX2_countBlocked_11 : decode cX2_countBlocked 11 = .ok (.ifCond .ne 13, 3) := by decide +kernel
theorem dX2_countBlocked_14 : decode cX2_countBlocked 14 = .ok (.aload_n 0, 1) := by decide +kernel
theorem dX2_countBlocked_15 : decode cX2_countBlocked 15 = .ok (.dup, 1) := by decide +kernel
theorem dX2_countBlocked_16 : decode cX2_countBlocked 16 = .ok (.getfield 25, 3) := by decide +kernel
theorem dX2_countBlocked_19 : decode cX2_countBlocked 19 = .ok (.iconst 1, 1) := by decide +kernel
theorem dX2_countBlocked_20 : decode cX2_countBlocked 20 = .ok (.iadd, 1) := by decide +kernel
theorem dX2_countBlocked_21 : decode cX2_countBlocked 21 = .ok (.putfield 25, 3) := by decide +kernel
theorem dX2_countBlocked_24 : decode cX2_countBlocked 24 = .ok (.return_, 1) := by decide +kernel
theorem dX2_waitingFor_0 : decode cX2_waitingFor 0 = .ok (.iconst 0, 1) := by decide +kernel
theorem dX2_waitingFor_1 : decode cX2_waitingFor 1 = .ok (.istore_n 2, 1) := by decide +kernel
theorem dX2_waitingFor_2 : decode cX2_waitingFor 2 = .ok (.iconst 0, 1) := by decide +kernel
theorem dX2_waitingFor_3 : decode cX2_waitingFor 3 = .ok (.istore_n 3, 1) := by decide +kernel
theorem dX2_waitingFor_4 : decode cX2_waitingFor 4 = .ok (.iload_n 3, 1) := by decide +kernel
theorem dX2_waitingFor_5 : decode cX2_waitingFor 5 = .ok (.aload_n 0, 1) := by decide +kernel
theorem dX2_waitingFor_6 : decode cX2_waitingFor 6 = .ok (.getfield 21, 3) := by decide +kernel
theorem dX2_waitingFor_9 : decode cX2_waitingFor 9 = .ok (.if_icmp .ge 22, 3) := by decide +kernel
theorem dX2_waitingFor_12 : decode cX2_waitingFor 12 = .ok (.aload_n 0, 1) := by decide +kernel
theorem dX2_waitingFor_13 : decode cX2_waitingFor 13 = .ok (.getfield 15, 3) := by decide +kernel
theorem dX2_waitingFor_16 : decode cX2_waitingFor 16 = .ok (.iload_n 3, 1) := by decide +kernel
theorem dX2_waitingFor_17 : decode cX2_waitingFor 17 = .ok (.iaload, 1) := by decide +kernel
theorem dX2_waitingFor_18 : decode cX2_waitingFor 18 = .ok (.iload_n 1, 1) := by decide +kernel
theorem dX2_waitingFor_19 : decode cX2_waitingFor 19 = .ok (.if_icmp .ne 6, 3) := by decide +kernel
theorem dX2_waitingFor_22 : decode cX2_waitingFor 22 = .ok (.iinc 2 1, 3) := by decide +kernel
theorem dX2_waitingFor_25 : decode cX2_waitingFor 25 = .ok (.iinc 3 1, 3) := by decide +kernel
theorem dX2_waitingFor_28 : decode cX2_waitingFor 28 = .ok (.goto (-24), 3) := by decide +kernel
theorem dX2_waitingFor_31 : decode cX2_waitingFor 31 = .ok (.iload_n 2, 1) := by decide +kernel
theorem dX2_waitingFor_32 : decode cX2_waitingFor 32 = .ok (.ireturn, 1) := by decide +kernel
theorem dX2_holds_0 : decode cX2_holds 0 = .ok (.iconst 0, 1) := by decide +kernel
theorem dX2_holds_1 : decode cX2_holds 1 = .ok (.istore_n 2, 1) := by decide +kernel
theorem dX2_holds_2 : decode cX2_holds 2 = .ok (.iload_n 2, 1) := by decide +kernel
theorem dX2_holds_3 : decode cX2_holds 3 = .ok (.aload_n 0, 1) := by decide +kernel
theorem dX2_holds_4 : decode cX2_holds 4 = .ok (.getfield 21, 3) := by decide +kernel
theorem dX2_holds_7 : decode cX2_holds 7 = .ok (.if_icmp .ge 21, 3) := by decide +kernel
theorem dX2_holds_10 : decode cX2_holds 10 = .ok (.aload_n 0, 1) := by decide +kernel
theorem dX2_holds_11 : decode cX2_holds 11 = .ok (.getfield 9, 3) := by decide +kernel
theorem dX2_holds_14 : decode cX2_holds 14 = .ok (.iload_n 2, 1) := by decide +kernel
theorem dX2_holds_15 : decode cX2_holds 15 = .ok (.iaload, 1) := by decide +kernel
theorem dX2_holds_16 : decode cX2_holds 16 = .ok (.iload_n 1, 1) := by decide +kernel
theorem dX2_holds_17 : decode cX2_holds 17 = .ok (.if_icmp .ne 5, 3) := by decide +kernel
theorem dX2_holds_20 : decode cX2_holds 20 = .ok (.iconst 1, 1) := by decide +kernel
theorem dX2_holds_21 : decode cX2_holds 21 = .ok (.ireturn, 1) := by decide +kernel
theorem dX2_holds_22 : decode cX2_holds 22 = .ok (.iinc 2 1, 3) := by decide +kernel
theorem dX2_holds_25 : decode cX2_holds 25 = .ok (.goto (-23), 3) := by decide +kernel
theorem dX2_holds_28 : decode cX2_holds 28 = .ok (.iconst 0, 1) := by decide +kernel
theorem dX2_holds_29 : decode cX2_holds 29 = .ok (.ireturn, 1) := by decide +kernel
theorem dX2_figure_0 : decode cX2_figure 0 = .ok (.iload_n 1, 1) := by decide +kernel
theorem dX2_figure_1 : decode cX2_figure 1 = .ok (.tableswitch 65 0 3 #[31, 36, 41, 46], 31) := by decide +kernel
theorem dX2_figure_32 : decode cX2_figure 32 = .ok (.aload_n 0, 1) := by decide +kernel
theorem dX2_figure_33 : decode cX2_figure 33 = .ok (.getfield 21, 3) := by decide +kernel
theorem dX2_figure_36 : decode cX2_figure 36 = .ok (.ireturn, 1) := by decide +kernel
theorem dX2_figure_37 : decode cX2_figure 37 = .ok (.aload_n 0, 1) := by decide +kernel
theorem dX2_figure_38 : decode cX2_figure 38 = .ok (.getfield 25, 3) := by decide +kernel
theorem dX2_figure_41 : decode cX2_figure 41 = .ok (.ireturn, 1) := by decide +kernel
theorem dX2_figure_42 : decode cX2_figure 42 = .ok (.aload_n 0, 1) := by decide +kernel
theorem dX2_figure_43 : decode cX2_figure 43 = .ok (.getfield 28, 3) := by decide +kernel
theorem dX2_figure_46 : decode cX2_figure 46 = .ok (.ireturn, 1) := by decide +kernel
theorem dX2_figure_47 : decode cX2_figure 47 = .ok (.aload_n 0, 1) := by decide +kernel
theorem dX2_figure_48 : decode cX2_figure 48 = .ok (.getfield 21, 3) := by decide +kernel
theorem dX2_figure_51 : decode cX2_figure 51 = .ok (.ifCond .le 12, 3) := by decide +kernel
theorem dX2_figure_54 : decode cX2_figure 54 = .ok (.aload_n 0, 1) := by decide +kernel
theorem dX2_figure_55 : decode cX2_figure 55 = .ok (.getfield 15, 3) := by decide +kernel
theorem dX2_figure_58 : decode cX2_figure 58 = .ok (.iconst 0, 1) := by decide +kernel
theorem dX2_figure_59 : decode cX2_figure 59 = .ok (.iaload, 1) := by decide +kernel
theorem dX2_figure_60 : decode cX2_figure 60 = .ok (.goto 5, 3) := by decide +kernel
theorem dX2_figure_63 : decode cX2_figure 63 = .ok (.bipush (-5), 2) := by decide +kernel
theorem dX2_figure_65 : decode cX2_figure 65 = .ok (.ireturn, 1) := by decide +kernel
theorem dX2_figure_66 : decode cX2_figure 66 = .ok (.bipush (-2), 2) := by decide +kernel
theorem dX2_figure_68 : decode cX2_figure 68 = .ok (.ireturn, 1) := by decide +kernel
theorem dX2_packetFigure_0 : decode cX2_packetFigure 0 = .ok (.iload_n 1, 1) := by decide +kernel
theorem dX2_packetFigure_1 : decode cX2_packetFigure 1 = .ok (.aload_n 0, 1) := by decide +kernel
theorem dX2_packetFigure_2 : decode cX2_packetFigure 2 = .ok (.getfield 21, 3) := by decide +kernel
theorem dX2_packetFigure_5 : decode cX2_packetFigure 5 = .ok (.if_icmp .lt 6, 3) := by decide +kernel
theorem dX2_packetFigure_8 : decode cX2_packetFigure 8 = .ok (.bipush (-5), 2) := by decide +kernel
theorem dX2_packetFigure_10 : decode cX2_packetFigure 10 = .ok (.ireturn, 1) := by decide +kernel
theorem dX2_packetFigure_11 : decode cX2_packetFigure 11 = .ok (.iload_n 2, 1) := by decide +kernel
theorem dX2_packetFigure_12 : decode cX2_packetFigure 12 = .ok (.lookupswitch 42 #[(0, 28), (1, 35)], 28) := by decide +kernel
theorem dX2_packetFigure_40 : decode cX2_packetFigure 40 = .ok (.aload_n 0, 1) := by decide +kernel
theorem dX2_packetFigure_41 : decode cX2_packetFigure 41 = .ok (.getfield 9, 3) := by decide +kernel
theorem dX2_packetFigure_44 : decode cX2_packetFigure 44 = .ok (.iload_n 1, 1) := by decide +kernel
theorem dX2_packetFigure_45 : decode cX2_packetFigure 45 = .ok (.iaload, 1) := by decide +kernel
theorem dX2_packetFigure_46 : decode cX2_packetFigure 46 = .ok (.ireturn, 1) := by decide +kernel
theorem dX2_packetFigure_47 : decode cX2_packetFigure 47 = .ok (.aload_n 0, 1) := by decide +kernel
theorem dX2_packetFigure_48 : decode cX2_packetFigure 48 = .ok (.getfield 15, 3) := by decide +kernel
theorem dX2_packetFigure_51 : decode cX2_packetFigure 51 = .ok (.iload_n 1, 1) := by decide +kernel
theorem dX2_packetFigure_52 : decode cX2_packetFigure 52 = .ok (.iaload, 1) := by decide +kernel
theorem dX2_packetFigure_53 : decode cX2_packetFigure 53 = .ok (.ireturn, 1) := by decide +kernel
theorem dX2_packetFigure_54 : decode cX2_packetFigure 54 = .ok (.aload_n 0, 1) := by decide +kernel
theorem dX2_packetFigure_55 : decode cX2_packetFigure 55 = .ok (.getfield 18, 3) := by decide +kernel
theorem dX2_packetFigure_58 : decode cX2_packetFigure 58 = .ok (.iload_n 1, 1) := by decide +kernel
theorem dX2_packetFigure_59 : decode cX2_packetFigure 59 = .ok (.iaload, 1) := by decide +kernel
theorem dX2_packetFigure_60 : decode cX2_packetFigure 60 = .ok (.ireturn, 1) := by decide +kernel
end
section
theorem dX3_init_0 : decode cX3_init 0 = .ok (.aload_n 0, 1) := by decide +kernel
theorem dX3_init_1 : decode cX3_init 1 = .ok (.invokespecial 1, 3) := by decide +kernel
theorem dX3_init_4 : decode cX3_init 4 = .ok (.aload_n 0, 1) := by decide +kernel
theorem dX3_init_5 : decode cX3_init 5 = .ok (.new 7, 3) := by decide +kernel
theorem dX3_init_8 : decode cX3_init 8 = .ok (.dup, 1) := by decide +kernel
theorem dX3_init_9 : decode cX3_init 9 = .ok (.invokespecial 9, 3) := by decide +kernel
theorem dX3_init_12 : decode cX3_init 12 = .ok (.putfield 10, 3) := by decide +kernel
theorem dX3_init_15 : decode cX3_init 15 = .ok (.aload_n 0, 1) := by decide +kernel
theorem dX3_init_16 : decode cX3_init 16 = .ok (.new 7, 3) := by decide +kernel
theorem dX3_init_19 : decode cX3_init 19 = .ok (.dup, 1) := by decide +kernel
theorem dX3_init_20 : decode cX3_init 20 = .ok (.invokespecial 9, 3) := by decide +kernel
theorem dX3_init_23 : decode cX3_init 23 = .ok (.putfield 16, 3) := by decide +kernel
theorem dX3_init_26 : decode cX3_init 26 = .ok (.aload_n 0, 1) := by decide +kernel
theorem dX3_init_27 : decode cX3_init 27 = .ok (.new 7, 3) := by decide +kernel
theorem dX3_init_30 : decode cX3_init 30 = .ok (.dup, 1) := by decide +kernel
theorem dX3_init_31 : decode cX3_init 31 = .ok (.invokespecial 9, 3) := by decide +kernel
theorem dX3_init_34 : decode cX3_init 34 = .ok (.putfield 19, 3) := by decide +kernel
theorem dX3_init_37 : decode cX3_init 37 = .ok (.aload_n 0, 1) := by decide +kernel
theorem dX3_init_38 : decode cX3_init 38 = .ok (.iconst 0, 1) := by decide +kernel
theorem dX3_init_39 : decode cX3_init 39 = .ok (.putfield 22, 3) := by decide +kernel
theorem dX3_init_42 : decode cX3_init 42 = .ok (.aload_n 0, 1) := by decide +kernel
theorem dX3_init_43 : decode cX3_init 43 = .ok (.iconst 4, 1) := by decide +kernel
theorem dX3_init_44 : decode cX3_init 44 = .ok (.anewarray 7, 3) := by decide +kernel
theorem dX3_init_47 : decode cX3_init 47 = .ok (.putfield 26, 3) := by decide +kernel
theorem dX3_init_50 : decode cX3_init 50 = .ok (.aload_n 0, 1) := by decide +kernel
theorem dX3_init_51 : decode cX3_init 51 = .ok (.iconst 0, 1) := by decide +kernel
theorem dX3_init_52 : decode cX3_init 52 = .ok (.putfield 30, 3) := by decide +kernel
theorem dX3_init_55 : decode cX3_init 55 = .ok (.aload_n 0, 1) := by decide +kernel
theorem dX3_init_56 : decode cX3_init 56 = .ok (.bipush 60, 2) := by decide +kernel
theorem dX3_init_58 : decode cX3_init 58 = .ok (.newarray .char, 2) := by decide +kernel
theorem dX3_init_60 : decode cX3_init 60 = .ok (.putfield 34, 3) := by decide +kernel
theorem dX3_init_63 : decode cX3_init 63 = .ok (.aload_n 0, 1) := by decide +kernel
theorem dX3_init_64 : decode cX3_init 64 = .ok (.iconst 0, 1) := by decide +kernel
theorem dX3_init_65 : decode cX3_init 65 = .ok (.putfield 38, 3) := by decide +kernel
theorem dX3_init_68 : decode cX3_init 68 = .ok (.iconst 0, 1) := by decide +kernel
theorem dX3_init_69 : decode cX3_init 69 = .ok (.istore_n 1, 1) := by decide +kernel
theorem dX3_init_70 : decode cX3_init 70 = .ok (.iload_n 1, 1) := by decide +kernel
theorem dX3_init_71 : decode cX3_init 71 = .ok (.iconst 4, 1) := by decide +kernel
theorem dX3_init_72 : decode cX3_init 72 = .ok (.if_icmp .ge 22, 3) := by decide +kernel
theorem dX3_init_75 : decode cX3_init 75 = .ok (.aload_n 0, 1) := by decide +kernel
theorem dX3_init_76 : decode cX3_init 76 = .ok (.getfield 26, 3) := by decide +kernel
theorem dX3_init_79 : decode cX3_init 79 = .ok (.iload_n 1, 1) := by decide +kernel
theorem dX3_init_80 : decode cX3_init 80 = .ok (.new 7, 3) := by decide +kernel
theorem dX3_init_83 : decode cX3_init 83 = .ok (.dup, 1) := by decide +kernel
theorem dX3_init_84 : decode cX3_init 84 = .ok (.invokespecial 9, 3) := by decide +kernel
theorem dX3_init_87 : decode cX3_init 87 = .ok (.aastore, 1) := by decide +kernel
theorem dX3_init_88 : decode cX3_init 88 = .ok (.iinc 1 1, 3) := by decide +kernel
theorem dX3_init_91 : decode cX3_init 91 = .ok (.goto (-21), 3) := by decide +kernel
theorem dX3_init_94 : decode cX3_init 94 = .ok (.return_, 1) := by decide +kernel
theorem dX3_setLane_0 : decode cX3_setLane 0 = .ok (.iload_n 1, 1) := by decide +kernel
theorem dX3_setLane_1 : decode cX3_setLane 1 = .ok (.invokestatic 41, 3) := by decide +kernel
theorem dX3_setLane_4 : decode cX3_setLane 4 = .ok (.ifCond .ne 5, 3) := by decide +kernel
theorem dX3_setLane_7 : decode cX3_setLane 7 = .ok (.iconst (-1), 1) := by decide +kernel
theorem dX3_setLane_8 : decode cX3_setLane 8 = .ok (.ireturn, 1) := by decide +kernel
theorem dX3_setLane_9 : decode cX3_setLane 9 = .ok (.iload_n 3, 1) := by decide +kernel
theorem dX3_setLane_10 : decode cX3_setLane 10 = .ok (.iconst 1, 1) := by decide +kernel
theorem dX3_setLane_11 : decode cX3_setLane 11 = .ok (.if_icmp .lt 11, 3) := by decide +kernel
theorem dX3_setLane_14 : decode cX3_setLane 14 = .ok (.iload_n 3, 1) := by decide +kernel
theorem dX3_setLane_15 : decode cX3_setLane 15 = .ok (.iload_n 2, 1) := by decide +kernel
theorem dX3_setLane_16 : decode cX3_setLane 16 = .ok (.invokestatic 45, 3) := by decide +kernel
theorem dX3_setLane_19 : decode cX3_setLane 19 = .ok (.if_icmp .le 6, 3) := by decide +kernel
theorem dX3_setLane_22 : decode cX3_setLane 22 = .ok (.bipush (-2), 2) := by decide +kernel
theorem dX3_setLane_24 : decode cX3_setLane 24 = .ok (.ireturn, 1) := by decide +kernel
theorem dX3_setLane_25 : decode cX3_setLane 25 = .ok (.aload_n 0, 1) := by decide +kernel
theorem dX3_setLane_26 : decode cX3_setLane 26 = .ok (.getfield 10, 3) := by decide +kernel
theorem dX3_setLane_29 : decode cX3_setLane 29 = .ok (.getfield 49, 3) := by decide +kernel
theorem dX3_setLane_32 : decode cX3_setLane 32 = .ok (.iload_n 1, 1) := by decide +kernel
theorem dX3_setLane_33 : decode cX3_setLane 33 = .ok (.aaload, 1) := by decide +kernel
theorem dX3_setLane_34 : decode cX3_setLane 34 = .ok (.astore 4, 2) := by decide +kernel
theorem dX3_setLane_36 : decode cX3_setLane 36 = .ok (.iload_n 2, 1) := by decide +kernel
theorem dX3_setLane_37 : decode cX3_setLane 37 = .ok (.ifCond .ne 15, 3) := by decide +kernel
theorem dX3_setLane_40 : decode cX3_setLane 40 = .ok (.aload 4, 2) := by decide +kernel
theorem dX3_setLane_42 : decode cX3_setLane 42 = .ok (.getfield 53, 3) := by decide +kernel
theorem dX3_setLane_45 : decode cX3_setLane 45 = .ok (.iload_n 3, 1) := by decide +kernel
theorem dX3_setLane_46 : decode cX3_setLane 46 = .ok (.if_icmp .le 6, 3) := by decide +kernel
theorem dX3_setLane_49 : decode cX3_setLane 49 = .ok (.bipush (-4), 2) := by decide +kernel
theorem dX3_setLane_51 : decode cX3_setLane 51 = .ok (.ireturn, 1) := by decide +kernel
theorem dX3_setLane_52 : decode cX3_setLane 52 = .ok (.aload 4, 2) := by decide +kernel
theorem dX3_setLane_54 : decode cX3_setLane 54 = .ok (.iload_n 2, 1) := by decide +kernel
theorem dX3_setLane_55 : decode cX3_setLane 55 = .ok (.invokevirtual 58, 3) := by decide +kernel
theorem dX3_setLane_58 : decode cX3_setLane 58 = .ok (.istore 5, 2) := by decide +kernel
theorem dX3_setLane_60 : decode cX3_setLane 60 = .ok (.iload 5, 2) := by decide +kernel
theorem dX3_setLane_62 : decode cX3_setLane 62 = .ok (.iload_n 3, 1) := by decide +kernel
theorem dX3_setLane_63 : decode cX3_setLane 63 = .ok (.if_icmp .ne 6, 3) := by decide +kernel
theorem dX3_setLane_66 : decode cX3_setLane 66 = .ok (.bipush (-5), 2) := by decide +kernel
theorem dX3_setLane_68 : decode cX3_setLane 68 = .ok (.ireturn, 1) := by decide +kernel
theorem dX3_setLane_69 : decode cX3_setLane 69 = .ok (.aload_n 0, 1) := by decide +kernel
theorem dX3_setLane_70 : decode cX3_setLane 70 = .ok (.invokevirtual 61, 3) := by decide +kernel
theorem dX3_setLane_73 : decode cX3_setLane 73 = .ok (.aload 4, 2) := by decide +kernel
theorem dX3_setLane_75 : decode cX3_setLane 75 = .ok (.iload_n 2, 1) := by decide +kernel
theorem dX3_setLane_76 : decode cX3_setLane 76 = .ok (.iload_n 3, 1) := by decide +kernel
theorem dX3_setLane_77 : decode cX3_setLane 77 = .ok (.invokevirtual 64, 3) := by decide +kernel
theorem dX3_setLane_80 : decode cX3_setLane 80 = .ok (.iload 5, 2) := by decide +kernel
theorem dX3_setLane_82 : decode cX3_setLane 82 = .ok (.ireturn, 1) := by decide +kernel
theorem dX3_set_0 : decode cX3_set 0 = .ok (.iload_n 2, 1) := by decide +kernel
theorem dX3_set_1 : decode cX3_set 1 = .ok (.ifCond .lt 11, 3) := by decide +kernel
theorem dX3_set_4 : decode cX3_set 4 = .ok (.iload_n 2, 1) := by decide +kernel
theorem dX3_set_5 : decode cX3_set 5 = .ok (.iload_n 1, 1) := by decide +kernel
theorem dX3_set_6 : decode cX3_set 6 = .ok (.invokestatic 68, 3) := by decide +kernel
theorem dX3_set_9 : decode cX3_set 9 = .ok (.if_icmp .le 6, 3) := by decide +kernel
theorem dX3_set_12 : decode cX3_set 12 = .ok (.bipush (-2), 2) := by decide +kernel
theorem dX3_set_14 : decode cX3_set 14 = .ok (.ireturn, 1) := by decide +kernel
theorem dX3_set_15 : decode cX3_set 15 = .ok (.iload_n 1, 1) := by decide +kernel
theorem dX3_set_16 : decode cX3_set 16 = .ok (.ifCond .ne 13, 3) := by decide +kernel
theorem dX3_set_19 : decode cX3_set 19 = .ok (.aload_n 0, 1) := by decide +kernel
theorem dX3_set_20 : decode cX3_set 20 = .ok (.getfield 10, 3) := by decide +kernel
theorem dX3_set_23 : decode cX3_set 23 = .ok (.getfield 71, 3) := by decide +kernel
theorem dX3_set_26 : decode cX3_set 26 = .ok (.goto 10, 3) := by decide +kernel
theorem dX3_set_29 : decode cX3_set 29 = .ok (.aload_n 0, 1) := by decide +kernel
theorem dX3_set_30 : decode cX3_set 30 = .ok (.getfield 10, 3) := by decide +kernel
theorem dX3_set_33 : decode cX3_set 33 = .ok (.getfield 74, 3) := by decide +kernel
theorem dX3_set_36 : decode cX3_set 36 = .ok (.istore_n 3, 1) := by decide +kernel
theorem dX3_set_37 : decode cX3_set 37 = .ok (.iload_n 3, 1) := by decide +kernel
theorem dX3_set_38 : decode cX3_set 38 = .ok (.iload_n 2, 1) := by decide +kernel
theorem dX3_set_39 : decode cX3_set 39 = .ok (.if_icmp .ne 6, 3) := by decide +kernel
theorem dX3_set_42 : decode cX3_set 42 = .ok (.bipush (-5), 2) := by decide +kernel
theorem dX3_set_44 : decode cX3_set 44 = .ok (.ireturn, 1) := by decide +kernel
theorem dX3_set_45 : decode cX3_set 45 = .ok (.aload_n 0, 1) := by decide +kernel
theorem dX3_set_46 : decode cX3_set 46 = .ok (.invokevirtual 61, 3) := by decide +kernel
theorem dX3_set_49 : decode cX3_set 49 = .ok (.iload_n 1, 1) := by decide +kernel
theorem dX3_set_50 : decode cX3_set 50 = .ok (.ifCond .ne 14, 3) := by decide +kernel
theorem dX3_set_53 : decode cX3_set 53 = .ok (.aload_n 0, 1) := by decide +kernel
theorem dX3_set_54 : decode cX3_set 54 = .ok (.getfield 10, 3) := by decide +kernel
theorem dX3_set_57 : decode cX3_set 57 = .ok (.iload_n 2, 1) := by decide +kernel
theorem dX3_set_58 : decode cX3_set 58 = .ok (.putfield 71, 3) := by decide +kernel
theorem dX3_set_61 : decode cX3_set 61 = .ok (.goto 11, 3) := by decide +kernel
theorem dX3_set_64 : decode cX3_set 64 = .ok (.aload_n 0, 1) := by decide +kernel
theorem dX3_set_65 : decode cX3_set 65 = .ok (.getfield 10, 3) := by decide +kernel
theorem dX3_set_68 : decode cX3_set 68 = .ok (.iload_n 2, 1) := by decide +kernel
theorem dX3_set_69 : decode cX3_set 69 = .ok (.putfield 74, 3) := by decide +kernel
theorem dX3_set_72 : decode cX3_set 72 = .ok (.iload_n 3, 1) := by decide +kernel
theorem dX3_set_73 : decode cX3_set 73 = .ok (.ireturn, 1) := by decide +kernel
theorem dX3_arrive_0 : decode cX3_arrive 0 = .ok (.iload_n 1, 1) := by decide +kernel
theorem dX3_arrive_1 : decode cX3_arrive 1 = .ok (.invokestatic 41, 3) := by decide +kernel
theorem dX3_arrive_4 : decode cX3_arrive 4 = .ok (.ifCond .eq 10, 3) := by decide +kernel
theorem dX3_arrive_7 : decode cX3_arrive 7 = .ok (.iload_n 2, 1) := by decide +kernel
theorem dX3_arrive_8 : decode cX3_arrive 8 = .ok (.invokestatic 41, 3) := by decide +kernel
theorem dX3_arrive_11 : decode cX3_arrive 11 = .ok (.ifCond .ne 5, 3) := by decide +kernel
theorem dX3_arrive_14 : decode cX3_arrive 14 = .ok (.iconst (-1), 1) := by decide +kernel
theorem dX3_arrive_15 : decode cX3_arrive 15 = .ok (.ireturn, 1) := by decide +kernel
theorem dX3_arrive_16 : decode cX3_arrive 16 = .ok (.aload_n 0, 1) := by decide +kernel
theorem dX3_arrive_17 : decode cX3_arrive 17 = .ok (.getfield 10, 3) := by decide +kernel
theorem dX3_arrive_20 : decode cX3_arrive 20 = .ok (.getfield 77, 3) := by decide +kernel
theorem dX3_arrive_23 : decode cX3_arrive 23 = .ok (.iload_n 1, 1) := by decide +kernel
theorem dX3_arrive_24 : decode cX3_arrive 24 = .ok (.aaload, 1) := by decide +kernel
theorem dX3_arrive_25 : decode cX3_arrive 25 = .ok (.invokevirtual 81, 3) := by decide +kernel
theorem dX3_arrive_28 : decode cX3_arrive 28 = .ok (.ifCond .eq 6, 3) := by decide +kernel
theorem dX3_arrive_31 : decode cX3_arrive 31 = .ok (.bipush (-3), 2) := by decide +kernel
theorem dX3_arrive_33 : decode cX3_arrive 33 = .ok (.ireturn, 1) := by decide +kernel
theorem dX3_arrive_34 : decode cX3_arrive 34 = .ok (.aload_n 0, 1) := by decide +kernel
theorem dX3_arrive_35 : decode cX3_arrive 35 = .ok (.invokevirtual 61, 3) := by decide +kernel
theorem dX3_arrive_38 : decode cX3_arrive 38 = .ok (.aload_n 0, 1) := by decide +kernel
theorem dX3_arrive_39 : decode cX3_arrive 39 = .ok (.getfield 10, 3) := by decide +kernel
theorem dX3_arrive_42 : decode cX3_arrive 42 = .ok (.iload_n 1, 1) := by decide +kernel
theorem dX3_arrive_43 : decode cX3_arrive 43 = .ok (.iload_n 2, 1) := by decide +kernel
theorem dX3_arrive_44 : decode cX3_arrive 44 = .ok (.invokevirtual 87, 3) := by decide +kernel
theorem dX3_arrive_47 : decode cX3_arrive 47 = .ok (.ireturn, 1) := by decide +kernel
theorem dX3_readArrivals_0 : decode cX3_readArrivals 0 = .ok (.aload_n 0, 1) := by decide +kernel
theorem dX3_readArrivals_1 : decode cX3_readArrivals 1 = .ok (.invokevirtual 91, 3) := by decide +kernel
theorem dX3_readArrivals_4 : decode cX3_readArrivals 4 = .ok (.istore_n 1, 1) := by decide +kernel
theorem dX3_readArrivals_5 : decode cX3_readArrivals 5 = .ok (.iload_n 1, 1) := by decide +kernel
theorem dX3_readArrivals_6 : decode cX3_readArrivals 6 = .ok (.iconst (-1), 1) := by decide +kernel
theorem dX3_readArrivals_7 : decode cX3_readArrivals 7 = .ok (.if_icmp .eq 8, 3) := by decide +kernel
theorem dX3_readArrivals_10 : decode cX3_readArrivals 10 = .ok (.bipush (-100), 2) := by decide +kernel
theorem dX3_readArrivals_12 : decode cX3_readArrivals 12 = .ok (.iload_n 1, 1) := by decide +kernel
theorem dX3_readArrivals_13 : decode cX3_readArrivals 13 = .ok (.isub, 1) := by decide +kernel
theorem dX3_readArrivals_14 : decode cX3_readArrivals 14 = .ok (.ireturn, 1) := by decide +kernel
theorem dX3_readArrivals_15 : decode cX3_readArrivals 15 = .ok (.aload_n 0, 1) := by decide +kernel
theorem dX3_readArrivals_16 : decode cX3_readArrivals 16 = .ok (.getfield 16, 3) := by decide +kernel
theorem dX3_readArrivals_19 : decode cX3_readArrivals 19 = .ok (.aload_n 0, 1) := by decide +kernel
theorem dX3_readArrivals_20 : decode cX3_readArrivals 20 = .ok (.getfield 10, 3) := by decide +kernel
theorem dX3_readArrivals_23 : decode cX3_readArrivals 23 = .ok (.invokevirtual 95, 3) := by decide +kernel
theorem dX3_readArrivals_26 : decode cX3_readArrivals 26 = .ok (.aload_n 0, 1) := by decide +kernel
theorem dX3_readArrivals_27 : decode cX3_readArrivals 27 = .ok (.invokevirtual 99, 3) := by decide +kernel
theorem dX3_readArrivals_30 : decode cX3_readArrivals 30 = .ok (.istore_n 2, 1) := by decide +kernel
theorem dX3_readArrivals_31 : decode cX3_readArrivals 31 = .ok (.iload_n 2, 1) := by decide +kernel
theorem dX3_readArrivals_32 : decode cX3_readArrivals 32 = .ok (.bipush (-3), 2) := by decide +kernel
theorem dX3_readArrivals_34 : decode cX3_readArrivals 34 = .ok (.if_icmp .ne 6, 3) := by decide +kernel
theorem dX3_readArrivals_37 : decode cX3_readArrivals 37 = .ok (.bipush (-3), 2) := by decide +kernel
theorem dX3_readArrivals_39 : decode cX3_readArrivals 39 = .ok (.ireturn, 1) := by decide +kernel
theorem dX3_readArrivals_40 : decode cX3_readArrivals 40 = .ok (.aload_n 0, 1) := by decide +kernel
theorem dX3_readArrivals_41 : decode cX3_readArrivals 41 = .ok (.invokevirtual 61, 3) := by decide +kernel
theorem dX3_readArrivals_44 : decode cX3_readArrivals 44 = .ok (.aload_n 0, 1) := by decide +kernel
theorem dX3_readArrivals_45 : decode cX3_readArrivals 45 = .ok (.getfield 10, 3) := by decide +kernel
theorem dX3_readArrivals_48 : decode cX3_readArrivals 48 = .ok (.aload_n 0, 1) := by decide +kernel
theorem dX3_readArrivals_49 : decode cX3_readArrivals 49 = .ok (.getfield 16, 3) := by decide +kernel
theorem dX3_readArrivals_52 : decode cX3_readArrivals 52 = .ok (.invokevirtual 95, 3) := by decide +kernel
theorem dX3_readArrivals_55 : decode cX3_readArrivals 55 = .ok (.iload_n 2, 1) := by decide +kernel
theorem dX3_readArrivals_56 : decode cX3_readArrivals 56 = .ok (.ireturn, 1) := by decide +kernel
theorem dX3_pass_0 : decode cX3_pass 0 = .ok (.iload_n 1, 1) := by decide +kernel
theorem dX3_pass_1 : decode cX3_pass 1 = .ok (.invokestatic 102, 3) := by decide +kernel
theorem dX3_pass_4 : decode cX3_pass 4 = .ok (.ifCond .ne 6, 3) := by decide +kernel
theorem dX3_pass_7 : decode cX3_pass 7 = .ok (.bipush (-2), 2) := by decide +kernel
theorem dX3_pass_9 : decode cX3_pass 9 = .ok (.ireturn, 1) := by decide +kernel
theorem dX3_pass_10 : decode cX3_pass 10 = .ok (.aload_n 0, 1) := by decide +kernel
theorem dX3_pass_11 : decode cX3_pass 11 = .ok (.getfield 10, 3) := by decide +kernel
theorem dX3_pass_14 : decode cX3_pass 14 = .ok (.getfield 105, 3) := by decide +kernel
theorem dX3_pass_17 : decode cX3_pass 17 = .ok (.iload_n 1, 1) := by decide +kernel
theorem dX3_pass_18 : decode cX3_pass 18 = .ok (.iadd, 1) := by decide +kernel
theorem dX3_pass_19 : decode cX3_pass 19 = .ok (.sipush 9999, 3) := by decide +kernel
theorem dX3_pass_22 : decode cX3_pass 22 = .ok (.if_icmp .le 6, 3) := by decide +kernel
theorem dX3_pass_25 : decode cX3_pass 25 = .ok (.bipush (-4), 2) := by decide +kernel
theorem dX3_pass_27 : decode cX3_pass 27 = .ok (.ireturn, 1) := by decide +kernel
theorem dX3_pass_28 : decode cX3_pass 28 = .ok (.aload_n 0, 1) := by decide +kernel
theorem dX3_pass_29 : decode cX3_pass 29 = .ok (.invokevirtual 61, 3) := by decide +kernel
theorem dX3_pass_32 : decode cX3_pass 32 = .ok (.aload_n 0, 1) := by decide +kernel
theorem dX3_pass_33 : decode cX3_pass 33 = .ok (.getfield 10, 3) := by decide +kernel
theorem dX3_pass_36 : decode cX3_pass 36 = .ok (.iload_n 1, 1) := by decide +kernel
theorem dX3_pass_37 : decode cX3_pass 37 = .ok (.invokevirtual 108, 3) := by decide +kernel
theorem dX3_pass_40 : decode cX3_pass 40 = .ok (.ireturn, 1) := by decide +kernel
theorem dX3_lose_0 : decode cX3_lose 0 = .ok (.iload_n 1, 1) := by decide +kernel
theorem dX3_lose_1 : decode cX3_lose 1 = .ok (.invokestatic 41, 3) := by decide +kernel
theorem dX3_lose_4 : decode cX3_lose 4 = .ok (.ifCond .ne 5, 3) := by decide +kernel
theorem dX3_lose_7 : decode cX3_lose 7 = .ok (.iconst (-1), 1) := by decide +kernel
theorem dX3_lose_8 : decode cX3_lose 8 = .ok (.ireturn, 1) := by decide +kernel
theorem dX3_lose_9 : decode cX3_lose 9 = .ok (.aload_n 0, 1) := by decide +kernel
theorem dX3_lose_10 : decode cX3_lose 10 = .ok (.getfield 10, 3) := by decide +kernel
theorem dX3_lose_13 : decode cX3_lose 13 = .ok (.getfield 49, 3) := by decide +kernel
theorem dX3_lose_16 : decode cX3_lose 16 = .ok (.iload_n 1, 1) := by decide +kernel
theorem dX3_lose_17 : decode cX3_lose 17 = .ok (.aaload, 1) := by decide +kernel
theorem dX3_lose_18 : decode cX3_lose 18 = .ok (.astore_n 2, 1) := by decide +kernel
theorem dX3_lose_19 : decode cX3_lose 19 = .ok (.aload_n 2, 1) := by decide +kernel
theorem dX3_lose_20 : decode cX3_lose 20 = .ok (.getfield 111, 3) := by decide +kernel
theorem dX3_lose_23 : decode cX3_lose 23 = .ok (.ifCond .ne 6, 3) := by decide +kernel
theorem dX3_lose_26 : decode cX3_lose 26 = .ok (.bipush (-4), 2) := by decide +kernel
theorem dX3_lose_28 : decode cX3_lose 28 = .ok (.ireturn, 1) := by decide +kernel
theorem dX3_lose_29 : decode cX3_lose 29 = .ok (.aload_n 0, 1) := by decide +kernel
theorem dX3_lose_30 : decode cX3_lose 30 = .ok (.invokevirtual 61, 3) := by decide +kernel
theorem dX3_lose_33 : decode cX3_lose 33 = .ok (.aload_n 2, 1) := by decide +kernel
theorem dX3_lose_34 : decode cX3_lose 34 = .ok (.invokevirtual 114, 3) := by decide +kernel
theorem dX3_lose_37 : decode cX3_lose 37 = .ok (.aload_n 2, 1) := by decide +kernel
theorem dX3_lose_38 : decode cX3_lose 38 = .ok (.getfield 111, 3) := by decide +kernel
theorem dX3_lose_41 : decode cX3_lose 41 = .ok (.ireturn, 1) := by decide +kernel
theorem dX3_forge_0 : decode cX3_forge 0 = .ok (.iload_n 1, 1) := by decide +kernel
theorem dX3_forge_1 : decode cX3_forge 1 = .ok (.invokestatic 41, 3) := by decide +kernel
theorem dX3_forge_4 : decode cX3_forge 4 = .ok (.ifCond .ne 5, 3) := by decide +kernel
theorem dX3_forge_7 : decode cX3_forge 7 = .ok (.iconst (-1), 1) := by decide +kernel
theorem dX3_forge_8 : decode cX3_forge 8 = .ok (.ireturn, 1) := by decide +kernel
theorem dX3_forge_9 : decode cX3_forge 9 = .ok (.aload_n 0, 1) := by decide +kernel
theorem dX3_forge_10 : decode cX3_forge 10 = .ok (.getfield 10, 3) := by decide +kernel
theorem dX3_forge_13 : decode cX3_forge 13 = .ok (.getfield 49, 3) := by decide +kernel
theorem dX3_forge_16 : decode cX3_forge 16 = .ok (.iload_n 1, 1) := by decide +kernel
theorem dX3_forge_17 : decode cX3_forge 17 = .ok (.aaload, 1) := by decide +kernel
theorem dX3_forge_18 : decode cX3_forge 18 = .ok (.astore_n 2, 1) := by decide +kernel
theorem dX3_forge_19 : decode cX3_forge 19 = .ok (.aload_n 2, 1) := by decide +kernel
theorem dX3_forge_20 : decode cX3_forge 20 = .ok (.getfield 117, 3) := by decide +kernel
theorem dX3_forge_23 : decode cX3_forge 23 = .ok (.bipush 16, 2) := by decide +kernel
theorem dX3_forge_25 : decode cX3_forge 25 = .ok (.if_icmp .lt 6, 3) := by decide +kernel
theorem dX3_forge_28 : decode cX3_forge 28 = .ok (.bipush (-3), 2) := by decide +kernel
theorem dX3_forge_30 : decode cX3_forge 30 = .ok (.ireturn, 1) := by decide +kernel
theorem dX3_forge_31 : decode cX3_forge 31 = .ok (.aload_n 0, 1) := by decide +kernel
theorem dX3_forge_32 : decode cX3_forge 32 = .ok (.invokevirtual 61, 3) := by decide +kernel
theorem dX3_forge_35 : decode cX3_forge 35 = .ok (.aload_n 2, 1) := by decide +kernel
theorem dX3_forge_36 : decode cX3_forge 36 = .ok (.dup, 1) := by decide +kernel
theorem dX3_forge_37 : decode cX3_forge 37 = .ok (.getfield 117, 3) := by decide +kernel
theorem dX3_forge_40 : decode cX3_forge 40 = .ok (.iconst 1, 1) := by decide +kernel
theorem dX3_forge_41 : decode cX3_forge 41 = .ok (.iadd, 1) := by decide +kernel
theorem dX3_forge_42 : decode cX3_forge 42 = .ok (.putfield 117, 3) := by decide +kernel
theorem dX3_forge_45 : decode cX3_forge 45 = .ok (.aload_n 2, 1) := by decide +kernel
theorem dX3_forge_46 : decode cX3_forge 46 = .ok (.getfield 117, 3) := by decide +kernel
theorem dX3_forge_49 : decode cX3_forge 49 = .ok (.bipush 100, 2) := by decide +kernel
theorem dX3_forge_51 : decode cX3_forge 51 = .ok (.iadd, 1) := by decide +kernel
theorem dX3_forge_52 : decode cX3_forge 52 = .ok (.ireturn, 1) := by decide +kernel
theorem dX3_repair_0 : decode cX3_repair 0 = .ok (.iload_n 1, 1) := by decide +kernel
theorem dX3_repair_1 : decode cX3_repair 1 = .ok (.invokestatic 41, 3) := by decide +kernel
theorem dX3_repair_4 : decode cX3_repair 4 = .ok (.ifCond .ne 5, 3) := by decide +kernel
theorem dX3_repair_7 : decode cX3_repair 7 = .ok (.iconst (-1), 1) := by decide +kernel
theorem dX3_repair_8 : decode cX3_repair 8 = .ok (.ireturn, 1) := by decide +kernel
theorem dX3_repair_9 : decode cX3_repair 9 = .ok (.aload_n 0, 1) := by decide +kernel
theorem dX3_repair_10 : decode cX3_repair 10 = .ok (.getfield 10, 3) := by decide +kernel
theorem dX3_repair_13 : decode cX3_repair 13 = .ok (.getfield 49, 3) := by decide +kernel
theorem dX3_repair_16 : decode cX3_repair 16 = .ok (.iload_n 1, 1) := by decide +kernel
theorem dX3_repair_17 : decode cX3_repair 17 = .ok (.aaload, 1) := by decide +kernel
theorem dX3_repair_18 : decode cX3_repair 18 = .ok (.astore_n 2, 1) := by decide +kernel
theorem dX3_repair_19 : decode cX3_repair 19 = .ok (.aload_n 2, 1) := by decide +kernel
theorem dX3_repair_20 : decode cX3_repair 20 = .ok (.invokevirtual 120, 3) := by decide +kernel
theorem dX3_repair_23 : decode cX3_repair 23 = .ok (.istore_n 3, 1) := by decide +kernel
theorem dX3_repair_24 : decode cX3_repair 24 = .ok (.iload_n 3, 1) := by decide +kernel
theorem dX3_repair_25 : decode cX3_repair 25 = .ok (.ifCond .ne 6, 3) := by decide +kernel
theorem dX3_repair_28 : decode cX3_repair 28 = .ok (.bipush (-5), 2) := by decide +kernel
theorem dX3_repair_30 : decode cX3_repair 30 = .ok (.ireturn, 1) := by decide +kernel
theorem dX3_repair_31 : decode cX3_repair 31 = .ok (.aload_n 0, 1) := by decide +kernel
theorem dX3_repair_32 : decode cX3_repair 32 = .ok (.invokevirtual 61, 3) := by decide +kernel
theorem dX3_repair_35 : decode cX3_repair 35 = .ok (.aload_n 2, 1) := by decide +kernel
theorem dX3_repair_36 : decode cX3_repair 36 = .ok (.invokevirtual 123, 3) := by decide +kernel
theorem dX3_repair_39 : decode cX3_repair 39 = .ok (.iload_n 3, 1) := by decide +kernel
theorem dX3_repair_40 : decode cX3_repair 40 = .ok (.bipush 100, 2) := by decide +kernel
theorem dX3_repair_42 : decode cX3_repair 42 = .ok (.iadd, 1) := by decide +kernel
theorem dX3_repair_43 : decode cX3_repair 43 = .ok (.ireturn, 1) := by decide +kernel
theorem dX3_type_0 : decode cX3_type 0 = .ok (.aload_n 0, 1) := by decide +kernel
theorem dX3_type_1 : decode cX3_type 1 = .ok (.getfield 38, 3) := by decide +kernel
theorem dX3_type_4 : decode cX3_type 4 = .ok (.bipush 60, 2) := by decide +kernel
theorem dX3_type_6 : decode cX3_type 6 = .ok (.if_icmp .lt 6, 3) := by decide +kernel
theorem dX3_type_9 : decode cX3_type 9 = .ok (.bipush (-3), 2) := by decide +kernel
theorem dX3_type_11 : decode cX3_type 11 = .ok (.ireturn, 1) := by decide +kernel
theorem dX3_type_12 : decode cX3_type 12 = .ok (.aload_n 0, 1) := by decide +kernel
theorem dX3_type_13 : decode cX3_type 13 = .ok (.getfield 34, 3) := by decide +kernel
theorem dX3_type_16 : decode cX3_type 16 = .ok (.aload_n 0, 1) := by decide +kernel
theorem dX3_type_17 : decode cX3_type 17 = .ok (.getfield 38, 3) := by decide +kernel
theorem dX3_type_20 : decode cX3_type 20 = .ok (.iload_n 1, 1) := by decide +kernel
theorem dX3_type_21 : decode cX3_type 21 = .ok (.castore, 1) := by decide +kernel
theorem dX3_type_22 : decode cX3_type 22 = .ok (.aload_n 0, 1) := by decide +kernel
theorem dX3_type_23 : decode cX3_type 23 = .ok (.dup, 1) := by decide +kernel
theorem dX3_type_24 : decode cX3_type 24 = .ok (.getfield 38, 3) := by decide +kernel
theorem dX3_type_27 : decode cX3_type 27 = .ok (.iconst 1, 1) := by decide +kernel
theorem dX3_type_28 : decode cX3_type 28 = .ok (.iadd, 1) := by decide +kernel
theorem dX3_type_29 : decode cX3_type 29 = .ok (.putfield 38, 3) := by decide +kernel
theorem dX3_type_32 : decode cX3_type 32 = .ok (.aload_n 0, 1) := by decide +kernel
theorem dX3_type_33 : decode cX3_type 33 = .ok (.getfield 38, 3) := by decide +kernel
theorem dX3_type_36 : decode cX3_type 36 = .ok (.ireturn, 1) := by decide +kernel
theorem dX3_clearText_0 : decode cX3_clearText 0 = .ok (.aload_n 0, 1) := by decide +kernel
theorem dX3_clearText_1 : decode cX3_clearText 1 = .ok (.getfield 38, 3) := by decide +kernel
theorem dX3_clearText_4 : decode cX3_clearText 4 = .ok (.istore_n 1, 1) := by decide +kernel
theorem dX3_clearText_5 : decode cX3_clearText 5 = .ok (.aload_n 0, 1) := by decide +kernel
theorem dX3_clearText_6 : decode cX3_clearText 6 = .ok (.iconst 0, 1) := by decide +kernel
theorem dX3_clearText_7 : decode cX3_clearText 7 = .ok (.putfield 38, 3) := by decide +kernel
theorem dX3_clearText_10 : decode cX3_clearText 10 = .ok (.iload_n 1, 1) := by decide +kernel
theorem dX3_clearText_11 : decode cX3_clearText 11 = .ok (.ireturn, 1) := by decide +kernel
theorem dX3_undo_0 : decode cX3_undo 0 = .ok (.aload_n 0, 1) := by decide +kernel
theorem dX3_undo_1 : decode cX3_undo 1 = .ok (.getfield 30, 3) := by decide +kernel
theorem dX3_undo_4 : decode cX3_undo 4 = .ok (.ifCond .ne 6, 3) := by decide +kernel
theorem dX3_undo_7 : decode cX3_undo 7 = .ok (.bipush (-5), 2) := by decide +kernel
theorem dX3_undo_9 : decode cX3_undo 9 = .ok (.ireturn, 1) := by decide +kernel
theorem dX3_undo_10 : decode cX3_undo 10 = .ok (.aload_n 0, 1) := by decide +kernel
theorem dX3_undo_11 : decode cX3_undo 11 = .ok (.dup, 1) := by decide +kernel
theorem dX3_undo_12 : decode cX3_undo 12 = .ok (.getfield 30, 3) := by decide +kernel
theorem dX3_undo_15 : decode cX3_undo 15 = .ok (.iconst 1, 1) := by decide +kernel
theorem dX3_undo_16 : decode cX3_undo 16 = .ok (.isub, 1) := by decide +kernel
theorem dX3_undo_17 : decode cX3_undo 17 = .ok (.putfield 30, 3) := by decide +kernel
theorem dX3_undo_20 : decode cX3_undo 20 = .ok (.aload_n 0, 1) := by decide +kernel
theorem dX3_undo_21 : decode cX3_undo 21 = .ok (.getfield 10, 3) := by decide +kernel
theorem dX3_undo_24 : decode cX3_undo 24 = .ok (.aload_n 0, 1) := by decide +kernel
theorem dX3_undo_25 : decode cX3_undo 25 = .ok (.getfield 26, 3) := by decide +kernel
theorem dX3_undo_28 : decode cX3_undo 28 = .ok (.aload_n 0, 1) := by decide +kernel
theorem dX3_undo_29 : decode cX3_undo 29 = .ok (.getfield 30, 3) := by decide +kernel
theorem dX3_undo_32 : decode cX3_undo 32 = .ok (.aaload, 1) := by decide +kernel
theorem dX3_undo_33 : decode cX3_undo 33 = .ok (.invokevirtual 95, 3) := by decide +kernel
theorem dX3_undo_36 : decode cX3_undo 36 = .ok (.aload_n 0, 1) := by decide +kernel
theorem dX3_undo_37 : decode cX3_undo 37 = .ok (.getfield 30, 3) := by decide +kernel
theorem dX3_undo_40 : decode cX3_undo 40 = .ok (.ireturn, 1) := by decide +kernel
theorem dX3_keep_0 : decode cX3_keep 0 = .ok (.aload_n 0, 1) := by decide +kernel
theorem dX3_keep_1 : decode cX3_keep 1 = .ok (.getfield 19, 3) := by decide +kernel
theorem dX3_keep_4 : decode cX3_keep 4 = .ok (.aload_n 0, 1) := by decide +kernel
theorem dX3_keep_5 : decode cX3_keep 5 = .ok (.getfield 10, 3) := by decide +kernel
theorem dX3_keep_8 : decode cX3_keep 8 = .ok (.invokevirtual 95, 3) := by decide +kernel
theorem dX3_keep_11 : decode cX3_keep 11 = .ok (.aload_n 0, 1) := by decide +kernel
theorem dX3_keep_12 : decode cX3_keep 12 = .ok (.iconst 1, 1) := by decide +kernel
theorem dX3_keep_13 : decode cX3_keep 13 = .ok (.putfield 22, 3) := by decide +kernel
theorem dX3_keep_16 : decode cX3_keep 16 = .ok (.aload_n 0, 1) := by decide +kernel
theorem dX3_keep_17 : decode cX3_keep 17 = .ok (.getfield 10, 3) := by decide +kernel
theorem dX3_keep_20 : decode cX3_keep 20 = .ok (.getfield 105, 3) := by decide +kernel
theorem dX3_keep_23 : decode cX3_keep 23 = .ok (.ireturn, 1) := by decide +kernel
theorem dX3_restore_0 : decode cX3_restore 0 = .ok (.aload_n 0, 1) := by decide +kernel
theorem dX3_restore_1 : decode cX3_restore 1 = .ok (.getfield 22, 3) := by decide +kernel
theorem dX3_restore_4 : decode cX3_restore 4 = .ok (.ifCond .ne 6, 3) := by decide +kernel
theorem dX3_restore_7 : decode cX3_restore 7 = .ok (.bipush (-5), 2) := by decide +kernel
theorem dX3_restore_9 : decode cX3_restore 9 = .ok (.ireturn, 1) := by decide +kernel
theorem dX3_restore_10 : decode cX3_restore 10 = .ok (.aload_n 0, 1) := by decide +kernel
theorem dX3_restore_11 : decode cX3_restore 11 = .ok (.invokevirtual 61, 3) := by decide +kernel
theorem dX3_restore_14 : decode cX3_restore 14 = .ok (.aload_n 0, 1) := by decide +kernel
theorem dX3_restore_15 : decode cX3_restore 15 = .ok (.getfield 10, 3) := by decide +kernel
theorem dX3_restore_18 : decode cX3_restore 18 = .ok (.aload_n 0, 1) := by decide +kernel
theorem dX3_restore_19 : decode cX3_restore 19 = .ok (.getfield 19, 3) := by decide +kernel
theorem dX3_restore_22 : decode cX3_restore 22 = .ok (.invokevirtual 95, 3) := by decide +kernel
theorem dX3_restore_25 : decode cX3_restore 25 = .ok (.aload_n 0, 1) := by decide +kernel
theorem dX3_restore_26 : decode cX3_restore 26 = .ok (.getfield 10, 3) := by decide +kernel
theorem dX3_restore_29 : decode cX3_restore 29 = .ok (.getfield 105, 3) := by decide +kernel
theorem dX3_restore_32 : decode cX3_restore 32 = .ok (.ireturn, 1) := by decide +kernel
theorem dX3_lane_0 : decode cX3_lane 0 = .ok (.iload_n 1, 1) := by decide +kernel
theorem dX3_lane_1 : decode cX3_lane 1 = .ok (.invokestatic 41, 3) := by decide +kernel
theorem dX3_lane_4 : decode cX3_lane 4 = .ok (.ifCond .ne 5, 3) := by decide +kernel
theorem dX3_lane_7 : decode cX3_lane 7 = .ok (.iconst (-1), 1) := by decide +kernel
theorem dX3_lane_8 : decode cX3_lane 8 = .ok (.ireturn, 1) := by decide +kernel
theorem dX3_lane_9 : decode cX3_lane 9 = .ok (.iload_n 2, 1) := by decide +kernel
theorem dX3_lane_10 : decode cX3_lane 10 = .ok (.bipush 12, 2) := by decide +kernel
theorem dX3_lane_12 : decode cX3_lane 12 = .ok (.if_icmp .ne 12, 3) := by decide +kernel
theorem dX3_lane_15 : decode cX3_lane 15 = .ok (.aload_n 0, 1) := by decide +kernel
theorem dX3_lane_16 : decode cX3_lane 16 = .ok (.getfield 10, 3) := by decide +kernel
theorem dX3_lane_19 : decode cX3_lane 19 = .ok (.iload_n 1, 1) := by decide +kernel
theorem dX3_lane_20 : decode cX3_lane 20 = .ok (.invokevirtual 126, 3) := by decide +kernel
theorem dX3_lane_23 : decode cX3_lane 23 = .ok (.ireturn, 1) := by decide +kernel
theorem dX3_lane_24 : decode cX3_lane 24 = .ok (.iload_n 2, 1) := by decide +kernel
theorem dX3_lane_25 : decode cX3_lane 25 = .ok (.bipush 13, 2) := by decide +kernel
theorem dX3_lane_27 : decode cX3_lane 27 = .ok (.if_icmp .ne 20, 3) := by decide +kernel
theorem dX3_lane_30 : decode cX3_lane 30 = .ok (.aload_n 0, 1) := by decide +kernel
theorem dX3_lane_31 : decode cX3_lane 31 = .ok (.getfield 10, 3) := by decide +kernel
theorem dX3_lane_34 : decode cX3_lane 34 = .ok (.iload_n 1, 1) := by decide +kernel
theorem dX3_lane_35 : decode cX3_lane 35 = .ok (.invokevirtual 129, 3) := by decide +kernel
theorem dX3_lane_38 : decode cX3_lane 38 = .ok (.ifCond .eq 7, 3) := by decide +kernel
theorem dX3_lane_41 : decode cX3_lane 41 = .ok (.iconst 1, 1) := by decide +kernel
theorem dX3_lane_42 : decode cX3_lane 42 = .ok (.goto 4, 3) := by decide +kernel
theorem dX3_lane_45 : decode cX3_lane 45 = .ok (.iconst 0, 1) := by decide +kernel
theorem dX3_lane_46 : decode cX3_lane 46 = .ok (.ireturn, 1) := by decide +kernel
theorem dX3_lane_47 : decode cX3_lane 47 = .ok (.aload_n 0, 1) := by decide +kernel
theorem dX3_lane_48 : decode cX3_lane 48 = .ok (.getfield 10, 3) := by decide +kernel
theorem dX3_lane_51 : decode cX3_lane 51 = .ok (.getfield 49, 3) := by decide +kernel
theorem dX3_lane_54 : decode cX3_lane 54 = .ok (.iload_n 1, 1) := by decide +kernel
theorem dX3_lane_55 : decode cX3_lane 55 = .ok (.aaload, 1) := by decide +kernel
theorem dX3_lane_56 : decode cX3_lane 56 = .ok (.iload_n 2, 1) := by decide +kernel
theorem dX3_lane_57 : decode cX3_lane 57 = .ok (.invokevirtual 132, 3) := by decide +kernel
theorem dX3_lane_60 : decode cX3_lane 60 = .ok (.ireturn, 1) := by decide +kernel
theorem dX3_seated_0 : decode cX3_seated 0 = .ok (.iload_n 1, 1) := by decide +kernel
theorem dX3_seated_1 : decode cX3_seated 1 = .ok (.invokestatic 41, 3) := by decide +kernel
theorem dX3_seated_4 : decode cX3_seated 4 = .ok (.ifCond .ne 5, 3) := by decide +kernel
theorem dX3_seated_7 : decode cX3_seated 7 = .ok (.iconst (-1), 1) := by decide +kernel
theorem dX3_seated_8 : decode cX3_seated 8 = .ok (.ireturn, 1) := by decide +kernel
theorem dX3_seated_9 : decode cX3_seated 9 = .ok (.iload_n 2, 1) := by decide +kernel
theorem dX3_seated_10 : decode cX3_seated 10 = .ok (.ifCond .ge 6, 3) := by decide +kernel
theorem dX3_seated_13 : decode cX3_seated 13 = .ok (.bipush (-2), 2) := by decide +kernel
theorem dX3_seated_15 : decode cX3_seated 15 = .ok (.ireturn, 1) := by decide +kernel
theorem dX3_seated_16 : decode cX3_seated 16 = .ok (.aload_n 0, 1) := by decide +kernel
theorem dX3_seated_17 : decode cX3_seated 17 = .ok (.getfield 10, 3) := by decide +kernel
theorem dX3_seated_20 : decode cX3_seated 20 = .ok (.getfield 49, 3) := by decide +kernel
theorem dX3_seated_23 : decode cX3_seated 23 = .ok (.iload_n 1, 1) := by decide +kernel
theorem dX3_seated_24 : decode cX3_seated 24 = .ok (.aaload, 1) := by decide +kernel
theorem dX3_seated_25 : decode cX3_seated 25 = .ok (.astore_n 3, 1) := by decide +kernel
theorem dX3_seated_26 : decode cX3_seated 26 = .ok (.iload_n 2, 1) := by decide +kernel
theorem dX3_seated_27 : decode cX3_seated 27 = .ok (.aload_n 3, 1) := by decide +kernel
theorem dX3_seated_28 : decode cX3_seated 28 = .ok (.getfield 53, 3) := by decide +kernel
theorem dX3_seated_31 : decode cX3_seated 31 = .ok (.if_icmp .ge 12, 3) := by decide +kernel
theorem dX3_seated_34 : decode cX3_seated 34 = .ok (.aload_n 3, 1) := by decide +kernel
theorem dX3_seated_35 : decode cX3_seated 35 = .ok (.getfield 135, 3) := by decide +kernel
theorem dX3_seated_38 : decode cX3_seated 38 = .ok (.iload_n 2, 1) := by decide +kernel
theorem dX3_seated_39 : decode cX3_seated 39 = .ok (.iaload, 1) := by decide +kernel
theorem dX3_seated_40 : decode cX3_seated 40 = .ok (.goto 5, 3) := by decide +kernel
theorem dX3_seated_43 : decode cX3_seated 43 = .ok (.bipush (-5), 2) := by decide +kernel
theorem dX3_seated_45 : decode cX3_seated 45 = .ok (.ireturn, 1) := by decide +kernel
theorem dX3_onTheWay_0 : decode cX3_onTheWay 0 = .ok (.iload_n 1, 1) := by decide +kernel
theorem dX3_onTheWay_1 : decode cX3_onTheWay 1 = .ok (.invokestatic 41, 3) := by decide +kernel
theorem dX3_onTheWay_4 : decode cX3_onTheWay 4 = .ok (.ifCond .ne 5, 3) := by decide +kernel
theorem dX3_onTheWay_7 : decode cX3_onTheWay 7 = .ok (.iconst (-1), 1) := by decide +kernel
theorem dX3_onTheWay_8 : decode cX3_onTheWay 8 = .ok (.ireturn, 1) := by decide +kernel
theorem dX3_onTheWay_9 : decode cX3_onTheWay 9 = .ok (.iload_n 2, 1) := by decide +kernel
theorem dX3_onTheWay_10 : decode cX3_onTheWay 10 = .ok (.ifCond .ge 6, 3) := by decide +kernel
theorem dX3_onTheWay_13 : decode cX3_onTheWay 13 = .ok (.bipush (-2), 2) := by decide +kernel
theorem dX3_onTheWay_15 : decode cX3_onTheWay 15 = .ok (.ireturn, 1) := by decide +kernel
theorem dX3_onTheWay_16 : decode cX3_onTheWay 16 = .ok (.aload_n 0, 1) := by decide +kernel
theorem dX3_onTheWay_17 : decode cX3_onTheWay 17 = .ok (.getfield 10, 3) := by decide +kernel
theorem dX3_onTheWay_20 : decode cX3_onTheWay 20 = .ok (.getfield 49, 3) := by decide +kernel
theorem dX3_onTheWay_23 : decode cX3_onTheWay 23 = .ok (.iload_n 1, 1) := by decide +kernel
theorem dX3_onTheWay_24 : decode cX3_onTheWay 24 = .ok (.aaload, 1) := by decide +kernel
theorem dX3_onTheWay_25 : decode cX3_onTheWay 25 = .ok (.astore_n 3, 1) := by decide +kernel
theorem dX3_onTheWay_26 : decode cX3_onTheWay 26 = .ok (.iload_n 2, 1) := by decide +kernel
theorem dX3_onTheWay_27 : decode cX3_onTheWay 27 = .ok (.aload_n 3, 1) := by decide +kernel
theorem dX3_onTheWay_28 : decode cX3_onTheWay 28 = .ok (.getfield 111, 3) := by decide +kernel
theorem dX3_onTheWay_31 : decode cX3_onTheWay 31 = .ok (.if_icmp .ge 22, 3) := by decide +kernel
theorem dX3_onTheWay_34 : decode cX3_onTheWay 34 = .ok (.aload_n 3, 1) := by decide +kernel
theorem dX3_onTheWay_35 : decode cX3_onTheWay 35 = .ok (.getfield 139, 3) := by decide +kernel
theorem dX3_onTheWay_38 : decode cX3_onTheWay 38 = .ok (.iload_n 2, 1) := by decide +kernel
theorem dX3_onTheWay_39 : decode cX3_onTheWay 39 = .ok (.iaload, 1) := by decide +kernel
theorem dX3_onTheWay_40 : decode cX3_onTheWay 40 = .ok (.aload_n 0, 1) := by decide +kernel
theorem dX3_onTheWay_41 : decode cX3_onTheWay 41 = .ok (.getfield 10, 3) := by decide +kernel
theorem dX3_onTheWay_44 : decode cX3_onTheWay 44 = .ok (.getfield 105, 3) := by decide +kernel
theorem dX3_onTheWay_47 : decode cX3_onTheWay 47 = .ok (.isub, 1) := by decide +kernel
theorem dX3_onTheWay_48 : decode cX3_onTheWay 48 = .ok (.iconst 1, 1) := by decide +kernel
theorem dX3_onTheWay_49 : decode cX3_onTheWay 49 = .ok (.iadd, 1) := by decide +kernel
theorem dX3_onTheWay_50 : decode cX3_onTheWay 50 = .ok (.goto 5, 3) := by decide +kernel
theorem dX3_onTheWay_53 : decode cX3_onTheWay 53 = .ok (.bipush (-5), 2) := by decide +kernel
theorem dX3_onTheWay_55 : decode cX3_onTheWay 55 = .ok (.ireturn, 1) := by decide +kernel
theorem dX3_input_0 : decode cX3_input 0 = .ok (.iload_n 1, 1) := by decide +kernel
theorem dX3_input_1 : decode cX3_input 1 = .ok (.invokestatic 41, 3) := by decide +kernel
theorem dX3_input_4 : decode cX3_input 4 = .ok (.ifCond .ne 5, 3) := by decide +kernel
theorem dX3_input_7 : decode cX3_input 7 = .ok (.iconst (-1), 1) := by decide +kernel
theorem dX3_input_8 : decode cX3_input 8 = .ok (.ireturn, 1) := by decide +kernel
theorem dX3_input_9 : decode cX3_input 9 = .ok (.aload_n 0, 1) := by decide +kernel
theorem dX3_input_10 : decode cX3_input 10 = .ok (.getfield 10, 3) := by decide +kernel
theorem dX3_input_13 : decode cX3_input 13 = .ok (.getfield 77, 3) := by decide +kernel
theorem dX3_input_16 : decode cX3_input 16 = .ok (.iload_n 1, 1) := by decide +kernel
theorem dX3_input_17 : decode cX3_input 17 = .ok (.aaload, 1) := by decide +kernel
theorem dX3_input_18 : decode cX3_input 18 = .ok (.iload_n 2, 1) := by decide +kernel
theorem dX3_input_19 : decode cX3_input 19 = .ok (.invokevirtual 142, 3) := by decide +kernel
theorem dX3_input_22 : decode cX3_input 22 = .ok (.ireturn, 1) := by decide +kernel
theorem dX3_packet_0 : decode cX3_packet 0 = .ok (.iload_n 1, 1) := by decide +kernel
theorem dX3_packet_1 : decode cX3_packet 1 = .ok (.invokestatic 41, 3) := by decide +kernel
theorem dX3_packet_4 : decode cX3_packet 4 = .ok (.ifCond .ne 5, 3) := by decide +kernel
theorem dX3_packet_7 : decode cX3_packet 7 = .ok (.iconst (-1), 1) := by decide +kernel
theorem dX3_packet_8 : decode cX3_packet 8 = .ok (.ireturn, 1) := by decide +kernel
theorem dX3_packet_9 : decode cX3_packet 9 = .ok (.iload_n 2, 1) := by decide +kernel
theorem dX3_packet_10 : decode cX3_packet 10 = .ok (.ifCond .lt 12, 3) := by decide +kernel
theorem dX3_packet_13 : decode cX3_packet 13 = .ok (.iload_n 3, 1) := by decide +kernel
theorem dX3_packet_14 : decode cX3_packet 14 = .ok (.ifCond .lt 8, 3) := by decide +kernel
theorem dX3_packet_17 : decode cX3_packet 17 = .ok (.iload_n 3, 1) := by decide +kernel
theorem dX3_packet_18 : decode cX3_packet 18 = .ok (.iconst 2, 1) := by decide +kernel
theorem dX3_packet_19 : decode cX3_packet 19 = .ok (.if_icmp .le 6, 3) := by decide +kernel
theorem dX3_packet_22 : decode cX3_packet 22 = .ok (.bipush (-2), 2) := by decide +kernel
theorem dX3_packet_24 : decode cX3_packet 24 = .ok (.ireturn, 1) := by decide +kernel
theorem dX3_packet_25 : decode cX3_packet 25 = .ok (.aload_n 0, 1) := by decide +kernel
theorem dX3_packet_26 : decode cX3_packet 26 = .ok (.getfield 10, 3) := by decide +kernel
theorem dX3_packet_29 : decode cX3_packet 29 = .ok (.getfield 77, 3) := by decide +kernel
theorem dX3_packet_32 : decode cX3_packet 32 = .ok (.iload_n 1, 1) := by decide +kernel
theorem dX3_packet_33 : decode cX3_packet 33 = .ok (.aaload, 1) := by decide +kernel
theorem dX3_packet_34 : decode cX3_packet 34 = .ok (.iload_n 2, 1) := by decide +kernel
theorem dX3_packet_35 : decode cX3_packet 35 = .ok (.iload_n 3, 1) := by decide +kernel
theorem dX3_packet_36 : decode cX3_packet 36 = .ok (.invokevirtual 143, 3) := by decide +kernel
theorem dX3_packet_39 : decode cX3_packet 39 = .ok (.ireturn, 1) := by decide +kernel
theorem dX3_next_0 : decode cX3_next 0 = .ok (.iload_n 1, 1) := by decide +kernel
theorem dX3_next_1 : decode cX3_next 1 = .ok (.invokestatic 41, 3) := by decide +kernel
theorem dX3_next_4 : decode cX3_next 4 = .ok (.ifCond .ne 5, 3) := by decide +kernel
theorem dX3_next_7 : decode cX3_next 7 = .ok (.iconst (-1), 1) := by decide +kernel
theorem dX3_next_8 : decode cX3_next 8 = .ok (.ireturn, 1) := by decide +kernel
theorem dX3_next_9 : decode cX3_next 9 = .ok (.aload_n 0, 1) := by decide +kernel
theorem dX3_next_10 : decode cX3_next 10 = .ok (.getfield 16, 3) := by decide +kernel
theorem dX3_next_13 : decode cX3_next 13 = .ok (.aload_n 0, 1) := by decide +kernel
theorem dX3_next_14 : decode cX3_next 14 = .ok (.getfield 10, 3) := by decide +kernel
theorem dX3_next_17 : decode cX3_next 17 = .ok (.invokevirtual 95, 3) := by decide +kernel
theorem dX3_next_20 : decode cX3_next 20 = .ok (.aload_n 0, 1) := by decide +kernel
theorem dX3_next_21 : decode cX3_next 21 = .ok (.getfield 16, 3) := by decide +kernel
theorem dX3_next_24 : decode cX3_next 24 = .ok (.invokevirtual 146, 3) := by decide +kernel
theorem dX3_next_27 : decode cX3_next 27 = .ok (.bipush (-5), 2) := by decide +kernel
theorem dX3_next_29 : decode cX3_next 29 = .ok (.istore_n 2, 1) := by decide +kernel
theorem dX3_next_30 : decode cX3_next 30 = .ok (.iconst 0, 1) := by decide +kernel
theorem dX3_next_31 : decode cX3_next 31 = .ok (.istore_n 3, 1) := by decide +kernel
theorem dX3_next_32 : decode cX3_next 32 = .ok (.iload_n 3, 1) := by decide +kernel
theorem dX3_next_33 : decode cX3_next 33 = .ok (.iload_n 1, 1) := by decide +kernel
theorem dX3_next_34 : decode cX3_next 34 = .ok (.if_icmp .gt 18, 3) := by decide +kernel
theorem dX3_next_37 : decode cX3_next 37 = .ok (.aload_n 0, 1) := by decide +kernel
theorem dX3_next_38 : decode cX3_next 38 = .ok (.getfield 16, 3) := by decide +kernel
theorem dX3_next_41 : decode cX3_next 41 = .ok (.iload_n 3, 1) := by decide +kernel
theorem dX3_next_42 : decode cX3_next 42 = .ok (.invokevirtual 149, 3) := by decide +kernel
theorem dX3_next_45 : decode cX3_next 45 = .ok (.istore_n 2, 1) := by decide +kernel
theorem dX3_next_46 : decode cX3_next 46 = .ok (.iinc 3 1, 3) := by decide +kernel
theorem dX3_next_49 : decode cX3_next 49 = .ok (.goto (-17), 3) := by decide +kernel
theorem dX3_next_52 : decode cX3_next 52 = .ok (.iload_n 2, 1) := by decide +kernel
theorem dX3_next_53 : decode cX3_next 53 = .ok (.ireturn, 1) := by decide +kernel
theorem dX3_leavesIn_0 : decode cX3_leavesIn 0 = .ok (.iload_n 1, 1) := by decide +kernel
theorem dX3_leavesIn_1 : decode cX3_leavesIn 1 = .ok (.invokestatic 41, 3) := by decide +kernel
theorem dX3_leavesIn_4 : decode cX3_leavesIn 4 = .ok (.ifCond .ne 5, 3) := by decide +kernel
theorem dX3_leavesIn_7 : decode cX3_leavesIn 7 = .ok (.iconst (-1), 1) := by decide +kernel
theorem dX3_leavesIn_8 : decode cX3_leavesIn 8 = .ok (.ireturn, 1) := by decide +kernel
theorem dX3_leavesIn_9 : decode cX3_leavesIn 9 = .ok (.iload_n 2, 1) := by decide +kernel
theorem dX3_leavesIn_10 : decode cX3_leavesIn 10 = .ok (.ifCond .lt 19, 3) := by decide +kernel
theorem dX3_leavesIn_13 : decode cX3_leavesIn 13 = .ok (.iload_n 2, 1) := by decide +kernel
theorem dX3_leavesIn_14 : decode cX3_leavesIn 14 = .ok (.aload_n 0, 1) := by decide +kernel
theorem dX3_leavesIn_15 : decode cX3_leavesIn 15 = .ok (.getfield 10, 3) := by decide +kernel
theorem dX3_leavesIn_18 : decode cX3_leavesIn 18 = .ok (.getfield 77, 3) := by decide +kernel
theorem dX3_leavesIn_21 : decode cX3_leavesIn 21 = .ok (.iload_n 1, 1) := by decide +kernel
theorem dX3_leavesIn_22 : decode cX3_leavesIn 22 = .ok (.aaload, 1) := by decide +kernel
theorem dX3_leavesIn_23 : decode cX3_leavesIn 23 = .ok (.getfield 152, 3) := by decide +kernel
theorem dX3_leavesIn_26 : decode cX3_leavesIn 26 = .ok (.if_icmp .lt 6, 3) := by decide +kernel
theorem dX3_leavesIn_29 : decode cX3_leavesIn 29 = .ok (.bipush (-2), 2) := by decide +kernel
theorem dX3_leavesIn_31 : decode cX3_leavesIn 31 = .ok (.ireturn, 1) := by decide +kernel
theorem dX3_leavesIn_32 : decode cX3_leavesIn 32 = .ok (.aload_n 0, 1) := by decide +kernel
theorem dX3_leavesIn_33 : decode cX3_leavesIn 33 = .ok (.getfield 10, 3) := by decide +kernel
theorem dX3_leavesIn_36 : decode cX3_leavesIn 36 = .ok (.getfield 77, 3) := by decide +kernel
theorem dX3_leavesIn_39 : decode cX3_leavesIn 39 = .ok (.iload_n 1, 1) := by decide +kernel
theorem dX3_leavesIn_40 : decode cX3_leavesIn 40 = .ok (.aaload, 1) := by decide +kernel
theorem dX3_leavesIn_41 : decode cX3_leavesIn 41 = .ok (.getfield 155, 3) := by decide +kernel
theorem dX3_leavesIn_44 : decode cX3_leavesIn 44 = .ok (.iload_n 2, 1) := by decide +kernel
theorem dX3_leavesIn_45 : decode cX3_leavesIn 45 = .ok (.iaload, 1) := by decide +kernel
theorem dX3_leavesIn_46 : decode cX3_leavesIn 46 = .ok (.istore_n 3, 1) := by decide +kernel
theorem dX3_leavesIn_47 : decode cX3_leavesIn 47 = .ok (.aload_n 0, 1) := by decide +kernel
theorem dX3_leavesIn_48 : decode cX3_leavesIn 48 = .ok (.getfield 16, 3) := by decide +kernel
theorem dX3_leavesIn_51 : decode cX3_leavesIn 51 = .ok (.aload_n 0, 1) := by decide +kernel
theorem dX3_leavesIn_52 : decode cX3_leavesIn 52 = .ok (.getfield 10, 3) := by decide +kernel
theorem dX3_leavesIn_55 : decode cX3_leavesIn 55 = .ok (.invokevirtual 95, 3) := by decide +kernel
theorem dX3_leavesIn_58 : decode cX3_leavesIn 58 = .ok (.iconst 1, 1) := by decide +kernel
theorem dX3_leavesIn_59 : decode cX3_leavesIn 59 = .ok (.istore 4, 2) := by decide +kernel
theorem dX3_leavesIn_61 : decode cX3_leavesIn 61 = .ok (.iload 4, 2) := by decide +kernel
theorem dX3_leavesIn_63 : decode cX3_leavesIn 63 = .ok (.sipush 200, 3) := by decide +kernel
theorem dX3_leavesIn_66 : decode cX3_leavesIn 66 = .ok (.if_icmp .gt 36, 3) := by decide +kernel
theorem dX3_leavesIn_69 : decode cX3_leavesIn 69 = .ok (.aload_n 0, 1) := by decide +kernel
theorem dX3_leavesIn_70 : decode cX3_leavesIn 70 = .ok (.getfield 16, 3) := by decide +kernel
theorem dX3_leavesIn_73 : decode cX3_leavesIn 73 = .ok (.invokevirtual 158, 3) := by decide +kernel
theorem dX3_leavesIn_76 : decode cX3_leavesIn 76 = .ok (.pop, 1) := by decide +kernel
theorem dX3_leavesIn_77 : decode cX3_leavesIn 77 = .ok (.aload_n 0, 1) := by decide +kernel
theorem dX3_leavesIn_78 : decode cX3_leavesIn 78 = .ok (.getfield 16, 3) := by decide +kernel
theorem dX3_leavesIn_81 : decode cX3_leavesIn 81 = .ok (.getfield 77, 3) := by decide +kernel
theorem dX3_leavesIn_84 : decode cX3_leavesIn 84 = .ok (.iload_n 1, 1) := by decide +kernel
theorem dX3_leavesIn_85 : decode cX3_leavesIn 85 = .ok (.aaload, 1) := by decide +kernel
theorem dX3_leavesIn_86 : decode cX3_leavesIn 86 = .ok (.iload_n 3, 1) := by decide +kernel
theorem dX3_leavesIn_87 : decode cX3_leavesIn 87 = .ok (.invokevirtual 161, 3) := by decide +kernel
theorem dX3_leavesIn_90 : decode cX3_leavesIn 90 = .ok (.ifCond .ne 6, 3) := by decide +kernel
theorem dX3_leavesIn_93 : decode cX3_leavesIn 93 = .ok (.iload 4, 2) := by decide +kernel
theorem dX3_leavesIn_95 : decode cX3_leavesIn 95 = .ok (.ireturn, 1) := by decide +kernel
theorem dX3_leavesIn_96 : decode cX3_leavesIn 96 = .ok (.iinc 4 1, 3) := by decide +kernel
theorem dX3_leavesIn_99 : decode cX3_leavesIn 99 = .ok (.goto (-38), 3) := by decide +kernel
theorem dX3_leavesIn_102 : decode cX3_leavesIn 102 = .ok (.bipush (-5), 2) := by decide +kernel
theorem dX3_leavesIn_104 : decode cX3_leavesIn 104 = .ok (.ireturn, 1) := by decide +kernel
theorem dX3_wouldSend_0 : decode cX3_wouldSend 0 = .ok (.iload_n 1, 1) := by decide +kernel
theorem dX3_wouldSend_1 : decode cX3_wouldSend 1 = .ok (.invokestatic 102, 3) := by decide +kernel
theorem dX3_wouldSend_4 : decode cX3_wouldSend 4 = .ok (.ifCond .eq 15, 3) := by decide +kernel
theorem dX3_wouldSend_7 : decode cX3_wouldSend 7 = .ok (.iload_n 2, 1) := by decide +kernel
theorem dX3_wouldSend_8 : decode cX3_wouldSend 8 = .ok (.ifCond .lt 11, 3) := by decide +kernel
theorem dX3_wouldSend_11 : decode cX3_wouldSend 11 = .ok (.iload_n 2, 1) := by decide +kernel
theorem dX3_wouldSend_12 : decode cX3_wouldSend 12 = .ok (.iconst 0, 1) := by decide +kernel
theorem dX3_wouldSend_13 : decode cX3_wouldSend 13 = .ok (.invokestatic 68, 3) := by decide +kernel
theorem dX3_wouldSend_16 : decode cX3_wouldSend 16 = .ok (.if_icmp .le 6, 3) := by decide +kernel
theorem dX3_wouldSend_19 : decode cX3_wouldSend 19 = .ok (.bipush (-2), 2) := by decide +kernel
theorem dX3_wouldSend_21 : decode cX3_wouldSend 21 = .ok (.ireturn, 1) := by decide +kernel
theorem dX3_wouldSend_22 : decode cX3_wouldSend 22 = .ok (.aload_n 0, 1) := by decide +kernel
theorem dX3_wouldSend_23 : decode cX3_wouldSend 23 = .ok (.getfield 16, 3) := by decide +kernel
theorem dX3_wouldSend_26 : decode cX3_wouldSend 26 = .ok (.aload_n 0, 1) := by decide +kernel
theorem dX3_wouldSend_27 : decode cX3_wouldSend 27 = .ok (.getfield 10, 3) := by decide +kernel
theorem dX3_wouldSend_30 : decode cX3_wouldSend 30 = .ok (.invokevirtual 95, 3) := by decide +kernel
theorem dX3_wouldSend_33 : decode cX3_wouldSend 33 = .ok (.aload_n 0, 1) := by decide +kernel
theorem dX3_wouldSend_34 : decode cX3_wouldSend 34 = .ok (.getfield 16, 3) := by decide +kernel
theorem dX3_wouldSend_37 : decode cX3_wouldSend 37 = .ok (.iload_n 2, 1) := by decide +kernel
theorem dX3_wouldSend_38 : decode cX3_wouldSend 38 = .ok (.putfield 71, 3) := by decide +kernel
theorem dX3_wouldSend_41 : decode cX3_wouldSend 41 = .ok (.aload_n 0, 1) := by decide +kernel
theorem dX3_wouldSend_42 : decode cX3_wouldSend 42 = .ok (.getfield 16, 3) := by decide +kernel
theorem dX3_wouldSend_45 : decode cX3_wouldSend 45 = .ok (.iload_n 1, 1) := by decide +kernel
theorem dX3_wouldSend_46 : decode cX3_wouldSend 46 = .ok (.invokevirtual 108, 3) := by decide +kernel
theorem dX3_wouldSend_49 : decode cX3_wouldSend 49 = .ok (.ireturn, 1) := by decide +kernel
theorem dX3_count_0 : decode cX3_count 0 = .ok (.iload_n 1, 1) := by decide +kernel
theorem dX3_count_1 : decode cX3_count 1 = .ok (.bipush 11, 2) := by decide +kernel
theorem dX3_count_3 : decode cX3_count 3 = .ok (.if_icmp .ne 8, 3) := by decide +kernel
theorem dX3_count_6 : decode cX3_count 6 = .ok (.aload_n 0, 1) := by decide +kernel
theorem dX3_count_7 : decode cX3_count 7 = .ok (.getfield 30, 3) := by decide +kernel
theorem dX3_count_10 : decode cX3_count 10 = .ok (.ireturn, 1) := by decide +kernel
theorem dX3_count_11 : decode cX3_count 11 = .ok (.iload_n 1, 1) := by decide +kernel
theorem dX3_count_12 : decode cX3_count 12 = .ok (.bipush 12, 2) := by decide +kernel
theorem dX3_count_14 : decode cX3_count 14 = .ok (.if_icmp .ne 8, 3) := by decide +kernel
theorem dX3_count_17 : decode cX3_count 17 = .ok (.aload_n 0, 1) := by decide +kernel
theorem dX3_count_18 : decode cX3_count 18 = .ok (.getfield 38, 3) := by decide +kernel
theorem dX3_count_21 : decode cX3_count 21 = .ok (.ireturn, 1) := by decide +kernel
theorem dX3_count_22 : decode cX3_count 22 = .ok (.aload_n 0, 1) := by decide +kernel
theorem dX3_count_23 : decode cX3_count 23 = .ok (.getfield 10, 3) := by decide +kernel
theorem dX3_count_26 : decode cX3_count 26 = .ok (.iload_n 1, 1) := by decide +kernel
theorem dX3_count_27 : decode cX3_count 27 = .ok (.invokevirtual 164, 3) := by decide +kernel
theorem dX3_count_30 : decode cX3_count 30 = .ok (.ireturn, 1) := by decide +kernel
theorem dX3_isPort_0 : decode cX3_isPort 0 = .ok (.iload_n 0, 1) := by decide +kernel
theorem dX3_isPort_1 : decode cX3_isPort 1 = .ok (.ifCond .lt 12, 3) := by decide +kernel
theorem dX3_isPort_4 : decode cX3_isPort 4 = .ok (.iload_n 0, 1) := by decide +kernel
theorem dX3_isPort_5 : decode cX3_isPort 5 = .ok (.iconst 4, 1) := by decide +kernel
theorem dX3_isPort_6 : decode cX3_isPort 6 = .ok (.if_icmp .ge 7, 3) := by decide +kernel
theorem dX3_isPort_9 : decode cX3_isPort 9 = .ok (.iconst 1, 1) := by decide +kernel
theorem dX3_isPort_10 : decode cX3_isPort 10 = .ok (.goto 4, 3) := by decide +kernel
theorem dX3_isPort_13 : decode cX3_isPort 13 = .ok (.iconst 0, 1) := by decide +kernel
theorem dX3_isPort_14 : decode cX3_isPort 14 = .ok (.ireturn, 1) := by decide +kernel
theorem dX3_isTickCount_0 : decode cX3_isTickCount 0 = .ok (.iload_n 0, 1) := by decide +kernel
theorem dX3_isTickCount_1 : decode cX3_isTickCount 1 = .ok (.iconst 1, 1) := by decide +kernel
theorem dX3_isTickCount_2 : decode cX3_isTickCount 2 = .ok (.if_icmp .lt 13, 3) := by decide +kernel
theorem dX3_isTickCount_5 : decode cX3_isTickCount 5 = .ok (.iload_n 0, 1) := by decide +kernel
theorem dX3_isTickCount_6 : decode cX3_isTickCount 6 = .ok (.bipush 50, 2) := by decide +kernel
theorem dX3_isTickCount_8 : decode cX3_isTickCount 8 = .ok (.if_icmp .gt 7, 3) := by decide +kernel
theorem dX3_isTickCount_11 : decode cX3_isTickCount 11 = .ok (.iconst 1, 1) := by decide +kernel
theorem dX3_isTickCount_12 : decode cX3_isTickCount 12 = .ok (.goto 4, 3) := by decide +kernel
theorem dX3_isTickCount_15 : decode cX3_isTickCount 15 = .ok (.iconst 0, 1) := by decide +kernel
theorem dX3_isTickCount_16 : decode cX3_isTickCount 16 = .ok (.ireturn, 1) := by decide +kernel
theorem dX3_mostOfLane_0 : decode cX3_mostOfLane 0 = .ok (.iload_n 0, 1) := by decide +kernel
theorem dX3_mostOfLane_1 : decode cX3_mostOfLane 1 = .ok (.tableswitch 36 0 2 #[27, 30, 33], 27) := by decide +kernel
theorem dX3_mostOfLane_28 : decode cX3_mostOfLane 28 = .ok (.bipush 8, 2) := by decide +kernel
theorem dX3_mostOfLane_30 : decode cX3_mostOfLane 30 = .ok (.ireturn, 1) := by decide +kernel
theorem dX3_mostOfLane_31 : decode cX3_mostOfLane 31 = .ok (.bipush 9, 2) := by decide +kernel
theorem dX3_mostOfLane_33 : decode cX3_mostOfLane 33 = .ok (.ireturn, 1) := by decide +kernel
theorem dX3_mostOfLane_34 : decode cX3_mostOfLane 34 = .ok (.bipush 6, 2) := by decide +kernel
theorem dX3_mostOfLane_36 : decode cX3_mostOfLane 36 = .ok (.ireturn, 1) := by decide +kernel
theorem dX3_mostOfLane_37 : decode cX3_mostOfLane 37 = .ok (.iconst (-1), 1) := by decide +kernel
theorem dX3_mostOfLane_38 : decode cX3_mostOfLane 38 = .ok (.ireturn, 1) := by decide +kernel
theorem dX3_mostOfBox_0 : decode cX3_mostOfBox 0 = .ok (.iload_n 0, 1) := by decide +kernel
theorem dX3_mostOfBox_1 : decode cX3_mostOfBox 1 = .ok (.lookupswitch 32 #[(0, 27), (1, 29)], 27) := by decide +kernel
theorem dX3_mostOfBox_28 : decode cX3_mostOfBox 28 = .ok (.iconst 1, 1) := by decide +kernel
theorem dX3_mostOfBox_29 : decode cX3_mostOfBox 29 = .ok (.ireturn, 1) := by decide +kernel
theorem dX3_mostOfBox_30 : decode cX3_mostOfBox 30 = .ok (.bipush 60, 2) := by decide +kernel
theorem dX3_mostOfBox_32 : decode cX3_mostOfBox 32 = .ok (.ireturn, 1) := by decide +kernel
theorem dX3_mostOfBox_33 : decode cX3_mostOfBox 33 = .ok (.iconst (-1), 1) := by decide +kernel
theorem dX3_mostOfBox_34 : decode cX3_mostOfBox 34 = .ok (.ireturn, 1) := by decide +kernel
theorem dX3_remember_0 : decode cX3_remember 0 = .ok (.aload_n 0, 1) := by decide +kernel
theorem dX3_remember_1 : decode cX3_remember 1 = .ok (.getfield 30, 3) := by decide +kernel
theorem dX3_remember_4 : decode cX3_remember 4 = .ok (.iconst 4, 1) := by decide +kernel
theorem dX3_remember_5 : decode cX3_remember 5 = .ok (.if_icmp .lt 7, 3) := by decide +kernel
theorem dX3_remember_8 : decode cX3_remember 8 = .ok (.aload_n 0, 1) := by decide +kernel
theorem dX3_remember_9 : decode cX3_remember 9 = .ok (.invokevirtual 165, 3) := by decide +kernel
theorem dX3_remember_12 : decode cX3_remember 12 = .ok (.aload_n 0, 1) := by decide +kernel
theorem dX3_remember_13 : decode cX3_remember 13 = .ok (.getfield 26, 3) := by decide +kernel
theorem dX3_remember_16 : decode cX3_remember 16 = .ok (.aload_n 0, 1) := by decide +kernel
theorem dX3_remember_17 : decode cX3_remember 17 = .ok (.getfield 30, 3) := by decide +kernel
theorem dX3_remember_20 : decode cX3_remember 20 = .ok (.aaload, 1) := by decide +kernel
theorem dX3_remember_21 : decode cX3_remember 21 = .ok (.aload_n 0, 1) := by decide +kernel
theorem dX3_remember_22 : decode cX3_remember 22 = .ok (.getfield 10, 3) := by decide +kernel
theorem dX3_remember_25 : decode cX3_remember 25 = .ok (.invokevirtual 95, 3) := by decide +kernel
theorem dX3_remember_28 : decode cX3_remember 28 = .ok (.aload_n 0, 1) := by decide +kernel
theorem dX3_remember_29 : decode cX3_remember 29 = .ok (.dup, 1) := by decide +kernel
theorem dX3_remember_30 : decode cX3_remember 30 = .ok (.getfield 30, 3) := by decide +kernel
theorem dX3_remember_33 : decode cX3_remember 33 = .ok (.iconst 1, 1) := by decide +kernel
theorem dX3_remember_34 : decode cX3_remember 34 = .ok (.iadd, 1) := by decide +kernel
theorem dX3_remember_35 : decode cX3_remember 35 = .ok (.putfield 30, 3) := by decide +kernel
theorem dX3_remember_38 : decode cX3_remember 38 = .ok (.return_, 1) := by decide +kernel
theorem dX3_dropOldest_0 : decode cX3_dropOldest 0 = .ok (.aload_n 0, 1) := by decide +kernel
theorem dX3_dropOldest_1 : decode cX3_dropOldest 1 = .ok (.getfield 26, 3) := by decide +kernel
theorem dX3_dropOldest_4 : decode cX3_dropOldest 4 = .ok (.iconst 0, 1) := by decide +kernel
theorem dX3_dropOldest_5 : decode cX3_dropOldest 5 = .ok (.aaload, 1) := by decide +kernel
theorem dX3_dropOldest_6 : decode cX3_dropOldest 6 = .ok (.astore_n 1, 1) := by decide +kernel
theorem dX3_dropOldest_7 : decode cX3_dropOldest 7 = .ok (.iconst 1, 1) := by decide +kernel
theorem dX3_dropOldest_8 : decode cX3_dropOldest 8 = .ok (.istore_n 2, 1) := by decide +kernel
theorem dX3_dropOldest_9 : decode cX3_dropOldest 9 = .ok (.iload_n 2, 1) := by decide +kernel
theorem dX3_dropOldest_10 : decode cX3_dropOldest 10 = .ok (.iconst 4, 1) := by decide +kernel
theorem dX3_dropOldest_11 : decode cX3_dropOldest 11 = .ok (.if_icmp .ge 23, 3) := by decide +kernel
theorem dX3_dropOldest_14 : decode cX3_dropOldest 14 = .ok (.aload_n 0, 1) := by decide +kernel
theorem dX3_dropOldest_15 : decode cX3_dropOldest 15 = .ok (.getfield 26, 3) := by decide +kernel
theorem dX3_dropOldest_18 : decode cX3_dropOldest 18 = .ok (.iload_n 2, 1) := by decide +kernel
theorem dX3_dropOldest_19 : decode cX3_dropOldest 19 = .ok (.iconst 1, 1) := by decide +kernel
theorem dX3_dropOldest_20 : decode cX3_dropOldest 20 = .ok (.isub, 1) := by decide +kernel
theorem dX3_dropOldest_21 : decode cX3_dropOldest 21 = .ok (.aload_n 0, 1) := by decide +kernel
theorem dX3_dropOldest_22 : decode cX3_dropOldest 22 = .ok (.getfield 26, 3) := by decide +kernel
theorem dX3_dropOldest_25 : decode cX3_dropOldest 25 = .ok (.iload_n 2, 1) := by decide +kernel
theorem dX3_dropOldest_26 : decode cX3_dropOldest 26 = .ok (.aaload, 1) := by decide +kernel
theorem dX3_dropOldest_27 : decode cX3_dropOldest 27 = .ok (.aastore, 1) := by decide +kernel
theorem dX3_dropOldest_28 : decode cX3_dropOldest 28 = .ok (.iinc 2 1, 3) := by decide +kernel
theorem dX3_dropOldest_31 : decode cX3_dropOldest 31 = .ok (.goto (-22), 3) := by decide +kernel
theorem dX3_dropOldest_34 : decode cX3_dropOldest 34 = .ok (.aload_n 0, 1) := by decide +kernel
theorem dX3_dropOldest_35 : decode cX3_dropOldest 35 = .ok (.getfield 26, 3) := by decide +kernel
theorem dX3_dropOldest_38 : decode cX3_dropOldest 38 = .ok (.iconst 3, 1) := by decide +kernel
theorem dX3_dropOldest_39 : decode cX3_dropOldest 39 = .ok (.aload_n 1, 1) := by decide +kernel
theorem dX3_dropOldest_40 : decode cX3_dropOldest 40 = .ok (.aastore, 1) := by decide +kernel
theorem dX3_dropOldest_41 : decode cX3_dropOldest 41 = .ok (.aload_n 0, 1) := by decide +kernel
theorem dX3_dropOldest_42 : decode cX3_dropOldest 42 = .ok (.iconst 3, 1) := by decide +kernel
theorem dX3_dropOldest_43 : decode cX3_dropOldest 43 = .ok (.putfield 30, 3) := by decide +kernel
theorem dX3_dropOldest_46 : decode cX3_dropOldest 46 = .ok (.return_, 1) := by decide +kernel
theorem dX3_faultOfText_0 : decode cX3_faultOfText 0 = .ok (.iconst 0, 1) := by decide +kernel
theorem dX3_faultOfText_1 : decode cX3_faultOfText 1 = .ok (.istore_n 1, 1) := by decide +kernel
theorem dX3_faultOfText_2 : decode cX3_faultOfText 2 = .ok (.iconst 0, 1) := by decide +kernel
theorem dX3_faultOfText_3 : decode cX3_faultOfText 3 = .ok (.istore_n 2, 1) := by decide +kernel
theorem dX3_faultOfText_4 : decode cX3_faultOfText 4 = .ok (.iload_n 2, 1) := by decide +kernel
theorem dX3_faultOfText_5 : decode cX3_faultOfText 5 = .ok (.aload_n 0, 1) := by decide +kernel
theorem dX3_faultOfText_6 : decode cX3_faultOfText 6 = .ok (.getfield 38, 3) := by decide +kernel
theorem dX3_faultOfText_9 : decode cX3_faultOfText 9 = .ok (.if_icmp .ge 27, 3) := by decide +kernel
theorem dX3_faultOfText_12 : decode cX3_faultOfText 12 = .ok (.iload_n 1, 1) := by decide +kernel
theorem dX3_faultOfText_13 : decode cX3_faultOfText 13 = .ok (.aload_n 0, 1) := by decide +kernel
theorem dX3_faultOfText_14 : decode cX3_faultOfText 14 = .ok (.getfield 34, 3) := by decide +kernel
theorem dX3_faultOfText_17 : decode cX3_faultOfText 17 = .ok (.iload_n 2, 1) := by decide +kernel
theorem dX3_faultOfText_18 : decode cX3_faultOfText 18 = .ok (.caload, 1) := by decide +kernel
theorem dX3_faultOfText_19 : decode cX3_faultOfText 19 = .ok (.invokestatic 168, 3) := by decide +kernel
theorem dX3_faultOfText_22 : decode cX3_faultOfText 22 = .ok (.istore_n 1, 1) := by decide +kernel
theorem dX3_faultOfText_23 : decode cX3_faultOfText 23 = .ok (.iload_n 1, 1) := by decide +kernel
theorem dX3_faultOfText_24 : decode cX3_faultOfText 24 = .ok (.iconst (-1), 1) := by decide +kernel
theorem dX3_faultOfText_25 : decode cX3_faultOfText 25 = .ok (.if_icmp .ne 5, 3) := by decide +kernel
theorem dX3_faultOfText_28 : decode cX3_faultOfText 28 = .ok (.iload_n 2, 1) := by decide +kernel
theorem dX3_faultOfText_29 : decode cX3_faultOfText 29 = .ok (.ireturn, 1) := by decide +kernel
theorem dX3_faultOfText_30 : decode cX3_faultOfText 30 = .ok (.iinc 2 1, 3) := by decide +kernel
theorem dX3_faultOfText_33 : decode cX3_faultOfText 33 = .ok (.goto (-29), 3) := by decide +kernel
theorem dX3_faultOfText_36 : decode cX3_faultOfText 36 = .ok (.iload_n 1, 1) := by decide +kernel
theorem dX3_faultOfText_37 : decode cX3_faultOfText 37 = .ok (.iconst 3, 1) := by decide +kernel
theorem dX3_faultOfText_38 : decode cX3_faultOfText 38 = .ok (.if_icmp .eq 8, 3) := by decide +kernel
theorem dX3_faultOfText_41 : decode cX3_faultOfText 41 = .ok (.iload_n 1, 1) := by decide +kernel
theorem dX3_faultOfText_42 : decode cX3_faultOfText 42 = .ok (.iconst 5, 1) := by decide +kernel
theorem dX3_faultOfText_43 : decode cX3_faultOfText 43 = .ok (.if_icmp .ne 7, 3) := by decide +kernel
theorem dX3_faultOfText_46 : decode cX3_faultOfText 46 = .ok (.iconst 1, 1) := by decide +kernel
theorem dX3_faultOfText_47 : decode cX3_faultOfText 47 = .ok (.goto 4, 3) := by decide +kernel
theorem dX3_faultOfText_50 : decode cX3_faultOfText 50 = .ok (.iconst 0, 1) := by decide +kernel
theorem dX3_faultOfText_51 : decode cX3_faultOfText 51 = .ok (.istore_n 2, 1) := by decide +kernel
theorem dX3_faultOfText_52 : decode cX3_faultOfText 52 = .ok (.iload_n 2, 1) := by decide +kernel
theorem dX3_faultOfText_53 : decode cX3_faultOfText 53 = .ok (.ifCond .eq 7, 3) := by decide +kernel
theorem dX3_faultOfText_56 : decode cX3_faultOfText 56 = .ok (.iconst (-1), 1) := by decide +kernel
theorem dX3_faultOfText_57 : decode cX3_faultOfText 57 = .ok (.goto 7, 3) := by decide +kernel
theorem dX3_faultOfText_60 : decode cX3_faultOfText 60 = .ok (.aload_n 0, 1) := by decide +kernel
theorem dX3_faultOfText_61 : decode cX3_faultOfText 61 = .ok (.getfield 38, 3) := by decide +kernel
theorem dX3_faultOfText_64 : decode cX3_faultOfText 64 = .ok (.ireturn, 1) := by decide +kernel
theorem dX3_dueBehind_0 : decode cX3_dueBehind 0 = .ok (.iload_n 0, 1) := by decide +kernel
theorem dX3_dueBehind_1 : decode cX3_dueBehind 1 = .ok (.tableswitch 117 0 4 #[35, 51, 63, 79, 99], 35) := by decide +kernel
theorem dX3_dueBehind_36 : decode cX3_dueBehind 36 = .ok (.iload_n 1, 1) := by decide +kernel
theorem dX3_dueBehind_37 : decode cX3_dueBehind 37 = .ok (.bipush 48, 2) := by decide +kernel
theorem dX3_dueBehind_39 : decode cX3_dueBehind 39 = .ok (.isub, 1) := by decide +kernel
theorem dX3_dueBehind_40 : decode cX3_dueBehind 40 = .ok (.invokestatic 41, 3) := by decide +kernel
theorem dX3_dueBehind_43 : decode cX3_dueBehind 43 = .ok (.ifCond .eq 7, 3) := by decide +kernel
theorem dX3_dueBehind_46 : decode cX3_dueBehind 46 = .ok (.iconst 1, 1) := by decide +kernel
theorem dX3_dueBehind_47 : decode cX3_dueBehind 47 = .ok (.goto 4, 3) := by decide +kernel
theorem dX3_dueBehind_50 : decode cX3_dueBehind 50 = .ok (.iconst (-1), 1) := by decide +kernel
theorem dX3_dueBehind_51 : decode cX3_dueBehind 51 = .ok (.ireturn, 1) := by decide +kernel
theorem dX3_dueBehind_52 : decode cX3_dueBehind 52 = .ok (.iload_n 1, 1) := by decide +kernel
theorem dX3_dueBehind_53 : decode cX3_dueBehind 53 = .ok (.bipush 62, 2) := by decide +kernel
theorem dX3_dueBehind_55 : decode cX3_dueBehind 55 = .ok (.if_icmp .ne 7, 3) := by decide +kernel
theorem dX3_dueBehind_58 : decode cX3_dueBehind 58 = .ok (.iconst 2, 1) := by decide +kernel
theorem dX3_dueBehind_59 : decode cX3_dueBehind 59 = .ok (.goto 4, 3) := by decide +kernel
theorem dX3_dueBehind_62 : decode cX3_dueBehind 62 = .ok (.iconst (-1), 1) := by decide +kernel
theorem dX3_dueBehind_63 : decode cX3_dueBehind 63 = .ok (.ireturn, 1) := by decide +kernel
theorem dX3_dueBehind_64 : decode cX3_dueBehind 64 = .ok (.iload_n 1, 1) := by decide +kernel
theorem dX3_dueBehind_65 : decode cX3_dueBehind 65 = .ok (.bipush 48, 2) := by decide +kernel
theorem dX3_dueBehind_67 : decode cX3_dueBehind 67 = .ok (.isub, 1) := by decide +kernel
theorem dX3_dueBehind_68 : decode cX3_dueBehind 68 = .ok (.invokestatic 41, 3) := by decide +kernel
theorem dX3_dueBehind_71 : decode cX3_dueBehind 71 = .ok (.ifCond .eq 7, 3) := by decide +kernel
theorem dX3_dueBehind_74 : decode cX3_dueBehind 74 = .ok (.iconst 3, 1) := by decide +kernel
theorem dX3_dueBehind_75 : decode cX3_dueBehind 75 = .ok (.goto 4, 3) := by decide +kernel
theorem dX3_dueBehind_78 : decode cX3_dueBehind 78 = .ok (.iconst (-1), 1) := by decide +kernel
theorem dX3_dueBehind_79 : decode cX3_dueBehind 79 = .ok (.ireturn, 1) := by decide +kernel
theorem dX3_dueBehind_80 : decode cX3_dueBehind 80 = .ok (.iload_n 1, 1) := by decide +kernel
theorem dX3_dueBehind_81 : decode cX3_dueBehind 81 = .ok (.bipush 42, 2) := by decide +kernel
theorem dX3_dueBehind_83 : decode cX3_dueBehind 83 = .ok (.if_icmp .ne 5, 3) := by decide +kernel
theorem dX3_dueBehind_86 : decode cX3_dueBehind 86 = .ok (.iconst 4, 1) := by decide +kernel
theorem dX3_dueBehind_87 : decode cX3_dueBehind 87 = .ok (.ireturn, 1) := by decide +kernel
theorem dX3_dueBehind_88 : decode cX3_dueBehind 88 = .ok (.iload_n 1, 1) := by decide +kernel
theorem dX3_dueBehind_89 : decode cX3_dueBehind 89 = .ok (.bipush 44, 2) := by decide +kernel
theorem dX3_dueBehind_91 : decode cX3_dueBehind 91 = .ok (.if_icmp .ne 7, 3) := by decide +kernel
theorem dX3_dueBehind_94 : decode cX3_dueBehind 94 = .ok (.iconst 0, 1) := by decide +kernel
theorem dX3_dueBehind_95 : decode cX3_dueBehind 95 = .ok (.goto 4, 3) := by decide +kernel
theorem dX3_dueBehind_98 : decode cX3_dueBehind 98 = .ok (.iconst (-1), 1) := by decide +kernel
theorem dX3_dueBehind_99 : decode cX3_dueBehind 99 = .ok (.ireturn, 1) := by decide +kernel
theorem dX3_dueBehind_100 : decode cX3_dueBehind 100 = .ok (.iload_n 1, 1) := by decide +kernel
theorem dX3_dueBehind_101 : decode cX3_dueBehind 101 = .ok (.bipush 49, 2) := by decide +kernel
theorem dX3_dueBehind_103 : decode cX3_dueBehind 103 = .ok (.if_icmp .lt 13, 3) := by decide +kernel
theorem dX3_dueBehind_106 : decode cX3_dueBehind 106 = .ok (.iload_n 1, 1) := by decide +kernel
theorem dX3_dueBehind_107 : decode cX3_dueBehind 107 = .ok (.bipush 57, 2) := by decide +kernel
theorem dX3_dueBehind_109 : decode cX3_dueBehind 109 = .ok (.if_icmp .gt 7, 3) := by decide +kernel
theorem dX3_dueBehind_112 : decode cX3_dueBehind 112 = .ok (.iconst 5, 1) := by decide +kernel
theorem dX3_dueBehind_113 : decode cX3_dueBehind 113 = .ok (.goto 4, 3) := by decide +kernel
theorem dX3_dueBehind_116 : decode cX3_dueBehind 116 = .ok (.iconst (-1), 1) := by decide +kernel
theorem dX3_dueBehind_117 : decode cX3_dueBehind 117 = .ok (.ireturn, 1) := by decide +kernel
theorem dX3_dueBehind_118 : decode cX3_dueBehind 118 = .ok (.iload_n 1, 1) := by decide +kernel
theorem dX3_dueBehind_119 : decode cX3_dueBehind 119 = .ok (.bipush 44, 2) := by decide +kernel
theorem dX3_dueBehind_121 : decode cX3_dueBehind 121 = .ok (.if_icmp .ne 7, 3) := by decide +kernel
theorem dX3_dueBehind_124 : decode cX3_dueBehind 124 = .ok (.iconst 0, 1) := by decide +kernel
theorem dX3_dueBehind_125 : decode cX3_dueBehind 125 = .ok (.goto 4, 3) := by decide +kernel
theorem dX3_dueBehind_128 : decode cX3_dueBehind 128 = .ok (.iconst (-1), 1) := by decide +kernel
theorem dX3_dueBehind_129 : decode cX3_dueBehind 129 = .ok (.ireturn, 1) := by decide +kernel
theorem dX3_admitTextToTrial_0 : decode cX3_admitTextToTrial 0 = .ok (.iconst 0, 1) := by decide +kernel
theorem dX3_admitTextToTrial_1 : decode cX3_admitTextToTrial 1 = .ok (.istore_n 1, 1) := by decide +kernel
theorem dX3_admitTextToTrial_2 : decode cX3_admitTextToTrial 2 = .ok (.iconst 0, 1) := by decide +kernel
theorem dX3_admitTextToTrial_3 : decode cX3_admitTextToTrial 3 = .ok (.istore_n 2, 1) := by decide +kernel
theorem dX3_admitTextToTrial_4 : decode cX3_admitTextToTrial 4 = .ok (.iload_n 2, 1) := by decide +kernel
theorem dX3_admitTextToTrial_5 : decode cX3_admitTextToTrial 5 = .ok (.iconst 2, 1) := by decide +kernel
theorem dX3_admitTextToTrial_6 : decode cX3_admitTextToTrial 6 = .ok (.iadd, 1) := by decide +kernel
theorem dX3_admitTextToTrial_7 : decode cX3_admitTextToTrial 7 = .ok (.aload_n 0, 1) := by decide +kernel
theorem dX3_admitTextToTrial_8 : decode cX3_admitTextToTrial 8 = .ok (.getfield 38, 3) := by decide +kernel
theorem dX3_admitTextToTrial_11 : decode cX3_admitTextToTrial 11 = .ok (.if_icmp .ge 119, 3) := by decide +kernel
theorem dX3_admitTextToTrial_14 : decode cX3_admitTextToTrial 14 = .ok (.aload_n 0, 1) := by decide +kernel
theorem dX3_admitTextToTrial_15 : decode cX3_admitTextToTrial 15 = .ok (.getfield 34, 3) := by decide +kernel
theorem dX3_admitTextToTrial_18 : decode cX3_admitTextToTrial 18 = .ok (.iload_n 2, 1) := by decide +kernel
theorem dX3_admitTextToTrial_19 : decode cX3_admitTextToTrial 19 = .ok (.caload, 1) := by decide +kernel
theorem dX3_admitTextToTrial_20 : decode cX3_admitTextToTrial 20 = .ok (.bipush 48, 2) := by decide +kernel
theorem dX3_admitTextToTrial_22 : decode cX3_admitTextToTrial 22 = .ok (.isub, 1) := by decide +kernel
theorem dX3_admitTextToTrial_23 : decode cX3_admitTextToTrial 23 = .ok (.istore_n 3, 1) := by decide +kernel
theorem dX3_admitTextToTrial_24 : decode cX3_admitTextToTrial 24 = .ok (.aload_n 0, 1) := by decide +kernel
theorem dX3_admitTextToTrial_25 : decode cX3_admitTextToTrial 25 = .ok (.getfield 34, 3) := by decide +kernel
theorem dX3_admitTextToTrial_28 : decode cX3_admitTextToTrial 28 = .ok (.iload_n 2, 1) := by decide +kernel
theorem dX3_admitTextToTrial_29 : decode cX3_admitTextToTrial 29 = .ok (.iconst 2, 1) := by decide +kernel
theorem dX3_admitTextToTrial_30 : decode cX3_admitTextToTrial 30 = .ok (.iadd, 1) := by decide +kernel
theorem dX3_admitTextToTrial_31 : decode cX3_admitTextToTrial 31 = .ok (.caload, 1) := by decide +kernel
theorem dX3_admitTextToTrial_32 : decode cX3_admitTextToTrial 32 = .ok (.bipush 48, 2) := by decide +kernel
theorem dX3_admitTextToTrial_34 : decode cX3_admitTextToTrial 34 = .ok (.isub, 1) := by decide +kernel
theorem dX3_admitTextToTrial_35 : decode cX3_admitTextToTrial 35 = .ok (.istore 4, 2) := by decide +kernel
theorem dX3_admitTextToTrial_37 : decode cX3_admitTextToTrial 37 = .ok (.aload_n 0, 1) := by decide +kernel
theorem dX3_admitTextToTrial_38 : decode cX3_admitTextToTrial 38 = .ok (.iload_n 2, 1) := by decide +kernel
theorem dX3_admitTextToTrial_39 : decode cX3_admitTextToTrial 39 = .ok (.invokevirtual 172, 3) := by decide +kernel
theorem dX3_admitTextToTrial_42 : decode cX3_admitTextToTrial 42 = .ok (.ifCond .eq 17, 3) := by decide +kernel
theorem dX3_admitTextToTrial_45 : decode cX3_admitTextToTrial 45 = .ok (.aload_n 0, 1) := by decide +kernel
theorem dX3_admitTextToTrial_46 : decode cX3_admitTextToTrial 46 = .ok (.getfield 34, 3) := by decide +kernel
theorem dX3_admitTextToTrial_49 : decode cX3_admitTextToTrial 49 = .ok (.iload_n 2, 1) := by decide +kernel
theorem dX3_admitTextToTrial_50 : decode cX3_admitTextToTrial 50 = .ok (.iconst 4, 1) := by decide +kernel
theorem dX3_admitTextToTrial_51 : decode cX3_admitTextToTrial 51 = .ok (.iadd, 1) := by decide +kernel
theorem dX3_admitTextToTrial_52 : decode cX3_admitTextToTrial 52 = .ok (.caload, 1) := by decide +kernel
theorem dX3_admitTextToTrial_53 : decode cX3_admitTextToTrial 53 = .ok (.bipush 48, 2) := by decide +kernel
theorem dX3_admitTextToTrial_55 : decode cX3_admitTextToTrial 55 = .ok (.isub, 1) := by decide +kernel
theorem dX3_admitTextToTrial_56 : decode cX3_admitTextToTrial 56 = .ok (.goto 4, 3) := by decide +kernel
theorem dX3_admitTextToTrial_59 : decode cX3_admitTextToTrial 59 = .ok (.iconst 1, 1) := by decide +kernel
theorem dX3_admitTextToTrial_60 : decode cX3_admitTextToTrial 60 = .ok (.istore 5, 2) := by decide +kernel
theorem dX3_admitTextToTrial_62 : decode cX3_admitTextToTrial 62 = .ok (.iconst 0, 1) := by decide +kernel
theorem dX3_admitTextToTrial_63 : decode cX3_admitTextToTrial 63 = .ok (.istore 6, 2) := by decide +kernel
theorem dX3_admitTextToTrial_65 : decode cX3_admitTextToTrial 65 = .ok (.iload 6, 2) := by decide +kernel
theorem dX3_admitTextToTrial_67 : decode cX3_admitTextToTrial 67 = .ok (.iload 5, 2) := by decide +kernel
theorem dX3_admitTextToTrial_69 : decode cX3_admitTextToTrial 69 = .ok (.if_icmp .ge 41, 3) := by decide +kernel
theorem dX3_admitTextToTrial_72 : decode cX3_admitTextToTrial 72 = .ok (.aload_n 0, 1) := by decide +kernel
theorem dX3_admitTextToTrial_73 : decode cX3_admitTextToTrial 73 = .ok (.getfield 16, 3) := by decide +kernel
theorem dX3_admitTextToTrial_76 : decode cX3_admitTextToTrial 76 = .ok (.getfield 77, 3) := by decide +kernel
theorem dX3_admitTextToTrial_79 : decode cX3_admitTextToTrial 79 = .ok (.iload_n 3, 1) := by decide +kernel
theorem dX3_admitTextToTrial_80 : decode cX3_admitTextToTrial 80 = .ok (.aaload, 1) := by decide +kernel
theorem dX3_admitTextToTrial_81 : decode cX3_admitTextToTrial 81 = .ok (.invokevirtual 81, 3) := by decide +kernel
theorem dX3_admitTextToTrial_84 : decode cX3_admitTextToTrial 84 = .ok (.ifCond .eq 6, 3) := by decide +kernel
theorem dX3_admitTextToTrial_87 : decode cX3_admitTextToTrial 87 = .ok (.bipush (-3), 2) := by decide +kernel
theorem dX3_admitTextToTrial_89 : decode cX3_admitTextToTrial 89 = .ok (.ireturn, 1) := by decide +kernel
theorem dX3_admitTextToTrial_90 : decode cX3_admitTextToTrial 90 = .ok (.aload_n 0, 1) := by decide +kernel
theorem dX3_admitTextToTrial_91 : decode cX3_admitTextToTrial 91 = .ok (.getfield 16, 3) := by decide +kernel
theorem dX3_admitTextToTrial_94 : decode cX3_admitTextToTrial 94 = .ok (.iload_n 3, 1) := by decide +kernel
theorem dX3_admitTextToTrial_95 : decode cX3_admitTextToTrial 95 = .ok (.iload 4, 2) := by decide +kernel
theorem dX3_admitTextToTrial_97 : decode cX3_admitTextToTrial 97 = .ok (.invokevirtual 87, 3) := by decide +kernel
theorem dX3_admitTextToTrial_100 : decode cX3_admitTextToTrial 100 = .ok (.pop, 1) := by decide +kernel
theorem dX3_admitTextToTrial_101 : decode cX3_admitTextToTrial 101 = .ok (.iinc 1 1, 3) := by decide +kernel
theorem dX3_admitTextToTrial_104 : decode cX3_admitTextToTrial 104 = .ok (.iinc 6 1, 3) := by decide +kernel
theorem dX3_admitTextToTrial_107 : decode cX3_admitTextToTrial 107 = .ok (.goto (-42), 3) := by decide +kernel
theorem dX3_admitTextToTrial_110 : decode cX3_admitTextToTrial 110 = .ok (.iload_n 2, 1) := by decide +kernel
theorem dX3_admitTextToTrial_111 : decode cX3_admitTextToTrial 111 = .ok (.aload_n 0, 1) := by decide +kernel
theorem dX3_admitTextToTrial_112 : decode cX3_admitTextToTrial 112 = .ok (.iload_n 2, 1) := by decide +kernel
theorem dX3_admitTextToTrial_113 : decode cX3_admitTextToTrial 113 = .ok (.invokevirtual 172, 3) := by decide +kernel
theorem dX3_admitTextToTrial_116 : decode cX3_admitTextToTrial 116 = .ok (.ifCond .eq 8, 3) := by decide +kernel
theorem dX3_admitTextToTrial_119 : decode cX3_admitTextToTrial 119 = .ok (.bipush 6, 2) := by decide +kernel
theorem dX3_admitTextToTrial_121 : decode cX3_admitTextToTrial 121 = .ok (.goto 4, 3) := by decide +kernel
theorem dX3_admitTextToTrial_124 : decode cX3_admitTextToTrial 124 = .ok (.iconst 4, 1) := by decide +kernel
theorem dX3_admitTextToTrial_125 : decode cX3_admitTextToTrial 125 = .ok (.iadd, 1) := by decide +kernel
theorem dX3_admitTextToTrial_126 : decode cX3_admitTextToTrial 126 = .ok (.istore_n 2, 1) := by decide +kernel
theorem dX3_admitTextToTrial_127 : decode cX3_admitTextToTrial 127 = .ok (.goto (-123), 3) := by decide +kernel
theorem dX3_admitTextToTrial_130 : decode cX3_admitTextToTrial 130 = .ok (.iload_n 1, 1) := by decide +kernel
theorem dX3_admitTextToTrial_131 : decode cX3_admitTextToTrial 131 = .ok (.ireturn, 1) := by decide +kernel
theorem dX3_tellsTimes_0 : decode cX3_tellsTimes 0 = .ok (.iload_n 1, 1) := by decide +kernel
theorem dX3_tellsTimes_1 : decode cX3_tellsTimes 1 = .ok (.iconst 4, 1) := by decide +kernel
theorem dX3_tellsTimes_2 : decode cX3_tellsTimes 2 = .ok (.iadd, 1) := by decide +kernel
theorem dX3_tellsTimes_3 : decode cX3_tellsTimes 3 = .ok (.aload_n 0, 1) := by decide +kernel
theorem dX3_tellsTimes_4 : decode cX3_tellsTimes 4 = .ok (.getfield 38, 3) := by decide +kernel
theorem dX3_tellsTimes_7 : decode cX3_tellsTimes 7 = .ok (.if_icmp .ge 20, 3) := by decide +kernel
theorem dX3_tellsTimes_10 : decode cX3_tellsTimes 10 = .ok (.aload_n 0, 1) := by decide +kernel
theorem dX3_tellsTimes_11 : decode cX3_tellsTimes 11 = .ok (.getfield 34, 3) := by decide +kernel
theorem dX3_tellsTimes_14 : decode cX3_tellsTimes 14 = .ok (.iload_n 1, 1) := by decide +kernel
theorem dX3_tellsTimes_15 : decode cX3_tellsTimes 15 = .ok (.iconst 3, 1) := by decide +kernel
theorem dX3_tellsTimes_16 : decode cX3_tellsTimes 16 = .ok (.iadd, 1) := by decide +kernel
theorem dX3_tellsTimes_17 : decode cX3_tellsTimes 17 = .ok (.caload, 1) := by decide +kernel
theorem dX3_tellsTimes_18 : decode cX3_tellsTimes 18 = .ok (.bipush 42, 2) := by decide +kernel
theorem dX3_tellsTimes_20 : decode cX3_tellsTimes 20 = .ok (.if_icmp .ne 7, 3) := by decide +kernel
theorem dX3_tellsTimes_23 : decode cX3_tellsTimes 23 = .ok (.iconst 1, 1) := by decide +kernel
theorem dX3_tellsTimes_24 : decode cX3_tellsTimes 24 = .ok (.goto 4, 3) := by decide +kernel
theorem dX3_tellsTimes_27 : decode cX3_tellsTimes 27 = .ok (.iconst 0, 1) := by decide +kernel
theorem dX3_tellsTimes_28 : decode cX3_tellsTimes 28 = .ok (.ireturn, 1) := by decide +kernel
end
section
theorem dX4_init_0 : decode cX4_init 0 = .ok (.aload_n 0, 1) := by decide +kernel
theorem dX4_init_1 : decode cX4_init 1 = .ok (.invokespecial 1, 3) := by decide +kernel
theorem dX4_init_4 : decode cX4_init 4 = .ok (.aload_n 0, 1) := by decide +kernel
theorem dX4_init_5 : decode cX4_init 5 = .ok (.sipush 232, 3) := by decide +kernel
theorem dX4_init_8 : decode cX4_init 8 = .ok (.newarray .int, 2) := by decide +kernel
theorem dX4_init_10 : decode cX4_init 10 = .ok (.putfield 7, 3) := by decide +kernel
theorem dX4_init_13 : decode cX4_init 13 = .ok (.aload_n 0, 1) := by decide +kernel
theorem dX4_init_14 : decode cX4_init 14 = .ok (.sipush 928, 3) := by decide +kernel
theorem dX4_init_17 : decode cX4_init 17 = .ok (.newarray .int, 2) := by decide +kernel
theorem dX4_init_19 : decode cX4_init 19 = .ok (.putfield 13, 3) := by decide +kernel
theorem dX4_init_22 : decode cX4_init 22 = .ok (.aload_n 0, 1) := by decide +kernel
theorem dX4_init_23 : decode cX4_init 23 = .ok (.sipush 232, 3) := by decide +kernel
theorem dX4_init_26 : decode cX4_init 26 = .ok (.newarray .int, 2) := by decide +kernel
theorem dX4_init_28 : decode cX4_init 28 = .ok (.putfield 16, 3) := by decide +kernel
theorem dX4_init_31 : decode cX4_init 31 = .ok (.aload_n 0, 1) := by decide +kernel
theorem dX4_init_32 : decode cX4_init 32 = .ok (.sipush 232, 3) := by decide +kernel
theorem dX4_init_35 : decode cX4_init 35 = .ok (.newarray .int, 2) := by decide +kernel
theorem dX4_init_37 : decode cX4_init 37 = .ok (.putfield 19, 3) := by decide +kernel
theorem dX4_init_40 : decode cX4_init 40 = .ok (.aload_n 0, 1) := by decide +kernel
theorem dX4_init_41 : decode cX4_init 41 = .ok (.bipush 60, 2) := by decide +kernel
theorem dX4_init_43 : decode cX4_init 43 = .ok (.newarray .char, 2) := by decide +kernel
theorem dX4_init_45 : decode cX4_init 45 = .ok (.putfield 22, 3) := by decide +kernel
theorem dX4_init_48 : decode cX4_init 48 = .ok (.aload_n 0, 1) := by decide +kernel
theorem dX4_init_49 : decode cX4_init 49 = .ok (.iconst 4, 1) := by decide +kernel
theorem dX4_init_50 : decode cX4_init 50 = .ok (.newarray .boolean, 2) := by decide +kernel
theorem dX4_init_52 : decode cX4_init 52 = .ok (.putfield 26, 3) := by decide +kernel
theorem dX4_init_55 : decode cX4_init 55 = .ok (.aload_n 0, 1) := by decide +kernel
theorem dX4_init_56 : decode cX4_init 56 = .ok (.iconst 4, 1) := by decide +kernel
theorem dX4_init_57 : decode cX4_init 57 = .ok (.newarray .int, 2) := by decide +kernel
theorem dX4_init_59 : decode cX4_init 59 = .ok (.putfield 30, 3) := by decide +kernel
theorem dX4_init_62 : decode cX4_init 62 = .ok (.iconst 0, 1) := by decide +kernel
theorem dX4_init_63 : decode cX4_init 63 = .ok (.istore_n 1, 1) := by decide +kernel
theorem dX4_init_64 : decode cX4_init 64 = .ok (.iload_n 1, 1) := by decide +kernel
theorem dX4_init_65 : decode cX4_init 65 = .ok (.iconst 4, 1) := by decide +kernel
theorem dX4_init_66 : decode cX4_init 66 = .ok (.if_icmp .ge 37, 3) := by decide +kernel
theorem dX4_init_69 : decode cX4_init 69 = .ok (.aload_n 0, 1) := by decide +kernel
theorem dX4_init_70 : decode cX4_init 70 = .ok (.iload_n 1, 1) := by decide +kernel
theorem dX4_init_71 : decode cX4_init 71 = .ok (.iconst 0, 1) := by decide +kernel
theorem dX4_init_72 : decode cX4_init 72 = .ok (.iconst 3, 1) := by decide +kernel
theorem dX4_init_73 : decode cX4_init 73 = .ok (.invokevirtual 33, 3) := by decide +kernel
theorem dX4_init_76 : decode cX4_init 76 = .ok (.aload_n 0, 1) := by decide +kernel
theorem dX4_init_77 : decode cX4_init 77 = .ok (.iload_n 1, 1) := by decide +kernel
theorem dX4_init_78 : decode cX4_init 78 = .ok (.iconst 1, 1) := by decide +kernel
theorem dX4_init_79 : decode cX4_init 79 = .ok (.iconst 2, 1) := by decide +kernel
theorem dX4_init_80 : decode cX4_init 80 = .ok (.invokevirtual 33, 3) := by decide +kernel
theorem dX4_init_83 : decode cX4_init 83 = .ok (.aload_n 0, 1) := by decide +kernel
theorem dX4_init_84 : decode cX4_init 84 = .ok (.iload_n 1, 1) := by decide +kernel
theorem dX4_init_85 : decode cX4_init 85 = .ok (.iconst 2, 1) := by decide +kernel
theorem dX4_init_86 : decode cX4_init 86 = .ok (.iconst 2, 1) := by decide +kernel
theorem dX4_init_87 : decode cX4_init 87 = .ok (.invokevirtual 33, 3) := by decide +kernel
theorem dX4_init_90 : decode cX4_init 90 = .ok (.aload_n 0, 1) := by decide +kernel
theorem dX4_init_91 : decode cX4_init 91 = .ok (.iload_n 1, 1) := by decide +kernel
theorem dX4_init_92 : decode cX4_init 92 = .ok (.iconst 3, 1) := by decide +kernel
theorem dX4_init_93 : decode cX4_init 93 = .ok (.iconst 3, 1) := by decide +kernel
theorem dX4_init_94 : decode cX4_init 94 = .ok (.invokevirtual 33, 3) := by decide +kernel
theorem dX4_init_97 : decode cX4_init 97 = .ok (.iinc 1 1, 3) := by decide +kernel
theorem dX4_init_100 : decode cX4_init 100 = .ok (.goto (-36), 3) := by decide +kernel
theorem dX4_init_103 : decode cX4_init 103 = .ok (.return_, 1) := by decide +kernel
theorem dX4_in_0 : decode cX4_in 0 = .ok (.iload_n 0, 1) := by decide +kernel
theorem dX4_in_1 : decode cX4_in 1 = .ok (.iload_n 1, 1) := by decide +kernel
theorem dX4_in_2 : decode cX4_in 2 = .ok (.if_icmp .lt 12, 3) := by decide +kernel
theorem dX4_in_5 : decode cX4_in 5 = .ok (.iload_n 0, 1) := by decide +kernel
theorem dX4_in_6 : decode cX4_in 6 = .ok (.iload_n 2, 1) := by decide +kernel
theorem dX4_in_7 : decode cX4_in 7 = .ok (.if_icmp .gt 7, 3) := by decide +kernel
theorem dX4_in_10 : decode cX4_in 10 = .ok (.iconst 1, 1) := by decide +kernel
theorem dX4_in_11 : decode cX4_in 11 = .ok (.goto 4, 3) := by decide +kernel
theorem dX4_in_14 : decode cX4_in 14 = .ok (.iconst 0, 1) := by decide +kernel
theorem dX4_in_15 : decode cX4_in 15 = .ok (.ireturn, 1) := by decide +kernel
theorem dX4_noPort_0 : decode cX4_noPort 0 = .ok (.iload_n 0, 1) := by decide +kernel
theorem dX4_noPort_1 : decode cX4_noPort 1 = .ok (.iconst 0, 1) := by decide +kernel
theorem dX4_noPort_2 : decode cX4_noPort 2 = .ok (.iconst 3, 1) := by decide +kernel
theorem dX4_noPort_3 : decode cX4_noPort 3 = .ok (.invokestatic 37, 3) := by decide +kernel
theorem dX4_noPort_6 : decode cX4_noPort 6 = .ok (.ifCond .ne 7, 3) := by decide +kernel
theorem dX4_noPort_9 : decode cX4_noPort 9 = .ok (.iconst 1, 1) := by decide +kernel
theorem dX4_noPort_10 : decode cX4_noPort 10 = .ok (.goto 4, 3) := by decide +kernel
theorem dX4_noPort_13 : decode cX4_noPort 13 = .ok (.iconst 0, 1) := by decide +kernel
theorem dX4_noPort_14 : decode cX4_noPort 14 = .ok (.ireturn, 1) := by decide +kernel
theorem dX4_of_0 : decode cX4_of 0 = .ok (.aload_n 0, 1) := by decide +kernel
theorem dX4_of_1 : decode cX4_of 1 = .ok (.getfield 7, 3) := by decide +kernel
theorem dX4_of_4 : decode cX4_of 4 = .ok (.iconst 4, 1) := by decide +kernel
theorem dX4_of_5 : decode cX4_of 5 = .ok (.bipush 30, 2) := by decide +kernel
theorem dX4_of_7 : decode cX4_of 7 = .ok (.iload_n 1, 1) := by decide +kernel
theorem dX4_of_8 : decode cX4_of 8 = .ok (.imul, 1) := by decide +kernel
theorem dX4_of_9 : decode cX4_of 9 = .ok (.iadd, 1) := by decide +kernel
theorem dX4_of_10 : decode cX4_of 10 = .ok (.iload_n 2, 1) := by decide +kernel
theorem dX4_of_11 : decode cX4_of 11 = .ok (.iadd, 1) := by decide +kernel
theorem dX4_of_12 : decode cX4_of 12 = .ok (.iaload, 1) := by decide +kernel
theorem dX4_of_13 : decode cX4_of 13 = .ok (.ireturn, 1) := by decide +kernel
theorem dX4_lay_0 : decode cX4_lay 0 = .ok (.aload_n 0, 1) := by decide +kernel
theorem dX4_lay_1 : decode cX4_lay 1 = .ok (.getfield 7, 3) := by decide +kernel
theorem dX4_lay_4 : decode cX4_lay 4 = .ok (.iconst 4, 1) := by decide +kernel
theorem dX4_lay_5 : decode cX4_lay 5 = .ok (.bipush 30, 2) := by decide +kernel
theorem dX4_lay_7 : decode cX4_lay 7 = .ok (.iload_n 1, 1) := by decide +kernel
theorem dX4_lay_8 : decode cX4_lay 8 = .ok (.imul, 1) := by decide +kernel
theorem dX4_lay_9 : decode cX4_lay 9 = .ok (.iadd, 1) := by decide +kernel
theorem dX4_lay_10 : decode cX4_lay 10 = .ok (.iload_n 2, 1) := by decide +kernel
theorem dX4_lay_11 : decode cX4_lay 11 = .ok (.iadd, 1) := by decide +kernel
theorem dX4_lay_12 : decode cX4_lay 12 = .ok (.iload_n 3, 1) := by decide +kernel
theorem dX4_lay_13 : decode cX4_lay 13 = .ok (.iastore, 1) := by decide +kernel
theorem dX4_lay_14 : decode cX4_lay 14 = .ok (.return_, 1) := by decide +kernel
theorem dX4_more_0 : decode cX4_more 0 = .ok (.aload_n 0, 1) := by decide +kernel
theorem dX4_more_1 : decode cX4_more 1 = .ok (.getfield 7, 3) := by decide +kernel
theorem dX4_more_4 : decode cX4_more 4 = .ok (.iconst 4, 1) := by decide +kernel
theorem dX4_more_5 : decode cX4_more 5 = .ok (.bipush 30, 2) := by decide +kernel
theorem dX4_more_7 : decode cX4_more 7 = .ok (.iload_n 1, 1) := by decide +kernel
theorem dX4_more_8 : decode cX4_more 8 = .ok (.imul, 1) := by decide +kernel
theorem dX4_more_9 : decode cX4_more 9 = .ok (.iadd, 1) := by decide +kernel
theorem dX4_more_10 : decode cX4_more 10 = .ok (.iload_n 2, 1) := by decide +kernel
theorem dX4_more_11 : decode cX4_more 11 = .ok (.iadd, 1) := by decide +kernel
theorem dX4_more_12 : decode cX4_more 12 = .ok (.dup2, 1) := by decide +kernel
theorem dX4_more_13 : decode cX4_more 13 = .ok (.iaload, 1) := by decide +kernel
theorem dX4_more_14 : decode cX4_more 14 = .ok (.iload_n 3, 1) := by decide +kernel
theorem dX4_more_15 : decode cX4_more 15 = .ok (.iadd, 1) := by decide +kernel
theorem dX4_more_16 : decode cX4_more 16 = .ok (.iastore, 1) := by decide +kernel
theorem dX4_more_17 : decode cX4_more 17 = .ok (.return_, 1) := by decide +kernel
theorem dX4_by_0 : decode cX4_by 0 = .ok (.aload_n 0, 1) := by decide +kernel
theorem dX4_by_1 : decode cX4_by 1 = .ok (.getfield 7, 3) := by decide +kernel
theorem dX4_by_4 : decode cX4_by 4 = .ok (.bipush 124, 2) := by decide +kernel
theorem dX4_by_6 : decode cX4_by 6 = .ok (.bipush 27, 2) := by decide +kernel
theorem dX4_by_8 : decode cX4_by 8 = .ok (.iload_n 1, 1) := by decide +kernel
theorem dX4_by_9 : decode cX4_by 9 = .ok (.imul, 1) := by decide +kernel
theorem dX4_by_10 : decode cX4_by 10 = .ok (.iadd, 1) := by decide +kernel
theorem dX4_by_11 : decode cX4_by 11 = .ok (.iload_n 2, 1) := by decide +kernel
theorem dX4_by_12 : decode cX4_by 12 = .ok (.iadd, 1) := by decide +kernel
theorem dX4_by_13 : decode cX4_by 13 = .ok (.iaload, 1) := by decide +kernel
theorem dX4_by_14 : decode cX4_by 14 = .ok (.ireturn, 1) := by decide +kernel
theorem dX4_remember_0 : decode cX4_remember 0 = .ok (.iconst 0, 1) := by decide +kernel
theorem dX4_remember_1 : decode cX4_remember 1 = .ok (.istore_n 1, 1) := by decide +kernel
theorem dX4_remember_2 : decode cX4_remember 2 = .ok (.iload_n 1, 1) := by decide +kernel
theorem dX4_remember_3 : decode cX4_remember 3 = .ok (.sipush 232, 3) := by decide +kernel
theorem dX4_remember_6 : decode cX4_remember 6 = .ok (.if_icmp .ge 21, 3) := by decide +kernel
theorem dX4_remember_9 : decode cX4_remember 9 = .ok (.aload_n 0, 1) := by decide +kernel
theorem dX4_remember_10 : decode cX4_remember 10 = .ok (.getfield 19, 3) := by decide +kernel
theorem dX4_remember_13 : decode cX4_remember 13 = .ok (.iload_n 1, 1) := by decide +kernel
theorem dX4_remember_14 : decode cX4_remember 14 = .ok (.aload_n 0, 1) := by decide +kernel
theorem dX4_remember_15 : decode cX4_remember 15 = .ok (.getfield 7, 3) := by decide +kernel
theorem dX4_remember_18 : decode cX4_remember 18 = .ok (.iload_n 1, 1) := by decide +kernel
theorem dX4_remember_19 : decode cX4_remember 19 = .ok (.iaload, 1) := by decide +kernel
theorem dX4_remember_20 : decode cX4_remember 20 = .ok (.iastore, 1) := by decide +kernel
theorem dX4_remember_21 : decode cX4_remember 21 = .ok (.iinc 1 1, 3) := by decide +kernel
theorem dX4_remember_24 : decode cX4_remember 24 = .ok (.goto (-22), 3) := by decide +kernel
theorem dX4_remember_27 : decode cX4_remember 27 = .ok (.return_, 1) := by decide +kernel
theorem dX4_goBack_0 : decode cX4_goBack 0 = .ok (.iconst 0, 1) := by decide +kernel
theorem dX4_goBack_1 : decode cX4_goBack 1 = .ok (.istore_n 1, 1) := by decide +kernel
theorem dX4_goBack_2 : decode cX4_goBack 2 = .ok (.iload_n 1, 1) := by decide +kernel
theorem dX4_goBack_3 : decode cX4_goBack 3 = .ok (.sipush 232, 3) := by decide +kernel
theorem dX4_goBack_6 : decode cX4_goBack 6 = .ok (.if_icmp .ge 21, 3) := by decide +kernel
theorem dX4_goBack_9 : decode cX4_goBack 9 = .ok (.aload_n 0, 1) := by decide +kernel
theorem dX4_goBack_10 : decode cX4_goBack 10 = .ok (.getfield 7, 3) := by decide +kernel
theorem dX4_goBack_13 : decode cX4_goBack 13 = .ok (.iload_n 1, 1) := by decide +kernel
theorem dX4_goBack_14 : decode cX4_goBack 14 = .ok (.aload_n 0, 1) := by decide +kernel
theorem dX4_goBack_15 : decode cX4_goBack 15 = .ok (.getfield 19, 3) := by decide +kernel
theorem dX4_goBack_18 : decode cX4_goBack 18 = .ok (.iload_n 1, 1) := by decide +kernel
theorem dX4_goBack_19 : decode cX4_goBack 19 = .ok (.iaload, 1) := by decide +kernel
theorem dX4_goBack_20 : decode cX4_goBack 20 = .ok (.iastore, 1) := by decide +kernel
theorem dX4_goBack_21 : decode cX4_goBack 21 = .ok (.iinc 1 1, 3) := by decide +kernel
theorem dX4_goBack_24 : decode cX4_goBack 24 = .ok (.goto (-22), 3) := by decide +kernel
theorem dX4_goBack_27 : decode cX4_goBack 27 = .ok (.return_, 1) := by decide +kernel
theorem dX4_record_0 : decode cX4_record 0 = .ok (.aload_n 0, 1) := by decide +kernel
theorem dX4_record_1 : decode cX4_record 1 = .ok (.getfield 41, 3) := by decide +kernel
theorem dX4_record_4 : decode cX4_record 4 = .ok (.iconst 4, 1) := by decide +kernel
theorem dX4_record_5 : decode cX4_record 5 = .ok (.if_icmp .ne 44, 3) := by decide +kernel
theorem dX4_record_8 : decode cX4_record 8 = .ok (.iconst 0, 1) := by decide +kernel
theorem dX4_record_9 : decode cX4_record 9 = .ok (.istore_n 1, 1) := by decide +kernel
theorem dX4_record_10 : decode cX4_record 10 = .ok (.iload_n 1, 1) := by decide +kernel
theorem dX4_record_11 : decode cX4_record 11 = .ok (.sipush 696, 3) := by decide +kernel
theorem dX4_record_14 : decode cX4_record 14 = .ok (.if_icmp .ge 25, 3) := by decide +kernel
theorem dX4_record_17 : decode cX4_record 17 = .ok (.aload_n 0, 1) := by decide +kernel
theorem dX4_record_18 : decode cX4_record 18 = .ok (.getfield 13, 3) := by decide +kernel
theorem dX4_record_21 : decode cX4_record 21 = .ok (.iload_n 1, 1) := by decide +kernel
theorem dX4_record_22 : decode cX4_record 22 = .ok (.aload_n 0, 1) := by decide +kernel
theorem dX4_record_23 : decode cX4_record 23 = .ok (.getfield 13, 3) := by decide +kernel
theorem dX4_record_26 : decode cX4_record 26 = .ok (.sipush 232, 3) := by decide +kernel
theorem dX4_record_29 : decode cX4_record 29 = .ok (.iload_n 1, 1) := by decide +kernel
theorem dX4_record_30 : decode cX4_record 30 = .ok (.iadd, 1) := by decide +kernel
theorem dX4_record_31 : decode cX4_record 31 = .ok (.iaload, 1) := by decide +kernel
theorem dX4_record_32 : decode cX4_record 32 = .ok (.iastore, 1) := by decide +kernel
theorem dX4_record_33 : decode cX4_record 33 = .ok (.iinc 1 1, 3) := by decide +kernel
theorem dX4_record_36 : decode cX4_record 36 = .ok (.goto (-26), 3) := by decide +kernel
theorem dX4_record_39 : decode cX4_record 39 = .ok (.aload_n 0, 1) := by decide +kernel
theorem dX4_record_40 : decode cX4_record 40 = .ok (.dup, 1) := by decide +kernel
theorem dX4_record_41 : decode cX4_record 41 = .ok (.getfield 41, 3) := by decide +kernel
theorem dX4_record_44 : decode cX4_record 44 = .ok (.iconst 1, 1) := by decide +kernel
theorem dX4_record_45 : decode cX4_record 45 = .ok (.isub, 1) := by decide +kernel
theorem dX4_record_46 : decode cX4_record 46 = .ok (.putfield 41, 3) := by decide +kernel
theorem dX4_record_49 : decode cX4_record 49 = .ok (.iconst 0, 1) := by decide +kernel
theorem dX4_record_50 : decode cX4_record 50 = .ok (.istore_n 1, 1) := by decide +kernel
theorem dX4_record_51 : decode cX4_record 51 = .ok (.iload_n 1, 1) := by decide +kernel
theorem dX4_record_52 : decode cX4_record 52 = .ok (.sipush 232, 3) := by decide +kernel
theorem dX4_record_55 : decode cX4_record 55 = .ok (.if_icmp .ge 30, 3) := by decide +kernel
theorem dX4_record_58 : decode cX4_record 58 = .ok (.aload_n 0, 1) := by decide +kernel
theorem dX4_record_59 : decode cX4_record 59 = .ok (.getfield 13, 3) := by decide +kernel
theorem dX4_record_62 : decode cX4_record 62 = .ok (.sipush 232, 3) := by decide +kernel
theorem dX4_record_65 : decode cX4_record 65 = .ok (.aload_n 0, 1) := by decide +kernel
theorem dX4_record_66 : decode cX4_record 66 = .ok (.getfield 41, 3) := by decide +kernel
theorem dX4_record_69 : decode cX4_record 69 = .ok (.imul, 1) := by decide +kernel
theorem dX4_record_70 : decode cX4_record 70 = .ok (.iload_n 1, 1) := by decide +kernel
theorem dX4_record_71 : decode cX4_record 71 = .ok (.iadd, 1) := by decide +kernel
theorem dX4_record_72 : decode cX4_record 72 = .ok (.aload_n 0, 1) := by decide +kernel
theorem dX4_record_73 : decode cX4_record 73 = .ok (.getfield 19, 3) := by decide +kernel
theorem dX4_record_76 : decode cX4_record 76 = .ok (.iload_n 1, 1) := by decide +kernel
theorem dX4_record_77 : decode cX4_record 77 = .ok (.iaload, 1) := by decide +kernel
theorem dX4_record_78 : decode cX4_record 78 = .ok (.iastore, 1) := by decide +kernel
theorem dX4_record_79 : decode cX4_record 79 = .ok (.iinc 1 1, 3) := by decide +kernel
theorem dX4_record_82 : decode cX4_record 82 = .ok (.goto (-31), 3) := by decide +kernel
theorem dX4_record_85 : decode cX4_record 85 = .ok (.aload_n 0, 1) := by decide +kernel
theorem dX4_record_86 : decode cX4_record 86 = .ok (.dup, 1) := by decide +kernel
theorem dX4_record_87 : decode cX4_record 87 = .ok (.getfield 41, 3) := by decide +kernel
theorem dX4_record_90 : decode cX4_record 90 = .ok (.iconst 1, 1) := by decide +kernel
theorem dX4_record_91 : decode cX4_record 91 = .ok (.iadd, 1) := by decide +kernel
theorem dX4_record_92 : decode cX4_record 92 = .ok (.putfield 41, 3) := by decide +kernel
theorem dX4_record_95 : decode cX4_record 95 = .ok (.return_, 1) := by decide +kernel
theorem dX4_open_0 : decode cX4_open 0 = .ok (.aload_n 0, 1) := by decide +kernel
theorem dX4_open_1 : decode cX4_open 1 = .ok (.invokevirtual 45, 3) := by decide +kernel
theorem dX4_open_4 : decode cX4_open 4 = .ok (.aload_n 0, 1) := by decide +kernel
theorem dX4_open_5 : decode cX4_open 5 = .ok (.invokevirtual 48, 3) := by decide +kernel
theorem dX4_open_8 : decode cX4_open 8 = .ok (.return_, 1) := by decide +kernel
theorem dX4_undo_0 : decode cX4_undo 0 = .ok (.aload_n 0, 1) := by decide +kernel
theorem dX4_undo_1 : decode cX4_undo 1 = .ok (.getfield 41, 3) := by decide +kernel
theorem dX4_undo_4 : decode cX4_undo 4 = .ok (.ifCond .ne 6, 3) := by decide +kernel
theorem dX4_undo_7 : decode cX4_undo 7 = .ok (.bipush (-5), 2) := by decide +kernel
theorem dX4_undo_9 : decode cX4_undo 9 = .ok (.ireturn, 1) := by decide +kernel
theorem dX4_undo_10 : decode cX4_undo 10 = .ok (.aload_n 0, 1) := by decide +kernel
theorem dX4_undo_11 : decode cX4_undo 11 = .ok (.dup, 1) := by decide +kernel
theorem dX4_undo_12 : decode cX4_undo 12 = .ok (.getfield 41, 3) := by decide +kernel
theorem dX4_undo_15 : decode cX4_undo 15 = .ok (.iconst 1, 1) := by decide +kernel
theorem dX4_undo_16 : decode cX4_undo 16 = .ok (.isub, 1) := by decide +kernel
theorem dX4_undo_17 : decode cX4_undo 17 = .ok (.putfield 41, 3) := by decide +kernel
theorem dX4_undo_20 : decode cX4_undo 20 = .ok (.iconst 0, 1) := by decide +kernel
theorem dX4_undo_21 : decode cX4_undo 21 = .ok (.istore_n 1, 1) := by decide +kernel
theorem dX4_undo_22 : decode cX4_undo 22 = .ok (.iload_n 1, 1) := by decide +kernel
theorem dX4_undo_23 : decode cX4_undo 23 = .ok (.sipush 232, 3) := by decide +kernel
theorem dX4_undo_26 : decode cX4_undo 26 = .ok (.if_icmp .ge 30, 3) := by decide +kernel
theorem dX4_undo_29 : decode cX4_undo 29 = .ok (.aload_n 0, 1) := by decide +kernel
theorem dX4_undo_30 : decode cX4_undo 30 = .ok (.getfield 7, 3) := by decide +kernel
theorem dX4_undo_33 : decode cX4_undo 33 = .ok (.iload_n 1, 1) := by decide +kernel
theorem dX4_undo_34 : decode cX4_undo 34 = .ok (.aload_n 0, 1) := by decide +kernel
theorem dX4_undo_35 : decode cX4_undo 35 = .ok (.getfield 13, 3) := by decide +kernel
theorem dX4_undo_38 : decode cX4_undo 38 = .ok (.sipush 232, 3) := by decide +kernel
theorem dX4_undo_41 : decode cX4_undo 41 = .ok (.aload_n 0, 1) := by decide +kernel
theorem dX4_undo_42 : decode cX4_undo 42 = .ok (.getfield 41, 3) := by decide +kernel
theorem dX4_undo_45 : decode cX4_undo 45 = .ok (.imul, 1) := by decide +kernel
theorem dX4_undo_46 : decode cX4_undo 46 = .ok (.iload_n 1, 1) := by decide +kernel
theorem dX4_undo_47 : decode cX4_undo 47 = .ok (.iadd, 1) := by decide +kernel
theorem dX4_undo_48 : decode cX4_undo 48 = .ok (.iaload, 1) := by decide +kernel
theorem dX4_undo_49 : decode cX4_undo 49 = .ok (.iastore, 1) := by decide +kernel
theorem dX4_undo_50 : decode cX4_undo 50 = .ok (.iinc 1 1, 3) := by decide +kernel
theorem dX4_undo_53 : decode cX4_undo 53 = .ok (.goto (-31), 3) := by decide +kernel
theorem dX4_undo_56 : decode cX4_undo 56 = .ok (.aload_n 0, 1) := by decide +kernel
theorem dX4_undo_57 : decode cX4_undo 57 = .ok (.getfield 41, 3) := by decide +kernel
theorem dX4_undo_60 : decode cX4_undo 60 = .ok (.ireturn, 1) := by decide +kernel
theorem dX4_keep_0 : decode cX4_keep 0 = .ok (.iconst 0, 1) := by decide +kernel
theorem dX4_keep_1 : decode cX4_keep 1 = .ok (.istore_n 1, 1) := by decide +kernel
theorem dX4_keep_2 : decode cX4_keep 2 = .ok (.iload_n 1, 1) := by decide +kernel
theorem dX4_keep_3 : decode cX4_keep 3 = .ok (.sipush 232, 3) := by decide +kernel
theorem dX4_keep_6 : decode cX4_keep 6 = .ok (.if_icmp .ge 21, 3) := by decide +kernel
theorem dX4_keep_9 : decode cX4_keep 9 = .ok (.aload_n 0, 1) := by decide +kernel
theorem dX4_keep_10 : decode cX4_keep 10 = .ok (.getfield 16, 3) := by decide +kernel
theorem dX4_keep_13 : decode cX4_keep 13 = .ok (.iload_n 1, 1) := by decide +kernel
theorem dX4_keep_14 : decode cX4_keep 14 = .ok (.aload_n 0, 1) := by decide +kernel
theorem dX4_keep_15 : decode cX4_keep 15 = .ok (.getfield 7, 3) := by decide +kernel
theorem dX4_keep_18 : decode cX4_keep 18 = .ok (.iload_n 1, 1) := by decide +kernel
theorem dX4_keep_19 : decode cX4_keep 19 = .ok (.iaload, 1) := by decide +kernel
theorem dX4_keep_20 : decode cX4_keep 20 = .ok (.iastore, 1) := by decide +kernel
theorem dX4_keep_21 : decode cX4_keep 21 = .ok (.iinc 1 1, 3) := by decide +kernel
theorem dX4_keep_24 : decode cX4_keep 24 = .ok (.goto (-22), 3) := by decide +kernel
theorem dX4_keep_27 : decode cX4_keep 27 = .ok (.aload_n 0, 1) := by decide +kernel
theorem dX4_keep_28 : decode cX4_keep 28 = .ok (.iconst 1, 1) := by decide +kernel
theorem dX4_keep_29 : decode cX4_keep 29 = .ok (.putfield 51, 3) := by decide +kernel
theorem dX4_keep_32 : decode cX4_keep 32 = .ok (.aload_n 0, 1) := by decide +kernel
theorem dX4_keep_33 : decode cX4_keep 33 = .ok (.getfield 7, 3) := by decide +kernel
theorem dX4_keep_36 : decode cX4_keep 36 = .ok (.iconst 0, 1) := by decide +kernel
theorem dX4_keep_37 : decode cX4_keep 37 = .ok (.iaload, 1) := by decide +kernel
theorem dX4_keep_38 : decode cX4_keep 38 = .ok (.ireturn, 1) := by decide +kernel
theorem dX4_restore_0 : decode cX4_restore 0 = .ok (.aload_n 0, 1) := by decide +kernel
theorem dX4_restore_1 : decode cX4_restore 1 = .ok (.getfield 51, 3) := by decide +kernel
theorem dX4_restore_4 : decode cX4_restore 4 = .ok (.ifCond .ne 6, 3) := by decide +kernel
theorem dX4_restore_7 : decode cX4_restore 7 = .ok (.bipush (-5), 2) := by decide +kernel
theorem dX4_restore_9 : decode cX4_restore 9 = .ok (.ireturn, 1) := by decide +kernel
theorem dX4_restore_10 : decode cX4_restore 10 = .ok (.aload_n 0, 1) := by decide +kernel
theorem dX4_restore_11 : decode cX4_restore 11 = .ok (.invokevirtual 55, 3) := by decide +kernel
theorem dX4_restore_14 : decode cX4_restore 14 = .ok (.iconst 0, 1) := by decide +kernel
theorem dX4_restore_15 : decode cX4_restore 15 = .ok (.istore_n 1, 1) := by decide +kernel
theorem dX4_restore_16 : decode cX4_restore 16 = .ok (.iload_n 1, 1) := by decide +kernel
theorem dX4_restore_17 : decode cX4_restore 17 = .ok (.sipush 232, 3) := by decide +kernel
theorem dX4_restore_20 : decode cX4_restore 20 = .ok (.if_icmp .ge 21, 3) := by decide +kernel
theorem dX4_restore_23 : decode cX4_restore 23 = .ok (.aload_n 0, 1) := by decide +kernel
theorem dX4_restore_24 : decode cX4_restore 24 = .ok (.getfield 7, 3) := by decide +kernel
theorem dX4_restore_27 : decode cX4_restore 27 = .ok (.iload_n 1, 1) := by decide +kernel
theorem dX4_restore_28 : decode cX4_restore 28 = .ok (.aload_n 0, 1) := by decide +kernel
theorem dX4_restore_29 : decode cX4_restore 29 = .ok (.getfield 16, 3) := by decide +kernel
theorem dX4_restore_32 : decode cX4_restore 32 = .ok (.iload_n 1, 1) := by decide +kernel
theorem dX4_restore_33 : decode cX4_restore 33 = .ok (.iaload, 1) := by decide +kernel
theorem dX4_restore_34 : decode cX4_restore 34 = .ok (.iastore, 1) := by decide +kernel
theorem dX4_restore_35 : decode cX4_restore 35 = .ok (.iinc 1 1, 3) := by decide +kernel
theorem dX4_restore_38 : decode cX4_restore 38 = .ok (.goto (-22), 3) := by decide +kernel
theorem dX4_restore_41 : decode cX4_restore 41 = .ok (.aload_n 0, 1) := by decide +kernel
theorem dX4_restore_42 : decode cX4_restore 42 = .ok (.getfield 7, 3) := by decide +kernel
theorem dX4_restore_45 : decode cX4_restore 45 = .ok (.iconst 0, 1) := by decide +kernel
theorem dX4_restore_46 : decode cX4_restore 46 = .ok (.iaload, 1) := by decide +kernel
theorem dX4_restore_47 : decode cX4_restore 47 = .ok (.ireturn, 1) := by decide +kernel
theorem dX4_setLane_0 : decode cX4_setLane 0 = .ok (.iload_n 1, 1) := by decide +kernel
theorem dX4_setLane_1 : decode cX4_setLane 1 = .ok (.invokestatic 58, 3) := by decide +kernel
theorem dX4_setLane_4 : decode cX4_setLane 4 = .ok (.ifCond .eq 5, 3) := by decide +kernel
theorem dX4_setLane_7 : decode cX4_setLane 7 = .ok (.iconst (-1), 1) := by decide +kernel
theorem dX4_setLane_8 : decode cX4_setLane 8 = .ok (.ireturn, 1) := by decide +kernel
theorem dX4_setLane_9 : decode cX4_setLane 9 = .ok (.iload_n 2, 1) := by decide +kernel
theorem dX4_setLane_10 : decode cX4_setLane 10 = .ok (.iconst 0, 1) := by decide +kernel
theorem dX4_setLane_11 : decode cX4_setLane 11 = .ok (.iconst 2, 1) := by decide +kernel
theorem dX4_setLane_12 : decode cX4_setLane 12 = .ok (.invokestatic 37, 3) := by decide +kernel
theorem dX4_setLane_15 : decode cX4_setLane 15 = .ok (.ifCond .eq 32, 3) := by decide +kernel
theorem dX4_setLane_18 : decode cX4_setLane 18 = .ok (.iload_n 3, 1) := by decide +kernel
theorem dX4_setLane_19 : decode cX4_setLane 19 = .ok (.iconst 1, 1) := by decide +kernel
theorem dX4_setLane_20 : decode cX4_setLane 20 = .ok (.iload_n 2, 1) := by decide +kernel
theorem dX4_setLane_21 : decode cX4_setLane 21 = .ok (.ifCond .ne 8, 3) := by decide +kernel
theorem dX4_setLane_24 : decode cX4_setLane 24 = .ok (.bipush 8, 2) := by decide +kernel
theorem dX4_setLane_26 : decode cX4_setLane 26 = .ok (.goto 15, 3) := by decide +kernel
theorem dX4_setLane_29 : decode cX4_setLane 29 = .ok (.iload_n 2, 1) := by decide +kernel
theorem dX4_setLane_30 : decode cX4_setLane 30 = .ok (.iconst 1, 1) := by decide +kernel
theorem dX4_setLane_31 : decode cX4_setLane 31 = .ok (.if_icmp .ne 8, 3) := by decide +kernel
theorem dX4_setLane_34 : decode cX4_setLane 34 = .ok (.bipush 9, 2) := by decide +kernel
theorem dX4_setLane_36 : decode cX4_setLane 36 = .ok (.goto 5, 3) := by decide +kernel
theorem dX4_setLane_39 : decode cX4_setLane 39 = .ok (.bipush 6, 2) := by decide +kernel
theorem dX4_setLane_41 : decode cX4_setLane 41 = .ok (.invokestatic 37, 3) := by decide +kernel
theorem dX4_setLane_44 : decode cX4_setLane 44 = .ok (.ifCond .ne 6, 3) := by decide +kernel
theorem dX4_setLane_47 : decode cX4_setLane 47 = .ok (.bipush (-2), 2) := by decide +kernel
theorem dX4_setLane_49 : decode cX4_setLane 49 = .ok (.ireturn, 1) := by decide +kernel
theorem dX4_setLane_50 : decode cX4_setLane 50 = .ok (.iload_n 2, 1) := by decide +kernel
theorem dX4_setLane_51 : decode cX4_setLane 51 = .ok (.ifCond .ne 17, 3) := by decide +kernel
theorem dX4_setLane_54 : decode cX4_setLane 54 = .ok (.aload_n 0, 1) := by decide +kernel
theorem dX4_setLane_55 : decode cX4_setLane 55 = .ok (.iload_n 1, 1) := by decide +kernel
theorem dX4_setLane_56 : decode cX4_setLane 56 = .ok (.bipush 9, 2) := by decide +kernel
theorem dX4_setLane_58 : decode cX4_setLane 58 = .ok (.invokevirtual 62, 3) := by decide +kernel
theorem dX4_setLane_61 : decode cX4_setLane 61 = .ok (.iload_n 3, 1) := by decide +kernel
theorem dX4_setLane_62 : decode cX4_setLane 62 = .ok (.if_icmp .le 6, 3) := by decide +kernel
theorem dX4_setLane_65 : decode cX4_setLane 65 = .ok (.bipush (-4), 2) := by decide +kernel
theorem dX4_setLane_67 : decode cX4_setLane 67 = .ok (.ireturn, 1) := by decide +kernel
theorem dX4_setLane_68 : decode cX4_setLane 68 = .ok (.aload_n 0, 1) := by decide +kernel
theorem dX4_setLane_69 : decode cX4_setLane 69 = .ok (.iload_n 1, 1) := by decide +kernel
theorem dX4_setLane_70 : decode cX4_setLane 70 = .ok (.iload_n 2, 1) := by decide +kernel
theorem dX4_setLane_71 : decode cX4_setLane 71 = .ok (.invokevirtual 62, 3) := by decide +kernel
theorem dX4_setLane_74 : decode cX4_setLane 74 = .ok (.istore 4, 2) := by decide +kernel
theorem dX4_setLane_76 : decode cX4_setLane 76 = .ok (.iload 4, 2) := by decide +kernel
theorem dX4_setLane_78 : decode cX4_setLane 78 = .ok (.iload_n 3, 1) := by decide +kernel
theorem dX4_setLane_79 : decode cX4_setLane 79 = .ok (.if_icmp .ne 6, 3) := by decide +kernel
theorem dX4_setLane_82 : decode cX4_setLane 82 = .ok (.bipush (-5), 2) := by decide +kernel
theorem dX4_setLane_84 : decode cX4_setLane 84 = .ok (.ireturn, 1) := by decide +kernel
theorem dX4_setLane_85 : decode cX4_setLane 85 = .ok (.aload_n 0, 1) := by decide +kernel
theorem dX4_setLane_86 : decode cX4_setLane 86 = .ok (.invokevirtual 55, 3) := by decide +kernel
theorem dX4_setLane_89 : decode cX4_setLane 89 = .ok (.aload_n 0, 1) := by decide +kernel
theorem dX4_setLane_90 : decode cX4_setLane 90 = .ok (.iload_n 1, 1) := by decide +kernel
theorem dX4_setLane_91 : decode cX4_setLane 91 = .ok (.iload_n 2, 1) := by decide +kernel
theorem dX4_setLane_92 : decode cX4_setLane 92 = .ok (.iload_n 3, 1) := by decide +kernel
theorem dX4_setLane_93 : decode cX4_setLane 93 = .ok (.invokevirtual 33, 3) := by decide +kernel
theorem dX4_setLane_96 : decode cX4_setLane 96 = .ok (.iload_n 2, 1) := by decide +kernel
theorem dX4_setLane_97 : decode cX4_setLane 97 = .ok (.ifCond .ne 13, 3) := by decide +kernel
theorem dX4_setLane_100 : decode cX4_setLane 100 = .ok (.aload_n 0, 1) := by decide +kernel
theorem dX4_setLane_101 : decode cX4_setLane 101 = .ok (.iload_n 1, 1) := by decide +kernel
theorem dX4_setLane_102 : decode cX4_setLane 102 = .ok (.iconst 3, 1) := by decide +kernel
theorem dX4_setLane_103 : decode cX4_setLane 103 = .ok (.iload_n 3, 1) := by decide +kernel
theorem dX4_setLane_104 : decode cX4_setLane 104 = .ok (.iload 4, 2) := by decide +kernel
theorem dX4_setLane_106 : decode cX4_setLane 106 = .ok (.isub, 1) := by decide +kernel
theorem dX4_setLane_107 : decode cX4_setLane 107 = .ok (.invokevirtual 66, 3) := by decide +kernel
theorem dX4_setLane_110 : decode cX4_setLane 110 = .ok (.iload 4, 2) := by decide +kernel
theorem dX4_setLane_112 : decode cX4_setLane 112 = .ok (.ireturn, 1) := by decide +kernel
theorem dX4_set_0 : decode cX4_set 0 = .ok (.iload_n 1, 1) := by decide +kernel
theorem dX4_set_1 : decode cX4_set 1 = .ok (.iconst 0, 1) := by decide +kernel
theorem dX4_set_2 : decode cX4_set 2 = .ok (.iconst 1, 1) := by decide +kernel
theorem dX4_set_3 : decode cX4_set 3 = .ok (.invokestatic 37, 3) := by decide +kernel
theorem dX4_set_6 : decode cX4_set 6 = .ok (.ifCond .eq 21, 3) := by decide +kernel
theorem dX4_set_9 : decode cX4_set 9 = .ok (.iload_n 2, 1) := by decide +kernel
theorem dX4_set_10 : decode cX4_set 10 = .ok (.iconst 0, 1) := by decide +kernel
theorem dX4_set_11 : decode cX4_set 11 = .ok (.iload_n 1, 1) := by decide +kernel
theorem dX4_set_12 : decode cX4_set 12 = .ok (.ifCond .ne 7, 3) := by decide +kernel
theorem dX4_set_15 : decode cX4_set 15 = .ok (.iconst 1, 1) := by decide +kernel
theorem dX4_set_16 : decode cX4_set 16 = .ok (.goto 5, 3) := by decide +kernel
theorem dX4_set_19 : decode cX4_set 19 = .ok (.bipush 60, 2) := by decide +kernel
theorem dX4_set_21 : decode cX4_set 21 = .ok (.invokestatic 37, 3) := by decide +kernel
theorem dX4_set_24 : decode cX4_set 24 = .ok (.ifCond .ne 6, 3) := by decide +kernel
theorem dX4_set_27 : decode cX4_set 27 = .ok (.bipush (-2), 2) := by decide +kernel
theorem dX4_set_29 : decode cX4_set 29 = .ok (.ireturn, 1) := by decide +kernel
theorem dX4_set_30 : decode cX4_set 30 = .ok (.aload_n 0, 1) := by decide +kernel
theorem dX4_set_31 : decode cX4_set 31 = .ok (.getfield 7, 3) := by decide +kernel
theorem dX4_set_34 : decode cX4_set 34 = .ok (.iconst 1, 1) := by decide +kernel
theorem dX4_set_35 : decode cX4_set 35 = .ok (.iload_n 1, 1) := by decide +kernel
theorem dX4_set_36 : decode cX4_set 36 = .ok (.iadd, 1) := by decide +kernel
theorem dX4_set_37 : decode cX4_set 37 = .ok (.iaload, 1) := by decide +kernel
theorem dX4_set_38 : decode cX4_set 38 = .ok (.istore_n 3, 1) := by decide +kernel
theorem dX4_set_39 : decode cX4_set 39 = .ok (.iload_n 3, 1) := by decide +kernel
theorem dX4_set_40 : decode cX4_set 40 = .ok (.iload_n 2, 1) := by decide +kernel
theorem dX4_set_41 : decode cX4_set 41 = .ok (.if_icmp .ne 6, 3) := by decide +kernel
theorem dX4_set_44 : decode cX4_set 44 = .ok (.bipush (-5), 2) := by decide +kernel
theorem dX4_set_46 : decode cX4_set 46 = .ok (.ireturn, 1) := by decide +kernel
theorem dX4_set_47 : decode cX4_set 47 = .ok (.aload_n 0, 1) := by decide +kernel
theorem dX4_set_48 : decode cX4_set 48 = .ok (.invokevirtual 55, 3) := by decide +kernel
theorem dX4_set_51 : decode cX4_set 51 = .ok (.aload_n 0, 1) := by decide +kernel
theorem dX4_set_52 : decode cX4_set 52 = .ok (.getfield 7, 3) := by decide +kernel
theorem dX4_set_55 : decode cX4_set 55 = .ok (.iconst 1, 1) := by decide +kernel
theorem dX4_set_56 : decode cX4_set 56 = .ok (.iload_n 1, 1) := by decide +kernel
theorem dX4_set_57 : decode cX4_set 57 = .ok (.iadd, 1) := by decide +kernel
theorem dX4_set_58 : decode cX4_set 58 = .ok (.iload_n 2, 1) := by decide +kernel
theorem dX4_set_59 : decode cX4_set 59 = .ok (.iastore, 1) := by decide +kernel
theorem dX4_set_60 : decode cX4_set 60 = .ok (.iload_n 3, 1) := by decide +kernel
theorem dX4_set_61 : decode cX4_set 61 = .ok (.ireturn, 1) := by decide +kernel
theorem dX4_bring_0 : decode cX4_bring 0 = .ok (.bipush 124, 2) := by decide +kernel
theorem dX4_bring_2 : decode cX4_bring 2 = .ok (.bipush 27, 2) := by decide +kernel
theorem dX4_bring_4 : decode cX4_bring 4 = .ok (.iload_n 1, 1) := by decide +kernel
theorem dX4_bring_5 : decode cX4_bring 5 = .ok (.imul, 1) := by decide +kernel
theorem dX4_bring_6 : decode cX4_bring 6 = .ok (.iadd, 1) := by decide +kernel
theorem dX4_bring_7 : decode cX4_bring 7 = .ok (.iconst 3, 1) := by decide +kernel
theorem dX4_bring_8 : decode cX4_bring 8 = .ok (.iadd, 1) := by decide +kernel
theorem dX4_bring_9 : decode cX4_bring 9 = .ok (.iconst 3, 1) := by decide +kernel
theorem dX4_bring_10 : decode cX4_bring 10 = .ok (.aload_n 0, 1) := by decide +kernel
theorem dX4_bring_11 : decode cX4_bring 11 = .ok (.iload_n 1, 1) := by decide +kernel
theorem dX4_bring_12 : decode cX4_bring 12 = .ok (.iconst 0, 1) := by decide +kernel
theorem dX4_bring_13 : decode cX4_bring 13 = .ok (.invokevirtual 69, 3) := by decide +kernel
theorem dX4_bring_16 : decode cX4_bring 16 = .ok (.imul, 1) := by decide +kernel
theorem dX4_bring_17 : decode cX4_bring 17 = .ok (.iadd, 1) := by decide +kernel
theorem dX4_bring_18 : decode cX4_bring 18 = .ok (.istore_n 3, 1) := by decide +kernel
theorem dX4_bring_19 : decode cX4_bring 19 = .ok (.aload_n 0, 1) := by decide +kernel
theorem dX4_bring_20 : decode cX4_bring 20 = .ok (.getfield 7, 3) := by decide +kernel
theorem dX4_bring_23 : decode cX4_bring 23 = .ok (.iload_n 3, 1) := by decide +kernel
theorem dX4_bring_24 : decode cX4_bring 24 = .ok (.aload_n 0, 1) := by decide +kernel
theorem dX4_bring_25 : decode cX4_bring 25 = .ok (.getfield 7, 3) := by decide +kernel
theorem dX4_bring_28 : decode cX4_bring 28 = .ok (.iconst 3, 1) := by decide +kernel
theorem dX4_bring_29 : decode cX4_bring 29 = .ok (.iaload, 1) := by decide +kernel
theorem dX4_bring_30 : decode cX4_bring 30 = .ok (.iastore, 1) := by decide +kernel
theorem dX4_bring_31 : decode cX4_bring 31 = .ok (.aload_n 0, 1) := by decide +kernel
theorem dX4_bring_32 : decode cX4_bring 32 = .ok (.getfield 7, 3) := by decide +kernel
theorem dX4_bring_35 : decode cX4_bring 35 = .ok (.iload_n 3, 1) := by decide +kernel
theorem dX4_bring_36 : decode cX4_bring 36 = .ok (.iconst 1, 1) := by decide +kernel
theorem dX4_bring_37 : decode cX4_bring 37 = .ok (.iadd, 1) := by decide +kernel
theorem dX4_bring_38 : decode cX4_bring 38 = .ok (.iload_n 2, 1) := by decide +kernel
theorem dX4_bring_39 : decode cX4_bring 39 = .ok (.iastore, 1) := by decide +kernel
theorem dX4_bring_40 : decode cX4_bring 40 = .ok (.aload_n 0, 1) := by decide +kernel
theorem dX4_bring_41 : decode cX4_bring 41 = .ok (.getfield 7, 3) := by decide +kernel
theorem dX4_bring_44 : decode cX4_bring 44 = .ok (.iload_n 3, 1) := by decide +kernel
theorem dX4_bring_45 : decode cX4_bring 45 = .ok (.iconst 2, 1) := by decide +kernel
theorem dX4_bring_46 : decode cX4_bring 46 = .ok (.iadd, 1) := by decide +kernel
theorem dX4_bring_47 : decode cX4_bring 47 = .ok (.aload_n 0, 1) := by decide +kernel
theorem dX4_bring_48 : decode cX4_bring 48 = .ok (.getfield 7, 3) := by decide +kernel
theorem dX4_bring_51 : decode cX4_bring 51 = .ok (.iconst 0, 1) := by decide +kernel
theorem dX4_bring_52 : decode cX4_bring 52 = .ok (.iaload, 1) := by decide +kernel
theorem dX4_bring_53 : decode cX4_bring 53 = .ok (.iastore, 1) := by decide +kernel
theorem dX4_bring_54 : decode cX4_bring 54 = .ok (.aload_n 0, 1) := by decide +kernel
theorem dX4_bring_55 : decode cX4_bring 55 = .ok (.getfield 7, 3) := by decide +kernel
theorem dX4_bring_58 : decode cX4_bring 58 = .ok (.bipush 124, 2) := by decide +kernel
theorem dX4_bring_60 : decode cX4_bring 60 = .ok (.bipush 27, 2) := by decide +kernel
theorem dX4_bring_62 : decode cX4_bring 62 = .ok (.iload_n 1, 1) := by decide +kernel
theorem dX4_bring_63 : decode cX4_bring 63 = .ok (.imul, 1) := by decide +kernel
theorem dX4_bring_64 : decode cX4_bring 64 = .ok (.iadd, 1) := by decide +kernel
theorem dX4_bring_65 : decode cX4_bring 65 = .ok (.iconst 0, 1) := by decide +kernel
theorem dX4_bring_66 : decode cX4_bring 66 = .ok (.iadd, 1) := by decide +kernel
theorem dX4_bring_67 : decode cX4_bring 67 = .ok (.dup2, 1) := by decide +kernel
theorem dX4_bring_68 : decode cX4_bring 68 = .ok (.iaload, 1) := by decide +kernel
theorem dX4_bring_69 : decode cX4_bring 69 = .ok (.iconst 1, 1) := by decide +kernel
theorem dX4_bring_70 : decode cX4_bring 70 = .ok (.iadd, 1) := by decide +kernel
theorem dX4_bring_71 : decode cX4_bring 71 = .ok (.iastore, 1) := by decide +kernel
theorem dX4_bring_72 : decode cX4_bring 72 = .ok (.aload_n 0, 1) := by decide +kernel
theorem dX4_bring_73 : decode cX4_bring 73 = .ok (.getfield 7, 3) := by decide +kernel
theorem dX4_bring_76 : decode cX4_bring 76 = .ok (.iconst 3, 1) := by decide +kernel
theorem dX4_bring_77 : decode cX4_bring 77 = .ok (.dup2, 1) := by decide +kernel
theorem dX4_bring_78 : decode cX4_bring 78 = .ok (.iaload, 1) := by decide +kernel
theorem dX4_bring_79 : decode cX4_bring 79 = .ok (.iconst 1, 1) := by decide +kernel
theorem dX4_bring_80 : decode cX4_bring 80 = .ok (.iadd, 1) := by decide +kernel
theorem dX4_bring_81 : decode cX4_bring 81 = .ok (.iastore, 1) := by decide +kernel
theorem dX4_bring_82 : decode cX4_bring 82 = .ok (.return_, 1) := by decide +kernel
theorem dX4_arrive_0 : decode cX4_arrive 0 = .ok (.iload_n 1, 1) := by decide +kernel
theorem dX4_arrive_1 : decode cX4_arrive 1 = .ok (.invokestatic 58, 3) := by decide +kernel
theorem dX4_arrive_4 : decode cX4_arrive 4 = .ok (.ifCond .ne 10, 3) := by decide +kernel
theorem dX4_arrive_7 : decode cX4_arrive 7 = .ok (.iload_n 2, 1) := by decide +kernel
theorem dX4_arrive_8 : decode cX4_arrive 8 = .ok (.invokestatic 58, 3) := by decide +kernel
theorem dX4_arrive_11 : decode cX4_arrive 11 = .ok (.ifCond .eq 5, 3) := by decide +kernel
theorem dX4_arrive_14 : decode cX4_arrive 14 = .ok (.iconst (-1), 1) := by decide +kernel
theorem dX4_arrive_15 : decode cX4_arrive 15 = .ok (.ireturn, 1) := by decide +kernel
theorem dX4_arrive_16 : decode cX4_arrive 16 = .ok (.aload_n 0, 1) := by decide +kernel
theorem dX4_arrive_17 : decode cX4_arrive 17 = .ok (.iload_n 1, 1) := by decide +kernel
theorem dX4_arrive_18 : decode cX4_arrive 18 = .ok (.iconst 0, 1) := by decide +kernel
theorem dX4_arrive_19 : decode cX4_arrive 19 = .ok (.invokevirtual 69, 3) := by decide +kernel
theorem dX4_arrive_22 : decode cX4_arrive 22 = .ok (.bipush 8, 2) := by decide +kernel
theorem dX4_arrive_24 : decode cX4_arrive 24 = .ok (.if_icmp .ne 6, 3) := by decide +kernel
theorem dX4_arrive_27 : decode cX4_arrive 27 = .ok (.bipush (-3), 2) := by decide +kernel
theorem dX4_arrive_29 : decode cX4_arrive 29 = .ok (.ireturn, 1) := by decide +kernel
theorem dX4_arrive_30 : decode cX4_arrive 30 = .ok (.aload_n 0, 1) := by decide +kernel
theorem dX4_arrive_31 : decode cX4_arrive 31 = .ok (.invokevirtual 55, 3) := by decide +kernel
theorem dX4_arrive_34 : decode cX4_arrive 34 = .ok (.aload_n 0, 1) := by decide +kernel
theorem dX4_arrive_35 : decode cX4_arrive 35 = .ok (.iload_n 1, 1) := by decide +kernel
theorem dX4_arrive_36 : decode cX4_arrive 36 = .ok (.iload_n 2, 1) := by decide +kernel
theorem dX4_arrive_37 : decode cX4_arrive 37 = .ok (.invokevirtual 72, 3) := by decide +kernel
theorem dX4_arrive_40 : decode cX4_arrive 40 = .ok (.aload_n 0, 1) := by decide +kernel
theorem dX4_arrive_41 : decode cX4_arrive 41 = .ok (.getfield 7, 3) := by decide +kernel
theorem dX4_arrive_44 : decode cX4_arrive 44 = .ok (.iconst 3, 1) := by decide +kernel
theorem dX4_arrive_45 : decode cX4_arrive 45 = .ok (.iaload, 1) := by decide +kernel
theorem dX4_arrive_46 : decode cX4_arrive 46 = .ok (.iconst 1, 1) := by decide +kernel
theorem dX4_arrive_47 : decode cX4_arrive 47 = .ok (.isub, 1) := by decide +kernel
theorem dX4_arrive_48 : decode cX4_arrive 48 = .ok (.ireturn, 1) := by decide +kernel
theorem dX4_sees_0 : decode cX4_sees 0 = .ok (.aload_n 0, 1) := by decide +kernel
theorem dX4_sees_1 : decode cX4_sees 1 = .ok (.getfield 76, 3) := by decide +kernel
theorem dX4_sees_4 : decode cX4_sees 4 = .ok (.aload_n 0, 1) := by decide +kernel
theorem dX4_sees_5 : decode cX4_sees 5 = .ok (.getfield 79, 3) := by decide +kernel
theorem dX4_sees_8 : decode cX4_sees 8 = .ok (.if_icmp .ge 24, 3) := by decide +kernel
theorem dX4_sees_11 : decode cX4_sees 11 = .ok (.aload_n 0, 1) := by decide +kernel
theorem dX4_sees_12 : decode cX4_sees 12 = .ok (.getfield 22, 3) := by decide +kernel
theorem dX4_sees_15 : decode cX4_sees 15 = .ok (.aload_n 0, 1) := by decide +kernel
theorem dX4_sees_16 : decode cX4_sees 16 = .ok (.getfield 76, 3) := by decide +kernel
theorem dX4_sees_19 : decode cX4_sees 19 = .ok (.caload, 1) := by decide +kernel
theorem dX4_sees_20 : decode cX4_sees 20 = .ok (.iload_n 1, 1) := by decide +kernel
theorem dX4_sees_21 : decode cX4_sees 21 = .ok (.iload_n 2, 1) := by decide +kernel
theorem dX4_sees_22 : decode cX4_sees 22 = .ok (.invokestatic 37, 3) := by decide +kernel
theorem dX4_sees_25 : decode cX4_sees 25 = .ok (.ifCond .eq 7, 3) := by decide +kernel
theorem dX4_sees_28 : decode cX4_sees 28 = .ok (.iconst 1, 1) := by decide +kernel
theorem dX4_sees_29 : decode cX4_sees 29 = .ok (.goto 4, 3) := by decide +kernel
theorem dX4_sees_32 : decode cX4_sees 32 = .ok (.iconst 0, 1) := by decide +kernel
theorem dX4_sees_33 : decode cX4_sees 33 = .ok (.ireturn, 1) := by decide +kernel
theorem dX4_arrival_0 : decode cX4_arrival 0 = .ok (.aload_n 0, 1) := by decide +kernel
theorem dX4_arrival_1 : decode cX4_arrival 1 = .ok (.bipush 48, 2) := by decide +kernel
theorem dX4_arrival_3 : decode cX4_arrival 3 = .ok (.bipush 51, 2) := by decide +kernel
theorem dX4_arrival_5 : decode cX4_arrival 5 = .ok (.invokevirtual 82, 3) := by decide +kernel
theorem dX4_arrival_8 : decode cX4_arrival 8 = .ok (.ifCond .ne 6, 3) := by decide +kernel
theorem dX4_arrival_11 : decode cX4_arrival 11 = .ok (.bipush (-100), 2) := by decide +kernel
theorem dX4_arrival_13 : decode cX4_arrival 13 = .ok (.ireturn, 1) := by decide +kernel
theorem dX4_arrival_14 : decode cX4_arrival 14 = .ok (.aload_n 0, 1) := by decide +kernel
theorem dX4_arrival_15 : decode cX4_arrival 15 = .ok (.getfield 22, 3) := by decide +kernel
theorem dX4_arrival_18 : decode cX4_arrival 18 = .ok (.aload_n 0, 1) := by decide +kernel
theorem dX4_arrival_19 : decode cX4_arrival 19 = .ok (.getfield 76, 3) := by decide +kernel
theorem dX4_arrival_22 : decode cX4_arrival 22 = .ok (.caload, 1) := by decide +kernel
theorem dX4_arrival_23 : decode cX4_arrival 23 = .ok (.bipush 48, 2) := by decide +kernel
theorem dX4_arrival_25 : decode cX4_arrival 25 = .ok (.isub, 1) := by decide +kernel
theorem dX4_arrival_26 : decode cX4_arrival 26 = .ok (.istore_n 2, 1) := by decide +kernel
theorem dX4_arrival_27 : decode cX4_arrival 27 = .ok (.aload_n 0, 1) := by decide +kernel
theorem dX4_arrival_28 : decode cX4_arrival 28 = .ok (.dup, 1) := by decide +kernel
theorem dX4_arrival_29 : decode cX4_arrival 29 = .ok (.getfield 76, 3) := by decide +kernel
theorem dX4_arrival_32 : decode cX4_arrival 32 = .ok (.iconst 1, 1) := by decide +kernel
theorem dX4_arrival_33 : decode cX4_arrival 33 = .ok (.iadd, 1) := by decide +kernel
theorem dX4_arrival_34 : decode cX4_arrival 34 = .ok (.putfield 76, 3) := by decide +kernel
theorem dX4_arrival_37 : decode cX4_arrival 37 = .ok (.aload_n 0, 1) := by decide +kernel
theorem dX4_arrival_38 : decode cX4_arrival 38 = .ok (.bipush 62, 2) := by decide +kernel
theorem dX4_arrival_40 : decode cX4_arrival 40 = .ok (.bipush 62, 2) := by decide +kernel
theorem dX4_arrival_42 : decode cX4_arrival 42 = .ok (.invokevirtual 82, 3) := by decide +kernel
theorem dX4_arrival_45 : decode cX4_arrival 45 = .ok (.ifCond .ne 6, 3) := by decide +kernel
theorem dX4_arrival_48 : decode cX4_arrival 48 = .ok (.bipush (-100), 2) := by decide +kernel
theorem dX4_arrival_50 : decode cX4_arrival 50 = .ok (.ireturn, 1) := by decide +kernel
theorem dX4_arrival_51 : decode cX4_arrival 51 = .ok (.aload_n 0, 1) := by decide +kernel
theorem dX4_arrival_52 : decode cX4_arrival 52 = .ok (.dup, 1) := by decide +kernel
theorem dX4_arrival_53 : decode cX4_arrival 53 = .ok (.getfield 76, 3) := by decide +kernel
theorem dX4_arrival_56 : decode cX4_arrival 56 = .ok (.iconst 1, 1) := by decide +kernel
theorem dX4_arrival_57 : decode cX4_arrival 57 = .ok (.iadd, 1) := by decide +kernel
theorem dX4_arrival_58 : decode cX4_arrival 58 = .ok (.putfield 76, 3) := by decide +kernel
theorem dX4_arrival_61 : decode cX4_arrival 61 = .ok (.aload_n 0, 1) := by decide +kernel
theorem dX4_arrival_62 : decode cX4_arrival 62 = .ok (.bipush 48, 2) := by decide +kernel
theorem dX4_arrival_64 : decode cX4_arrival 64 = .ok (.bipush 51, 2) := by decide +kernel
theorem dX4_arrival_66 : decode cX4_arrival 66 = .ok (.invokevirtual 82, 3) := by decide +kernel
theorem dX4_arrival_69 : decode cX4_arrival 69 = .ok (.ifCond .ne 6, 3) := by decide +kernel
theorem dX4_arrival_72 : decode cX4_arrival 72 = .ok (.bipush (-100), 2) := by decide +kernel
theorem dX4_arrival_74 : decode cX4_arrival 74 = .ok (.ireturn, 1) := by decide +kernel
theorem dX4_arrival_75 : decode cX4_arrival 75 = .ok (.aload_n 0, 1) := by decide +kernel
theorem dX4_arrival_76 : decode cX4_arrival 76 = .ok (.getfield 22, 3) := by decide +kernel
theorem dX4_arrival_79 : decode cX4_arrival 79 = .ok (.aload_n 0, 1) := by decide +kernel
theorem dX4_arrival_80 : decode cX4_arrival 80 = .ok (.getfield 76, 3) := by decide +kernel
theorem dX4_arrival_83 : decode cX4_arrival 83 = .ok (.caload, 1) := by decide +kernel
theorem dX4_arrival_84 : decode cX4_arrival 84 = .ok (.bipush 48, 2) := by decide +kernel
theorem dX4_arrival_86 : decode cX4_arrival 86 = .ok (.isub, 1) := by decide +kernel
theorem dX4_arrival_87 : decode cX4_arrival 87 = .ok (.istore_n 3, 1) := by decide +kernel
theorem dX4_arrival_88 : decode cX4_arrival 88 = .ok (.aload_n 0, 1) := by decide +kernel
theorem dX4_arrival_89 : decode cX4_arrival 89 = .ok (.dup, 1) := by decide +kernel
theorem dX4_arrival_90 : decode cX4_arrival 90 = .ok (.getfield 76, 3) := by decide +kernel
theorem dX4_arrival_93 : decode cX4_arrival 93 = .ok (.iconst 1, 1) := by decide +kernel
theorem dX4_arrival_94 : decode cX4_arrival 94 = .ok (.iadd, 1) := by decide +kernel
theorem dX4_arrival_95 : decode cX4_arrival 95 = .ok (.putfield 76, 3) := by decide +kernel
theorem dX4_arrival_98 : decode cX4_arrival 98 = .ok (.iconst 1, 1) := by decide +kernel
theorem dX4_arrival_99 : decode cX4_arrival 99 = .ok (.istore 4, 2) := by decide +kernel
theorem dX4_arrival_101 : decode cX4_arrival 101 = .ok (.aload_n 0, 1) := by decide +kernel
theorem dX4_arrival_102 : decode cX4_arrival 102 = .ok (.bipush 42, 2) := by decide +kernel
theorem dX4_arrival_104 : decode cX4_arrival 104 = .ok (.bipush 42, 2) := by decide +kernel
theorem dX4_arrival_106 : decode cX4_arrival 106 = .ok (.invokevirtual 82, 3) := by decide +kernel
theorem dX4_arrival_109 : decode cX4_arrival 109 = .ok (.ifCond .eq 51, 3) := by decide +kernel
theorem dX4_arrival_112 : decode cX4_arrival 112 = .ok (.aload_n 0, 1) := by decide +kernel
theorem dX4_arrival_113 : decode cX4_arrival 113 = .ok (.dup, 1) := by decide +kernel
theorem dX4_arrival_114 : decode cX4_arrival 114 = .ok (.getfield 76, 3) := by decide +kernel
theorem dX4_arrival_117 : decode cX4_arrival 117 = .ok (.iconst 1, 1) := by decide +kernel
theorem dX4_arrival_118 : decode cX4_arrival 118 = .ok (.iadd, 1) := by decide +kernel
theorem dX4_arrival_119 : decode cX4_arrival 119 = .ok (.putfield 76, 3) := by decide +kernel
theorem dX4_arrival_122 : decode cX4_arrival 122 = .ok (.aload_n 0, 1) := by decide +kernel
theorem dX4_arrival_123 : decode cX4_arrival 123 = .ok (.bipush 49, 2) := by decide +kernel
theorem dX4_arrival_125 : decode cX4_arrival 125 = .ok (.bipush 57, 2) := by decide +kernel
theorem dX4_arrival_127 : decode cX4_arrival 127 = .ok (.invokevirtual 82, 3) := by decide +kernel
theorem dX4_arrival_130 : decode cX4_arrival 130 = .ok (.ifCond .ne 6, 3) := by decide +kernel
theorem dX4_arrival_133 : decode cX4_arrival 133 = .ok (.bipush (-100), 2) := by decide +kernel
theorem dX4_arrival_135 : decode cX4_arrival 135 = .ok (.ireturn, 1) := by decide +kernel
theorem dX4_arrival_136 : decode cX4_arrival 136 = .ok (.aload_n 0, 1) := by decide +kernel
theorem dX4_arrival_137 : decode cX4_arrival 137 = .ok (.getfield 22, 3) := by decide +kernel
theorem dX4_arrival_140 : decode cX4_arrival 140 = .ok (.aload_n 0, 1) := by decide +kernel
theorem dX4_arrival_141 : decode cX4_arrival 141 = .ok (.getfield 76, 3) := by decide +kernel
theorem dX4_arrival_144 : decode cX4_arrival 144 = .ok (.caload, 1) := by decide +kernel
theorem dX4_arrival_145 : decode cX4_arrival 145 = .ok (.bipush 48, 2) := by decide +kernel
theorem dX4_arrival_147 : decode cX4_arrival 147 = .ok (.isub, 1) := by decide +kernel
theorem dX4_arrival_148 : decode cX4_arrival 148 = .ok (.istore 4, 2) := by decide +kernel
theorem dX4_arrival_150 : decode cX4_arrival 150 = .ok (.aload_n 0, 1) := by decide +kernel
theorem dX4_arrival_151 : decode cX4_arrival 151 = .ok (.dup, 1) := by decide +kernel
theorem dX4_arrival_152 : decode cX4_arrival 152 = .ok (.getfield 76, 3) := by decide +kernel
theorem dX4_arrival_155 : decode cX4_arrival 155 = .ok (.iconst 1, 1) := by decide +kernel
theorem dX4_arrival_156 : decode cX4_arrival 156 = .ok (.iadd, 1) := by decide +kernel
theorem dX4_arrival_157 : decode cX4_arrival 157 = .ok (.putfield 76, 3) := by decide +kernel
theorem dX4_arrival_160 : decode cX4_arrival 160 = .ok (.iload_n 1, 1) := by decide +kernel
theorem dX4_arrival_161 : decode cX4_arrival 161 = .ok (.ifCond .eq 20, 3) := by decide +kernel
theorem dX4_arrival_164 : decode cX4_arrival 164 = .ok (.aload_n 0, 1) := by decide +kernel
theorem dX4_arrival_165 : decode cX4_arrival 165 = .ok (.iload_n 2, 1) := by decide +kernel
theorem dX4_arrival_166 : decode cX4_arrival 166 = .ok (.iconst 0, 1) := by decide +kernel
theorem dX4_arrival_167 : decode cX4_arrival 167 = .ok (.invokevirtual 69, 3) := by decide +kernel
theorem dX4_arrival_170 : decode cX4_arrival 170 = .ok (.iload 4, 2) := by decide +kernel
theorem dX4_arrival_172 : decode cX4_arrival 172 = .ok (.iadd, 1) := by decide +kernel
theorem dX4_arrival_173 : decode cX4_arrival 173 = .ok (.bipush 8, 2) := by decide +kernel
theorem dX4_arrival_175 : decode cX4_arrival 175 = .ok (.if_icmp .le 6, 3) := by decide +kernel
theorem dX4_arrival_178 : decode cX4_arrival 178 = .ok (.bipush (-3), 2) := by decide +kernel
theorem dX4_arrival_180 : decode cX4_arrival 180 = .ok (.ireturn, 1) := by decide +kernel
theorem dX4_arrival_181 : decode cX4_arrival 181 = .ok (.iconst 0, 1) := by decide +kernel
theorem dX4_arrival_182 : decode cX4_arrival 182 = .ok (.istore 5, 2) := by decide +kernel
theorem dX4_arrival_184 : decode cX4_arrival 184 = .ok (.iload 5, 2) := by decide +kernel
theorem dX4_arrival_186 : decode cX4_arrival 186 = .ok (.iload 4, 2) := by decide +kernel
theorem dX4_arrival_188 : decode cX4_arrival 188 = .ok (.if_icmp .ge 19, 3) := by decide +kernel
theorem dX4_arrival_191 : decode cX4_arrival 191 = .ok (.iload_n 1, 1) := by decide +kernel
theorem dX4_arrival_192 : decode cX4_arrival 192 = .ok (.ifCond .eq 15, 3) := by decide +kernel
theorem dX4_arrival_195 : decode cX4_arrival 195 = .ok (.aload_n 0, 1) := by decide +kernel
theorem dX4_arrival_196 : decode cX4_arrival 196 = .ok (.iload_n 2, 1) := by decide +kernel
theorem dX4_arrival_197 : decode cX4_arrival 197 = .ok (.iload_n 3, 1) := by decide +kernel
theorem dX4_arrival_198 : decode cX4_arrival 198 = .ok (.invokevirtual 72, 3) := by decide +kernel
theorem dX4_arrival_201 : decode cX4_arrival 201 = .ok (.iinc 5 1, 3) := by decide +kernel
theorem dX4_arrival_204 : decode cX4_arrival 204 = .ok (.goto (-20), 3) := by decide +kernel
theorem dX4_arrival_207 : decode cX4_arrival 207 = .ok (.iload 4, 2) := by decide +kernel
theorem dX4_arrival_209 : decode cX4_arrival 209 = .ok (.ireturn, 1) := by decide +kernel
theorem dX4_arrivals_0 : decode cX4_arrivals 0 = .ok (.aload_n 0, 1) := by decide +kernel
theorem dX4_arrivals_1 : decode cX4_arrivals 1 = .ok (.iconst 0, 1) := by decide +kernel
theorem dX4_arrivals_2 : decode cX4_arrivals 2 = .ok (.putfield 76, 3) := by decide +kernel
theorem dX4_arrivals_5 : decode cX4_arrivals 5 = .ok (.iconst 0, 1) := by decide +kernel
theorem dX4_arrivals_6 : decode cX4_arrivals 6 = .ok (.istore_n 2, 1) := by decide +kernel
theorem dX4_arrivals_7 : decode cX4_arrivals 7 = .ok (.iconst 1, 1) := by decide +kernel
theorem dX4_arrivals_8 : decode cX4_arrivals 8 = .ok (.istore_n 3, 1) := by decide +kernel
theorem dX4_arrivals_9 : decode cX4_arrivals 9 = .ok (.iload_n 3, 1) := by decide +kernel
theorem dX4_arrivals_10 : decode cX4_arrivals 10 = .ok (.ifCond .eq 53, 3) := by decide +kernel
theorem dX4_arrivals_13 : decode cX4_arrivals 13 = .ok (.aload_n 0, 1) := by decide +kernel
theorem dX4_arrivals_14 : decode cX4_arrivals 14 = .ok (.iload_n 1, 1) := by decide +kernel
theorem dX4_arrivals_15 : decode cX4_arrivals 15 = .ok (.invokevirtual 86, 3) := by decide +kernel
theorem dX4_arrivals_18 : decode cX4_arrivals 18 = .ok (.istore 4, 2) := by decide +kernel
theorem dX4_arrivals_20 : decode cX4_arrivals 20 = .ok (.iload 4, 2) := by decide +kernel
theorem dX4_arrivals_22 : decode cX4_arrivals 22 = .ok (.ifCond .ge 6, 3) := by decide +kernel
theorem dX4_arrivals_25 : decode cX4_arrivals 25 = .ok (.iload 4, 2) := by decide +kernel
theorem dX4_arrivals_27 : decode cX4_arrivals 27 = .ok (.ireturn, 1) := by decide +kernel
theorem dX4_arrivals_28 : decode cX4_arrivals 28 = .ok (.iload_n 2, 1) := by decide +kernel
theorem dX4_arrivals_29 : decode cX4_arrivals 29 = .ok (.iload 4, 2) := by decide +kernel
theorem dX4_arrivals_31 : decode cX4_arrivals 31 = .ok (.iadd, 1) := by decide +kernel
theorem dX4_arrivals_32 : decode cX4_arrivals 32 = .ok (.istore_n 2, 1) := by decide +kernel
theorem dX4_arrivals_33 : decode cX4_arrivals 33 = .ok (.aload_n 0, 1) := by decide +kernel
theorem dX4_arrivals_34 : decode cX4_arrivals 34 = .ok (.bipush 44, 2) := by decide +kernel
theorem dX4_arrivals_36 : decode cX4_arrivals 36 = .ok (.bipush 44, 2) := by decide +kernel
theorem dX4_arrivals_38 : decode cX4_arrivals 38 = .ok (.invokevirtual 82, 3) := by decide +kernel
theorem dX4_arrivals_41 : decode cX4_arrivals 41 = .ok (.istore_n 3, 1) := by decide +kernel
theorem dX4_arrivals_42 : decode cX4_arrivals 42 = .ok (.aload_n 0, 1) := by decide +kernel
theorem dX4_arrivals_43 : decode cX4_arrivals 43 = .ok (.dup, 1) := by decide +kernel
theorem dX4_arrivals_44 : decode cX4_arrivals 44 = .ok (.getfield 76, 3) := by decide +kernel
theorem dX4_arrivals_47 : decode cX4_arrivals 47 = .ok (.iload_n 3, 1) := by decide +kernel
theorem dX4_arrivals_48 : decode cX4_arrivals 48 = .ok (.ifCond .eq 7, 3) := by decide +kernel
theorem dX4_arrivals_51 : decode cX4_arrivals 51 = .ok (.iconst 1, 1) := by decide +kernel
theorem dX4_arrivals_52 : decode cX4_arrivals 52 = .ok (.goto 4, 3) := by decide +kernel
theorem dX4_arrivals_55 : decode cX4_arrivals 55 = .ok (.iconst 0, 1) := by decide +kernel
theorem dX4_arrivals_56 : decode cX4_arrivals 56 = .ok (.iadd, 1) := by decide +kernel
theorem dX4_arrivals_57 : decode cX4_arrivals 57 = .ok (.putfield 76, 3) := by decide +kernel
theorem dX4_arrivals_60 : decode cX4_arrivals 60 = .ok (.goto (-51), 3) := by decide +kernel
theorem dX4_arrivals_63 : decode cX4_arrivals 63 = .ok (.aload_n 0, 1) := by decide +kernel
theorem dX4_arrivals_64 : decode cX4_arrivals 64 = .ok (.getfield 76, 3) := by decide +kernel
theorem dX4_arrivals_67 : decode cX4_arrivals 67 = .ok (.aload_n 0, 1) := by decide +kernel
theorem dX4_arrivals_68 : decode cX4_arrivals 68 = .ok (.getfield 79, 3) := by decide +kernel
theorem dX4_arrivals_71 : decode cX4_arrivals 71 = .ok (.if_icmp .ge 8, 3) := by decide +kernel
theorem dX4_arrivals_74 : decode cX4_arrivals 74 = .ok (.bipush (-100), 2) := by decide +kernel
theorem dX4_arrivals_76 : decode cX4_arrivals 76 = .ok (.goto 4, 3) := by decide +kernel
theorem dX4_arrivals_79 : decode cX4_arrivals 79 = .ok (.iload_n 2, 1) := by decide +kernel
theorem dX4_arrivals_80 : decode cX4_arrivals 80 = .ok (.ireturn, 1) := by decide +kernel
theorem dX4_readArrivals_0 : decode cX4_readArrivals 0 = .ok (.aload_n 0, 1) := by decide +kernel
theorem dX4_readArrivals_1 : decode cX4_readArrivals 1 = .ok (.iconst 0, 1) := by decide +kernel
theorem dX4_readArrivals_2 : decode cX4_readArrivals 2 = .ok (.invokevirtual 90, 3) := by decide +kernel
theorem dX4_readArrivals_5 : decode cX4_readArrivals 5 = .ok (.ifCond .ge 11, 3) := by decide +kernel
theorem dX4_readArrivals_8 : decode cX4_readArrivals 8 = .ok (.bipush (-100), 2) := by decide +kernel
theorem dX4_readArrivals_10 : decode cX4_readArrivals 10 = .ok (.aload_n 0, 1) := by decide +kernel
theorem dX4_readArrivals_11 : decode cX4_readArrivals 11 = .ok (.getfield 76, 3) := by decide +kernel
theorem dX4_readArrivals_14 : decode cX4_readArrivals 14 = .ok (.isub, 1) := by decide +kernel
theorem dX4_readArrivals_15 : decode cX4_readArrivals 15 = .ok (.ireturn, 1) := by decide +kernel
theorem dX4_readArrivals_16 : decode cX4_readArrivals 16 = .ok (.aload_n 0, 1) := by decide +kernel
theorem dX4_readArrivals_17 : decode cX4_readArrivals 17 = .ok (.invokevirtual 45, 3) := by decide +kernel
theorem dX4_readArrivals_20 : decode cX4_readArrivals 20 = .ok (.aload_n 0, 1) := by decide +kernel
theorem dX4_readArrivals_21 : decode cX4_readArrivals 21 = .ok (.iconst 1, 1) := by decide +kernel
theorem dX4_readArrivals_22 : decode cX4_readArrivals 22 = .ok (.invokevirtual 90, 3) := by decide +kernel
theorem dX4_readArrivals_25 : decode cX4_readArrivals 25 = .ok (.istore_n 1, 1) := by decide +kernel
theorem dX4_readArrivals_26 : decode cX4_readArrivals 26 = .ok (.iload_n 1, 1) := by decide +kernel
theorem dX4_readArrivals_27 : decode cX4_readArrivals 27 = .ok (.ifCond .ge 9, 3) := by decide +kernel
theorem dX4_readArrivals_30 : decode cX4_readArrivals 30 = .ok (.aload_n 0, 1) := by decide +kernel
theorem dX4_readArrivals_31 : decode cX4_readArrivals 31 = .ok (.invokevirtual 93, 3) := by decide +kernel
theorem dX4_readArrivals_34 : decode cX4_readArrivals 34 = .ok (.iload_n 1, 1) := by decide +kernel
theorem dX4_readArrivals_35 : decode cX4_readArrivals 35 = .ok (.ireturn, 1) := by decide +kernel
theorem dX4_readArrivals_36 : decode cX4_readArrivals 36 = .ok (.aload_n 0, 1) := by decide +kernel
theorem dX4_readArrivals_37 : decode cX4_readArrivals 37 = .ok (.invokevirtual 48, 3) := by decide +kernel
theorem dX4_readArrivals_40 : decode cX4_readArrivals 40 = .ok (.iload_n 1, 1) := by decide +kernel
theorem dX4_readArrivals_41 : decode cX4_readArrivals 41 = .ok (.ireturn, 1) := by decide +kernel
theorem dX4_missing_0 : decode cX4_missing 0 = .ok (.aload_n 0, 1) := by decide +kernel
theorem dX4_missing_1 : decode cX4_missing 1 = .ok (.iload_n 1, 1) := by decide +kernel
theorem dX4_missing_2 : decode cX4_missing 2 = .ok (.iconst 0, 1) := by decide +kernel
theorem dX4_missing_3 : decode cX4_missing 3 = .ok (.invokevirtual 62, 3) := by decide +kernel
theorem dX4_missing_6 : decode cX4_missing 6 = .ok (.aload_n 0, 1) := by decide +kernel
theorem dX4_missing_7 : decode cX4_missing 7 = .ok (.iload_n 1, 1) := by decide +kernel
theorem dX4_missing_8 : decode cX4_missing 8 = .ok (.iconst 3, 1) := by decide +kernel
theorem dX4_missing_9 : decode cX4_missing 9 = .ok (.invokevirtual 62, 3) := by decide +kernel
theorem dX4_missing_12 : decode cX4_missing 12 = .ok (.isub, 1) := by decide +kernel
theorem dX4_missing_13 : decode cX4_missing 13 = .ok (.aload_n 0, 1) := by decide +kernel
theorem dX4_missing_14 : decode cX4_missing 14 = .ok (.iload_n 1, 1) := by decide +kernel
theorem dX4_missing_15 : decode cX4_missing 15 = .ok (.bipush 9, 2) := by decide +kernel
theorem dX4_missing_17 : decode cX4_missing 17 = .ok (.invokevirtual 62, 3) := by decide +kernel
theorem dX4_missing_20 : decode cX4_missing 20 = .ok (.isub, 1) := by decide +kernel
theorem dX4_missing_21 : decode cX4_missing 21 = .ok (.aload_n 0, 1) := by decide +kernel
theorem dX4_missing_22 : decode cX4_missing 22 = .ok (.iload_n 1, 1) := by decide +kernel
theorem dX4_missing_23 : decode cX4_missing 23 = .ok (.bipush 10, 2) := by decide +kernel
theorem dX4_missing_25 : decode cX4_missing 25 = .ok (.invokevirtual 62, 3) := by decide +kernel
theorem dX4_missing_28 : decode cX4_missing 28 = .ok (.isub, 1) := by decide +kernel
theorem dX4_missing_29 : decode cX4_missing 29 = .ok (.ireturn, 1) := by decide +kernel
theorem dX4_come_0 : decode cX4_come 0 = .ok (.aload_n 0, 1) := by decide +kernel
theorem dX4_come_1 : decode cX4_come 1 = .ok (.iload_n 1, 1) := by decide +kernel
theorem dX4_come_2 : decode cX4_come 2 = .ok (.bipush 10, 2) := by decide +kernel
theorem dX4_come_4 : decode cX4_come 4 = .ok (.invokevirtual 62, 3) := by decide +kernel
theorem dX4_come_7 : decode cX4_come 7 = .ok (.ifCond .le 34, 3) := by decide +kernel
theorem dX4_come_10 : decode cX4_come 10 = .ok (.aload_n 0, 1) := by decide +kernel
theorem dX4_come_11 : decode cX4_come 11 = .ok (.iload_n 1, 1) := by decide +kernel
theorem dX4_come_12 : decode cX4_come 12 = .ok (.bipush 19, 2) := by decide +kernel
theorem dX4_come_14 : decode cX4_come 14 = .ok (.invokevirtual 62, 3) := by decide +kernel
theorem dX4_come_17 : decode cX4_come 17 = .ok (.aload_n 0, 1) := by decide +kernel
theorem dX4_come_18 : decode cX4_come 18 = .ok (.getfield 7, 3) := by decide +kernel
theorem dX4_come_21 : decode cX4_come 21 = .ok (.iconst 0, 1) := by decide +kernel
theorem dX4_come_22 : decode cX4_come 22 = .ok (.iaload, 1) := by decide +kernel
theorem dX4_come_23 : decode cX4_come 23 = .ok (.if_icmp .gt 18, 3) := by decide +kernel
theorem dX4_come_26 : decode cX4_come 26 = .ok (.aload_n 0, 1) := by decide +kernel
theorem dX4_come_27 : decode cX4_come 27 = .ok (.iload_n 1, 1) := by decide +kernel
theorem dX4_come_28 : decode cX4_come 28 = .ok (.invokevirtual 96, 3) := by decide +kernel
theorem dX4_come_31 : decode cX4_come 31 = .ok (.aload_n 0, 1) := by decide +kernel
theorem dX4_come_32 : decode cX4_come 32 = .ok (.iload_n 1, 1) := by decide +kernel
theorem dX4_come_33 : decode cX4_come 33 = .ok (.iconst 3, 1) := by decide +kernel
theorem dX4_come_34 : decode cX4_come 34 = .ok (.iconst 1, 1) := by decide +kernel
theorem dX4_come_35 : decode cX4_come 35 = .ok (.invokevirtual 66, 3) := by decide +kernel
theorem dX4_come_38 : decode cX4_come 38 = .ok (.goto (-38), 3) := by decide +kernel
theorem dX4_come_41 : decode cX4_come 41 = .ok (.return_, 1) := by decide +kernel
theorem dX4_dropFirst_0 : decode cX4_dropFirst 0 = .ok (.aload_n 0, 1) := by decide +kernel
theorem dX4_dropFirst_1 : decode cX4_dropFirst 1 = .ok (.iload_n 1, 1) := by decide +kernel
theorem dX4_dropFirst_2 : decode cX4_dropFirst 2 = .ok (.bipush 10, 2) := by decide +kernel
theorem dX4_dropFirst_4 : decode cX4_dropFirst 4 = .ok (.iconst (-1), 1) := by decide +kernel
theorem dX4_dropFirst_5 : decode cX4_dropFirst 5 = .ok (.invokevirtual 66, 3) := by decide +kernel
theorem dX4_dropFirst_8 : decode cX4_dropFirst 8 = .ok (.iconst 0, 1) := by decide +kernel
theorem dX4_dropFirst_9 : decode cX4_dropFirst 9 = .ok (.istore_n 2, 1) := by decide +kernel
theorem dX4_dropFirst_10 : decode cX4_dropFirst 10 = .ok (.iload_n 2, 1) := by decide +kernel
theorem dX4_dropFirst_11 : decode cX4_dropFirst 11 = .ok (.aload_n 0, 1) := by decide +kernel
theorem dX4_dropFirst_12 : decode cX4_dropFirst 12 = .ok (.iload_n 1, 1) := by decide +kernel
theorem dX4_dropFirst_13 : decode cX4_dropFirst 13 = .ok (.bipush 10, 2) := by decide +kernel
theorem dX4_dropFirst_15 : decode cX4_dropFirst 15 = .ok (.invokevirtual 62, 3) := by decide +kernel
theorem dX4_dropFirst_18 : decode cX4_dropFirst 18 = .ok (.if_icmp .ge 29, 3) := by decide +kernel
theorem dX4_dropFirst_21 : decode cX4_dropFirst 21 = .ok (.aload_n 0, 1) := by decide +kernel
theorem dX4_dropFirst_22 : decode cX4_dropFirst 22 = .ok (.iload_n 1, 1) := by decide +kernel
theorem dX4_dropFirst_23 : decode cX4_dropFirst 23 = .ok (.bipush 19, 2) := by decide +kernel
theorem dX4_dropFirst_25 : decode cX4_dropFirst 25 = .ok (.iload_n 2, 1) := by decide +kernel
theorem dX4_dropFirst_26 : decode cX4_dropFirst 26 = .ok (.iadd, 1) := by decide +kernel
theorem dX4_dropFirst_27 : decode cX4_dropFirst 27 = .ok (.aload_n 0, 1) := by decide +kernel
theorem dX4_dropFirst_28 : decode cX4_dropFirst 28 = .ok (.iload_n 1, 1) := by decide +kernel
theorem dX4_dropFirst_29 : decode cX4_dropFirst 29 = .ok (.bipush 19, 2) := by decide +kernel
theorem dX4_dropFirst_31 : decode cX4_dropFirst 31 = .ok (.iload_n 2, 1) := by decide +kernel
theorem dX4_dropFirst_32 : decode cX4_dropFirst 32 = .ok (.iadd, 1) := by decide +kernel
theorem dX4_dropFirst_33 : decode cX4_dropFirst 33 = .ok (.iconst 1, 1) := by decide +kernel
theorem dX4_dropFirst_34 : decode cX4_dropFirst 34 = .ok (.iadd, 1) := by decide +kernel
theorem dX4_dropFirst_35 : decode cX4_dropFirst 35 = .ok (.invokevirtual 62, 3) := by decide +kernel
theorem dX4_dropFirst_38 : decode cX4_dropFirst 38 = .ok (.invokevirtual 33, 3) := by decide +kernel
theorem dX4_dropFirst_41 : decode cX4_dropFirst 41 = .ok (.iinc 2 1, 3) := by decide +kernel
theorem dX4_dropFirst_44 : decode cX4_dropFirst 44 = .ok (.goto (-34), 3) := by decide +kernel
theorem dX4_dropFirst_47 : decode cX4_dropFirst 47 = .ok (.aload_n 0, 1) := by decide +kernel
theorem dX4_dropFirst_48 : decode cX4_dropFirst 48 = .ok (.iload_n 1, 1) := by decide +kernel
theorem dX4_dropFirst_49 : decode cX4_dropFirst 49 = .ok (.bipush 19, 2) := by decide +kernel
theorem dX4_dropFirst_51 : decode cX4_dropFirst 51 = .ok (.aload_n 0, 1) := by decide +kernel
theorem dX4_dropFirst_52 : decode cX4_dropFirst 52 = .ok (.iload_n 1, 1) := by decide +kernel
theorem dX4_dropFirst_53 : decode cX4_dropFirst 53 = .ok (.bipush 10, 2) := by decide +kernel
theorem dX4_dropFirst_55 : decode cX4_dropFirst 55 = .ok (.invokevirtual 62, 3) := by decide +kernel
theorem dX4_dropFirst_58 : decode cX4_dropFirst 58 = .ok (.iadd, 1) := by decide +kernel
theorem dX4_dropFirst_59 : decode cX4_dropFirst 59 = .ok (.iconst 0, 1) := by decide +kernel
theorem dX4_dropFirst_60 : decode cX4_dropFirst 60 = .ok (.invokevirtual 33, 3) := by decide +kernel
theorem dX4_dropFirst_63 : decode cX4_dropFirst 63 = .ok (.return_, 1) := by decide +kernel
theorem dX4_offer_0 : decode cX4_offer 0 = .ok (.aload_n 0, 1) := by decide +kernel
theorem dX4_offer_1 : decode cX4_offer 1 = .ok (.getfield 26, 3) := by decide +kernel
theorem dX4_offer_4 : decode cX4_offer 4 = .ok (.iload_n 1, 1) := by decide +kernel
theorem dX4_offer_5 : decode cX4_offer 5 = .ok (.baload, 1) := by decide +kernel
theorem dX4_offer_6 : decode cX4_offer 6 = .ok (.ifCond .eq 6, 3) := by decide +kernel
theorem dX4_offer_9 : decode cX4_offer 9 = .ok (.bipush (-5), 2) := by decide +kernel
theorem dX4_offer_11 : decode cX4_offer 11 = .ok (.ireturn, 1) := by decide +kernel
theorem dX4_offer_12 : decode cX4_offer 12 = .ok (.aload_n 0, 1) := by decide +kernel
theorem dX4_offer_13 : decode cX4_offer 13 = .ok (.getfield 7, 3) := by decide +kernel
theorem dX4_offer_16 : decode cX4_offer 16 = .ok (.iconst 1, 1) := by decide +kernel
theorem dX4_offer_17 : decode cX4_offer 17 = .ok (.iaload, 1) := by decide +kernel
theorem dX4_offer_18 : decode cX4_offer 18 = .ok (.iconst 1, 1) := by decide +kernel
theorem dX4_offer_19 : decode cX4_offer 19 = .ok (.if_icmp .ne 12, 3) := by decide +kernel
theorem dX4_offer_22 : decode cX4_offer 22 = .ok (.aload_n 0, 1) := by decide +kernel
theorem dX4_offer_23 : decode cX4_offer 23 = .ok (.iload_n 1, 1) := by decide +kernel
theorem dX4_offer_24 : decode cX4_offer 24 = .ok (.iconst 0, 1) := by decide +kernel
theorem dX4_offer_25 : decode cX4_offer 25 = .ok (.invokevirtual 69, 3) := by decide +kernel
theorem dX4_offer_28 : decode cX4_offer 28 = .ok (.goto 18, 3) := by decide +kernel
theorem dX4_offer_31 : decode cX4_offer 31 = .ok (.aload_n 0, 1) := by decide +kernel
theorem dX4_offer_32 : decode cX4_offer 32 = .ok (.iload_n 1, 1) := by decide +kernel
theorem dX4_offer_33 : decode cX4_offer 33 = .ok (.iconst 0, 1) := by decide +kernel
theorem dX4_offer_34 : decode cX4_offer 34 = .ok (.invokevirtual 69, 3) := by decide +kernel
theorem dX4_offer_37 : decode cX4_offer 37 = .ok (.iconst 1, 1) := by decide +kernel
theorem dX4_offer_38 : decode cX4_offer 38 = .ok (.if_icmp .ge 7, 3) := by decide +kernel
theorem dX4_offer_41 : decode cX4_offer 41 = .ok (.iconst 0, 1) := by decide +kernel
theorem dX4_offer_42 : decode cX4_offer 42 = .ok (.goto 4, 3) := by decide +kernel
theorem dX4_offer_45 : decode cX4_offer 45 = .ok (.iconst 1, 1) := by decide +kernel
theorem dX4_offer_46 : decode cX4_offer 46 = .ok (.istore_n 3, 1) := by decide +kernel
theorem dX4_offer_47 : decode cX4_offer 47 = .ok (.iconst 0, 1) := by decide +kernel
theorem dX4_offer_48 : decode cX4_offer 48 = .ok (.istore 4, 2) := by decide +kernel
theorem dX4_offer_50 : decode cX4_offer 50 = .ok (.iload 4, 2) := by decide +kernel
theorem dX4_offer_52 : decode cX4_offer 52 = .ok (.iload_n 3, 1) := by decide +kernel
theorem dX4_offer_53 : decode cX4_offer 53 = .ok (.if_icmp .ge 29, 3) := by decide +kernel
theorem dX4_offer_56 : decode cX4_offer 56 = .ok (.aload_n 0, 1) := by decide +kernel
theorem dX4_offer_57 : decode cX4_offer 57 = .ok (.iload_n 1, 1) := by decide +kernel
theorem dX4_offer_58 : decode cX4_offer 58 = .ok (.iconst 3, 1) := by decide +kernel
theorem dX4_offer_59 : decode cX4_offer 59 = .ok (.iconst 3, 1) := by decide +kernel
theorem dX4_offer_60 : decode cX4_offer 60 = .ok (.iload 4, 2) := by decide +kernel
theorem dX4_offer_62 : decode cX4_offer 62 = .ok (.imul, 1) := by decide +kernel
theorem dX4_offer_63 : decode cX4_offer 63 = .ok (.iadd, 1) := by decide +kernel
theorem dX4_offer_64 : decode cX4_offer 64 = .ok (.iconst 1, 1) := by decide +kernel
theorem dX4_offer_65 : decode cX4_offer 65 = .ok (.iadd, 1) := by decide +kernel
theorem dX4_offer_66 : decode cX4_offer 66 = .ok (.invokevirtual 69, 3) := by decide +kernel
theorem dX4_offer_69 : decode cX4_offer 69 = .ok (.iload_n 2, 1) := by decide +kernel
theorem dX4_offer_70 : decode cX4_offer 70 = .ok (.if_icmp .ne 6, 3) := by decide +kernel
theorem dX4_offer_73 : decode cX4_offer 73 = .ok (.iload 4, 2) := by decide +kernel
theorem dX4_offer_75 : decode cX4_offer 75 = .ok (.ireturn, 1) := by decide +kernel
theorem dX4_offer_76 : decode cX4_offer 76 = .ok (.iinc 4 1, 3) := by decide +kernel
theorem dX4_offer_79 : decode cX4_offer 79 = .ok (.goto (-29), 3) := by decide +kernel
theorem dX4_offer_82 : decode cX4_offer 82 = .ok (.bipush (-5), 2) := by decide +kernel
theorem dX4_offer_84 : decode cX4_offer 84 = .ok (.ireturn, 1) := by decide +kernel
theorem dX4_leave_0 : decode cX4_leave 0 = .ok (.bipush 124, 2) := by decide +kernel
theorem dX4_leave_2 : decode cX4_leave 2 = .ok (.bipush 27, 2) := by decide +kernel
theorem dX4_leave_4 : decode cX4_leave 4 = .ok (.iload_n 1, 1) := by decide +kernel
theorem dX4_leave_5 : decode cX4_leave 5 = .ok (.imul, 1) := by decide +kernel
theorem dX4_leave_6 : decode cX4_leave 6 = .ok (.iadd, 1) := by decide +kernel
theorem dX4_leave_7 : decode cX4_leave 7 = .ok (.istore_n 3, 1) := by decide +kernel
theorem dX4_leave_8 : decode cX4_leave 8 = .ok (.aload_n 0, 1) := by decide +kernel
theorem dX4_leave_9 : decode cX4_leave 9 = .ok (.getfield 7, 3) := by decide +kernel
theorem dX4_leave_12 : decode cX4_leave 12 = .ok (.iload_n 3, 1) := by decide +kernel
theorem dX4_leave_13 : decode cX4_leave 13 = .ok (.iconst 3, 1) := by decide +kernel
theorem dX4_leave_14 : decode cX4_leave 14 = .ok (.iadd, 1) := by decide +kernel
theorem dX4_leave_15 : decode cX4_leave 15 = .ok (.iconst 3, 1) := by decide +kernel
theorem dX4_leave_16 : decode cX4_leave 16 = .ok (.iload_n 2, 1) := by decide +kernel
theorem dX4_leave_17 : decode cX4_leave 17 = .ok (.imul, 1) := by decide +kernel
theorem dX4_leave_18 : decode cX4_leave 18 = .ok (.iadd, 1) := by decide +kernel
theorem dX4_leave_19 : decode cX4_leave 19 = .ok (.iaload, 1) := by decide +kernel
theorem dX4_leave_20 : decode cX4_leave 20 = .ok (.istore 4, 2) := by decide +kernel
theorem dX4_leave_22 : decode cX4_leave 22 = .ok (.aload_n 0, 1) := by decide +kernel
theorem dX4_leave_23 : decode cX4_leave 23 = .ok (.getfield 7, 3) := by decide +kernel
theorem dX4_leave_26 : decode cX4_leave 26 = .ok (.iload_n 3, 1) := by decide +kernel
theorem dX4_leave_27 : decode cX4_leave 27 = .ok (.iconst 0, 1) := by decide +kernel
theorem dX4_leave_28 : decode cX4_leave 28 = .ok (.iadd, 1) := by decide +kernel
theorem dX4_leave_29 : decode cX4_leave 29 = .ok (.dup2, 1) := by decide +kernel
theorem dX4_leave_30 : decode cX4_leave 30 = .ok (.iaload, 1) := by decide +kernel
theorem dX4_leave_31 : decode cX4_leave 31 = .ok (.iconst 1, 1) := by decide +kernel
theorem dX4_leave_32 : decode cX4_leave 32 = .ok (.isub, 1) := by decide +kernel
theorem dX4_leave_33 : decode cX4_leave 33 = .ok (.iastore, 1) := by decide +kernel
theorem dX4_leave_34 : decode cX4_leave 34 = .ok (.iconst 3, 1) := by decide +kernel
theorem dX4_leave_35 : decode cX4_leave 35 = .ok (.iconst 3, 1) := by decide +kernel
theorem dX4_leave_36 : decode cX4_leave 36 = .ok (.iload_n 2, 1) := by decide +kernel
theorem dX4_leave_37 : decode cX4_leave 37 = .ok (.imul, 1) := by decide +kernel
theorem dX4_leave_38 : decode cX4_leave 38 = .ok (.iadd, 1) := by decide +kernel
theorem dX4_leave_39 : decode cX4_leave 39 = .ok (.istore 5, 2) := by decide +kernel
theorem dX4_leave_41 : decode cX4_leave 41 = .ok (.iload 5, 2) := by decide +kernel
theorem dX4_leave_43 : decode cX4_leave 43 = .ok (.iconst 3, 1) := by decide +kernel
theorem dX4_leave_44 : decode cX4_leave 44 = .ok (.iconst 3, 1) := by decide +kernel
theorem dX4_leave_45 : decode cX4_leave 45 = .ok (.aload_n 0, 1) := by decide +kernel
theorem dX4_leave_46 : decode cX4_leave 46 = .ok (.getfield 7, 3) := by decide +kernel
theorem dX4_leave_49 : decode cX4_leave 49 = .ok (.iload_n 3, 1) := by decide +kernel
theorem dX4_leave_50 : decode cX4_leave 50 = .ok (.iconst 0, 1) := by decide +kernel
theorem dX4_leave_51 : decode cX4_leave 51 = .ok (.iadd, 1) := by decide +kernel
theorem dX4_leave_52 : decode cX4_leave 52 = .ok (.iaload, 1) := by decide +kernel
theorem dX4_leave_53 : decode cX4_leave 53 = .ok (.imul, 1) := by decide +kernel
theorem dX4_leave_54 : decode cX4_leave 54 = .ok (.iadd, 1) := by decide +kernel
theorem dX4_leave_55 : decode cX4_leave 55 = .ok (.if_icmp .ge 29, 3) := by decide +kernel
theorem dX4_leave_58 : decode cX4_leave 58 = .ok (.aload_n 0, 1) := by decide +kernel
theorem dX4_leave_59 : decode cX4_leave 59 = .ok (.getfield 7, 3) := by decide +kernel
theorem dX4_leave_62 : decode cX4_leave 62 = .ok (.iload_n 3, 1) := by decide +kernel
theorem dX4_leave_63 : decode cX4_leave 63 = .ok (.iload 5, 2) := by decide +kernel
theorem dX4_leave_65 : decode cX4_leave 65 = .ok (.iadd, 1) := by decide +kernel
theorem dX4_leave_66 : decode cX4_leave 66 = .ok (.aload_n 0, 1) := by decide +kernel
theorem dX4_leave_67 : decode cX4_leave 67 = .ok (.getfield 7, 3) := by decide +kernel
theorem dX4_leave_70 : decode cX4_leave 70 = .ok (.iload_n 3, 1) := by decide +kernel
theorem dX4_leave_71 : decode cX4_leave 71 = .ok (.iload 5, 2) := by decide +kernel
theorem dX4_leave_73 : decode cX4_leave 73 = .ok (.iadd, 1) := by decide +kernel
theorem dX4_leave_74 : decode cX4_leave 74 = .ok (.iconst 3, 1) := by decide +kernel
theorem dX4_leave_75 : decode cX4_leave 75 = .ok (.iadd, 1) := by decide +kernel
theorem dX4_leave_76 : decode cX4_leave 76 = .ok (.iaload, 1) := by decide +kernel
theorem dX4_leave_77 : decode cX4_leave 77 = .ok (.iastore, 1) := by decide +kernel
theorem dX4_leave_78 : decode cX4_leave 78 = .ok (.iinc 5 1, 3) := by decide +kernel
theorem dX4_leave_81 : decode cX4_leave 81 = .ok (.goto (-40), 3) := by decide +kernel
theorem dX4_leave_84 : decode cX4_leave 84 = .ok (.iconst 0, 1) := by decide +kernel
theorem dX4_leave_85 : decode cX4_leave 85 = .ok (.istore 5, 2) := by decide +kernel
theorem dX4_leave_87 : decode cX4_leave 87 = .ok (.iload 5, 2) := by decide +kernel
theorem dX4_leave_89 : decode cX4_leave 89 = .ok (.iconst 3, 1) := by decide +kernel
theorem dX4_leave_90 : decode cX4_leave 90 = .ok (.if_icmp .ge 32, 3) := by decide +kernel
theorem dX4_leave_93 : decode cX4_leave 93 = .ok (.aload_n 0, 1) := by decide +kernel
theorem dX4_leave_94 : decode cX4_leave 94 = .ok (.getfield 7, 3) := by decide +kernel
theorem dX4_leave_97 : decode cX4_leave 97 = .ok (.iload_n 3, 1) := by decide +kernel
theorem dX4_leave_98 : decode cX4_leave 98 = .ok (.iconst 3, 1) := by decide +kernel
theorem dX4_leave_99 : decode cX4_leave 99 = .ok (.iadd, 1) := by decide +kernel
theorem dX4_leave_100 : decode cX4_leave 100 = .ok (.iconst 3, 1) := by decide +kernel
theorem dX4_leave_101 : decode cX4_leave 101 = .ok (.aload_n 0, 1) := by decide +kernel
theorem dX4_leave_102 : decode cX4_leave 102 = .ok (.getfield 7, 3) := by decide +kernel
theorem dX4_leave_105 : decode cX4_leave 105 = .ok (.iload_n 3, 1) := by decide +kernel
theorem dX4_leave_106 : decode cX4_leave 106 = .ok (.iconst 0, 1) := by decide +kernel
theorem dX4_leave_107 : decode cX4_leave 107 = .ok (.iadd, 1) := by decide +kernel
theorem dX4_leave_108 : decode cX4_leave 108 = .ok (.iaload, 1) := by decide +kernel
theorem dX4_leave_109 : decode cX4_leave 109 = .ok (.imul, 1) := by decide +kernel
theorem dX4_leave_110 : decode cX4_leave 110 = .ok (.iadd, 1) := by decide +kernel
theorem dX4_leave_111 : decode cX4_leave 111 = .ok (.iload 5, 2) := by decide +kernel
theorem dX4_leave_113 : decode cX4_leave 113 = .ok (.iadd, 1) := by decide +kernel
theorem dX4_leave_114 : decode cX4_leave 114 = .ok (.iconst 0, 1) := by decide +kernel
theorem dX4_leave_115 : decode cX4_leave 115 = .ok (.iastore, 1) := by decide +kernel
theorem dX4_leave_116 : decode cX4_leave 116 = .ok (.iinc 5 1, 3) := by decide +kernel
theorem dX4_leave_119 : decode cX4_leave 119 = .ok (.goto (-32), 3) := by decide +kernel
theorem dX4_leave_122 : decode cX4_leave 122 = .ok (.aload_n 0, 1) := by decide +kernel
theorem dX4_leave_123 : decode cX4_leave 123 = .ok (.getfield 7, 3) := by decide +kernel
theorem dX4_leave_126 : decode cX4_leave 126 = .ok (.iload_n 3, 1) := by decide +kernel
theorem dX4_leave_127 : decode cX4_leave 127 = .ok (.iconst 2, 1) := by decide +kernel
theorem dX4_leave_128 : decode cX4_leave 128 = .ok (.iadd, 1) := by decide +kernel
theorem dX4_leave_129 : decode cX4_leave 129 = .ok (.dup2, 1) := by decide +kernel
theorem dX4_leave_130 : decode cX4_leave 130 = .ok (.iaload, 1) := by decide +kernel
theorem dX4_leave_131 : decode cX4_leave 131 = .ok (.iconst 1, 1) := by decide +kernel
theorem dX4_leave_132 : decode cX4_leave 132 = .ok (.iadd, 1) := by decide +kernel
theorem dX4_leave_133 : decode cX4_leave 133 = .ok (.iastore, 1) := by decide +kernel
theorem dX4_leave_134 : decode cX4_leave 134 = .ok (.aload_n 0, 1) := by decide +kernel
theorem dX4_leave_135 : decode cX4_leave 135 = .ok (.getfield 26, 3) := by decide +kernel
theorem dX4_leave_138 : decode cX4_leave 138 = .ok (.iload_n 1, 1) := by decide +kernel
theorem dX4_leave_139 : decode cX4_leave 139 = .ok (.iconst 1, 1) := by decide +kernel
theorem dX4_leave_140 : decode cX4_leave 140 = .ok (.bastore, 1) := by decide +kernel
theorem dX4_leave_141 : decode cX4_leave 141 = .ok (.iload 4, 2) := by decide +kernel
theorem dX4_leave_143 : decode cX4_leave 143 = .ok (.ireturn, 1) := by decide +kernel
theorem dX4_send_0 : decode cX4_send 0 = .ok (.aload_n 0, 1) := by decide +kernel
theorem dX4_send_1 : decode cX4_send 1 = .ok (.getfield 30, 3) := by decide +kernel
theorem dX4_send_4 : decode cX4_send 4 = .ok (.iload_n 1, 1) := by decide +kernel
theorem dX4_send_5 : decode cX4_send 5 = .ok (.bipush (-5), 2) := by decide +kernel
theorem dX4_send_7 : decode cX4_send 7 = .ok (.iastore, 1) := by decide +kernel
theorem dX4_send_8 : decode cX4_send 8 = .ok (.iconst 0, 1) := by decide +kernel
theorem dX4_send_9 : decode cX4_send 9 = .ok (.istore_n 2, 1) := by decide +kernel
theorem dX4_send_10 : decode cX4_send 10 = .ok (.iload_n 2, 1) := by decide +kernel
theorem dX4_send_11 : decode cX4_send 11 = .ok (.iconst 4, 1) := by decide +kernel
theorem dX4_send_12 : decode cX4_send 12 = .ok (.if_icmp .ge 138, 3) := by decide +kernel
theorem dX4_send_15 : decode cX4_send 15 = .ok (.aload_n 0, 1) := by decide +kernel
theorem dX4_send_16 : decode cX4_send 16 = .ok (.iload_n 1, 1) := by decide +kernel
theorem dX4_send_17 : decode cX4_send 17 = .ok (.iconst 3, 1) := by decide +kernel
theorem dX4_send_18 : decode cX4_send 18 = .ok (.invokevirtual 62, 3) := by decide +kernel
theorem dX4_send_21 : decode cX4_send 21 = .ok (.ifCond .le 129, 3) := by decide +kernel
theorem dX4_send_24 : decode cX4_send 24 = .ok (.aload_n 0, 1) := by decide +kernel
theorem dX4_send_25 : decode cX4_send 25 = .ok (.iload_n 1, 1) := by decide +kernel
theorem dX4_send_26 : decode cX4_send 26 = .ok (.iconst 4, 1) := by decide +kernel
theorem dX4_send_27 : decode cX4_send 27 = .ok (.invokevirtual 62, 3) := by decide +kernel
theorem dX4_send_30 : decode cX4_send 30 = .ok (.iload_n 2, 1) := by decide +kernel
theorem dX4_send_31 : decode cX4_send 31 = .ok (.iadd, 1) := by decide +kernel
theorem dX4_send_32 : decode cX4_send 32 = .ok (.iconst 4, 1) := by decide +kernel
theorem dX4_send_33 : decode cX4_send 33 = .ok (.irem, 1) := by decide +kernel
theorem dX4_send_34 : decode cX4_send 34 = .ok (.istore_n 3, 1) := by decide +kernel
theorem dX4_send_35 : decode cX4_send 35 = .ok (.aload_n 0, 1) := by decide +kernel
theorem dX4_send_36 : decode cX4_send 36 = .ok (.iload_n 3, 1) := by decide +kernel
theorem dX4_send_37 : decode cX4_send 37 = .ok (.iload_n 1, 1) := by decide +kernel
theorem dX4_send_38 : decode cX4_send 38 = .ok (.invokevirtual 100, 3) := by decide +kernel
theorem dX4_send_41 : decode cX4_send 41 = .ok (.istore 4, 2) := by decide +kernel
theorem dX4_send_43 : decode cX4_send 43 = .ok (.iload 4, 2) := by decide +kernel
theorem dX4_send_45 : decode cX4_send 45 = .ok (.ifCond .lt 99, 3) := by decide +kernel
theorem dX4_send_48 : decode cX4_send 48 = .ok (.aload_n 0, 1) := by decide +kernel
theorem dX4_send_49 : decode cX4_send 49 = .ok (.iload_n 3, 1) := by decide +kernel
theorem dX4_send_50 : decode cX4_send 50 = .ok (.iload 4, 2) := by decide +kernel
theorem dX4_send_52 : decode cX4_send 52 = .ok (.invokevirtual 103, 3) := by decide +kernel
theorem dX4_send_55 : decode cX4_send 55 = .ok (.istore 5, 2) := by decide +kernel
theorem dX4_send_57 : decode cX4_send 57 = .ok (.aload_n 0, 1) := by decide +kernel
theorem dX4_send_58 : decode cX4_send 58 = .ok (.getfield 30, 3) := by decide +kernel
theorem dX4_send_61 : decode cX4_send 61 = .ok (.iload_n 1, 1) := by decide +kernel
theorem dX4_send_62 : decode cX4_send 62 = .ok (.iload 5, 2) := by decide +kernel
theorem dX4_send_64 : decode cX4_send 64 = .ok (.iastore, 1) := by decide +kernel
theorem dX4_send_65 : decode cX4_send 65 = .ok (.aload_n 0, 1) := by decide +kernel
theorem dX4_send_66 : decode cX4_send 66 = .ok (.iload_n 1, 1) := by decide +kernel
theorem dX4_send_67 : decode cX4_send 67 = .ok (.iconst 3, 1) := by decide +kernel
theorem dX4_send_68 : decode cX4_send 68 = .ok (.iconst (-1), 1) := by decide +kernel
theorem dX4_send_69 : decode cX4_send 69 = .ok (.invokevirtual 66, 3) := by decide +kernel
theorem dX4_send_72 : decode cX4_send 72 = .ok (.aload_n 0, 1) := by decide +kernel
theorem dX4_send_73 : decode cX4_send 73 = .ok (.iload_n 1, 1) := by decide +kernel
theorem dX4_send_74 : decode cX4_send 74 = .ok (.iconst 4, 1) := by decide +kernel
theorem dX4_send_75 : decode cX4_send 75 = .ok (.iload_n 3, 1) := by decide +kernel
theorem dX4_send_76 : decode cX4_send 76 = .ok (.iconst 1, 1) := by decide +kernel
theorem dX4_send_77 : decode cX4_send 77 = .ok (.iadd, 1) := by decide +kernel
theorem dX4_send_78 : decode cX4_send 78 = .ok (.iconst 4, 1) := by decide +kernel
theorem dX4_send_79 : decode cX4_send 79 = .ok (.irem, 1) := by decide +kernel
theorem dX4_send_80 : decode cX4_send 80 = .ok (.invokevirtual 33, 3) := by decide +kernel
theorem dX4_send_83 : decode cX4_send 83 = .ok (.aload_n 0, 1) := by decide +kernel
theorem dX4_send_84 : decode cX4_send 84 = .ok (.iload_n 1, 1) := by decide +kernel
theorem dX4_send_85 : decode cX4_send 85 = .ok (.iconst 5, 1) := by decide +kernel
theorem dX4_send_86 : decode cX4_send 86 = .ok (.iconst 1, 1) := by decide +kernel
theorem dX4_send_87 : decode cX4_send 87 = .ok (.invokevirtual 66, 3) := by decide +kernel
theorem dX4_send_90 : decode cX4_send 90 = .ok (.aload_n 0, 1) := by decide +kernel
theorem dX4_send_91 : decode cX4_send 91 = .ok (.iload_n 1, 1) := by decide +kernel
theorem dX4_send_92 : decode cX4_send 92 = .ok (.bipush 9, 2) := by decide +kernel
theorem dX4_send_94 : decode cX4_send 94 = .ok (.invokevirtual 62, 3) := by decide +kernel
theorem dX4_send_97 : decode cX4_send 97 = .ok (.aload_n 0, 1) := by decide +kernel
theorem dX4_send_98 : decode cX4_send 98 = .ok (.iload_n 1, 1) := by decide +kernel
theorem dX4_send_99 : decode cX4_send 99 = .ok (.iconst 0, 1) := by decide +kernel
theorem dX4_send_100 : decode cX4_send 100 = .ok (.invokevirtual 62, 3) := by decide +kernel
theorem dX4_send_103 : decode cX4_send 103 = .ok (.if_icmp .ge 31, 3) := by decide +kernel
theorem dX4_send_106 : decode cX4_send 106 = .ok (.aload_n 0, 1) := by decide +kernel
theorem dX4_send_107 : decode cX4_send 107 = .ok (.iload_n 1, 1) := by decide +kernel
theorem dX4_send_108 : decode cX4_send 108 = .ok (.bipush 11, 2) := by decide +kernel
theorem dX4_send_110 : decode cX4_send 110 = .ok (.aload_n 0, 1) := by decide +kernel
theorem dX4_send_111 : decode cX4_send 111 = .ok (.iload_n 1, 1) := by decide +kernel
theorem dX4_send_112 : decode cX4_send 112 = .ok (.bipush 9, 2) := by decide +kernel
theorem dX4_send_114 : decode cX4_send 114 = .ok (.invokevirtual 62, 3) := by decide +kernel
theorem dX4_send_117 : decode cX4_send 117 = .ok (.iadd, 1) := by decide +kernel
theorem dX4_send_118 : decode cX4_send 118 = .ok (.iload 5, 2) := by decide +kernel
theorem dX4_send_120 : decode cX4_send 120 = .ok (.invokevirtual 33, 3) := by decide +kernel
theorem dX4_send_123 : decode cX4_send 123 = .ok (.aload_n 0, 1) := by decide +kernel
theorem dX4_send_124 : decode cX4_send 124 = .ok (.iload_n 1, 1) := by decide +kernel
theorem dX4_send_125 : decode cX4_send 125 = .ok (.bipush 9, 2) := by decide +kernel
theorem dX4_send_127 : decode cX4_send 127 = .ok (.iconst 1, 1) := by decide +kernel
theorem dX4_send_128 : decode cX4_send 128 = .ok (.invokevirtual 66, 3) := by decide +kernel
theorem dX4_send_131 : decode cX4_send 131 = .ok (.goto 11, 3) := by decide +kernel
theorem dX4_send_134 : decode cX4_send 134 = .ok (.aload_n 0, 1) := by decide +kernel
theorem dX4_send_135 : decode cX4_send 135 = .ok (.iload_n 1, 1) := by decide +kernel
theorem dX4_send_136 : decode cX4_send 136 = .ok (.bipush 7, 2) := by decide +kernel
theorem dX4_send_138 : decode cX4_send 138 = .ok (.iconst 1, 1) := by decide +kernel
theorem dX4_send_139 : decode cX4_send 139 = .ok (.invokevirtual 66, 3) := by decide +kernel
theorem dX4_send_142 : decode cX4_send 142 = .ok (.iconst 1, 1) := by decide +kernel
theorem dX4_send_143 : decode cX4_send 143 = .ok (.ireturn, 1) := by decide +kernel
theorem dX4_send_144 : decode cX4_send 144 = .ok (.iinc 2 1, 3) := by decide +kernel
theorem dX4_send_147 : decode cX4_send 147 = .ok (.goto (-137), 3) := by decide +kernel
theorem dX4_send_150 : decode cX4_send 150 = .ok (.iconst 0, 1) := by decide +kernel
theorem dX4_send_151 : decode cX4_send 151 = .ok (.ireturn, 1) := by decide +kernel
theorem dX4_take_0 : decode cX4_take 0 = .ok (.aload_n 0, 1) := by decide +kernel
theorem dX4_take_1 : decode cX4_take 1 = .ok (.getfield 7, 3) := by decide +kernel
theorem dX4_take_4 : decode cX4_take 4 = .ok (.iconst 0, 1) := by decide +kernel
theorem dX4_take_5 : decode cX4_take 5 = .ok (.iaload, 1) := by decide +kernel
theorem dX4_take_6 : decode cX4_take 6 = .ok (.iconst 1, 1) := by decide +kernel
theorem dX4_take_7 : decode cX4_take 7 = .ok (.iadd, 1) := by decide +kernel
theorem dX4_take_8 : decode cX4_take 8 = .ok (.aload_n 0, 1) := by decide +kernel
theorem dX4_take_9 : decode cX4_take 9 = .ok (.iload_n 1, 1) := by decide +kernel
theorem dX4_take_10 : decode cX4_take 10 = .ok (.iconst 1, 1) := by decide +kernel
theorem dX4_take_11 : decode cX4_take 11 = .ok (.invokevirtual 62, 3) := by decide +kernel
theorem dX4_take_14 : decode cX4_take 14 = .ok (.irem, 1) := by decide +kernel
theorem dX4_take_15 : decode cX4_take 15 = .ok (.ifCond .ne 13, 3) := by decide +kernel
theorem dX4_take_18 : decode cX4_take 18 = .ok (.aload_n 0, 1) := by decide +kernel
theorem dX4_take_19 : decode cX4_take 19 = .ok (.iload_n 1, 1) := by decide +kernel
theorem dX4_take_20 : decode cX4_take 20 = .ok (.bipush 9, 2) := by decide +kernel
theorem dX4_take_22 : decode cX4_take 22 = .ok (.invokevirtual 62, 3) := by decide +kernel
theorem dX4_take_25 : decode cX4_take 25 = .ok (.ifCond .ne 4, 3) := by decide +kernel
theorem dX4_take_28 : decode cX4_take 28 = .ok (.return_, 1) := by decide +kernel
theorem dX4_take_29 : decode cX4_take 29 = .ok (.aload_n 0, 1) := by decide +kernel
theorem dX4_take_30 : decode cX4_take 30 = .ok (.iload_n 1, 1) := by decide +kernel
theorem dX4_take_31 : decode cX4_take 31 = .ok (.bipush 9, 2) := by decide +kernel
theorem dX4_take_33 : decode cX4_take 33 = .ok (.iconst (-1), 1) := by decide +kernel
theorem dX4_take_34 : decode cX4_take 34 = .ok (.invokevirtual 66, 3) := by decide +kernel
theorem dX4_take_37 : decode cX4_take 37 = .ok (.iconst 0, 1) := by decide +kernel
theorem dX4_take_38 : decode cX4_take 38 = .ok (.istore_n 2, 1) := by decide +kernel
theorem dX4_take_39 : decode cX4_take 39 = .ok (.iload_n 2, 1) := by decide +kernel
theorem dX4_take_40 : decode cX4_take 40 = .ok (.aload_n 0, 1) := by decide +kernel
theorem dX4_take_41 : decode cX4_take 41 = .ok (.iload_n 1, 1) := by decide +kernel
theorem dX4_take_42 : decode cX4_take 42 = .ok (.bipush 9, 2) := by decide +kernel
theorem dX4_take_44 : decode cX4_take 44 = .ok (.invokevirtual 62, 3) := by decide +kernel
theorem dX4_take_47 : decode cX4_take 47 = .ok (.if_icmp .ge 29, 3) := by decide +kernel
theorem dX4_take_50 : decode cX4_take 50 = .ok (.aload_n 0, 1) := by decide +kernel
theorem dX4_take_51 : decode cX4_take 51 = .ok (.iload_n 1, 1) := by decide +kernel
theorem dX4_take_52 : decode cX4_take 52 = .ok (.bipush 11, 2) := by decide +kernel
theorem dX4_take_54 : decode cX4_take 54 = .ok (.iload_n 2, 1) := by decide +kernel
theorem dX4_take_55 : decode cX4_take 55 = .ok (.iadd, 1) := by decide +kernel
theorem dX4_take_56 : decode cX4_take 56 = .ok (.aload_n 0, 1) := by decide +kernel
theorem dX4_take_57 : decode cX4_take 57 = .ok (.iload_n 1, 1) := by decide +kernel
theorem dX4_take_58 : decode cX4_take 58 = .ok (.bipush 11, 2) := by decide +kernel
theorem dX4_take_60 : decode cX4_take 60 = .ok (.iload_n 2, 1) := by decide +kernel
theorem dX4_take_61 : decode cX4_take 61 = .ok (.iadd, 1) := by decide +kernel
theorem dX4_take_62 : decode cX4_take 62 = .ok (.iconst 1, 1) := by decide +kernel
theorem dX4_take_63 : decode cX4_take 63 = .ok (.iadd, 1) := by decide +kernel
theorem dX4_take_64 : decode cX4_take 64 = .ok (.invokevirtual 62, 3) := by decide +kernel
theorem dX4_take_67 : decode cX4_take 67 = .ok (.invokevirtual 33, 3) := by decide +kernel
theorem dX4_take_70 : decode cX4_take 70 = .ok (.iinc 2 1, 3) := by decide +kernel
theorem dX4_take_73 : decode cX4_take 73 = .ok (.goto (-34), 3) := by decide +kernel
theorem dX4_take_76 : decode cX4_take 76 = .ok (.aload_n 0, 1) := by decide +kernel
theorem dX4_take_77 : decode cX4_take 77 = .ok (.iload_n 1, 1) := by decide +kernel
theorem dX4_take_78 : decode cX4_take 78 = .ok (.bipush 11, 2) := by decide +kernel
theorem dX4_take_80 : decode cX4_take 80 = .ok (.aload_n 0, 1) := by decide +kernel
theorem dX4_take_81 : decode cX4_take 81 = .ok (.iload_n 1, 1) := by decide +kernel
theorem dX4_take_82 : decode cX4_take 82 = .ok (.bipush 9, 2) := by decide +kernel
theorem dX4_take_84 : decode cX4_take 84 = .ok (.invokevirtual 62, 3) := by decide +kernel
theorem dX4_take_87 : decode cX4_take 87 = .ok (.iadd, 1) := by decide +kernel
theorem dX4_take_88 : decode cX4_take 88 = .ok (.iconst 0, 1) := by decide +kernel
theorem dX4_take_89 : decode cX4_take 89 = .ok (.invokevirtual 33, 3) := by decide +kernel
theorem dX4_take_92 : decode cX4_take 92 = .ok (.aload_n 0, 1) := by decide +kernel
theorem dX4_take_93 : decode cX4_take 93 = .ok (.iload_n 1, 1) := by decide +kernel
theorem dX4_take_94 : decode cX4_take 94 = .ok (.bipush 6, 2) := by decide +kernel
theorem dX4_take_96 : decode cX4_take 96 = .ok (.iconst 1, 1) := by decide +kernel
theorem dX4_take_97 : decode cX4_take 97 = .ok (.invokevirtual 66, 3) := by decide +kernel
theorem dX4_take_100 : decode cX4_take 100 = .ok (.aload_n 0, 1) := by decide +kernel
theorem dX4_take_101 : decode cX4_take 101 = .ok (.getfield 7, 3) := by decide +kernel
theorem dX4_take_104 : decode cX4_take 104 = .ok (.iconst 0, 1) := by decide +kernel
theorem dX4_take_105 : decode cX4_take 105 = .ok (.iaload, 1) := by decide +kernel
theorem dX4_take_106 : decode cX4_take 106 = .ok (.aload_n 0, 1) := by decide +kernel
theorem dX4_take_107 : decode cX4_take 107 = .ok (.iload_n 1, 1) := by decide +kernel
theorem dX4_take_108 : decode cX4_take 108 = .ok (.iconst 2, 1) := by decide +kernel
theorem dX4_take_109 : decode cX4_take 109 = .ok (.invokevirtual 62, 3) := by decide +kernel
theorem dX4_take_112 : decode cX4_take 112 = .ok (.iadd, 1) := by decide +kernel
theorem dX4_take_113 : decode cX4_take 113 = .ok (.istore_n 2, 1) := by decide +kernel
theorem dX4_take_114 : decode cX4_take 114 = .ok (.aload_n 0, 1) := by decide +kernel
theorem dX4_take_115 : decode cX4_take 115 = .ok (.iload_n 1, 1) := by decide +kernel
theorem dX4_take_116 : decode cX4_take 116 = .ok (.bipush 10, 2) := by decide +kernel
theorem dX4_take_118 : decode cX4_take 118 = .ok (.invokevirtual 62, 3) := by decide +kernel
theorem dX4_take_121 : decode cX4_take 121 = .ok (.istore_n 3, 1) := by decide +kernel
theorem dX4_take_122 : decode cX4_take 122 = .ok (.iload_n 3, 1) := by decide +kernel
theorem dX4_take_123 : decode cX4_take 123 = .ok (.ifCond .le 44, 3) := by decide +kernel
theorem dX4_take_126 : decode cX4_take 126 = .ok (.aload_n 0, 1) := by decide +kernel
theorem dX4_take_127 : decode cX4_take 127 = .ok (.iload_n 1, 1) := by decide +kernel
theorem dX4_take_128 : decode cX4_take 128 = .ok (.bipush 19, 2) := by decide +kernel
theorem dX4_take_130 : decode cX4_take 130 = .ok (.iload_n 3, 1) := by decide +kernel
theorem dX4_take_131 : decode cX4_take 131 = .ok (.iadd, 1) := by decide +kernel
theorem dX4_take_132 : decode cX4_take 132 = .ok (.iconst 1, 1) := by decide +kernel
theorem dX4_take_133 : decode cX4_take 133 = .ok (.isub, 1) := by decide +kernel
theorem dX4_take_134 : decode cX4_take 134 = .ok (.invokevirtual 62, 3) := by decide +kernel
theorem dX4_take_137 : decode cX4_take 137 = .ok (.iload_n 2, 1) := by decide +kernel
theorem dX4_take_138 : decode cX4_take 138 = .ok (.if_icmp .le 29, 3) := by decide +kernel
theorem dX4_take_141 : decode cX4_take 141 = .ok (.aload_n 0, 1) := by decide +kernel
theorem dX4_take_142 : decode cX4_take 142 = .ok (.iload_n 1, 1) := by decide +kernel
theorem dX4_take_143 : decode cX4_take 143 = .ok (.bipush 19, 2) := by decide +kernel
theorem dX4_take_145 : decode cX4_take 145 = .ok (.iload_n 3, 1) := by decide +kernel
theorem dX4_take_146 : decode cX4_take 146 = .ok (.iadd, 1) := by decide +kernel
theorem dX4_take_147 : decode cX4_take 147 = .ok (.aload_n 0, 1) := by decide +kernel
theorem dX4_take_148 : decode cX4_take 148 = .ok (.iload_n 1, 1) := by decide +kernel
theorem dX4_take_149 : decode cX4_take 149 = .ok (.bipush 19, 2) := by decide +kernel
theorem dX4_take_151 : decode cX4_take 151 = .ok (.iload_n 3, 1) := by decide +kernel
theorem dX4_take_152 : decode cX4_take 152 = .ok (.iadd, 1) := by decide +kernel
theorem dX4_take_153 : decode cX4_take 153 = .ok (.iconst 1, 1) := by decide +kernel
theorem dX4_take_154 : decode cX4_take 154 = .ok (.isub, 1) := by decide +kernel
theorem dX4_take_155 : decode cX4_take 155 = .ok (.invokevirtual 62, 3) := by decide +kernel
theorem dX4_take_158 : decode cX4_take 158 = .ok (.invokevirtual 33, 3) := by decide +kernel
theorem dX4_take_161 : decode cX4_take 161 = .ok (.iinc 3 (-1), 3) := by decide +kernel
theorem dX4_take_164 : decode cX4_take 164 = .ok (.goto (-42), 3) := by decide +kernel
theorem dX4_take_167 : decode cX4_take 167 = .ok (.aload_n 0, 1) := by decide +kernel
theorem dX4_take_168 : decode cX4_take 168 = .ok (.iload_n 1, 1) := by decide +kernel
theorem dX4_take_169 : decode cX4_take 169 = .ok (.bipush 19, 2) := by decide +kernel
theorem dX4_take_171 : decode cX4_take 171 = .ok (.iload_n 3, 1) := by decide +kernel
theorem dX4_take_172 : decode cX4_take 172 = .ok (.iadd, 1) := by decide +kernel
theorem dX4_take_173 : decode cX4_take 173 = .ok (.iload_n 2, 1) := by decide +kernel
theorem dX4_take_174 : decode cX4_take 174 = .ok (.invokevirtual 33, 3) := by decide +kernel
theorem dX4_take_177 : decode cX4_take 177 = .ok (.aload_n 0, 1) := by decide +kernel
theorem dX4_take_178 : decode cX4_take 178 = .ok (.iload_n 1, 1) := by decide +kernel
theorem dX4_take_179 : decode cX4_take 179 = .ok (.bipush 10, 2) := by decide +kernel
theorem dX4_take_181 : decode cX4_take 181 = .ok (.iconst 1, 1) := by decide +kernel
theorem dX4_take_182 : decode cX4_take 182 = .ok (.invokevirtual 66, 3) := by decide +kernel
theorem dX4_take_185 : decode cX4_take 185 = .ok (.return_, 1) := by decide +kernel
theorem dX4_tick_0 : decode cX4_tick 0 = .ok (.iconst 0, 1) := by decide +kernel
theorem dX4_tick_1 : decode cX4_tick 1 = .ok (.istore_n 1, 1) := by decide +kernel
theorem dX4_tick_2 : decode cX4_tick 2 = .ok (.iload_n 1, 1) := by decide +kernel
theorem dX4_tick_3 : decode cX4_tick 3 = .ok (.iconst 4, 1) := by decide +kernel
theorem dX4_tick_4 : decode cX4_tick 4 = .ok (.if_icmp .ge 21, 3) := by decide +kernel
theorem dX4_tick_7 : decode cX4_tick 7 = .ok (.aload_n 0, 1) := by decide +kernel
theorem dX4_tick_8 : decode cX4_tick 8 = .ok (.getfield 26, 3) := by decide +kernel
theorem dX4_tick_11 : decode cX4_tick 11 = .ok (.iload_n 1, 1) := by decide +kernel
theorem dX4_tick_12 : decode cX4_tick 12 = .ok (.iconst 0, 1) := by decide +kernel
theorem dX4_tick_13 : decode cX4_tick 13 = .ok (.bastore, 1) := by decide +kernel
theorem dX4_tick_14 : decode cX4_tick 14 = .ok (.aload_n 0, 1) := by decide +kernel
theorem dX4_tick_15 : decode cX4_tick 15 = .ok (.iload_n 1, 1) := by decide +kernel
theorem dX4_tick_16 : decode cX4_tick 16 = .ok (.invokevirtual 106, 3) := by decide +kernel
theorem dX4_tick_19 : decode cX4_tick 19 = .ok (.iinc 1 1, 3) := by decide +kernel
theorem dX4_tick_22 : decode cX4_tick 22 = .ok (.goto (-20), 3) := by decide +kernel
theorem dX4_tick_25 : decode cX4_tick 25 = .ok (.iconst 0, 1) := by decide +kernel
theorem dX4_tick_26 : decode cX4_tick 26 = .ok (.istore_n 1, 1) := by decide +kernel
theorem dX4_tick_27 : decode cX4_tick 27 = .ok (.iload_n 1, 1) := by decide +kernel
theorem dX4_tick_28 : decode cX4_tick 28 = .ok (.iconst 4, 1) := by decide +kernel
theorem dX4_tick_29 : decode cX4_tick 29 = .ok (.if_icmp .ge 45, 3) := by decide +kernel
theorem dX4_tick_32 : decode cX4_tick 32 = .ok (.aload_n 0, 1) := by decide +kernel
theorem dX4_tick_33 : decode cX4_tick 33 = .ok (.getfield 7, 3) := by decide +kernel
theorem dX4_tick_36 : decode cX4_tick 36 = .ok (.iconst 2, 1) := by decide +kernel
theorem dX4_tick_37 : decode cX4_tick 37 = .ok (.iaload, 1) := by decide +kernel
theorem dX4_tick_38 : decode cX4_tick 38 = .ok (.ifCond .le 36, 3) := by decide +kernel
theorem dX4_tick_41 : decode cX4_tick 41 = .ok (.aload_n 0, 1) := by decide +kernel
theorem dX4_tick_42 : decode cX4_tick 42 = .ok (.getfield 7, 3) := by decide +kernel
theorem dX4_tick_45 : decode cX4_tick 45 = .ok (.iconst 0, 1) := by decide +kernel
theorem dX4_tick_46 : decode cX4_tick 46 = .ok (.iaload, 1) := by decide +kernel
theorem dX4_tick_47 : decode cX4_tick 47 = .ok (.aload_n 0, 1) := by decide +kernel
theorem dX4_tick_48 : decode cX4_tick 48 = .ok (.getfield 7, 3) := by decide +kernel
theorem dX4_tick_51 : decode cX4_tick 51 = .ok (.iconst 2, 1) := by decide +kernel
theorem dX4_tick_52 : decode cX4_tick 52 = .ok (.iaload, 1) := by decide +kernel
theorem dX4_tick_53 : decode cX4_tick 53 = .ok (.irem, 1) := by decide +kernel
theorem dX4_tick_54 : decode cX4_tick 54 = .ok (.ifCond .ne 20, 3) := by decide +kernel
theorem dX4_tick_57 : decode cX4_tick 57 = .ok (.aload_n 0, 1) := by decide +kernel
theorem dX4_tick_58 : decode cX4_tick 58 = .ok (.iload_n 1, 1) := by decide +kernel
theorem dX4_tick_59 : decode cX4_tick 59 = .ok (.iconst 3, 1) := by decide +kernel
theorem dX4_tick_60 : decode cX4_tick 60 = .ok (.aload_n 0, 1) := by decide +kernel
theorem dX4_tick_61 : decode cX4_tick 61 = .ok (.iload_n 1, 1) := by decide +kernel
theorem dX4_tick_62 : decode cX4_tick 62 = .ok (.invokevirtual 109, 3) := by decide +kernel
theorem dX4_tick_65 : decode cX4_tick 65 = .ok (.invokevirtual 66, 3) := by decide +kernel
theorem dX4_tick_68 : decode cX4_tick 68 = .ok (.iinc 1 1, 3) := by decide +kernel
theorem dX4_tick_71 : decode cX4_tick 71 = .ok (.goto (-44), 3) := by decide +kernel
theorem dX4_tick_74 : decode cX4_tick 74 = .ok (.iconst 0, 1) := by decide +kernel
theorem dX4_tick_75 : decode cX4_tick 75 = .ok (.istore_n 1, 1) := by decide +kernel
theorem dX4_tick_76 : decode cX4_tick 76 = .ok (.iconst 0, 1) := by decide +kernel
theorem dX4_tick_77 : decode cX4_tick 77 = .ok (.istore_n 2, 1) := by decide +kernel
theorem dX4_tick_78 : decode cX4_tick 78 = .ok (.iload_n 2, 1) := by decide +kernel
theorem dX4_tick_79 : decode cX4_tick 79 = .ok (.iconst 4, 1) := by decide +kernel
theorem dX4_tick_80 : decode cX4_tick 80 = .ok (.if_icmp .ge 17, 3) := by decide +kernel
theorem dX4_tick_83 : decode cX4_tick 83 = .ok (.iload_n 1, 1) := by decide +kernel
theorem dX4_tick_84 : decode cX4_tick 84 = .ok (.aload_n 0, 1) := by decide +kernel
theorem dX4_tick_85 : decode cX4_tick 85 = .ok (.iload_n 2, 1) := by decide +kernel
theorem dX4_tick_86 : decode cX4_tick 86 = .ok (.invokevirtual 113, 3) := by decide +kernel
theorem dX4_tick_89 : decode cX4_tick 89 = .ok (.iadd, 1) := by decide +kernel
theorem dX4_tick_90 : decode cX4_tick 90 = .ok (.istore_n 1, 1) := by decide +kernel
theorem dX4_tick_91 : decode cX4_tick 91 = .ok (.iinc 2 1, 3) := by decide +kernel
theorem dX4_tick_94 : decode cX4_tick 94 = .ok (.goto (-16), 3) := by decide +kernel
theorem dX4_tick_97 : decode cX4_tick 97 = .ok (.iconst 0, 1) := by decide +kernel
theorem dX4_tick_98 : decode cX4_tick 98 = .ok (.istore_n 2, 1) := by decide +kernel
theorem dX4_tick_99 : decode cX4_tick 99 = .ok (.iload_n 2, 1) := by decide +kernel
theorem dX4_tick_100 : decode cX4_tick 100 = .ok (.iconst 4, 1) := by decide +kernel
theorem dX4_tick_101 : decode cX4_tick 101 = .ok (.if_icmp .ge 54, 3) := by decide +kernel
theorem dX4_tick_104 : decode cX4_tick 104 = .ok (.aload_n 0, 1) := by decide +kernel
theorem dX4_tick_105 : decode cX4_tick 105 = .ok (.iload_n 2, 1) := by decide +kernel
theorem dX4_tick_106 : decode cX4_tick 106 = .ok (.invokevirtual 116, 3) := by decide +kernel
theorem dX4_tick_109 : decode cX4_tick 109 = .ok (.aload_n 0, 1) := by decide +kernel
theorem dX4_tick_110 : decode cX4_tick 110 = .ok (.getfield 7, 3) := by decide +kernel
theorem dX4_tick_113 : decode cX4_tick 113 = .ok (.bipush 124, 2) := by decide +kernel
theorem dX4_tick_115 : decode cX4_tick 115 = .ok (.bipush 27, 2) := by decide +kernel
theorem dX4_tick_117 : decode cX4_tick 117 = .ok (.iload_n 2, 1) := by decide +kernel
theorem dX4_tick_118 : decode cX4_tick 118 = .ok (.imul, 1) := by decide +kernel
theorem dX4_tick_119 : decode cX4_tick 119 = .ok (.iadd, 1) := by decide +kernel
theorem dX4_tick_120 : decode cX4_tick 120 = .ok (.iconst 1, 1) := by decide +kernel
theorem dX4_tick_121 : decode cX4_tick 121 = .ok (.iadd, 1) := by decide +kernel
theorem dX4_tick_122 : decode cX4_tick 122 = .ok (.dup2, 1) := by decide +kernel
theorem dX4_tick_123 : decode cX4_tick 123 = .ok (.iaload, 1) := by decide +kernel
theorem dX4_tick_124 : decode cX4_tick 124 = .ok (.aload_n 0, 1) := by decide +kernel
theorem dX4_tick_125 : decode cX4_tick 125 = .ok (.iload_n 2, 1) := by decide +kernel
theorem dX4_tick_126 : decode cX4_tick 126 = .ok (.iconst 0, 1) := by decide +kernel
theorem dX4_tick_127 : decode cX4_tick 127 = .ok (.invokevirtual 69, 3) := by decide +kernel
theorem dX4_tick_130 : decode cX4_tick 130 = .ok (.ifCond .le 16, 3) := by decide +kernel
theorem dX4_tick_133 : decode cX4_tick 133 = .ok (.aload_n 0, 1) := by decide +kernel
theorem dX4_tick_134 : decode cX4_tick 134 = .ok (.getfield 26, 3) := by decide +kernel
theorem dX4_tick_137 : decode cX4_tick 137 = .ok (.iload_n 2, 1) := by decide +kernel
theorem dX4_tick_138 : decode cX4_tick 138 = .ok (.baload, 1) := by decide +kernel
theorem dX4_tick_139 : decode cX4_tick 139 = .ok (.ifCond .ne 7, 3) := by decide +kernel
theorem dX4_tick_142 : decode cX4_tick 142 = .ok (.iconst 1, 1) := by decide +kernel
theorem dX4_tick_143 : decode cX4_tick 143 = .ok (.goto 4, 3) := by decide +kernel
theorem dX4_tick_146 : decode cX4_tick 146 = .ok (.iconst 0, 1) := by decide +kernel
theorem dX4_tick_147 : decode cX4_tick 147 = .ok (.iadd, 1) := by decide +kernel
theorem dX4_tick_148 : decode cX4_tick 148 = .ok (.iastore, 1) := by decide +kernel
theorem dX4_tick_149 : decode cX4_tick 149 = .ok (.iinc 2 1, 3) := by decide +kernel
theorem dX4_tick_152 : decode cX4_tick 152 = .ok (.goto (-53), 3) := by decide +kernel
theorem dX4_tick_155 : decode cX4_tick 155 = .ok (.aload_n 0, 1) := by decide +kernel
theorem dX4_tick_156 : decode cX4_tick 156 = .ok (.getfield 7, 3) := by decide +kernel
theorem dX4_tick_159 : decode cX4_tick 159 = .ok (.iconst 0, 1) := by decide +kernel
theorem dX4_tick_160 : decode cX4_tick 160 = .ok (.dup2, 1) := by decide +kernel
theorem dX4_tick_161 : decode cX4_tick 161 = .ok (.iaload, 1) := by decide +kernel
theorem dX4_tick_162 : decode cX4_tick 162 = .ok (.iconst 1, 1) := by decide +kernel
theorem dX4_tick_163 : decode cX4_tick 163 = .ok (.iadd, 1) := by decide +kernel
theorem dX4_tick_164 : decode cX4_tick 164 = .ok (.iastore, 1) := by decide +kernel
theorem dX4_tick_165 : decode cX4_tick 165 = .ok (.iload_n 1, 1) := by decide +kernel
theorem dX4_tick_166 : decode cX4_tick 166 = .ok (.ireturn, 1) := by decide +kernel
theorem dX4_passAll_0 : decode cX4_passAll 0 = .ok (.iconst 0, 1) := by decide +kernel
theorem dX4_passAll_1 : decode cX4_passAll 1 = .ok (.istore_n 2, 1) := by decide +kernel
theorem dX4_passAll_2 : decode cX4_passAll 2 = .ok (.iconst 0, 1) := by decide +kernel
theorem dX4_passAll_3 : decode cX4_passAll 3 = .ok (.istore_n 3, 1) := by decide +kernel
theorem dX4_passAll_4 : decode cX4_passAll 4 = .ok (.iload_n 3, 1) := by decide +kernel
theorem dX4_passAll_5 : decode cX4_passAll 5 = .ok (.iload_n 1, 1) := by decide +kernel
theorem dX4_passAll_6 : decode cX4_passAll 6 = .ok (.if_icmp .ge 16, 3) := by decide +kernel
theorem dX4_passAll_9 : decode cX4_passAll 9 = .ok (.iload_n 2, 1) := by decide +kernel
theorem dX4_passAll_10 : decode cX4_passAll 10 = .ok (.aload_n 0, 1) := by decide +kernel
theorem dX4_passAll_11 : decode cX4_passAll 11 = .ok (.invokevirtual 119, 3) := by decide +kernel
theorem dX4_passAll_14 : decode cX4_passAll 14 = .ok (.iadd, 1) := by decide +kernel
theorem dX4_passAll_15 : decode cX4_passAll 15 = .ok (.istore_n 2, 1) := by decide +kernel
theorem dX4_passAll_16 : decode cX4_passAll 16 = .ok (.iinc 3 1, 3) := by decide +kernel
theorem dX4_passAll_19 : decode cX4_passAll 19 = .ok (.goto (-15), 3) := by decide +kernel
theorem dX4_passAll_22 : decode cX4_passAll 22 = .ok (.iload_n 2, 1) := by decide +kernel
theorem dX4_passAll_23 : decode cX4_passAll 23 = .ok (.ireturn, 1) := by decide +kernel
theorem dX4_pass_0 : decode cX4_pass 0 = .ok (.iload_n 1, 1) := by decide +kernel
theorem dX4_pass_1 : decode cX4_pass 1 = .ok (.iconst 1, 1) := by decide +kernel
theorem dX4_pass_2 : decode cX4_pass 2 = .ok (.bipush 50, 2) := by decide +kernel
theorem dX4_pass_4 : decode cX4_pass 4 = .ok (.invokestatic 37, 3) := by decide +kernel
theorem dX4_pass_7 : decode cX4_pass 7 = .ok (.ifCond .ne 6, 3) := by decide +kernel
theorem dX4_pass_10 : decode cX4_pass 10 = .ok (.bipush (-2), 2) := by decide +kernel
theorem dX4_pass_12 : decode cX4_pass 12 = .ok (.ireturn, 1) := by decide +kernel
theorem dX4_pass_13 : decode cX4_pass 13 = .ok (.aload_n 0, 1) := by decide +kernel
theorem dX4_pass_14 : decode cX4_pass 14 = .ok (.getfield 7, 3) := by decide +kernel
theorem dX4_pass_17 : decode cX4_pass 17 = .ok (.iconst 0, 1) := by decide +kernel
theorem dX4_pass_18 : decode cX4_pass 18 = .ok (.iaload, 1) := by decide +kernel
theorem dX4_pass_19 : decode cX4_pass 19 = .ok (.iload_n 1, 1) := by decide +kernel
theorem dX4_pass_20 : decode cX4_pass 20 = .ok (.iadd, 1) := by decide +kernel
theorem dX4_pass_21 : decode cX4_pass 21 = .ok (.sipush 9999, 3) := by decide +kernel
theorem dX4_pass_24 : decode cX4_pass 24 = .ok (.if_icmp .le 6, 3) := by decide +kernel
theorem dX4_pass_27 : decode cX4_pass 27 = .ok (.bipush (-4), 2) := by decide +kernel
theorem dX4_pass_29 : decode cX4_pass 29 = .ok (.ireturn, 1) := by decide +kernel
theorem dX4_pass_30 : decode cX4_pass 30 = .ok (.aload_n 0, 1) := by decide +kernel
theorem dX4_pass_31 : decode cX4_pass 31 = .ok (.invokevirtual 55, 3) := by decide +kernel
theorem dX4_pass_34 : decode cX4_pass 34 = .ok (.aload_n 0, 1) := by decide +kernel
theorem dX4_pass_35 : decode cX4_pass 35 = .ok (.iload_n 1, 1) := by decide +kernel
theorem dX4_pass_36 : decode cX4_pass 36 = .ok (.invokevirtual 123, 3) := by decide +kernel
theorem dX4_pass_39 : decode cX4_pass 39 = .ok (.ireturn, 1) := by decide +kernel
theorem dX4_lose_0 : decode cX4_lose 0 = .ok (.iload_n 1, 1) := by decide +kernel
theorem dX4_lose_1 : decode cX4_lose 1 = .ok (.invokestatic 58, 3) := by decide +kernel
theorem dX4_lose_4 : decode cX4_lose 4 = .ok (.ifCond .eq 5, 3) := by decide +kernel
theorem dX4_lose_7 : decode cX4_lose 7 = .ok (.iconst (-1), 1) := by decide +kernel
theorem dX4_lose_8 : decode cX4_lose 8 = .ok (.ireturn, 1) := by decide +kernel
theorem dX4_lose_9 : decode cX4_lose 9 = .ok (.aload_n 0, 1) := by decide +kernel
theorem dX4_lose_10 : decode cX4_lose 10 = .ok (.iload_n 1, 1) := by decide +kernel
theorem dX4_lose_11 : decode cX4_lose 11 = .ok (.bipush 10, 2) := by decide +kernel
theorem dX4_lose_13 : decode cX4_lose 13 = .ok (.invokevirtual 62, 3) := by decide +kernel
theorem dX4_lose_16 : decode cX4_lose 16 = .ok (.ifCond .ne 6, 3) := by decide +kernel
theorem dX4_lose_19 : decode cX4_lose 19 = .ok (.bipush (-4), 2) := by decide +kernel
theorem dX4_lose_21 : decode cX4_lose 21 = .ok (.ireturn, 1) := by decide +kernel
theorem dX4_lose_22 : decode cX4_lose 22 = .ok (.aload_n 0, 1) := by decide +kernel
theorem dX4_lose_23 : decode cX4_lose 23 = .ok (.invokevirtual 55, 3) := by decide +kernel
theorem dX4_lose_26 : decode cX4_lose 26 = .ok (.aload_n 0, 1) := by decide +kernel
theorem dX4_lose_27 : decode cX4_lose 27 = .ok (.iload_n 1, 1) := by decide +kernel
theorem dX4_lose_28 : decode cX4_lose 28 = .ok (.invokevirtual 96, 3) := by decide +kernel
theorem dX4_lose_31 : decode cX4_lose 31 = .ok (.aload_n 0, 1) := by decide +kernel
theorem dX4_lose_32 : decode cX4_lose 32 = .ok (.iload_n 1, 1) := by decide +kernel
theorem dX4_lose_33 : decode cX4_lose 33 = .ok (.bipush 8, 2) := by decide +kernel
theorem dX4_lose_35 : decode cX4_lose 35 = .ok (.iconst 1, 1) := by decide +kernel
theorem dX4_lose_36 : decode cX4_lose 36 = .ok (.invokevirtual 66, 3) := by decide +kernel
theorem dX4_lose_39 : decode cX4_lose 39 = .ok (.aload_n 0, 1) := by decide +kernel
theorem dX4_lose_40 : decode cX4_lose 40 = .ok (.iload_n 1, 1) := by decide +kernel
theorem dX4_lose_41 : decode cX4_lose 41 = .ok (.bipush 10, 2) := by decide +kernel
theorem dX4_lose_43 : decode cX4_lose 43 = .ok (.invokevirtual 62, 3) := by decide +kernel
theorem dX4_lose_46 : decode cX4_lose 46 = .ok (.ireturn, 1) := by decide +kernel
theorem dX4_forge_0 : decode cX4_forge 0 = .ok (.iload_n 1, 1) := by decide +kernel
theorem dX4_forge_1 : decode cX4_forge 1 = .ok (.invokestatic 58, 3) := by decide +kernel
theorem dX4_forge_4 : decode cX4_forge 4 = .ok (.ifCond .eq 5, 3) := by decide +kernel
theorem dX4_forge_7 : decode cX4_forge 7 = .ok (.iconst (-1), 1) := by decide +kernel
theorem dX4_forge_8 : decode cX4_forge 8 = .ok (.ireturn, 1) := by decide +kernel
theorem dX4_forge_9 : decode cX4_forge 9 = .ok (.aload_n 0, 1) := by decide +kernel
theorem dX4_forge_10 : decode cX4_forge 10 = .ok (.iload_n 1, 1) := by decide +kernel
theorem dX4_forge_11 : decode cX4_forge 11 = .ok (.iconst 3, 1) := by decide +kernel
theorem dX4_forge_12 : decode cX4_forge 12 = .ok (.invokevirtual 62, 3) := by decide +kernel
theorem dX4_forge_15 : decode cX4_forge 15 = .ok (.bipush 16, 2) := by decide +kernel
theorem dX4_forge_17 : decode cX4_forge 17 = .ok (.if_icmp .lt 6, 3) := by decide +kernel
theorem dX4_forge_20 : decode cX4_forge 20 = .ok (.bipush (-3), 2) := by decide +kernel
theorem dX4_forge_22 : decode cX4_forge 22 = .ok (.ireturn, 1) := by decide +kernel
theorem dX4_forge_23 : decode cX4_forge 23 = .ok (.aload_n 0, 1) := by decide +kernel
theorem dX4_forge_24 : decode cX4_forge 24 = .ok (.invokevirtual 55, 3) := by decide +kernel
theorem dX4_forge_27 : decode cX4_forge 27 = .ok (.aload_n 0, 1) := by decide +kernel
theorem dX4_forge_28 : decode cX4_forge 28 = .ok (.iload_n 1, 1) := by decide +kernel
theorem dX4_forge_29 : decode cX4_forge 29 = .ok (.iconst 3, 1) := by decide +kernel
theorem dX4_forge_30 : decode cX4_forge 30 = .ok (.iconst 1, 1) := by decide +kernel
theorem dX4_forge_31 : decode cX4_forge 31 = .ok (.invokevirtual 66, 3) := by decide +kernel
theorem dX4_forge_34 : decode cX4_forge 34 = .ok (.bipush 100, 2) := by decide +kernel
theorem dX4_forge_36 : decode cX4_forge 36 = .ok (.aload_n 0, 1) := by decide +kernel
theorem dX4_forge_37 : decode cX4_forge 37 = .ok (.iload_n 1, 1) := by decide +kernel
theorem dX4_forge_38 : decode cX4_forge 38 = .ok (.iconst 3, 1) := by decide +kernel
theorem dX4_forge_39 : decode cX4_forge 39 = .ok (.invokevirtual 62, 3) := by decide +kernel
theorem dX4_forge_42 : decode cX4_forge 42 = .ok (.iadd, 1) := by decide +kernel
theorem dX4_forge_43 : decode cX4_forge 43 = .ok (.ireturn, 1) := by decide +kernel
theorem dX4_repair_0 : decode cX4_repair 0 = .ok (.iload_n 1, 1) := by decide +kernel
theorem dX4_repair_1 : decode cX4_repair 1 = .ok (.invokestatic 58, 3) := by decide +kernel
theorem dX4_repair_4 : decode cX4_repair 4 = .ok (.ifCond .eq 5, 3) := by decide +kernel
theorem dX4_repair_7 : decode cX4_repair 7 = .ok (.iconst (-1), 1) := by decide +kernel
theorem dX4_repair_8 : decode cX4_repair 8 = .ok (.ireturn, 1) := by decide +kernel
theorem dX4_repair_9 : decode cX4_repair 9 = .ok (.aload_n 0, 1) := by decide +kernel
theorem dX4_repair_10 : decode cX4_repair 10 = .ok (.iload_n 1, 1) := by decide +kernel
theorem dX4_repair_11 : decode cX4_repair 11 = .ok (.invokevirtual 109, 3) := by decide +kernel
theorem dX4_repair_14 : decode cX4_repair 14 = .ok (.istore_n 2, 1) := by decide +kernel
theorem dX4_repair_15 : decode cX4_repair 15 = .ok (.iload_n 2, 1) := by decide +kernel
theorem dX4_repair_16 : decode cX4_repair 16 = .ok (.ifCond .ne 6, 3) := by decide +kernel
theorem dX4_repair_19 : decode cX4_repair 19 = .ok (.bipush (-5), 2) := by decide +kernel
theorem dX4_repair_21 : decode cX4_repair 21 = .ok (.ireturn, 1) := by decide +kernel
theorem dX4_repair_22 : decode cX4_repair 22 = .ok (.aload_n 0, 1) := by decide +kernel
theorem dX4_repair_23 : decode cX4_repair 23 = .ok (.invokevirtual 55, 3) := by decide +kernel
theorem dX4_repair_26 : decode cX4_repair 26 = .ok (.aload_n 0, 1) := by decide +kernel
theorem dX4_repair_27 : decode cX4_repair 27 = .ok (.iload_n 1, 1) := by decide +kernel
theorem dX4_repair_28 : decode cX4_repair 28 = .ok (.iconst 3, 1) := by decide +kernel
theorem dX4_repair_29 : decode cX4_repair 29 = .ok (.iload_n 2, 1) := by decide +kernel
theorem dX4_repair_30 : decode cX4_repair 30 = .ok (.invokevirtual 66, 3) := by decide +kernel
theorem dX4_repair_33 : decode cX4_repair 33 = .ok (.bipush 100, 2) := by decide +kernel
theorem dX4_repair_35 : decode cX4_repair 35 = .ok (.iload_n 2, 1) := by decide +kernel
theorem dX4_repair_36 : decode cX4_repair 36 = .ok (.iadd, 1) := by decide +kernel
theorem dX4_repair_37 : decode cX4_repair 37 = .ok (.ireturn, 1) := by decide +kernel
theorem dX4_type_0 : decode cX4_type 0 = .ok (.aload_n 0, 1) := by decide +kernel
theorem dX4_type_1 : decode cX4_type 1 = .ok (.getfield 79, 3) := by decide +kernel
theorem dX4_type_4 : decode cX4_type 4 = .ok (.bipush 60, 2) := by decide +kernel
theorem dX4_type_6 : decode cX4_type 6 = .ok (.if_icmp .ne 6, 3) := by decide +kernel
theorem dX4_type_9 : decode cX4_type 9 = .ok (.bipush (-3), 2) := by decide +kernel
theorem dX4_type_11 : decode cX4_type 11 = .ok (.ireturn, 1) := by decide +kernel
theorem dX4_type_12 : decode cX4_type 12 = .ok (.aload_n 0, 1) := by decide +kernel
theorem dX4_type_13 : decode cX4_type 13 = .ok (.getfield 22, 3) := by decide +kernel
theorem dX4_type_16 : decode cX4_type 16 = .ok (.aload_n 0, 1) := by decide +kernel
theorem dX4_type_17 : decode cX4_type 17 = .ok (.getfield 79, 3) := by decide +kernel
theorem dX4_type_20 : decode cX4_type 20 = .ok (.iload_n 1, 1) := by decide +kernel
theorem dX4_type_21 : decode cX4_type 21 = .ok (.castore, 1) := by decide +kernel
theorem dX4_type_22 : decode cX4_type 22 = .ok (.aload_n 0, 1) := by decide +kernel
theorem dX4_type_23 : decode cX4_type 23 = .ok (.dup, 1) := by decide +kernel
theorem dX4_type_24 : decode cX4_type 24 = .ok (.getfield 79, 3) := by decide +kernel
theorem dX4_type_27 : decode cX4_type 27 = .ok (.iconst 1, 1) := by decide +kernel
theorem dX4_type_28 : decode cX4_type 28 = .ok (.iadd, 1) := by decide +kernel
theorem dX4_type_29 : decode cX4_type 29 = .ok (.putfield 79, 3) := by decide +kernel
theorem dX4_type_32 : decode cX4_type 32 = .ok (.aload_n 0, 1) := by decide +kernel
theorem dX4_type_33 : decode cX4_type 33 = .ok (.getfield 79, 3) := by decide +kernel
theorem dX4_type_36 : decode cX4_type 36 = .ok (.ireturn, 1) := by decide +kernel
theorem dX4_clearText_0 : decode cX4_clearText 0 = .ok (.aload_n 0, 1) := by decide +kernel
theorem dX4_clearText_1 : decode cX4_clearText 1 = .ok (.getfield 79, 3) := by decide +kernel
theorem dX4_clearText_4 : decode cX4_clearText 4 = .ok (.istore_n 1, 1) := by decide +kernel
theorem dX4_clearText_5 : decode cX4_clearText 5 = .ok (.aload_n 0, 1) := by decide +kernel
theorem dX4_clearText_6 : decode cX4_clearText 6 = .ok (.iconst 0, 1) := by decide +kernel
theorem dX4_clearText_7 : decode cX4_clearText 7 = .ok (.putfield 79, 3) := by decide +kernel
theorem dX4_clearText_10 : decode cX4_clearText 10 = .ok (.iload_n 1, 1) := by decide +kernel
theorem dX4_clearText_11 : decode cX4_clearText 11 = .ok (.ireturn, 1) := by decide +kernel
theorem dX4_waiting_0 : decode cX4_waiting 0 = .ok (.iconst 0, 1) := by decide +kernel
theorem dX4_waiting_1 : decode cX4_waiting 1 = .ok (.istore_n 2, 1) := by decide +kernel
theorem dX4_waiting_2 : decode cX4_waiting 2 = .ok (.iconst 0, 1) := by decide +kernel
theorem dX4_waiting_3 : decode cX4_waiting 3 = .ok (.istore_n 3, 1) := by decide +kernel
theorem dX4_waiting_4 : decode cX4_waiting 4 = .ok (.iload_n 3, 1) := by decide +kernel
theorem dX4_waiting_5 : decode cX4_waiting 5 = .ok (.iconst 4, 1) := by decide +kernel
theorem dX4_waiting_6 : decode cX4_waiting 6 = .ok (.if_icmp .ge 54, 3) := by decide +kernel
theorem dX4_waiting_9 : decode cX4_waiting 9 = .ok (.iconst 0, 1) := by decide +kernel
theorem dX4_waiting_10 : decode cX4_waiting 10 = .ok (.istore 4, 2) := by decide +kernel
theorem dX4_waiting_12 : decode cX4_waiting 12 = .ok (.iload 4, 2) := by decide +kernel
theorem dX4_waiting_14 : decode cX4_waiting 14 = .ok (.aload_n 0, 1) := by decide +kernel
theorem dX4_waiting_15 : decode cX4_waiting 15 = .ok (.iload_n 3, 1) := by decide +kernel
theorem dX4_waiting_16 : decode cX4_waiting 16 = .ok (.iconst 0, 1) := by decide +kernel
theorem dX4_waiting_17 : decode cX4_waiting 17 = .ok (.invokevirtual 69, 3) := by decide +kernel
theorem dX4_waiting_20 : decode cX4_waiting 20 = .ok (.if_icmp .ge 34, 3) := by decide +kernel
theorem dX4_waiting_23 : decode cX4_waiting 23 = .ok (.iload_n 2, 1) := by decide +kernel
theorem dX4_waiting_24 : decode cX4_waiting 24 = .ok (.aload_n 0, 1) := by decide +kernel
theorem dX4_waiting_25 : decode cX4_waiting 25 = .ok (.iload_n 3, 1) := by decide +kernel
theorem dX4_waiting_26 : decode cX4_waiting 26 = .ok (.iconst 3, 1) := by decide +kernel
theorem dX4_waiting_27 : decode cX4_waiting 27 = .ok (.iconst 3, 1) := by decide +kernel
theorem dX4_waiting_28 : decode cX4_waiting 28 = .ok (.iload 4, 2) := by decide +kernel
theorem dX4_waiting_30 : decode cX4_waiting 30 = .ok (.imul, 1) := by decide +kernel
theorem dX4_waiting_31 : decode cX4_waiting 31 = .ok (.iadd, 1) := by decide +kernel
theorem dX4_waiting_32 : decode cX4_waiting 32 = .ok (.iconst 1, 1) := by decide +kernel
theorem dX4_waiting_33 : decode cX4_waiting 33 = .ok (.iadd, 1) := by decide +kernel
theorem dX4_waiting_34 : decode cX4_waiting 34 = .ok (.invokevirtual 69, 3) := by decide +kernel
theorem dX4_waiting_37 : decode cX4_waiting 37 = .ok (.iload_n 1, 1) := by decide +kernel
theorem dX4_waiting_38 : decode cX4_waiting 38 = .ok (.if_icmp .ne 7, 3) := by decide +kernel
theorem dX4_waiting_41 : decode cX4_waiting 41 = .ok (.iconst 1, 1) := by decide +kernel
theorem dX4_waiting_42 : decode cX4_waiting 42 = .ok (.goto 4, 3) := by decide +kernel
theorem dX4_waiting_45 : decode cX4_waiting 45 = .ok (.iconst 0, 1) := by decide +kernel
theorem dX4_waiting_46 : decode cX4_waiting 46 = .ok (.iadd, 1) := by decide +kernel
theorem dX4_waiting_47 : decode cX4_waiting 47 = .ok (.istore_n 2, 1) := by decide +kernel
theorem dX4_waiting_48 : decode cX4_waiting 48 = .ok (.iinc 4 1, 3) := by decide +kernel
theorem dX4_waiting_51 : decode cX4_waiting 51 = .ok (.goto (-39), 3) := by decide +kernel
theorem dX4_waiting_54 : decode cX4_waiting 54 = .ok (.iinc 3 1, 3) := by decide +kernel
theorem dX4_waiting_57 : decode cX4_waiting 57 = .ok (.goto (-53), 3) := by decide +kernel
theorem dX4_waiting_60 : decode cX4_waiting 60 = .ok (.iload_n 2, 1) := by decide +kernel
theorem dX4_waiting_61 : decode cX4_waiting 61 = .ok (.ireturn, 1) := by decide +kernel
theorem dX4_isStuck_0 : decode cX4_isStuck 0 = .ok (.aload_n 0, 1) := by decide +kernel
theorem dX4_isStuck_1 : decode cX4_isStuck 1 = .ok (.iload_n 1, 1) := by decide +kernel
theorem dX4_isStuck_2 : decode cX4_isStuck 2 = .ok (.invokevirtual 126, 3) := by decide +kernel
theorem dX4_isStuck_5 : decode cX4_isStuck 5 = .ok (.ifCond .le 45, 3) := by decide +kernel
theorem dX4_isStuck_8 : decode cX4_isStuck 8 = .ok (.aload_n 0, 1) := by decide +kernel
theorem dX4_isStuck_9 : decode cX4_isStuck 9 = .ok (.iload_n 1, 1) := by decide +kernel
theorem dX4_isStuck_10 : decode cX4_isStuck 10 = .ok (.iconst 3, 1) := by decide +kernel
theorem dX4_isStuck_11 : decode cX4_isStuck 11 = .ok (.invokevirtual 62, 3) := by decide +kernel
theorem dX4_isStuck_14 : decode cX4_isStuck 14 = .ok (.ifCond .gt 36, 3) := by decide +kernel
theorem dX4_isStuck_17 : decode cX4_isStuck 17 = .ok (.aload_n 0, 1) := by decide +kernel
theorem dX4_isStuck_18 : decode cX4_isStuck 18 = .ok (.iload_n 1, 1) := by decide +kernel
theorem dX4_isStuck_19 : decode cX4_isStuck 19 = .ok (.bipush 9, 2) := by decide +kernel
theorem dX4_isStuck_21 : decode cX4_isStuck 21 = .ok (.invokevirtual 62, 3) := by decide +kernel
theorem dX4_isStuck_24 : decode cX4_isStuck 24 = .ok (.ifCond .ne 26, 3) := by decide +kernel
theorem dX4_isStuck_27 : decode cX4_isStuck 27 = .ok (.aload_n 0, 1) := by decide +kernel
theorem dX4_isStuck_28 : decode cX4_isStuck 28 = .ok (.iload_n 1, 1) := by decide +kernel
theorem dX4_isStuck_29 : decode cX4_isStuck 29 = .ok (.bipush 10, 2) := by decide +kernel
theorem dX4_isStuck_31 : decode cX4_isStuck 31 = .ok (.invokevirtual 62, 3) := by decide +kernel
theorem dX4_isStuck_34 : decode cX4_isStuck 34 = .ok (.ifCond .ne 16, 3) := by decide +kernel
theorem dX4_isStuck_37 : decode cX4_isStuck 37 = .ok (.aload_n 0, 1) := by decide +kernel
theorem dX4_isStuck_38 : decode cX4_isStuck 38 = .ok (.getfield 7, 3) := by decide +kernel
theorem dX4_isStuck_41 : decode cX4_isStuck 41 = .ok (.iconst 2, 1) := by decide +kernel
theorem dX4_isStuck_42 : decode cX4_isStuck 42 = .ok (.iaload, 1) := by decide +kernel
theorem dX4_isStuck_43 : decode cX4_isStuck 43 = .ok (.ifCond .ne 7, 3) := by decide +kernel
theorem dX4_isStuck_46 : decode cX4_isStuck 46 = .ok (.iconst 1, 1) := by decide +kernel
theorem dX4_isStuck_47 : decode cX4_isStuck 47 = .ok (.goto 4, 3) := by decide +kernel
theorem dX4_isStuck_50 : decode cX4_isStuck 50 = .ok (.iconst 0, 1) := by decide +kernel
theorem dX4_isStuck_51 : decode cX4_isStuck 51 = .ok (.ireturn, 1) := by decide +kernel
theorem dX4_lane_0 : decode cX4_lane 0 = .ok (.iload_n 1, 1) := by decide +kernel
theorem dX4_lane_1 : decode cX4_lane 1 = .ok (.invokestatic 58, 3) := by decide +kernel
theorem dX4_lane_4 : decode cX4_lane 4 = .ok (.ifCond .eq 5, 3) := by decide +kernel
theorem dX4_lane_7 : decode cX4_lane 7 = .ok (.iconst (-1), 1) := by decide +kernel
theorem dX4_lane_8 : decode cX4_lane 8 = .ok (.ireturn, 1) := by decide +kernel
theorem dX4_lane_9 : decode cX4_lane 9 = .ok (.iload_n 2, 1) := by decide +kernel
theorem dX4_lane_10 : decode cX4_lane 10 = .ok (.tableswitch 148 0 13 #[70, 70, 70, 77, 87, 95, 103, 112, 119, 119, 119, 119, 128, 134], 70) := by decide +kernel
theorem dX4_lane_80 : decode cX4_lane 80 = .ok (.aload_n 0, 1) := by decide +kernel
theorem dX4_lane_81 : decode cX4_lane 81 = .ok (.iload_n 1, 1) := by decide +kernel
theorem dX4_lane_82 : decode cX4_lane 82 = .ok (.iload_n 2, 1) := by decide +kernel
theorem dX4_lane_83 : decode cX4_lane 83 = .ok (.invokevirtual 62, 3) := by decide +kernel
theorem dX4_lane_86 : decode cX4_lane 86 = .ok (.ireturn, 1) := by decide +kernel
theorem dX4_lane_87 : decode cX4_lane 87 = .ok (.bipush 100, 2) := by decide +kernel
theorem dX4_lane_89 : decode cX4_lane 89 = .ok (.aload_n 0, 1) := by decide +kernel
theorem dX4_lane_90 : decode cX4_lane 90 = .ok (.iload_n 1, 1) := by decide +kernel
theorem dX4_lane_91 : decode cX4_lane 91 = .ok (.iconst 3, 1) := by decide +kernel
theorem dX4_lane_92 : decode cX4_lane 92 = .ok (.invokevirtual 62, 3) := by decide +kernel
theorem dX4_lane_95 : decode cX4_lane 95 = .ok (.iadd, 1) := by decide +kernel
theorem dX4_lane_96 : decode cX4_lane 96 = .ok (.ireturn, 1) := by decide +kernel
theorem dX4_lane_97 : decode cX4_lane 97 = .ok (.aload_n 0, 1) := by decide +kernel
theorem dX4_lane_98 : decode cX4_lane 98 = .ok (.iload_n 1, 1) := by decide +kernel
theorem dX4_lane_99 : decode cX4_lane 99 = .ok (.bipush 9, 2) := by decide +kernel
theorem dX4_lane_101 : decode cX4_lane 101 = .ok (.invokevirtual 62, 3) := by decide +kernel
theorem dX4_lane_104 : decode cX4_lane 104 = .ok (.ireturn, 1) := by decide +kernel
theorem dX4_lane_105 : decode cX4_lane 105 = .ok (.aload_n 0, 1) := by decide +kernel
theorem dX4_lane_106 : decode cX4_lane 106 = .ok (.iload_n 1, 1) := by decide +kernel
theorem dX4_lane_107 : decode cX4_lane 107 = .ok (.bipush 10, 2) := by decide +kernel
theorem dX4_lane_109 : decode cX4_lane 109 = .ok (.invokevirtual 62, 3) := by decide +kernel
theorem dX4_lane_112 : decode cX4_lane 112 = .ok (.ireturn, 1) := by decide +kernel
theorem dX4_lane_113 : decode cX4_lane 113 = .ok (.bipush 100, 2) := by decide +kernel
theorem dX4_lane_115 : decode cX4_lane 115 = .ok (.aload_n 0, 1) := by decide +kernel
theorem dX4_lane_116 : decode cX4_lane 116 = .ok (.iload_n 1, 1) := by decide +kernel
theorem dX4_lane_117 : decode cX4_lane 117 = .ok (.invokevirtual 109, 3) := by decide +kernel
theorem dX4_lane_120 : decode cX4_lane 120 = .ok (.iadd, 1) := by decide +kernel
theorem dX4_lane_121 : decode cX4_lane 121 = .ok (.ireturn, 1) := by decide +kernel
theorem dX4_lane_122 : decode cX4_lane 122 = .ok (.aload_n 0, 1) := by decide +kernel
theorem dX4_lane_123 : decode cX4_lane 123 = .ok (.iload_n 1, 1) := by decide +kernel
theorem dX4_lane_124 : decode cX4_lane 124 = .ok (.iconst 4, 1) := by decide +kernel
theorem dX4_lane_125 : decode cX4_lane 125 = .ok (.invokevirtual 62, 3) := by decide +kernel
theorem dX4_lane_128 : decode cX4_lane 128 = .ok (.ireturn, 1) := by decide +kernel
theorem dX4_lane_129 : decode cX4_lane 129 = .ok (.aload_n 0, 1) := by decide +kernel
theorem dX4_lane_130 : decode cX4_lane 130 = .ok (.iload_n 1, 1) := by decide +kernel
theorem dX4_lane_131 : decode cX4_lane 131 = .ok (.iload_n 2, 1) := by decide +kernel
theorem dX4_lane_132 : decode cX4_lane 132 = .ok (.iconst 3, 1) := by decide +kernel
theorem dX4_lane_133 : decode cX4_lane 133 = .ok (.isub, 1) := by decide +kernel
theorem dX4_lane_134 : decode cX4_lane 134 = .ok (.invokevirtual 62, 3) := by decide +kernel
theorem dX4_lane_137 : decode cX4_lane 137 = .ok (.ireturn, 1) := by decide +kernel
theorem dX4_lane_138 : decode cX4_lane 138 = .ok (.aload_n 0, 1) := by decide +kernel
theorem dX4_lane_139 : decode cX4_lane 139 = .ok (.iload_n 1, 1) := by decide +kernel
theorem dX4_lane_140 : decode cX4_lane 140 = .ok (.invokevirtual 126, 3) := by decide +kernel
theorem dX4_lane_143 : decode cX4_lane 143 = .ok (.ireturn, 1) := by decide +kernel
theorem dX4_lane_144 : decode cX4_lane 144 = .ok (.aload_n 0, 1) := by decide +kernel
theorem dX4_lane_145 : decode cX4_lane 145 = .ok (.iload_n 1, 1) := by decide +kernel
theorem dX4_lane_146 : decode cX4_lane 146 = .ok (.invokevirtual 129, 3) := by decide +kernel
theorem dX4_lane_149 : decode cX4_lane 149 = .ok (.ifCond .eq 7, 3) := by decide +kernel
theorem dX4_lane_152 : decode cX4_lane 152 = .ok (.iconst 1, 1) := by decide +kernel
theorem dX4_lane_153 : decode cX4_lane 153 = .ok (.goto 4, 3) := by decide +kernel
theorem dX4_lane_156 : decode cX4_lane 156 = .ok (.iconst 0, 1) := by decide +kernel
theorem dX4_lane_157 : decode cX4_lane 157 = .ok (.ireturn, 1) := by decide +kernel
theorem dX4_lane_158 : decode cX4_lane 158 = .ok (.bipush (-2), 2) := by decide +kernel
theorem dX4_lane_160 : decode cX4_lane 160 = .ok (.ireturn, 1) := by decide +kernel
theorem dX4_seated_0 : decode cX4_seated 0 = .ok (.iload_n 1, 1) := by decide +kernel
theorem dX4_seated_1 : decode cX4_seated 1 = .ok (.invokestatic 58, 3) := by decide +kernel
theorem dX4_seated_4 : decode cX4_seated 4 = .ok (.ifCond .eq 5, 3) := by decide +kernel
theorem dX4_seated_7 : decode cX4_seated 7 = .ok (.iconst (-1), 1) := by decide +kernel
theorem dX4_seated_8 : decode cX4_seated 8 = .ok (.ireturn, 1) := by decide +kernel
theorem dX4_seated_9 : decode cX4_seated 9 = .ok (.iload_n 2, 1) := by decide +kernel
theorem dX4_seated_10 : decode cX4_seated 10 = .ok (.ifCond .ge 8, 3) := by decide +kernel
theorem dX4_seated_13 : decode cX4_seated 13 = .ok (.bipush (-2), 2) := by decide +kernel
theorem dX4_seated_15 : decode cX4_seated 15 = .ok (.goto 28, 3) := by decide +kernel
theorem dX4_seated_18 : decode cX4_seated 18 = .ok (.iload_n 2, 1) := by decide +kernel
theorem dX4_seated_19 : decode cX4_seated 19 = .ok (.aload_n 0, 1) := by decide +kernel
theorem dX4_seated_20 : decode cX4_seated 20 = .ok (.iload_n 1, 1) := by decide +kernel
theorem dX4_seated_21 : decode cX4_seated 21 = .ok (.bipush 9, 2) := by decide +kernel
theorem dX4_seated_23 : decode cX4_seated 23 = .ok (.invokevirtual 62, 3) := by decide +kernel
theorem dX4_seated_26 : decode cX4_seated 26 = .ok (.if_icmp .ge 15, 3) := by decide +kernel
theorem dX4_seated_29 : decode cX4_seated 29 = .ok (.aload_n 0, 1) := by decide +kernel
theorem dX4_seated_30 : decode cX4_seated 30 = .ok (.iload_n 1, 1) := by decide +kernel
theorem dX4_seated_31 : decode cX4_seated 31 = .ok (.bipush 11, 2) := by decide +kernel
theorem dX4_seated_33 : decode cX4_seated 33 = .ok (.iload_n 2, 1) := by decide +kernel
theorem dX4_seated_34 : decode cX4_seated 34 = .ok (.iadd, 1) := by decide +kernel
theorem dX4_seated_35 : decode cX4_seated 35 = .ok (.invokevirtual 62, 3) := by decide +kernel
theorem dX4_seated_38 : decode cX4_seated 38 = .ok (.goto 5, 3) := by decide +kernel
theorem dX4_seated_41 : decode cX4_seated 41 = .ok (.bipush (-5), 2) := by decide +kernel
theorem dX4_seated_43 : decode cX4_seated 43 = .ok (.ireturn, 1) := by decide +kernel
theorem dX4_onTheWay_0 : decode cX4_onTheWay 0 = .ok (.iload_n 1, 1) := by decide +kernel
theorem dX4_onTheWay_1 : decode cX4_onTheWay 1 = .ok (.invokestatic 58, 3) := by decide +kernel
theorem dX4_onTheWay_4 : decode cX4_onTheWay 4 = .ok (.ifCond .eq 5, 3) := by decide +kernel
theorem dX4_onTheWay_7 : decode cX4_onTheWay 7 = .ok (.iconst (-1), 1) := by decide +kernel
theorem dX4_onTheWay_8 : decode cX4_onTheWay 8 = .ok (.ireturn, 1) := by decide +kernel
theorem dX4_onTheWay_9 : decode cX4_onTheWay 9 = .ok (.iload_n 2, 1) := by decide +kernel
theorem dX4_onTheWay_10 : decode cX4_onTheWay 10 = .ok (.ifCond .ge 8, 3) := by decide +kernel
theorem dX4_onTheWay_13 : decode cX4_onTheWay 13 = .ok (.bipush (-2), 2) := by decide +kernel
theorem dX4_onTheWay_15 : decode cX4_onTheWay 15 = .ok (.goto 37, 3) := by decide +kernel
theorem dX4_onTheWay_18 : decode cX4_onTheWay 18 = .ok (.iload_n 2, 1) := by decide +kernel
theorem dX4_onTheWay_19 : decode cX4_onTheWay 19 = .ok (.aload_n 0, 1) := by decide +kernel
theorem dX4_onTheWay_20 : decode cX4_onTheWay 20 = .ok (.iload_n 1, 1) := by decide +kernel
theorem dX4_onTheWay_21 : decode cX4_onTheWay 21 = .ok (.bipush 10, 2) := by decide +kernel
theorem dX4_onTheWay_23 : decode cX4_onTheWay 23 = .ok (.invokevirtual 62, 3) := by decide +kernel
theorem dX4_onTheWay_26 : decode cX4_onTheWay 26 = .ok (.if_icmp .ge 24, 3) := by decide +kernel
theorem dX4_onTheWay_29 : decode cX4_onTheWay 29 = .ok (.aload_n 0, 1) := by decide +kernel
theorem dX4_onTheWay_30 : decode cX4_onTheWay 30 = .ok (.iload_n 1, 1) := by decide +kernel
theorem dX4_onTheWay_31 : decode cX4_onTheWay 31 = .ok (.bipush 19, 2) := by decide +kernel
theorem dX4_onTheWay_33 : decode cX4_onTheWay 33 = .ok (.iload_n 2, 1) := by decide +kernel
theorem dX4_onTheWay_34 : decode cX4_onTheWay 34 = .ok (.iadd, 1) := by decide +kernel
theorem dX4_onTheWay_35 : decode cX4_onTheWay 35 = .ok (.invokevirtual 62, 3) := by decide +kernel
theorem dX4_onTheWay_38 : decode cX4_onTheWay 38 = .ok (.aload_n 0, 1) := by decide +kernel
theorem dX4_onTheWay_39 : decode cX4_onTheWay 39 = .ok (.getfield 7, 3) := by decide +kernel
theorem dX4_onTheWay_42 : decode cX4_onTheWay 42 = .ok (.iconst 0, 1) := by decide +kernel
theorem dX4_onTheWay_43 : decode cX4_onTheWay 43 = .ok (.iaload, 1) := by decide +kernel
theorem dX4_onTheWay_44 : decode cX4_onTheWay 44 = .ok (.isub, 1) := by decide +kernel
theorem dX4_onTheWay_45 : decode cX4_onTheWay 45 = .ok (.iconst 1, 1) := by decide +kernel
theorem dX4_onTheWay_46 : decode cX4_onTheWay 46 = .ok (.iadd, 1) := by decide +kernel
theorem dX4_onTheWay_47 : decode cX4_onTheWay 47 = .ok (.goto 5, 3) := by decide +kernel
theorem dX4_onTheWay_50 : decode cX4_onTheWay 50 = .ok (.bipush (-5), 2) := by decide +kernel
theorem dX4_onTheWay_52 : decode cX4_onTheWay 52 = .ok (.ireturn, 1) := by decide +kernel
theorem dX4_input_0 : decode cX4_input 0 = .ok (.iload_n 1, 1) := by decide +kernel
theorem dX4_input_1 : decode cX4_input 1 = .ok (.invokestatic 58, 3) := by decide +kernel
theorem dX4_input_4 : decode cX4_input 4 = .ok (.ifCond .eq 5, 3) := by decide +kernel
theorem dX4_input_7 : decode cX4_input 7 = .ok (.iconst (-1), 1) := by decide +kernel
theorem dX4_input_8 : decode cX4_input 8 = .ok (.ireturn, 1) := by decide +kernel
theorem dX4_input_9 : decode cX4_input 9 = .ok (.iload_n 2, 1) := by decide +kernel
theorem dX4_input_10 : decode cX4_input 10 = .ok (.tableswitch 72 0 3 #[30, 37, 44, 51], 30) := by decide +kernel
theorem dX4_input_40 : decode cX4_input 40 = .ok (.aload_n 0, 1) := by decide +kernel
theorem dX4_input_41 : decode cX4_input 41 = .ok (.iload_n 1, 1) := by decide +kernel
theorem dX4_input_42 : decode cX4_input 42 = .ok (.iconst 0, 1) := by decide +kernel
theorem dX4_input_43 : decode cX4_input 43 = .ok (.invokevirtual 69, 3) := by decide +kernel
theorem dX4_input_46 : decode cX4_input 46 = .ok (.ireturn, 1) := by decide +kernel
theorem dX4_input_47 : decode cX4_input 47 = .ok (.aload_n 0, 1) := by decide +kernel
theorem dX4_input_48 : decode cX4_input 48 = .ok (.iload_n 1, 1) := by decide +kernel
theorem dX4_input_49 : decode cX4_input 49 = .ok (.iconst 1, 1) := by decide +kernel
theorem dX4_input_50 : decode cX4_input 50 = .ok (.invokevirtual 69, 3) := by decide +kernel
theorem dX4_input_53 : decode cX4_input 53 = .ok (.ireturn, 1) := by decide +kernel
theorem dX4_input_54 : decode cX4_input 54 = .ok (.aload_n 0, 1) := by decide +kernel
theorem dX4_input_55 : decode cX4_input 55 = .ok (.iload_n 1, 1) := by decide +kernel
theorem dX4_input_56 : decode cX4_input 56 = .ok (.iconst 2, 1) := by decide +kernel
theorem dX4_input_57 : decode cX4_input 57 = .ok (.invokevirtual 69, 3) := by decide +kernel
theorem dX4_input_60 : decode cX4_input 60 = .ok (.ireturn, 1) := by decide +kernel
theorem dX4_input_61 : decode cX4_input 61 = .ok (.aload_n 0, 1) := by decide +kernel
theorem dX4_input_62 : decode cX4_input 62 = .ok (.iload_n 1, 1) := by decide +kernel
theorem dX4_input_63 : decode cX4_input 63 = .ok (.iconst 0, 1) := by decide +kernel
theorem dX4_input_64 : decode cX4_input 64 = .ok (.invokevirtual 69, 3) := by decide +kernel
theorem dX4_input_67 : decode cX4_input 67 = .ok (.ifCond .ne 8, 3) := by decide +kernel
theorem dX4_input_70 : decode cX4_input 70 = .ok (.bipush (-5), 2) := by decide +kernel
theorem dX4_input_72 : decode cX4_input 72 = .ok (.goto 9, 3) := by decide +kernel
theorem dX4_input_75 : decode cX4_input 75 = .ok (.aload_n 0, 1) := by decide +kernel
theorem dX4_input_76 : decode cX4_input 76 = .ok (.iload_n 1, 1) := by decide +kernel
theorem dX4_input_77 : decode cX4_input 77 = .ok (.iconst 4, 1) := by decide +kernel
theorem dX4_input_78 : decode cX4_input 78 = .ok (.invokevirtual 69, 3) := by decide +kernel
theorem dX4_input_81 : decode cX4_input 81 = .ok (.ireturn, 1) := by decide +kernel
theorem dX4_input_82 : decode cX4_input 82 = .ok (.bipush (-2), 2) := by decide +kernel
theorem dX4_input_84 : decode cX4_input 84 = .ok (.ireturn, 1) := by decide +kernel
theorem dX4_packet_0 : decode cX4_packet 0 = .ok (.iload_n 1, 1) := by decide +kernel
theorem dX4_packet_1 : decode cX4_packet 1 = .ok (.invokestatic 58, 3) := by decide +kernel
theorem dX4_packet_4 : decode cX4_packet 4 = .ok (.ifCond .eq 5, 3) := by decide +kernel
theorem dX4_packet_7 : decode cX4_packet 7 = .ok (.iconst (-1), 1) := by decide +kernel
theorem dX4_packet_8 : decode cX4_packet 8 = .ok (.ireturn, 1) := by decide +kernel
theorem dX4_packet_9 : decode cX4_packet 9 = .ok (.iload_n 2, 1) := by decide +kernel
theorem dX4_packet_10 : decode cX4_packet 10 = .ok (.ifCond .lt 12, 3) := by decide +kernel
theorem dX4_packet_13 : decode cX4_packet 13 = .ok (.iload_n 3, 1) := by decide +kernel
theorem dX4_packet_14 : decode cX4_packet 14 = .ok (.iconst 0, 1) := by decide +kernel
theorem dX4_packet_15 : decode cX4_packet 15 = .ok (.iconst 2, 1) := by decide +kernel
theorem dX4_packet_16 : decode cX4_packet 16 = .ok (.invokestatic 37, 3) := by decide +kernel
theorem dX4_packet_19 : decode cX4_packet 19 = .ok (.ifCond .ne 6, 3) := by decide +kernel
theorem dX4_packet_22 : decode cX4_packet 22 = .ok (.bipush (-2), 2) := by decide +kernel
theorem dX4_packet_24 : decode cX4_packet 24 = .ok (.ireturn, 1) := by decide +kernel
theorem dX4_packet_25 : decode cX4_packet 25 = .ok (.iload_n 2, 1) := by decide +kernel
theorem dX4_packet_26 : decode cX4_packet 26 = .ok (.aload_n 0, 1) := by decide +kernel
theorem dX4_packet_27 : decode cX4_packet 27 = .ok (.iload_n 1, 1) := by decide +kernel
theorem dX4_packet_28 : decode cX4_packet 28 = .ok (.iconst 0, 1) := by decide +kernel
theorem dX4_packet_29 : decode cX4_packet 29 = .ok (.invokevirtual 69, 3) := by decide +kernel
theorem dX4_packet_32 : decode cX4_packet 32 = .ok (.if_icmp .ge 18, 3) := by decide +kernel
theorem dX4_packet_35 : decode cX4_packet 35 = .ok (.aload_n 0, 1) := by decide +kernel
theorem dX4_packet_36 : decode cX4_packet 36 = .ok (.iload_n 1, 1) := by decide +kernel
theorem dX4_packet_37 : decode cX4_packet 37 = .ok (.iconst 3, 1) := by decide +kernel
theorem dX4_packet_38 : decode cX4_packet 38 = .ok (.iconst 3, 1) := by decide +kernel
theorem dX4_packet_39 : decode cX4_packet 39 = .ok (.iload_n 2, 1) := by decide +kernel
theorem dX4_packet_40 : decode cX4_packet 40 = .ok (.imul, 1) := by decide +kernel
theorem dX4_packet_41 : decode cX4_packet 41 = .ok (.iadd, 1) := by decide +kernel
theorem dX4_packet_42 : decode cX4_packet 42 = .ok (.iload_n 3, 1) := by decide +kernel
theorem dX4_packet_43 : decode cX4_packet 43 = .ok (.iadd, 1) := by decide +kernel
theorem dX4_packet_44 : decode cX4_packet 44 = .ok (.invokevirtual 69, 3) := by decide +kernel
theorem dX4_packet_47 : decode cX4_packet 47 = .ok (.goto 5, 3) := by decide +kernel
theorem dX4_packet_50 : decode cX4_packet 50 = .ok (.bipush (-5), 2) := by decide +kernel
theorem dX4_packet_52 : decode cX4_packet 52 = .ok (.ireturn, 1) := by decide +kernel
theorem dX4_next_0 : decode cX4_next 0 = .ok (.iload_n 1, 1) := by decide +kernel
theorem dX4_next_1 : decode cX4_next 1 = .ok (.invokestatic 58, 3) := by decide +kernel
theorem dX4_next_4 : decode cX4_next 4 = .ok (.ifCond .eq 5, 3) := by decide +kernel
theorem dX4_next_7 : decode cX4_next 7 = .ok (.iconst (-1), 1) := by decide +kernel
theorem dX4_next_8 : decode cX4_next 8 = .ok (.ireturn, 1) := by decide +kernel
theorem dX4_next_9 : decode cX4_next 9 = .ok (.aload_n 0, 1) := by decide +kernel
theorem dX4_next_10 : decode cX4_next 10 = .ok (.invokevirtual 45, 3) := by decide +kernel
theorem dX4_next_13 : decode cX4_next 13 = .ok (.aload_n 0, 1) := by decide +kernel
theorem dX4_next_14 : decode cX4_next 14 = .ok (.invokevirtual 119, 3) := by decide +kernel
theorem dX4_next_17 : decode cX4_next 17 = .ok (.pop, 1) := by decide +kernel
theorem dX4_next_18 : decode cX4_next 18 = .ok (.aload_n 0, 1) := by decide +kernel
theorem dX4_next_19 : decode cX4_next 19 = .ok (.invokevirtual 93, 3) := by decide +kernel
theorem dX4_next_22 : decode cX4_next 22 = .ok (.aload_n 0, 1) := by decide +kernel
theorem dX4_next_23 : decode cX4_next 23 = .ok (.getfield 30, 3) := by decide +kernel
theorem dX4_next_26 : decode cX4_next 26 = .ok (.iload_n 1, 1) := by decide +kernel
theorem dX4_next_27 : decode cX4_next 27 = .ok (.iaload, 1) := by decide +kernel
theorem dX4_next_28 : decode cX4_next 28 = .ok (.ireturn, 1) := by decide +kernel
theorem dX4_waits_0 : decode cX4_waits 0 = .ok (.iconst 0, 1) := by decide +kernel
theorem dX4_waits_1 : decode cX4_waits 1 = .ok (.istore_n 3, 1) := by decide +kernel
theorem dX4_waits_2 : decode cX4_waits 2 = .ok (.iconst 0, 1) := by decide +kernel
theorem dX4_waits_3 : decode cX4_waits 3 = .ok (.istore 4, 2) := by decide +kernel
theorem dX4_waits_5 : decode cX4_waits 5 = .ok (.iload 4, 2) := by decide +kernel
theorem dX4_waits_7 : decode cX4_waits 7 = .ok (.aload_n 0, 1) := by decide +kernel
theorem dX4_waits_8 : decode cX4_waits 8 = .ok (.iload_n 1, 1) := by decide +kernel
theorem dX4_waits_9 : decode cX4_waits 9 = .ok (.iconst 0, 1) := by decide +kernel
theorem dX4_waits_10 : decode cX4_waits 10 = .ok (.invokevirtual 69, 3) := by decide +kernel
theorem dX4_waits_13 : decode cX4_waits 13 = .ok (.if_icmp .ge 34, 3) := by decide +kernel
theorem dX4_waits_16 : decode cX4_waits 16 = .ok (.iload_n 3, 1) := by decide +kernel
theorem dX4_waits_17 : decode cX4_waits 17 = .ok (.ifCond .ne 18, 3) := by decide +kernel
theorem dX4_waits_20 : decode cX4_waits 20 = .ok (.aload_n 0, 1) := by decide +kernel
theorem dX4_waits_21 : decode cX4_waits 21 = .ok (.iload_n 1, 1) := by decide +kernel
theorem dX4_waits_22 : decode cX4_waits 22 = .ok (.iconst 3, 1) := by decide +kernel
theorem dX4_waits_23 : decode cX4_waits 23 = .ok (.iconst 3, 1) := by decide +kernel
theorem dX4_waits_24 : decode cX4_waits 24 = .ok (.iload 4, 2) := by decide +kernel
theorem dX4_waits_26 : decode cX4_waits 26 = .ok (.imul, 1) := by decide +kernel
theorem dX4_waits_27 : decode cX4_waits 27 = .ok (.iadd, 1) := by decide +kernel
theorem dX4_waits_28 : decode cX4_waits 28 = .ok (.invokevirtual 69, 3) := by decide +kernel
theorem dX4_waits_31 : decode cX4_waits 31 = .ok (.iload_n 2, 1) := by decide +kernel
theorem dX4_waits_32 : decode cX4_waits 32 = .ok (.if_icmp .ne 7, 3) := by decide +kernel
theorem dX4_waits_35 : decode cX4_waits 35 = .ok (.iconst 1, 1) := by decide +kernel
theorem dX4_waits_36 : decode cX4_waits 36 = .ok (.goto 4, 3) := by decide +kernel
theorem dX4_waits_39 : decode cX4_waits 39 = .ok (.iconst 0, 1) := by decide +kernel
theorem dX4_waits_40 : decode cX4_waits 40 = .ok (.istore_n 3, 1) := by decide +kernel
theorem dX4_waits_41 : decode cX4_waits 41 = .ok (.iinc 4 1, 3) := by decide +kernel
theorem dX4_waits_44 : decode cX4_waits 44 = .ok (.goto (-39), 3) := by decide +kernel
theorem dX4_waits_47 : decode cX4_waits 47 = .ok (.iload_n 3, 1) := by decide +kernel
theorem dX4_waits_48 : decode cX4_waits 48 = .ok (.ireturn, 1) := by decide +kernel
theorem dX4_leavesIn_0 : decode cX4_leavesIn 0 = .ok (.iload_n 1, 1) := by decide +kernel
theorem dX4_leavesIn_1 : decode cX4_leavesIn 1 = .ok (.invokestatic 58, 3) := by decide +kernel
theorem dX4_leavesIn_4 : decode cX4_leavesIn 4 = .ok (.ifCond .eq 5, 3) := by decide +kernel
theorem dX4_leavesIn_7 : decode cX4_leavesIn 7 = .ok (.iconst (-1), 1) := by decide +kernel
theorem dX4_leavesIn_8 : decode cX4_leavesIn 8 = .ok (.ireturn, 1) := by decide +kernel
theorem dX4_leavesIn_9 : decode cX4_leavesIn 9 = .ok (.iload_n 2, 1) := by decide +kernel
theorem dX4_leavesIn_10 : decode cX4_leavesIn 10 = .ok (.iconst 0, 1) := by decide +kernel
theorem dX4_leavesIn_11 : decode cX4_leavesIn 11 = .ok (.aload_n 0, 1) := by decide +kernel
theorem dX4_leavesIn_12 : decode cX4_leavesIn 12 = .ok (.iload_n 1, 1) := by decide +kernel
theorem dX4_leavesIn_13 : decode cX4_leavesIn 13 = .ok (.iconst 0, 1) := by decide +kernel
theorem dX4_leavesIn_14 : decode cX4_leavesIn 14 = .ok (.invokevirtual 69, 3) := by decide +kernel
theorem dX4_leavesIn_17 : decode cX4_leavesIn 17 = .ok (.iconst 1, 1) := by decide +kernel
theorem dX4_leavesIn_18 : decode cX4_leavesIn 18 = .ok (.isub, 1) := by decide +kernel
theorem dX4_leavesIn_19 : decode cX4_leavesIn 19 = .ok (.invokestatic 37, 3) := by decide +kernel
theorem dX4_leavesIn_22 : decode cX4_leavesIn 22 = .ok (.ifCond .ne 6, 3) := by decide +kernel
theorem dX4_leavesIn_25 : decode cX4_leavesIn 25 = .ok (.bipush (-2), 2) := by decide +kernel
theorem dX4_leavesIn_27 : decode cX4_leavesIn 27 = .ok (.ireturn, 1) := by decide +kernel
theorem dX4_leavesIn_28 : decode cX4_leavesIn 28 = .ok (.aload_n 0, 1) := by decide +kernel
theorem dX4_leavesIn_29 : decode cX4_leavesIn 29 = .ok (.iload_n 1, 1) := by decide +kernel
theorem dX4_leavesIn_30 : decode cX4_leavesIn 30 = .ok (.iconst 3, 1) := by decide +kernel
theorem dX4_leavesIn_31 : decode cX4_leavesIn 31 = .ok (.iconst 3, 1) := by decide +kernel
theorem dX4_leavesIn_32 : decode cX4_leavesIn 32 = .ok (.iload_n 2, 1) := by decide +kernel
theorem dX4_leavesIn_33 : decode cX4_leavesIn 33 = .ok (.imul, 1) := by decide +kernel
theorem dX4_leavesIn_34 : decode cX4_leavesIn 34 = .ok (.iadd, 1) := by decide +kernel
theorem dX4_leavesIn_35 : decode cX4_leavesIn 35 = .ok (.invokevirtual 69, 3) := by decide +kernel
theorem dX4_leavesIn_38 : decode cX4_leavesIn 38 = .ok (.istore_n 3, 1) := by decide +kernel
theorem dX4_leavesIn_39 : decode cX4_leavesIn 39 = .ok (.aload_n 0, 1) := by decide +kernel
theorem dX4_leavesIn_40 : decode cX4_leavesIn 40 = .ok (.invokevirtual 45, 3) := by decide +kernel
theorem dX4_leavesIn_43 : decode cX4_leavesIn 43 = .ok (.iconst 0, 1) := by decide +kernel
theorem dX4_leavesIn_44 : decode cX4_leavesIn 44 = .ok (.istore 4, 2) := by decide +kernel
theorem dX4_leavesIn_46 : decode cX4_leavesIn 46 = .ok (.iload 4, 2) := by decide +kernel
theorem dX4_leavesIn_48 : decode cX4_leavesIn 48 = .ok (.sipush 200, 3) := by decide +kernel
theorem dX4_leavesIn_51 : decode cX4_leavesIn 51 = .ok (.if_icmp .ge 23, 3) := by decide +kernel
theorem dX4_leavesIn_54 : decode cX4_leavesIn 54 = .ok (.aload_n 0, 1) := by decide +kernel
theorem dX4_leavesIn_55 : decode cX4_leavesIn 55 = .ok (.iload_n 1, 1) := by decide +kernel
theorem dX4_leavesIn_56 : decode cX4_leavesIn 56 = .ok (.iload_n 3, 1) := by decide +kernel
theorem dX4_leavesIn_57 : decode cX4_leavesIn 57 = .ok (.invokevirtual 132, 3) := by decide +kernel
theorem dX4_leavesIn_60 : decode cX4_leavesIn 60 = .ok (.ifCond .eq 14, 3) := by decide +kernel
theorem dX4_leavesIn_63 : decode cX4_leavesIn 63 = .ok (.aload_n 0, 1) := by decide +kernel
theorem dX4_leavesIn_64 : decode cX4_leavesIn 64 = .ok (.invokevirtual 119, 3) := by decide +kernel
theorem dX4_leavesIn_67 : decode cX4_leavesIn 67 = .ok (.pop, 1) := by decide +kernel
theorem dX4_leavesIn_68 : decode cX4_leavesIn 68 = .ok (.iinc 4 1, 3) := by decide +kernel
theorem dX4_leavesIn_71 : decode cX4_leavesIn 71 = .ok (.goto (-25), 3) := by decide +kernel
theorem dX4_leavesIn_74 : decode cX4_leavesIn 74 = .ok (.aload_n 0, 1) := by decide +kernel
theorem dX4_leavesIn_75 : decode cX4_leavesIn 75 = .ok (.iload_n 1, 1) := by decide +kernel
theorem dX4_leavesIn_76 : decode cX4_leavesIn 76 = .ok (.iload_n 3, 1) := by decide +kernel
theorem dX4_leavesIn_77 : decode cX4_leavesIn 77 = .ok (.invokevirtual 132, 3) := by decide +kernel
theorem dX4_leavesIn_80 : decode cX4_leavesIn 80 = .ok (.istore 5, 2) := by decide +kernel
theorem dX4_leavesIn_82 : decode cX4_leavesIn 82 = .ok (.aload_n 0, 1) := by decide +kernel
theorem dX4_leavesIn_83 : decode cX4_leavesIn 83 = .ok (.invokevirtual 93, 3) := by decide +kernel
theorem dX4_leavesIn_86 : decode cX4_leavesIn 86 = .ok (.iload 5, 2) := by decide +kernel
theorem dX4_leavesIn_88 : decode cX4_leavesIn 88 = .ok (.ifCond .eq 8, 3) := by decide +kernel
theorem dX4_leavesIn_91 : decode cX4_leavesIn 91 = .ok (.bipush (-5), 2) := by decide +kernel
theorem dX4_leavesIn_93 : decode cX4_leavesIn 93 = .ok (.goto 5, 3) := by decide +kernel
theorem dX4_leavesIn_96 : decode cX4_leavesIn 96 = .ok (.iload 4, 2) := by decide +kernel
theorem dX4_leavesIn_98 : decode cX4_leavesIn 98 = .ok (.ireturn, 1) := by decide +kernel
theorem dX4_wouldSend_0 : decode cX4_wouldSend 0 = .ok (.iload_n 1, 1) := by decide +kernel
theorem dX4_wouldSend_1 : decode cX4_wouldSend 1 = .ok (.iconst 1, 1) := by decide +kernel
theorem dX4_wouldSend_2 : decode cX4_wouldSend 2 = .ok (.bipush 50, 2) := by decide +kernel
theorem dX4_wouldSend_4 : decode cX4_wouldSend 4 = .ok (.invokestatic 37, 3) := by decide +kernel
theorem dX4_wouldSend_7 : decode cX4_wouldSend 7 = .ok (.ifCond .eq 12, 3) := by decide +kernel
theorem dX4_wouldSend_10 : decode cX4_wouldSend 10 = .ok (.iload_n 2, 1) := by decide +kernel
theorem dX4_wouldSend_11 : decode cX4_wouldSend 11 = .ok (.iconst 0, 1) := by decide +kernel
theorem dX4_wouldSend_12 : decode cX4_wouldSend 12 = .ok (.iconst 1, 1) := by decide +kernel
theorem dX4_wouldSend_13 : decode cX4_wouldSend 13 = .ok (.invokestatic 37, 3) := by decide +kernel
theorem dX4_wouldSend_16 : decode cX4_wouldSend 16 = .ok (.ifCond .ne 6, 3) := by decide +kernel
theorem dX4_wouldSend_19 : decode cX4_wouldSend 19 = .ok (.bipush (-2), 2) := by decide +kernel
theorem dX4_wouldSend_21 : decode cX4_wouldSend 21 = .ok (.ireturn, 1) := by decide +kernel
theorem dX4_wouldSend_22 : decode cX4_wouldSend 22 = .ok (.aload_n 0, 1) := by decide +kernel
theorem dX4_wouldSend_23 : decode cX4_wouldSend 23 = .ok (.invokevirtual 45, 3) := by decide +kernel
theorem dX4_wouldSend_26 : decode cX4_wouldSend 26 = .ok (.aload_n 0, 1) := by decide +kernel
theorem dX4_wouldSend_27 : decode cX4_wouldSend 27 = .ok (.getfield 7, 3) := by decide +kernel
theorem dX4_wouldSend_30 : decode cX4_wouldSend 30 = .ok (.iconst 1, 1) := by decide +kernel
theorem dX4_wouldSend_31 : decode cX4_wouldSend 31 = .ok (.iload_n 2, 1) := by decide +kernel
theorem dX4_wouldSend_32 : decode cX4_wouldSend 32 = .ok (.iastore, 1) := by decide +kernel
theorem dX4_wouldSend_33 : decode cX4_wouldSend 33 = .ok (.aload_n 0, 1) := by decide +kernel
theorem dX4_wouldSend_34 : decode cX4_wouldSend 34 = .ok (.iload_n 1, 1) := by decide +kernel
theorem dX4_wouldSend_35 : decode cX4_wouldSend 35 = .ok (.invokevirtual 123, 3) := by decide +kernel
theorem dX4_wouldSend_38 : decode cX4_wouldSend 38 = .ok (.istore_n 3, 1) := by decide +kernel
theorem dX4_wouldSend_39 : decode cX4_wouldSend 39 = .ok (.aload_n 0, 1) := by decide +kernel
theorem dX4_wouldSend_40 : decode cX4_wouldSend 40 = .ok (.invokevirtual 93, 3) := by decide +kernel
theorem dX4_wouldSend_43 : decode cX4_wouldSend 43 = .ok (.iload_n 3, 1) := by decide +kernel
theorem dX4_wouldSend_44 : decode cX4_wouldSend 44 = .ok (.ireturn, 1) := by decide +kernel
theorem dX4_over_0 : decode cX4_over 0 = .ok (.iconst 0, 1) := by decide +kernel
theorem dX4_over_1 : decode cX4_over 1 = .ok (.istore_n 3, 1) := by decide +kernel
theorem dX4_over_2 : decode cX4_over 2 = .ok (.iconst 0, 1) := by decide +kernel
theorem dX4_over_3 : decode cX4_over 3 = .ok (.istore 4, 2) := by decide +kernel
theorem dX4_over_5 : decode cX4_over 5 = .ok (.iload 4, 2) := by decide +kernel
theorem dX4_over_7 : decode cX4_over 7 = .ok (.iconst 4, 1) := by decide +kernel
theorem dX4_over_8 : decode cX4_over 8 = .ok (.if_icmp .ge 33, 3) := by decide +kernel
theorem dX4_over_11 : decode cX4_over 11 = .ok (.iload_n 3, 1) := by decide +kernel
theorem dX4_over_12 : decode cX4_over 12 = .ok (.iload_n 2, 1) := by decide +kernel
theorem dX4_over_13 : decode cX4_over 13 = .ok (.ifCond .eq 13, 3) := by decide +kernel
theorem dX4_over_16 : decode cX4_over 16 = .ok (.aload_n 0, 1) := by decide +kernel
theorem dX4_over_17 : decode cX4_over 17 = .ok (.iload 4, 2) := by decide +kernel
theorem dX4_over_19 : decode cX4_over 19 = .ok (.iload_n 1, 1) := by decide +kernel
theorem dX4_over_20 : decode cX4_over 20 = .ok (.invokevirtual 69, 3) := by decide +kernel
theorem dX4_over_23 : decode cX4_over 23 = .ok (.goto 10, 3) := by decide +kernel
theorem dX4_over_26 : decode cX4_over 26 = .ok (.aload_n 0, 1) := by decide +kernel
theorem dX4_over_27 : decode cX4_over 27 = .ok (.iload 4, 2) := by decide +kernel
theorem dX4_over_29 : decode cX4_over 29 = .ok (.iload_n 1, 1) := by decide +kernel
theorem dX4_over_30 : decode cX4_over 30 = .ok (.invokevirtual 62, 3) := by decide +kernel
theorem dX4_over_33 : decode cX4_over 33 = .ok (.iadd, 1) := by decide +kernel
theorem dX4_over_34 : decode cX4_over 34 = .ok (.istore_n 3, 1) := by decide +kernel
theorem dX4_over_35 : decode cX4_over 35 = .ok (.iinc 4 1, 3) := by decide +kernel
theorem dX4_over_38 : decode cX4_over 38 = .ok (.goto (-33), 3) := by decide +kernel
theorem dX4_over_41 : decode cX4_over 41 = .ok (.iload_n 3, 1) := by decide +kernel
theorem dX4_over_42 : decode cX4_over 42 = .ok (.ireturn, 1) := by decide +kernel
theorem dX4_stuckOnes_0 : decode cX4_stuckOnes 0 = .ok (.iconst 0, 1) := by decide +kernel
theorem dX4_stuckOnes_1 : decode cX4_stuckOnes 1 = .ok (.istore_n 1, 1) := by decide +kernel
theorem dX4_stuckOnes_2 : decode cX4_stuckOnes 2 = .ok (.iconst 0, 1) := by decide +kernel
theorem dX4_stuckOnes_3 : decode cX4_stuckOnes 3 = .ok (.istore_n 2, 1) := by decide +kernel
theorem dX4_stuckOnes_4 : decode cX4_stuckOnes 4 = .ok (.iload_n 2, 1) := by decide +kernel
theorem dX4_stuckOnes_5 : decode cX4_stuckOnes 5 = .ok (.iconst 4, 1) := by decide +kernel
theorem dX4_stuckOnes_6 : decode cX4_stuckOnes 6 = .ok (.if_icmp .ge 25, 3) := by decide +kernel
theorem dX4_stuckOnes_9 : decode cX4_stuckOnes 9 = .ok (.iload_n 1, 1) := by decide +kernel
theorem dX4_stuckOnes_10 : decode cX4_stuckOnes 10 = .ok (.aload_n 0, 1) := by decide +kernel
theorem dX4_stuckOnes_11 : decode cX4_stuckOnes 11 = .ok (.iload_n 2, 1) := by decide +kernel
theorem dX4_stuckOnes_12 : decode cX4_stuckOnes 12 = .ok (.invokevirtual 129, 3) := by decide +kernel
theorem dX4_stuckOnes_15 : decode cX4_stuckOnes 15 = .ok (.ifCond .eq 7, 3) := by decide +kernel
theorem dX4_stuckOnes_18 : decode cX4_stuckOnes 18 = .ok (.iconst 1, 1) := by decide +kernel
theorem dX4_stuckOnes_19 : decode cX4_stuckOnes 19 = .ok (.goto 4, 3) := by decide +kernel
theorem dX4_stuckOnes_22 : decode cX4_stuckOnes 22 = .ok (.iconst 0, 1) := by decide +kernel
theorem dX4_stuckOnes_23 : decode cX4_stuckOnes 23 = .ok (.iadd, 1) := by decide +kernel
theorem dX4_stuckOnes_24 : decode cX4_stuckOnes 24 = .ok (.istore_n 1, 1) := by decide +kernel
theorem dX4_stuckOnes_25 : decode cX4_stuckOnes 25 = .ok (.iinc 2 1, 3) := by decide +kernel
theorem dX4_stuckOnes_28 : decode cX4_stuckOnes 28 = .ok (.goto (-24), 3) := by decide +kernel
theorem dX4_stuckOnes_31 : decode cX4_stuckOnes 31 = .ok (.iload_n 1, 1) := by decide +kernel
theorem dX4_stuckOnes_32 : decode cX4_stuckOnes 32 = .ok (.ireturn, 1) := by decide +kernel
theorem dX4_count_0 : decode cX4_count 0 = .ok (.iload_n 1, 1) := by decide +kernel
theorem dX4_count_1 : decode cX4_count 1 = .ok (.tableswitch 155 0 12 #[67, 74, 81, 88, 95, 103, 111, 119, 126, 133, 140, 145, 150], 67) := by decide +kernel
theorem dX4_count_68 : decode cX4_count 68 = .ok (.aload_n 0, 1) := by decide +kernel
theorem dX4_count_69 : decode cX4_count 69 = .ok (.getfield 7, 3) := by decide +kernel
theorem dX4_count_72 : decode cX4_count 72 = .ok (.iconst 0, 1) := by decide +kernel
theorem dX4_count_73 : decode cX4_count 73 = .ok (.iaload, 1) := by decide +kernel
theorem dX4_count_74 : decode cX4_count 74 = .ok (.ireturn, 1) := by decide +kernel
theorem dX4_count_75 : decode cX4_count 75 = .ok (.aload_n 0, 1) := by decide +kernel
theorem dX4_count_76 : decode cX4_count 76 = .ok (.getfield 7, 3) := by decide +kernel
theorem dX4_count_79 : decode cX4_count 79 = .ok (.iconst 3, 1) := by decide +kernel
theorem dX4_count_80 : decode cX4_count 80 = .ok (.iaload, 1) := by decide +kernel
theorem dX4_count_81 : decode cX4_count 81 = .ok (.ireturn, 1) := by decide +kernel
theorem dX4_count_82 : decode cX4_count 82 = .ok (.aload_n 0, 1) := by decide +kernel
theorem dX4_count_83 : decode cX4_count 83 = .ok (.iconst 0, 1) := by decide +kernel
theorem dX4_count_84 : decode cX4_count 84 = .ok (.iconst 1, 1) := by decide +kernel
theorem dX4_count_85 : decode cX4_count 85 = .ok (.invokevirtual 136, 3) := by decide +kernel
theorem dX4_count_88 : decode cX4_count 88 = .ok (.ireturn, 1) := by decide +kernel
theorem dX4_count_89 : decode cX4_count 89 = .ok (.aload_n 0, 1) := by decide +kernel
theorem dX4_count_90 : decode cX4_count 90 = .ok (.iconst 5, 1) := by decide +kernel
theorem dX4_count_91 : decode cX4_count 91 = .ok (.iconst 0, 1) := by decide +kernel
theorem dX4_count_92 : decode cX4_count 92 = .ok (.invokevirtual 136, 3) := by decide +kernel
theorem dX4_count_95 : decode cX4_count 95 = .ok (.ireturn, 1) := by decide +kernel
theorem dX4_count_96 : decode cX4_count 96 = .ok (.aload_n 0, 1) := by decide +kernel
theorem dX4_count_97 : decode cX4_count 97 = .ok (.bipush 6, 2) := by decide +kernel
theorem dX4_count_99 : decode cX4_count 99 = .ok (.iconst 0, 1) := by decide +kernel
theorem dX4_count_100 : decode cX4_count 100 = .ok (.invokevirtual 136, 3) := by decide +kernel
theorem dX4_count_103 : decode cX4_count 103 = .ok (.ireturn, 1) := by decide +kernel
theorem dX4_count_104 : decode cX4_count 104 = .ok (.aload_n 0, 1) := by decide +kernel
theorem dX4_count_105 : decode cX4_count 105 = .ok (.bipush 7, 2) := by decide +kernel
theorem dX4_count_107 : decode cX4_count 107 = .ok (.iconst 0, 1) := by decide +kernel
theorem dX4_count_108 : decode cX4_count 108 = .ok (.invokevirtual 136, 3) := by decide +kernel
theorem dX4_count_111 : decode cX4_count 111 = .ok (.ireturn, 1) := by decide +kernel
theorem dX4_count_112 : decode cX4_count 112 = .ok (.aload_n 0, 1) := by decide +kernel
theorem dX4_count_113 : decode cX4_count 113 = .ok (.bipush 9, 2) := by decide +kernel
theorem dX4_count_115 : decode cX4_count 115 = .ok (.iconst 0, 1) := by decide +kernel
theorem dX4_count_116 : decode cX4_count 116 = .ok (.invokevirtual 136, 3) := by decide +kernel
theorem dX4_count_119 : decode cX4_count 119 = .ok (.ireturn, 1) := by decide +kernel
theorem dX4_count_120 : decode cX4_count 120 = .ok (.aload_n 0, 1) := by decide +kernel
theorem dX4_count_121 : decode cX4_count 121 = .ok (.iconst 1, 1) := by decide +kernel
theorem dX4_count_122 : decode cX4_count 122 = .ok (.iconst 1, 1) := by decide +kernel
theorem dX4_count_123 : decode cX4_count 123 = .ok (.invokevirtual 136, 3) := by decide +kernel
theorem dX4_count_126 : decode cX4_count 126 = .ok (.ireturn, 1) := by decide +kernel
theorem dX4_count_127 : decode cX4_count 127 = .ok (.aload_n 0, 1) := by decide +kernel
theorem dX4_count_128 : decode cX4_count 128 = .ok (.getfield 7, 3) := by decide +kernel
theorem dX4_count_131 : decode cX4_count 131 = .ok (.iconst 1, 1) := by decide +kernel
theorem dX4_count_132 : decode cX4_count 132 = .ok (.iaload, 1) := by decide +kernel
theorem dX4_count_133 : decode cX4_count 133 = .ok (.ireturn, 1) := by decide +kernel
theorem dX4_count_134 : decode cX4_count 134 = .ok (.aload_n 0, 1) := by decide +kernel
theorem dX4_count_135 : decode cX4_count 135 = .ok (.getfield 7, 3) := by decide +kernel
theorem dX4_count_138 : decode cX4_count 138 = .ok (.iconst 2, 1) := by decide +kernel
theorem dX4_count_139 : decode cX4_count 139 = .ok (.iaload, 1) := by decide +kernel
theorem dX4_count_140 : decode cX4_count 140 = .ok (.ireturn, 1) := by decide +kernel
theorem dX4_count_141 : decode cX4_count 141 = .ok (.aload_n 0, 1) := by decide +kernel
theorem dX4_count_142 : decode cX4_count 142 = .ok (.invokevirtual 140, 3) := by decide +kernel
theorem dX4_count_145 : decode cX4_count 145 = .ok (.ireturn, 1) := by decide +kernel
theorem dX4_count_146 : decode cX4_count 146 = .ok (.aload_n 0, 1) := by decide +kernel
theorem dX4_count_147 : decode cX4_count 147 = .ok (.getfield 41, 3) := by decide +kernel
theorem dX4_count_150 : decode cX4_count 150 = .ok (.ireturn, 1) := by decide +kernel
theorem dX4_count_151 : decode cX4_count 151 = .ok (.aload_n 0, 1) := by decide +kernel
theorem dX4_count_152 : decode cX4_count 152 = .ok (.getfield 79, 3) := by decide +kernel
theorem dX4_count_155 : decode cX4_count 155 = .ok (.ireturn, 1) := by decide +kernel
theorem dX4_count_156 : decode cX4_count 156 = .ok (.bipush (-2), 2) := by decide +kernel
theorem dX4_count_158 : decode cX4_count 158 = .ok (.ireturn, 1) := by decide +kernel
end
section
theorem dL_law_0 : decode cL_law 0 = .ok (.new 7, 3) := by decide +kernel
theorem dL_law_3 : decode cL_law 3 = .ok (.dup, 1) := by decide +kernel
theorem dL_law_4 : decode cL_law 4 = .ok (.invokespecial 9, 3) := by decide +kernel
theorem dL_law_7 : decode cL_law 7 = .ok (.astore_n 1, 1) := by decide +kernel
theorem dL_law_8 : decode cL_law 8 = .ok (.new 10, 3) := by decide +kernel
theorem dL_law_11 : decode cL_law 11 = .ok (.dup, 1) := by decide +kernel
theorem dL_law_12 : decode cL_law 12 = .ok (.invokespecial 12, 3) := by decide +kernel
theorem dL_law_15 : decode cL_law 15 = .ok (.astore_n 2, 1) := by decide +kernel
theorem dL_law_16 : decode cL_law 16 = .ok (.iconst 0, 1) := by decide +kernel
theorem dL_law_17 : decode cL_law 17 = .ok (.istore_n 3, 1) := by decide +kernel
theorem dL_law_18 : decode cL_law 18 = .ok (.iload_n 3, 1) := by decide +kernel
theorem dL_law_19 : decode cL_law 19 = .ok (.aload_n 0, 1) := by decide +kernel
theorem dL_law_20 : decode cL_law 20 = .ok (.arraylength, 1) := by decide +kernel
theorem dL_law_21 : decode cL_law 21 = .ok (.iconst 4, 1) := by decide +kernel
theorem dL_law_22 : decode cL_law 22 = .ok (.isub, 1) := by decide +kernel
theorem dL_law_23 : decode cL_law 23 = .ok (.if_icmp .gt 697, 3) := by decide +kernel
theorem dL_law_26 : decode cL_law 26 = .ok (.aload_n 0, 1) := by decide +kernel
theorem dL_law_27 : decode cL_law 27 = .ok (.iload_n 3, 1) := by decide +kernel
theorem dL_law_28 : decode cL_law 28 = .ok (.iaload, 1) := by decide +kernel
theorem dL_law_29 : decode cL_law 29 = .ok (.bipush 31, 2) := by decide +kernel
theorem dL_law_31 : decode cL_law 31 = .ok (.iand, 1) := by decide +kernel
theorem dL_law_32 : decode cL_law 32 = .ok (.tableswitch 682 0 21 #[104, 147, 180, 213, 226, 249, 272, 295, 318, 343, 356, 369, 382, 395, 428, 461, 494, 527, 570, 593, 626, 659], 104) := by decide +kernel
theorem dL_law_136 : decode cL_law 136 = .ok (.aload_n 1, 1) := by decide +kernel
theorem dL_law_137 : decode cL_law 137 = .ok (.aload_n 0, 1) := by decide +kernel
theorem dL_law_138 : decode cL_law 138 = .ok (.iload_n 3, 1) := by decide +kernel
theorem dL_law_139 : decode cL_law 139 = .ok (.iconst 1, 1) := by decide +kernel
theorem dL_law_140 : decode cL_law 140 = .ok (.iadd, 1) := by decide +kernel
theorem dL_law_141 : decode cL_law 141 = .ok (.iaload, 1) := by decide +kernel
theorem dL_law_142 : decode cL_law 142 = .ok (.aload_n 0, 1) := by decide +kernel
theorem dL_law_143 : decode cL_law 143 = .ok (.iload_n 3, 1) := by decide +kernel
theorem dL_law_144 : decode cL_law 144 = .ok (.iconst 2, 1) := by decide +kernel
theorem dL_law_145 : decode cL_law 145 = .ok (.iadd, 1) := by decide +kernel
theorem dL_law_146 : decode cL_law 146 = .ok (.iaload, 1) := by decide +kernel
theorem dL_law_147 : decode cL_law 147 = .ok (.aload_n 0, 1) := by decide +kernel
theorem dL_law_148 : decode cL_law 148 = .ok (.iload_n 3, 1) := by decide +kernel
theorem dL_law_149 : decode cL_law 149 = .ok (.iconst 3, 1) := by decide +kernel
theorem dL_law_150 : decode cL_law 150 = .ok (.iadd, 1) := by decide +kernel
theorem dL_law_151 : decode cL_law 151 = .ok (.iaload, 1) := by decide +kernel
theorem dL_law_152 : decode cL_law 152 = .ok (.invokevirtual 13, 3) := by decide +kernel
theorem dL_law_155 : decode cL_law 155 = .ok (.aload_n 2, 1) := by decide +kernel
theorem dL_law_156 : decode cL_law 156 = .ok (.aload_n 0, 1) := by decide +kernel
theorem dL_law_157 : decode cL_law 157 = .ok (.iload_n 3, 1) := by decide +kernel
theorem dL_law_158 : decode cL_law 158 = .ok (.iconst 1, 1) := by decide +kernel
theorem dL_law_159 : decode cL_law 159 = .ok (.iadd, 1) := by decide +kernel
theorem dL_law_160 : decode cL_law 160 = .ok (.iaload, 1) := by decide +kernel
theorem dL_law_161 : decode cL_law 161 = .ok (.aload_n 0, 1) := by decide +kernel
theorem dL_law_162 : decode cL_law 162 = .ok (.iload_n 3, 1) := by decide +kernel
theorem dL_law_163 : decode cL_law 163 = .ok (.iconst 2, 1) := by decide +kernel
theorem dL_law_164 : decode cL_law 164 = .ok (.iadd, 1) := by decide +kernel
theorem dL_law_165 : decode cL_law 165 = .ok (.iaload, 1) := by decide +kernel
theorem dL_law_166 : decode cL_law 166 = .ok (.aload_n 0, 1) := by decide +kernel
theorem dL_law_167 : decode cL_law 167 = .ok (.iload_n 3, 1) := by decide +kernel
theorem dL_law_168 : decode cL_law 168 = .ok (.iconst 3, 1) := by decide +kernel
theorem dL_law_169 : decode cL_law 169 = .ok (.iadd, 1) := by decide +kernel
theorem dL_law_170 : decode cL_law 170 = .ok (.iaload, 1) := by decide +kernel
theorem dL_law_171 : decode cL_law 171 = .ok (.invokevirtual 17, 3) := by decide +kernel
theorem dL_law_174 : decode cL_law 174 = .ok (.if_icmp .eq 540, 3) := by decide +kernel
theorem dL_law_177 : decode cL_law 177 = .ok (.iconst 0, 1) := by decide +kernel
theorem dL_law_178 : decode cL_law 178 = .ok (.ireturn, 1) := by decide +kernel
theorem dL_law_179 : decode cL_law 179 = .ok (.aload_n 1, 1) := by decide +kernel
theorem dL_law_180 : decode cL_law 180 = .ok (.aload_n 0, 1) := by decide +kernel
theorem dL_law_181 : decode cL_law 181 = .ok (.iload_n 3, 1) := by decide +kernel
theorem dL_law_182 : decode cL_law 182 = .ok (.iconst 1, 1) := by decide +kernel
theorem dL_law_183 : decode cL_law 183 = .ok (.iadd, 1) := by decide +kernel
theorem dL_law_184 : decode cL_law 184 = .ok (.iaload, 1) := by decide +kernel
theorem dL_law_185 : decode cL_law 185 = .ok (.aload_n 0, 1) := by decide +kernel
theorem dL_law_186 : decode cL_law 186 = .ok (.iload_n 3, 1) := by decide +kernel
theorem dL_law_187 : decode cL_law 187 = .ok (.iconst 2, 1) := by decide +kernel
theorem dL_law_188 : decode cL_law 188 = .ok (.iadd, 1) := by decide +kernel
theorem dL_law_189 : decode cL_law 189 = .ok (.iaload, 1) := by decide +kernel
theorem dL_law_190 : decode cL_law 190 = .ok (.invokevirtual 18, 3) := by decide +kernel
theorem dL_law_193 : decode cL_law 193 = .ok (.aload_n 2, 1) := by decide +kernel
theorem dL_law_194 : decode cL_law 194 = .ok (.aload_n 0, 1) := by decide +kernel
theorem dL_law_195 : decode cL_law 195 = .ok (.iload_n 3, 1) := by decide +kernel
theorem dL_law_196 : decode cL_law 196 = .ok (.iconst 1, 1) := by decide +kernel
theorem dL_law_197 : decode cL_law 197 = .ok (.iadd, 1) := by decide +kernel
theorem dL_law_198 : decode cL_law 198 = .ok (.iaload, 1) := by decide +kernel
theorem dL_law_199 : decode cL_law 199 = .ok (.aload_n 0, 1) := by decide +kernel
theorem dL_law_200 : decode cL_law 200 = .ok (.iload_n 3, 1) := by decide +kernel
theorem dL_law_201 : decode cL_law 201 = .ok (.iconst 2, 1) := by decide +kernel
theorem dL_law_202 : decode cL_law 202 = .ok (.iadd, 1) := by decide +kernel
theorem dL_law_203 : decode cL_law 203 = .ok (.iaload, 1) := by decide +kernel
theorem dL_law_204 : decode cL_law 204 = .ok (.invokevirtual 22, 3) := by decide +kernel
theorem dL_law_207 : decode cL_law 207 = .ok (.if_icmp .eq 507, 3) := by decide +kernel
theorem dL_law_210 : decode cL_law 210 = .ok (.iconst 0, 1) := by decide +kernel
theorem dL_law_211 : decode cL_law 211 = .ok (.ireturn, 1) := by decide +kernel
theorem dL_law_212 : decode cL_law 212 = .ok (.aload_n 1, 1) := by decide +kernel
theorem dL_law_213 : decode cL_law 213 = .ok (.aload_n 0, 1) := by decide +kernel
theorem dL_law_214 : decode cL_law 214 = .ok (.iload_n 3, 1) := by decide +kernel
theorem dL_law_215 : decode cL_law 215 = .ok (.iconst 1, 1) := by decide +kernel
theorem dL_law_216 : decode cL_law 216 = .ok (.iadd, 1) := by decide +kernel
theorem dL_law_217 : decode cL_law 217 = .ok (.iaload, 1) := by decide +kernel
theorem dL_law_218 : decode cL_law 218 = .ok (.aload_n 0, 1) := by decide +kernel
theorem dL_law_219 : decode cL_law 219 = .ok (.iload_n 3, 1) := by decide +kernel
theorem dL_law_220 : decode cL_law 220 = .ok (.iconst 2, 1) := by decide +kernel
theorem dL_law_221 : decode cL_law 221 = .ok (.iadd, 1) := by decide +kernel
theorem dL_law_222 : decode cL_law 222 = .ok (.iaload, 1) := by decide +kernel
theorem dL_law_223 : decode cL_law 223 = .ok (.invokevirtual 23, 3) := by decide +kernel
theorem dL_law_226 : decode cL_law 226 = .ok (.aload_n 2, 1) := by decide +kernel
theorem dL_law_227 : decode cL_law 227 = .ok (.aload_n 0, 1) := by decide +kernel
theorem dL_law_228 : decode cL_law 228 = .ok (.iload_n 3, 1) := by decide +kernel
theorem dL_law_229 : decode cL_law 229 = .ok (.iconst 1, 1) := by decide +kernel
theorem dL_law_230 : decode cL_law 230 = .ok (.iadd, 1) := by decide +kernel
theorem dL_law_231 : decode cL_law 231 = .ok (.iaload, 1) := by decide +kernel
theorem dL_law_232 : decode cL_law 232 = .ok (.aload_n 0, 1) := by decide +kernel
theorem dL_law_233 : decode cL_law 233 = .ok (.iload_n 3, 1) := by decide +kernel
theorem dL_law_234 : decode cL_law 234 = .ok (.iconst 2, 1) := by decide +kernel
theorem dL_law_235 : decode cL_law 235 = .ok (.iadd, 1) := by decide +kernel
theorem dL_law_236 : decode cL_law 236 = .ok (.iaload, 1) := by decide +kernel
theorem dL_law_237 : decode cL_law 237 = .ok (.invokevirtual 26, 3) := by decide +kernel
theorem dL_law_240 : decode cL_law 240 = .ok (.if_icmp .eq 474, 3) := by decide +kernel
theorem dL_law_243 : decode cL_law 243 = .ok (.iconst 0, 1) := by decide +kernel
theorem dL_law_244 : decode cL_law 244 = .ok (.ireturn, 1) := by decide +kernel
theorem dL_law_245 : decode cL_law 245 = .ok (.aload_n 1, 1) := by decide +kernel
theorem dL_law_246 : decode cL_law 246 = .ok (.invokevirtual 27, 3) := by decide +kernel
theorem dL_law_249 : decode cL_law 249 = .ok (.aload_n 2, 1) := by decide +kernel
theorem dL_law_250 : decode cL_law 250 = .ok (.invokevirtual 31, 3) := by decide +kernel
theorem dL_law_253 : decode cL_law 253 = .ok (.if_icmp .eq 461, 3) := by decide +kernel
theorem dL_law_256 : decode cL_law 256 = .ok (.iconst 0, 1) := by decide +kernel
theorem dL_law_257 : decode cL_law 257 = .ok (.ireturn, 1) := by decide +kernel
theorem dL_law_258 : decode cL_law 258 = .ok (.aload_n 1, 1) := by decide +kernel
theorem dL_law_259 : decode cL_law 259 = .ok (.aload_n 0, 1) := by decide +kernel
theorem dL_law_260 : decode cL_law 260 = .ok (.iload_n 3, 1) := by decide +kernel
theorem dL_law_261 : decode cL_law 261 = .ok (.iconst 1, 1) := by decide +kernel
theorem dL_law_262 : decode cL_law 262 = .ok (.iadd, 1) := by decide +kernel
theorem dL_law_263 : decode cL_law 263 = .ok (.iaload, 1) := by decide +kernel
theorem dL_law_264 : decode cL_law 264 = .ok (.invokevirtual 32, 3) := by decide +kernel
theorem dL_law_267 : decode cL_law 267 = .ok (.aload_n 2, 1) := by decide +kernel
theorem dL_law_268 : decode cL_law 268 = .ok (.aload_n 0, 1) := by decide +kernel
theorem dL_law_269 : decode cL_law 269 = .ok (.iload_n 3, 1) := by decide +kernel
theorem dL_law_270 : decode cL_law 270 = .ok (.iconst 1, 1) := by decide +kernel
theorem dL_law_271 : decode cL_law 271 = .ok (.iadd, 1) := by decide +kernel
theorem dL_law_272 : decode cL_law 272 = .ok (.iaload, 1) := by decide +kernel
theorem dL_law_273 : decode cL_law 273 = .ok (.invokevirtual 36, 3) := by decide +kernel
theorem dL_law_276 : decode cL_law 276 = .ok (.if_icmp .eq 438, 3) := by decide +kernel
theorem dL_law_279 : decode cL_law 279 = .ok (.iconst 0, 1) := by decide +kernel
theorem dL_law_280 : decode cL_law 280 = .ok (.ireturn, 1) := by decide +kernel
theorem dL_law_281 : decode cL_law 281 = .ok (.aload_n 1, 1) := by decide +kernel
theorem dL_law_282 : decode cL_law 282 = .ok (.aload_n 0, 1) := by decide +kernel
theorem dL_law_283 : decode cL_law 283 = .ok (.iload_n 3, 1) := by decide +kernel
theorem dL_law_284 : decode cL_law 284 = .ok (.iconst 1, 1) := by decide +kernel
theorem dL_law_285 : decode cL_law 285 = .ok (.iadd, 1) := by decide +kernel
theorem dL_law_286 : decode cL_law 286 = .ok (.iaload, 1) := by decide +kernel
theorem dL_law_287 : decode cL_law 287 = .ok (.invokevirtual 37, 3) := by decide +kernel
theorem dL_law_290 : decode cL_law 290 = .ok (.aload_n 2, 1) := by decide +kernel
theorem dL_law_291 : decode cL_law 291 = .ok (.aload_n 0, 1) := by decide +kernel
theorem dL_law_292 : decode cL_law 292 = .ok (.iload_n 3, 1) := by decide +kernel
theorem dL_law_293 : decode cL_law 293 = .ok (.iconst 1, 1) := by decide +kernel
theorem dL_law_294 : decode cL_law 294 = .ok (.iadd, 1) := by decide +kernel
theorem dL_law_295 : decode cL_law 295 = .ok (.iaload, 1) := by decide +kernel
theorem dL_law_296 : decode cL_law 296 = .ok (.invokevirtual 40, 3) := by decide +kernel
theorem dL_law_299 : decode cL_law 299 = .ok (.if_icmp .eq 415, 3) := by decide +kernel
theorem dL_law_302 : decode cL_law 302 = .ok (.iconst 0, 1) := by decide +kernel
theorem dL_law_303 : decode cL_law 303 = .ok (.ireturn, 1) := by decide +kernel
theorem dL_law_304 : decode cL_law 304 = .ok (.aload_n 1, 1) := by decide +kernel
theorem dL_law_305 : decode cL_law 305 = .ok (.aload_n 0, 1) := by decide +kernel
theorem dL_law_306 : decode cL_law 306 = .ok (.iload_n 3, 1) := by decide +kernel
theorem dL_law_307 : decode cL_law 307 = .ok (.iconst 1, 1) := by decide +kernel
theorem dL_law_308 : decode cL_law 308 = .ok (.iadd, 1) := by decide +kernel
theorem dL_law_309 : decode cL_law 309 = .ok (.iaload, 1) := by decide +kernel
theorem dL_law_310 : decode cL_law 310 = .ok (.invokevirtual 41, 3) := by decide +kernel
theorem dL_law_313 : decode cL_law 313 = .ok (.aload_n 2, 1) := by decide +kernel
theorem dL_law_314 : decode cL_law 314 = .ok (.aload_n 0, 1) := by decide +kernel
theorem dL_law_315 : decode cL_law 315 = .ok (.iload_n 3, 1) := by decide +kernel
theorem dL_law_316 : decode cL_law 316 = .ok (.iconst 1, 1) := by decide +kernel
theorem dL_law_317 : decode cL_law 317 = .ok (.iadd, 1) := by decide +kernel
theorem dL_law_318 : decode cL_law 318 = .ok (.iaload, 1) := by decide +kernel
theorem dL_law_319 : decode cL_law 319 = .ok (.invokevirtual 44, 3) := by decide +kernel
theorem dL_law_322 : decode cL_law 322 = .ok (.if_icmp .eq 392, 3) := by decide +kernel
theorem dL_law_325 : decode cL_law 325 = .ok (.iconst 0, 1) := by decide +kernel
theorem dL_law_326 : decode cL_law 326 = .ok (.ireturn, 1) := by decide +kernel
theorem dL_law_327 : decode cL_law 327 = .ok (.aload_n 1, 1) := by decide +kernel
theorem dL_law_328 : decode cL_law 328 = .ok (.aload_n 0, 1) := by decide +kernel
theorem dL_law_329 : decode cL_law 329 = .ok (.iload_n 3, 1) := by decide +kernel
theorem dL_law_330 : decode cL_law 330 = .ok (.iconst 1, 1) := by decide +kernel
theorem dL_law_331 : decode cL_law 331 = .ok (.iadd, 1) := by decide +kernel
theorem dL_law_332 : decode cL_law 332 = .ok (.iaload, 1) := by decide +kernel
theorem dL_law_333 : decode cL_law 333 = .ok (.invokevirtual 45, 3) := by decide +kernel
theorem dL_law_336 : decode cL_law 336 = .ok (.aload_n 2, 1) := by decide +kernel
theorem dL_law_337 : decode cL_law 337 = .ok (.aload_n 0, 1) := by decide +kernel
theorem dL_law_338 : decode cL_law 338 = .ok (.iload_n 3, 1) := by decide +kernel
theorem dL_law_339 : decode cL_law 339 = .ok (.iconst 1, 1) := by decide +kernel
theorem dL_law_340 : decode cL_law 340 = .ok (.iadd, 1) := by decide +kernel
theorem dL_law_341 : decode cL_law 341 = .ok (.iaload, 1) := by decide +kernel
theorem dL_law_342 : decode cL_law 342 = .ok (.invokevirtual 48, 3) := by decide +kernel
theorem dL_law_345 : decode cL_law 345 = .ok (.if_icmp .eq 369, 3) := by decide +kernel
theorem dL_law_348 : decode cL_law 348 = .ok (.iconst 0, 1) := by decide +kernel
theorem dL_law_349 : decode cL_law 349 = .ok (.ireturn, 1) := by decide +kernel
theorem dL_law_350 : decode cL_law 350 = .ok (.aload_n 1, 1) := by decide +kernel
theorem dL_law_351 : decode cL_law 351 = .ok (.aload_n 0, 1) := by decide +kernel
theorem dL_law_352 : decode cL_law 352 = .ok (.iload_n 3, 1) := by decide +kernel
theorem dL_law_353 : decode cL_law 353 = .ok (.iconst 1, 1) := by decide +kernel
theorem dL_law_354 : decode cL_law 354 = .ok (.iadd, 1) := by decide +kernel
theorem dL_law_355 : decode cL_law 355 = .ok (.iaload, 1) := by decide +kernel
theorem dL_law_356 : decode cL_law 356 = .ok (.i2c, 1) := by decide +kernel
theorem dL_law_357 : decode cL_law 357 = .ok (.invokevirtual 49, 3) := by decide +kernel
theorem dL_law_360 : decode cL_law 360 = .ok (.aload_n 2, 1) := by decide +kernel
theorem dL_law_361 : decode cL_law 361 = .ok (.aload_n 0, 1) := by decide +kernel
theorem dL_law_362 : decode cL_law 362 = .ok (.iload_n 3, 1) := by decide +kernel
theorem dL_law_363 : decode cL_law 363 = .ok (.iconst 1, 1) := by decide +kernel
theorem dL_law_364 : decode cL_law 364 = .ok (.iadd, 1) := by decide +kernel
theorem dL_law_365 : decode cL_law 365 = .ok (.iaload, 1) := by decide +kernel
theorem dL_law_366 : decode cL_law 366 = .ok (.i2c, 1) := by decide +kernel
theorem dL_law_367 : decode cL_law 367 = .ok (.invokevirtual 53, 3) := by decide +kernel
theorem dL_law_370 : decode cL_law 370 = .ok (.if_icmp .eq 344, 3) := by decide +kernel
theorem dL_law_373 : decode cL_law 373 = .ok (.iconst 0, 1) := by decide +kernel
theorem dL_law_374 : decode cL_law 374 = .ok (.ireturn, 1) := by decide +kernel
theorem dL_law_375 : decode cL_law 375 = .ok (.aload_n 1, 1) := by decide +kernel
theorem dL_law_376 : decode cL_law 376 = .ok (.invokevirtual 54, 3) := by decide +kernel
theorem dL_law_379 : decode cL_law 379 = .ok (.aload_n 2, 1) := by decide +kernel
theorem dL_law_380 : decode cL_law 380 = .ok (.invokevirtual 57, 3) := by decide +kernel
theorem dL_law_383 : decode cL_law 383 = .ok (.if_icmp .eq 331, 3) := by decide +kernel
theorem dL_law_386 : decode cL_law 386 = .ok (.iconst 0, 1) := by decide +kernel
theorem dL_law_387 : decode cL_law 387 = .ok (.ireturn, 1) := by decide +kernel
theorem dL_law_388 : decode cL_law 388 = .ok (.aload_n 1, 1) := by decide +kernel
theorem dL_law_389 : decode cL_law 389 = .ok (.invokevirtual 58, 3) := by decide +kernel
theorem dL_law_392 : decode cL_law 392 = .ok (.aload_n 2, 1) := by decide +kernel
theorem dL_law_393 : decode cL_law 393 = .ok (.invokevirtual 61, 3) := by decide +kernel
theorem dL_law_396 : decode cL_law 396 = .ok (.if_icmp .eq 318, 3) := by decide +kernel
theorem dL_law_399 : decode cL_law 399 = .ok (.iconst 0, 1) := by decide +kernel
theorem dL_law_400 : decode cL_law 400 = .ok (.ireturn, 1) := by decide +kernel
theorem dL_law_401 : decode cL_law 401 = .ok (.aload_n 1, 1) := by decide +kernel
theorem dL_law_402 : decode cL_law 402 = .ok (.invokevirtual 62, 3) := by decide +kernel
theorem dL_law_405 : decode cL_law 405 = .ok (.aload_n 2, 1) := by decide +kernel
theorem dL_law_406 : decode cL_law 406 = .ok (.invokevirtual 65, 3) := by decide +kernel
theorem dL_law_409 : decode cL_law 409 = .ok (.if_icmp .eq 305, 3) := by decide +kernel
theorem dL_law_412 : decode cL_law 412 = .ok (.iconst 0, 1) := by decide +kernel
theorem dL_law_413 : decode cL_law 413 = .ok (.ireturn, 1) := by decide +kernel
theorem dL_law_414 : decode cL_law 414 = .ok (.aload_n 1, 1) := by decide +kernel
theorem dL_law_415 : decode cL_law 415 = .ok (.invokevirtual 66, 3) := by decide +kernel
theorem dL_law_418 : decode cL_law 418 = .ok (.aload_n 2, 1) := by decide +kernel
theorem dL_law_419 : decode cL_law 419 = .ok (.invokevirtual 69, 3) := by decide +kernel
theorem dL_law_422 : decode cL_law 422 = .ok (.if_icmp .eq 292, 3) := by decide +kernel
theorem dL_law_425 : decode cL_law 425 = .ok (.iconst 0, 1) := by decide +kernel
theorem dL_law_426 : decode cL_law 426 = .ok (.ireturn, 1) := by decide +kernel
theorem dL_law_427 : decode cL_law 427 = .ok (.aload_n 1, 1) := by decide +kernel
theorem dL_law_428 : decode cL_law 428 = .ok (.aload_n 0, 1) := by decide +kernel
theorem dL_law_429 : decode cL_law 429 = .ok (.iload_n 3, 1) := by decide +kernel
theorem dL_law_430 : decode cL_law 430 = .ok (.iconst 1, 1) := by decide +kernel
theorem dL_law_431 : decode cL_law 431 = .ok (.iadd, 1) := by decide +kernel
theorem dL_law_432 : decode cL_law 432 = .ok (.iaload, 1) := by decide +kernel
theorem dL_law_433 : decode cL_law 433 = .ok (.aload_n 0, 1) := by decide +kernel
theorem dL_law_434 : decode cL_law 434 = .ok (.iload_n 3, 1) := by decide +kernel
theorem dL_law_435 : decode cL_law 435 = .ok (.iconst 2, 1) := by decide +kernel
theorem dL_law_436 : decode cL_law 436 = .ok (.iadd, 1) := by decide +kernel
theorem dL_law_437 : decode cL_law 437 = .ok (.iaload, 1) := by decide +kernel
theorem dL_law_438 : decode cL_law 438 = .ok (.invokevirtual 70, 3) := by decide +kernel
theorem dL_law_441 : decode cL_law 441 = .ok (.aload_n 2, 1) := by decide +kernel
theorem dL_law_442 : decode cL_law 442 = .ok (.aload_n 0, 1) := by decide +kernel
theorem dL_law_443 : decode cL_law 443 = .ok (.iload_n 3, 1) := by decide +kernel
theorem dL_law_444 : decode cL_law 444 = .ok (.iconst 1, 1) := by decide +kernel
theorem dL_law_445 : decode cL_law 445 = .ok (.iadd, 1) := by decide +kernel
theorem dL_law_446 : decode cL_law 446 = .ok (.iaload, 1) := by decide +kernel
theorem dL_law_447 : decode cL_law 447 = .ok (.aload_n 0, 1) := by decide +kernel
theorem dL_law_448 : decode cL_law 448 = .ok (.iload_n 3, 1) := by decide +kernel
theorem dL_law_449 : decode cL_law 449 = .ok (.iconst 2, 1) := by decide +kernel
theorem dL_law_450 : decode cL_law 450 = .ok (.iadd, 1) := by decide +kernel
theorem dL_law_451 : decode cL_law 451 = .ok (.iaload, 1) := by decide +kernel
theorem dL_law_452 : decode cL_law 452 = .ok (.invokevirtual 73, 3) := by decide +kernel
theorem dL_law_455 : decode cL_law 455 = .ok (.if_icmp .eq 259, 3) := by decide +kernel
theorem dL_law_458 : decode cL_law 458 = .ok (.iconst 0, 1) := by decide +kernel
theorem dL_law_459 : decode cL_law 459 = .ok (.ireturn, 1) := by decide +kernel
theorem dL_law_460 : decode cL_law 460 = .ok (.aload_n 1, 1) := by decide +kernel
theorem dL_law_461 : decode cL_law 461 = .ok (.aload_n 0, 1) := by decide +kernel
theorem dL_law_462 : decode cL_law 462 = .ok (.iload_n 3, 1) := by decide +kernel
theorem dL_law_463 : decode cL_law 463 = .ok (.iconst 1, 1) := by decide +kernel
theorem dL_law_464 : decode cL_law 464 = .ok (.iadd, 1) := by decide +kernel
theorem dL_law_465 : decode cL_law 465 = .ok (.iaload, 1) := by decide +kernel
theorem dL_law_466 : decode cL_law 466 = .ok (.aload_n 0, 1) := by decide +kernel
theorem dL_law_467 : decode cL_law 467 = .ok (.iload_n 3, 1) := by decide +kernel
theorem dL_law_468 : decode cL_law 468 = .ok (.iconst 2, 1) := by decide +kernel
theorem dL_law_469 : decode cL_law 469 = .ok (.iadd, 1) := by decide +kernel
theorem dL_law_470 : decode cL_law 470 = .ok (.iaload, 1) := by decide +kernel
theorem dL_law_471 : decode cL_law 471 = .ok (.invokevirtual 74, 3) := by decide +kernel
theorem dL_law_474 : decode cL_law 474 = .ok (.aload_n 2, 1) := by decide +kernel
theorem dL_law_475 : decode cL_law 475 = .ok (.aload_n 0, 1) := by decide +kernel
theorem dL_law_476 : decode cL_law 476 = .ok (.iload_n 3, 1) := by decide +kernel
theorem dL_law_477 : decode cL_law 477 = .ok (.iconst 1, 1) := by decide +kernel
theorem dL_law_478 : decode cL_law 478 = .ok (.iadd, 1) := by decide +kernel
theorem dL_law_479 : decode cL_law 479 = .ok (.iaload, 1) := by decide +kernel
theorem dL_law_480 : decode cL_law 480 = .ok (.aload_n 0, 1) := by decide +kernel
theorem dL_law_481 : decode cL_law 481 = .ok (.iload_n 3, 1) := by decide +kernel
theorem dL_law_482 : decode cL_law 482 = .ok (.iconst 2, 1) := by decide +kernel
theorem dL_law_483 : decode cL_law 483 = .ok (.iadd, 1) := by decide +kernel
theorem dL_law_484 : decode cL_law 484 = .ok (.iaload, 1) := by decide +kernel
theorem dL_law_485 : decode cL_law 485 = .ok (.invokevirtual 77, 3) := by decide +kernel
theorem dL_law_488 : decode cL_law 488 = .ok (.if_icmp .eq 226, 3) := by decide +kernel
theorem dL_law_491 : decode cL_law 491 = .ok (.iconst 0, 1) := by decide +kernel
theorem dL_law_492 : decode cL_law 492 = .ok (.ireturn, 1) := by decide +kernel
theorem dL_law_493 : decode cL_law 493 = .ok (.aload_n 1, 1) := by decide +kernel
theorem dL_law_494 : decode cL_law 494 = .ok (.aload_n 0, 1) := by decide +kernel
theorem dL_law_495 : decode cL_law 495 = .ok (.iload_n 3, 1) := by decide +kernel
theorem dL_law_496 : decode cL_law 496 = .ok (.iconst 1, 1) := by decide +kernel
theorem dL_law_497 : decode cL_law 497 = .ok (.iadd, 1) := by decide +kernel
theorem dL_law_498 : decode cL_law 498 = .ok (.iaload, 1) := by decide +kernel
theorem dL_law_499 : decode cL_law 499 = .ok (.aload_n 0, 1) := by decide +kernel
theorem dL_law_500 : decode cL_law 500 = .ok (.iload_n 3, 1) := by decide +kernel
theorem dL_law_501 : decode cL_law 501 = .ok (.iconst 2, 1) := by decide +kernel
theorem dL_law_502 : decode cL_law 502 = .ok (.iadd, 1) := by decide +kernel
theorem dL_law_503 : decode cL_law 503 = .ok (.iaload, 1) := by decide +kernel
theorem dL_law_504 : decode cL_law 504 = .ok (.invokevirtual 78, 3) := by decide +kernel
theorem dL_law_507 : decode cL_law 507 = .ok (.aload_n 2, 1) := by decide +kernel
theorem dL_law_508 : decode cL_law 508 = .ok (.aload_n 0, 1) := by decide +kernel
theorem dL_law_509 : decode cL_law 509 = .ok (.iload_n 3, 1) := by decide +kernel
theorem dL_law_510 : decode cL_law 510 = .ok (.iconst 1, 1) := by decide +kernel
theorem dL_law_511 : decode cL_law 511 = .ok (.iadd, 1) := by decide +kernel
theorem dL_law_512 : decode cL_law 512 = .ok (.iaload, 1) := by decide +kernel
theorem dL_law_513 : decode cL_law 513 = .ok (.aload_n 0, 1) := by decide +kernel
theorem dL_law_514 : decode cL_law 514 = .ok (.iload_n 3, 1) := by decide +kernel
theorem dL_law_515 : decode cL_law 515 = .ok (.iconst 2, 1) := by decide +kernel
theorem dL_law_516 : decode cL_law 516 = .ok (.iadd, 1) := by decide +kernel
theorem dL_law_517 : decode cL_law 517 = .ok (.iaload, 1) := by decide +kernel
theorem dL_law_518 : decode cL_law 518 = .ok (.invokevirtual 81, 3) := by decide +kernel
theorem dL_law_521 : decode cL_law 521 = .ok (.if_icmp .eq 193, 3) := by decide +kernel
theorem dL_law_524 : decode cL_law 524 = .ok (.iconst 0, 1) := by decide +kernel
theorem dL_law_525 : decode cL_law 525 = .ok (.ireturn, 1) := by decide +kernel
theorem dL_law_526 : decode cL_law 526 = .ok (.aload_n 1, 1) := by decide +kernel
theorem dL_law_527 : decode cL_law 527 = .ok (.aload_n 0, 1) := by decide +kernel
theorem dL_law_528 : decode cL_law 528 = .ok (.iload_n 3, 1) := by decide +kernel
theorem dL_law_529 : decode cL_law 529 = .ok (.iconst 1, 1) := by decide +kernel
theorem dL_law_530 : decode cL_law 530 = .ok (.iadd, 1) := by decide +kernel
theorem dL_law_531 : decode cL_law 531 = .ok (.iaload, 1) := by decide +kernel
theorem dL_law_532 : decode cL_law 532 = .ok (.aload_n 0, 1) := by decide +kernel
theorem dL_law_533 : decode cL_law 533 = .ok (.iload_n 3, 1) := by decide +kernel
theorem dL_law_534 : decode cL_law 534 = .ok (.iconst 2, 1) := by decide +kernel
theorem dL_law_535 : decode cL_law 535 = .ok (.iadd, 1) := by decide +kernel
theorem dL_law_536 : decode cL_law 536 = .ok (.iaload, 1) := by decide +kernel
theorem dL_law_537 : decode cL_law 537 = .ok (.invokevirtual 82, 3) := by decide +kernel
theorem dL_law_540 : decode cL_law 540 = .ok (.aload_n 2, 1) := by decide +kernel
theorem dL_law_541 : decode cL_law 541 = .ok (.aload_n 0, 1) := by decide +kernel
theorem dL_law_542 : decode cL_law 542 = .ok (.iload_n 3, 1) := by decide +kernel
theorem dL_law_543 : decode cL_law 543 = .ok (.iconst 1, 1) := by decide +kernel
theorem dL_law_544 : decode cL_law 544 = .ok (.iadd, 1) := by decide +kernel
theorem dL_law_545 : decode cL_law 545 = .ok (.iaload, 1) := by decide +kernel
theorem dL_law_546 : decode cL_law 546 = .ok (.aload_n 0, 1) := by decide +kernel
theorem dL_law_547 : decode cL_law 547 = .ok (.iload_n 3, 1) := by decide +kernel
theorem dL_law_548 : decode cL_law 548 = .ok (.iconst 2, 1) := by decide +kernel
theorem dL_law_549 : decode cL_law 549 = .ok (.iadd, 1) := by decide +kernel
theorem dL_law_550 : decode cL_law 550 = .ok (.iaload, 1) := by decide +kernel
theorem dL_law_551 : decode cL_law 551 = .ok (.invokevirtual 85, 3) := by decide +kernel
theorem dL_law_554 : decode cL_law 554 = .ok (.if_icmp .eq 160, 3) := by decide +kernel
theorem dL_law_557 : decode cL_law 557 = .ok (.iconst 0, 1) := by decide +kernel
theorem dL_law_558 : decode cL_law 558 = .ok (.ireturn, 1) := by decide +kernel
theorem dL_law_559 : decode cL_law 559 = .ok (.aload_n 1, 1) := by decide +kernel
theorem dL_law_560 : decode cL_law 560 = .ok (.aload_n 0, 1) := by decide +kernel
theorem dL_law_561 : decode cL_law 561 = .ok (.iload_n 3, 1) := by decide +kernel
theorem dL_law_562 : decode cL_law 562 = .ok (.iconst 1, 1) := by decide +kernel
theorem dL_law_563 : decode cL_law 563 = .ok (.iadd, 1) := by decide +kernel
theorem dL_law_564 : decode cL_law 564 = .ok (.iaload, 1) := by decide +kernel
theorem dL_law_565 : decode cL_law 565 = .ok (.aload_n 0, 1) := by decide +kernel
theorem dL_law_566 : decode cL_law 566 = .ok (.iload_n 3, 1) := by decide +kernel
theorem dL_law_567 : decode cL_law 567 = .ok (.iconst 2, 1) := by decide +kernel
theorem dL_law_568 : decode cL_law 568 = .ok (.iadd, 1) := by decide +kernel
theorem dL_law_569 : decode cL_law 569 = .ok (.iaload, 1) := by decide +kernel
theorem dL_law_570 : decode cL_law 570 = .ok (.aload_n 0, 1) := by decide +kernel
theorem dL_law_571 : decode cL_law 571 = .ok (.iload_n 3, 1) := by decide +kernel
theorem dL_law_572 : decode cL_law 572 = .ok (.iconst 3, 1) := by decide +kernel
theorem dL_law_573 : decode cL_law 573 = .ok (.iadd, 1) := by decide +kernel
theorem dL_law_574 : decode cL_law 574 = .ok (.iaload, 1) := by decide +kernel
theorem dL_law_575 : decode cL_law 575 = .ok (.invokevirtual 86, 3) := by decide +kernel
theorem dL_law_578 : decode cL_law 578 = .ok (.aload_n 2, 1) := by decide +kernel
theorem dL_law_579 : decode cL_law 579 = .ok (.aload_n 0, 1) := by decide +kernel
theorem dL_law_580 : decode cL_law 580 = .ok (.iload_n 3, 1) := by decide +kernel
theorem dL_law_581 : decode cL_law 581 = .ok (.iconst 1, 1) := by decide +kernel
theorem dL_law_582 : decode cL_law 582 = .ok (.iadd, 1) := by decide +kernel
theorem dL_law_583 : decode cL_law 583 = .ok (.iaload, 1) := by decide +kernel
theorem dL_law_584 : decode cL_law 584 = .ok (.aload_n 0, 1) := by decide +kernel
theorem dL_law_585 : decode cL_law 585 = .ok (.iload_n 3, 1) := by decide +kernel
theorem dL_law_586 : decode cL_law 586 = .ok (.iconst 2, 1) := by decide +kernel
theorem dL_law_587 : decode cL_law 587 = .ok (.iadd, 1) := by decide +kernel
theorem dL_law_588 : decode cL_law 588 = .ok (.iaload, 1) := by decide +kernel
theorem dL_law_589 : decode cL_law 589 = .ok (.aload_n 0, 1) := by decide +kernel
theorem dL_law_590 : decode cL_law 590 = .ok (.iload_n 3, 1) := by decide +kernel
theorem dL_law_591 : decode cL_law 591 = .ok (.iconst 3, 1) := by decide +kernel
theorem dL_law_592 : decode cL_law 592 = .ok (.iadd, 1) := by decide +kernel
theorem dL_law_593 : decode cL_law 593 = .ok (.iaload, 1) := by decide +kernel
theorem dL_law_594 : decode cL_law 594 = .ok (.invokevirtual 89, 3) := by decide +kernel
theorem dL_law_597 : decode cL_law 597 = .ok (.if_icmp .eq 117, 3) := by decide +kernel
theorem dL_law_600 : decode cL_law 600 = .ok (.iconst 0, 1) := by decide +kernel
theorem dL_law_601 : decode cL_law 601 = .ok (.ireturn, 1) := by decide +kernel
theorem dL_law_602 : decode cL_law 602 = .ok (.aload_n 1, 1) := by decide +kernel
theorem dL_law_603 : decode cL_law 603 = .ok (.aload_n 0, 1) := by decide +kernel
theorem dL_law_604 : decode cL_law 604 = .ok (.iload_n 3, 1) := by decide +kernel
theorem dL_law_605 : decode cL_law 605 = .ok (.iconst 1, 1) := by decide +kernel
theorem dL_law_606 : decode cL_law 606 = .ok (.iadd, 1) := by decide +kernel
theorem dL_law_607 : decode cL_law 607 = .ok (.iaload, 1) := by decide +kernel
theorem dL_law_608 : decode cL_law 608 = .ok (.invokevirtual 90, 3) := by decide +kernel
theorem dL_law_611 : decode cL_law 611 = .ok (.aload_n 2, 1) := by decide +kernel
theorem dL_law_612 : decode cL_law 612 = .ok (.aload_n 0, 1) := by decide +kernel
theorem dL_law_613 : decode cL_law 613 = .ok (.iload_n 3, 1) := by decide +kernel
theorem dL_law_614 : decode cL_law 614 = .ok (.iconst 1, 1) := by decide +kernel
theorem dL_law_615 : decode cL_law 615 = .ok (.iadd, 1) := by decide +kernel
theorem dL_law_616 : decode cL_law 616 = .ok (.iaload, 1) := by decide +kernel
theorem dL_law_617 : decode cL_law 617 = .ok (.invokevirtual 93, 3) := by decide +kernel
theorem dL_law_620 : decode cL_law 620 = .ok (.if_icmp .eq 94, 3) := by decide +kernel
theorem dL_law_623 : decode cL_law 623 = .ok (.iconst 0, 1) := by decide +kernel
theorem dL_law_624 : decode cL_law 624 = .ok (.ireturn, 1) := by decide +kernel
theorem dL_law_625 : decode cL_law 625 = .ok (.aload_n 1, 1) := by decide +kernel
theorem dL_law_626 : decode cL_law 626 = .ok (.aload_n 0, 1) := by decide +kernel
theorem dL_law_627 : decode cL_law 627 = .ok (.iload_n 3, 1) := by decide +kernel
theorem dL_law_628 : decode cL_law 628 = .ok (.iconst 1, 1) := by decide +kernel
theorem dL_law_629 : decode cL_law 629 = .ok (.iadd, 1) := by decide +kernel
theorem dL_law_630 : decode cL_law 630 = .ok (.iaload, 1) := by decide +kernel
theorem dL_law_631 : decode cL_law 631 = .ok (.aload_n 0, 1) := by decide +kernel
theorem dL_law_632 : decode cL_law 632 = .ok (.iload_n 3, 1) := by decide +kernel
theorem dL_law_633 : decode cL_law 633 = .ok (.iconst 2, 1) := by decide +kernel
theorem dL_law_634 : decode cL_law 634 = .ok (.iadd, 1) := by decide +kernel
theorem dL_law_635 : decode cL_law 635 = .ok (.iaload, 1) := by decide +kernel
theorem dL_law_636 : decode cL_law 636 = .ok (.invokevirtual 94, 3) := by decide +kernel
theorem dL_law_639 : decode cL_law 639 = .ok (.aload_n 2, 1) := by decide +kernel
theorem dL_law_640 : decode cL_law 640 = .ok (.aload_n 0, 1) := by decide +kernel
theorem dL_law_641 : decode cL_law 641 = .ok (.iload_n 3, 1) := by decide +kernel
theorem dL_law_642 : decode cL_law 642 = .ok (.iconst 1, 1) := by decide +kernel
theorem dL_law_643 : decode cL_law 643 = .ok (.iadd, 1) := by decide +kernel
theorem dL_law_644 : decode cL_law 644 = .ok (.iaload, 1) := by decide +kernel
theorem dL_law_645 : decode cL_law 645 = .ok (.aload_n 0, 1) := by decide +kernel
theorem dL_law_646 : decode cL_law 646 = .ok (.iload_n 3, 1) := by decide +kernel
theorem dL_law_647 : decode cL_law 647 = .ok (.iconst 2, 1) := by decide +kernel
theorem dL_law_648 : decode cL_law 648 = .ok (.iadd, 1) := by decide +kernel
theorem dL_law_649 : decode cL_law 649 = .ok (.iaload, 1) := by decide +kernel
theorem dL_law_650 : decode cL_law 650 = .ok (.invokevirtual 97, 3) := by decide +kernel
theorem dL_law_653 : decode cL_law 653 = .ok (.if_icmp .eq 61, 3) := by decide +kernel
theorem dL_law_656 : decode cL_law 656 = .ok (.iconst 0, 1) := by decide +kernel
theorem dL_law_657 : decode cL_law 657 = .ok (.ireturn, 1) := by decide +kernel
theorem dL_law_658 : decode cL_law 658 = .ok (.aload_n 1, 1) := by decide +kernel
theorem dL_law_659 : decode cL_law 659 = .ok (.aload_n 0, 1) := by decide +kernel
theorem dL_law_660 : decode cL_law 660 = .ok (.iload_n 3, 1) := by decide +kernel
theorem dL_law_661 : decode cL_law 661 = .ok (.iconst 1, 1) := by decide +kernel
theorem dL_law_662 : decode cL_law 662 = .ok (.iadd, 1) := by decide +kernel
theorem dL_law_663 : decode cL_law 663 = .ok (.iaload, 1) := by decide +kernel
theorem dL_law_664 : decode cL_law 664 = .ok (.aload_n 0, 1) := by decide +kernel
theorem dL_law_665 : decode cL_law 665 = .ok (.iload_n 3, 1) := by decide +kernel
theorem dL_law_666 : decode cL_law 666 = .ok (.iconst 2, 1) := by decide +kernel
theorem dL_law_667 : decode cL_law 667 = .ok (.iadd, 1) := by decide +kernel
theorem dL_law_668 : decode cL_law 668 = .ok (.iaload, 1) := by decide +kernel
theorem dL_law_669 : decode cL_law 669 = .ok (.invokevirtual 98, 3) := by decide +kernel
theorem dL_law_672 : decode cL_law 672 = .ok (.aload_n 2, 1) := by decide +kernel
theorem dL_law_673 : decode cL_law 673 = .ok (.aload_n 0, 1) := by decide +kernel
theorem dL_law_674 : decode cL_law 674 = .ok (.iload_n 3, 1) := by decide +kernel
theorem dL_law_675 : decode cL_law 675 = .ok (.iconst 1, 1) := by decide +kernel
theorem dL_law_676 : decode cL_law 676 = .ok (.iadd, 1) := by decide +kernel
theorem dL_law_677 : decode cL_law 677 = .ok (.iaload, 1) := by decide +kernel
theorem dL_law_678 : decode cL_law 678 = .ok (.aload_n 0, 1) := by decide +kernel
theorem dL_law_679 : decode cL_law 679 = .ok (.iload_n 3, 1) := by decide +kernel
theorem dL_law_680 : decode cL_law 680 = .ok (.iconst 2, 1) := by decide +kernel
theorem dL_law_681 : decode cL_law 681 = .ok (.iadd, 1) := by decide +kernel
theorem dL_law_682 : decode cL_law 682 = .ok (.iaload, 1) := by decide +kernel
theorem dL_law_683 : decode cL_law 683 = .ok (.invokevirtual 101, 3) := by decide +kernel
theorem dL_law_686 : decode cL_law 686 = .ok (.if_icmp .eq 28, 3) := by decide +kernel
theorem dL_law_689 : decode cL_law 689 = .ok (.iconst 0, 1) := by decide +kernel
theorem dL_law_690 : decode cL_law 690 = .ok (.ireturn, 1) := by decide +kernel
theorem dL_law_691 : decode cL_law 691 = .ok (.aload_n 1, 1) := by decide +kernel
theorem dL_law_692 : decode cL_law 692 = .ok (.aload_n 0, 1) := by decide +kernel
theorem dL_law_693 : decode cL_law 693 = .ok (.iload_n 3, 1) := by decide +kernel
theorem dL_law_694 : decode cL_law 694 = .ok (.iconst 1, 1) := by decide +kernel
theorem dL_law_695 : decode cL_law 695 = .ok (.iadd, 1) := by decide +kernel
theorem dL_law_696 : decode cL_law 696 = .ok (.iaload, 1) := by decide +kernel
theorem dL_law_697 : decode cL_law 697 = .ok (.invokevirtual 102, 3) := by decide +kernel
theorem dL_law_700 : decode cL_law 700 = .ok (.aload_n 2, 1) := by decide +kernel
theorem dL_law_701 : decode cL_law 701 = .ok (.aload_n 0, 1) := by decide +kernel
theorem dL_law_702 : decode cL_law 702 = .ok (.iload_n 3, 1) := by decide +kernel
theorem dL_law_703 : decode cL_law 703 = .ok (.iconst 1, 1) := by decide +kernel
theorem dL_law_704 : decode cL_law 704 = .ok (.iadd, 1) := by decide +kernel
theorem dL_law_705 : decode cL_law 705 = .ok (.iaload, 1) := by decide +kernel
theorem dL_law_706 : decode cL_law 706 = .ok (.invokevirtual 105, 3) := by decide +kernel
theorem dL_law_709 : decode cL_law 709 = .ok (.if_icmp .eq 5, 3) := by decide +kernel
theorem dL_law_712 : decode cL_law 712 = .ok (.iconst 0, 1) := by decide +kernel
theorem dL_law_713 : decode cL_law 713 = .ok (.ireturn, 1) := by decide +kernel
theorem dL_law_714 : decode cL_law 714 = .ok (.iinc 3 4, 3) := by decide +kernel
theorem dL_law_717 : decode cL_law 717 = .ok (.goto (-699), 3) := by decide +kernel
theorem dL_law_720 : decode cL_law 720 = .ok (.iconst 1, 1) := by decide +kernel
theorem dL_law_721 : decode cL_law 721 = .ok (.ireturn, 1) := by decide +kernel
end
section
/-! A world as a map from addresses to cells; a walk (cc_R) with the machine's context hidden; contracts over it. -/
abbrev cc_G : Type := Nat → Option va_E
def cc_M (D : va_G) (A : Nat → Prop) (z : Nat) (G : cc_G) (H : Heap) : Prop := H.size = z ∧ ∀ (a : Nat) (e : va_E), G a = some e → va_at D vwCl (a, e) H ∧ A a
theorem cc_M.one {D : va_G} {A : Nat → Prop} {z : Nat} {G : cc_G} {H : Heap} {a : Nat} {e : va_E} (h : cc_M D A z G H) (hG : G a = some e) : va_P D vwCl [(a, e)] H := by
  intro k q hk
  match k, hk with
  | 0, hk => cases hk; exact (h.2 a e hG).1
  | k + 1, hk => simp at hk
theorem cc_M.put {D : va_G} {A : Nat → Prop} {z : Nat} {G : cc_G} {H H1 : Heap} {a : Nat} {e : va_E} (h : cc_M D A z G H) (hA : A a) (he : va_at D vwCl (a, e) H1) (z1 : H1.size = H.size) (oq : ∀ q : Nat, q ≠ a → H1[q]? = H[q]?) : cc_M D A z (va_up G a (some e)) H1 := by
  refine ⟨z1.trans h.1, fun x e' hx => ?_⟩
  by_cases hq : x = a
  · subst hq
    rw [va_up_self] at hx
    cases hx
    exact ⟨he, hA⟩
  · rw [va_up_ne _ _ hq] at hx
    obtain ⟨h1, h2⟩ := h.2 x e' hx
    exact ⟨h1.kept (oq x hq), h2⟩
def cc_Cl (ci : Nat) (C : String) (T : u_T) (N : Nat) (ty : Nat → FieldType) : Prop := vwCl[ci]? = some (C, T, N) ∧ (∀ w ∈ u_ws C T N, w ∈ cc_GT) ∧ (∀ k, k < N → parseFieldDescriptor (T k).2.2.1 = some (ty k)) ∧ (∀ a, a < N → ∀ b, b < N → a ≠ b → (T a).2.1 ≠ (T b).2.1)
theorem cc_c0 : cc_Cl 0 RX0 TX0 6 tyX0 := ⟨rfl, uw_X0, tyX0_ok, nmX0⟩
theorem cc_c1 : cc_Cl 1 RX1 TX1 13 tyX1 := ⟨rfl, uw_X1, tyX1_ok, nmX1⟩
theorem cc_c2 : cc_Cl 2 RX2 TX2 7 tyX2 := ⟨rfl, uw_X2, tyX2_ok, nmX2⟩
theorem cc_c3 : cc_Cl 3 RX3 TX3 8 tyX3 := ⟨rfl, uw_X3, tyX3_ok, nmX3⟩
theorem cc_c4 : cc_Cl 4 RX4 TX4 11 tyX4 := ⟨rfl, uw_X4, tyX4_ok, nmX4⟩
/-- the array classes: char, int, boolean, of boxes, of lanes, of queues -/
abbrev cc_T (cy : Nat → ClassId) : List (ClassId × FieldType) := [(cy 0, .char), (cy 1, .int), (cy 2, .boolean), (cy 3, .object RX0), (cy 4, .object RX1), (cy 5, .object RX2)]
def cc_K (D : va_G) (cy : Nat → ClassId) (U : State) : Prop := va_K D vwCl (cc_T cy) U ∧ ∀ w ∈ cc_NT, va_Nw w U
theorem cc_nest {w : Cond} (h : w ∈ cc_NT) : (∃ a i b n d x, w = .fieldLinkNest a i b n d x) ∨ ∃ a i y x, w = .methodLinkNest a i y x := by
  have h2 := (List.mem_filter.mp h).2
  cases w <;> first | exact Or.inl ⟨_, _, _, _, _, _, rfl⟩ | exact Or.inr ⟨_, _, _, _, rfl⟩ | (simp [cc_isNest] at h2)
theorem cc_K.warm {D : va_G} {cy : Nat → ClassId} {s U : State} (hW : s.WarmedH U.vm) (h : cc_K D cy s) : cc_K D cy U := by
  refine ⟨va_K.moved hW.alike h.1, fun w hw => ?_⟩
  rcases cc_nest hw with ⟨a, i, b, n, d, x, rfl⟩ | ⟨a, i, y, x, rfl⟩
  · exact va_Nw.warmF hW (h.2 _ hw)
  · exact va_Nw.warmM hW (h.2 _ hw)
theorem cc_K.same {D : va_G} {cy : Nat → ClassId} {u U : State} (hv : u.vm = U.vm) (h : cc_K D cy u) : cc_K D cy U := by
  refine ⟨va_K.moved (by rw [hv]; exact Vm.Alike.refl _) h.1, fun w hw => ?_⟩
  rcases cc_nest hw with ⟨a, i, b, n, d, x, rfl⟩ | ⟨a, i, y, x, rfl⟩
  · exact va_Nw.same rfl hv (h.2 _ hw)
  · exact va_Nw.same rfl hv (h.2 _ hw)
section VMR
variable {p : Program} {l : Launch} {e : Env} {R : Room} {s : State} {m : MethodId} {args : Array Value} {below : List Frame} {meth : Method} {c : Code} {H : Heap} {locs : List Loc} {cells slots : Nat} {Q : State → Prop}
variable {cc : ByteArray} {pc : Nat} {ls : Array Slot} {rest : List Value} {D : va_G} {A : Nat → Prop} {a : Nat} {tys : List (ClassId × FieldType)} {H0 : Heap} {z : Nat} {G : cc_G}
theorem vm_get (hexec : p.tables.exec = Jvm.exec) (hb : c.code = cc) {own C : String} {T : u_T} {N ci index : Nat} {ty0 : Nat → FieldType} (hg : ∀ w ∈ cc_GT, w.before args s = true) (hown : s.vm.findClass own = some m.cls) (hK : va_K D vwCl tys s) (hM : cc_M D A z G H) {fs : List Value} (he : G a = some (.inr (ci, fs))) (hcl : cc_Cl ci C T N ty0) (k : Nat) (hk : k < N) (hl : Cond.fieldLink own index (T k).1 (T k).2.1 (T k).2.2.1 ∈ cc_GT) {v : Value} (hv : fs[k]? = some v) (hdg : decode cc pc = .ok (.getfield index, 3)) (kk : W p l e R s m args below meth c H locs cells slots Q (F0 m (pc + 3) ls (v :: rest))) : W p l e R s m args below meth c H locs cells slots Q (F0 m pc ls (.ref a :: rest)) :=
  va_get hexec hb hg hcl.2.1 hown hK (hM.one he) 0 rfl hcl.1 k hk (hg _ hl) (fun _ h => h) hv hdg kk
theorem vm_getN (hexec : p.tables.exec = Jvm.exec) (hb : c.code = cc) {own C : String} {host : String} {T : u_T} {N ci index : Nat} {ty0 : Nat → FieldType} (hg : ∀ w ∈ cc_GT, w.before args s = true) (hown : s.vm.findClass own = some m.cls) (hK : va_K D vwCl tys s) (hM : cc_M D A z G H) {fs : List Value} (he : G a = some (.inr (ci, fs))) (hcl : cc_Cl ci C T N ty0) (k : Nat) (hk : k < N) (hl : Cond.fieldLinkNest own index (T k).1 (T k).2.1 (T k).2.2.1 host ∈ cc_NT) (hN : ∀ w ∈ cc_NT, va_Nw w s) {v : Value} (hv : fs[k]? = some v) (hdg : decode cc pc = .ok (.getfield index, 3)) (kk : W p l e R s m args below meth c H locs cells slots Q (F0 m (pc + 3) ls (v :: rest))) : W p l e R s m args below meth c H locs cells slots Q (F0 m pc ls (.ref a :: rest)) :=
  va_getN hexec hb hg hcl.2.1 hown hK (hM.one he) 0 rfl hcl.1 k hk (va_Nw.use rfl (hN _ hl)) (fun _ h => h) hv hdg kk
theorem vm_put (hexec : p.tables.exec = Jvm.exec) (hb : c.code = cc) {own C : String} {T : u_T} {N ci index : Nat} {ty0 : Nat → FieldType} (hg : ∀ w ∈ cc_GT, w.before args s = true) (hown : s.vm.findClass own = some m.cls) (hK : va_K D vwCl tys s) (hM : cc_M D A z G H) (hS0 : va_S A H0 H locs) {fs : List Value} (he : G a = some (.inr (ci, fs))) (hcl : cc_Cl ci C T N ty0) (k : Nat) (hk : k < N) (hl : Cond.fieldLink own index (T k).1 (T k).2.1 (T k).2.2.1 ∈ cc_GT) (hfin : (T k).2.2.2 = false) {ty : FieldType} {v : Value} (hd : parseFieldDescriptor (T k).2.2.1 = some ty) (hn : narrow ty v = v) (hfit : fits ty v = true) (hlen : k < fs.length) (hdg : decode cc pc = .ok (.putfield index, 3)) (kk : ∀ (H1 : Heap) (locs1 : List Loc), cc_M D A z (va_up G a (some (.inr (ci, fs.set k v)))) H1 → va_S A H0 H1 locs1 → W p l e R s m args below meth c H1 locs1 cells slots Q (F0 m (pc + 3) ls rest)) : W p l e R s m args below meth c H locs cells slots Q (F0 m pc ls (v :: .ref a :: rest)) := by
  obtain ⟨hc, hin, hty, hnm⟩ := hcl
  have hap := va_apart (own := own) hg hin ty0 hty hnm hK hc
  obtain ⟨hat, hAa⟩ := hM.2 a _ he
  obtain ⟨r, h1, cell, q1, q2, q3, q4⟩ := hat
  have hr : r = (C, T, N) := Option.some.inj (h1.symm.trans hc)
  subst hr
  obtain ⟨hS, hfc, kC, hkC, hkind⟩ := hK.1 ci _ hc
  obtain ⟨cf, kf, fi, f, hi, hsl⟩ := hS k hk
  have hlay := hg _ (hin _ (u_in_lay hk))
  unfold u_lay at hlay
  rw [if_neg (by rw [hfin]; decide)] at hlay
  have hst := (u_facts hfc hkC (u_lays hg hin hk) hi).1
  have h6 := u_store hfc hkC hkind hlay hi hd hn hfit
  refine W.putK hexec hb (f := f) ⟨hown, hg _ hl, ⟨_, _, _, hi⟩, hst⟩ (by rw [q2]; exact h6) q1 q3 (by rw [hsl]; exact k2_hasslot (q4 k hk)) rfl rfl hdg fun H' e1 e2 e3 => ?_
  rw [hsl] at e1 ⊢
  exact kk H' _ (hM.put hAa ⟨_, hc, t_OB.to (V := updV (vp_V fs) k v) ⟨_, e1, q2, q3, t_set q4 hap hk v⟩ (fun j _ => vp_updV_set hlen v j)⟩ e2 e3) (hS0.put e2 e3 hAa)
theorem vm_putN (hexec : p.tables.exec = Jvm.exec) (hb : c.code = cc) {own C : String} {host : String} {T : u_T} {N ci index : Nat} {ty0 : Nat → FieldType} (hg : ∀ w ∈ cc_GT, w.before args s = true) (hown : s.vm.findClass own = some m.cls) (hK : va_K D vwCl tys s) (hM : cc_M D A z G H) (hS0 : va_S A H0 H locs) {fs : List Value} (he : G a = some (.inr (ci, fs))) (hcl : cc_Cl ci C T N ty0) (k : Nat) (hk : k < N) (hl : Cond.fieldLinkNest own index (T k).1 (T k).2.1 (T k).2.2.1 host ∈ cc_NT) (hN : ∀ w ∈ cc_NT, va_Nw w s) (hfin : (T k).2.2.2 = false) {ty : FieldType} {v : Value} (hd : parseFieldDescriptor (T k).2.2.1 = some ty) (hn : narrow ty v = v) (hfit : fits ty v = true) (hlen : k < fs.length) (hdg : decode cc pc = .ok (.putfield index, 3)) (kk : ∀ (H1 : Heap) (locs1 : List Loc), cc_M D A z (va_up G a (some (.inr (ci, fs.set k v)))) H1 → va_S A H0 H1 locs1 → W p l e R s m args below meth c H1 locs1 cells slots Q (F0 m (pc + 3) ls rest)) : W p l e R s m args below meth c H locs cells slots Q (F0 m pc ls (v :: .ref a :: rest)) := by
  obtain ⟨hc, hin, hty, hnm⟩ := hcl
  have hap := va_apart (own := own) hg hin ty0 hty hnm hK hc
  obtain ⟨hat, hAa⟩ := hM.2 a _ he
  obtain ⟨r, h1, cell, q1, q2, q3, q4⟩ := hat
  have hr : r = (C, T, N) := Option.some.inj (h1.symm.trans hc)
  subst hr
  obtain ⟨hS, hfc, kC, hkC, hkind⟩ := hK.1 ci _ hc
  obtain ⟨cf, kf, fi, f, hi, hsl⟩ := hS k hk
  have hlay := hg _ (hin _ (u_in_lay hk))
  unfold u_lay at hlay
  rw [if_neg (by rw [hfin]; decide)] at hlay
  have hst := (u_facts hfc hkC (u_lays hg hin hk) hi).1
  have h6 := u_store hfc hkC hkind hlay hi hd hn hfit
  refine va_WputK hexec hb (f := f) hown (va_Nw.use rfl (hN _ hl)) hi hst (by rw [q2]; exact h6) q1 q3 (by rw [hsl]; exact k2_hasslot (q4 k hk)) rfl rfl hdg fun H' e1 e2 e3 => ?_
  rw [hsl] at e1 ⊢
  exact kk H' _ (hM.put hAa ⟨_, hc, t_OB.to (V := updV (vp_V fs) k v) ⟨_, e1, q2, q3, t_set q4 hap hk v⟩ (fun j _ => vp_updV_set hlen v j)⟩ e2 e3) (hS0.put e2 e3 hAa)
theorem vm_iald (hexec : p.tables.exec = Jvm.exec) (hb : c.code = cc) (hK : va_K D vwCl tys s) (hM : cc_M D A z G H) (t0 : Nat) {cA : ClassId} {n : Nat} {f : Nat → Int32} (he : G a = some (.inl (cA, n, .inl f))) (ht : tys[t0]? = some (cA, .int)) {i : Int32} (hin : vp_in i n) (hdg : decode cc pc = .ok (.iaload, 1)) (kk : W p l e R s m args below meth c H locs cells slots Q (F0 m (pc + 1) ls (.int (f i.toNatClampNeg) :: rest))) : W p l e R s m args below meth c H locs cells slots Q (F0 m pc ls (.int i :: .ref a :: rest)) := va_iald hexec hb hK (hM.one he) 0 t0 rfl ht hin hdg kk
theorem vm_cald (hexec : p.tables.exec = Jvm.exec) (hb : c.code = cc) (hK : va_K D vwCl tys s) (hM : cc_M D A z G H) (t0 : Nat) {cA : ClassId} {n : Nat} {f : Nat → Int32} (he : G a = some (.inl (cA, n, .inl f))) (ht : tys[t0]? = some (cA, .char)) {i : Int32} (hin : vp_in i n) (hdg : decode cc pc = .ok (.caload, 1)) (kk : W p l e R s m args below meth c H locs cells slots Q (F0 m (pc + 1) ls (.int (f i.toNatClampNeg) :: rest))) : W p l e R s m args below meth c H locs cells slots Q (F0 m pc ls (.int i :: .ref a :: rest)) := va_cald hexec hb hK (hM.one he) 0 t0 rfl ht hin hdg kk
theorem vm_zald (hexec : p.tables.exec = Jvm.exec) (hb : c.code = cc) (hK : va_K D vwCl tys s) (hM : cc_M D A z G H) (t0 : Nat) {cA : ClassId} {n : Nat} {f : Nat → Int32} (he : G a = some (.inl (cA, n, .inl f))) (ht : tys[t0]? = some (cA, .boolean)) {i : Int32} (hin : vp_in i n) (hdg : decode cc pc = .ok (.baload, 1)) (kk : W p l e R s m args below meth c H locs cells slots Q (F0 m (pc + 1) ls (.int (f i.toNatClampNeg) :: rest))) : W p l e R s m args below meth c H locs cells slots Q (F0 m pc ls (.int i :: .ref a :: rest)) := va_zald hexec hb hK (hM.one he) 0 t0 rfl ht hin hdg kk
theorem vm_aald (hexec : p.tables.exec = Jvm.exec) (hb : c.code = cc) (hK : va_K D vwCl tys s) (hM : cc_M D A z G H) (t0 : Nat) {cA : ClassId} {C : String} {n : Nat} {f : Nat → Option Nat} (he : G a = some (.inl (cA, n, .inr (.inr (.inr (.inr f)))))) (ht : tys[t0]? = some (cA, .object C)) {i : Int32} (hin : vp_in i n) {x : Nat} (hx : f i.toNatClampNeg = some x) (hdg : decode cc pc = .ok (.aaload, 1)) (kk : W p l e R s m args below meth c H locs cells slots Q (F0 m (pc + 1) ls (.ref x :: rest))) : W p l e R s m args below meth c H locs cells slots Q (F0 m pc ls (.int i :: .ref a :: rest)) := va_aldq hexec hb hK (hM.one he) 0 t0 rfl ht hin hdg (by rw [hx]; exact kk)
theorem vm_iast (hexec : p.tables.exec = Jvm.exec) (hb : c.code = cc) (hK : va_K D vwCl tys s) (hM : cc_M D A z G H) (hS : va_S A H0 H locs) (t0 : Nat) {cA : ClassId} {n : Nat} {f : Nat → Int32} (he : G a = some (.inl (cA, n, .inl f))) (ht : tys[t0]? = some (cA, .int)) {i : Int32} {x : Int32} (hin : vp_in i n) (hdg : decode cc pc = .ok (.iastore, 1)) (kk : ∀ (H1 : Heap) (locs1 : List Loc), cc_M D A z (va_up G a (some (.inl (cA, n, .inl (upd f i.toNatClampNeg x))))) H1 → va_S A H0 H1 locs1 → W p l e R s m args below meth c H1 locs1 cells slots Q (F0 m (pc + 1) ls rest)) : W p l e R s m args below meth c H locs cells slots Q (F0 m pc ls (.int x :: .int i :: .ref a :: rest)) := by
  obtain ⟨hat, hAa⟩ := hM.2 a _ he
  refine W.iast hexec hb hat ((hK.2 t0 _ ht).1 n (fun j => .int (f j))) (fun q => by cases q) (by show ¬ (i < 0 ∨ (arrV _ _ _).slots.size ≤ _); rw [arrV_size]; exact hin) rfl rfl hdg fun H1 e1 z1 oq => ?_
  refine kk H1 _ (hM.put hAa ?_ z1 oq) (hS.put z1 oq hAa)
  show H1[a]? = some (vp_cell _ _)
  rw [e1]
  rw [vp_cell_i, vp_cell_i, arrV_store]
  congr 2
  funext q
  by_cases hq : q = i.toNatClampNeg
  · subst hq
    simp [updV, upd]
  · simp [updV, upd, hq]
theorem vm_cast (hexec : p.tables.exec = Jvm.exec) (hb : c.code = cc) (hK : va_K D vwCl tys s) (hM : cc_M D A z G H) (hS : va_S A H0 H locs) (t0 : Nat) {cA : ClassId} {n : Nat} {f : Nat → Int32} (he : G a = some (.inl (cA, n, .inl f))) (ht : tys[t0]? = some (cA, .char)) {i : Int32} {x : Int32} (hin : vp_in i n) (hdg : decode cc pc = .ok (.castore, 1)) (kk : ∀ (H1 : Heap) (locs1 : List Loc), cc_M D A z (va_up G a (some (.inl (cA, n, .inl (upd f i.toNatClampNeg (vp_nar .char x)))))) H1 → va_S A H0 H1 locs1 → W p l e R s m args below meth c H1 locs1 cells slots Q (F0 m (pc + 1) ls rest)) : W p l e R s m args below meth c H locs cells slots Q (F0 m pc ls (.int x :: .int i :: .ref a :: rest)) := by
  obtain ⟨hat, hAa⟩ := hM.2 a _ he
  refine W.cast hexec hb hat ((hK.2 t0 _ ht).1 n (fun j => .int (f j))) (fun q => by cases q) (by show ¬ (i < 0 ∨ (arrV _ _ _).slots.size ≤ _); rw [arrV_size]; exact hin) rfl rfl hdg fun H1 e1 z1 oq => ?_
  refine kk H1 _ (hM.put hAa ?_ z1 oq) (hS.put z1 oq hAa)
  show H1[a]? = some (vp_cell _ _)
  rw [e1]
  rw [vp_cell_i, vp_cell_i, arrV_store]
  congr 2
  funext q
  by_cases hq : q = i.toNatClampNeg
  · subst hq
    simp [updV, upd, vp_nar]
    try rfl
  · simp [updV, upd, hq]
theorem vm_zast (hexec : p.tables.exec = Jvm.exec) (hb : c.code = cc) (hK : va_K D vwCl tys s) (hM : cc_M D A z G H) (hS : va_S A H0 H locs) (t0 : Nat) {cA : ClassId} {n : Nat} {f : Nat → Int32} (he : G a = some (.inl (cA, n, .inl f))) (ht : tys[t0]? = some (cA, .boolean)) {i : Int32} {x : Int32} (hin : vp_in i n) (hdg : decode cc pc = .ok (.bastore, 1)) (kk : ∀ (H1 : Heap) (locs1 : List Loc), cc_M D A z (va_up G a (some (.inl (cA, n, .inl (upd f i.toNatClampNeg (vp_nar .boolean x)))))) H1 → va_S A H0 H1 locs1 → W p l e R s m args below meth c H1 locs1 cells slots Q (F0 m (pc + 1) ls rest)) : W p l e R s m args below meth c H locs cells slots Q (F0 m pc ls (.int x :: .int i :: .ref a :: rest)) := by
  obtain ⟨hat, hAa⟩ := hM.2 a _ he
  refine W.zast hexec hb hat ((hK.2 t0 _ ht).1 n (fun j => .int (f j))) (fun q => by cases q) (by show ¬ (i < 0 ∨ (arrV _ _ _).slots.size ≤ _); rw [arrV_size]; exact hin) rfl rfl hdg fun H1 e1 z1 oq => ?_
  refine kk H1 _ (hM.put hAa ?_ z1 oq) (hS.put z1 oq hAa)
  show H1[a]? = some (vp_cell _ _)
  rw [e1]
  rw [vp_cell_i, vp_cell_i, arrV_store]
  congr 2
  funext q
  by_cases hq : q = i.toNatClampNeg
  · subst hq
    simp [updV, upd, vp_nar]
    try rfl
  · simp [updV, upd, hq]
theorem vm_aast (hexec : p.tables.exec = Jvm.exec) (hb : c.code = cc) (hK : va_K D vwCl tys s) (hM : cc_M D A z G H) (hS : va_S A H0 H locs) (t0 ci : Nat) {cA : ClassId} {r : vw_C} {n v : Nat} {vs : List Value} {f : Nat → Option Nat} (he : G a = some (.inl (cA, n, .inr (.inr (.inr (.inr f)))))) (ht : tys[t0]? = some (cA, .object r.1)) (hv : G v = some (.inr (ci, vs))) (hc : vwCl[ci]? = some r) {i : Int32} (hin : vp_in i n) (hdg : decode cc pc = .ok (.aastore, 1)) (kk : ∀ (H1 : Heap) (locs1 : List Loc), cc_M D A z (va_up G a (some (.inl (cA, n, .inr (.inr (.inr (.inr (va_up f i.toNatClampNeg (some v))))))))) H1 → va_S A H0 H1 locs1 → W p l e R s m args below meth c H1 locs1 cells slots Q (F0 m (pc + 1) ls rest)) : W p l e R s m args below meth c H locs cells slots Q (F0 m pc ls (.ref v :: .int i :: .ref a :: rest)) := by
  have hlt : i.toNatClampNeg < n := Nat.not_le.mp fun q => hin (Or.inr q)
  have h0 : ¬ i < 0 := fun q => hin (Or.inl q)
  obtain ⟨hat, hAa⟩ := hM.2 a _ he
  obtain ⟨hav, -⟩ := hM.2 v _ hv
  obtain ⟨r', hr', cellV, g1, g2, g3, -⟩ := hav
  have hcls := (hK.1 ci r hc).2
  obtain ⟨kA, comp, k1, k2, k3, -⟩ := (hK.2 t0 _ ht).2
  have hcomp : comp = D.1 ci := Option.some.inj (k3.symm.trans hcls.1)
  subst hcomp
  obtain ⟨kC, hkC, -⟩ := hcls.2
  refine W.aast hexec hb hat (fun q h => by cases h) (fun h => by cases h) k1 k2 rfl hkC ⟨h0, by show _ < (arrV _ _ _).slots.size; rw [arrV_size]; exact hlt⟩ g1 (fun q h => by rw [g3] at h; cases h) (by rw [g2]; exact hkC) (by rw [g2]; exact va_assign hcls) rfl rfl hdg fun H1 e1 z1 oq => ?_
  refine kk H1 _ (hM.put hAa ?_ z1 oq) (hS.put z1 oq hAa)
  show H1[a]? = some (vp_cell _ _)
  rw [e1]
  rw [vp_cell_q, vp_cell_q, arrV_store]
  congr 2
  funext q
  by_cases hq : q = i.toNatClampNeg
  · subst hq
    simp [updV, va_up, va_rf]
  · simp [updV, va_up, hq]
theorem vm_copy (hexec : p.tables.exec = Jvm.exec) (hb : c.code = cc) (hml : c.maxLocals = ls.size) {own : String} {index : Nat} (hown : s.vm.findClass own = some m.cls) (hlink : (Cond.methodLink own index arraycopyName).before args s = true) (hnat : (Cond.native arraycopyName).before args s = true) (hstat : (Cond.static arraycopyName).before args s = true) (hini : (Cond.initialized "java/lang/System").before args s = true)
    (hK : va_K D vwCl tys s) (hM : cc_M D A z G H) (hS : va_S A H0 H locs) (t0 : Nat) {a0 : Nat} {c0 : ClassId} {n0 n1 : Nat} {f g : Nat → Int32} (ha0 : G a0 = some (.inl (c0, n0, .inl f))) (ha1 : G a = some (.inl (c0, n1, .inl g))) (hne : a0 ≠ a) (ht0 : tys[t0]? = some (c0, .int))
    {sp dp n : Int32} (h1 : ¬ sp < 0) (h2 : ¬ dp < 0) (h3 : ¬ n < 0) (h4 : sp.toNatClampNeg + n.toNatClampNeg ≤ n0) (h5 : dp.toNatClampNeg + n.toNatClampNeg ≤ n1)
    (hframes : 1 ≤ R.frames) (hlocals : (rest.map fun v => v.category).sum + (nativeFrameWords "java/lang/System" "arraycopy" 5 + 11) ≤ R.locals) (hdg : decode cc pc = .ok (.invokestatic index, 3))
    (kk : ∀ (H1 : Heap) (locs1 : List Loc), cc_M D A z (va_up G a (some (.inl (c0, n1, .inl (va_cpy f g sp.toNatClampNeg dp.toNatClampNeg n.toNatClampNeg))))) H1 → va_S A H0 H1 locs1 → W p l e R s m args below meth c H1 locs1 cells slots Q (F0 m (pc + 3) ls rest)) : W p l e R s m args below meth c H locs cells slots Q (F0 m pc ls (.int n :: .int dp :: .ref a :: .int sp :: .ref a0 :: rest)) := by
  have nn : ∀ y : Int32, ¬ y < 0 → y.toInt = (y.toNatClampNeg : Int) := by
    intro y hy
    have hy0 : (0 : Int) ≤ y.toInt := by
      have := Int32.not_lt.mp hy
      simpa using Int32.le_iff_toInt_le.mp this
    show y.toInt = ((y.toInt.toNat : Nat) : Int)
    omega
  obtain ⟨hc0, -⟩ := hM.2 a0 _ ha0
  obtain ⟨hc1, hAa⟩ := hM.2 a _ ha1
  have hc0 : H[a0]? = some (vp_cell c0 (n0, .inl f)) := hc0
  have hc1 : H[a]? = some (vp_cell c0 (n1, .inl g)) := hc1
  intro T hT Y
  obtain ⟨-, k0, hk0, cm0, hkk0⟩ := (hK.2 t0 _ ht0).1 n0 (fun j => .int (f j))
  obtain ⟨-, k1, hk1, cm1, hkk1⟩ := (hK.2 t0 _ ht0).1 n1 (fun j => .int (g j))
  obtain ⟨vm', X', step⟩ := Y.arraycopy hexec hown hlink hnat hstat hini (src := a0) (dst := a) (cs := vp_cell c0 (n0, .inl f)) (cd := vp_cell c0 (n1, .inl g)) (srcPos := sp) (destPos := dp) (n := n) (by rw [hT]; exact hc0) (by rw [hT]; exact hc1)
    (fun _ h => by cases h) (fun _ h => by cases h) (fun h => by cases h) (fun h => by cases h) hk0 hk1 hkk0 hkk1 (by simp [refKind]) h1 h2 h3
    (by rw [nn sp h1, nn n h3]; show ¬ _ > ((arrV c0 n0 (fun j => .int (f j))).slots.size : Int); rw [arrV_size]; omega)
    (by rw [nn dp h2, nn n h3]; show ¬ _ > ((arrV c0 n1 (fun j => .int (g j))).slots.size : Int); rw [arrV_size]; omega)
    (fun vm₁ _ i hi => by
      have e : (vp_cell c0 (n0, .inl f)).slots.getD (sp.toNatClampNeg + i) .null = .int (f (sp.toNatClampNeg + i)) := by
        show (arrV c0 n0 (fun j => .int (f j))).slots.getD _ _ = _
        rw [Array.getD_eq_getD_getElem?, arrV_read _ _ (by omega)]
        rfl
      refine ⟨?_, ?_⟩
      · rw [e]
        rfl
      · rw [e]
        exact trivial)
    (g := F0 m pc ls (.int n :: .int dp :: .ref a :: .int sp :: .ref a0 :: rest)) rfl (by rw [hml]) (rest := rest) rfl (by rw [hb]; exact hdg) hframes (by show 2 * 0 + _ + _ ≤ _; omega)
  have e1 : copied (vp_cell c0 (n0, .inl f)) (vp_cell c0 (n1, .inl g)) sp dp n = vp_cell c0 (n1, .inl (va_cpy f g sp.toNatClampNeg dp.toNatClampNeg n.toNatClampNeg)) := va_copied (fun z => .int z) c0 c0 f g h4
  rw [e1] at X' step
  have hl : a < H.size := (Array.getElem?_eq_some_iff.mp hc1).1
  have hheap : ((T.setVm vm').setCell a (vp_cell c0 (n1, .inl (va_cpy f g sp.toNatClampNeg dp.toNatClampNeg n.toNatClampNeg)))).heap = H.setIfInBounds a (vp_cell c0 (n1, .inl (va_cpy f g sp.toNatClampNeg dp.toNatClampNeg n.toNatClampNeg))) := by rw [← hT]; rfl
  have oq : ∀ q : Nat, q ≠ a → (H.setIfInBounds a (vp_cell c0 (n1, .inl (va_cpy f g sp.toNatClampNeg dp.toNatClampNeg n.toNatClampNeg))))[q]? = H[q]? := fun q hq => by simp [Array.getElem?_setIfInBounds, Ne.symm hq]
  obtain ⟨t, a1, b1⟩ := kk _ _ (hM.put hAa (show (H.setIfInBounds a _)[a]? = some _ by simp [Array.getElem?_setIfInBounds, hl]) (by simp) oq) ⟨by simp; exact hS.1, fun q g1 g2 => by
      rw [oq q (fun e => g2 (by rw [e]; exact hAa))]
      exact hS.2.1 q g1 g2, fun q hq => by
      rcases List.mem_append.mp hq with h | h
      · exact hS.2.2 q h
      · obtain ⟨y, -, hy⟩ := List.mem_map.mp h
        rw [← hy]
        exact hAa⟩ _ hheap X'
  exact ⟨t, step t a1, b1⟩
end VMR
abbrev cc_Y : Type := MethodName × ByteArray × Nat × Option FieldType × Room
def cc_W (Y : cc_Y) : List Cond := .code Y.1 Y.2.1 Y.2.2.1 Y.2.2.2.1 :: cc_GT
def cc_Ok (Y : cc_Y) : Prop := Cond.code Y.1 Y.2.1 Y.2.2.1 Y.2.2.2.1 ∈ cc_GT ∧ Cond.initialized Y.1.cls ∈ cc_GT ∧ plainName Y.1.cls = true ∧ (Y.1.cls ≠ "java/lang/invoke/MethodHandle" ∧ Y.1.cls ≠ "java/lang/invoke/VarHandle") ∧ Y.2.2.2.2.cells = 0 ∧ Y.2.2.2.2.slots = 0
theorem cc_good {Y : cc_Y} (ok : cc_Ok Y) : GoodIn cc_GT (cc_W Y) := fun w hw => by
  rcases List.mem_cons.mp hw with rfl | h
  · exact ⟨ok.1, good_of_word (List.mem_filter.mp ok.1).2⟩
  · exact ⟨h, good_of_word (List.mem_filter.mp h).2⟩
def cc_Q (D : va_G) (A : Nat → Prop) (z : Nat) (Q : Option Value → cc_G → Prop) : Array Value → State → Outcome → State → Prop := fun _ st oc t => (∃ (v : Option Value) (G : cc_G), oc = .returned v ∧ Q v G ∧ cc_M D A z G t.heap) ∧ va_F A st t
/-- a method's contract: from the world G of z cells, with these arguments, it returns, and Q holds of the answer and of the world then; no cell is made -/
def cc_Cn (cy : Nat → ClassId) (Y : cc_Y) (as : List Value) (z : Nat) (G : cc_G) (Q : Option Value → cc_G → Prop) : Prop := ∀ (l : Launch) (D : va_G) (A : Nat → Prop), Met l Y.1 (cc_W Y) Y.2.2.2.2 (va_Pc as (fun U => cc_M D A z G U.heap ∧ cc_K D cy U)) (cc_Q D A z Q) 0 0 A
def cc_C (cy : Nat → ClassId) (Y : cc_Y) (p : Program) (s : State) (m : MethodId) (args : Array Value) (meth : Method) (c : Code) (D : va_G) : Prop := p.tables.exec = Jvm.exec ∧ c.code = Y.2.1 ∧ c.maxLocals = Y.2.2.1 ∧ meth.sig.returnType = Y.2.2.2.1 ∧ meth.locks = false ∧ s.vm.findClass Y.1.cls = some m.cls ∧ (∀ w ∈ cc_GT, w.before args s = true) ∧ cc_K D cy s
/-- the walk of the method Y from a place on, with its locals, its stack and the world G: it comes to its end with Q -/
def cc_R (cy : Nat → ClassId) (Y : cc_Y) (z pc : Nat) (ls : List (Nat × Value)) (st : List Value) (G : cc_G) (Q : Option Value → cc_G → Prop) : Prop :=
  ∀ ⦃p : Program⦄ ⦃l : Launch⦄ ⦃e : Env⦄ ⦃s : State⦄ ⦃m : MethodId⦄ ⦃args : Array Value⦄ ⦃below : List Frame⦄ ⦃meth : Method⦄ ⦃c : Code⦄ ⦃D : va_G⦄ ⦃A : Nat → Prop⦄ ⦃H : Heap⦄ ⦃locs : List Loc⦄ ⦃la : Array Slot⦄, cc_C cy Y p s m args meth c D → cc_M D A z G H → va_S A s.heap H locs → lv_has la Y.2.2.1 ls →
    W p l e (headSpec (cc_W Y) Y.2.2.2.2).room s m args below meth c H locs 0 0 (MQ below (cc_Q D A z Q) args s 0 0 A) (F0 m pc la st)
theorem cc_enter {cy : Nat → ClassId} {Y : cc_Y} {as : List Value} {z : Nat} {G : cc_G} {Q : Option Value → cc_G → Prop} (ok : cc_Ok Y) (hlen : (lg_sl as).length ≤ Y.2.2.1) {ls : List (Nat × Value)} (hls : lv_args 0 as = ls) (h : cc_R cy Y z 0 ls [] G Q) : cc_Cn cy Y as z G Q := by
  intro l D A
  refine Met.ofW (cc := Y.2.1) (maxL := Y.2.2.1) (ret := Y.2.2.2.1) ok.2.2.1 rfl ?_
  intro p e s m args below meth c s₁ B hml hv
  obtain ⟨rfl, hM, hK⟩ := hv
  have hts := atoms_spec (ws := cc_W Y) B.pre
  have hl := lv_entry as (n := Y.2.2.1) hlen
  rw [hls] at hl
  rw [lg_entry_eq]
  exact h ⟨B.exec, B.bytes, hml, B.returns, B.notSynchronized, findClass_of_methodNamed B.named, fun w hw => hts w (List.mem_cons_of_mem _ hw), hK⟩ hM va_S.rf hl
section VMC
variable {p : Program} {l : Launch} {e : Env} {R : Room} {s : State} {m : MethodId} {args : Array Value} {below : List Frame} {meth : Method} {c : Code} {H : Heap} {locs : List Loc} {cells slots : Nat} {Qf : State → Prop}
variable {cc : ByteArray} {pc : Nat} {ls : Array Slot} {rest st0 : List Value} {D : va_G} {A : Nat → Prop} {H0 : Heap} {z : Nat} {G : cc_G} {cy : Nat → ClassId}
theorem vm_call {z' mc ms : Nat} {a : Array Value} {Q' : Option Value → cc_G → Prop} (hr : va_Run p l e R s m args below meth c H locs cells slots mc ms (F0 m pc ls st0) rest (cc_Q D A z' Q' a) A) (hS : va_S A H0 H locs)
    (kk : ∀ (v : Option Value) (G' : cc_G) (H1 : Heap) (locs1 : List Loc), Q' v G' → cc_M D A z' G' H1 → va_S A H0 H1 locs1 → W p l e R s m args below meth c H1 locs1 (cells + mc) (slots + ms) Qf (F0 m (pc + 3) ls (v.toList ++ rest))) : W p l e R s m args below meth c H locs cells slots Qf (F0 m pc ls st0) := by
  intro T hT X
  obtain ⟨v, st₀, t, T', L, h0, X', hL, e1, e2, ⟨⟨v', G', hv, hq, hM'⟩, hz, hk⟩, st⟩ := hr T hT X
  cases hv
  rw [h0] at hz hk
  obtain ⟨t2, a1, b1⟩ := kk v G' T'.heap (locs ++ L) hq (by rw [e1]; exact hM') ⟨Nat.le_trans hS.1 (by rw [e1]; exact hz), fun q h1 h2 => by rw [e1, hk q (Nat.lt_of_lt_of_le h1 hS.1) h2]; exact hS.2.1 q h1 h2, fun q hq => by
      rcases List.mem_append.mp hq with h | h
      · exact hS.2.2 q h
      · exact hL q h⟩ T' rfl X'
  exact ⟨t2, st t2 a1, b1⟩
theorem cc_blind {as : List Value} : FrameBlind (va_Pc as (fun U => cc_M D A z G U.heap ∧ cc_K D cy U)) := fun a U g mk q => by
  obtain ⟨q0, q1, q2⟩ := q
  exact ⟨q0, q1, q2.same (u := U) (U := U.calling g mk a) rfl⟩
theorem cc_len {y : MethodName} {n : Nat} (h2 : (parseMethodDescriptor y.desc).map (fun d => d.parameters.length) = some n) : ∀ sig, parseMethodDescriptor y.desc = some sig → n = sig.parameters.length := fun sig h => by
  rw [h] at h2
  exact (Option.some.inj h2).symm
theorem vm_callV (hexec : p.tables.exec = Jvm.exec) (hb : c.code = cc) {nL : Nat} (hml : c.maxLocals = nL) (hsz : ls.size = nL) {own : String} (hown : s.vm.findClass own = some m.cls) (hg : ∀ w ∈ cc_GT, w.before args s = true) (hK : cc_K D cy s) (hM : cc_M D A z G H) (hS : va_S A H0 H locs) {Y' : cc_Y} {index b : Nat} {As : List Value} {Q' : Option Value → cc_G → Prop} (hC : cc_Cn cy Y' (.ref b :: As) z G Q') (ok : cc_Ok Y') {ci N : Nat} {T : u_T} {fs : List Value} (hbx : G b = some (.inr (ci, fs))) (hc : vwCl[ci]? = some (Y'.1.cls, T, N)) (him : Cond.instanceMethod Y'.1 ∈ cc_GT) (hsl : Cond.selects Y'.1.cls Y'.1 Y'.1 ∈ cc_GT) (hln : Cond.methodLink own index Y'.1 ∈ cc_GT) (hn : (parseMethodDescriptor Y'.1.desc).map (fun d => d.parameters.length) = some As.length) (hR : Y'.2.2.2.2.frames + 1 ≤ R.frames ∧ 8 + (Y'.2.2.1 + 11) + Y'.2.2.2.2.locals ≤ R.locals) (hcs : cells ≤ R.cells ∧ slots ≤ R.slots) (hcat : (rest.map fun v => v.category).sum ≤ 8) (hst : st0 = As.reverse ++ .ref b :: rest) (hdg : decode cc pc = .ok (.invokevirtual index, 3)) (kk : ∀ (v : Option Value) (G' : cc_G) (H1 : Heap) (locs1 : List Loc), Q' v G' → cc_M D A z G' H1 → va_S A H0 H1 locs1 → W p l e R s m args below meth c H1 locs1 cells slots Qf (F0 m (pc + 3) ls (v.toList ++ rest))) : W p l e R s m args below meth c H locs cells slots Qf (F0 m pc ls st0) :=
  vm_call (va_runV (As := As) (rest := rest) ⟨hexec, hb, hml, hown, hg⟩ (hC l D A) ⟨⟨ok.2.2.2.2.1, ok.2.2.2.2.2, hR.1, hR.2, pay_in hg (cc_good ok), List.mem_cons_self, hg _ ok.1, hg _ ok.2.1, ok.2.2.2.1, cc_len hn, hg _ hln⟩, hg _ him, hg _ hsl⟩ ⟨cc_blind, va_recv hK.1 (hM.one hbx) (q0 := 0) hc rfl, fun U hU hW => ⟨rfl, by rw [hU]; exact hM, hK.warm hW⟩⟩ rfl rfl hsz hst (lv_room hcat) hdg hcs) hS kk
theorem vm_callVN (hexec : p.tables.exec = Jvm.exec) (hb : c.code = cc) {nL : Nat} (hml : c.maxLocals = nL) (hsz : ls.size = nL) {own : String} (hown : s.vm.findClass own = some m.cls) (hg : ∀ w ∈ cc_GT, w.before args s = true) (hK : cc_K D cy s) (hM : cc_M D A z G H) (hS : va_S A H0 H locs) {Y' : cc_Y} {index b : Nat} {As : List Value} {Q' : Option Value → cc_G → Prop} (hC : cc_Cn cy Y' (.ref b :: As) z G Q') (ok : cc_Ok Y') {ci N : Nat} {T : u_T} {fs : List Value} {host : String} (hbx : G b = some (.inr (ci, fs))) (hc : vwCl[ci]? = some (Y'.1.cls, T, N)) (him : Cond.instanceMethod Y'.1 ∈ cc_GT) (hsl : Cond.selects Y'.1.cls Y'.1 Y'.1 ∈ cc_GT) (hln : Cond.methodLinkNest own index Y'.1 host ∈ cc_NT) (hn : (parseMethodDescriptor Y'.1.desc).map (fun d => d.parameters.length) = some As.length) (hR : Y'.2.2.2.2.frames + 1 ≤ R.frames ∧ 8 + (Y'.2.2.1 + 11) + Y'.2.2.2.2.locals ≤ R.locals) (hcs : cells ≤ R.cells ∧ slots ≤ R.slots) (hcat : (rest.map fun v => v.category).sum ≤ 8) (hst : st0 = As.reverse ++ .ref b :: rest) (hdg : decode cc pc = .ok (.invokevirtual index, 3)) (kk : ∀ (v : Option Value) (G' : cc_G) (H1 : Heap) (locs1 : List Loc), Q' v G' → cc_M D A z G' H1 → va_S A H0 H1 locs1 → W p l e R s m args below meth c H1 locs1 cells slots Qf (F0 m (pc + 3) ls (v.toList ++ rest))) : W p l e R s m args below meth c H locs cells slots Qf (F0 m pc ls st0) :=
  vm_call (va_runVN (As := As) (rest := rest) (host := host) ⟨hexec, hb, hml, hown, hg⟩ (hC l D A) ⟨⟨⟨ok.2.2.2.2.1, ok.2.2.2.2.2, hR.1, hR.2, pay_in hg (cc_good ok), List.mem_cons_self⟩, hg _ ok.1, hg _ ok.2.1, ok.2.2.2.1, cc_len hn, va_Nw.use rfl (hK.2 _ hln)⟩, hg _ him, hg _ hsl⟩ ⟨cc_blind, va_recv hK.1 (hM.one hbx) (q0 := 0) hc rfl, fun U hU hW => ⟨rfl, by rw [hU]; exact hM, hK.warm hW⟩⟩ rfl rfl hsz hst (lv_room hcat) hdg hcs) hS kk
theorem vm_callS (hexec : p.tables.exec = Jvm.exec) (hb : c.code = cc) {nL : Nat} (hml : c.maxLocals = nL) (hsz : ls.size = nL) {own : String} (hown : s.vm.findClass own = some m.cls) (hg : ∀ w ∈ cc_GT, w.before args s = true) (hK : cc_K D cy s) (hM : cc_M D A z G H) (hS : va_S A H0 H locs) {Y' : cc_Y} {index : Nat} {As : List Value} {Q' : Option Value → cc_G → Prop} (hC : cc_Cn cy Y' As z G Q') (ok : cc_Ok Y') (hstc : Cond.static Y'.1 ∈ cc_GT) (hln : Cond.methodLink own index Y'.1 ∈ cc_GT) (hn : (parseMethodDescriptor Y'.1.desc).map (fun d => d.parameters.length) = some As.length) (hR : Y'.2.2.2.2.frames + 1 ≤ R.frames ∧ 8 + (Y'.2.2.1 + 11) + Y'.2.2.2.2.locals ≤ R.locals) (hcs : cells ≤ R.cells ∧ slots ≤ R.slots) (hcat : (rest.map fun v => v.category).sum ≤ 8) (hst : st0 = As.reverse ++ rest) (hdg : decode cc pc = .ok (.invokestatic index, 3)) (kk : ∀ (v : Option Value) (G' : cc_G) (H1 : Heap) (locs1 : List Loc), Q' v G' → cc_M D A z G' H1 → va_S A H0 H1 locs1 → W p l e R s m args below meth c H1 locs1 cells slots Qf (F0 m (pc + 3) ls (v.toList ++ rest))) : W p l e R s m args below meth c H locs cells slots Qf (F0 m pc ls st0) :=
  vm_call (va_runS (As := As) (rest := rest) ⟨hexec, hb, hml, hown, hg⟩ (hC l D A) ⟨⟨ok.2.2.2.2.1, ok.2.2.2.2.2, hR.1, hR.2, pay_in hg (cc_good ok), List.mem_cons_self, hg _ ok.1, hg _ ok.2.1, ok.2.2.2.1, cc_len hn, hg _ hln⟩, hg _ hstc⟩ ⟨cc_blind, fun U hU hW => ⟨rfl, by rw [hU]; exact hM, hK.warm hW⟩⟩ rfl rfl hsz hst (lv_room hcat) hdg hcs) hS kk
end VMC
def cc_rm (x y : Int32) : Int32 := x - x / y * y
def cc_qi (P : Int32 → cc_G → Prop) : Option Value → cc_G → Prop := fun v G => ∃ r : Int32, v = some (.int r) ∧ P r G
def cc_qv (P : cc_G → Prop) : Option Value → cc_G → Prop := fun v G => v = none ∧ P G
section CCR
variable {cy : Nat → ClassId} {Y : cc_Y} {z pc : Nat} {ls ls' : List (Nat × Value)} {st : List Value} {G : cc_G} {Q : Option Value → cc_G → Prop}
theorem cc_iconst {n : Int} {v : Int32} (hd : decode Y.2.1 pc = .ok (.iconst n, 1)) (hv : Int32.ofInt n = v) (k : cc_R cy Y z (pc + 1) ls (.int v :: st) G Q) : cc_R cy Y z pc ls st G Q := by
  intro p l e s m args below meth c D A H locs la C hM hS hl
  exact lv_iconst C.1 C.2.1 hd hv (k C hM hS hl)
theorem cc_bipush {n : Int} {v : Int32} (hd : decode Y.2.1 pc = .ok (.bipush n, 2)) (hv : (Int8.ofInt n).toInt32 = v) (k : cc_R cy Y z (pc + 2) ls (.int v :: st) G Q) : cc_R cy Y z pc ls st G Q := by
  intro p l e s m args below meth c D A H locs la C hM hS hl
  exact lv_bipush C.1 C.2.1 hd hv (k C hM hS hl)
theorem cc_sipush {n : Int} {v : Int32} (hd : decode Y.2.1 pc = .ok (.sipush n, 3)) (hv : (Int16.ofInt n).toInt32 = v) (k : cc_R cy Y z (pc + 3) ls (.int v :: st) G Q) : cc_R cy Y z pc ls st G Q := by
  intro p l e s m args below meth c D A H locs la C hM hS hl
  exact lv_sipush C.1 C.2.1 hd hv (k C hM hS hl)
theorem cc_iload_n {q : Fin 4} {i j : Nat} {x : Int32} (hd : decode Y.2.1 pc = .ok (.iload_n q, 1)) (hi : (q : Nat) = i) (hk : ls[j]? = some (i, .int x)) (k : cc_R cy Y z (pc + 1) ls (.int x :: st) G Q) : cc_R cy Y z pc ls st G Q := by
  intro p l e s m args below meth c D A H locs la C hM hS hl
  exact lv_iload_n C.1 C.2.1 hd hi (lv_at hl j hk) (k C hM hS hl)
theorem cc_iload {i j : Nat} {x : Int32} (hd : decode Y.2.1 pc = .ok (.iload i, 2)) (hk : ls[j]? = some (i, .int x)) (k : cc_R cy Y z (pc + 2) ls (.int x :: st) G Q) : cc_R cy Y z pc ls st G Q := by
  intro p l e s m args below meth c D A H locs la C hM hS hl
  exact lv_iload C.1 C.2.1 hd (lv_at hl j hk) (k C hM hS hl)
theorem cc_istore_n {q : Fin 4} {i : Nat} {x : Int32} (hd : decode Y.2.1 pc = .ok (.istore_n q, 1)) (hi : (q : Nat) = i) (hn : i < Y.2.2.1) (hf : (i, Value.int x) :: ls.filter (fun q => !(q.1 == i) && !(q.1 + 1 == i && q.2.category == 2)) = ls') (k : cc_R cy Y z (pc + 1) ls' st G Q) : cc_R cy Y z pc ls (.int x :: st) G Q := by
  intro p l e s m args below meth c D A H locs la C hM hS hl
  exact lv_istore_n C.1 C.2.1 hd hi hl hn hf (fun la' hl' => k C hM hS hl')
theorem cc_istore {i : Nat} {x : Int32} (hd : decode Y.2.1 pc = .ok (.istore i, 2)) (hn : i < Y.2.2.1) (hf : (i, Value.int x) :: ls.filter (fun q => !(q.1 == i) && !(q.1 + 1 == i && q.2.category == 2)) = ls') (k : cc_R cy Y z (pc + 2) ls' st G Q) : cc_R cy Y z pc ls (.int x :: st) G Q := by
  intro p l e s m args below meth c D A H locs la C hM hS hl
  exact lv_istore C.1 C.2.1 hd hl hn hf (fun la' hl' => k C hM hS hl')
theorem cc_aload_n {q : Fin 4} {i j : Nat} {x : Nat} (hd : decode Y.2.1 pc = .ok (.aload_n q, 1)) (hi : (q : Nat) = i) (hk : ls[j]? = some (i, .ref x)) (k : cc_R cy Y z (pc + 1) ls (.ref x :: st) G Q) : cc_R cy Y z pc ls st G Q := by
  intro p l e s m args below meth c D A H locs la C hM hS hl
  exact lv_aload_n C.1 C.2.1 hd hi (lv_at hl j hk) (k C hM hS hl)
theorem cc_aload {i j : Nat} {x : Nat} (hd : decode Y.2.1 pc = .ok (.aload i, 2)) (hk : ls[j]? = some (i, .ref x)) (k : cc_R cy Y z (pc + 2) ls (.ref x :: st) G Q) : cc_R cy Y z pc ls st G Q := by
  intro p l e s m args below meth c D A H locs la C hM hS hl
  exact lv_aload C.1 C.2.1 hd (lv_at hl j hk) (k C hM hS hl)
theorem cc_astore_n {q : Fin 4} {i : Nat} {x : Nat} (hd : decode Y.2.1 pc = .ok (.astore_n q, 1)) (hi : (q : Nat) = i) (hn : i < Y.2.2.1) (hf : (i, Value.ref x) :: ls.filter (fun q => !(q.1 == i) && !(q.1 + 1 == i && q.2.category == 2)) = ls') (k : cc_R cy Y z (pc + 1) ls' st G Q) : cc_R cy Y z pc ls (.ref x :: st) G Q := by
  intro p l e s m args below meth c D A H locs la C hM hS hl
  exact lv_astore_n C.1 C.2.1 hd hi hl hn hf (fun la' hl' => k C hM hS hl')
theorem cc_astore {i : Nat} {x : Nat} (hd : decode Y.2.1 pc = .ok (.astore i, 2)) (hn : i < Y.2.2.1) (hf : (i, Value.ref x) :: ls.filter (fun q => !(q.1 == i) && !(q.1 + 1 == i && q.2.category == 2)) = ls') (k : cc_R cy Y z (pc + 2) ls' st G Q) : cc_R cy Y z pc ls (.ref x :: st) G Q := by
  intro p l e s m args below meth c D A H locs la C hM hS hl
  exact lv_astore C.1 C.2.1 hd hl hn hf (fun la' hl' => k C hM hS hl')
theorem cc_iinc {i j : Nat} {n : Int} {x v : Int32} (hd : decode Y.2.1 pc = .ok (.iinc i n, 3)) (hk : ls[j]? = some (i, .int x)) (hv : x + Int32.ofInt n = v) (hn : i < Y.2.2.1) (hf : (i, Value.int v) :: ls.filter (fun q => !(q.1 == i) && !(q.1 + 1 == i && q.2.category == 2)) = ls') (k : cc_R cy Y z (pc + 3) ls' st G Q) : cc_R cy Y z pc ls st G Q := by
  intro p l e s m args below meth c D A H locs la C hM hS hl
  exact lv_iinc C.1 C.2.1 hd hl hk hv hn hf (fun la' hl' => k C hM hS hl')
theorem cc_iadd {x y : Int32} (hd : decode Y.2.1 pc = .ok (.iadd, 1)) (k : cc_R cy Y z (pc + 1) ls (.int (x + y) :: st) G Q) : cc_R cy Y z pc ls (.int y :: .int x :: st) G Q := by
  intro p l e s m args below meth c D A H locs la C hM hS hl
  exact lv_iadd C.1 C.2.1 hd (k C hM hS hl)
theorem cc_isub {x y : Int32} (hd : decode Y.2.1 pc = .ok (.isub, 1)) (k : cc_R cy Y z (pc + 1) ls (.int (x - y) :: st) G Q) : cc_R cy Y z pc ls (.int y :: .int x :: st) G Q := by
  intro p l e s m args below meth c D A H locs la C hM hS hl
  exact lv_isub C.1 C.2.1 hd (k C hM hS hl)
theorem cc_imul {x y : Int32} (hd : decode Y.2.1 pc = .ok (.imul, 1)) (k : cc_R cy Y z (pc + 1) ls (.int (x * y) :: st) G Q) : cc_R cy Y z pc ls (.int y :: .int x :: st) G Q := by
  intro p l e s m args below meth c D A H locs la C hM hS hl
  exact lv_imul C.1 C.2.1 hd (k C hM hS hl)
theorem cc_iand {x y : Int32} (hd : decode Y.2.1 pc = .ok (.iand, 1)) (k : cc_R cy Y z (pc + 1) ls (.int (x &&& y) :: st) G Q) : cc_R cy Y z pc ls (.int y :: .int x :: st) G Q := by
  intro p l e s m args below meth c D A H locs la C hM hS hl
  exact lv_iand C.1 C.2.1 hd (k C hM hS hl)
theorem cc_irem {x y : Int32} (hd : decode Y.2.1 pc = .ok (.irem, 1)) (hne : ¬ y = 0) (k : cc_R cy Y z (pc + 1) ls (.int (cc_rm x y) :: st) G Q) : cc_R cy Y z pc ls (.int y :: .int x :: st) G Q := by
  intro p l e s m args below meth c D A H locs la C hM hS hl
  exact lv_irem C.1 C.2.1 hd hne (k C hM hS hl)
theorem cc_i2c {x v : Int32} (hd : decode Y.2.1 pc = .ok (.i2c, 1)) (hv : (x.toUInt32 % 65536).toInt32 = v) (k : cc_R cy Y z (pc + 1) ls (.int v :: st) G Q) : cc_R cy Y z pc ls (.int x :: st) G Q := by
  intro p l e s m args below meth c D A H locs la C hM hS hl
  exact lv_i2c C.1 C.2.1 hd hv (k C hM hS hl)
theorem cc_dup {v : Value} (hd : decode Y.2.1 pc = .ok (.dup, 1)) (hv : v.category = 1) (k : cc_R cy Y z (pc + 1) ls (v :: v :: st) G Q) : cc_R cy Y z pc ls (v :: st) G Q := by
  intro p l e s m args below meth c D A H locs la C hM hS hl
  exact lv_dup C.1 C.2.1 hd hv (k C hM hS hl)
theorem cc_pop {v : Value} (hd : decode Y.2.1 pc = .ok (.pop, 1)) (hv : v.category = 1) (k : cc_R cy Y z (pc + 1) ls st G Q) : cc_R cy Y z pc ls (v :: st) G Q := by
  intro p l e s m args below meth c D A H locs la C hM hS hl
  exact lv_pop C.1 C.2.1 hd hv (k C hM hS hl)
theorem cc_dup_x1 {v w : Value} (hd : decode Y.2.1 pc = .ok (.dup_x1, 1)) (hv : v.category = 1) (hw : w.category = 1) (k : cc_R cy Y z (pc + 1) ls (v :: w :: v :: st) G Q) : cc_R cy Y z pc ls (v :: w :: st) G Q := by
  intro p l e s m args below meth c D A H locs la C hM hS hl
  exact lv_dup_x1 C.1 C.2.1 hd hv hw (k C hM hS hl)
theorem cc_dup2 {v w : Value} (hd : decode Y.2.1 pc = .ok (.dup2, 1)) (hv : v.category = 1) (hw : w.category = 1) (k : cc_R cy Y z (pc + 1) ls (v :: w :: v :: w :: st) G Q) : cc_R cy Y z pc ls (v :: w :: st) G Q := by
  intro p l e s m args below meth c D A H locs la C hM hS hl
  exact lv_dup2_11 C.1 C.2.1 hd hv hw (k C hM hS hl)
theorem cc_goto {off : Int} {tgt : Nat} (hd : decode Y.2.1 pc = .ok (.goto off, 3)) (ht : (pc : Int) + off = (tgt : Int)) (k : cc_R cy Y z tgt ls st G Q) : cc_R cy Y z pc ls st G Q := by
  intro p l e s m args below meth c D A H locs la C hM hS hl
  exact lv_goto C.1 C.2.1 hd ht (k C hM hS hl)
theorem cc_if_eq {x : Int32} {off : Int} {tgt : Nat} (hd : decode Y.2.1 pc = .ok (.ifCond .eq off, 3)) (ht : (pc : Int) + off = (tgt : Int)) (kt : x = 0 → cc_R cy Y z tgt ls st G Q) (kf : ¬ x = 0 → cc_R cy Y z (pc + 3) ls st G Q) : cc_R cy Y z pc ls (.int x :: st) G Q := by
  intro p l e s m args below meth c D A H locs la C hM hS hl
  exact lv_if_eq C.1 C.2.1 hd ht (fun q => kt q C hM hS hl) (fun q => kf q C hM hS hl)
theorem cc_if_ne {x : Int32} {off : Int} {tgt : Nat} (hd : decode Y.2.1 pc = .ok (.ifCond .ne off, 3)) (ht : (pc : Int) + off = (tgt : Int)) (kt : ¬ x = 0 → cc_R cy Y z tgt ls st G Q) (kf : x = 0 → cc_R cy Y z (pc + 3) ls st G Q) : cc_R cy Y z pc ls (.int x :: st) G Q := by
  intro p l e s m args below meth c D A H locs la C hM hS hl
  exact lv_if_ne C.1 C.2.1 hd ht (fun q => kt q C hM hS hl) (fun q => kf q C hM hS hl)
theorem cc_if_lt {x : Int32} {off : Int} {tgt : Nat} (hd : decode Y.2.1 pc = .ok (.ifCond .lt off, 3)) (ht : (pc : Int) + off = (tgt : Int)) (kt : x < 0 → cc_R cy Y z tgt ls st G Q) (kf : ¬ x < 0 → cc_R cy Y z (pc + 3) ls st G Q) : cc_R cy Y z pc ls (.int x :: st) G Q := by
  intro p l e s m args below meth c D A H locs la C hM hS hl
  exact lv_if_lt C.1 C.2.1 hd ht (fun q => kt q C hM hS hl) (fun q => kf q C hM hS hl)
theorem cc_if_ge {x : Int32} {off : Int} {tgt : Nat} (hd : decode Y.2.1 pc = .ok (.ifCond .ge off, 3)) (ht : (pc : Int) + off = (tgt : Int)) (kt : 0 ≤ x → cc_R cy Y z tgt ls st G Q) (kf : ¬ 0 ≤ x → cc_R cy Y z (pc + 3) ls st G Q) : cc_R cy Y z pc ls (.int x :: st) G Q := by
  intro p l e s m args below meth c D A H locs la C hM hS hl
  exact lv_if_ge C.1 C.2.1 hd ht (fun q => kt q C hM hS hl) (fun q => kf q C hM hS hl)
theorem cc_if_gt {x : Int32} {off : Int} {tgt : Nat} (hd : decode Y.2.1 pc = .ok (.ifCond .gt off, 3)) (ht : (pc : Int) + off = (tgt : Int)) (kt : 0 < x → cc_R cy Y z tgt ls st G Q) (kf : ¬ 0 < x → cc_R cy Y z (pc + 3) ls st G Q) : cc_R cy Y z pc ls (.int x :: st) G Q := by
  intro p l e s m args below meth c D A H locs la C hM hS hl
  exact lv_if_gt C.1 C.2.1 hd ht (fun q => kt q C hM hS hl) (fun q => kf q C hM hS hl)
theorem cc_if_le {x : Int32} {off : Int} {tgt : Nat} (hd : decode Y.2.1 pc = .ok (.ifCond .le off, 3)) (ht : (pc : Int) + off = (tgt : Int)) (kt : x ≤ 0 → cc_R cy Y z tgt ls st G Q) (kf : ¬ x ≤ 0 → cc_R cy Y z (pc + 3) ls st G Q) : cc_R cy Y z pc ls (.int x :: st) G Q := by
  intro p l e s m args below meth c D A H locs la C hM hS hl
  exact lv_if_le C.1 C.2.1 hd ht (fun q => kt q C hM hS hl) (fun q => kf q C hM hS hl)
theorem cc_icmp_eq {x y : Int32} {off : Int} {tgt : Nat} (hd : decode Y.2.1 pc = .ok (.if_icmp .eq off, 3)) (ht : (pc : Int) + off = (tgt : Int)) (kt : x = y → cc_R cy Y z tgt ls st G Q) (kf : ¬ x = y → cc_R cy Y z (pc + 3) ls st G Q) : cc_R cy Y z pc ls (.int y :: .int x :: st) G Q := by
  intro p l e s m args below meth c D A H locs la C hM hS hl
  exact lv_icmp_eq C.1 C.2.1 hd ht (fun q => kt q C hM hS hl) (fun q => kf q C hM hS hl)
theorem cc_icmp_ne {x y : Int32} {off : Int} {tgt : Nat} (hd : decode Y.2.1 pc = .ok (.if_icmp .ne off, 3)) (ht : (pc : Int) + off = (tgt : Int)) (kt : ¬ x = y → cc_R cy Y z tgt ls st G Q) (kf : x = y → cc_R cy Y z (pc + 3) ls st G Q) : cc_R cy Y z pc ls (.int y :: .int x :: st) G Q := by
  intro p l e s m args below meth c D A H locs la C hM hS hl
  exact lv_icmp_ne C.1 C.2.1 hd ht (fun q => kt q C hM hS hl) (fun q => kf q C hM hS hl)
theorem cc_icmp_lt {x y : Int32} {off : Int} {tgt : Nat} (hd : decode Y.2.1 pc = .ok (.if_icmp .lt off, 3)) (ht : (pc : Int) + off = (tgt : Int)) (kt : x < y → cc_R cy Y z tgt ls st G Q) (kf : ¬ x < y → cc_R cy Y z (pc + 3) ls st G Q) : cc_R cy Y z pc ls (.int y :: .int x :: st) G Q := by
  intro p l e s m args below meth c D A H locs la C hM hS hl
  exact lv_icmp_lt C.1 C.2.1 hd ht (fun q => kt q C hM hS hl) (fun q => kf q C hM hS hl)
theorem cc_icmp_ge {x y : Int32} {off : Int} {tgt : Nat} (hd : decode Y.2.1 pc = .ok (.if_icmp .ge off, 3)) (ht : (pc : Int) + off = (tgt : Int)) (kt : y ≤ x → cc_R cy Y z tgt ls st G Q) (kf : ¬ y ≤ x → cc_R cy Y z (pc + 3) ls st G Q) : cc_R cy Y z pc ls (.int y :: .int x :: st) G Q := by
  intro p l e s m args below meth c D A H locs la C hM hS hl
  exact lv_icmp_ge C.1 C.2.1 hd ht (fun q => kt q C hM hS hl) (fun q => kf q C hM hS hl)
theorem cc_icmp_gt {x y : Int32} {off : Int} {tgt : Nat} (hd : decode Y.2.1 pc = .ok (.if_icmp .gt off, 3)) (ht : (pc : Int) + off = (tgt : Int)) (kt : y < x → cc_R cy Y z tgt ls st G Q) (kf : ¬ y < x → cc_R cy Y z (pc + 3) ls st G Q) : cc_R cy Y z pc ls (.int y :: .int x :: st) G Q := by
  intro p l e s m args below meth c D A H locs la C hM hS hl
  exact lv_icmp_gt C.1 C.2.1 hd ht (fun q => kt q C hM hS hl) (fun q => kf q C hM hS hl)
theorem cc_icmp_le {x y : Int32} {off : Int} {tgt : Nat} (hd : decode Y.2.1 pc = .ok (.if_icmp .le off, 3)) (ht : (pc : Int) + off = (tgt : Int)) (kt : x ≤ y → cc_R cy Y z tgt ls st G Q) (kf : ¬ x ≤ y → cc_R cy Y z (pc + 3) ls st G Q) : cc_R cy Y z pc ls (.int y :: .int x :: st) G Q := by
  intro p l e s m args below meth c D A H locs la C hM hS hl
  exact lv_icmp_le C.1 C.2.1 hd ht (fun q => kt q C hM hS hl) (fun q => kf q C hM hS hl)
theorem cc_tableOut {dflt lo hi : Int} {offs : Array Int} {len : Nat} {x : Int32} {tgt : Nat} (hd : decode Y.2.1 pc = .ok (.tableswitch dflt lo hi offs, len)) (h : x.toInt < lo ∨ hi < x.toInt) (ht : (pc : Int) + dflt = (tgt : Int)) (k : cc_R cy Y z tgt ls st G Q) : cc_R cy Y z pc ls (.int x :: st) G Q := by
  intro p l e s m args below meth c D A H locs la C hM hS hl
  exact lv_tableOut C.1 C.2.1 hd h ht (k C hM hS hl)
theorem cc_tableIn {dflt lo hi : Int} {offs : Array Int} {len : Nat} {x : Int32} {off : Int} {tgt : Nat} (hd : decode Y.2.1 pc = .ok (.tableswitch dflt lo hi offs, len)) (h1 : ¬ x.toInt < lo) (h2 : ¬ hi < x.toInt) (ho : offs[(x.toInt - lo).toNat]? = some off) (ht : (pc : Int) + off = (tgt : Int)) (k : cc_R cy Y z tgt ls st G Q) : cc_R cy Y z pc ls (.int x :: st) G Q := by
  intro p l e s m args below meth c D A H locs la C hM hS hl
  exact lv_tableIn C.1 C.2.1 hd h1 h2 ho ht (k C hM hS hl)
theorem cc_lookup {dflt : Int} {ps : Array (Int × Int)} {len : Nat} {x : Int32} {off : Int} {tgt : Nat} (hd : decode Y.2.1 pc = .ok (.lookupswitch dflt ps, len)) (hp : (ps.toList.zip (ps.toList.drop 1)).all (fun (a, next) => a.1 < next.1) = true) (ho : Op.lookupswitch.offset ps.toList dflt x.toInt = off) (ht : (pc : Int) + off = (tgt : Int)) (k : cc_R cy Y z tgt ls st G Q) : cc_R cy Y z pc ls (.int x :: st) G Q := by
  intro p l e s m args below meth c D A H locs la C hM hS hl
  exact lv_lookup C.1 C.2.1 hd hp ho ht (k C hM hS hl)
theorem cc_topi {x : Int32} (k : ∀ y : Int32, y = x → cc_R cy Y z pc ls (.int y :: st) G Q) : cc_R cy Y z pc ls (.int x :: st) G Q := k x rfl
theorem cc_get {a ci N idx : Nat} {T : u_T} {ty0 : Nat → FieldType} {fs : List Value} {v : Value} (hG : G a = some (.inr (ci, fs))) (hcl : cc_Cl ci Y.1.cls T N ty0) (k0 : Nat) (hk0 : k0 < N) (hln : Cond.fieldLink Y.1.cls idx (T k0).1 (T k0).2.1 (T k0).2.2.1 ∈ cc_GT) (hv : fs[k0]? = some v) (hd : decode Y.2.1 pc = .ok (.getfield idx, 3)) (k : cc_R cy Y z (pc + 3) ls (v :: st) G Q) : cc_R cy Y z pc ls (.ref a :: st) G Q := by
  intro p l e s m args below meth c D A H locs la C hM hS hl
  exact vm_get C.1 C.2.1 C.2.2.2.2.2.2.1 C.2.2.2.2.2.1 C.2.2.2.2.2.2.2.1 hM hG hcl k0 hk0 hln hv hd (k C hM hS hl)
theorem cc_put {a ci N idx : Nat} {T : u_T} {ty0 : Nat → FieldType} {fs : List Value} {v : Value} {ty : FieldType} (hG : G a = some (.inr (ci, fs))) (hcl : cc_Cl ci Y.1.cls T N ty0) (k0 : Nat) (hk0 : k0 < N) (hln : Cond.fieldLink Y.1.cls idx (T k0).1 (T k0).2.1 (T k0).2.2.1 ∈ cc_GT) (hfin : (T k0).2.2.2 = false) (hdt : parseFieldDescriptor (T k0).2.2.1 = some ty) (hn : narrow ty v = v) (hfit : fits ty v = true) (hlen : k0 < fs.length) (hd : decode Y.2.1 pc = .ok (.putfield idx, 3)) (k : cc_R cy Y z (pc + 3) ls st (va_up G a (some (.inr (ci, fs.set k0 v)))) Q) : cc_R cy Y z pc ls (v :: .ref a :: st) G Q := by
  intro p l e s m args below meth c D A H locs la C hM hS hl
  exact vm_put C.1 C.2.1 C.2.2.2.2.2.2.1 C.2.2.2.2.2.1 C.2.2.2.2.2.2.2.1 hM hS hG hcl k0 hk0 hln hfin hdt hn hfit hlen hd (fun H1 locs1 hM hS => k C hM hS hl)
theorem cc_getN {a ci N idx : Nat} {T : u_T} {ty0 : Nat → FieldType} {fs : List Value} {CC host : String} {v : Value} (hG : G a = some (.inr (ci, fs))) (hcl : cc_Cl ci CC T N ty0) (k0 : Nat) (hk0 : k0 < N) (hln : Cond.fieldLinkNest Y.1.cls idx (T k0).1 (T k0).2.1 (T k0).2.2.1 host ∈ cc_NT) (hv : fs[k0]? = some v) (hd : decode Y.2.1 pc = .ok (.getfield idx, 3)) (k : cc_R cy Y z (pc + 3) ls (v :: st) G Q) : cc_R cy Y z pc ls (.ref a :: st) G Q := by
  intro p l e s m args below meth c D A H locs la C hM hS hl
  exact vm_getN C.1 C.2.1 C.2.2.2.2.2.2.1 C.2.2.2.2.2.1 C.2.2.2.2.2.2.2.1 hM hG hcl k0 hk0 hln C.2.2.2.2.2.2.2.2 hv hd (k C hM hS hl)
theorem cc_putN {a ci N idx : Nat} {T : u_T} {ty0 : Nat → FieldType} {fs : List Value} {CC host : String} {v : Value} {ty : FieldType} (hG : G a = some (.inr (ci, fs))) (hcl : cc_Cl ci CC T N ty0) (k0 : Nat) (hk0 : k0 < N) (hln : Cond.fieldLinkNest Y.1.cls idx (T k0).1 (T k0).2.1 (T k0).2.2.1 host ∈ cc_NT) (hfin : (T k0).2.2.2 = false) (hdt : parseFieldDescriptor (T k0).2.2.1 = some ty) (hn : narrow ty v = v) (hfit : fits ty v = true) (hlen : k0 < fs.length) (hd : decode Y.2.1 pc = .ok (.putfield idx, 3)) (k : cc_R cy Y z (pc + 3) ls st (va_up G a (some (.inr (ci, fs.set k0 v)))) Q) : cc_R cy Y z pc ls (v :: .ref a :: st) G Q := by
  intro p l e s m args below meth c D A H locs la C hM hS hl
  exact vm_putN C.1 C.2.1 C.2.2.2.2.2.2.1 C.2.2.2.2.2.1 C.2.2.2.2.2.2.2.1 hM hS hG hcl k0 hk0 hln C.2.2.2.2.2.2.2.2 hfin hdt hn hfit hlen hd (fun H1 locs1 hM hS => k C hM hS hl)
theorem cc_iald {a n : Nat} {f : Nat → Int32} {i : Int32} {x : Int32} (hG : G a = some (.inl (cy 1, n, .inl f))) (hin : vp_in i n) (hx : f i.toNatClampNeg = x) (hd : decode Y.2.1 pc = .ok (.iaload, 1)) (k : cc_R cy Y z (pc + 1) ls (.int x :: st) G Q) : cc_R cy Y z pc ls (.int i :: .ref a :: st) G Q := by
  intro p l e s m args below meth c D A H locs la C hM hS hl
  subst hx
  exact vm_iald C.1 C.2.1 C.2.2.2.2.2.2.2.1 hM 1 hG rfl hin hd (k C hM hS hl)
theorem cc_cald {a n : Nat} {f : Nat → Int32} {i : Int32} {x : Int32} (hG : G a = some (.inl (cy 0, n, .inl f))) (hin : vp_in i n) (hx : f i.toNatClampNeg = x) (hd : decode Y.2.1 pc = .ok (.caload, 1)) (k : cc_R cy Y z (pc + 1) ls (.int x :: st) G Q) : cc_R cy Y z pc ls (.int i :: .ref a :: st) G Q := by
  intro p l e s m args below meth c D A H locs la C hM hS hl
  subst hx
  exact vm_cald C.1 C.2.1 C.2.2.2.2.2.2.2.1 hM 0 hG rfl hin hd (k C hM hS hl)
theorem cc_zald {a n : Nat} {f : Nat → Int32} {i : Int32} {x : Int32} (hG : G a = some (.inl (cy 2, n, .inl f))) (hin : vp_in i n) (hx : f i.toNatClampNeg = x) (hd : decode Y.2.1 pc = .ok (.baload, 1)) (k : cc_R cy Y z (pc + 1) ls (.int x :: st) G Q) : cc_R cy Y z pc ls (.int i :: .ref a :: st) G Q := by
  intro p l e s m args below meth c D A H locs la C hM hS hl
  subst hx
  exact vm_zald C.1 C.2.1 C.2.2.2.2.2.2.2.1 hM 2 hG rfl hin hd (k C hM hS hl)
theorem cc_iast {a n : Nat} {f : Nat → Int32} {i x : Int32} {j : Nat} (hG : G a = some (.inl (cy 1, n, .inl f))) (hin : vp_in i n) (hj : i.toNatClampNeg = j) (hd : decode Y.2.1 pc = .ok (.iastore, 1)) (k : cc_R cy Y z (pc + 1) ls st (va_up G a (some (.inl (cy 1, n, .inl (upd f j x))))) Q) : cc_R cy Y z pc ls (.int x :: .int i :: .ref a :: st) G Q := by
  intro p l e s m args below meth c D A H locs la C hM hS hl
  subst hj
  exact vm_iast C.1 C.2.1 C.2.2.2.2.2.2.2.1 hM hS 1 hG rfl hin hd (fun H1 locs1 hM hS => k C hM hS hl)
theorem cc_cast {a n : Nat} {f : Nat → Int32} {i x : Int32} {j : Nat} (hG : G a = some (.inl (cy 0, n, .inl f))) (hin : vp_in i n) (hj : i.toNatClampNeg = j) (hd : decode Y.2.1 pc = .ok (.castore, 1)) (k : cc_R cy Y z (pc + 1) ls st (va_up G a (some (.inl (cy 0, n, .inl (upd f j (vp_nar .char x)))))) Q) : cc_R cy Y z pc ls (.int x :: .int i :: .ref a :: st) G Q := by
  intro p l e s m args below meth c D A H locs la C hM hS hl
  subst hj
  exact vm_cast C.1 C.2.1 C.2.2.2.2.2.2.2.1 hM hS 0 hG rfl hin hd (fun H1 locs1 hM hS => k C hM hS hl)
theorem cc_zast {a n : Nat} {f : Nat → Int32} {i x : Int32} {j : Nat} (hG : G a = some (.inl (cy 2, n, .inl f))) (hin : vp_in i n) (hj : i.toNatClampNeg = j) (hd : decode Y.2.1 pc = .ok (.bastore, 1)) (k : cc_R cy Y z (pc + 1) ls st (va_up G a (some (.inl (cy 2, n, .inl (upd f j (vp_nar .boolean x)))))) Q) : cc_R cy Y z pc ls (.int x :: .int i :: .ref a :: st) G Q := by
  intro p l e s m args below meth c D A H locs la C hM hS hl
  subst hj
  exact vm_zast C.1 C.2.1 C.2.2.2.2.2.2.2.1 hM hS 2 hG rfl hin hd (fun H1 locs1 hM hS => k C hM hS hl)
theorem cc_aald3 {a n x : Nat} {f : Nat → Option Nat} {i : Int32} (hG : G a = some (.inl (cy 3, n, .inr (.inr (.inr (.inr f)))))) (hin : vp_in i n) (hx : f i.toNatClampNeg = some x) (hd : decode Y.2.1 pc = .ok (.aaload, 1)) (k : cc_R cy Y z (pc + 1) ls (.ref x :: st) G Q) : cc_R cy Y z pc ls (.int i :: .ref a :: st) G Q := by
  intro p l e s m args below meth c D A H locs la C hM hS hl
  exact vm_aald (C := RX0) C.1 C.2.1 C.2.2.2.2.2.2.2.1 hM 3 hG rfl hin hx hd (k C hM hS hl)
theorem cc_aald4 {a n x : Nat} {f : Nat → Option Nat} {i : Int32} (hG : G a = some (.inl (cy 4, n, .inr (.inr (.inr (.inr f)))))) (hin : vp_in i n) (hx : f i.toNatClampNeg = some x) (hd : decode Y.2.1 pc = .ok (.aaload, 1)) (k : cc_R cy Y z (pc + 1) ls (.ref x :: st) G Q) : cc_R cy Y z pc ls (.int i :: .ref a :: st) G Q := by
  intro p l e s m args below meth c D A H locs la C hM hS hl
  exact vm_aald (C := RX1) C.1 C.2.1 C.2.2.2.2.2.2.2.1 hM 4 hG rfl hin hx hd (k C hM hS hl)
theorem cc_aald5 {a n x : Nat} {f : Nat → Option Nat} {i : Int32} (hG : G a = some (.inl (cy 5, n, .inr (.inr (.inr (.inr f)))))) (hin : vp_in i n) (hx : f i.toNatClampNeg = some x) (hd : decode Y.2.1 pc = .ok (.aaload, 1)) (k : cc_R cy Y z (pc + 1) ls (.ref x :: st) G Q) : cc_R cy Y z pc ls (.int i :: .ref a :: st) G Q := by
  intro p l e s m args below meth c D A H locs la C hM hS hl
  exact vm_aald (C := RX2) C.1 C.2.1 C.2.2.2.2.2.2.2.1 hM 5 hG rfl hin hx hd (k C hM hS hl)
theorem cc_aast3 {a n v j : Nat} {vs : List Value} {f : Nat → Option Nat} {i : Int32} (hG : G a = some (.inl (cy 3, n, .inr (.inr (.inr (.inr f)))))) (hv : G v = some (.inr (0, vs))) (hin : vp_in i n) (hj : i.toNatClampNeg = j) (hd : decode Y.2.1 pc = .ok (.aastore, 1)) (k : cc_R cy Y z (pc + 1) ls st (va_up G a (some (.inl (cy 3, n, .inr (.inr (.inr (.inr (va_up f j (some v))))))))) Q) : cc_R cy Y z pc ls (.ref v :: .int i :: .ref a :: st) G Q := by
  intro p l e s m args below meth c D A H locs la C hM hS hl
  subst hj
  exact vm_aast (r := (RX0, TX0, 6)) C.1 C.2.1 C.2.2.2.2.2.2.2.1 hM hS 3 0 hG rfl hv rfl hin hd (fun H1 locs1 hM hS => k C hM hS hl)
theorem cc_copy {a a0 idx n0 n1 k0 : Nat} {f g : Nat → Int32} {n : Int32} (hln : Cond.methodLink Y.1.cls idx arraycopyName ∈ cc_GT) (hG0 : G a0 = some (.inl (cy 1, n0, .inl f))) (hG1 : G a = some (.inl (cy 1, n1, .inl g))) (hne : a0 ≠ a) (hk : n = nI k0) (hk2 : k0 < 2 ^ 31) (h4 : k0 ≤ n0) (h5 : k0 ≤ n1) (hR : 1 ≤ Y.2.2.2.2.frames ∧ (st.map fun v => v.category).sum + (nativeFrameWords "java/lang/System" "arraycopy" 5 + 11) ≤ Y.2.2.2.2.locals) (hd : decode Y.2.1 pc = .ok (.invokestatic idx, 3)) (k : cc_R cy Y z (pc + 3) ls st (va_up G a (some (.inl (cy 1, n1, .inl (va_cpy f g 0 0 k0))))) Q) : cc_R cy Y z pc ls (.int n :: .int 0 :: .ref a :: .int 0 :: .ref a0 :: st) G Q := by
  intro p l e s m args below meth c D A H locs la C hM hS hl
  subst hk
  have hz : ((0 : Int32)).toNatClampNeg = 0 := rfl
  have hc := nI_clamp hk2
  refine vm_copy C.1 C.2.1 (C.2.2.1.trans hl.1.symm) C.2.2.2.2.2.1 (C.2.2.2.2.2.2.1 _ hln) (C.2.2.2.2.2.2.1 _ nt_arraycopy) (C.2.2.2.2.2.2.1 _ st_arraycopy) (C.2.2.2.2.2.2.1 _ in_J10) C.2.2.2.2.2.2.2.1 hM hS 1 hG0 hG1 hne rfl (by decide) (by decide) (nI_pos hk2) (by rw [hz, hc]; omega) (by rw [hz, hc]; omega) hR.1 hR.2 hd (fun H1 locs1 hM hS => ?_)
  rw [hz, hc] at hM
  exact k C hM hS hl
theorem cc_min {idx : Nat} {x y : Int32} (hln : Cond.methodLink Y.1.cls idx yJ9_min_7cf53 ∈ cc_GT) (hR : 1 ≤ Y.2.2.2.2.frames ∧ (st.map fun v => v.category).sum + 13 ≤ Y.2.2.2.2.locals) (hd : decode Y.2.1 pc = .ok (.invokestatic idx, 3)) (k : cc_R cy Y z (pc + 3) ls (.int (if y < x then y else x) :: st) G Q) : cc_R cy Y z pc ls (.int y :: .int x :: st) G Q := by
  intro p l e s m args below meth c D A H locs la C hM hS hl
  exact va_mmin C.1 C.2.1 (C.2.2.1.trans hl.1.symm) C.2.2.2.2.2.1 (C.2.2.2.2.2.2.1 _ hln) (C.2.2.2.2.2.2.1 _ st_J9_min_7cf53) (C.2.2.2.2.2.2.1 _ in_J9) (C.2.2.2.2.2.2.1 _ cd_J9_min_7cf53) hR.1 hR.2 (Nat.zero_le _) (Nat.zero_le _) hd (k C hM hS hl)
theorem cc_iret {x : Int32} {ty : FieldType} (hY : Y.2.2.2.1 = some ty) (hn : narrow ty (.int x) = .int x) (hd : decode Y.2.1 pc = .ok (.ireturn, 1)) (h : Q (some (.int x)) G) : cc_R cy Y z pc ls [.int x] G Q := by
  intro p l e s m args below meth c D A H locs la C hM hS hl
  exact W.zret C.1 C.2.1 (C.2.2.2.1.trans hY) hn (fun t ht hW => ⟨⟨_, G, rfl, h, by rw [ht]; exact hM⟩, hS.F ht⟩) hS.2.2 hd C.2.2.2.2.1
theorem cc_vret (hY : Y.2.2.2.1 = none) (hd : decode Y.2.1 pc = .ok (.return_, 1)) (h : Q none G) : cc_R cy Y z pc ls [] G Q := by
  intro p l e s m args below meth c D A H locs la C hM hS hl
  exact W.vret C.1 C.2.1 (C.2.2.2.1.trans hY) (fun t ht hW => ⟨⟨_, G, rfl, h, by rw [ht]; exact hM⟩, hS.F ht⟩) hS.2.2 hd C.2.2.2.2.1
theorem cc_callVi {Y' : cc_Y} {idx : Nat} {As rest : List Value} {P : Int32 → cc_G → Prop} {ci N b : Nat} {T : u_T} {fs : List Value} (hC : cc_Cn cy Y' (.ref b :: As) z G (cc_qi P)) (ok : cc_Ok Y') (hbx : G b = some (.inr (ci, fs))) (hc : vwCl[ci]? = some (Y'.1.cls, T, N)) (him : Cond.instanceMethod Y'.1 ∈ cc_GT) (hsl : Cond.selects Y'.1.cls Y'.1 Y'.1 ∈ cc_GT) (hln : Cond.methodLink Y.1.cls idx Y'.1 ∈ cc_GT) (hn : (parseMethodDescriptor Y'.1.desc).map (fun d => d.parameters.length) = some As.length) (hR : Y'.2.2.2.2.frames + 1 ≤ Y.2.2.2.2.frames ∧ 8 + (Y'.2.2.1 + 11) + Y'.2.2.2.2.locals ≤ Y.2.2.2.2.locals) (hcat : (rest.map fun v => v.category).sum ≤ 8) (hst : st = As.reverse ++ .ref b :: rest) (hd : decode Y.2.1 pc = .ok (.invokevirtual idx, 3)) (k : ∀ (r : Int32) (G' : cc_G), P r G' → cc_R cy Y z (pc + 3) ls (.int r :: rest) G' Q) : cc_R cy Y z pc ls st G Q := by
  intro p l e s m args below meth c D A H locs la C hM hS hl
  exact vm_callV C.1 C.2.1 C.2.2.1 hl.1 C.2.2.2.2.2.1 C.2.2.2.2.2.2.1 C.2.2.2.2.2.2.2 hM hS hC ok hbx hc him hsl hln hn hR ⟨Nat.zero_le _, Nat.zero_le _⟩ hcat hst hd (fun v G' H1 locs1 hq hM hS => by
    obtain ⟨r, rfl, hp⟩ := hq
    exact k r G' hp C hM hS hl)
theorem cc_callVv {Y' : cc_Y} {idx : Nat} {As rest : List Value} {P : cc_G → Prop} {ci N b : Nat} {T : u_T} {fs : List Value} (hC : cc_Cn cy Y' (.ref b :: As) z G (cc_qv P)) (ok : cc_Ok Y') (hbx : G b = some (.inr (ci, fs))) (hc : vwCl[ci]? = some (Y'.1.cls, T, N)) (him : Cond.instanceMethod Y'.1 ∈ cc_GT) (hsl : Cond.selects Y'.1.cls Y'.1 Y'.1 ∈ cc_GT) (hln : Cond.methodLink Y.1.cls idx Y'.1 ∈ cc_GT) (hn : (parseMethodDescriptor Y'.1.desc).map (fun d => d.parameters.length) = some As.length) (hR : Y'.2.2.2.2.frames + 1 ≤ Y.2.2.2.2.frames ∧ 8 + (Y'.2.2.1 + 11) + Y'.2.2.2.2.locals ≤ Y.2.2.2.2.locals) (hcat : (rest.map fun v => v.category).sum ≤ 8) (hst : st = As.reverse ++ .ref b :: rest) (hd : decode Y.2.1 pc = .ok (.invokevirtual idx, 3)) (k : ∀ (G' : cc_G), P G' → cc_R cy Y z (pc + 3) ls rest G' Q) : cc_R cy Y z pc ls st G Q := by
  intro p l e s m args below meth c D A H locs la C hM hS hl
  exact vm_callV C.1 C.2.1 C.2.2.1 hl.1 C.2.2.2.2.2.1 C.2.2.2.2.2.2.1 C.2.2.2.2.2.2.2 hM hS hC ok hbx hc him hsl hln hn hR ⟨Nat.zero_le _, Nat.zero_le _⟩ hcat hst hd (fun v G' H1 locs1 hq hM hS => by
    obtain ⟨rfl, hp⟩ := hq
    exact k G' hp C hM hS hl)
theorem cc_callNi {Y' : cc_Y} {idx : Nat} {As rest : List Value} {P : Int32 → cc_G → Prop} {ci N b : Nat} {T : u_T} {fs : List Value} {host : String} (hC : cc_Cn cy Y' (.ref b :: As) z G (cc_qi P)) (ok : cc_Ok Y') (hbx : G b = some (.inr (ci, fs))) (hc : vwCl[ci]? = some (Y'.1.cls, T, N)) (him : Cond.instanceMethod Y'.1 ∈ cc_GT) (hsl : Cond.selects Y'.1.cls Y'.1 Y'.1 ∈ cc_GT) (hln : Cond.methodLinkNest Y.1.cls idx Y'.1 host ∈ cc_NT) (hn : (parseMethodDescriptor Y'.1.desc).map (fun d => d.parameters.length) = some As.length) (hR : Y'.2.2.2.2.frames + 1 ≤ Y.2.2.2.2.frames ∧ 8 + (Y'.2.2.1 + 11) + Y'.2.2.2.2.locals ≤ Y.2.2.2.2.locals) (hcat : (rest.map fun v => v.category).sum ≤ 8) (hst : st = As.reverse ++ .ref b :: rest) (hd : decode Y.2.1 pc = .ok (.invokevirtual idx, 3)) (k : ∀ (r : Int32) (G' : cc_G), P r G' → cc_R cy Y z (pc + 3) ls (.int r :: rest) G' Q) : cc_R cy Y z pc ls st G Q := by
  intro p l e s m args below meth c D A H locs la C hM hS hl
  exact vm_callVN C.1 C.2.1 C.2.2.1 hl.1 C.2.2.2.2.2.1 C.2.2.2.2.2.2.1 C.2.2.2.2.2.2.2 hM hS hC ok hbx hc him hsl hln hn hR ⟨Nat.zero_le _, Nat.zero_le _⟩ hcat hst hd (fun v G' H1 locs1 hq hM hS => by
    obtain ⟨r, rfl, hp⟩ := hq
    exact k r G' hp C hM hS hl)
theorem cc_callNv {Y' : cc_Y} {idx : Nat} {As rest : List Value} {P : cc_G → Prop} {ci N b : Nat} {T : u_T} {fs : List Value} {host : String} (hC : cc_Cn cy Y' (.ref b :: As) z G (cc_qv P)) (ok : cc_Ok Y') (hbx : G b = some (.inr (ci, fs))) (hc : vwCl[ci]? = some (Y'.1.cls, T, N)) (him : Cond.instanceMethod Y'.1 ∈ cc_GT) (hsl : Cond.selects Y'.1.cls Y'.1 Y'.1 ∈ cc_GT) (hln : Cond.methodLinkNest Y.1.cls idx Y'.1 host ∈ cc_NT) (hn : (parseMethodDescriptor Y'.1.desc).map (fun d => d.parameters.length) = some As.length) (hR : Y'.2.2.2.2.frames + 1 ≤ Y.2.2.2.2.frames ∧ 8 + (Y'.2.2.1 + 11) + Y'.2.2.2.2.locals ≤ Y.2.2.2.2.locals) (hcat : (rest.map fun v => v.category).sum ≤ 8) (hst : st = As.reverse ++ .ref b :: rest) (hd : decode Y.2.1 pc = .ok (.invokevirtual idx, 3)) (k : ∀ (G' : cc_G), P G' → cc_R cy Y z (pc + 3) ls rest G' Q) : cc_R cy Y z pc ls st G Q := by
  intro p l e s m args below meth c D A H locs la C hM hS hl
  exact vm_callVN C.1 C.2.1 C.2.2.1 hl.1 C.2.2.2.2.2.1 C.2.2.2.2.2.2.1 C.2.2.2.2.2.2.2 hM hS hC ok hbx hc him hsl hln hn hR ⟨Nat.zero_le _, Nat.zero_le _⟩ hcat hst hd (fun v G' H1 locs1 hq hM hS => by
    obtain ⟨rfl, hp⟩ := hq
    exact k G' hp C hM hS hl)
theorem cc_callSi {Y' : cc_Y} {idx : Nat} {As rest : List Value} {P : Int32 → cc_G → Prop}  (hC : cc_Cn cy Y' As z G (cc_qi P)) (ok : cc_Ok Y') (hstc : Cond.static Y'.1 ∈ cc_GT) (hln : Cond.methodLink Y.1.cls idx Y'.1 ∈ cc_GT) (hn : (parseMethodDescriptor Y'.1.desc).map (fun d => d.parameters.length) = some As.length) (hR : Y'.2.2.2.2.frames + 1 ≤ Y.2.2.2.2.frames ∧ 8 + (Y'.2.2.1 + 11) + Y'.2.2.2.2.locals ≤ Y.2.2.2.2.locals) (hcat : (rest.map fun v => v.category).sum ≤ 8) (hst : st = As.reverse ++ rest) (hd : decode Y.2.1 pc = .ok (.invokestatic idx, 3)) (k : ∀ (r : Int32) (G' : cc_G), P r G' → cc_R cy Y z (pc + 3) ls (.int r :: rest) G' Q) : cc_R cy Y z pc ls st G Q := by
  intro p l e s m args below meth c D A H locs la C hM hS hl
  exact vm_callS C.1 C.2.1 C.2.2.1 hl.1 C.2.2.2.2.2.1 C.2.2.2.2.2.2.1 C.2.2.2.2.2.2.2 hM hS hC ok hstc hln hn hR ⟨Nat.zero_le _, Nat.zero_le _⟩ hcat hst hd (fun v G' H1 locs1 hq hM hS => by
    obtain ⟨r, rfl, hp⟩ := hq
    exact k r G' hp C hM hS hl)
theorem cc_callSv {Y' : cc_Y} {idx : Nat} {As rest : List Value} {P : cc_G → Prop}  (hC : cc_Cn cy Y' As z G (cc_qv P)) (ok : cc_Ok Y') (hstc : Cond.static Y'.1 ∈ cc_GT) (hln : Cond.methodLink Y.1.cls idx Y'.1 ∈ cc_GT) (hn : (parseMethodDescriptor Y'.1.desc).map (fun d => d.parameters.length) = some As.length) (hR : Y'.2.2.2.2.frames + 1 ≤ Y.2.2.2.2.frames ∧ 8 + (Y'.2.2.1 + 11) + Y'.2.2.2.2.locals ≤ Y.2.2.2.2.locals) (hcat : (rest.map fun v => v.category).sum ≤ 8) (hst : st = As.reverse ++ rest) (hd : decode Y.2.1 pc = .ok (.invokestatic idx, 3)) (k : ∀ (G' : cc_G), P G' → cc_R cy Y z (pc + 3) ls rest G' Q) : cc_R cy Y z pc ls st G Q := by
  intro p l e s m args below meth c D A H locs la C hM hS hl
  exact vm_callS C.1 C.2.1 C.2.2.1 hl.1 C.2.2.2.2.2.1 C.2.2.2.2.2.2.1 C.2.2.2.2.2.2.2 hM hS hC ok hstc hln hn hR ⟨Nat.zero_le _, Nat.zero_le _⟩ hcat hst hd (fun v G' H1 locs1 hq hM hS => by
    obtain ⟨rfl, hp⟩ := hq
    exact k G' hp C hM hS hl)
end CCR
end
section
theorem cc_sw1 (x : Int32) : x = 0 ∨ x = 1 ∨ (x.toInt < 0 ∨ 1 < x.toInt) := by
  by_cases h0 : x.toInt = 0
  · exact Or.inl (Int32.toInt_inj.mp h0)
  by_cases h1 : x.toInt = 1
  · exact Or.inr (Or.inl (Int32.toInt_inj.mp h1))
  exact Or.inr (Or.inr (by omega))
theorem cc_sw2 (x : Int32) : x = 0 ∨ x = 1 ∨ x = 2 ∨ (x.toInt < 0 ∨ 2 < x.toInt) := by
  by_cases h0 : x.toInt = 0
  · exact Or.inl (Int32.toInt_inj.mp h0)
  by_cases h1 : x.toInt = 1
  · exact Or.inr (Or.inl (Int32.toInt_inj.mp h1))
  by_cases h2 : x.toInt = 2
  · exact Or.inr (Or.inr (Or.inl (Int32.toInt_inj.mp h2)))
  exact Or.inr (Or.inr (Or.inr (by omega)))
theorem cc_sw3 (x : Int32) : x = 0 ∨ x = 1 ∨ x = 2 ∨ x = 3 ∨ (x.toInt < 0 ∨ 3 < x.toInt) := by
  by_cases h0 : x.toInt = 0
  · exact Or.inl (Int32.toInt_inj.mp h0)
  by_cases h1 : x.toInt = 1
  · exact Or.inr (Or.inl (Int32.toInt_inj.mp h1))
  by_cases h2 : x.toInt = 2
  · exact Or.inr (Or.inr (Or.inl (Int32.toInt_inj.mp h2)))
  by_cases h3 : x.toInt = 3
  · exact Or.inr (Or.inr (Or.inr (Or.inl (Int32.toInt_inj.mp h3))))
  exact Or.inr (Or.inr (Or.inr (Or.inr (by omega))))
theorem cc_sw4 (x : Int32) : x = 0 ∨ x = 1 ∨ x = 2 ∨ x = 3 ∨ x = 4 ∨ (x.toInt < 0 ∨ 4 < x.toInt) := by
  by_cases h0 : x.toInt = 0
  · exact Or.inl (Int32.toInt_inj.mp h0)
  by_cases h1 : x.toInt = 1
  · exact Or.inr (Or.inl (Int32.toInt_inj.mp h1))
  by_cases h2 : x.toInt = 2
  · exact Or.inr (Or.inr (Or.inl (Int32.toInt_inj.mp h2)))
  by_cases h3 : x.toInt = 3
  · exact Or.inr (Or.inr (Or.inr (Or.inl (Int32.toInt_inj.mp h3))))
  by_cases h4 : x.toInt = 4
  · exact Or.inr (Or.inr (Or.inr (Or.inr (Or.inl (Int32.toInt_inj.mp h4)))))
  exact Or.inr (Or.inr (Or.inr (Or.inr (Or.inr (by omega)))))
theorem cc_sw10 (x : Int32) : x = 0 ∨ x = 1 ∨ x = 2 ∨ x = 3 ∨ x = 4 ∨ x = 5 ∨ x = 6 ∨ x = 7 ∨ x = 8 ∨ x = 9 ∨ x = 10 ∨ (x.toInt < 0 ∨ 10 < x.toInt) := by
  by_cases h0 : x.toInt = 0
  · exact Or.inl (Int32.toInt_inj.mp h0)
  by_cases h1 : x.toInt = 1
  · exact Or.inr (Or.inl (Int32.toInt_inj.mp h1))
  by_cases h2 : x.toInt = 2
  · exact Or.inr (Or.inr (Or.inl (Int32.toInt_inj.mp h2)))
  by_cases h3 : x.toInt = 3
  · exact Or.inr (Or.inr (Or.inr (Or.inl (Int32.toInt_inj.mp h3))))
  by_cases h4 : x.toInt = 4
  · exact Or.inr (Or.inr (Or.inr (Or.inr (Or.inl (Int32.toInt_inj.mp h4)))))
  by_cases h5 : x.toInt = 5
  · exact Or.inr (Or.inr (Or.inr (Or.inr (Or.inr (Or.inl (Int32.toInt_inj.mp h5))))))
  by_cases h6 : x.toInt = 6
  · exact Or.inr (Or.inr (Or.inr (Or.inr (Or.inr (Or.inr (Or.inl (Int32.toInt_inj.mp h6)))))))
  by_cases h7 : x.toInt = 7
  · exact Or.inr (Or.inr (Or.inr (Or.inr (Or.inr (Or.inr (Or.inr (Or.inl (Int32.toInt_inj.mp h7))))))))
  by_cases h8 : x.toInt = 8
  · exact Or.inr (Or.inr (Or.inr (Or.inr (Or.inr (Or.inr (Or.inr (Or.inr (Or.inl (Int32.toInt_inj.mp h8)))))))))
  by_cases h9 : x.toInt = 9
  · exact Or.inr (Or.inr (Or.inr (Or.inr (Or.inr (Or.inr (Or.inr (Or.inr (Or.inr (Or.inl (Int32.toInt_inj.mp h9))))))))))
  by_cases h10 : x.toInt = 10
  · exact Or.inr (Or.inr (Or.inr (Or.inr (Or.inr (Or.inr (Or.inr (Or.inr (Or.inr (Or.inr (Or.inl (Int32.toInt_inj.mp h10)))))))))))
  exact Or.inr (Or.inr (Or.inr (Or.inr (Or.inr (Or.inr (Or.inr (Or.inr (Or.inr (Or.inr (Or.inr (by omega)))))))))))
theorem cc_sw11 (x : Int32) : x = 0 ∨ x = 1 ∨ x = 2 ∨ x = 3 ∨ x = 4 ∨ x = 5 ∨ x = 6 ∨ x = 7 ∨ x = 8 ∨ x = 9 ∨ x = 10 ∨ x = 11 ∨ (x.toInt < 0 ∨ 11 < x.toInt) := by
  by_cases h0 : x.toInt = 0
  · exact Or.inl (Int32.toInt_inj.mp h0)
  by_cases h1 : x.toInt = 1
  · exact Or.inr (Or.inl (Int32.toInt_inj.mp h1))
  by_cases h2 : x.toInt = 2
  · exact Or.inr (Or.inr (Or.inl (Int32.toInt_inj.mp h2)))
  by_cases h3 : x.toInt = 3
  · exact Or.inr (Or.inr (Or.inr (Or.inl (Int32.toInt_inj.mp h3))))
  by_cases h4 : x.toInt = 4
  · exact Or.inr (Or.inr (Or.inr (Or.inr (Or.inl (Int32.toInt_inj.mp h4)))))
  by_cases h5 : x.toInt = 5
  · exact Or.inr (Or.inr (Or.inr (Or.inr (Or.inr (Or.inl (Int32.toInt_inj.mp h5))))))
  by_cases h6 : x.toInt = 6
  · exact Or.inr (Or.inr (Or.inr (Or.inr (Or.inr (Or.inr (Or.inl (Int32.toInt_inj.mp h6)))))))
  by_cases h7 : x.toInt = 7
  · exact Or.inr (Or.inr (Or.inr (Or.inr (Or.inr (Or.inr (Or.inr (Or.inl (Int32.toInt_inj.mp h7))))))))
  by_cases h8 : x.toInt = 8
  · exact Or.inr (Or.inr (Or.inr (Or.inr (Or.inr (Or.inr (Or.inr (Or.inr (Or.inl (Int32.toInt_inj.mp h8)))))))))
  by_cases h9 : x.toInt = 9
  · exact Or.inr (Or.inr (Or.inr (Or.inr (Or.inr (Or.inr (Or.inr (Or.inr (Or.inr (Or.inl (Int32.toInt_inj.mp h9))))))))))
  by_cases h10 : x.toInt = 10
  · exact Or.inr (Or.inr (Or.inr (Or.inr (Or.inr (Or.inr (Or.inr (Or.inr (Or.inr (Or.inr (Or.inl (Int32.toInt_inj.mp h10)))))))))))
  by_cases h11 : x.toInt = 11
  · exact Or.inr (Or.inr (Or.inr (Or.inr (Or.inr (Or.inr (Or.inr (Or.inr (Or.inr (Or.inr (Or.inr (Or.inl (Int32.toInt_inj.mp h11))))))))))))
  exact Or.inr (Or.inr (Or.inr (Or.inr (Or.inr (Or.inr (Or.inr (Or.inr (Or.inr (Or.inr (Or.inr (Or.inr (by omega))))))))))))
theorem cc_sw12 (x : Int32) : x = 0 ∨ x = 1 ∨ x = 2 ∨ x = 3 ∨ x = 4 ∨ x = 5 ∨ x = 6 ∨ x = 7 ∨ x = 8 ∨ x = 9 ∨ x = 10 ∨ x = 11 ∨ x = 12 ∨ (x.toInt < 0 ∨ 12 < x.toInt) := by
  by_cases h0 : x.toInt = 0
  · exact Or.inl (Int32.toInt_inj.mp h0)
  by_cases h1 : x.toInt = 1
  · exact Or.inr (Or.inl (Int32.toInt_inj.mp h1))
  by_cases h2 : x.toInt = 2
  · exact Or.inr (Or.inr (Or.inl (Int32.toInt_inj.mp h2)))
  by_cases h3 : x.toInt = 3
  · exact Or.inr (Or.inr (Or.inr (Or.inl (Int32.toInt_inj.mp h3))))
  by_cases h4 : x.toInt = 4
  · exact Or.inr (Or.inr (Or.inr (Or.inr (Or.inl (Int32.toInt_inj.mp h4)))))
  by_cases h5 : x.toInt = 5
  · exact Or.inr (Or.inr (Or.inr (Or.inr (Or.inr (Or.inl (Int32.toInt_inj.mp h5))))))
  by_cases h6 : x.toInt = 6
  · exact Or.inr (Or.inr (Or.inr (Or.inr (Or.inr (Or.inr (Or.inl (Int32.toInt_inj.mp h6)))))))
  by_cases h7 : x.toInt = 7
  · exact Or.inr (Or.inr (Or.inr (Or.inr (Or.inr (Or.inr (Or.inr (Or.inl (Int32.toInt_inj.mp h7))))))))
  by_cases h8 : x.toInt = 8
  · exact Or.inr (Or.inr (Or.inr (Or.inr (Or.inr (Or.inr (Or.inr (Or.inr (Or.inl (Int32.toInt_inj.mp h8)))))))))
  by_cases h9 : x.toInt = 9
  · exact Or.inr (Or.inr (Or.inr (Or.inr (Or.inr (Or.inr (Or.inr (Or.inr (Or.inr (Or.inl (Int32.toInt_inj.mp h9))))))))))
  by_cases h10 : x.toInt = 10
  · exact Or.inr (Or.inr (Or.inr (Or.inr (Or.inr (Or.inr (Or.inr (Or.inr (Or.inr (Or.inr (Or.inl (Int32.toInt_inj.mp h10)))))))))))
  by_cases h11 : x.toInt = 11
  · exact Or.inr (Or.inr (Or.inr (Or.inr (Or.inr (Or.inr (Or.inr (Or.inr (Or.inr (Or.inr (Or.inr (Or.inl (Int32.toInt_inj.mp h11))))))))))))
  by_cases h12 : x.toInt = 12
  · exact Or.inr (Or.inr (Or.inr (Or.inr (Or.inr (Or.inr (Or.inr (Or.inr (Or.inr (Or.inr (Or.inr (Or.inr (Or.inl (Int32.toInt_inj.mp h12)))))))))))))
  exact Or.inr (Or.inr (Or.inr (Or.inr (Or.inr (Or.inr (Or.inr (Or.inr (Or.inr (Or.inr (Or.inr (Or.inr (Or.inr (by omega)))))))))))))
theorem cc_sw13 (x : Int32) : x = 0 ∨ x = 1 ∨ x = 2 ∨ x = 3 ∨ x = 4 ∨ x = 5 ∨ x = 6 ∨ x = 7 ∨ x = 8 ∨ x = 9 ∨ x = 10 ∨ x = 11 ∨ x = 12 ∨ x = 13 ∨ (x.toInt < 0 ∨ 13 < x.toInt) := by
  by_cases h0 : x.toInt = 0
  · exact Or.inl (Int32.toInt_inj.mp h0)
  by_cases h1 : x.toInt = 1
  · exact Or.inr (Or.inl (Int32.toInt_inj.mp h1))
  by_cases h2 : x.toInt = 2
  · exact Or.inr (Or.inr (Or.inl (Int32.toInt_inj.mp h2)))
  by_cases h3 : x.toInt = 3
  · exact Or.inr (Or.inr (Or.inr (Or.inl (Int32.toInt_inj.mp h3))))
  by_cases h4 : x.toInt = 4
  · exact Or.inr (Or.inr (Or.inr (Or.inr (Or.inl (Int32.toInt_inj.mp h4)))))
  by_cases h5 : x.toInt = 5
  · exact Or.inr (Or.inr (Or.inr (Or.inr (Or.inr (Or.inl (Int32.toInt_inj.mp h5))))))
  by_cases h6 : x.toInt = 6
  · exact Or.inr (Or.inr (Or.inr (Or.inr (Or.inr (Or.inr (Or.inl (Int32.toInt_inj.mp h6)))))))
  by_cases h7 : x.toInt = 7
  · exact Or.inr (Or.inr (Or.inr (Or.inr (Or.inr (Or.inr (Or.inr (Or.inl (Int32.toInt_inj.mp h7))))))))
  by_cases h8 : x.toInt = 8
  · exact Or.inr (Or.inr (Or.inr (Or.inr (Or.inr (Or.inr (Or.inr (Or.inr (Or.inl (Int32.toInt_inj.mp h8)))))))))
  by_cases h9 : x.toInt = 9
  · exact Or.inr (Or.inr (Or.inr (Or.inr (Or.inr (Or.inr (Or.inr (Or.inr (Or.inr (Or.inl (Int32.toInt_inj.mp h9))))))))))
  by_cases h10 : x.toInt = 10
  · exact Or.inr (Or.inr (Or.inr (Or.inr (Or.inr (Or.inr (Or.inr (Or.inr (Or.inr (Or.inr (Or.inl (Int32.toInt_inj.mp h10)))))))))))
  by_cases h11 : x.toInt = 11
  · exact Or.inr (Or.inr (Or.inr (Or.inr (Or.inr (Or.inr (Or.inr (Or.inr (Or.inr (Or.inr (Or.inr (Or.inl (Int32.toInt_inj.mp h11))))))))))))
  by_cases h12 : x.toInt = 12
  · exact Or.inr (Or.inr (Or.inr (Or.inr (Or.inr (Or.inr (Or.inr (Or.inr (Or.inr (Or.inr (Or.inr (Or.inr (Or.inl (Int32.toInt_inj.mp h12)))))))))))))
  by_cases h13 : x.toInt = 13
  · exact Or.inr (Or.inr (Or.inr (Or.inr (Or.inr (Or.inr (Or.inr (Or.inr (Or.inr (Or.inr (Or.inr (Or.inr (Or.inr (Or.inl (Int32.toInt_inj.mp h13))))))))))))))
  exact Or.inr (Or.inr (Or.inr (Or.inr (Or.inr (Or.inr (Or.inr (Or.inr (Or.inr (Or.inr (Or.inr (Or.inr (Or.inr (Or.inr (by omega))))))))))))))
theorem cc_lk1 {x : Int32} {o0 o1 d : Int} (h : x.toInt < 0 ∨ 1 < x.toInt) : Op.lookupswitch.offset [(0, o0), (1, o1)] d x.toInt = d := by
  rw [Op.lookupswitch.offset_cons, if_neg (by omega), Op.lookupswitch.offset_cons, if_neg (by omega)]
  rfl
/-- the first places of a row hold a list -/
def ar_ (f : Nat → Int32) (l : List Int32) : Prop := ∀ (k : Nat) (h : k < l.length), f k = l[k]
theorem ar_.push {f : Nat → Int32} {l : List Int32} (h : ar_ f l) (x : Int32) : ar_ (upd f l.length x) (l ++ [x]) := by
  intro k hk
  by_cases hq : k = l.length
  · subst hq
    simp [upd]
  · have hk2 : k < l.length := by simp at hk; omega
    rw [List.getElem_append_left hk2]
    simp [upd, hq, h k hk2]
theorem ar_.shift {f f' : Nat → Int32} {l : List Int32} (h : ar_ f l) (hf : ∀ k, k + 1 < l.length → f' k = f (k + 1)) : ar_ f' l.tail := by
  intro k hk
  simp at hk
  rw [hf k (by omega), h (k + 1) (by omega)]
  simp
theorem ar_.eq {f f' : Nat → Int32} {l : List Int32} (h : ar_ f l) (hf : ∀ k, k < l.length → f' k = f k) : ar_ f' l := fun k hk => (hf k hk).trans (h k hk)
theorem ar_.nil {f : Nat → Int32} : ar_ f [] := fun k hk => absurd hk (by simp)
/-! a lane: nine numbers, the packets that are seated, the credits on their way -/
def ln_fs (a : Nat) (v : Nat → Int32) (nS nW : Int32) : List Value := [.int (v 0), .int (v 1), .int (v 2), .int (v 3), .int (v 4), .int (v 5), .int (v 6), .int (v 7), .int (v 8), .ref (a + 1), .int nS, .ref (a + 2), .int nW]
/-- the cells of a lane from a on, and nothing but them differs from the world G0 -/
def ln_R (cy : Nat → ClassId) (G0 G : cc_G) (a : Nat) (v : Nat → Int32) (nS : Int32) (f : Nat → Int32) (nW : Int32) (g : Nat → Int32) : Prop :=
  (∀ q : Nat, (q < a ∨ a + 3 ≤ q) → G q = G0 q) ∧ G a = some (.inr (1, ln_fs a v nS nW)) ∧ G (a + 1) = some (.inl (cy 1, 8, .inl f)) ∧ G (a + 2) = some (.inl (cy 1, 6, .inl g))
abbrev Ln_ : Type := (Nat → Int32) × List Int32 × List Int32
def ln_I (cy : Nat → ClassId) (G0 G : cc_G) (a : Nat) (L : Ln_) : Prop := ∃ f g, ln_R cy G0 G a L.1 (nI L.2.1.length) f (nI L.2.2.length) g ∧ ar_ f L.2.1 ∧ ar_ g L.2.2 ∧ L.2.1.length ≤ 8 ∧ L.2.2.length ≤ 6
theorem ln_R.self {cy : Nat → ClassId} {G0 G : cc_G} {a : Nat} {v f g : Nat → Int32} {nS nW : Int32} (h : ln_R cy G0 G a v nS f nW g) : ln_R cy G G a v nS f nW g := ⟨fun _ _ => rfl, h.2⟩
theorem ln_R.tr {cy : Nat → ClassId} {G0 G1 G2 : cc_G} {a : Nat} {v v' f f' g g' : Nat → Int32} {nS nS' nW nW' : Int32} (h : ln_R cy G0 G1 a v nS f nW g) (h2 : ln_R cy G1 G2 a v' nS' f' nW' g') : ln_R cy G0 G2 a v' nS' f' nW' g' := ⟨fun q hq => (h2.1 q hq).trans (h.1 q hq), h2.2⟩
theorem ln_I.self {cy : Nat → ClassId} {G0 G : cc_G} {a : Nat} {L : Ln_} (h : ln_I cy G0 G a L) : ln_I cy G G a L := by
  obtain ⟨f, g, h1, h2⟩ := h
  exact ⟨f, g, h1.self, h2⟩
theorem ln_I.tr {cy : Nat → ClassId} {G0 G1 G2 : cc_G} {a : Nat} {L L' : Ln_} (h : ln_I cy G0 G1 a L) (h2 : ln_I cy G1 G2 a L') : ln_I cy G0 G2 a L' := by
  obtain ⟨f, g, h1, -⟩ := h
  obtain ⟨f', g', h3, h4⟩ := h2
  exact ⟨f', g', h1.tr h3, h4⟩
section LNR
variable {cy : Nat → ClassId} {Y : cc_Y} {z pc : Nat} {ls : List (Nat × Value)} {st : List Value} {G0 G : cc_G} {Q : Option Value → cc_G → Prop} {a idx : Nat} {v v' f g : Nat → Int32} {nS nS' nW nW' x : Int32}
theorem ln_rput (hL : ln_R cy G0 G a v nS f nW g) (hcl : cc_Cl 1 Y.1.cls TX1 13 tyX1) (k0 : Nat) (hk0 : k0 < 13) (hln : Cond.fieldLink Y.1.cls idx (TX1 k0).1 (TX1 k0).2.1 (TX1 k0).2.2.1 ∈ cc_GT) (hfin : (TX1 k0).2.2.2 = false) (hdt : parseFieldDescriptor (TX1 k0).2.2.1 = some .int) (hset : (ln_fs a v nS nW).set k0 (.int x) = ln_fs a v' nS' nW') (hd : decode Y.2.1 pc = .ok (.putfield idx, 3)) (k : ∀ G1, ln_R cy G0 G1 a v' nS' f nW' g → cc_R cy Y z (pc + 3) ls st G1 Q) : cc_R cy Y z pc ls (.int x :: .ref a :: st) G Q := by
  refine cc_put hL.2.1 hcl k0 hk0 hln hfin hdt rfl rfl hk0 hd ?_
  rw [hset]
  exact k _ ⟨fun q hq => by rw [va_up_ne _ _ (by omega)]; exact hL.1 q hq, va_up_self _ _ _, by rw [va_up_ne _ _ (by omega)]; exact hL.2.2.1, by rw [va_up_ne _ _ (by omega)]; exact hL.2.2.2⟩
theorem ln_rputN {host : String} (hL : ln_R cy G0 G a v nS f nW g) (k0 : Nat) (hk0 : k0 < 13) (hln : Cond.fieldLinkNest Y.1.cls idx (TX1 k0).1 (TX1 k0).2.1 (TX1 k0).2.2.1 host ∈ cc_NT) (hfin : (TX1 k0).2.2.2 = false) (hdt : parseFieldDescriptor (TX1 k0).2.2.1 = some .int) (hset : (ln_fs a v nS nW).set k0 (.int x) = ln_fs a v' nS' nW') (hd : decode Y.2.1 pc = .ok (.putfield idx, 3)) (k : ∀ G1, ln_R cy G0 G1 a v' nS' f nW' g → cc_R cy Y z (pc + 3) ls st G1 Q) : cc_R cy Y z pc ls (.int x :: .ref a :: st) G Q := by
  refine cc_putN hL.2.1 cc_c1 k0 hk0 hln hfin hdt rfl rfl hk0 hd ?_
  rw [hset]
  exact k _ ⟨fun q hq => by rw [va_up_ne _ _ (by omega)]; exact hL.1 q hq, va_up_self _ _ _, by rw [va_up_ne _ _ (by omega)]; exact hL.2.2.1, by rw [va_up_ne _ _ (by omega)]; exact hL.2.2.2⟩
theorem ln_rastS {i : Int32} {j : Nat} (hL : ln_R cy G0 G a v nS f nW g) (hin : vp_in i 8) (hj : i.toNatClampNeg = j) (hd : decode Y.2.1 pc = .ok (.iastore, 1)) (k : ∀ G1, ln_R cy G0 G1 a v nS (upd f j x) nW g → cc_R cy Y z (pc + 1) ls st G1 Q) : cc_R cy Y z pc ls (.int x :: .int i :: .ref (a + 1) :: st) G Q := by
  refine cc_iast hL.2.2.1 hin hj hd ?_
  exact k _ ⟨fun q hq => by rw [va_up_ne _ _ (by omega)]; exact hL.1 q hq, by rw [va_up_ne _ _ (by omega)]; exact hL.2.1, va_up_self _ _ _, by rw [va_up_ne _ _ (by omega)]; exact hL.2.2.2⟩
theorem ln_rastW {i : Int32} {j : Nat} (hL : ln_R cy G0 G a v nS f nW g) (hin : vp_in i 6) (hj : i.toNatClampNeg = j) (hd : decode Y.2.1 pc = .ok (.iastore, 1)) (k : ∀ G1, ln_R cy G0 G1 a v nS f nW (upd g j x) → cc_R cy Y z (pc + 1) ls st G1 Q) : cc_R cy Y z pc ls (.int x :: .int i :: .ref (a + 2) :: st) G Q := by
  refine cc_iast hL.2.2.2 hin hj hd ?_
  exact k _ ⟨fun q hq => by rw [va_up_ne _ _ (by omega)]; exact hL.1 q hq, by rw [va_up_ne _ _ (by omega)]; exact hL.2.1, by rw [va_up_ne _ _ (by omega)]; exact hL.2.2.1, va_up_self _ _ _⟩
end LNR
/-! each method: its name, code, locals, answer, room -/
def Y_X3_setLane : cc_Y := (yX3_setLane, cX3_setLane, 6, (some .int), { frames := 4, cells := 0, slots := 0, locals := 103 })
theorem nd_X3_setLane : (parseMethodDescriptor yX3_setLane.desc).map (fun d => d.parameters.length) = some 3 := by decide +kernel
theorem ok_X3_setLane : cc_Ok Y_X3_setLane := ⟨cd_X3_setLane, in_X3, by decide +kernel, ⟨by decide +kernel, by decide +kernel⟩, rfl, rfl⟩
def Y_X3_isPort : cc_Y := (yX3_isPort, cX3_isPort, 1, (some .boolean), { frames := 0, cells := 0, slots := 0, locals := 0 })
theorem nd_X3_isPort : (parseMethodDescriptor yX3_isPort.desc).map (fun d => d.parameters.length) = some 1 := by decide +kernel
theorem ok_X3_isPort : cc_Ok Y_X3_isPort := ⟨cd_X3_isPort, in_X3, by decide +kernel, ⟨by decide +kernel, by decide +kernel⟩, rfl, rfl⟩
def Y_X3_mostOfLane : cc_Y := (yX3_mostOfLane, cX3_mostOfLane, 1, (some .int), { frames := 0, cells := 0, slots := 0, locals := 0 })
theorem nd_X3_mostOfLane : (parseMethodDescriptor yX3_mostOfLane.desc).map (fun d => d.parameters.length) = some 1 := by decide +kernel
theorem ok_X3_mostOfLane : cc_Ok Y_X3_mostOfLane := ⟨cd_X3_mostOfLane, in_X3, by decide +kernel, ⟨by decide +kernel, by decide +kernel⟩, rfl, rfl⟩
def Y_X1_setting : cc_Y := (yX1_setting, cX1_setting, 2, (some .int), { frames := 0, cells := 0, slots := 0, locals := 0 })
theorem nd_X1_setting : (parseMethodDescriptor yX1_setting.desc).map (fun d => d.parameters.length) = some 1 := by decide +kernel
theorem ok_X1_setting : cc_Ok Y_X1_setting := ⟨cd_X1_setting, in_X1, by decide +kernel, ⟨by decide +kernel, by decide +kernel⟩, rfl, rfl⟩
def Y_X3_remember : cc_Y := (yX3_remember, cX3_remember, 1, none, { frames := 3, cells := 0, slots := 0, locals := 83 })
theorem nd_X3_remember : (parseMethodDescriptor yX3_remember.desc).map (fun d => d.parameters.length) = some 0 := by decide +kernel
theorem ok_X3_remember : cc_Ok Y_X3_remember := ⟨cd_X3_remember, in_X3, by decide +kernel, ⟨by decide +kernel, by decide +kernel⟩, rfl, rfl⟩
def Y_X3_dropOldest : cc_Y := (yX3_dropOldest, cX3_dropOldest, 3, none, { frames := 0, cells := 0, slots := 0, locals := 0 })
theorem nd_X3_dropOldest : (parseMethodDescriptor yX3_dropOldest.desc).map (fun d => d.parameters.length) = some 0 := by decide +kernel
theorem ok_X3_dropOldest : cc_Ok Y_X3_dropOldest := ⟨cd_X3_dropOldest, in_X3, by decide +kernel, ⟨by decide +kernel, by decide +kernel⟩, rfl, rfl⟩
def Y_X0_copyFrom : cc_Y := (yX0_copyFrom, cX0_copyFrom, 3, none, { frames := 2, cells := 0, slots := 0, locals := 61 })
theorem nd_X0_copyFrom : (parseMethodDescriptor yX0_copyFrom.desc).map (fun d => d.parameters.length) = some 1 := by decide +kernel
theorem ok_X0_copyFrom : cc_Ok Y_X0_copyFrom := ⟨cd_X0_copyFrom, in_X0, by decide +kernel, ⟨by decide +kernel, by decide +kernel⟩, rfl, rfl⟩
def Y_X1_copyFrom : cc_Y := (yX1_copyFrom, cX1_copyFrom, 2, none, { frames := 1, cells := 0, slots := 0, locals := 40 })
theorem nd_X1_copyFrom : (parseMethodDescriptor yX1_copyFrom.desc).map (fun d => d.parameters.length) = some 1 := by decide +kernel
theorem ok_X1_copyFrom : cc_Ok Y_X1_copyFrom := ⟨cd_X1_copyFrom, in_X1, by decide +kernel, ⟨by decide +kernel, by decide +kernel⟩, rfl, rfl⟩
def Y_X2_copyFrom : cc_Y := (yX2_copyFrom, cX2_copyFrom, 2, none, { frames := 1, cells := 0, slots := 0, locals := 40 })
theorem nd_X2_copyFrom : (parseMethodDescriptor yX2_copyFrom.desc).map (fun d => d.parameters.length) = some 1 := by decide +kernel
theorem ok_X2_copyFrom : cc_Ok Y_X2_copyFrom := ⟨cd_X2_copyFrom, in_X2, by decide +kernel, ⟨by decide +kernel, by decide +kernel⟩, rfl, rfl⟩
def Y_X1_change : cc_Y := (yX1_change, cX1_change, 3, none, { frames := 0, cells := 0, slots := 0, locals := 0 })
theorem nd_X1_change : (parseMethodDescriptor yX1_change.desc).map (fun d => d.parameters.length) = some 2 := by decide +kernel
theorem ok_X1_change : cc_Ok Y_X1_change := ⟨cd_X1_change, in_X1, by decide +kernel, ⟨by decide +kernel, by decide +kernel⟩, rfl, rfl⟩
def Y_X3_set : cc_Y := (yX3_set, cX3_set, 4, (some .int), { frames := 4, cells := 0, slots := 0, locals := 103 })
theorem nd_X3_set : (parseMethodDescriptor yX3_set.desc).map (fun d => d.parameters.length) = some 2 := by decide +kernel
theorem ok_X3_set : cc_Ok Y_X3_set := ⟨cd_X3_set, in_X3, by decide +kernel, ⟨by decide +kernel, by decide +kernel⟩, rfl, rfl⟩
def Y_X3_mostOfBox : cc_Y := (yX3_mostOfBox, cX3_mostOfBox, 1, (some .int), { frames := 0, cells := 0, slots := 0, locals := 0 })
theorem nd_X3_mostOfBox : (parseMethodDescriptor yX3_mostOfBox.desc).map (fun d => d.parameters.length) = some 1 := by decide +kernel
theorem ok_X3_mostOfBox : cc_Ok Y_X3_mostOfBox := ⟨cd_X3_mostOfBox, in_X3, by decide +kernel, ⟨by decide +kernel, by decide +kernel⟩, rfl, rfl⟩
def Y_X3_arrive : cc_Y := (yX3_arrive, cX3_arrive, 3, (some .int), { frames := 4, cells := 0, slots := 0, locals := 103 })
theorem nd_X3_arrive : (parseMethodDescriptor yX3_arrive.desc).map (fun d => d.parameters.length) = some 2 := by decide +kernel
theorem ok_X3_arrive : cc_Ok Y_X3_arrive := ⟨cd_X3_arrive, in_X3, by decide +kernel, ⟨by decide +kernel, by decide +kernel⟩, rfl, rfl⟩
def Y_X2_isFull : cc_Y := (yX2_isFull, cX2_isFull, 1, (some .boolean), { frames := 0, cells := 0, slots := 0, locals := 0 })
theorem nd_X2_isFull : (parseMethodDescriptor yX2_isFull.desc).map (fun d => d.parameters.length) = some 0 := by decide +kernel
theorem ok_X2_isFull : cc_Ok Y_X2_isFull := ⟨cd_X2_isFull, in_X2, by decide +kernel, ⟨by decide +kernel, by decide +kernel⟩, rfl, rfl⟩
def Y_X0_admit : cc_Y := (yX0_admit, cX0_admit, 4, (some .int), { frames := 2, cells := 0, slots := 0, locals := 43 })
theorem nd_X0_admit : (parseMethodDescriptor yX0_admit.desc).map (fun d => d.parameters.length) = some 2 := by decide +kernel
theorem ok_X0_admit : cc_Ok Y_X0_admit := ⟨cd_X0_admit, in_X0, by decide +kernel, ⟨by decide +kernel, by decide +kernel⟩, rfl, rfl⟩
def Y_X2_append : cc_Y := (yX2_append, cX2_append, 4, none, { frames := 1, cells := 0, slots := 0, locals := 20 })
theorem nd_X2_append : (parseMethodDescriptor yX2_append.desc).map (fun d => d.parameters.length) = some 3 := by decide +kernel
theorem ok_X2_append : cc_Ok Y_X2_append := ⟨cd_X2_append, in_X2, by decide +kernel, ⟨by decide +kernel, by decide +kernel⟩, rfl, rfl⟩
def Y_X3_readArrivals : cc_Y := (yX3_readArrivals, cX3_readArrivals, 3, (some .int), { frames := 4, cells := 0, slots := 0, locals := 103 })
theorem nd_X3_readArrivals : (parseMethodDescriptor yX3_readArrivals.desc).map (fun d => d.parameters.length) = some 0 := by decide +kernel
theorem ok_X3_readArrivals : cc_Ok Y_X3_readArrivals := ⟨cd_X3_readArrivals, in_X3, by decide +kernel, ⟨by decide +kernel, by decide +kernel⟩, rfl, rfl⟩
def Y_X3_faultOfText : cc_Y := (yX3_faultOfText, cX3_faultOfText, 3, (some .int), { frames := 2, cells := 0, slots := 0, locals := 41 })
theorem nd_X3_faultOfText : (parseMethodDescriptor yX3_faultOfText.desc).map (fun d => d.parameters.length) = some 0 := by decide +kernel
theorem ok_X3_faultOfText : cc_Ok Y_X3_faultOfText := ⟨cd_X3_faultOfText, in_X3, by decide +kernel, ⟨by decide +kernel, by decide +kernel⟩, rfl, rfl⟩
def Y_X3_dueBehind : cc_Y := (yX3_dueBehind, cX3_dueBehind, 2, (some .int), { frames := 1, cells := 0, slots := 0, locals := 20 })
theorem nd_X3_dueBehind : (parseMethodDescriptor yX3_dueBehind.desc).map (fun d => d.parameters.length) = some 2 := by decide +kernel
theorem ok_X3_dueBehind : cc_Ok Y_X3_dueBehind := ⟨cd_X3_dueBehind, in_X3, by decide +kernel, ⟨by decide +kernel, by decide +kernel⟩, rfl, rfl⟩
def Y_X3_admitTextToTrial : cc_Y := (yX3_admitTextToTrial, cX3_admitTextToTrial, 7, (some .int), { frames := 3, cells := 0, slots := 0, locals := 66 })
theorem nd_X3_admitTextToTrial : (parseMethodDescriptor yX3_admitTextToTrial.desc).map (fun d => d.parameters.length) = some 0 := by decide +kernel
theorem ok_X3_admitTextToTrial : cc_Ok Y_X3_admitTextToTrial := ⟨cd_X3_admitTextToTrial, in_X3, by decide +kernel, ⟨by decide +kernel, by decide +kernel⟩, rfl, rfl⟩
def Y_X3_tellsTimes : cc_Y := (yX3_tellsTimes, cX3_tellsTimes, 2, (some .boolean), { frames := 0, cells := 0, slots := 0, locals := 0 })
theorem nd_X3_tellsTimes : (parseMethodDescriptor yX3_tellsTimes.desc).map (fun d => d.parameters.length) = some 1 := by decide +kernel
theorem ok_X3_tellsTimes : cc_Ok Y_X3_tellsTimes := ⟨cd_X3_tellsTimes, in_X3, by decide +kernel, ⟨by decide +kernel, by decide +kernel⟩, rfl, rfl⟩
def Y_X3_pass : cc_Y := (yX3_pass, cX3_pass, 2, (some .int), { frames := 5, cells := 0, slots := 0, locals := 125 })
theorem nd_X3_pass : (parseMethodDescriptor yX3_pass.desc).map (fun d => d.parameters.length) = some 1 := by decide +kernel
theorem ok_X3_pass : cc_Ok Y_X3_pass := ⟨cd_X3_pass, in_X3, by decide +kernel, ⟨by decide +kernel, by decide +kernel⟩, rfl, rfl⟩
def Y_X3_isTickCount : cc_Y := (yX3_isTickCount, cX3_isTickCount, 1, (some .boolean), { frames := 0, cells := 0, slots := 0, locals := 0 })
theorem nd_X3_isTickCount : (parseMethodDescriptor yX3_isTickCount.desc).map (fun d => d.parameters.length) = some 1 := by decide +kernel
theorem ok_X3_isTickCount : cc_Ok Y_X3_isTickCount := ⟨cd_X3_isTickCount, in_X3, by decide +kernel, ⟨by decide +kernel, by decide +kernel⟩, rfl, rfl⟩
def Y_X0_passTicks : cc_Y := (yX0_passTicks, cX0_passTicks, 4, (some .int), { frames := 4, cells := 0, slots := 0, locals := 102 })
theorem nd_X0_passTicks : (parseMethodDescriptor yX0_passTicks.desc).map (fun d => d.parameters.length) = some 1 := by decide +kernel
theorem ok_X0_passTicks : cc_Ok Y_X0_passTicks := ⟨cd_X0_passTicks, in_X0, by decide +kernel, ⟨by decide +kernel, by decide +kernel⟩, rfl, rfl⟩
def Y_X0_passTick : cc_Y := (yX0_passTick, cX0_passTick, 3, (some .int), { frames := 3, cells := 0, slots := 0, locals := 80 })
theorem nd_X0_passTick : (parseMethodDescriptor yX0_passTick.desc).map (fun d => d.parameters.length) = some 0 := by decide +kernel
theorem ok_X0_passTick : cc_Ok Y_X0_passTick := ⟨cd_X0_passTick, in_X0, by decide +kernel, ⟨by decide +kernel, by decide +kernel⟩, rfl, rfl⟩
def Y_X0_beginTick : cc_Y := (yX0_beginTick, cX0_beginTick, 3, none, { frames := 2, cells := 0, slots := 0, locals := 43 })
theorem nd_X0_beginTick : (parseMethodDescriptor yX0_beginTick.desc).map (fun d => d.parameters.length) = some 0 := by decide +kernel
theorem ok_X0_beginTick : cc_Ok Y_X0_beginTick := ⟨cd_X0_beginTick, in_X0, by decide +kernel, ⟨by decide +kernel, by decide +kernel⟩, rfl, rfl⟩
def Y_X1_letCreditsCome : cc_Y := (yX1_letCreditsCome, cX1_letCreditsCome, 3, none, { frames := 1, cells := 0, slots := 0, locals := 21 })
theorem nd_X1_letCreditsCome : (parseMethodDescriptor yX1_letCreditsCome.desc).map (fun d => d.parameters.length) = some 1 := by decide +kernel
theorem ok_X1_letCreditsCome : cc_Ok Y_X1_letCreditsCome := ⟨cd_X1_letCreditsCome, in_X1, by decide +kernel, ⟨by decide +kernel, by decide +kernel⟩, rfl, rfl⟩
def Y_X1_creditComes : cc_Y := (yX1_creditComes, cX1_creditComes, 2, (some .boolean), { frames := 0, cells := 0, slots := 0, locals := 0 })
theorem nd_X1_creditComes : (parseMethodDescriptor yX1_creditComes.desc).map (fun d => d.parameters.length) = some 1 := by decide +kernel
theorem ok_X1_creditComes : cc_Ok Y_X1_creditComes := ⟨cd_X1_creditComes, in_X1, by decide +kernel, ⟨by decide +kernel, by decide +kernel⟩, rfl, rfl⟩
def Y_X1_dropFirstOnTheWay : cc_Y := (yX1_dropFirstOnTheWay, cX1_dropFirstOnTheWay, 2, none, { frames := 0, cells := 0, slots := 0, locals := 0 })
theorem nd_X1_dropFirstOnTheWay : (parseMethodDescriptor yX1_dropFirstOnTheWay.desc).map (fun d => d.parameters.length) = some 0 := by decide +kernel
theorem ok_X1_dropFirstOnTheWay : cc_Ok Y_X1_dropFirstOnTheWay := ⟨cd_X1_dropFirstOnTheWay, in_X1, by decide +kernel, ⟨by decide +kernel, by decide +kernel⟩, rfl, rfl⟩
def Y_X1_mend : cc_Y := (yX1_mend, cX1_mend, 1, none, { frames := 1, cells := 0, slots := 0, locals := 20 })
theorem nd_X1_mend : (parseMethodDescriptor yX1_mend.desc).map (fun d => d.parameters.length) = some 0 := by decide +kernel
theorem ok_X1_mend : cc_Ok Y_X1_mend := ⟨cd_X1_mend, in_X1, by decide +kernel, ⟨by decide +kernel, by decide +kernel⟩, rfl, rfl⟩
def Y_X1_missing : cc_Y := (yX1_missing, cX1_missing, 1, (some .int), { frames := 0, cells := 0, slots := 0, locals := 0 })
theorem nd_X1_missing : (parseMethodDescriptor yX1_missing.desc).map (fun d => d.parameters.length) = some 0 := by decide +kernel
theorem ok_X1_missing : cc_Ok Y_X1_missing := ⟨cd_X1_missing, in_X1, by decide +kernel, ⟨by decide +kernel, by decide +kernel⟩, rfl, rfl⟩
def Y_X0_sendTo : cc_Y := (yX0_sendTo, cX0_sendTo, 7, (some .int), { frames := 2, cells := 0, slots := 0, locals := 54 })
theorem nd_X0_sendTo : (parseMethodDescriptor yX0_sendTo.desc).map (fun d => d.parameters.length) = some 1 := by decide +kernel
theorem ok_X0_sendTo : cc_Ok Y_X0_sendTo := ⟨cd_X0_sendTo, in_X0, by decide +kernel, ⟨by decide +kernel, by decide +kernel⟩, rfl, rfl⟩
def Y_X2_offerFor : cc_Y := (yX2_offerFor, cX2_offerFor, 5, (some .int), { frames := 1, cells := 0, slots := 0, locals := 30 })
theorem nd_X2_offerFor : (parseMethodDescriptor yX2_offerFor.desc).map (fun d => d.parameters.length) = some 2 := by decide +kernel
theorem ok_X2_offerFor : cc_Ok Y_X2_offerFor := ⟨cd_X2_offerFor, in_X2, by decide +kernel, ⟨by decide +kernel, by decide +kernel⟩, rfl, rfl⟩
def Y_X2_sendFrom : cc_Y := (yX2_sendFrom, cX2_sendFrom, 4, (some .int), { frames := 0, cells := 0, slots := 0, locals := 0 })
theorem nd_X2_sendFrom : (parseMethodDescriptor yX2_sendFrom.desc).map (fun d => d.parameters.length) = some 1 := by decide +kernel
theorem ok_X2_sendFrom : cc_Ok Y_X2_sendFrom := ⟨cd_X2_sendFrom, in_X2, by decide +kernel, ⟨by decide +kernel, by decide +kernel⟩, rfl, rfl⟩
def Y_X1_receive : cc_Y := (yX1_receive, cX1_receive, 2, none, { frames := 0, cells := 0, slots := 0, locals := 0 })
theorem nd_X1_receive : (parseMethodDescriptor yX1_receive.desc).map (fun d => d.parameters.length) = some 1 := by decide +kernel
theorem ok_X1_receive : cc_Ok Y_X1_receive := ⟨cd_X1_receive, in_X1, by decide +kernel, ⟨by decide +kernel, by decide +kernel⟩, rfl, rfl⟩
def Y_X1_takeIfDue : cc_Y := (yX1_takeIfDue, cX1_takeIfDue, 4, none, { frames := 1, cells := 0, slots := 0, locals := 22 })
theorem nd_X1_takeIfDue : (parseMethodDescriptor yX1_takeIfDue.desc).map (fun d => d.parameters.length) = some 1 := by decide +kernel
theorem ok_X1_takeIfDue : cc_Ok Y_X1_takeIfDue := ⟨cd_X1_takeIfDue, in_X1, by decide +kernel, ⟨by decide +kernel, by decide +kernel⟩, rfl, rfl⟩
def Y_X1_sendCreditBack : cc_Y := (yX1_sendCreditBack, cX1_sendCreditBack, 3, none, { frames := 0, cells := 0, slots := 0, locals := 0 })
theorem nd_X1_sendCreditBack : (parseMethodDescriptor yX1_sendCreditBack.desc).map (fun d => d.parameters.length) = some 1 := by decide +kernel
theorem ok_X1_sendCreditBack : cc_Ok Y_X1_sendCreditBack := ⟨cd_X1_sendCreditBack, in_X1, by decide +kernel, ⟨by decide +kernel, by decide +kernel⟩, rfl, rfl⟩
def Y_X2_countBlocked : cc_Y := (yX2_countBlocked, cX2_countBlocked, 1, none, { frames := 0, cells := 0, slots := 0, locals := 0 })
theorem nd_X2_countBlocked : (parseMethodDescriptor yX2_countBlocked.desc).map (fun d => d.parameters.length) = some 0 := by decide +kernel
theorem ok_X2_countBlocked : cc_Ok Y_X2_countBlocked := ⟨cd_X2_countBlocked, in_X2, by decide +kernel, ⟨by decide +kernel, by decide +kernel⟩, rfl, rfl⟩
def Y_X3_lose : cc_Y := (yX3_lose, cX3_lose, 3, (some .int), { frames := 4, cells := 0, slots := 0, locals := 103 })
theorem nd_X3_lose : (parseMethodDescriptor yX3_lose.desc).map (fun d => d.parameters.length) = some 1 := by decide +kernel
theorem ok_X3_lose : cc_Ok Y_X3_lose := ⟨cd_X3_lose, in_X3, by decide +kernel, ⟨by decide +kernel, by decide +kernel⟩, rfl, rfl⟩
def Y_X1_loseFirst : cc_Y := (yX1_loseFirst, cX1_loseFirst, 1, none, { frames := 1, cells := 0, slots := 0, locals := 21 })
theorem nd_X1_loseFirst : (parseMethodDescriptor yX1_loseFirst.desc).map (fun d => d.parameters.length) = some 0 := by decide +kernel
theorem ok_X1_loseFirst : cc_Ok Y_X1_loseFirst := ⟨cd_X1_loseFirst, in_X1, by decide +kernel, ⟨by decide +kernel, by decide +kernel⟩, rfl, rfl⟩
def Y_X3_forge : cc_Y := (yX3_forge, cX3_forge, 3, (some .int), { frames := 4, cells := 0, slots := 0, locals := 103 })
theorem nd_X3_forge : (parseMethodDescriptor yX3_forge.desc).map (fun d => d.parameters.length) = some 1 := by decide +kernel
theorem ok_X3_forge : cc_Ok Y_X3_forge := ⟨cd_X3_forge, in_X3, by decide +kernel, ⟨by decide +kernel, by decide +kernel⟩, rfl, rfl⟩
def Y_X3_repair : cc_Y := (yX3_repair, cX3_repair, 4, (some .int), { frames := 4, cells := 0, slots := 0, locals := 103 })
theorem nd_X3_repair : (parseMethodDescriptor yX3_repair.desc).map (fun d => d.parameters.length) = some 1 := by decide +kernel
theorem ok_X3_repair : cc_Ok Y_X3_repair := ⟨cd_X3_repair, in_X3, by decide +kernel, ⟨by decide +kernel, by decide +kernel⟩, rfl, rfl⟩
def Y_X3_type : cc_Y := (yX3_type, cX3_type, 2, (some .int), { frames := 0, cells := 0, slots := 0, locals := 0 })
theorem nd_X3_type : (parseMethodDescriptor yX3_type.desc).map (fun d => d.parameters.length) = some 1 := by decide +kernel
theorem ok_X3_type : cc_Ok Y_X3_type := ⟨cd_X3_type, in_X3, by decide +kernel, ⟨by decide +kernel, by decide +kernel⟩, rfl, rfl⟩
def Y_X3_clearText : cc_Y := (yX3_clearText, cX3_clearText, 2, (some .int), { frames := 0, cells := 0, slots := 0, locals := 0 })
theorem nd_X3_clearText : (parseMethodDescriptor yX3_clearText.desc).map (fun d => d.parameters.length) = some 0 := by decide +kernel
theorem ok_X3_clearText : cc_Ok Y_X3_clearText := ⟨cd_X3_clearText, in_X3, by decide +kernel, ⟨by decide +kernel, by decide +kernel⟩, rfl, rfl⟩
def Y_X3_undo : cc_Y := (yX3_undo, cX3_undo, 1, (some .int), { frames := 3, cells := 0, slots := 0, locals := 83 })
theorem nd_X3_undo : (parseMethodDescriptor yX3_undo.desc).map (fun d => d.parameters.length) = some 0 := by decide +kernel
theorem ok_X3_undo : cc_Ok Y_X3_undo := ⟨cd_X3_undo, in_X3, by decide +kernel, ⟨by decide +kernel, by decide +kernel⟩, rfl, rfl⟩
def Y_X3_keep : cc_Y := (yX3_keep, cX3_keep, 1, (some .int), { frames := 3, cells := 0, slots := 0, locals := 83 })
theorem nd_X3_keep : (parseMethodDescriptor yX3_keep.desc).map (fun d => d.parameters.length) = some 0 := by decide +kernel
theorem ok_X3_keep : cc_Ok Y_X3_keep := ⟨cd_X3_keep, in_X3, by decide +kernel, ⟨by decide +kernel, by decide +kernel⟩, rfl, rfl⟩
def Y_X3_restore : cc_Y := (yX3_restore, cX3_restore, 1, (some .int), { frames := 4, cells := 0, slots := 0, locals := 103 })
theorem nd_X3_restore : (parseMethodDescriptor yX3_restore.desc).map (fun d => d.parameters.length) = some 0 := by decide +kernel
theorem ok_X3_restore : cc_Ok Y_X3_restore := ⟨cd_X3_restore, in_X3, by decide +kernel, ⟨by decide +kernel, by decide +kernel⟩, rfl, rfl⟩
def Y_X3_lane : cc_Y := (yX3_lane, cX3_lane, 3, (some .int), { frames := 3, cells := 0, slots := 0, locals := 67 })
theorem nd_X3_lane : (parseMethodDescriptor yX3_lane.desc).map (fun d => d.parameters.length) = some 2 := by decide +kernel
theorem ok_X3_lane : cc_Ok Y_X3_lane := ⟨cd_X3_lane, in_X3, by decide +kernel, ⟨by decide +kernel, by decide +kernel⟩, rfl, rfl⟩
def Y_X0_waitingFor : cc_Y := (yX0_waitingFor, cX0_waitingFor, 4, (some .int), { frames := 1, cells := 0, slots := 0, locals := 23 })
theorem nd_X0_waitingFor : (parseMethodDescriptor yX0_waitingFor.desc).map (fun d => d.parameters.length) = some 1 := by decide +kernel
theorem ok_X0_waitingFor : cc_Ok Y_X0_waitingFor := ⟨cd_X0_waitingFor, in_X0, by decide +kernel, ⟨by decide +kernel, by decide +kernel⟩, rfl, rfl⟩
def Y_X2_waitingFor : cc_Y := (yX2_waitingFor, cX2_waitingFor, 4, (some .int), { frames := 0, cells := 0, slots := 0, locals := 0 })
theorem nd_X2_waitingFor : (parseMethodDescriptor yX2_waitingFor.desc).map (fun d => d.parameters.length) = some 1 := by decide +kernel
theorem ok_X2_waitingFor : cc_Ok Y_X2_waitingFor := ⟨cd_X2_waitingFor, in_X2, by decide +kernel, ⟨by decide +kernel, by decide +kernel⟩, rfl, rfl⟩
def Y_X0_isStuck : cc_Y := (yX0_isStuck, cX0_isStuck, 2, (some .boolean), { frames := 2, cells := 0, slots := 0, locals := 46 })
theorem nd_X0_isStuck : (parseMethodDescriptor yX0_isStuck.desc).map (fun d => d.parameters.length) = some 1 := by decide +kernel
theorem ok_X0_isStuck : cc_Ok Y_X0_isStuck := ⟨cd_X0_isStuck, in_X0, by decide +kernel, ⟨by decide +kernel, by decide +kernel⟩, rfl, rfl⟩
def Y_X1_isDry : cc_Y := (yX1_isDry, cX1_isDry, 1, (some .boolean), { frames := 0, cells := 0, slots := 0, locals := 0 })
theorem nd_X1_isDry : (parseMethodDescriptor yX1_isDry.desc).map (fun d => d.parameters.length) = some 0 := by decide +kernel
theorem ok_X1_isDry : cc_Ok Y_X1_isDry := ⟨cd_X1_isDry, in_X1, by decide +kernel, ⟨by decide +kernel, by decide +kernel⟩, rfl, rfl⟩
def Y_X1_figure : cc_Y := (yX1_figure, cX1_figure, 2, (some .int), { frames := 1, cells := 0, slots := 0, locals := 20 })
theorem nd_X1_figure : (parseMethodDescriptor yX1_figure.desc).map (fun d => d.parameters.length) = some 1 := by decide +kernel
theorem ok_X1_figure : cc_Ok Y_X1_figure := ⟨cd_X1_figure, in_X1, by decide +kernel, ⟨by decide +kernel, by decide +kernel⟩, rfl, rfl⟩
def Y_X3_seated : cc_Y := (yX3_seated, cX3_seated, 4, (some .int), { frames := 1, cells := 0, slots := 0, locals := 20 })
theorem nd_X3_seated : (parseMethodDescriptor yX3_seated.desc).map (fun d => d.parameters.length) = some 2 := by decide +kernel
theorem ok_X3_seated : cc_Ok Y_X3_seated := ⟨cd_X3_seated, in_X3, by decide +kernel, ⟨by decide +kernel, by decide +kernel⟩, rfl, rfl⟩
def Y_X3_onTheWay : cc_Y := (yX3_onTheWay, cX3_onTheWay, 4, (some .int), { frames := 1, cells := 0, slots := 0, locals := 20 })
theorem nd_X3_onTheWay : (parseMethodDescriptor yX3_onTheWay.desc).map (fun d => d.parameters.length) = some 2 := by decide +kernel
theorem ok_X3_onTheWay : cc_Ok Y_X3_onTheWay := ⟨cd_X3_onTheWay, in_X3, by decide +kernel, ⟨by decide +kernel, by decide +kernel⟩, rfl, rfl⟩
def Y_X3_input : cc_Y := (yX3_input, cX3_input, 3, (some .int), { frames := 1, cells := 0, slots := 0, locals := 21 })
theorem nd_X3_input : (parseMethodDescriptor yX3_input.desc).map (fun d => d.parameters.length) = some 2 := by decide +kernel
theorem ok_X3_input : cc_Ok Y_X3_input := ⟨cd_X3_input, in_X3, by decide +kernel, ⟨by decide +kernel, by decide +kernel⟩, rfl, rfl⟩
def Y_X2_figure : cc_Y := (yX2_figure, cX2_figure, 2, (some .int), { frames := 0, cells := 0, slots := 0, locals := 0 })
theorem nd_X2_figure : (parseMethodDescriptor yX2_figure.desc).map (fun d => d.parameters.length) = some 1 := by decide +kernel
theorem ok_X2_figure : cc_Ok Y_X2_figure := ⟨cd_X2_figure, in_X2, by decide +kernel, ⟨by decide +kernel, by decide +kernel⟩, rfl, rfl⟩
def Y_X3_packet : cc_Y := (yX3_packet, cX3_packet, 4, (some .int), { frames := 1, cells := 0, slots := 0, locals := 22 })
theorem nd_X3_packet : (parseMethodDescriptor yX3_packet.desc).map (fun d => d.parameters.length) = some 3 := by decide +kernel
theorem ok_X3_packet : cc_Ok Y_X3_packet := ⟨cd_X3_packet, in_X3, by decide +kernel, ⟨by decide +kernel, by decide +kernel⟩, rfl, rfl⟩
def Y_X2_packetFigure : cc_Y := (yX2_packetFigure, cX2_packetFigure, 3, (some .int), { frames := 0, cells := 0, slots := 0, locals := 0 })
theorem nd_X2_packetFigure : (parseMethodDescriptor yX2_packetFigure.desc).map (fun d => d.parameters.length) = some 2 := by decide +kernel
theorem ok_X2_packetFigure : cc_Ok Y_X2_packetFigure := ⟨cd_X2_packetFigure, in_X2, by decide +kernel, ⟨by decide +kernel, by decide +kernel⟩, rfl, rfl⟩
def Y_X3_next : cc_Y := (yX3_next, cX3_next, 4, (some .int), { frames := 3, cells := 0, slots := 0, locals := 83 })
theorem nd_X3_next : (parseMethodDescriptor yX3_next.desc).map (fun d => d.parameters.length) = some 1 := by decide +kernel
theorem ok_X3_next : cc_Ok Y_X3_next := ⟨cd_X3_next, in_X3, by decide +kernel, ⟨by decide +kernel, by decide +kernel⟩, rfl, rfl⟩
def Y_X3_leavesIn : cc_Y := (yX3_leavesIn, cX3_leavesIn, 5, (some .int), { frames := 4, cells := 0, slots := 0, locals := 102 })
theorem nd_X3_leavesIn : (parseMethodDescriptor yX3_leavesIn.desc).map (fun d => d.parameters.length) = some 2 := by decide +kernel
theorem ok_X3_leavesIn : cc_Ok Y_X3_leavesIn := ⟨cd_X3_leavesIn, in_X3, by decide +kernel, ⟨by decide +kernel, by decide +kernel⟩, rfl, rfl⟩
def Y_X2_holds : cc_Y := (yX2_holds, cX2_holds, 3, (some .boolean), { frames := 0, cells := 0, slots := 0, locals := 0 })
theorem nd_X2_holds : (parseMethodDescriptor yX2_holds.desc).map (fun d => d.parameters.length) = some 1 := by decide +kernel
theorem ok_X2_holds : cc_Ok Y_X2_holds := ⟨cd_X2_holds, in_X2, by decide +kernel, ⟨by decide +kernel, by decide +kernel⟩, rfl, rfl⟩
def Y_X3_wouldSend : cc_Y := (yX3_wouldSend, cX3_wouldSend, 3, (some .int), { frames := 5, cells := 0, slots := 0, locals := 125 })
theorem nd_X3_wouldSend : (parseMethodDescriptor yX3_wouldSend.desc).map (fun d => d.parameters.length) = some 2 := by decide +kernel
theorem ok_X3_wouldSend : cc_Ok Y_X3_wouldSend := ⟨cd_X3_wouldSend, in_X3, by decide +kernel, ⟨by decide +kernel, by decide +kernel⟩, rfl, rfl⟩
def Y_X3_count : cc_Y := (yX3_count, cX3_count, 2, (some .int), { frames := 5, cells := 0, slots := 0, locals := 110 })
theorem nd_X3_count : (parseMethodDescriptor yX3_count.desc).map (fun d => d.parameters.length) = some 1 := by decide +kernel
theorem ok_X3_count : cc_Ok Y_X3_count := ⟨cd_X3_count, in_X3, by decide +kernel, ⟨by decide +kernel, by decide +kernel⟩, rfl, rfl⟩
def Y_X0_figure : cc_Y := (yX0_figure, cX0_figure, 2, (some .int), { frames := 4, cells := 0, slots := 0, locals := 89 })
theorem nd_X0_figure : (parseMethodDescriptor yX0_figure.desc).map (fun d => d.parameters.length) = some 1 := by decide +kernel
theorem ok_X0_figure : cc_Ok Y_X0_figure := ⟨cd_X0_figure, in_X0, by decide +kernel, ⟨by decide +kernel, by decide +kernel⟩, rfl, rfl⟩
def Y_X0_sumOfQueues : cc_Y := (yX0_sumOfQueues, cX0_sumOfQueues, 4, (some .int), { frames := 1, cells := 0, slots := 0, locals := 21 })
theorem nd_X0_sumOfQueues : (parseMethodDescriptor yX0_sumOfQueues.desc).map (fun d => d.parameters.length) = some 1 := by decide +kernel
theorem ok_X0_sumOfQueues : cc_Ok Y_X0_sumOfQueues := ⟨cd_X0_sumOfQueues, in_X0, by decide +kernel, ⟨by decide +kernel, by decide +kernel⟩, rfl, rfl⟩
def Y_X0_sumOfLanes : cc_Y := (yX0_sumOfLanes, cX0_sumOfLanes, 4, (some .int), { frames := 2, cells := 0, slots := 0, locals := 41 })
theorem nd_X0_sumOfLanes : (parseMethodDescriptor yX0_sumOfLanes.desc).map (fun d => d.parameters.length) = some 1 := by decide +kernel
theorem ok_X0_sumOfLanes : cc_Ok Y_X0_sumOfLanes := ⟨cd_X0_sumOfLanes, in_X0, by decide +kernel, ⟨by decide +kernel, by decide +kernel⟩, rfl, rfl⟩
def Y_X0_stuckLanes : cc_Y := (yX0_stuckLanes, cX0_stuckLanes, 3, (some .int), { frames := 3, cells := 0, slots := 0, locals := 67 })
theorem nd_X0_stuckLanes : (parseMethodDescriptor yX0_stuckLanes.desc).map (fun d => d.parameters.length) = some 0 := by decide +kernel
theorem ok_X0_stuckLanes : cc_Ok Y_X0_stuckLanes := ⟨cd_X0_stuckLanes, in_X0, by decide +kernel, ⟨by decide +kernel, by decide +kernel⟩, rfl, rfl⟩
def Y_X4_lay : cc_Y := (yX4_lay, cX4_lay, 4, none, { frames := 0, cells := 0, slots := 0, locals := 0 })
theorem nd_X4_lay : (parseMethodDescriptor yX4_lay.desc).map (fun d => d.parameters.length) = some 3 := by decide +kernel
theorem ok_X4_lay : cc_Ok Y_X4_lay := ⟨cd_X4_lay, in_X4, by decide +kernel, ⟨by decide +kernel, by decide +kernel⟩, rfl, rfl⟩
def Y_X4_undo : cc_Y := (yX4_undo, cX4_undo, 2, (some .int), { frames := 0, cells := 0, slots := 0, locals := 0 })
theorem nd_X4_undo : (parseMethodDescriptor yX4_undo.desc).map (fun d => d.parameters.length) = some 0 := by decide +kernel
theorem ok_X4_undo : cc_Ok Y_X4_undo := ⟨cd_X4_undo, in_X4, by decide +kernel, ⟨by decide +kernel, by decide +kernel⟩, rfl, rfl⟩
def Y_X4_keep : cc_Y := (yX4_keep, cX4_keep, 2, (some .int), { frames := 0, cells := 0, slots := 0, locals := 0 })
theorem nd_X4_keep : (parseMethodDescriptor yX4_keep.desc).map (fun d => d.parameters.length) = some 0 := by decide +kernel
theorem ok_X4_keep : cc_Ok Y_X4_keep := ⟨cd_X4_keep, in_X4, by decide +kernel, ⟨by decide +kernel, by decide +kernel⟩, rfl, rfl⟩
def Y_X4_restore : cc_Y := (yX4_restore, cX4_restore, 2, (some .int), { frames := 2, cells := 0, slots := 0, locals := 41 })
theorem nd_X4_restore : (parseMethodDescriptor yX4_restore.desc).map (fun d => d.parameters.length) = some 0 := by decide +kernel
theorem ok_X4_restore : cc_Ok Y_X4_restore := ⟨cd_X4_restore, in_X4, by decide +kernel, ⟨by decide +kernel, by decide +kernel⟩, rfl, rfl⟩
def Y_X4_open : cc_Y := (yX4_open, cX4_open, 1, none, { frames := 1, cells := 0, slots := 0, locals := 21 })
theorem nd_X4_open : (parseMethodDescriptor yX4_open.desc).map (fun d => d.parameters.length) = some 0 := by decide +kernel
theorem ok_X4_open : cc_Ok Y_X4_open := ⟨cd_X4_open, in_X4, by decide +kernel, ⟨by decide +kernel, by decide +kernel⟩, rfl, rfl⟩
def Y_X4_remember : cc_Y := (yX4_remember, cX4_remember, 2, none, { frames := 0, cells := 0, slots := 0, locals := 0 })
theorem nd_X4_remember : (parseMethodDescriptor yX4_remember.desc).map (fun d => d.parameters.length) = some 0 := by decide +kernel
theorem ok_X4_remember : cc_Ok Y_X4_remember := ⟨cd_X4_remember, in_X4, by decide +kernel, ⟨by decide +kernel, by decide +kernel⟩, rfl, rfl⟩
def Y_X4_record : cc_Y := (yX4_record, cX4_record, 2, none, { frames := 0, cells := 0, slots := 0, locals := 0 })
theorem nd_X4_record : (parseMethodDescriptor yX4_record.desc).map (fun d => d.parameters.length) = some 0 := by decide +kernel
theorem ok_X4_record : cc_Ok Y_X4_record := ⟨cd_X4_record, in_X4, by decide +kernel, ⟨by decide +kernel, by decide +kernel⟩, rfl, rfl⟩
def Y_X4_setLane : cc_Y := (yX4_setLane, cX4_setLane, 5, (some .int), { frames := 2, cells := 0, slots := 0, locals := 42 })
theorem nd_X4_setLane : (parseMethodDescriptor yX4_setLane.desc).map (fun d => d.parameters.length) = some 3 := by decide +kernel
theorem ok_X4_setLane : cc_Ok Y_X4_setLane := ⟨cd_X4_setLane, in_X4, by decide +kernel, ⟨by decide +kernel, by decide +kernel⟩, rfl, rfl⟩
def Y_X4_noPort : cc_Y := (yX4_noPort, cX4_noPort, 1, (some .boolean), { frames := 1, cells := 0, slots := 0, locals := 22 })
theorem nd_X4_noPort : (parseMethodDescriptor yX4_noPort.desc).map (fun d => d.parameters.length) = some 1 := by decide +kernel
theorem ok_X4_noPort : cc_Ok Y_X4_noPort := ⟨cd_X4_noPort, in_X4, by decide +kernel, ⟨by decide +kernel, by decide +kernel⟩, rfl, rfl⟩
def Y_X4_in : cc_Y := (yX4_in, cX4_in, 3, (some .boolean), { frames := 0, cells := 0, slots := 0, locals := 0 })
theorem nd_X4_in : (parseMethodDescriptor yX4_in.desc).map (fun d => d.parameters.length) = some 3 := by decide +kernel
theorem ok_X4_in : cc_Ok Y_X4_in := ⟨cd_X4_in, in_X4, by decide +kernel, ⟨by decide +kernel, by decide +kernel⟩, rfl, rfl⟩
def Y_X4_of : cc_Y := (yX4_of, cX4_of, 3, (some .int), { frames := 0, cells := 0, slots := 0, locals := 0 })
theorem nd_X4_of : (parseMethodDescriptor yX4_of.desc).map (fun d => d.parameters.length) = some 2 := by decide +kernel
theorem ok_X4_of : cc_Ok Y_X4_of := ⟨cd_X4_of, in_X4, by decide +kernel, ⟨by decide +kernel, by decide +kernel⟩, rfl, rfl⟩
def Y_X4_more : cc_Y := (yX4_more, cX4_more, 4, none, { frames := 0, cells := 0, slots := 0, locals := 0 })
theorem nd_X4_more : (parseMethodDescriptor yX4_more.desc).map (fun d => d.parameters.length) = some 3 := by decide +kernel
theorem ok_X4_more : cc_Ok Y_X4_more := ⟨cd_X4_more, in_X4, by decide +kernel, ⟨by decide +kernel, by decide +kernel⟩, rfl, rfl⟩
def Y_X4_set : cc_Y := (yX4_set, cX4_set, 4, (some .int), { frames := 2, cells := 0, slots := 0, locals := 41 })
theorem nd_X4_set : (parseMethodDescriptor yX4_set.desc).map (fun d => d.parameters.length) = some 2 := by decide +kernel
theorem ok_X4_set : cc_Ok Y_X4_set := ⟨cd_X4_set, in_X4, by decide +kernel, ⟨by decide +kernel, by decide +kernel⟩, rfl, rfl⟩
def Y_X4_arrive : cc_Y := (yX4_arrive, cX4_arrive, 3, (some .int), { frames := 2, cells := 0, slots := 0, locals := 45 })
theorem nd_X4_arrive : (parseMethodDescriptor yX4_arrive.desc).map (fun d => d.parameters.length) = some 2 := by decide +kernel
theorem ok_X4_arrive : cc_Ok Y_X4_arrive := ⟨cd_X4_arrive, in_X4, by decide +kernel, ⟨by decide +kernel, by decide +kernel⟩, rfl, rfl⟩
def Y_X4_by : cc_Y := (yX4_by, cX4_by, 3, (some .int), { frames := 0, cells := 0, slots := 0, locals := 0 })
theorem nd_X4_by : (parseMethodDescriptor yX4_by.desc).map (fun d => d.parameters.length) = some 2 := by decide +kernel
theorem ok_X4_by : cc_Ok Y_X4_by := ⟨cd_X4_by, in_X4, by decide +kernel, ⟨by decide +kernel, by decide +kernel⟩, rfl, rfl⟩
def Y_X4_bring : cc_Y := (yX4_bring, cX4_bring, 4, none, { frames := 1, cells := 0, slots := 0, locals := 22 })
theorem nd_X4_bring : (parseMethodDescriptor yX4_bring.desc).map (fun d => d.parameters.length) = some 2 := by decide +kernel
theorem ok_X4_bring : cc_Ok Y_X4_bring := ⟨cd_X4_bring, in_X4, by decide +kernel, ⟨by decide +kernel, by decide +kernel⟩, rfl, rfl⟩
def Y_X4_readArrivals : cc_Y := (yX4_readArrivals, cX4_readArrivals, 2, (some .int), { frames := 4, cells := 0, slots := 0, locals := 94 })
theorem nd_X4_readArrivals : (parseMethodDescriptor yX4_readArrivals.desc).map (fun d => d.parameters.length) = some 0 := by decide +kernel
theorem ok_X4_readArrivals : cc_Ok Y_X4_readArrivals := ⟨cd_X4_readArrivals, in_X4, by decide +kernel, ⟨by decide +kernel, by decide +kernel⟩, rfl, rfl⟩
def Y_X4_arrivals : cc_Y := (yX4_arrivals, cX4_arrivals, 5, (some .int), { frames := 3, cells := 0, slots := 0, locals := 70 })
theorem nd_X4_arrivals : (parseMethodDescriptor yX4_arrivals.desc).map (fun d => d.parameters.length) = some 1 := by decide +kernel
theorem ok_X4_arrivals : cc_Ok Y_X4_arrivals := ⟨cd_X4_arrivals, in_X4, by decide +kernel, ⟨by decide +kernel, by decide +kernel⟩, rfl, rfl⟩
def Y_X4_arrival : cc_Y := (yX4_arrival, cX4_arrival, 6, (some .int), { frames := 2, cells := 0, slots := 0, locals := 45 })
theorem nd_X4_arrival : (parseMethodDescriptor yX4_arrival.desc).map (fun d => d.parameters.length) = some 1 := by decide +kernel
theorem ok_X4_arrival : cc_Ok Y_X4_arrival := ⟨cd_X4_arrival, in_X4, by decide +kernel, ⟨by decide +kernel, by decide +kernel⟩, rfl, rfl⟩
def Y_X4_sees : cc_Y := (yX4_sees, cX4_sees, 3, (some .boolean), { frames := 1, cells := 0, slots := 0, locals := 22 })
theorem nd_X4_sees : (parseMethodDescriptor yX4_sees.desc).map (fun d => d.parameters.length) = some 2 := by decide +kernel
theorem ok_X4_sees : cc_Ok Y_X4_sees := ⟨cd_X4_sees, in_X4, by decide +kernel, ⟨by decide +kernel, by decide +kernel⟩, rfl, rfl⟩
def Y_X4_goBack : cc_Y := (yX4_goBack, cX4_goBack, 2, none, { frames := 0, cells := 0, slots := 0, locals := 0 })
theorem nd_X4_goBack : (parseMethodDescriptor yX4_goBack.desc).map (fun d => d.parameters.length) = some 0 := by decide +kernel
theorem ok_X4_goBack : cc_Ok Y_X4_goBack := ⟨cd_X4_goBack, in_X4, by decide +kernel, ⟨by decide +kernel, by decide +kernel⟩, rfl, rfl⟩
def Y_X4_pass : cc_Y := (yX4_pass, cX4_pass, 2, (some .int), { frames := 5, cells := 0, slots := 0, locals := 116 })
theorem nd_X4_pass : (parseMethodDescriptor yX4_pass.desc).map (fun d => d.parameters.length) = some 1 := by decide +kernel
theorem ok_X4_pass : cc_Ok Y_X4_pass := ⟨cd_X4_pass, in_X4, by decide +kernel, ⟨by decide +kernel, by decide +kernel⟩, rfl, rfl⟩
def Y_X4_passAll : cc_Y := (yX4_passAll, cX4_passAll, 4, (some .int), { frames := 4, cells := 0, slots := 0, locals := 93 })
theorem nd_X4_passAll : (parseMethodDescriptor yX4_passAll.desc).map (fun d => d.parameters.length) = some 1 := by decide +kernel
theorem ok_X4_passAll : cc_Ok Y_X4_passAll := ⟨cd_X4_passAll, in_X4, by decide +kernel, ⟨by decide +kernel, by decide +kernel⟩, rfl, rfl⟩
def Y_X4_tick : cc_Y := (yX4_tick, cX4_tick, 3, (some .int), { frames := 3, cells := 0, slots := 0, locals := 71 })
theorem nd_X4_tick : (parseMethodDescriptor yX4_tick.desc).map (fun d => d.parameters.length) = some 0 := by decide +kernel
theorem ok_X4_tick : cc_Ok Y_X4_tick := ⟨cd_X4_tick, in_X4, by decide +kernel, ⟨by decide +kernel, by decide +kernel⟩, rfl, rfl⟩
def Y_X4_come : cc_Y := (yX4_come, cX4_come, 2, none, { frames := 2, cells := 0, slots := 0, locals := 45 })
theorem nd_X4_come : (parseMethodDescriptor yX4_come.desc).map (fun d => d.parameters.length) = some 1 := by decide +kernel
theorem ok_X4_come : cc_Ok Y_X4_come := ⟨cd_X4_come, in_X4, by decide +kernel, ⟨by decide +kernel, by decide +kernel⟩, rfl, rfl⟩
def Y_X4_dropFirst : cc_Y := (yX4_dropFirst, cX4_dropFirst, 3, none, { frames := 1, cells := 0, slots := 0, locals := 23 })
theorem nd_X4_dropFirst : (parseMethodDescriptor yX4_dropFirst.desc).map (fun d => d.parameters.length) = some 1 := by decide +kernel
theorem ok_X4_dropFirst : cc_Ok Y_X4_dropFirst := ⟨cd_X4_dropFirst, in_X4, by decide +kernel, ⟨by decide +kernel, by decide +kernel⟩, rfl, rfl⟩
def Y_X4_missing : cc_Y := (yX4_missing, cX4_missing, 2, (some .int), { frames := 1, cells := 0, slots := 0, locals := 22 })
theorem nd_X4_missing : (parseMethodDescriptor yX4_missing.desc).map (fun d => d.parameters.length) = some 1 := by decide +kernel
theorem ok_X4_missing : cc_Ok Y_X4_missing := ⟨cd_X4_missing, in_X4, by decide +kernel, ⟨by decide +kernel, by decide +kernel⟩, rfl, rfl⟩
def Y_X4_send : cc_Y := (yX4_send, cX4_send, 6, (some .int), { frames := 2, cells := 0, slots := 0, locals := 46 })
theorem nd_X4_send : (parseMethodDescriptor yX4_send.desc).map (fun d => d.parameters.length) = some 1 := by decide +kernel
theorem ok_X4_send : cc_Ok Y_X4_send := ⟨cd_X4_send, in_X4, by decide +kernel, ⟨by decide +kernel, by decide +kernel⟩, rfl, rfl⟩
def Y_X4_offer : cc_Y := (yX4_offer, cX4_offer, 5, (some .int), { frames := 1, cells := 0, slots := 0, locals := 22 })
theorem nd_X4_offer : (parseMethodDescriptor yX4_offer.desc).map (fun d => d.parameters.length) = some 2 := by decide +kernel
theorem ok_X4_offer : cc_Ok Y_X4_offer := ⟨cd_X4_offer, in_X4, by decide +kernel, ⟨by decide +kernel, by decide +kernel⟩, rfl, rfl⟩
def Y_X4_leave : cc_Y := (yX4_leave, cX4_leave, 6, (some .int), { frames := 0, cells := 0, slots := 0, locals := 0 })
theorem nd_X4_leave : (parseMethodDescriptor yX4_leave.desc).map (fun d => d.parameters.length) = some 2 := by decide +kernel
theorem ok_X4_leave : cc_Ok Y_X4_leave := ⟨cd_X4_leave, in_X4, by decide +kernel, ⟨by decide +kernel, by decide +kernel⟩, rfl, rfl⟩
def Y_X4_take : cc_Y := (yX4_take, cX4_take, 4, none, { frames := 1, cells := 0, slots := 0, locals := 23 })
theorem nd_X4_take : (parseMethodDescriptor yX4_take.desc).map (fun d => d.parameters.length) = some 1 := by decide +kernel
theorem ok_X4_take : cc_Ok Y_X4_take := ⟨cd_X4_take, in_X4, by decide +kernel, ⟨by decide +kernel, by decide +kernel⟩, rfl, rfl⟩
def Y_X4_lose : cc_Y := (yX4_lose, cX4_lose, 2, (some .int), { frames := 2, cells := 0, slots := 0, locals := 45 })
theorem nd_X4_lose : (parseMethodDescriptor yX4_lose.desc).map (fun d => d.parameters.length) = some 1 := by decide +kernel
theorem ok_X4_lose : cc_Ok Y_X4_lose := ⟨cd_X4_lose, in_X4, by decide +kernel, ⟨by decide +kernel, by decide +kernel⟩, rfl, rfl⟩
def Y_X4_forge : cc_Y := (yX4_forge, cX4_forge, 2, (some .int), { frames := 2, cells := 0, slots := 0, locals := 42 })
theorem nd_X4_forge : (parseMethodDescriptor yX4_forge.desc).map (fun d => d.parameters.length) = some 1 := by decide +kernel
theorem ok_X4_forge : cc_Ok Y_X4_forge := ⟨cd_X4_forge, in_X4, by decide +kernel, ⟨by decide +kernel, by decide +kernel⟩, rfl, rfl⟩
def Y_X4_repair : cc_Y := (yX4_repair, cX4_repair, 3, (some .int), { frames := 2, cells := 0, slots := 0, locals := 43 })
theorem nd_X4_repair : (parseMethodDescriptor yX4_repair.desc).map (fun d => d.parameters.length) = some 1 := by decide +kernel
theorem ok_X4_repair : cc_Ok Y_X4_repair := ⟨cd_X4_repair, in_X4, by decide +kernel, ⟨by decide +kernel, by decide +kernel⟩, rfl, rfl⟩
def Y_X4_type : cc_Y := (yX4_type, cX4_type, 2, (some .int), { frames := 0, cells := 0, slots := 0, locals := 0 })
theorem nd_X4_type : (parseMethodDescriptor yX4_type.desc).map (fun d => d.parameters.length) = some 1 := by decide +kernel
theorem ok_X4_type : cc_Ok Y_X4_type := ⟨cd_X4_type, in_X4, by decide +kernel, ⟨by decide +kernel, by decide +kernel⟩, rfl, rfl⟩
def Y_X4_clearText : cc_Y := (yX4_clearText, cX4_clearText, 2, (some .int), { frames := 0, cells := 0, slots := 0, locals := 0 })
theorem nd_X4_clearText : (parseMethodDescriptor yX4_clearText.desc).map (fun d => d.parameters.length) = some 0 := by decide +kernel
theorem ok_X4_clearText : cc_Ok Y_X4_clearText := ⟨cd_X4_clearText, in_X4, by decide +kernel, ⟨by decide +kernel, by decide +kernel⟩, rfl, rfl⟩
def Y_X4_lane : cc_Y := (yX4_lane, cX4_lane, 3, (some .int), { frames := 3, cells := 0, slots := 0, locals := 67 })
theorem nd_X4_lane : (parseMethodDescriptor yX4_lane.desc).map (fun d => d.parameters.length) = some 2 := by decide +kernel
theorem ok_X4_lane : cc_Ok Y_X4_lane := ⟨cd_X4_lane, in_X4, by decide +kernel, ⟨by decide +kernel, by decide +kernel⟩, rfl, rfl⟩
def Y_X4_waiting : cc_Y := (yX4_waiting, cX4_waiting, 5, (some .int), { frames := 1, cells := 0, slots := 0, locals := 22 })
theorem nd_X4_waiting : (parseMethodDescriptor yX4_waiting.desc).map (fun d => d.parameters.length) = some 1 := by decide +kernel
theorem ok_X4_waiting : cc_Ok Y_X4_waiting := ⟨cd_X4_waiting, in_X4, by decide +kernel, ⟨by decide +kernel, by decide +kernel⟩, rfl, rfl⟩
def Y_X4_isStuck : cc_Y := (yX4_isStuck, cX4_isStuck, 2, (some .boolean), { frames := 2, cells := 0, slots := 0, locals := 46 })
theorem nd_X4_isStuck : (parseMethodDescriptor yX4_isStuck.desc).map (fun d => d.parameters.length) = some 1 := by decide +kernel
theorem ok_X4_isStuck : cc_Ok Y_X4_isStuck := ⟨cd_X4_isStuck, in_X4, by decide +kernel, ⟨by decide +kernel, by decide +kernel⟩, rfl, rfl⟩
def Y_X4_seated : cc_Y := (yX4_seated, cX4_seated, 3, (some .int), { frames := 2, cells := 0, slots := 0, locals := 42 })
theorem nd_X4_seated : (parseMethodDescriptor yX4_seated.desc).map (fun d => d.parameters.length) = some 2 := by decide +kernel
theorem ok_X4_seated : cc_Ok Y_X4_seated := ⟨cd_X4_seated, in_X4, by decide +kernel, ⟨by decide +kernel, by decide +kernel⟩, rfl, rfl⟩
def Y_X4_onTheWay : cc_Y := (yX4_onTheWay, cX4_onTheWay, 3, (some .int), { frames := 2, cells := 0, slots := 0, locals := 42 })
theorem nd_X4_onTheWay : (parseMethodDescriptor yX4_onTheWay.desc).map (fun d => d.parameters.length) = some 2 := by decide +kernel
theorem ok_X4_onTheWay : cc_Ok Y_X4_onTheWay := ⟨cd_X4_onTheWay, in_X4, by decide +kernel, ⟨by decide +kernel, by decide +kernel⟩, rfl, rfl⟩
def Y_X4_input : cc_Y := (yX4_input, cX4_input, 3, (some .int), { frames := 2, cells := 0, slots := 0, locals := 42 })
theorem nd_X4_input : (parseMethodDescriptor yX4_input.desc).map (fun d => d.parameters.length) = some 2 := by decide +kernel
theorem ok_X4_input : cc_Ok Y_X4_input := ⟨cd_X4_input, in_X4, by decide +kernel, ⟨by decide +kernel, by decide +kernel⟩, rfl, rfl⟩
def Y_X4_packet : cc_Y := (yX4_packet, cX4_packet, 4, (some .int), { frames := 2, cells := 0, slots := 0, locals := 42 })
theorem nd_X4_packet : (parseMethodDescriptor yX4_packet.desc).map (fun d => d.parameters.length) = some 3 := by decide +kernel
theorem ok_X4_packet : cc_Ok Y_X4_packet := ⟨cd_X4_packet, in_X4, by decide +kernel, ⟨by decide +kernel, by decide +kernel⟩, rfl, rfl⟩
def Y_X4_next : cc_Y := (yX4_next, cX4_next, 2, (some .int), { frames := 4, cells := 0, slots := 0, locals := 93 })
theorem nd_X4_next : (parseMethodDescriptor yX4_next.desc).map (fun d => d.parameters.length) = some 1 := by decide +kernel
theorem ok_X4_next : cc_Ok Y_X4_next := ⟨cd_X4_next, in_X4, by decide +kernel, ⟨by decide +kernel, by decide +kernel⟩, rfl, rfl⟩
def Y_X4_leavesIn : cc_Y := (yX4_leavesIn, cX4_leavesIn, 6, (some .int), { frames := 4, cells := 0, slots := 0, locals := 93 })
theorem nd_X4_leavesIn : (parseMethodDescriptor yX4_leavesIn.desc).map (fun d => d.parameters.length) = some 2 := by decide +kernel
theorem ok_X4_leavesIn : cc_Ok Y_X4_leavesIn := ⟨cd_X4_leavesIn, in_X4, by decide +kernel, ⟨by decide +kernel, by decide +kernel⟩, rfl, rfl⟩
def Y_X4_waits : cc_Y := (yX4_waits, cX4_waits, 5, (some .boolean), { frames := 1, cells := 0, slots := 0, locals := 22 })
theorem nd_X4_waits : (parseMethodDescriptor yX4_waits.desc).map (fun d => d.parameters.length) = some 2 := by decide +kernel
theorem ok_X4_waits : cc_Ok Y_X4_waits := ⟨cd_X4_waits, in_X4, by decide +kernel, ⟨by decide +kernel, by decide +kernel⟩, rfl, rfl⟩
def Y_X4_wouldSend : cc_Y := (yX4_wouldSend, cX4_wouldSend, 4, (some .int), { frames := 5, cells := 0, slots := 0, locals := 116 })
theorem nd_X4_wouldSend : (parseMethodDescriptor yX4_wouldSend.desc).map (fun d => d.parameters.length) = some 2 := by decide +kernel
theorem ok_X4_wouldSend : cc_Ok Y_X4_wouldSend := ⟨cd_X4_wouldSend, in_X4, by decide +kernel, ⟨by decide +kernel, by decide +kernel⟩, rfl, rfl⟩
def Y_X4_count : cc_Y := (yX4_count, cX4_count, 2, (some .int), { frames := 4, cells := 0, slots := 0, locals := 89 })
theorem nd_X4_count : (parseMethodDescriptor yX4_count.desc).map (fun d => d.parameters.length) = some 1 := by decide +kernel
theorem ok_X4_count : cc_Ok Y_X4_count := ⟨cd_X4_count, in_X4, by decide +kernel, ⟨by decide +kernel, by decide +kernel⟩, rfl, rfl⟩
def Y_X4_over : cc_Y := (yX4_over, cX4_over, 5, (some .int), { frames := 1, cells := 0, slots := 0, locals := 22 })
theorem nd_X4_over : (parseMethodDescriptor yX4_over.desc).map (fun d => d.parameters.length) = some 2 := by decide +kernel
theorem ok_X4_over : cc_Ok Y_X4_over := ⟨cd_X4_over, in_X4, by decide +kernel, ⟨by decide +kernel, by decide +kernel⟩, rfl, rfl⟩
def Y_X4_stuckOnes : cc_Y := (yX4_stuckOnes, cX4_stuckOnes, 3, (some .int), { frames := 3, cells := 0, slots := 0, locals := 67 })
theorem nd_X4_stuckOnes : (parseMethodDescriptor yX4_stuckOnes.desc).map (fun d => d.parameters.length) = some 0 := by decide +kernel
theorem ok_X4_stuckOnes : cc_Ok Y_X4_stuckOnes := ⟨cd_X4_stuckOnes, in_X4, by decide +kernel, ⟨by decide +kernel, by decide +kernel⟩, rfl, rfl⟩
end
section
theorem cc_loc {cy : Nat → ClassId} {Y : cc_Y} {z pc : Nat} {ls ls' : List (Nat × Value)} {st : List Value} {G : cc_G} {Q : Option Value → cc_G → Prop} (ps : List Nat) (hp : lv_pick ls ps = ls') (k : cc_R cy Y z pc ls' st G Q) : cc_R cy Y z pc ls st G Q := by
  intro p l e s m args below meth c D A H locs la C hM hS hl
  exact k C hM hS (lv_sub hl ps hp)
/-! what the calls do to a lane, as plain functions -/
def L_comeW (t : Int32) (v : Nat → Int32) : List Int32 → (Nat → Int32) × List Int32
  | [] => (v, [])
  | w :: ws => if w ≤ t then L_comeW t (upd v 3 (v 3 + 1)) ws else (v, w :: ws)
def L_come (t : Int32) (L : Ln_) : Ln_ := ((L_comeW t L.1 L.2.2).1, L.2.1, (L_comeW t L.1 L.2.2).2)
def L_drop (L : Ln_) : Ln_ := (L.1, L.2.1, L.2.2.tail)
def L_lose (L : Ln_) : Ln_ := (upd L.1 8 (L.1 8 + 1), L.2.1, L.2.2.tail)
def L_mend (L : Ln_) : Ln_ := (upd L.1 3 (L.1 3 + (L.1 0 - L.1 3 - nI L.2.1.length - nI L.2.2.length)), L.2.1, L.2.2)
def L_recv (n : Int32) (L : Ln_) : Ln_ := if L.1 0 ≤ nI L.2.1.length then (upd (upd (upd L.1 3 (L.1 3 - 1)) 5 (L.1 5 + 1)) 7 (L.1 7 + 1), L.2.1, L.2.2) else (upd (upd L.1 3 (L.1 3 - 1)) 5 (L.1 5 + 1), L.2.1 ++ [n], L.2.2)
def L_rank (c : Int32) (l : List Int32) : Nat → Nat
  | 0 => 0
  | r + 1 => if c < l.getD r 0 then L_rank c l r else r + 1
def L_ins (c : Int32) (l : List Int32) : List Int32 := l.take (L_rank c l l.length) ++ c :: l.drop (L_rank c l l.length)
def L_take (t : Int32) (L : Ln_) : Ln_ := if cc_rm (t + 1) (L.1 1) = 0 ∧ L.2.1 ≠ [] then (upd L.1 6 (L.1 6 + 1), L.2.1.tail, L_ins (t + L.1 2) L.2.2) else L
theorem L_rank_le (c : Int32) (l : List Int32) (n : Nat) : L_rank c l n ≤ n := by
  induction n with
  | zero => exact Nat.le_refl 0
  | succ r ih =>
    unfold L_rank
    split
    · omega
    · omega
theorem L_ins_len (c : Int32) (l : List Int32) : (L_ins c l).length = l.length + 1 := by
  have := L_rank_le c l l.length
  simp [L_ins]
  omega
/-- a row behind an insertion at the place r -/
theorem ar_ins {g g' : Nat → Int32} {l : List Int32} {c : Int32} {r : Nat} (h : ar_ g l) (hr : r ≤ l.length) (h1 : ∀ j, j < r → g' j = g j) (h2 : g' r = c) (h3 : ∀ j, r < j → j ≤ l.length → g' j = g (j - 1)) : ar_ g' (l.take r ++ c :: l.drop r) := by
  intro k hk
  have hkl : k < l.length + 1 := by simp at hk; omega
  have ht : (l.take r).length = r := by simp; omega
  by_cases hq : k < r
  · rw [h1 k hq, h k (by omega), List.getElem_append_left (by omega)]
    simp
  · rw [List.getElem_append_right (by omega)]
    by_cases hq2 : k = r
    · subst hq2
      simp [ht, h2]
    · rw [h3 k (by omega) (by omega), h (k - 1) (by omega)]
      simp only [ht]
      rw [List.getElem_cons]
      rw [dif_neg (by omega)]
      simp
      congr 1
      omega
theorem ar_hd {g : Nat → Int32} {w : Int32} {ws : List Int32} (h : ar_ g (w :: ws)) : g 0 = w := h 0 (by simp)
theorem ar_at {g : Nat → Int32} {l : List Int32} (h : ar_ g l) {k : Nat} (hk : k < l.length) : g k = l.getD k 0 := by
  rw [h k hk, List.getD_eq_getElem?_getD, List.getElem?_eq_getElem hk]
  rfl
theorem cc_p0 {n : Nat} (h : n < 2 ^ 31) : 0 < nI n ↔ 0 < n := nI_ltI (a := 0) (by decide) h
theorem cc_e0 {n : Nat} (h : n < 2 ^ 31) : nI n = 0 ↔ n = 0 := nI_eq (b := 0) h (by decide)
theorem cc_dec (r : Nat) : nI (r + 1) + Int32.ofInt (-1) = nI r := by
  rw [show Int32.ofInt (-1) = -1 by decide]
  exact pk_m1 r
theorem cc_m1 {n : Nat} (h : 1 ≤ n) : nI n - 1 = nI (n - 1) := pk_sub (b := 1) h
end
section
set_option maxHeartbeats 4000000 in
set_option maxRecDepth 100000 in
theorem ct_X1_missing (cy : Nat → ClassId) (z : Nat) (G : cc_G) (a : Nat) (v : Nat → Int32) (nS : Int32) (f : Nat → Int32) (nW : Int32) (g : Nat → Int32)  (hL : ln_R cy G G a v nS f nW g) : cc_Cn cy Y_X1_missing [.ref a] z G (cc_qi (fun r G' => r = v 0 - v 3 - nS - nW ∧ G' = G)) := by
  
  refine cc_enter ok_X1_missing (Nat.le_of_ble_eq_true rfl) (ls := [(0, .ref a)]) rfl ?_
  refine cc_aload_n (j := 0) dX1_missing_0 rfl rfl ?_
  refine cc_get (v := .int (v 0)) hL.2.1 cc_c1 0 (by decide) fl_X1_9 rfl dX1_missing_1 ?_
  refine cc_aload_n (j := 0) dX1_missing_4 rfl rfl ?_
  refine cc_get (v := .int (v 3)) hL.2.1 cc_c1 3 (by decide) fl_X1_21 rfl dX1_missing_5 ?_
  refine cc_isub dX1_missing_8 ?_
  refine cc_aload_n (j := 0) dX1_missing_9 rfl rfl ?_
  refine cc_get (v := .int nS) hL.2.1 cc_c1 10 (by decide) fl_X1_43 rfl dX1_missing_10 ?_
  refine cc_isub dX1_missing_13 ?_
  refine cc_aload_n (j := 0) dX1_missing_14 rfl rfl ?_
  refine cc_get (v := .int nW) hL.2.1 cc_c1 12 (by decide) fl_X1_49 rfl dX1_missing_15 ?_
  refine cc_isub dX1_missing_18 ?_
  refine cc_iret rfl rfl dX1_missing_19 ?_
  exact ⟨_, rfl, rfl, rfl⟩

set_option maxHeartbeats 4000000 in
set_option maxRecDepth 100000 in
theorem ct_X1_mend (cy : Nat → ClassId) (z : Nat) (G : cc_G) (a : Nat) (v : Nat → Int32) (nS : Int32) (f : Nat → Int32) (nW : Int32) (g : Nat → Int32)  (hL : ln_R cy G G a v nS f nW g) : cc_Cn cy Y_X1_mend [.ref a] z G (cc_qv (fun G' => ln_R cy G G' a (upd v 3 (v 3 + (v 0 - v 3 - nS - nW))) nS f nW g)) := by
  
  refine cc_enter ok_X1_mend (Nat.le_of_ble_eq_true rfl) (ls := [(0, .ref a)]) rfl ?_
  refine cc_aload_n (j := 0) dX1_mend_0 rfl rfl ?_
  refine cc_dup dX1_mend_1 rfl ?_
  refine cc_get (v := .int (v 3)) hL.2.1 cc_c1 3 (by decide) fl_X1_21 rfl dX1_mend_2 ?_
  refine cc_aload_n (j := 0) dX1_mend_5 rfl rfl ?_
  refine cc_callVi (As := []) (rest := [.int (v 3), .ref a]) (ct_X1_missing cy z _ a _ _ _ _ _ hL.self) ok_X1_missing (hL.2.1) rfl im_X1_missing sl_X1_missing ml_X1_58 nd_X1_missing (by decide +kernel) (Nat.le_of_ble_eq_true rfl) rfl dX1_mend_6 (fun r2 G1 q3 => ?_)
  obtain ⟨rfl, rfl⟩ := q3
  refine cc_iadd dX1_mend_9 ?_
  refine ln_rput (v' := upd v 3 ((v 3) + (v 0 - (v 3) - nS - nW))) (nS' := nS) (nW' := nW) hL cc_c1 3 (by decide) fl_X1_21 rfl rfl rfl dX1_mend_10 (fun G4 hL5 => ?_)
  refine cc_vret rfl dX1_mend_13 ?_
  exact ⟨rfl, hL5⟩

set_option maxHeartbeats 4000000 in
set_option maxRecDepth 100000 in
theorem ct_X1_setting (cy : Nat → ClassId) (z : Nat) (G : cc_G) (a : Nat) (v : Nat → Int32) (nS : Int32) (f : Nat → Int32) (nW : Int32) (g : Nat → Int32) (x1 : Int32) (hL : ln_R cy G G a v nS f nW g) : cc_Cn cy Y_X1_setting [.ref a, .int x1] z G (cc_qi (fun r G' => r = (if x1 = 0 then v 0 else if x1 = 1 then v 1 else v 2) ∧ G' = G)) := by
  
  refine cc_enter ok_X1_setting (Nat.le_of_ble_eq_true rfl) (ls := [(0, .ref a), (1, .int x1)]) rfl ?_
  refine cc_iload_n (j := 1) dX1_setting_0 rfl rfl ?_
  rcases cc_sw1 x1 with rfl | rfl | c_1
  · refine cc_lookup (off := 27) (tgt := 28) dX1_setting_1 (by decide) (by decide) (by decide) ?_
    refine cc_aload_n (j := 0) dX1_setting_28 rfl rfl ?_
    refine cc_get (v := .int (v 0)) hL.2.1 cc_c1 0 (by decide) fl_X1_9 rfl dX1_setting_29 ?_
    refine cc_iret rfl rfl dX1_setting_32 ?_
    exact ⟨_, rfl, by simp, rfl⟩
  · refine cc_lookup (off := 32) (tgt := 33) dX1_setting_1 (by decide) (by decide) (by decide) ?_
    refine cc_aload_n (j := 0) dX1_setting_33 rfl rfl ?_
    refine cc_get (v := .int (v 1)) hL.2.1 cc_c1 1 (by decide) fl_X1_15 rfl dX1_setting_34 ?_
    refine cc_iret rfl rfl dX1_setting_37 ?_
    exact ⟨_, rfl, by simp, rfl⟩
  · refine cc_lookup (off := 37) (tgt := 38) dX1_setting_1 (by decide) (cc_lk1 c_1) (by decide) ?_
    refine cc_aload_n (j := 0) dX1_setting_38 rfl rfl ?_
    refine cc_get (v := .int (v 2)) hL.2.1 cc_c1 2 (by decide) fl_X1_18 rfl dX1_setting_39 ?_
    refine cc_iret rfl rfl dX1_setting_42 ?_
    exact ⟨_, rfl, by rw [if_neg (fun q => by subst q; exact absurd c_1 (by decide)), if_neg (fun q => by subst q; exact absurd c_1 (by decide))], rfl⟩

set_option maxHeartbeats 4000000 in
set_option maxRecDepth 100000 in
theorem ct_X1_change (cy : Nat → ClassId) (z : Nat) (G : cc_G) (a : Nat) (v : Nat → Int32) (nS : Int32) (f : Nat → Int32) (nW : Int32) (g : Nat → Int32) (x1 x2 : Int32) (hL : ln_R cy G G a v nS f nW g) : cc_Cn cy Y_X1_change [.ref a, .int x1, .int x2] z G (cc_qv (fun G' => ln_R cy G G' a (if x1 = 0 then upd (upd v 3 (v 3 + (x2 - v 0))) 0 x2 else if x1 = 1 then upd v 1 x2 else upd v 2 x2) nS f nW g)) := by
  
  refine cc_enter ok_X1_change (Nat.le_of_ble_eq_true rfl) (ls := [(0, .ref a), (1, .int x1), (2, .int x2)]) rfl ?_
  refine cc_iload_n (j := 1) dX1_change_0 rfl rfl ?_
  rcases cc_sw1 x1 with rfl | rfl | c_1
  · refine cc_lookup (off := 27) (tgt := 28) dX1_change_1 (by decide) (by decide) (by decide) ?_
    refine cc_aload_n (j := 0) dX1_change_28 rfl rfl ?_
    refine cc_dup dX1_change_29 rfl ?_
    refine cc_get (v := .int (v 3)) hL.2.1 cc_c1 3 (by decide) fl_X1_21 rfl dX1_change_30 ?_
    refine cc_iload_n (j := 2) dX1_change_33 rfl rfl ?_
    refine cc_aload_n (j := 0) dX1_change_34 rfl rfl ?_
    refine cc_get (v := .int (v 0)) hL.2.1 cc_c1 0 (by decide) fl_X1_9 rfl dX1_change_35 ?_
    refine cc_isub dX1_change_38 ?_
    refine cc_iadd dX1_change_39 ?_
    refine ln_rput (v' := upd v 3 ((v 3) + (x2 - (v 0)))) (nS' := nS) (nW' := nW) hL cc_c1 3 (by decide) fl_X1_21 rfl rfl rfl dX1_change_40 (fun G1 hL2 => ?_)
    refine cc_aload_n (j := 0) dX1_change_43 rfl rfl ?_
    refine cc_iload_n (j := 2) dX1_change_44 rfl rfl ?_
    refine ln_rput (v' := upd (upd v 3 ((v 3) + (x2 - (v 0)))) 0 x2) (nS' := nS) (nW' := nW) hL2 cc_c1 0 (by decide) fl_X1_9 rfl rfl rfl dX1_change_45 (fun G3 hL4 => ?_)
    refine cc_goto (tgt := 64) dX1_change_48 (by decide) ?_
    refine cc_vret rfl dX1_change_64 ?_
    exact ⟨rfl, by simpa using hL4⟩
  · refine cc_lookup (off := 50) (tgt := 51) dX1_change_1 (by decide) (by decide) (by decide) ?_
    refine cc_aload_n (j := 0) dX1_change_51 rfl rfl ?_
    refine cc_iload_n (j := 2) dX1_change_52 rfl rfl ?_
    refine ln_rput (v' := upd v 1 x2) (nS' := nS) (nW' := nW) hL cc_c1 1 (by decide) fl_X1_15 rfl rfl rfl dX1_change_53 (fun G5 hL6 => ?_)
    refine cc_goto (tgt := 64) dX1_change_56 (by decide) ?_
    refine cc_vret rfl dX1_change_64 ?_
    exact ⟨rfl, by simpa using hL6⟩
  · refine cc_lookup (off := 58) (tgt := 59) dX1_change_1 (by decide) (cc_lk1 c_1) (by decide) ?_
    refine cc_aload_n (j := 0) dX1_change_59 rfl rfl ?_
    refine cc_iload_n (j := 2) dX1_change_60 rfl rfl ?_
    refine ln_rput (v' := upd v 2 x2) (nS' := nS) (nW' := nW) hL cc_c1 2 (by decide) fl_X1_18 rfl rfl rfl dX1_change_61 (fun G7 hL8 => ?_)
    refine cc_vret rfl dX1_change_64 ?_
    refine ⟨rfl, ?_⟩
    rw [if_neg (fun q => by subst q; exact absurd c_1 (by decide)), if_neg (fun q => by subst q; exact absurd c_1 (by decide))]
    exact hL8

set_option maxHeartbeats 4000000 in
set_option maxRecDepth 100000 in
theorem ct_X1_isDry (cy : Nat → ClassId) (z : Nat) (G : cc_G) (a : Nat) (v : Nat → Int32) (nS : Int32) (f : Nat → Int32) (nW : Int32) (g : Nat → Int32)  (hL : ln_R cy G G a v nS f nW g) : cc_Cn cy Y_X1_isDry [.ref a] z G (cc_qi (fun r G' => r = (if v 3 ≤ 0 ∧ nS = 0 ∧ nW = 0 then 1 else 0) ∧ G' = G)) := by
  
  refine cc_enter ok_X1_isDry (Nat.le_of_ble_eq_true rfl) (ls := [(0, .ref a)]) rfl ?_
  refine cc_aload_n (j := 0) dX1_isDry_0 rfl rfl ?_
  refine cc_get (v := .int (v 3)) hL.2.1 cc_c1 3 (by decide) fl_X1_21 rfl dX1_isDry_1 ?_
  refine cc_if_gt (tgt := 25) dX1_isDry_4 (by decide) (fun c_4 => ?_) (fun c_4 => ?_)
  · refine cc_iconst (v := 0) dX1_isDry_25 (by decide) ?_
    refine cc_iret rfl rfl dX1_isDry_26 ?_
    exact ⟨_, rfl, (if_neg (fun h => absurd c_4 (Int32.not_lt.mpr h.1))).symm, rfl⟩
  · refine cc_aload_n (j := 0) dX1_isDry_7 rfl rfl ?_
    refine cc_get (v := .int nS) hL.2.1 cc_c1 10 (by decide) fl_X1_43 rfl dX1_isDry_8 ?_
    refine cc_if_ne (tgt := 25) dX1_isDry_11 (by decide) (fun c_11 => ?_) (fun c_11 => ?_)
    · refine cc_iconst (v := 0) dX1_isDry_25 (by decide) ?_
      refine cc_iret rfl rfl dX1_isDry_26 ?_
      exact ⟨_, rfl, (if_neg (fun h => c_11 h.2.1)).symm, rfl⟩
    · refine cc_aload_n (j := 0) dX1_isDry_14 rfl rfl ?_
      refine cc_get (v := .int nW) hL.2.1 cc_c1 12 (by decide) fl_X1_49 rfl dX1_isDry_15 ?_
      refine cc_if_ne (tgt := 25) dX1_isDry_18 (by decide) (fun c_18 => ?_) (fun c_18 => ?_)
      · refine cc_iconst (v := 0) dX1_isDry_25 (by decide) ?_
        refine cc_iret rfl rfl dX1_isDry_26 ?_
        exact ⟨_, rfl, (if_neg (fun h => c_18 h.2.2)).symm, rfl⟩
      · refine cc_iconst (v := 1) dX1_isDry_21 (by decide) ?_
        refine cc_goto (tgt := 26) dX1_isDry_22 (by decide) ?_
        refine cc_iret rfl rfl dX1_isDry_26 ?_
        exact ⟨_, rfl, (if_pos ⟨Int32.not_lt.mp c_4, c_11, c_18⟩).symm, rfl⟩

set_option maxHeartbeats 4000000 in
set_option maxRecDepth 100000 in
theorem ct_X1_creditComes (cy : Nat → ClassId) (z : Nat) (G : cc_G) (a : Nat) (v : Nat → Int32) (nS : Int32) (f : Nat → Int32) (nW : Int32) (g : Nat → Int32) (x1 : Int32) (hL : ln_R cy G G a v nS f nW g) : cc_Cn cy Y_X1_creditComes [.ref a, .int x1] z G (cc_qi (fun r G' => r = (if 0 < nW ∧ g 0 ≤ x1 then 1 else 0) ∧ G' = G)) := by
  
  refine cc_enter ok_X1_creditComes (Nat.le_of_ble_eq_true rfl) (ls := [(0, .ref a), (1, .int x1)]) rfl ?_
  refine cc_aload_n (j := 0) dX1_creditComes_0 rfl rfl ?_
  refine cc_get (v := .int nW) hL.2.1 cc_c1 12 (by decide) fl_X1_49 rfl dX1_creditComes_1 ?_
  refine cc_if_le (tgt := 21) dX1_creditComes_4 (by decide) (fun c_4 => ?_) (fun c_4 => ?_)
  · refine cc_iconst (v := 0) dX1_creditComes_21 (by decide) ?_
    refine cc_iret rfl rfl dX1_creditComes_22 ?_
    exact ⟨_, rfl, (if_neg (fun h => absurd h.1 (Int32.not_lt.mpr c_4))).symm, rfl⟩
  · refine cc_aload_n (j := 0) dX1_creditComes_7 rfl rfl ?_
    refine cc_get (v := .ref (a + 2)) hL.2.1 cc_c1 11 (by decide) fl_X1_46 rfl dX1_creditComes_8 ?_
    refine cc_iconst (v := 0) dX1_creditComes_11 (by decide) ?_
    refine cc_iald (x := g 0) hL.2.2.2 (vp_in_nI (n := 0) (by decide) (by decide)) (by rw [show (0 : Int32).toNatClampNeg = 0 from rfl]) dX1_creditComes_12 ?_
    refine cc_iload_n (j := 1) dX1_creditComes_13 rfl rfl ?_
    refine cc_icmp_gt (tgt := 21) dX1_creditComes_14 (by decide) (fun c_14 => ?_) (fun c_14 => ?_)
    · refine cc_iconst (v := 0) dX1_creditComes_21 (by decide) ?_
      refine cc_iret rfl rfl dX1_creditComes_22 ?_
      exact ⟨_, rfl, (if_neg (fun h => absurd c_14 (Int32.not_lt.mpr h.2))).symm, rfl⟩
    · refine cc_iconst (v := 1) dX1_creditComes_17 (by decide) ?_
      refine cc_goto (tgt := 22) dX1_creditComes_18 (by decide) ?_
      refine cc_iret rfl rfl dX1_creditComes_22 ?_
      exact ⟨_, rfl, (if_pos ⟨Int32.not_le.mp c_4, Int32.not_lt.mp c_14⟩).symm, rfl⟩

set_option maxHeartbeats 4000000 in
set_option maxRecDepth 100000 in
theorem ct_X1_figure (cy : Nat → ClassId) (z : Nat) (G : cc_G) (a : Nat) (v : Nat → Int32) (nS : Int32) (f : Nat → Int32) (nW : Int32) (g : Nat → Int32) (x1 : Int32) (hL : ln_R cy G G a v nS f nW g) : cc_Cn cy Y_X1_figure [.ref a, .int x1] z G (cc_qi (fun r G' => r = (if x1 = 0 then v 0 else if x1 = 1 then v 1 else if x1 = 2 then v 2 else if x1 = 3 then v 3 + 100 else if x1 = 4 then nS else if x1 = 5 then nW else if x1 = 6 then v 0 - v 3 - nS - nW + 100 else if x1 = 7 then v 4 else if x1 = 8 then v 5 else if x1 = 9 then v 6 else if x1 = 10 then v 7 else if x1 = 11 then v 8 else (-2)) ∧ G' = G)) := by
  
  refine cc_enter ok_X1_figure (Nat.le_of_ble_eq_true rfl) (ls := [(0, .ref a), (1, .int x1)]) rfl ?_
  refine cc_iload_n (j := 1) dX1_figure_0 rfl rfl ?_
  rcases cc_sw11 x1 with rfl | rfl | rfl | rfl | rfl | rfl | rfl | rfl | rfl | rfl | rfl | rfl | c_1
  · refine cc_tableIn (off := 63) (tgt := 64) dX1_figure_1 (by decide) (by decide) rfl (by decide) ?_
    refine cc_aload_n (j := 0) dX1_figure_64 rfl rfl ?_
    refine cc_get (v := .int (v 0)) hL.2.1 cc_c1 0 (by decide) fl_X1_9 rfl dX1_figure_65 ?_
    refine cc_iret rfl rfl dX1_figure_68 ?_
    exact ⟨_, rfl, by simp, rfl⟩
  · refine cc_tableIn (off := 68) (tgt := 69) dX1_figure_1 (by decide) (by decide) rfl (by decide) ?_
    refine cc_aload_n (j := 0) dX1_figure_69 rfl rfl ?_
    refine cc_get (v := .int (v 1)) hL.2.1 cc_c1 1 (by decide) fl_X1_15 rfl dX1_figure_70 ?_
    refine cc_iret rfl rfl dX1_figure_73 ?_
    exact ⟨_, rfl, by simp, rfl⟩
  · refine cc_tableIn (off := 73) (tgt := 74) dX1_figure_1 (by decide) (by decide) rfl (by decide) ?_
    refine cc_aload_n (j := 0) dX1_figure_74 rfl rfl ?_
    refine cc_get (v := .int (v 2)) hL.2.1 cc_c1 2 (by decide) fl_X1_18 rfl dX1_figure_75 ?_
    refine cc_iret rfl rfl dX1_figure_78 ?_
    exact ⟨_, rfl, by simp, rfl⟩
  · refine cc_tableIn (off := 78) (tgt := 79) dX1_figure_1 (by decide) (by decide) rfl (by decide) ?_
    refine cc_aload_n (j := 0) dX1_figure_79 rfl rfl ?_
    refine cc_get (v := .int (v 3)) hL.2.1 cc_c1 3 (by decide) fl_X1_21 rfl dX1_figure_80 ?_
    refine cc_bipush (v := 100) dX1_figure_83 (by decide) ?_
    refine cc_iadd dX1_figure_85 ?_
    refine cc_iret rfl rfl dX1_figure_86 ?_
    exact ⟨_, rfl, by simp, rfl⟩
  · refine cc_tableIn (off := 86) (tgt := 87) dX1_figure_1 (by decide) (by decide) rfl (by decide) ?_
    refine cc_aload_n (j := 0) dX1_figure_87 rfl rfl ?_
    refine cc_get (v := .int nS) hL.2.1 cc_c1 10 (by decide) fl_X1_43 rfl dX1_figure_88 ?_
    refine cc_iret rfl rfl dX1_figure_91 ?_
    exact ⟨_, rfl, by simp, rfl⟩
  · refine cc_tableIn (off := 91) (tgt := 92) dX1_figure_1 (by decide) (by decide) rfl (by decide) ?_
    refine cc_aload_n (j := 0) dX1_figure_92 rfl rfl ?_
    refine cc_get (v := .int nW) hL.2.1 cc_c1 12 (by decide) fl_X1_49 rfl dX1_figure_93 ?_
    refine cc_iret rfl rfl dX1_figure_96 ?_
    exact ⟨_, rfl, by simp, rfl⟩
  · refine cc_tableIn (off := 96) (tgt := 97) dX1_figure_1 (by decide) (by decide) rfl (by decide) ?_
    refine cc_aload_n (j := 0) dX1_figure_97 rfl rfl ?_
    refine cc_callVi (As := []) (rest := []) (ct_X1_missing cy z _ a _ _ _ _ _ hL.self) ok_X1_missing (hL.2.1) rfl im_X1_missing sl_X1_missing ml_X1_58 nd_X1_missing (by decide +kernel) (Nat.le_of_ble_eq_true rfl) rfl dX1_figure_98 (fun r2 G1 q3 => ?_)
    obtain ⟨rfl, rfl⟩ := q3
    refine cc_bipush (v := 100) dX1_figure_101 (by decide) ?_
    refine cc_iadd dX1_figure_103 ?_
    refine cc_iret rfl rfl dX1_figure_104 ?_
    exact ⟨_, rfl, by simp, rfl⟩
  · refine cc_tableIn (off := 104) (tgt := 105) dX1_figure_1 (by decide) (by decide) rfl (by decide) ?_
    refine cc_aload_n (j := 0) dX1_figure_105 rfl rfl ?_
    refine cc_get (v := .int (v 4)) hL.2.1 cc_c1 4 (by decide) fl_X1_24 rfl dX1_figure_106 ?_
    refine cc_iret rfl rfl dX1_figure_109 ?_
    exact ⟨_, rfl, by simp, rfl⟩
  · refine cc_tableIn (off := 109) (tgt := 110) dX1_figure_1 (by decide) (by decide) rfl (by decide) ?_
    refine cc_aload_n (j := 0) dX1_figure_110 rfl rfl ?_
    refine cc_get (v := .int (v 5)) hL.2.1 cc_c1 5 (by decide) fl_X1_27 rfl dX1_figure_111 ?_
    refine cc_iret rfl rfl dX1_figure_114 ?_
    exact ⟨_, rfl, by simp, rfl⟩
  · refine cc_tableIn (off := 114) (tgt := 115) dX1_figure_1 (by decide) (by decide) rfl (by decide) ?_
    refine cc_aload_n (j := 0) dX1_figure_115 rfl rfl ?_
    refine cc_get (v := .int (v 6)) hL.2.1 cc_c1 6 (by decide) fl_X1_30 rfl dX1_figure_116 ?_
    refine cc_iret rfl rfl dX1_figure_119 ?_
    exact ⟨_, rfl, by simp, rfl⟩
  · refine cc_tableIn (off := 119) (tgt := 120) dX1_figure_1 (by decide) (by decide) rfl (by decide) ?_
    refine cc_aload_n (j := 0) dX1_figure_120 rfl rfl ?_
    refine cc_get (v := .int (v 7)) hL.2.1 cc_c1 7 (by decide) fl_X1_33 rfl dX1_figure_121 ?_
    refine cc_iret rfl rfl dX1_figure_124 ?_
    exact ⟨_, rfl, by simp, rfl⟩
  · refine cc_tableIn (off := 124) (tgt := 125) dX1_figure_1 (by decide) (by decide) rfl (by decide) ?_
    refine cc_aload_n (j := 0) dX1_figure_125 rfl rfl ?_
    refine cc_get (v := .int (v 8)) hL.2.1 cc_c1 8 (by decide) fl_X1_36 rfl dX1_figure_126 ?_
    refine cc_iret rfl rfl dX1_figure_129 ?_
    exact ⟨_, rfl, by simp, rfl⟩
  · refine cc_tableOut (tgt := 130) dX1_figure_1 c_1 (by decide) ?_
    refine cc_bipush (v := (-2)) dX1_figure_130 (by decide) ?_
    refine cc_iret rfl rfl dX1_figure_132 ?_
    exact ⟨_, rfl, by rw [if_neg (fun q => by subst q; exact absurd c_1 (by decide)), if_neg (fun q => by subst q; exact absurd c_1 (by decide)), if_neg (fun q => by subst q; exact absurd c_1 (by decide)), if_neg (fun q => by subst q; exact absurd c_1 (by decide)), if_neg (fun q => by subst q; exact absurd c_1 (by decide)), if_neg (fun q => by subst q; exact absurd c_1 (by decide)), if_neg (fun q => by subst q; exact absurd c_1 (by decide)), if_neg (fun q => by subst q; exact absurd c_1 (by decide)), if_neg (fun q => by subst q; exact absurd c_1 (by decide)), if_neg (fun q => by subst q; exact absurd c_1 (by decide)), if_neg (fun q => by subst q; exact absurd c_1 (by decide)), if_neg (fun q => by subst q; exact absurd c_1 (by decide))], rfl⟩

set_option maxHeartbeats 4000000 in
set_option maxRecDepth 100000 in
theorem ct_X1_dropFirstOnTheWay (cy : Nat → ClassId) (z : Nat) (G : cc_G) (a : Nat) (v : Nat → Int32) (sd wy : List Int32)  (hI : ln_I cy G G a (v, sd, wy)) : cc_Cn cy Y_X1_dropFirstOnTheWay [.ref a] z G (cc_qv (fun G' => ln_I cy G G' a (L_drop (v, sd, wy)))) := by
  obtain ⟨f, g, hL, hf, hg, h8, h6⟩ := hI
  have hL : ln_R cy G G a v (nI sd.length) f (nI wy.length) g := hL
  have hf : ar_ f sd := hf
  have hg : ar_ g wy := hg
  have h8 : sd.length ≤ 8 := h8
  have h6 : wy.length ≤ 6 := h6
  have loop_10 : ∀ (n i : Nat) (f' : Nat → Int32) (G1 : cc_G), wy.length < i + n → 1 ≤ i → i ≤ wy.length → ln_R cy G G1 a v (nI sd.length) f (nI wy.length) f' → (∀ j, j + 1 < i → f' j = g (j + 1)) → (∀ j, i ≤ j + 1 → f' j = g j) → cc_R cy Y_X1_dropFirstOnTheWay z 10 [(1, .int (nI i)), (0, .ref a)] [] G1 (cc_qv (fun G' => ln_I cy G G' a (L_drop (v, sd, wy)))) := by
    intro n
    induction n with
    | zero => intro i f' G1 h1 h2 h3; exact absurd h1 (by omega)
    | succ n ih =>
      intro i f' G1 hn hi1 hi2 hL h1 h2
      refine cc_iload_n (j := 0) dX1_dropFirstOnTheWay_10 rfl rfl ?_
      refine cc_aload_n (j := 1) dX1_dropFirstOnTheWay_11 rfl rfl ?_
      refine cc_get (v := .int (nI wy.length)) hL.2.1 cc_c1 12 (by decide) fl_X1_49 rfl dX1_dropFirstOnTheWay_12 ?_
      refine cc_icmp_ge (tgt := 38) dX1_dropFirstOnTheWay_15 (by decide) (fun c_15 => ?_) (fun c_15 => ?_)
      · have hge : wy.length ≤ i := (nI_leI (by omega) (by omega)).mp c_15
        refine cc_aload_n (j := 1) dX1_dropFirstOnTheWay_38 rfl rfl ?_
        refine cc_dup dX1_dropFirstOnTheWay_39 rfl ?_
        refine cc_get (v := .int (nI wy.length)) hL.2.1 cc_c1 12 (by decide) fl_X1_49 rfl dX1_dropFirstOnTheWay_40 ?_
        refine cc_iconst (v := 1) dX1_dropFirstOnTheWay_43 (by decide) ?_
        refine cc_isub dX1_dropFirstOnTheWay_44 ?_
        rw [show (nI wy.length) - 1 = nI wy.tail.length from (by rw [List.length_tail]; exact cc_m1 (by omega))]
        refine ln_rput (v' := v) (nS' := (nI sd.length)) (nW' := (nI wy.tail.length)) hL cc_c1 12 (by decide) fl_X1_49 rfl rfl rfl dX1_dropFirstOnTheWay_45 (fun G1 hL2 => ?_)
        refine cc_vret rfl dX1_dropFirstOnTheWay_48 ?_
        exact ⟨rfl, f, f', hL2, hf, hg.shift (fun k hk => h1 k (by omega)), h8, by show wy.tail.length ≤ 6; simp; omega⟩
      · have hlt : i < wy.length := by
          rcases Nat.lt_or_ge i wy.length with q | q
          · exact q
          · exact absurd (nI_le q (by omega)) c_15
        refine cc_aload_n (j := 1) dX1_dropFirstOnTheWay_18 rfl rfl ?_
        refine cc_get (v := .ref (a + 2)) hL.2.1 cc_c1 11 (by decide) fl_X1_46 rfl dX1_dropFirstOnTheWay_19 ?_
        refine cc_iload_n (j := 0) dX1_dropFirstOnTheWay_22 rfl rfl ?_
        refine cc_iconst (v := 1) dX1_dropFirstOnTheWay_23 (by decide) ?_
        refine cc_isub dX1_dropFirstOnTheWay_24 ?_
        rw [show (nI i) - 1 = nI (i - 1) from cc_m1 hi1]
        refine cc_aload_n (j := 1) dX1_dropFirstOnTheWay_25 rfl rfl ?_
        refine cc_get (v := .ref (a + 2)) hL.2.1 cc_c1 11 (by decide) fl_X1_46 rfl dX1_dropFirstOnTheWay_26 ?_
        refine cc_iload_n (j := 0) dX1_dropFirstOnTheWay_29 rfl rfl ?_
        refine cc_iald (x := f' i) hL.2.2.2 (vp_in_nI (n := i) (by omega) (by decide)) (by rw [(nI_clamp (by omega))]) dX1_dropFirstOnTheWay_30 ?_
        refine ln_rastW (j := (i - 1)) hL (vp_in_nI (n := (i - 1)) (by omega) (by decide)) (nI_clamp (by omega)) dX1_dropFirstOnTheWay_31 (fun G3 hL4 => ?_)
        refine cc_iinc (j := 0) (v := nI (i + 1)) (ls' := [(1, .int (nI (i + 1))), (0, .ref a)]) dX1_dropFirstOnTheWay_32 rfl (nI_1 i) (Nat.le_of_ble_eq_true rfl) rfl ?_
        refine cc_goto (tgt := 10) dX1_dropFirstOnTheWay_35 (by decide) ?_
        refine ih (i + 1) _ _ (by omega) (by omega) (by omega) hL4 (fun j hj => ?_) (fun j hj => ?_)
        · by_cases hq : j = i - 1
          · subst hq
            rw [show upd f' (i - 1) (f' i) (i - 1) = f' i by simp [upd], h2 i (by omega), show i - 1 + 1 = i by omega]
          · rw [show upd f' (i - 1) (f' i) j = f' j by simp [upd, hq], h1 j (by omega)]
        · rw [show upd f' (i - 1) (f' i) j = f' j by simp [upd]; omega, h2 j (by omega)]
  refine cc_enter ok_X1_dropFirstOnTheWay (Nat.le_of_ble_eq_true rfl) (ls := [(0, .ref a)]) rfl ?_
  refine cc_aload_n (j := 0) dX1_dropFirstOnTheWay_0 rfl rfl ?_
  refine cc_get (v := .int (nI wy.length)) hL.2.1 cc_c1 12 (by decide) fl_X1_49 rfl dX1_dropFirstOnTheWay_1 ?_
  refine cc_if_gt (tgt := 8) dX1_dropFirstOnTheWay_4 (by decide) (fun c_4 => ?_) (fun c_4 => ?_)
  · refine cc_iconst (v := 1) dX1_dropFirstOnTheWay_8 (by decide) ?_
    refine cc_istore_n (ls' := [(1, .int 1), (0, .ref a)]) dX1_dropFirstOnTheWay_9 rfl (Nat.le_of_ble_eq_true rfl) rfl ?_
    exact loop_10 (wy.length + 1) 1 g _ (by omega) (by omega) (by have := (cc_p0 (n := wy.length) (by omega)).mp c_4; omega) hL (fun j hj => absurd hj (by omega)) (fun j hj => rfl)
  · refine cc_vret rfl dX1_dropFirstOnTheWay_7 ?_
    have hz : wy = [] := by
      cases wy with
      | nil => rfl
      | cons w ws => exact absurd ((cc_p0 (by omega)).mpr (by simp)) c_4
    subst hz
    exact ⟨rfl, f, g, hL, hf, hg, h8, h6⟩

set_option maxHeartbeats 4000000 in
set_option maxRecDepth 100000 in
theorem ct_X1_loseFirst (cy : Nat → ClassId) (z : Nat) (G : cc_G) (a : Nat) (v : Nat → Int32) (sd wy : List Int32)  (hI : ln_I cy G G a (v, sd, wy)) : cc_Cn cy Y_X1_loseFirst [.ref a] z G (cc_qv (fun G' => ln_I cy G G' a (L_lose (v, sd, wy)))) := by
  obtain ⟨f, g, hL, hf, hg, h8, h6⟩ := hI
  have hL : ln_R cy G G a v (nI sd.length) f (nI wy.length) g := hL
  have hf : ar_ f sd := hf
  have hg : ar_ g wy := hg
  have h8 : sd.length ≤ 8 := h8
  have h6 : wy.length ≤ 6 := h6
  refine cc_enter ok_X1_loseFirst (Nat.le_of_ble_eq_true rfl) (ls := [(0, .ref a)]) rfl ?_
  refine cc_aload_n (j := 0) dX1_loseFirst_0 rfl rfl ?_
  refine cc_callVv (As := []) (rest := []) (ct_X1_dropFirstOnTheWay cy z _ a v sd wy ⟨_, _, hL.self, hf, hg, h8, h6⟩) ok_X1_dropFirstOnTheWay (hL.2.1) rfl im_X1_dropFirstOnTheWay sl_X1_dropFirstOnTheWay ml_X1_66 nd_X1_dropFirstOnTheWay (by decide +kernel) (Nat.le_of_ble_eq_true rfl) rfl dX1_loseFirst_1 (fun G1 q3 => ?_)
  obtain ⟨f4, g5, hL6, hfhL6, hghL6, h8hL6, h6hL6⟩ := q3
  have hL6 : ln_R cy _ G1 a v (nI sd.length) f4 (nI wy.tail.length) g5 := hL.tr hL6
  refine cc_aload_n (j := 0) dX1_loseFirst_4 rfl rfl ?_
  refine cc_dup dX1_loseFirst_5 rfl ?_
  refine cc_get (v := .int (v 8)) hL6.2.1 cc_c1 8 (by decide) fl_X1_36 rfl dX1_loseFirst_6 ?_
  refine cc_iconst (v := 1) dX1_loseFirst_9 (by decide) ?_
  refine cc_iadd dX1_loseFirst_10 ?_
  refine ln_rput (v' := upd v 8 ((v 8) + 1)) (nS' := (nI sd.length)) (nW' := (nI wy.tail.length)) hL6 cc_c1 8 (by decide) fl_X1_36 rfl rfl rfl dX1_loseFirst_11 (fun G7 hL8 => ?_)
  refine cc_vret rfl dX1_loseFirst_14 ?_
  exact ⟨rfl, _, _, hL8, hfhL6, hghL6, h8hL6, h6hL6⟩

set_option maxHeartbeats 4000000 in
set_option maxRecDepth 100000 in
theorem ct_X1_receive (cy : Nat → ClassId) (z : Nat) (G : cc_G) (a : Nat) (v : Nat → Int32) (sd wy : List Int32) (x1 : Int32) (hch : v 0 ≤ 8) (hI : ln_I cy G G a (v, sd, wy)) : cc_Cn cy Y_X1_receive [.ref a, .int x1] z G (cc_qv (fun G' => ln_I cy G G' a (L_recv x1 (v, sd, wy)))) := by
  obtain ⟨f, g, hL, hf, hg, h8, h6⟩ := hI
  have hL : ln_R cy G G a v (nI sd.length) f (nI wy.length) g := hL
  have hf : ar_ f sd := hf
  have hg : ar_ g wy := hg
  have h8 : sd.length ≤ 8 := h8
  have h6 : wy.length ≤ 6 := h6
  refine cc_enter ok_X1_receive (Nat.le_of_ble_eq_true rfl) (ls := [(0, .ref a), (1, .int x1)]) rfl ?_
  refine cc_aload_n (j := 0) dX1_receive_0 rfl rfl ?_
  refine cc_dup dX1_receive_1 rfl ?_
  refine cc_get (v := .int (v 3)) hL.2.1 cc_c1 3 (by decide) fl_X1_21 rfl dX1_receive_2 ?_
  refine cc_iconst (v := 1) dX1_receive_5 (by decide) ?_
  refine cc_isub dX1_receive_6 ?_
  refine ln_rput (v' := upd v 3 ((v 3) - 1)) (nS' := (nI sd.length)) (nW' := (nI wy.length)) hL cc_c1 3 (by decide) fl_X1_21 rfl rfl rfl dX1_receive_7 (fun G1 hL2 => ?_)
  refine cc_aload_n (j := 0) dX1_receive_10 rfl rfl ?_
  refine cc_dup dX1_receive_11 rfl ?_
  refine cc_get (v := .int (v 5)) hL2.2.1 cc_c1 5 (by decide) fl_X1_27 rfl dX1_receive_12 ?_
  refine cc_iconst (v := 1) dX1_receive_15 (by decide) ?_
  refine cc_iadd dX1_receive_16 ?_
  refine ln_rput (v' := upd (upd v 3 ((v 3) - 1)) 5 ((v 5) + 1)) (nS' := (nI sd.length)) (nW' := (nI wy.length)) hL2 cc_c1 5 (by decide) fl_X1_27 rfl rfl rfl dX1_receive_17 (fun G3 hL4 => ?_)
  refine cc_aload_n (j := 0) dX1_receive_20 rfl rfl ?_
  refine cc_get (v := .int (nI sd.length)) hL4.2.1 cc_c1 10 (by decide) fl_X1_43 rfl dX1_receive_21 ?_
  refine cc_aload_n (j := 0) dX1_receive_24 rfl rfl ?_
  refine cc_get (v := .int (v 0)) hL4.2.1 cc_c1 0 (by decide) fl_X1_9 rfl dX1_receive_25 ?_
  refine cc_icmp_ge (tgt := 63) dX1_receive_28 (by decide) (fun c_28 => ?_) (fun c_28 => ?_)
  · refine cc_aload_n (j := 0) dX1_receive_63 rfl rfl ?_
    refine cc_dup dX1_receive_64 rfl ?_
    refine cc_get (v := .int (v 7)) hL4.2.1 cc_c1 7 (by decide) fl_X1_33 rfl dX1_receive_65 ?_
    refine cc_iconst (v := 1) dX1_receive_68 (by decide) ?_
    refine cc_iadd dX1_receive_69 ?_
    refine ln_rput (v' := upd (upd (upd v 3 ((v 3) - 1)) 5 ((v 5) + 1)) 7 ((v 7) + 1)) (nS' := (nI sd.length)) (nW' := (nI wy.length)) hL4 cc_c1 7 (by decide) fl_X1_33 rfl rfl rfl dX1_receive_70 (fun G5 hL6 => ?_)
    refine cc_vret rfl dX1_receive_73 ?_
    refine ⟨rfl, ?_⟩
    rw [show L_recv x1 (v, sd, wy) = _ from if_pos c_28]
    exact ⟨_, _, hL6, hf, hg, h8, h6⟩
  · refine cc_aload_n (j := 0) dX1_receive_31 rfl rfl ?_
    refine cc_get (v := .int (nI sd.length)) hL4.2.1 cc_c1 10 (by decide) fl_X1_43 rfl dX1_receive_32 ?_
    refine cc_bipush (v := 8) dX1_receive_35 (by decide) ?_
    refine cc_icmp_ge (tgt := 63) dX1_receive_37 (by decide) (fun c_37 => ?_) (fun c_37 => ?_)
    · exact absurd (Int32.le_trans hch c_37) c_28
    · have hlt : sd.length < 8 := by
        rcases Nat.lt_or_ge sd.length 8 with q | q
        · exact q
        · exact absurd (nI_le (a := 8) q (by omega)) c_37
      refine cc_aload_n (j := 0) dX1_receive_40 rfl rfl ?_
      refine cc_get (v := .ref (a + 1)) hL4.2.1 cc_c1 9 (by decide) fl_X1_39 rfl dX1_receive_41 ?_
      refine cc_aload_n (j := 0) dX1_receive_44 rfl rfl ?_
      refine cc_get (v := .int (nI sd.length)) hL4.2.1 cc_c1 10 (by decide) fl_X1_43 rfl dX1_receive_45 ?_
      refine cc_iload_n (j := 1) dX1_receive_48 rfl rfl ?_
      refine ln_rastS (j := sd.length) hL4 (vp_in_nI (n := sd.length) (by omega) (by decide)) (nI_clamp (by omega)) dX1_receive_49 (fun G7 hL8 => ?_)
      refine cc_aload_n (j := 0) dX1_receive_50 rfl rfl ?_
      refine cc_dup dX1_receive_51 rfl ?_
      refine cc_get (v := .int (nI sd.length)) hL8.2.1 cc_c1 10 (by decide) fl_X1_43 rfl dX1_receive_52 ?_
      refine cc_iconst (v := 1) dX1_receive_55 (by decide) ?_
      refine cc_iadd dX1_receive_56 ?_
      rw [show (nI sd.length) + 1 = nI (sd ++ [x1]).length from (by rw [List.length_append]; exact nI_1 _)]
      refine ln_rput (v' := upd (upd v 3 ((v 3) - 1)) 5 ((v 5) + 1)) (nS' := (nI (sd ++ [x1]).length)) (nW' := (nI wy.length)) hL8 cc_c1 10 (by decide) fl_X1_43 rfl rfl rfl dX1_receive_57 (fun G9 hL10 => ?_)
      refine cc_goto (tgt := 73) dX1_receive_60 (by decide) ?_
      refine cc_vret rfl dX1_receive_73 ?_
      refine ⟨rfl, ?_⟩
      rw [show L_recv x1 (v, sd, wy) = _ from if_neg c_28]
      exact ⟨_, _, hL10, hf.push x1, hg, by simp; omega, h6⟩

set_option maxHeartbeats 4000000 in
set_option maxRecDepth 100000 in
theorem ct_X1_sendCreditBack (cy : Nat → ClassId) (z : Nat) (G : cc_G) (a : Nat) (v : Nat → Int32) (sd wy : List Int32) (x1 : Int32) (h5 : wy.length ≤ 5) (hI : ln_I cy G G a (v, sd, wy)) : cc_Cn cy Y_X1_sendCreditBack [.ref a, .int x1] z G (cc_qv (fun G' => ln_I cy G G' a (v, sd, L_ins x1 wy))) := by
  obtain ⟨f, g, hL, hf, hg, h8, h6⟩ := hI
  have hL : ln_R cy G G a v (nI sd.length) f (nI wy.length) g := hL
  have hf : ar_ f sd := hf
  have hg : ar_ g wy := hg
  have h8 : sd.length ≤ 8 := h8
  have h6 : wy.length ≤ 6 := h6
  have loop_15 : ∀ (r : Nat) (g' : Nat → Int32) (G1 : cc_G), r ≤ wy.length → ln_R cy G G1 a v (nI sd.length) f (nI wy.length) g' → (∀ j, j < r → g' j = g j) → (∀ j, r < j → j ≤ wy.length → g' j = g (j - 1)) → L_rank x1 wy wy.length = L_rank x1 wy r → cc_R cy Y_X1_sendCreditBack z 15 [(2, .int (nI r)), (0, .ref a), (1, .int x1)] [] G1 (cc_qv (fun G' => ln_I cy G G' a (v, sd, L_ins x1 wy))) := by
    intro r
    induction r with
    | zero =>
      intro g' G1 hr hL h1 h2 h3
      have h3 : L_rank x1 wy wy.length = 0 := h3
      refine cc_iload_n (j := 0) dX1_sendCreditBack_15 rfl rfl ?_
      refine cc_if_le (tgt := 51) dX1_sendCreditBack_16 (by decide) (fun c_16 => ?_) (fun c_16 => ?_)
      · refine cc_aload_n (j := 1) dX1_sendCreditBack_51 rfl rfl ?_
        refine cc_get (v := .ref (a + 2)) hL.2.1 cc_c1 11 (by decide) fl_X1_46 rfl dX1_sendCreditBack_52 ?_
        refine cc_iload_n (j := 0) dX1_sendCreditBack_55 rfl rfl ?_
        refine cc_iload_n (j := 2) dX1_sendCreditBack_56 rfl rfl ?_
        refine ln_rastW (j := 0) hL (vp_in_nI (n := 0) (by omega) (by decide)) (nI_clamp (by omega)) dX1_sendCreditBack_57 (fun G1 hL2 => ?_)
        refine cc_aload_n (j := 1) dX1_sendCreditBack_58 rfl rfl ?_
        refine cc_dup dX1_sendCreditBack_59 rfl ?_
        refine cc_get (v := .int (nI wy.length)) hL2.2.1 cc_c1 12 (by decide) fl_X1_49 rfl dX1_sendCreditBack_60 ?_
        refine cc_iconst (v := 1) dX1_sendCreditBack_63 (by decide) ?_
        refine cc_iadd dX1_sendCreditBack_64 ?_
        rw [show (nI wy.length) + 1 = nI (L_ins x1 wy).length from (by rw [L_ins_len]; exact nI_1 _)]
        refine ln_rput (v' := v) (nS' := (nI sd.length)) (nW' := (nI (L_ins x1 wy).length)) hL2 cc_c1 12 (by decide) fl_X1_49 rfl rfl rfl dX1_sendCreditBack_65 (fun G3 hL4 => ?_)
        refine cc_vret rfl dX1_sendCreditBack_68 ?_
        have hk : L_rank x1 wy wy.length = 0 := h3
        refine ⟨rfl, f, _, hL4, hf, ?_, h8, by show (L_ins x1 wy).length ≤ 6; rw [L_ins_len]; omega⟩
        show ar_ _ (L_ins x1 wy)
        unfold L_ins
        rw [hk]
        refine ar_ins hg (by omega) (fun j hj => ?_) (by simp [upd]) (fun j hj hj2 => ?_)
        · rw [← h1 j (by omega)]; simp [upd]; omega
        · rw [← h2 j (by omega) hj2]; simp [upd]; omega
      · exact absurd (by decide) c_16
    | succ r ih =>
      intro g' G1 hr hL h1 h2 h3
      refine cc_iload_n (j := 0) dX1_sendCreditBack_15 rfl rfl ?_
      refine cc_if_le (tgt := 51) dX1_sendCreditBack_16 (by decide) (fun c_16 => ?_) (fun c_16 => ?_)
      · exact absurd c_16 (nI_nle (by omega) (by omega))
      · refine cc_aload_n (j := 1) dX1_sendCreditBack_19 rfl rfl ?_
        refine cc_get (v := .ref (a + 2)) hL.2.1 cc_c1 11 (by decide) fl_X1_46 rfl dX1_sendCreditBack_20 ?_
        refine cc_iload_n (j := 0) dX1_sendCreditBack_23 rfl rfl ?_
        refine cc_iconst (v := 1) dX1_sendCreditBack_24 (by decide) ?_
        refine cc_isub dX1_sendCreditBack_25 ?_
        rw [show (nI (r + 1)) - 1 = nI r from cc_m1 (n := r + 1) (by omega)]
        refine cc_iald (x := g' r) hL.2.2.2 (vp_in_nI (n := r) (by omega) (by decide)) (by rw [(nI_clamp (by omega))]) dX1_sendCreditBack_26 ?_
        refine cc_iload_n (j := 2) dX1_sendCreditBack_27 rfl rfl ?_
        refine cc_icmp_le (tgt := 51) dX1_sendCreditBack_28 (by decide) (fun c_28 => ?_) (fun c_28 => ?_)
        · have hgt : ¬ x1 < wy.getD r 0 := by
            rw [← ar_at hg (by omega), ← h1 r (by omega)]
            exact Int32.not_lt.mpr c_28
          refine cc_aload_n (j := 1) dX1_sendCreditBack_51 rfl rfl ?_
          refine cc_get (v := .ref (a + 2)) hL.2.1 cc_c1 11 (by decide) fl_X1_46 rfl dX1_sendCreditBack_52 ?_
          refine cc_iload_n (j := 0) dX1_sendCreditBack_55 rfl rfl ?_
          refine cc_iload_n (j := 2) dX1_sendCreditBack_56 rfl rfl ?_
          refine ln_rastW (j := (r + 1)) hL (vp_in_nI (n := (r + 1)) (by omega) (by decide)) (nI_clamp (by omega)) dX1_sendCreditBack_57 (fun G1 hL2 => ?_)
          refine cc_aload_n (j := 1) dX1_sendCreditBack_58 rfl rfl ?_
          refine cc_dup dX1_sendCreditBack_59 rfl ?_
          refine cc_get (v := .int (nI wy.length)) hL2.2.1 cc_c1 12 (by decide) fl_X1_49 rfl dX1_sendCreditBack_60 ?_
          refine cc_iconst (v := 1) dX1_sendCreditBack_63 (by decide) ?_
          refine cc_iadd dX1_sendCreditBack_64 ?_
          rw [show (nI wy.length) + 1 = nI (L_ins x1 wy).length from (by rw [L_ins_len]; exact nI_1 _)]
          refine ln_rput (v' := v) (nS' := (nI sd.length)) (nW' := (nI (L_ins x1 wy).length)) hL2 cc_c1 12 (by decide) fl_X1_49 rfl rfl rfl dX1_sendCreditBack_65 (fun G3 hL4 => ?_)
          refine cc_vret rfl dX1_sendCreditBack_68 ?_
          have hk : L_rank x1 wy wy.length = (r + 1) := (h3.trans (by unfold L_rank; rw [if_neg hgt]))
          refine ⟨rfl, f, _, hL4, hf, ?_, h8, by show (L_ins x1 wy).length ≤ 6; rw [L_ins_len]; omega⟩
          show ar_ _ (L_ins x1 wy)
          unfold L_ins
          rw [hk]
          refine ar_ins hg (by omega) (fun j hj => ?_) (by simp [upd]) (fun j hj hj2 => ?_)
          · rw [← h1 j (by omega)]; simp [upd]; omega
          · rw [← h2 j (by omega) hj2]; simp [upd]; omega
        · have hgt : x1 < wy.getD r 0 := by
            rw [← ar_at hg (by omega), ← h1 r (by omega)]
            exact Int32.not_le.mp c_28
          refine cc_aload_n (j := 1) dX1_sendCreditBack_31 rfl rfl ?_
          refine cc_get (v := .ref (a + 2)) hL.2.1 cc_c1 11 (by decide) fl_X1_46 rfl dX1_sendCreditBack_32 ?_
          refine cc_iload_n (j := 0) dX1_sendCreditBack_35 rfl rfl ?_
          refine cc_aload_n (j := 1) dX1_sendCreditBack_36 rfl rfl ?_
          refine cc_get (v := .ref (a + 2)) hL.2.1 cc_c1 11 (by decide) fl_X1_46 rfl dX1_sendCreditBack_37 ?_
          refine cc_iload_n (j := 0) dX1_sendCreditBack_40 rfl rfl ?_
          refine cc_iconst (v := 1) dX1_sendCreditBack_41 (by decide) ?_
          refine cc_isub dX1_sendCreditBack_42 ?_
          rw [show (nI (r + 1)) - 1 = nI r from cc_m1 (n := r + 1) (by omega)]
          refine cc_iald (x := g' r) hL.2.2.2 (vp_in_nI (n := r) (by omega) (by decide)) (by rw [(nI_clamp (by omega))]) dX1_sendCreditBack_43 ?_
          refine ln_rastW (j := (r + 1)) hL (vp_in_nI (n := (r + 1)) (by omega) (by decide)) (nI_clamp (by omega)) dX1_sendCreditBack_44 (fun G5 hL6 => ?_)
          refine cc_iinc (j := 0) (v := nI r) (ls' := [(2, .int (nI r)), (0, .ref a), (1, .int x1)]) dX1_sendCreditBack_45 rfl (cc_dec r) (Nat.le_of_ble_eq_true rfl) rfl ?_
          refine cc_goto (tgt := 15) dX1_sendCreditBack_48 (by decide) ?_
          refine ih _ _ (by omega) hL6 (fun j hj => ?_) (fun j hj hj2 => ?_) (h3.trans (by conv => lhs; unfold L_rank; rw [if_pos hgt]))
          · rw [← h1 j (by omega)]; simp [upd]; omega
          · by_cases hq : j = r + 1
            · subst hq
              rw [show r + 1 - 1 = r by omega, ← h1 r (by omega)]; simp [upd]
            · rw [← h2 j (by omega) hj2]; simp [upd]; omega
  refine cc_enter ok_X1_sendCreditBack (Nat.le_of_ble_eq_true rfl) (ls := [(0, .ref a), (1, .int x1)]) rfl ?_
  refine cc_aload_n (j := 0) dX1_sendCreditBack_0 rfl rfl ?_
  refine cc_get (v := .int (nI wy.length)) hL.2.1 cc_c1 12 (by decide) fl_X1_49 rfl dX1_sendCreditBack_1 ?_
  refine cc_bipush (v := 6) dX1_sendCreditBack_4 (by decide) ?_
  refine cc_icmp_lt (tgt := 10) dX1_sendCreditBack_6 (by decide) (fun c_6 => ?_) (fun c_6 => ?_)
  · refine cc_aload_n (j := 0) dX1_sendCreditBack_10 rfl rfl ?_
    refine cc_get (v := .int (nI wy.length)) hL.2.1 cc_c1 12 (by decide) fl_X1_49 rfl dX1_sendCreditBack_11 ?_
    refine cc_istore_n (ls' := [(2, .int (nI wy.length)), (0, .ref a), (1, .int x1)]) dX1_sendCreditBack_14 rfl (Nat.le_of_ble_eq_true rfl) rfl ?_
    exact loop_15 wy.length g _ (Nat.le_refl _) hL (fun j _ => rfl) (fun j hj hj2 => absurd hj (by omega)) rfl
  · exact absurd (nI_lt (b := 6) (by omega) (by decide)) c_6

set_option maxHeartbeats 4000000 in
set_option maxRecDepth 100000 in
theorem ct_X1_takeIfDue (cy : Nat → ClassId) (z : Nat) (G : cc_G) (a : Nat) (v : Nat → Int32) (sd wy : List Int32) (x1 : Int32) (h5 : wy.length ≤ 5) (hper : 0 < v 1) (hI : ln_I cy G G a (v, sd, wy)) : cc_Cn cy Y_X1_takeIfDue [.ref a, .int x1] z G (cc_qv (fun G' => ln_I cy G G' a (L_take x1 (v, sd, wy)))) := by
  obtain ⟨f, g, hL, hf, hg, h8, h6⟩ := hI
  have hL : ln_R cy G G a v (nI sd.length) f (nI wy.length) g := hL
  have hf : ar_ f sd := hf
  have hg : ar_ g wy := hg
  have h8 : sd.length ≤ 8 := h8
  have h6 : wy.length ≤ 6 := h6
  have loop_38 : ∀ (n i : Nat) (f' : Nat → Int32) (G1 : cc_G), sd.length < i + n → 1 ≤ i → i ≤ sd.length → ln_R cy G G1 a v (nI sd.length) f' (nI wy.length) g → (∀ j, j + 1 < i → f' j = f (j + 1)) → (∀ j, i ≤ j + 1 → f' j = f j) → cc_rm (x1 + 1) (v 1) = 0 → cc_R cy Y_X1_takeIfDue z 38 [(3, .int (nI i)), (2, .int 1), (0, .ref a), (1, .int x1)] [] G1 (cc_qv (fun G' => ln_I cy G G' a (L_take x1 (v, sd, wy)))) := by
    intro n
    induction n with
    | zero => intro i f' G1 h1 h2 h3; exact absurd h1 (by omega)
    | succ n ih =>
      intro i f' G1 hn hi1 hi2 hL h1 h2 hz
      refine cc_iload_n (j := 0) dX1_takeIfDue_38 rfl rfl ?_
      refine cc_aload_n (j := 2) dX1_takeIfDue_39 rfl rfl ?_
      refine cc_get (v := .int (nI sd.length)) hL.2.1 cc_c1 10 (by decide) fl_X1_43 rfl dX1_takeIfDue_40 ?_
      refine cc_icmp_ge (tgt := 66) dX1_takeIfDue_43 (by decide) (fun c_43 => ?_) (fun c_43 => ?_)
      · have hge : sd.length ≤ i := (nI_leI (by omega) (by omega)).mp c_43
        have hge2 : 1 ≤ sd.length := by omega
        refine cc_aload_n (j := 2) dX1_takeIfDue_66 rfl rfl ?_
        refine cc_dup dX1_takeIfDue_67 rfl ?_
        refine cc_get (v := .int (nI sd.length)) hL.2.1 cc_c1 10 (by decide) fl_X1_43 rfl dX1_takeIfDue_68 ?_
        refine cc_iconst (v := 1) dX1_takeIfDue_71 (by decide) ?_
        refine cc_isub dX1_takeIfDue_72 ?_
        rw [show (nI sd.length) - 1 = nI sd.tail.length from (by rw [List.length_tail]; exact cc_m1 (by omega))]
        refine ln_rput (v' := v) (nS' := (nI sd.tail.length)) (nW' := (nI wy.length)) hL cc_c1 10 (by decide) fl_X1_43 rfl rfl rfl dX1_takeIfDue_73 (fun G1 hL2 => ?_)
        refine cc_aload_n (j := 2) dX1_takeIfDue_76 rfl rfl ?_
        refine cc_dup dX1_takeIfDue_77 rfl ?_
        refine cc_get (v := .int (v 6)) hL2.2.1 cc_c1 6 (by decide) fl_X1_30 rfl dX1_takeIfDue_78 ?_
        refine cc_iconst (v := 1) dX1_takeIfDue_81 (by decide) ?_
        refine cc_iadd dX1_takeIfDue_82 ?_
        refine ln_rput (v' := upd v 6 ((v 6) + 1)) (nS' := (nI sd.tail.length)) (nW' := (nI wy.length)) hL2 cc_c1 6 (by decide) fl_X1_30 rfl rfl rfl dX1_takeIfDue_83 (fun G3 hL4 => ?_)
        refine cc_aload_n (j := 2) dX1_takeIfDue_86 rfl rfl ?_
        refine cc_iload_n (j := 3) dX1_takeIfDue_87 rfl rfl ?_
        refine cc_aload_n (j := 2) dX1_takeIfDue_88 rfl rfl ?_
        refine cc_get (v := .int (v 2)) hL4.2.1 cc_c1 2 (by decide) fl_X1_18 rfl dX1_takeIfDue_89 ?_
        refine cc_iadd dX1_takeIfDue_92 ?_
        refine cc_callVv (As := [.int (x1 + (v 2))]) (rest := []) (ct_X1_sendCreditBack cy z _ a (upd v 6 ((v 6) + 1)) sd.tail wy (x1 + (v 2)) h5 ⟨_, _, hL4.self, hf.shift (fun k hk => h1 k (by omega)), hg, by show sd.tail.length ≤ 8; simp; omega, h6⟩) ok_X1_sendCreditBack (hL4.2.1) rfl im_X1_sendCreditBack sl_X1_sendCreditBack ml_X1_69 nd_X1_sendCreditBack (by decide +kernel) (Nat.le_of_ble_eq_true rfl) rfl dX1_takeIfDue_93 (fun G5 q7 => ?_)
        obtain ⟨f8, g9, hL10, hfhL10, hghL10, h8hL10, h6hL10⟩ := q7
        have hL10 : ln_R cy _ G5 a (upd v 6 ((v 6) + 1)) (nI sd.tail.length) f8 (nI (L_ins (x1 + (v 2)) wy).length) g9 := hL4.tr hL10
        refine cc_vret rfl dX1_takeIfDue_96 ?_
        refine ⟨rfl, ?_⟩
        rw [show L_take x1 (v, sd, wy) = _ from if_pos ⟨hz, fun q => by have q : sd = [] := q; subst q; exact absurd hge2 (by decide)⟩]
        exact ⟨_, _, hL10, hfhL10, hghL10, h8hL10, h6hL10⟩
      · have hlt : i < sd.length := by
          rcases Nat.lt_or_ge i sd.length with q | q
          · exact q
          · exact absurd (nI_le q (by omega)) c_43
        refine cc_aload_n (j := 2) dX1_takeIfDue_46 rfl rfl ?_
        refine cc_get (v := .ref (a + 1)) hL.2.1 cc_c1 9 (by decide) fl_X1_39 rfl dX1_takeIfDue_47 ?_
        refine cc_iload_n (j := 0) dX1_takeIfDue_50 rfl rfl ?_
        refine cc_iconst (v := 1) dX1_takeIfDue_51 (by decide) ?_
        refine cc_isub dX1_takeIfDue_52 ?_
        rw [show (nI i) - 1 = nI (i - 1) from cc_m1 hi1]
        refine cc_aload_n (j := 2) dX1_takeIfDue_53 rfl rfl ?_
        refine cc_get (v := .ref (a + 1)) hL.2.1 cc_c1 9 (by decide) fl_X1_39 rfl dX1_takeIfDue_54 ?_
        refine cc_iload_n (j := 0) dX1_takeIfDue_57 rfl rfl ?_
        refine cc_iald (x := f' i) hL.2.2.1 (vp_in_nI (n := i) (by omega) (by decide)) (by rw [(nI_clamp (by omega))]) dX1_takeIfDue_58 ?_
        refine ln_rastS (j := (i - 1)) hL (vp_in_nI (n := (i - 1)) (by omega) (by decide)) (nI_clamp (by omega)) dX1_takeIfDue_59 (fun G11 hL12 => ?_)
        refine cc_iinc (j := 0) (v := nI (i + 1)) (ls' := [(3, .int (nI (i + 1))), (2, .int 1), (0, .ref a), (1, .int x1)]) dX1_takeIfDue_60 rfl (nI_1 i) (Nat.le_of_ble_eq_true rfl) rfl ?_
        refine cc_goto (tgt := 38) dX1_takeIfDue_63 (by decide) ?_
        refine ih (i + 1) _ _ (by omega) (by omega) (by omega) hL12 (fun j hj => ?_) (fun j hj => ?_) hz
        · by_cases hq : j = i - 1
          · subst hq
            rw [show upd f' (i - 1) (f' i) (i - 1) = f' i by simp [upd], h2 i (by omega), show i - 1 + 1 = i by omega]
          · rw [show upd f' (i - 1) (f' i) j = f' j by simp [upd, hq], h1 j (by omega)]
        · rw [show upd f' (i - 1) (f' i) j = f' j by simp [upd]; omega, h2 j (by omega)]
  refine cc_enter ok_X1_takeIfDue (Nat.le_of_ble_eq_true rfl) (ls := [(0, .ref a), (1, .int x1)]) rfl ?_
  refine cc_aload_n (j := 0) dX1_takeIfDue_0 rfl rfl ?_
  refine cc_get (v := .int (v 1)) hL.2.1 cc_c1 1 (by decide) fl_X1_15 rfl dX1_takeIfDue_1 ?_
  refine cc_if_le (tgt := 22) dX1_takeIfDue_4 (by decide) (fun c_4 => ?_) (fun c_4 => ?_)
  · exact absurd hper (Int32.not_lt.mpr c_4)
  · refine cc_iload_n (j := 1) dX1_takeIfDue_7 rfl rfl ?_
    refine cc_iconst (v := 1) dX1_takeIfDue_8 (by decide) ?_
    refine cc_iadd dX1_takeIfDue_9 ?_
    refine cc_aload_n (j := 0) dX1_takeIfDue_10 rfl rfl ?_
    refine cc_get (v := .int (v 1)) hL.2.1 cc_c1 1 (by decide) fl_X1_15 rfl dX1_takeIfDue_11 ?_
    refine cc_irem dX1_takeIfDue_14 (fun q => by rw [q] at hper; exact absurd hper (by decide)) ?_
    refine cc_if_ne (tgt := 22) dX1_takeIfDue_15 (by decide) (fun c_15 => ?_) (fun c_15 => ?_)
    · refine cc_iconst (v := 0) dX1_takeIfDue_22 (by decide) ?_
      refine cc_istore_n (ls' := [(2, .int 0), (0, .ref a), (1, .int x1)]) dX1_takeIfDue_23 rfl (Nat.le_of_ble_eq_true rfl) rfl ?_
      refine cc_iload_n (j := 0) dX1_takeIfDue_24 rfl rfl ?_
      refine cc_if_eq (tgt := 35) dX1_takeIfDue_25 (by decide) (fun c_25 => ?_) (fun c_25 => ?_)
      · refine cc_vret rfl dX1_takeIfDue_35 ?_
        refine ⟨rfl, ?_⟩
        rw [show L_take x1 (v, sd, wy) = _ from if_neg (fun q => c_15 q.1)]
        exact ⟨_, _, hL, hf, hg, h8, h6⟩
      · exact absurd c_25 (by decide)
    · refine cc_iconst (v := 1) dX1_takeIfDue_18 (by decide) ?_
      refine cc_goto (tgt := 23) dX1_takeIfDue_19 (by decide) ?_
      refine cc_istore_n (ls' := [(2, .int 1), (0, .ref a), (1, .int x1)]) dX1_takeIfDue_23 rfl (Nat.le_of_ble_eq_true rfl) rfl ?_
      refine cc_iload_n (j := 0) dX1_takeIfDue_24 rfl rfl ?_
      refine cc_if_eq (tgt := 35) dX1_takeIfDue_25 (by decide) (fun c_25_1 => ?_) (fun c_25_1 => ?_)
      · exact absurd c_25_1 (by decide)
      · refine cc_aload_n (j := 1) dX1_takeIfDue_28 rfl rfl ?_
        refine cc_get (v := .int (nI sd.length)) hL.2.1 cc_c1 10 (by decide) fl_X1_43 rfl dX1_takeIfDue_29 ?_
        refine cc_if_gt (tgt := 36) dX1_takeIfDue_32 (by decide) (fun c_32 => ?_) (fun c_32 => ?_)
        · refine cc_iconst (v := 1) dX1_takeIfDue_36 (by decide) ?_
          refine cc_istore_n (ls' := [(3, .int 1), (2, .int 1), (0, .ref a), (1, .int x1)]) dX1_takeIfDue_37 rfl (Nat.le_of_ble_eq_true rfl) rfl ?_
          exact loop_38 (sd.length + 1) 1 f _ (by omega) (by omega) (by have := (cc_p0 (n := sd.length) (by omega)).mp c_32; omega) hL (fun j hj => absurd hj (by omega)) (fun j hj => rfl) (by simpa using c_15)
        · refine cc_vret rfl dX1_takeIfDue_35 ?_
          refine ⟨rfl, ?_⟩
          rw [show L_take x1 (v, sd, wy) = _ from if_neg (fun q => q.2 (List.length_eq_zero_iff.mp (by rcases Nat.eq_zero_or_pos sd.length with e | e; exact e; exact absurd ((cc_p0 (by omega)).mpr e) c_32)))]
          exact ⟨_, _, hL, hf, hg, h8, h6⟩

set_option maxHeartbeats 4000000 in
set_option maxRecDepth 100000 in
theorem ct_X1_letCreditsCome (cy : Nat → ClassId) (z : Nat) (G : cc_G) (a : Nat) (v : Nat → Int32) (sd wy : List Int32) (x1 : Int32) (hI : ln_I cy G G a (v, sd, wy)) : cc_Cn cy Y_X1_letCreditsCome [.ref a, .int x1] z G (cc_qv (fun G' => ln_I cy G G' a (L_come x1 (v, sd, wy)))) := by
  obtain ⟨f, g, hL, hf, hg, h8, h6⟩ := hI
  have hL : ln_R cy G G a v (nI sd.length) f (nI wy.length) g := hL
  have hf : ar_ f sd := hf
  have hg : ar_ g wy := hg
  have h8 : sd.length ≤ 8 := h8
  have h6 : wy.length ≤ 6 := h6
  have loop_2 : ∀ (n i : Nat) (v' : Nat → Int32) (wy' : List Int32) (G1 : cc_G), 6 < i + n → i ≤ 6 → wy'.length + i ≤ 6 → ln_I cy G G1 a (v', sd, wy') → L_comeW x1 v' wy' = L_comeW x1 v wy → cc_R cy Y_X1_letCreditsCome z 2 [(2, .int (nI i)), (0, .ref a), (1, .int x1)] [] G1 (cc_qv (fun G' => ln_I cy G G' a (L_come x1 (v, sd, wy)))) := by
    intro n
    induction n with
    | zero => intro i v' wy' G1 h1 h2; exact absurd h1 (by omega)
    | succ n ih =>
      intro i v' wy' G1 hn hi hlen hI hw
      obtain ⟨f, g, hL, hf, hg, h8, h6⟩ := hI
      have hL : ln_R cy G G1 a v' (nI sd.length) f (nI wy'.length) g := hL
      have hf : ar_ f sd := hf
      have hg : ar_ g wy' := hg
      have h8 : sd.length ≤ 8 := h8
      have h6 : wy'.length ≤ 6 := h6
      refine cc_iload_n (j := 0) dX1_letCreditsCome_2 rfl rfl ?_
      refine cc_bipush (v := 6) dX1_letCreditsCome_3 (by decide) ?_
      refine cc_icmp_ge (tgt := 36) dX1_letCreditsCome_5 (by decide) (fun c_5 => ?_) (fun c_5 => ?_)
      · refine cc_vret rfl dX1_letCreditsCome_36 ?_
        refine ⟨rfl, f, g, ?_, hf, ?_, h8, ?_⟩
        all_goals (show _; have hz : wy' = [] := List.length_eq_zero_iff.mp (by have := (nI_leI (a := 6) (b := i) (by decide) (by omega)).mp c_5; omega); subst hz; unfold L_come; dsimp only; rw [← hw])
        · exact hL
        · exact hg
        · exact h6
      · have hlt : i < 6 := by
          rcases Nat.lt_or_ge i 6 with q | q
          · exact q
          · exact absurd (nI_le (a := 6) q (by omega)) c_5
        refine cc_aload_n (j := 1) dX1_letCreditsCome_8 rfl rfl ?_
        refine cc_iload_n (j := 2) dX1_letCreditsCome_9 rfl rfl ?_
        refine cc_callVi (As := [.int x1]) (rest := []) (ct_X1_creditComes cy z _ a _ _ _ _ _ x1 hL.self) ok_X1_creditComes (hL.2.1) rfl im_X1_creditComes sl_X1_creditComes ml_X1_62 nd_X1_creditComes (by decide +kernel) (Nat.le_of_ble_eq_true rfl) rfl dX1_letCreditsCome_10 (fun r2 G1 q3 => ?_)
        obtain ⟨rfl, rfl⟩ := q3
        refine cc_if_eq (tgt := 36) dX1_letCreditsCome_13 (by decide) (fun c_13 => ?_) (fun c_13 => ?_)
        · refine cc_vret rfl dX1_letCreditsCome_36 ?_
          have hcw : L_comeW x1 v' wy' = (v', wy') := by
            cases wy' with
            | nil => rfl
            | cons wd ws =>
              have hw2 : ¬ wd ≤ x1 := fun q => by
                rw [if_pos ⟨(cc_p0 (by omega)).mpr (by simp), by rw [ar_hd hg]; exact q⟩] at c_13
                exact absurd c_13 (by decide)
              unfold L_comeW
              rw [if_neg hw2]
          refine ⟨rfl, f, g, ?_, hf, ?_, h8, ?_⟩
          all_goals (unfold L_come; dsimp only; rw [← hw, hcw])
          · exact hL
          · exact hg
          · exact h6
        · have hp : 0 < nI wy'.length ∧ g 0 ≤ x1 := by
            by_cases q : 0 < nI wy'.length ∧ g 0 ≤ x1
            · exact q
            · exact absurd (if_neg q) c_13
          obtain ⟨wd, ws, rfl⟩ : ∃ wd ws, wy' = wd :: ws := by
            cases wy' with
            | nil => exact absurd hp.1 (by decide)
            | cons wd ws => exact ⟨wd, ws, rfl⟩
          have hw2 : wd ≤ x1 := by rw [← ar_hd hg]; exact hp.2
          refine cc_aload_n (j := 1) dX1_letCreditsCome_16 rfl rfl ?_
          refine cc_callVv (As := []) (rest := []) (ct_X1_dropFirstOnTheWay cy z _ a v' sd (wd :: ws) ⟨_, _, hL.self, hf, hg, h8, h6⟩) ok_X1_dropFirstOnTheWay (hL.2.1) rfl im_X1_dropFirstOnTheWay sl_X1_dropFirstOnTheWay ml_X1_66 nd_X1_dropFirstOnTheWay (by decide +kernel) (Nat.le_of_ble_eq_true rfl) rfl dX1_letCreditsCome_17 (fun G4 q6 => ?_)
          obtain ⟨f7, g8, hL9, hfhL9, hghL9, h8hL9, h6hL9⟩ := q6
          have hL9 : ln_R cy _ G4 a v' (nI sd.length) f7 (nI ws.length) g8 := hL.tr hL9
          refine cc_aload_n (j := 1) dX1_letCreditsCome_20 rfl rfl ?_
          refine cc_dup dX1_letCreditsCome_21 rfl ?_
          refine cc_get (v := .int (v' 3)) hL9.2.1 cc_c1 3 (by decide) fl_X1_21 rfl dX1_letCreditsCome_22 ?_
          refine cc_iconst (v := 1) dX1_letCreditsCome_25 (by decide) ?_
          refine cc_iadd dX1_letCreditsCome_26 ?_
          refine ln_rput (v' := upd v' 3 ((v' 3) + 1)) (nS' := (nI sd.length)) (nW' := (nI ws.length)) hL9 cc_c1 3 (by decide) fl_X1_21 rfl rfl rfl dX1_letCreditsCome_27 (fun G10 hL11 => ?_)
          refine cc_iinc (j := 0) (v := nI (i + 1)) (ls' := [(2, .int (nI (i + 1))), (0, .ref a), (1, .int x1)]) dX1_letCreditsCome_30 rfl (nI_1 i) (Nat.le_of_ble_eq_true rfl) rfl ?_
          refine cc_goto (tgt := 2) dX1_letCreditsCome_33 (by decide) ?_
          exact ih (i + 1) (upd v' 3 (v' 3 + 1)) ws _ (by omega) (by omega) (by simp at hlen ⊢; omega) ⟨_, _, hL11, hfhL9, hghL9, h8hL9, h6hL9⟩ (by rw [← hw]; conv => { rhs; rw [L_comeW, if_pos hw2] })
  refine cc_enter ok_X1_letCreditsCome (Nat.le_of_ble_eq_true rfl) (ls := [(0, .ref a), (1, .int x1)]) rfl ?_
  refine cc_iconst (v := 0) dX1_letCreditsCome_0 (by decide) ?_
  refine cc_istore_n (ls' := [(2, .int 0), (0, .ref a), (1, .int x1)]) dX1_letCreditsCome_1 rfl (Nat.le_of_ble_eq_true rfl) rfl ?_
  exact loop_2 7 0 v wy _ (by omega) (by omega) (by omega) ⟨f, g, hL, hf, hg, h8, h6⟩ rfl

theorem ln_upS {cy : Nat → ClassId} {G0 G : cc_G} {a : Nat} {v f g : Nat → Int32} {nS nW : Int32} (hL : ln_R cy G0 G a v nS f nW g) (f' : Nat → Int32) : ln_R cy G0 (va_up G (a + 1) (some (.inl (cy 1, 8, .inl f')))) a v nS f' nW g :=
  ⟨fun q hq => by rw [va_up_ne _ _ (by omega)]; exact hL.1 q hq, by rw [va_up_ne _ _ (by omega)]; exact hL.2.1, va_up_self _ _ _, by rw [va_up_ne _ _ (by omega)]; exact hL.2.2.2⟩
theorem ln_upW {cy : Nat → ClassId} {G0 G : cc_G} {a : Nat} {v f g : Nat → Int32} {nS nW : Int32} (hL : ln_R cy G0 G a v nS f nW g) (g' : Nat → Int32) : ln_R cy G0 (va_up G (a + 2) (some (.inl (cy 1, 6, .inl g')))) a v nS f nW g' :=
  ⟨fun q hq => by rw [va_up_ne _ _ (by omega)]; exact hL.1 q hq, by rw [va_up_ne _ _ (by omega)]; exact hL.2.1, by rw [va_up_ne _ _ (by omega)]; exact hL.2.2.1, va_up_self _ _ _⟩
theorem ln_same {cy : Nat → ClassId} {G0 G : cc_G} {a : Nat} {v v' f g : Nat → Int32} {nS nW : Int32} (hL : ln_R cy G0 G a v nS f nW g) (h : ∀ k, k < 9 → v k = v' k) : ln_R cy G0 G a v' nS f nW g := by
  refine ⟨hL.1, ?_, hL.2.2⟩
  rw [hL.2.1]
  unfold ln_fs
  rw [h 0 (by omega), h 1 (by omega), h 2 (by omega), h 3 (by omega), h 4 (by omega), h 5 (by omega), h 6 (by omega), h 7 (by omega), h 8 (by omega)]

set_option maxHeartbeats 4000000 in
set_option maxRecDepth 100000 in
theorem ct_X1_copyFrom (cy : Nat → ClassId) (z : Nat) (G : cc_G) (a : Nat) (v : Nat → Int32) (sd wy : List Int32) (o : Nat) (L2 : Ln_) (hao : a + 3 ≤ o ∨ o + 3 ≤ a) (hI2 : ln_I cy G G o L2) (hI : ln_I cy G G a (v, sd, wy)) : cc_Cn cy Y_X1_copyFrom [.ref a, .ref o] z G (cc_qv (fun G' => ln_I cy G G' a L2)) := by
  obtain ⟨f, g, hL, hf, hg, h8, h6⟩ := hI
  have hL : ln_R cy G G a v (nI sd.length) f (nI wy.length) g := hL
  have hf : ar_ f sd := hf
  have hg : ar_ g wy := hg
  have h8 : sd.length ≤ 8 := h8
  have h6 : wy.length ≤ 6 := h6
  obtain ⟨v2, sd2, wy2⟩ := L2
  obtain ⟨f2, g2, hO, hf2, hg2, h82, h62⟩ := hI2
  have hO : ln_R cy G G o v2 (nI sd2.length) f2 (nI wy2.length) g2 := hO
  have hf2 : ar_ f2 sd2 := hf2
  have hg2 : ar_ g2 wy2 := hg2
  have h82 : sd2.length ≤ 8 := h82
  have h62 : wy2.length ≤ 6 := h62
  refine cc_enter ok_X1_copyFrom (Nat.le_of_ble_eq_true rfl) (ls := [(0, .ref a), (1, .ref o)]) rfl ?_
  refine cc_aload_n (j := 0) dX1_copyFrom_0 rfl rfl ?_
  refine cc_aload_n (j := 1) dX1_copyFrom_1 rfl rfl ?_
  refine cc_get (v := .int (v2 0)) (((hL).1 o (by omega)).trans hO.2.1) cc_c1 0 (by decide) fl_X1_9 rfl dX1_copyFrom_2 ?_
  refine ln_rput (v' := upd v 0 (v2 0)) (nS' := (nI sd.length)) (nW' := (nI wy.length)) hL cc_c1 0 (by decide) fl_X1_9 rfl rfl rfl dX1_copyFrom_5 (fun G1 hL2 => ?_)
  refine cc_aload_n (j := 0) dX1_copyFrom_8 rfl rfl ?_
  refine cc_aload_n (j := 1) dX1_copyFrom_9 rfl rfl ?_
  refine cc_get (v := .int (v2 1)) (((hL2).1 o (by omega)).trans hO.2.1) cc_c1 1 (by decide) fl_X1_15 rfl dX1_copyFrom_10 ?_
  refine ln_rput (v' := upd (upd v 0 (v2 0)) 1 (v2 1)) (nS' := (nI sd.length)) (nW' := (nI wy.length)) hL2 cc_c1 1 (by decide) fl_X1_15 rfl rfl rfl dX1_copyFrom_13 (fun G3 hL4 => ?_)
  refine cc_aload_n (j := 0) dX1_copyFrom_16 rfl rfl ?_
  refine cc_aload_n (j := 1) dX1_copyFrom_17 rfl rfl ?_
  refine cc_get (v := .int (v2 2)) (((hL4).1 o (by omega)).trans hO.2.1) cc_c1 2 (by decide) fl_X1_18 rfl dX1_copyFrom_18 ?_
  refine ln_rput (v' := upd (upd (upd v 0 (v2 0)) 1 (v2 1)) 2 (v2 2)) (nS' := (nI sd.length)) (nW' := (nI wy.length)) hL4 cc_c1 2 (by decide) fl_X1_18 rfl rfl rfl dX1_copyFrom_21 (fun G5 hL6 => ?_)
  refine cc_aload_n (j := 0) dX1_copyFrom_24 rfl rfl ?_
  refine cc_aload_n (j := 1) dX1_copyFrom_25 rfl rfl ?_
  refine cc_get (v := .int (v2 3)) (((hL6).1 o (by omega)).trans hO.2.1) cc_c1 3 (by decide) fl_X1_21 rfl dX1_copyFrom_26 ?_
  refine ln_rput (v' := upd (upd (upd (upd v 0 (v2 0)) 1 (v2 1)) 2 (v2 2)) 3 (v2 3)) (nS' := (nI sd.length)) (nW' := (nI wy.length)) hL6 cc_c1 3 (by decide) fl_X1_21 rfl rfl rfl dX1_copyFrom_29 (fun G7 hL8 => ?_)
  refine cc_aload_n (j := 0) dX1_copyFrom_32 rfl rfl ?_
  refine cc_aload_n (j := 1) dX1_copyFrom_33 rfl rfl ?_
  refine cc_get (v := .int (v2 4)) (((hL8).1 o (by omega)).trans hO.2.1) cc_c1 4 (by decide) fl_X1_24 rfl dX1_copyFrom_34 ?_
  refine ln_rput (v' := upd (upd (upd (upd (upd v 0 (v2 0)) 1 (v2 1)) 2 (v2 2)) 3 (v2 3)) 4 (v2 4)) (nS' := (nI sd.length)) (nW' := (nI wy.length)) hL8 cc_c1 4 (by decide) fl_X1_24 rfl rfl rfl dX1_copyFrom_37 (fun G9 hL10 => ?_)
  refine cc_aload_n (j := 0) dX1_copyFrom_40 rfl rfl ?_
  refine cc_aload_n (j := 1) dX1_copyFrom_41 rfl rfl ?_
  refine cc_get (v := .int (v2 5)) (((hL10).1 o (by omega)).trans hO.2.1) cc_c1 5 (by decide) fl_X1_27 rfl dX1_copyFrom_42 ?_
  refine ln_rput (v' := upd (upd (upd (upd (upd (upd v 0 (v2 0)) 1 (v2 1)) 2 (v2 2)) 3 (v2 3)) 4 (v2 4)) 5 (v2 5)) (nS' := (nI sd.length)) (nW' := (nI wy.length)) hL10 cc_c1 5 (by decide) fl_X1_27 rfl rfl rfl dX1_copyFrom_45 (fun G11 hL12 => ?_)
  refine cc_aload_n (j := 0) dX1_copyFrom_48 rfl rfl ?_
  refine cc_aload_n (j := 1) dX1_copyFrom_49 rfl rfl ?_
  refine cc_get (v := .int (v2 6)) (((hL12).1 o (by omega)).trans hO.2.1) cc_c1 6 (by decide) fl_X1_30 rfl dX1_copyFrom_50 ?_
  refine ln_rput (v' := upd (upd (upd (upd (upd (upd (upd v 0 (v2 0)) 1 (v2 1)) 2 (v2 2)) 3 (v2 3)) 4 (v2 4)) 5 (v2 5)) 6 (v2 6)) (nS' := (nI sd.length)) (nW' := (nI wy.length)) hL12 cc_c1 6 (by decide) fl_X1_30 rfl rfl rfl dX1_copyFrom_53 (fun G13 hL14 => ?_)
  refine cc_aload_n (j := 0) dX1_copyFrom_56 rfl rfl ?_
  refine cc_aload_n (j := 1) dX1_copyFrom_57 rfl rfl ?_
  refine cc_get (v := .int (v2 7)) (((hL14).1 o (by omega)).trans hO.2.1) cc_c1 7 (by decide) fl_X1_33 rfl dX1_copyFrom_58 ?_
  refine ln_rput (v' := upd (upd (upd (upd (upd (upd (upd (upd v 0 (v2 0)) 1 (v2 1)) 2 (v2 2)) 3 (v2 3)) 4 (v2 4)) 5 (v2 5)) 6 (v2 6)) 7 (v2 7)) (nS' := (nI sd.length)) (nW' := (nI wy.length)) hL14 cc_c1 7 (by decide) fl_X1_33 rfl rfl rfl dX1_copyFrom_61 (fun G15 hL16 => ?_)
  refine cc_aload_n (j := 0) dX1_copyFrom_64 rfl rfl ?_
  refine cc_aload_n (j := 1) dX1_copyFrom_65 rfl rfl ?_
  refine cc_get (v := .int (v2 8)) (((hL16).1 o (by omega)).trans hO.2.1) cc_c1 8 (by decide) fl_X1_36 rfl dX1_copyFrom_66 ?_
  refine ln_rput (v' := upd (upd (upd (upd (upd (upd (upd (upd (upd v 0 (v2 0)) 1 (v2 1)) 2 (v2 2)) 3 (v2 3)) 4 (v2 4)) 5 (v2 5)) 6 (v2 6)) 7 (v2 7)) 8 (v2 8)) (nS' := (nI sd.length)) (nW' := (nI wy.length)) hL16 cc_c1 8 (by decide) fl_X1_36 rfl rfl rfl dX1_copyFrom_69 (fun G17 hL18 => ?_)
  refine cc_aload_n (j := 0) dX1_copyFrom_72 rfl rfl ?_
  refine cc_aload_n (j := 1) dX1_copyFrom_73 rfl rfl ?_
  refine cc_get (v := .int (nI sd2.length)) (((hL18).1 o (by omega)).trans hO.2.1) cc_c1 10 (by decide) fl_X1_43 rfl dX1_copyFrom_74 ?_
  refine ln_rput (v' := upd (upd (upd (upd (upd (upd (upd (upd (upd v 0 (v2 0)) 1 (v2 1)) 2 (v2 2)) 3 (v2 3)) 4 (v2 4)) 5 (v2 5)) 6 (v2 6)) 7 (v2 7)) 8 (v2 8)) (nS' := (nI sd2.length)) (nW' := (nI wy.length)) hL18 cc_c1 10 (by decide) fl_X1_43 rfl rfl rfl dX1_copyFrom_77 (fun G19 hL20 => ?_)
  refine cc_aload_n (j := 0) dX1_copyFrom_80 rfl rfl ?_
  refine cc_aload_n (j := 1) dX1_copyFrom_81 rfl rfl ?_
  refine cc_get (v := .int (nI wy2.length)) (((hL20).1 o (by omega)).trans hO.2.1) cc_c1 12 (by decide) fl_X1_49 rfl dX1_copyFrom_82 ?_
  refine ln_rput (v' := upd (upd (upd (upd (upd (upd (upd (upd (upd v 0 (v2 0)) 1 (v2 1)) 2 (v2 2)) 3 (v2 3)) 4 (v2 4)) 5 (v2 5)) 6 (v2 6)) 7 (v2 7)) 8 (v2 8)) (nS' := (nI sd2.length)) (nW' := (nI wy2.length)) hL20 cc_c1 12 (by decide) fl_X1_49 rfl rfl rfl dX1_copyFrom_85 (fun G21 hL22 => ?_)
  refine cc_aload_n (j := 1) dX1_copyFrom_88 rfl rfl ?_
  refine cc_get (v := .ref (o + 1)) (((hL22).1 o (by omega)).trans hO.2.1) cc_c1 9 (by decide) fl_X1_39 rfl dX1_copyFrom_89 ?_
  refine cc_iconst (v := 0) dX1_copyFrom_92 (by decide) ?_
  refine cc_aload_n (j := 0) dX1_copyFrom_93 rfl rfl ?_
  refine cc_get (v := .ref (a + 1)) hL22.2.1 cc_c1 9 (by decide) fl_X1_39 rfl dX1_copyFrom_94 ?_
  refine cc_iconst (v := 0) dX1_copyFrom_97 (by decide) ?_
  refine cc_bipush (v := 8) dX1_copyFrom_98 (by decide) ?_
  refine cc_copy (k0 := 8) ml_X1_52 (((hL22).1 _ (by omega)).trans hO.2.2.1) hL22.2.2.1 (by omega) rfl (by decide) (by decide) (by decide) (by decide +kernel) dX1_copyFrom_100 ?_
  have hL24 := ln_upS hL22 (va_cpy f2 f 0 0 8)
  generalize va_up _ _ _ = G23 at hL24 ⊢
  refine cc_aload_n (j := 1) dX1_copyFrom_103 rfl rfl ?_
  refine cc_get (v := .ref (o + 2)) (((hL24).1 o (by omega)).trans hO.2.1) cc_c1 11 (by decide) fl_X1_46 rfl dX1_copyFrom_104 ?_
  refine cc_iconst (v := 0) dX1_copyFrom_107 (by decide) ?_
  refine cc_aload_n (j := 0) dX1_copyFrom_108 rfl rfl ?_
  refine cc_get (v := .ref (a + 2)) hL24.2.1 cc_c1 11 (by decide) fl_X1_46 rfl dX1_copyFrom_109 ?_
  refine cc_iconst (v := 0) dX1_copyFrom_112 (by decide) ?_
  refine cc_bipush (v := 6) dX1_copyFrom_113 (by decide) ?_
  refine cc_copy (k0 := 6) ml_X1_52 (((hL24).1 _ (by omega)).trans hO.2.2.2) hL24.2.2.2 (by omega) rfl (by decide) (by decide) (by decide) (by decide +kernel) dX1_copyFrom_115 ?_
  have hL26 := ln_upW hL24 (va_cpy g2 g 0 0 6)
  generalize va_up _ _ _ = G25 at hL26 ⊢
  refine cc_vret rfl dX1_copyFrom_118 ?_
  refine ⟨rfl, _, _, ln_same hL26 (fun k hk => ?_), hf2.eq (fun k hk => pk_cpy_in (by omega) (by omega) |>.trans (by rw [show 0 + (k - 0) = k by omega])), hg2.eq (fun k hk => pk_cpy_in (by omega) (by omega) |>.trans (by rw [show 0 + (k - 0) = k by omega])), h82, h62⟩
  match k, hk with
  | 0, _ => rfl
  | 1, _ => rfl
  | 2, _ => rfl
  | 3, _ => rfl
  | 4, _ => rfl
  | 5, _ => rfl
  | 6, _ => rfl
  | 7, _ => rfl
  | 8, _ => rfl
end
section
/-! a queue: its packets (number, output, tick), how long it was blocked, how many it sent; and whether it has sent in this tick -/
def qu_fs (a : Nat) (sz bl se hs : Int32) : List Value := [.ref (a + 1), .ref (a + 2), .ref (a + 3), .int sz, .int bl, .int se, .int hs]
def qu_R (cy : Nat → ClassId) (G0 G : cc_G) (a : Nat) (n1 n2 n3 : Nat → Int32) (sz bl se hs : Int32) : Prop :=
  (∀ q : Nat, (q < a ∨ a + 4 ≤ q) → G q = G0 q) ∧ G a = some (.inr (2, qu_fs a sz bl se hs)) ∧ G (a + 1) = some (.inl (cy 1, 8, .inl n1)) ∧ G (a + 2) = some (.inl (cy 1, 8, .inl n2)) ∧ G (a + 3) = some (.inl (cy 1, 8, .inl n3))
abbrev Pk_ : Type := Int32 × Int32 × Int32
abbrev Qu_ : Type := Int32 × Int32 × List Pk_
def qu_A (n1 n2 n3 : Nat → Int32) (l : List Pk_) : Prop := ar_ n1 (l.map (fun p => p.1)) ∧ ar_ n2 (l.map (fun p => p.2.1)) ∧ ar_ n3 (l.map (fun p => p.2.2))
def qu_I (cy : Nat → ClassId) (G0 G : cc_G) (a : Nat) (hs : Int32) (q : Qu_) : Prop := ∃ n1 n2 n3, qu_R cy G0 G a n1 n2 n3 (nI q.2.2.length) q.1 q.2.1 hs ∧ qu_A n1 n2 n3 q.2.2 ∧ q.2.2.length ≤ 8
theorem qu_R.self {cy : Nat → ClassId} {G0 G : cc_G} {a : Nat} {n1 n2 n3 : Nat → Int32} {sz bl se hs : Int32} (h : qu_R cy G0 G a n1 n2 n3 sz bl se hs) : qu_R cy G G a n1 n2 n3 sz bl se hs := ⟨fun _ _ => rfl, h.2⟩
theorem qu_R.tr {cy : Nat → ClassId} {G0 G1 G2 : cc_G} {a : Nat} {n1 n2 n3 m1 m2 m3 : Nat → Int32} {sz bl se hs sz' bl' se' hs' : Int32} (h : qu_R cy G0 G1 a n1 n2 n3 sz bl se hs) (h2 : qu_R cy G1 G2 a m1 m2 m3 sz' bl' se' hs') : qu_R cy G0 G2 a m1 m2 m3 sz' bl' se' hs' := ⟨fun q hq => (h2.1 q hq).trans (h.1 q hq), h2.2⟩
theorem qu_I.self {cy : Nat → ClassId} {G0 G : cc_G} {a : Nat} {hs : Int32} {q : Qu_} (h : qu_I cy G0 G a hs q) : qu_I cy G G a hs q := by
  obtain ⟨n1, n2, n3, h1, h2⟩ := h
  exact ⟨n1, n2, n3, h1.self, h2⟩
theorem qu_I.tr {cy : Nat → ClassId} {G0 G1 G2 : cc_G} {a : Nat} {hs hs' : Int32} {q q' : Qu_} (h : qu_I cy G0 G1 a hs q) (h2 : qu_I cy G1 G2 a hs' q') : qu_I cy G0 G2 a hs' q' := by
  obtain ⟨_, _, _, h1, -⟩ := h
  obtain ⟨n1, n2, n3, h3, h4⟩ := h2
  exact ⟨n1, n2, n3, h1.tr h3, h4⟩
section QUR
variable {cy : Nat → ClassId} {Y : cc_Y} {z pc : Nat} {ls : List (Nat × Value)} {st : List Value} {G0 G : cc_G} {Q : Option Value → cc_G → Prop} {a idx : Nat} {n1 n2 n3 : Nat → Int32} {sz bl se hs sz' bl' se' hs' x : Int32}
theorem qu_rput (hL : qu_R cy G0 G a n1 n2 n3 sz bl se hs) (hcl : cc_Cl 2 Y.1.cls TX2 7 tyX2) (k0 : Nat) (hk0 : k0 < 7) (hln : Cond.fieldLink Y.1.cls idx (TX2 k0).1 (TX2 k0).2.1 (TX2 k0).2.2.1 ∈ cc_GT) (hfin : (TX2 k0).2.2.2 = false) {ty : FieldType} (hdt : parseFieldDescriptor (TX2 k0).2.2.1 = some ty) (hn : narrow ty (.int x) = .int x) (hfit : fits ty (.int x) = true) (hset : (qu_fs a sz bl se hs).set k0 (.int x) = qu_fs a sz' bl' se' hs') (hd : decode Y.2.1 pc = .ok (.putfield idx, 3)) (k : ∀ G1, qu_R cy G0 G1 a n1 n2 n3 sz' bl' se' hs' → cc_R cy Y z (pc + 3) ls st G1 Q) : cc_R cy Y z pc ls (.int x :: .ref a :: st) G Q := by
  refine cc_put hL.2.1 hcl k0 hk0 hln hfin hdt hn hfit hk0 hd ?_
  rw [hset]
  exact k _ ⟨fun q hq => by rw [va_up_ne _ _ (by omega)]; exact hL.1 q hq, va_up_self _ _ _, by rw [va_up_ne _ _ (by omega)]; exact hL.2.2.1, by rw [va_up_ne _ _ (by omega)]; exact hL.2.2.2.1, by rw [va_up_ne _ _ (by omega)]; exact hL.2.2.2.2⟩
theorem qu_rputN {host : String} (hL : qu_R cy G0 G a n1 n2 n3 sz bl se hs) (k0 : Nat) (hk0 : k0 < 7) (hln : Cond.fieldLinkNest Y.1.cls idx (TX2 k0).1 (TX2 k0).2.1 (TX2 k0).2.2.1 host ∈ cc_NT) (hfin : (TX2 k0).2.2.2 = false) {ty : FieldType} (hdt : parseFieldDescriptor (TX2 k0).2.2.1 = some ty) (hn : narrow ty (.int x) = .int x) (hfit : fits ty (.int x) = true) (hset : (qu_fs a sz bl se hs).set k0 (.int x) = qu_fs a sz' bl' se' hs') (hd : decode Y.2.1 pc = .ok (.putfield idx, 3)) (k : ∀ G1, qu_R cy G0 G1 a n1 n2 n3 sz' bl' se' hs' → cc_R cy Y z (pc + 3) ls st G1 Q) : cc_R cy Y z pc ls (.int x :: .ref a :: st) G Q := by
  refine cc_putN hL.2.1 cc_c2 k0 hk0 hln hfin hdt hn hfit hk0 hd ?_
  rw [hset]
  exact k _ ⟨fun q hq => by rw [va_up_ne _ _ (by omega)]; exact hL.1 q hq, va_up_self _ _ _, by rw [va_up_ne _ _ (by omega)]; exact hL.2.2.1, by rw [va_up_ne _ _ (by omega)]; exact hL.2.2.2.1, by rw [va_up_ne _ _ (by omega)]; exact hL.2.2.2.2⟩
theorem qu_rast1 {i : Int32} {j : Nat} (hL : qu_R cy G0 G a n1 n2 n3 sz bl se hs) (hin : vp_in i 8) (hj : i.toNatClampNeg = j) (hd : decode Y.2.1 pc = .ok (.iastore, 1)) (k : ∀ G1, qu_R cy G0 G1 a (upd n1 j x) n2 n3 sz bl se hs → cc_R cy Y z (pc + 1) ls st G1 Q) : cc_R cy Y z pc ls (.int x :: .int i :: .ref (a + 1) :: st) G Q := by
  refine cc_iast hL.2.2.1 hin hj hd ?_
  exact k _ ⟨fun q hq => by rw [va_up_ne _ _ (by omega)]; exact hL.1 q hq, by rw [va_up_ne _ _ (by omega)]; exact hL.2.1, va_up_self _ _ _, by rw [va_up_ne _ _ (by omega)]; exact hL.2.2.2.1, by rw [va_up_ne _ _ (by omega)]; exact hL.2.2.2.2⟩
theorem qu_rast2 {i : Int32} {j : Nat} (hL : qu_R cy G0 G a n1 n2 n3 sz bl se hs) (hin : vp_in i 8) (hj : i.toNatClampNeg = j) (hd : decode Y.2.1 pc = .ok (.iastore, 1)) (k : ∀ G1, qu_R cy G0 G1 a n1 (upd n2 j x) n3 sz bl se hs → cc_R cy Y z (pc + 1) ls st G1 Q) : cc_R cy Y z pc ls (.int x :: .int i :: .ref (a + 2) :: st) G Q := by
  refine cc_iast hL.2.2.2.1 hin hj hd ?_
  exact k _ ⟨fun q hq => by rw [va_up_ne _ _ (by omega)]; exact hL.1 q hq, by rw [va_up_ne _ _ (by omega)]; exact hL.2.1, by rw [va_up_ne _ _ (by omega)]; exact hL.2.2.1, va_up_self _ _ _, by rw [va_up_ne _ _ (by omega)]; exact hL.2.2.2.2⟩
theorem qu_rast3 {i : Int32} {j : Nat} (hL : qu_R cy G0 G a n1 n2 n3 sz bl se hs) (hin : vp_in i 8) (hj : i.toNatClampNeg = j) (hd : decode Y.2.1 pc = .ok (.iastore, 1)) (k : ∀ G1, qu_R cy G0 G1 a n1 n2 (upd n3 j x) sz bl se hs → cc_R cy Y z (pc + 1) ls st G1 Q) : cc_R cy Y z pc ls (.int x :: .int i :: .ref (a + 3) :: st) G Q := by
  refine cc_iast hL.2.2.2.2 hin hj hd ?_
  exact k _ ⟨fun q hq => by rw [va_up_ne _ _ (by omega)]; exact hL.1 q hq, by rw [va_up_ne _ _ (by omega)]; exact hL.2.1, by rw [va_up_ne _ _ (by omega)]; exact hL.2.2.1, by rw [va_up_ne _ _ (by omega)]; exact hL.2.2.2.1, va_up_self _ _ _⟩
end QUR
theorem qu_up1 {cy : Nat → ClassId} {G0 G : cc_G} {a : Nat} {n1 n2 n3 : Nat → Int32} {sz bl se hs : Int32} (hL : qu_R cy G0 G a n1 n2 n3 sz bl se hs) (n' : Nat → Int32) : qu_R cy G0 (va_up G (a + 1) (some (.inl (cy 1, 8, .inl n')))) a n' n2 n3 sz bl se hs :=
  ⟨fun q hq => by rw [va_up_ne _ _ (by omega)]; exact hL.1 q hq, by rw [va_up_ne _ _ (by omega)]; exact hL.2.1, va_up_self _ _ _, by rw [va_up_ne _ _ (by omega)]; exact hL.2.2.2.1, by rw [va_up_ne _ _ (by omega)]; exact hL.2.2.2.2⟩
theorem qu_up2 {cy : Nat → ClassId} {G0 G : cc_G} {a : Nat} {n1 n2 n3 : Nat → Int32} {sz bl se hs : Int32} (hL : qu_R cy G0 G a n1 n2 n3 sz bl se hs) (n' : Nat → Int32) : qu_R cy G0 (va_up G (a + 2) (some (.inl (cy 1, 8, .inl n')))) a n1 n' n3 sz bl se hs :=
  ⟨fun q hq => by rw [va_up_ne _ _ (by omega)]; exact hL.1 q hq, by rw [va_up_ne _ _ (by omega)]; exact hL.2.1, by rw [va_up_ne _ _ (by omega)]; exact hL.2.2.1, va_up_self _ _ _, by rw [va_up_ne _ _ (by omega)]; exact hL.2.2.2.2⟩
theorem qu_up3 {cy : Nat → ClassId} {G0 G : cc_G} {a : Nat} {n1 n2 n3 : Nat → Int32} {sz bl se hs : Int32} (hL : qu_R cy G0 G a n1 n2 n3 sz bl se hs) (n' : Nat → Int32) : qu_R cy G0 (va_up G (a + 3) (some (.inl (cy 1, 8, .inl n')))) a n1 n2 n' sz bl se hs :=
  ⟨fun q hq => by rw [va_up_ne _ _ (by omega)]; exact hL.1 q hq, by rw [va_up_ne _ _ (by omega)]; exact hL.2.1, by rw [va_up_ne _ _ (by omega)]; exact hL.2.2.1, by rw [va_up_ne _ _ (by omega)]; exact hL.2.2.2.1, va_up_self _ _ _⟩
/-- the place of the first packet for an output (how many there are, if none is) -/
def Q_pos (o : Int32) : List Pk_ → Nat
  | [] => 0
  | p :: r => if p.2.1 = o then 0 else Q_pos o r + 1
theorem Q_pos_hit {o : Int32} : ∀ {l : List Pk_} {i : Nat}, (∀ j, j < i → (l.getD j (0, 0, 0)).2.1 ≠ o) → i < l.length → (l.getD i (0, 0, 0)).2.1 = o → Q_pos o l = i
  | [], i, _, h, _ => absurd h (by simp)
  | p :: r, 0, _, _, h => by simp at h; simp [Q_pos, h]
  | p :: r, i + 1, h0, h1, h => by
    have hp : p.2.1 ≠ o := by simpa using h0 0 (by omega)
    rw [Q_pos, if_neg hp, Q_pos_hit (l := r) (i := i) (fun j hj => by simpa using h0 (j + 1) (by omega)) (by simpa using h1) (by simpa using h)]
theorem Q_pos_no {o : Int32} : ∀ {l : List Pk_}, (∀ j, j < l.length → (l.getD j (0, 0, 0)).2.1 ≠ o) → Q_pos o l = l.length
  | [], _ => rfl
  | p :: r, h0 => by
    have hp : p.2.1 ≠ o := by simpa using h0 0 (by simp)
    rw [Q_pos, if_neg hp, Q_pos_no (l := r) (fun j hj => by simpa using h0 (j + 1) (by simpa using hj))]
    rfl
def Q_rch (m : Int32) (l : List Pk_) : List Pk_ := if m = 0 then l.take 1 else l
/-- the place of the packet that a queue offers for an output in a mode -/
def Q_off (o m : Int32) (l : List Pk_) : Option Nat := if Q_pos o (Q_rch m l) < (Q_rch m l).length then some (Q_pos o (Q_rch m l)) else none
def Q_cn (o : Int32) (l : List Pk_) : Nat → Nat
  | 0 => 0
  | i + 1 => Q_cn o l i + if (l.getD i (0, 0, 0)).2.1 = o then 1 else 0
theorem Q_cn_no {o : Int32} {l : List Pk_} {i : Nat} (h : ¬ (l.getD i (0, 0, 0)).2.1 = o) : Q_cn o l (i + 1) = Q_cn o l i := by
  show Q_cn o l i + _ = _
  rw [if_neg h, Nat.add_zero]
theorem Q_cn_yes {o : Int32} {l : List Pk_} {i : Nat} (h : (l.getD i (0, 0, 0)).2.1 = o) : Q_cn o l (i + 1) = Q_cn o l i + 1 := by
  show Q_cn o l i + _ = _
  rw [if_pos h]
theorem Q_cn_le (o : Int32) (l : List Pk_) (i : Nat) : Q_cn o l i ≤ i := by
  induction i with
  | zero => exact Nat.le_refl 0
  | succ i ih =>
    unfold Q_cn
    split <;> omega
theorem Q_off_lt {o m : Int32} {l : List Pk_} {k : Nat} (h : Q_off o m l = some k) : k < l.length ∧ (l.getD k (0, 0, 0)).2.1 = o := by
  have pos : ∀ (r : List Pk_), Q_pos o r < r.length → (r.getD (Q_pos o r) (0, 0, 0)).2.1 = o := by
    intro r
    induction r with
    | nil => intro h; exact absurd h (by simp [Q_pos])
    | cons p r ih =>
      intro h
      by_cases hp : p.2.1 = o
      · simp [Q_pos, hp]
      · rw [Q_pos, if_neg hp] at h ⊢
        simpa using ih (by simpa using h)
  unfold Q_off at h
  split at h
  next hlt =>
    cases h
    have h2 := pos _ hlt
    unfold Q_rch at hlt h2 ⊢
    split at hlt
    next hm =>
      rw [if_pos hm] at h2 ⊢
      cases l with
      | nil => exact absurd hlt (by simp)
      | cons p r =>
        simp only [List.take_succ_cons, List.take_zero, List.length_cons, List.length_nil] at hlt h2 ⊢
        have hz : Q_pos o [p] = 0 := by omega
        rw [hz] at h2 ⊢
        exact ⟨by simp, by simpa using h2⟩
    next hm =>
      rw [if_neg hm] at h2 ⊢
      exact ⟨hlt, h2⟩
  next => cases h
theorem qu_at {n1 n2 n3 : Nat → Int32} {l : List Pk_} (h : qu_A n1 n2 n3 l) {k : Nat} (hk : k < l.length) : n1 k = (l.getD k (0, 0, 0)).1 ∧ n2 k = (l.getD k (0, 0, 0)).2.1 ∧ n3 k = (l.getD k (0, 0, 0)).2.2 := by
  have e : l.getD k (0, 0, 0) = l[k] := by rw [List.getD_eq_getElem?_getD, List.getElem?_eq_getElem hk]; rfl
  rw [e]
  refine ⟨?_, ?_, ?_⟩
  · rw [h.1 k (by simpa using hk)]; simp
  · rw [h.2.1 k (by simpa using hk)]; simp
  · rw [h.2.2 k (by simpa using hk)]; simp
theorem qu_A.push {n1 n2 n3 : Nat → Int32} {l : List Pk_} (h : qu_A n1 n2 n3 l) (p : Pk_) : qu_A (upd n1 l.length p.1) (upd n2 l.length p.2.1) (upd n3 l.length p.2.2) (l ++ [p]) := by
  refine ⟨?_, ?_, ?_⟩
  · rw [List.map_append]; simpa using h.1.push p.1
  · rw [List.map_append]; simpa using h.2.1.push p.2.1
  · rw [List.map_append]; simpa using h.2.2.push p.2.2
theorem ar_erase {f f' : Nat → Int32} {l : List Int32} {r : Nat} (h : ar_ f l) (h1 : ∀ j, j < r → f' j = f j) (h2 : ∀ j, r ≤ j → j + 1 < l.length → f' j = f (j + 1)) : ar_ f' (l.eraseIdx r) := by
  intro k hk
  rw [List.getElem_eraseIdx]
  rw [List.length_eraseIdx] at hk
  split
  next hq => rw [h1 k hq, h k (by split at hk <;> omega)]
  next hq =>
    split at hk
    next hr => rw [h2 k (by omega) (by omega), h (k + 1) (by omega)]
    next hr => omega
theorem cc_erase_map {α β : Type} (f : α → β) : ∀ (l : List α) (r : Nat), (l.eraseIdx r).map f = (l.map f).eraseIdx r
  | [], r => by simp
  | x :: l, 0 => by simp
  | x :: l, r + 1 => by simp [cc_erase_map f l r]
theorem qu_A.erase {n1 n2 n3 m1 m2 m3 : Nat → Int32} {l : List Pk_} {r : Nat} (h : qu_A n1 n2 n3 l) (h1 : ∀ j, j < r → m1 j = n1 j ∧ m2 j = n2 j ∧ m3 j = n3 j) (h2 : ∀ j, r ≤ j → j + 1 < l.length → m1 j = n1 (j + 1) ∧ m2 j = n2 (j + 1) ∧ m3 j = n3 (j + 1)) : qu_A m1 m2 m3 (l.eraseIdx r) := by
  refine ⟨?_, ?_, ?_⟩
  · rw [cc_erase_map]; exact ar_erase h.1 (fun j hj => (h1 j hj).1) (fun j hj hj2 => (h2 j hj (by simpa using hj2)).1)
  · rw [cc_erase_map]; exact ar_erase h.2.1 (fun j hj => (h1 j hj).2.1) (fun j hj hj2 => (h2 j hj (by simpa using hj2)).2.1)
  · rw [cc_erase_map]; exact ar_erase h.2.2 (fun j hj => (h1 j hj).2.2) (fun j hj hj2 => (h2 j hj (by simpa using hj2)).2.2)
end
section
theorem cc_inl {x n : Int32} {N : Nat} (h0 : ¬ x < 0) (h1 : x < n) (h2 : n ≤ nI N) (hN : N < 2 ^ 31 := by decide) : vp_in x N := by
  refine vp_in_iff.mpr ⟨?_, ?_⟩
  · have := Int32.le_iff_toInt_le.mp (Int32.not_lt.mp h0)
    simpa using this
  · have h3 := Int32.lt_iff_toInt_lt.mp h1
    have h4 := Int32.le_iff_toInt_le.mp h2
    rw [nI_toInt hN] at h4
    omega
set_option maxHeartbeats 4000000 in
set_option maxRecDepth 100000 in
theorem ct_X2_isFull (cy : Nat → ClassId) (z : Nat) (G : cc_G) (a : Nat) (n1 n2 n3 : Nat → Int32) (sz bl se hs : Int32)  (hL : qu_R cy G G a n1 n2 n3 sz bl se hs) : cc_Cn cy Y_X2_isFull [.ref a] z G (cc_qi (fun r G' => r = (if sz < 8 then 0 else 1) ∧ G' = G)) := by
  
  refine cc_enter ok_X2_isFull (Nat.le_of_ble_eq_true rfl) (ls := [(0, .ref a)]) rfl ?_
  refine cc_aload_n (j := 0) dX2_isFull_0 rfl rfl ?_
  refine cc_get (v := .int sz) hL.2.1 cc_c2 3 (by decide) fl_X2_21 rfl dX2_isFull_1 ?_
  refine cc_bipush (v := 8) dX2_isFull_4 (by decide) ?_
  refine cc_icmp_lt (tgt := 13) dX2_isFull_6 (by decide) (fun c_6 => ?_) (fun c_6 => ?_)
  · refine cc_iconst (v := 0) dX2_isFull_13 (by decide) ?_
    refine cc_iret rfl rfl dX2_isFull_14 ?_
    exact ⟨_, rfl, (if_pos c_6).symm, rfl⟩
  · refine cc_iconst (v := 1) dX2_isFull_9 (by decide) ?_
    refine cc_goto (tgt := 14) dX2_isFull_10 (by decide) ?_
    refine cc_iret rfl rfl dX2_isFull_14 ?_
    exact ⟨_, rfl, (if_neg c_6).symm, rfl⟩

set_option maxHeartbeats 4000000 in
set_option maxRecDepth 100000 in
theorem ct_X2_append (cy : Nat → ClassId) (z : Nat) (G : cc_G) (a : Nat) (bl se hs : Int32) (l : List Pk_) (x1 x2 x3 : Int32) (hlt : l.length < 8) (hI : qu_I cy G G a hs (bl, se, l)) : cc_Cn cy Y_X2_append [.ref a, .int x1, .int x2, .int x3] z G (cc_qv (fun G' => qu_I cy G G' a hs (bl, se, l ++ [(x1, x2, x3)]))) := by
  obtain ⟨n1, n2, n3, hL, hA, h8⟩ := hI
  have hL : qu_R cy G G a n1 n2 n3 (nI l.length) bl se hs := hL
  have hA : qu_A n1 n2 n3 l := hA
  have h8 : l.length ≤ 8 := h8
  refine cc_enter ok_X2_append (Nat.le_of_ble_eq_true rfl) (ls := [(0, .ref a), (1, .int x1), (2, .int x2), (3, .int x3)]) rfl ?_
  refine cc_aload_n (j := 0) dX2_append_0 rfl rfl ?_
  refine cc_callVi (As := []) (rest := []) (ct_X2_isFull cy z _ a _ _ _ _ _ _ _ hL.self) ok_X2_isFull (hL.2.1) rfl im_X2_isFull sl_X2_isFull ml_X2_41 nd_X2_isFull (by decide +kernel) (Nat.le_of_ble_eq_true rfl) rfl dX2_append_1 (fun r2 G1 q3 => ?_)
  obtain ⟨rfl, rfl⟩ := q3
  rw [if_pos (show nI l.length < 8 from nI_lt (b := 8) hlt (by decide))]
  refine cc_if_eq (tgt := 8) dX2_append_4 (by decide) (fun c_4 => ?_) (fun c_4 => ?_)
  · refine cc_aload_n (j := 0) dX2_append_8 rfl rfl ?_
    refine cc_get (v := .ref (a + 1)) hL.2.1 cc_c2 0 (by decide) fl_X2_9 rfl dX2_append_9 ?_
    refine cc_aload_n (j := 0) dX2_append_12 rfl rfl ?_
    refine cc_get (v := .int (nI l.length)) hL.2.1 cc_c2 3 (by decide) fl_X2_21 rfl dX2_append_13 ?_
    refine cc_iload_n (j := 1) dX2_append_16 rfl rfl ?_
    refine qu_rast1 (j := l.length) hL (vp_in_nI (n := l.length) (by omega) (by decide)) (nI_clamp (by omega)) dX2_append_17 (fun G4 hL5 => ?_)
    refine cc_aload_n (j := 0) dX2_append_18 rfl rfl ?_
    refine cc_get (v := .ref (a + 2)) hL5.2.1 cc_c2 1 (by decide) fl_X2_15 rfl dX2_append_19 ?_
    refine cc_aload_n (j := 0) dX2_append_22 rfl rfl ?_
    refine cc_get (v := .int (nI l.length)) hL5.2.1 cc_c2 3 (by decide) fl_X2_21 rfl dX2_append_23 ?_
    refine cc_iload_n (j := 2) dX2_append_26 rfl rfl ?_
    refine qu_rast2 (j := l.length) hL5 (vp_in_nI (n := l.length) (by omega) (by decide)) (nI_clamp (by omega)) dX2_append_27 (fun G6 hL7 => ?_)
    refine cc_aload_n (j := 0) dX2_append_28 rfl rfl ?_
    refine cc_get (v := .ref (a + 3)) hL7.2.1 cc_c2 2 (by decide) fl_X2_18 rfl dX2_append_29 ?_
    refine cc_aload_n (j := 0) dX2_append_32 rfl rfl ?_
    refine cc_get (v := .int (nI l.length)) hL7.2.1 cc_c2 3 (by decide) fl_X2_21 rfl dX2_append_33 ?_
    refine cc_iload_n (j := 3) dX2_append_36 rfl rfl ?_
    refine qu_rast3 (j := l.length) hL7 (vp_in_nI (n := l.length) (by omega) (by decide)) (nI_clamp (by omega)) dX2_append_37 (fun G8 hL9 => ?_)
    refine cc_aload_n (j := 0) dX2_append_38 rfl rfl ?_
    refine cc_dup dX2_append_39 rfl ?_
    refine cc_get (v := .int (nI l.length)) hL9.2.1 cc_c2 3 (by decide) fl_X2_21 rfl dX2_append_40 ?_
    refine cc_iconst (v := 1) dX2_append_43 (by decide) ?_
    refine cc_iadd dX2_append_44 ?_
    rw [show (nI l.length) + 1 = nI (l ++ [(x1, x2, x3)]).length from (by rw [List.length_append]; exact nI_1 _)]
    refine qu_rput (sz' := (nI (l ++ [(x1, x2, x3)]).length)) (bl' := bl) (se' := se) (hs' := hs) hL9 cc_c2 3 (by decide) fl_X2_21 rfl rfl rfl rfl rfl dX2_append_45 (fun G10 hL11 => ?_)
    refine cc_vret rfl dX2_append_48 ?_
    exact ⟨rfl, _, _, _, hL11, hA.push (x1, x2, x3), by simp; omega⟩
  · exact absurd c_4 (by decide)

set_option maxHeartbeats 4000000 in
set_option maxRecDepth 100000 in
theorem ct_X2_offerFor (cy : Nat → ClassId) (z : Nat) (G : cc_G) (a : Nat) (bl se hs : Int32) (l : List Pk_) (x1 x2 : Int32) (h0s : hs = 0) (hI : qu_I cy G G a hs (bl, se, l)) : cc_Cn cy Y_X2_offerFor [.ref a, .int x1, .int x2] z G (cc_qi (fun r G' => r = (match Q_off x1 x2 l with | some k => nI k | none => (-1)) ∧ G' = G)) := by
  obtain ⟨n1, n2, n3, hL, hA, h8⟩ := hI
  have hL : qu_R cy G G a n1 n2 n3 (nI l.length) bl se hs := hL
  have hA : qu_A n1 n2 n3 l := hA
  have h8 : l.length ≤ 8 := h8
  have hrl : (Q_rch x2 l).length ≤ l.length ∧ ∀ j, j < (Q_rch x2 l).length → (Q_rch x2 l).getD j (0, 0, 0) = l.getD j (0, 0, 0) := by
    unfold Q_rch
    split
    · cases l with
      | nil => exact ⟨Nat.le_refl _, fun j hj => rfl⟩
      | cons p r => exact ⟨by simp, fun j hj => by simp at hj; subst hj; simp⟩
    · exact ⟨Nat.le_refl _, fun j hj => rfl⟩
  have loop_32 : ∀ (n i : Nat), (Q_rch x2 l).length < i + n → i ≤ (Q_rch x2 l).length → (∀ j, j < i → ((Q_rch x2 l).getD j (0, 0, 0)).2.1 ≠ x1) → cc_R cy Y_X2_offerFor z 32 [(4, .int (nI i)), (3, .int (nI (Q_rch x2 l).length)), (0, .ref a), (1, .int x1), (2, .int x2)] [] G (cc_qi (fun r G' => r = (match Q_off x1 x2 l with | some k => nI k | none => (-1)) ∧ G' = G)) := by
    intro n
    induction n with
    | zero => intro i h1 h2; exact absurd h1 (by omega)
    | succ n ih =>
      intro i hn hi h0
      refine cc_iload (j := 0) dX2_offerFor_32 rfl ?_
      refine cc_iload_n (j := 1) dX2_offerFor_34 rfl rfl ?_
      refine cc_icmp_ge (tgt := 58) dX2_offerFor_35 (by decide) (fun c_35 => ?_) (fun c_35 => ?_)
      · have hge : (Q_rch x2 l).length ≤ i := (nI_leI (by omega) (by omega)).mp c_35
        refine cc_iconst (v := (-1)) dX2_offerFor_58 (by decide) ?_
        refine cc_iret rfl rfl dX2_offerFor_59 ?_
        refine ⟨_, rfl, ?_, rfl⟩
        have hh : Q_pos x1 (Q_rch x2 l) = (Q_rch x2 l).length := Q_pos_no (fun j hj => h0 j (by omega))
        have ho : Q_off x1 x2 l = none := by unfold Q_off; rw [hh, if_neg (Nat.lt_irrefl _)]
        rw [ho]
      · have hlt : i < (Q_rch x2 l).length := by
          rcases Nat.lt_or_ge i (Q_rch x2 l).length with q | q
          · exact q
          · exact absurd (nI_le q (by omega)) c_35
        refine cc_aload_n (j := 2) dX2_offerFor_38 rfl rfl ?_
        refine cc_get (v := .ref (a + 2)) hL.2.1 cc_c2 1 (by decide) fl_X2_15 rfl dX2_offerFor_39 ?_
        refine cc_iload (j := 0) dX2_offerFor_42 rfl ?_
        refine cc_iald (x := n2 i) hL.2.2.2.1 (vp_in_nI (n := i) (by omega) (by decide)) (by rw [(nI_clamp (by omega))]) dX2_offerFor_44 ?_
        refine cc_iload_n (j := 3) dX2_offerFor_45 rfl rfl ?_
        refine cc_icmp_ne (tgt := 52) dX2_offerFor_46 (by decide) (fun c_46 => ?_) (fun c_46 => ?_)
        · refine cc_iinc (j := 0) (v := nI (i + 1)) (ls' := [(4, .int (nI (i + 1))), (3, .int (nI (Q_rch x2 l).length)), (0, .ref a), (1, .int x1), (2, .int x2)]) dX2_offerFor_52 rfl (nI_1 i) (Nat.le_of_ble_eq_true rfl) rfl ?_
          refine cc_goto (tgt := 32) dX2_offerFor_55 (by decide) ?_
          exact ih (i + 1) (by omega) (by omega) (fun j hj => by
            by_cases hq : j = i
            · subst hq
              rw [hrl.2 j hlt, ← (qu_at hA (by omega)).2.1]
              simpa using c_46
            · exact h0 j (by omega))
        · refine cc_iload (j := 0) dX2_offerFor_49 rfl ?_
          refine cc_iret rfl rfl dX2_offerFor_51 ?_
          refine ⟨_, rfl, ?_, rfl⟩
          have hh : Q_pos x1 (Q_rch x2 l) = i := Q_pos_hit h0 hlt (by rw [hrl.2 i hlt, ← (qu_at hA (by omega)).2.1]; simpa using c_46)
          have ho : Q_off x1 x2 l = some i := by unfold Q_off; rw [hh, if_pos hlt]
          rw [ho]
  refine cc_enter ok_X2_offerFor (Nat.le_of_ble_eq_true rfl) (ls := [(0, .ref a), (1, .int x1), (2, .int x2)]) rfl ?_
  refine cc_aload_n (j := 0) dX2_offerFor_0 rfl rfl ?_
  refine cc_get (v := .int hs) hL.2.1 cc_c2 6 (by decide) fl_X2_31 rfl dX2_offerFor_1 ?_
  refine cc_if_eq (tgt := 9) dX2_offerFor_4 (by decide) (fun c_4 => ?_) (fun c_4 => ?_)
  · refine cc_iload_n (j := 2) dX2_offerFor_9 rfl rfl ?_
    refine cc_if_ne (tgt := 24) dX2_offerFor_10 (by decide) (fun c_10 => ?_) (fun c_10 => ?_)
    · have hm2 : Q_rch x2 l = l := if_neg (by simpa using c_10)
      refine cc_aload_n (j := 0) dX2_offerFor_24 rfl rfl ?_
      refine cc_get (v := .int (nI l.length)) hL.2.1 cc_c2 3 (by decide) fl_X2_21 rfl dX2_offerFor_25 ?_
      refine cc_istore_n (ls' := [(3, .int (nI l.length)), (0, .ref a), (1, .int x1), (2, .int x2)]) dX2_offerFor_28 rfl (Nat.le_of_ble_eq_true rfl) rfl ?_
      rw [show nI l.length = nI (Q_rch x2 l).length by rw [hm2]]
      refine cc_iconst (v := 0) dX2_offerFor_29 (by decide) ?_
      refine cc_istore (ls' := [(4, .int 0), (3, .int (nI (Q_rch x2 l).length)), (0, .ref a), (1, .int x1), (2, .int x2)]) dX2_offerFor_30 (Nat.le_of_ble_eq_true rfl) rfl ?_
      exact loop_32 ((Q_rch x2 l).length + 1) 0 (by omega) (Nat.zero_le _) (fun j hj => absurd hj (by omega))
    · refine cc_aload_n (j := 0) dX2_offerFor_13 rfl rfl ?_
      refine cc_get (v := .int (nI l.length)) hL.2.1 cc_c2 3 (by decide) fl_X2_21 rfl dX2_offerFor_14 ?_
      refine cc_iconst (v := 1) dX2_offerFor_17 (by decide) ?_
      refine cc_min ml_X2_45 (by decide +kernel) dX2_offerFor_18 ?_
      rw [show (if (1 : Int32) < nI l.length then (1 : Int32) else nI l.length) = nI (Q_rch x2 l).length from by
        have hm : Q_rch x2 l = l.take 1 := if_pos (by simpa using c_10)
        rw [hm]
        cases l with
        | nil => rfl
        | cons p r =>
          simp only [List.take_succ_cons, List.take_zero, List.length_cons, List.length_nil]
          by_cases hq : (1 : Int32) < nI (r.length + 1)
          · rw [if_pos hq]; rfl
          · rw [if_neg hq]
            have : r.length + 1 ≤ 1 := by
              rcases Nat.lt_or_ge 1 (r.length + 1) with e | e
              · exact absurd (nI_lt (a := 1) e (by simp at h8; omega)) hq
              · exact e
            rw [show r.length = 0 by omega]]
      refine cc_goto (tgt := 28) dX2_offerFor_21 (by decide) ?_
      refine cc_istore_n (ls' := [(3, .int (nI (Q_rch x2 l).length)), (0, .ref a), (1, .int x1), (2, .int x2)]) dX2_offerFor_28 rfl (Nat.le_of_ble_eq_true rfl) rfl ?_
      refine cc_iconst (v := 0) dX2_offerFor_29 (by decide) ?_
      refine cc_istore (ls' := [(4, .int 0), (3, .int (nI (Q_rch x2 l).length)), (0, .ref a), (1, .int x1), (2, .int x2)]) dX2_offerFor_30 (Nat.le_of_ble_eq_true rfl) rfl ?_
      exact loop_32 ((Q_rch x2 l).length + 1) 0 (by omega) (Nat.zero_le _) (fun j hj => absurd hj (by omega))
  · exact absurd h0s c_4

theorem ct_X2_offerFor_sent (cy : Nat → ClassId) (z : Nat) (G : cc_G) (a : Nat) (bl se hs : Int32) (l : List Pk_) (x1 x2 : Int32) (h0s : hs = 1) (hI : qu_I cy G G a hs (bl, se, l)) : cc_Cn cy Y_X2_offerFor [.ref a, .int x1, .int x2] z G (cc_qi (fun r G' => r = (-1) ∧ G' = G)) := by
  obtain ⟨n1, n2, n3, hL, hA, h8⟩ := hI
  have hL : qu_R cy G G a n1 n2 n3 (nI l.length) bl se hs := hL
  refine cc_enter ok_X2_offerFor (Nat.le_of_ble_eq_true rfl) (ls := [(0, .ref a), (1, .int x1), (2, .int x2)]) rfl ?_
  refine cc_aload_n (j := 0) dX2_offerFor_0 rfl rfl ?_
  refine cc_get (v := .int hs) hL.2.1 cc_c2 6 (by decide) fl_X2_31 rfl dX2_offerFor_1 ?_
  refine cc_if_eq (tgt := 9) dX2_offerFor_4 (by decide) (fun c_4 => absurd (h0s.symm.trans c_4) (by decide)) (fun c_4 => ?_)
  refine cc_iconst (v := (-1)) dX2_offerFor_7 (by decide) ?_
  refine cc_iret rfl rfl dX2_offerFor_8 ?_
  exact ⟨_, rfl, rfl, rfl⟩

set_option maxHeartbeats 4000000 in
set_option maxRecDepth 100000 in
theorem ct_X2_sendFrom (cy : Nat → ClassId) (z : Nat) (G : cc_G) (a : Nat) (bl se hs : Int32) (l : List Pk_) (r0 : Nat) (hr0 : r0 < l.length) (hI : qu_I cy G G a hs (bl, se, l)) : cc_Cn cy Y_X2_sendFrom [.ref a, .int (nI r0)] z G (cc_qi (fun r G' => r = (l.getD r0 (0, 0, 0)).1 ∧ qu_I cy G G' a 1 (bl, se + 1, l.eraseIdx r0))) := by
  obtain ⟨n1, n2, n3, hL, hA, h8⟩ := hI
  have hL : qu_R cy G G a n1 n2 n3 (nI l.length) bl se hs := hL
  have hA : qu_A n1 n2 n3 l := hA
  have h8 : l.length ≤ 8 := h8
  have loop_11 : ∀ (n i : Nat) (m1 m2 m3 : Nat → Int32) (G1 : cc_G), l.length < i + n → r0 + 1 ≤ i → i ≤ l.length → qu_R cy G G1 a m1 m2 m3 (nI l.length) bl se hs → (∀ j, j < r0 → m1 j = n1 j ∧ m2 j = n2 j ∧ m3 j = n3 j) → (∀ j, r0 ≤ j → j + 1 < i → m1 j = n1 (j + 1) ∧ m2 j = n2 (j + 1) ∧ m3 j = n3 (j + 1)) → (∀ j, i ≤ j + 1 → r0 ≤ j → m1 j = n1 j ∧ m2 j = n2 j ∧ m3 j = n3 j) → cc_R cy Y_X2_sendFrom z 11 [(3, .int (nI i)), (2, .int (n1 r0)), (0, .ref a), (1, .int (nI r0))] [] G1 (cc_qi (fun r G' => r = (l.getD r0 (0, 0, 0)).1 ∧ qu_I cy G G' a 1 (bl, se + 1, l.eraseIdx r0))) := by
    intro n
    induction n with
    | zero => intro i m1 m2 m3 G1 h1 h2 h3; exact absurd h1 (by omega)
    | succ n ih =>
      intro i m1 m2 m3 G1 hn hi1 hi2 hL h1 h2 h3
      refine cc_iload_n (j := 0) dX2_sendFrom_11 rfl rfl ?_
      refine cc_aload_n (j := 2) dX2_sendFrom_12 rfl rfl ?_
      refine cc_get (v := .int (nI l.length)) hL.2.1 cc_c2 3 (by decide) fl_X2_21 rfl dX2_sendFrom_13 ?_
      refine cc_icmp_ge (tgt := 67) dX2_sendFrom_16 (by decide) (fun c_16 => ?_) (fun c_16 => ?_)
      · have hge : l.length ≤ i := (nI_leI (by omega) (by omega)).mp c_16
        refine cc_aload_n (j := 2) dX2_sendFrom_67 rfl rfl ?_
        refine cc_dup dX2_sendFrom_68 rfl ?_
        refine cc_get (v := .int (nI l.length)) hL.2.1 cc_c2 3 (by decide) fl_X2_21 rfl dX2_sendFrom_69 ?_
        refine cc_iconst (v := 1) dX2_sendFrom_72 (by decide) ?_
        refine cc_isub dX2_sendFrom_73 ?_
        rw [show (nI l.length) - 1 = nI (l.eraseIdx r0).length from (by rw [List.length_eraseIdx, if_pos hr0]; exact cc_m1 (by omega))]
        refine qu_rput (sz' := (nI (l.eraseIdx r0).length)) (bl' := bl) (se' := se) (hs' := hs) hL cc_c2 3 (by decide) fl_X2_21 rfl rfl rfl rfl rfl dX2_sendFrom_74 (fun G1 hL2 => ?_)
        refine cc_aload_n (j := 2) dX2_sendFrom_77 rfl rfl ?_
        refine cc_dup dX2_sendFrom_78 rfl ?_
        refine cc_get (v := .int se) hL2.2.1 cc_c2 5 (by decide) fl_X2_28 rfl dX2_sendFrom_79 ?_
        refine cc_iconst (v := 1) dX2_sendFrom_82 (by decide) ?_
        refine cc_iadd dX2_sendFrom_83 ?_
        refine qu_rput (sz' := (nI (l.eraseIdx r0).length)) (bl' := bl) (se' := (se + 1)) (hs' := hs) hL2 cc_c2 5 (by decide) fl_X2_28 rfl rfl rfl rfl rfl dX2_sendFrom_84 (fun G3 hL4 => ?_)
        refine cc_aload_n (j := 2) dX2_sendFrom_87 rfl rfl ?_
        refine cc_iconst (v := 1) dX2_sendFrom_88 (by decide) ?_
        refine qu_rput (sz' := (nI (l.eraseIdx r0).length)) (bl' := bl) (se' := (se + 1)) (hs' := 1) hL4 cc_c2 6 (by decide) fl_X2_31 rfl rfl rfl rfl rfl dX2_sendFrom_89 (fun G5 hL6 => ?_)
        refine cc_iload_n (j := 1) dX2_sendFrom_92 rfl rfl ?_
        refine cc_iret rfl rfl dX2_sendFrom_93 ?_
        exact ⟨_, rfl, (qu_at hA hr0).1, m1, m2, m3, hL6, hA.erase h1 (fun j hj hj2 => h2 j hj (by omega)), by show (l.eraseIdx r0).length ≤ 8; rw [List.length_eraseIdx]; split <;> omega⟩
      · have hlt : i < l.length := by
          rcases Nat.lt_or_ge i l.length with q | q
          · exact q
          · exact absurd (nI_le q (by omega)) c_16
        refine cc_aload_n (j := 2) dX2_sendFrom_19 rfl rfl ?_
        refine cc_get (v := .ref (a + 1)) hL.2.1 cc_c2 0 (by decide) fl_X2_9 rfl dX2_sendFrom_20 ?_
        refine cc_iload_n (j := 0) dX2_sendFrom_23 rfl rfl ?_
        refine cc_iconst (v := 1) dX2_sendFrom_24 (by decide) ?_
        refine cc_isub dX2_sendFrom_25 ?_
        rw [show (nI i) - 1 = nI (i - 1) from cc_m1 (by omega)]
        refine cc_aload_n (j := 2) dX2_sendFrom_26 rfl rfl ?_
        refine cc_get (v := .ref (a + 1)) hL.2.1 cc_c2 0 (by decide) fl_X2_9 rfl dX2_sendFrom_27 ?_
        refine cc_iload_n (j := 0) dX2_sendFrom_30 rfl rfl ?_
        refine cc_iald (x := m1 i) hL.2.2.1 (vp_in_nI (n := i) (by omega) (by decide)) (by rw [(nI_clamp (by omega))]) dX2_sendFrom_31 ?_
        refine qu_rast1 (j := (i - 1)) hL (vp_in_nI (n := (i - 1)) (by omega) (by decide)) (nI_clamp (by omega)) dX2_sendFrom_32 (fun G7 hL8 => ?_)
        refine cc_aload_n (j := 2) dX2_sendFrom_33 rfl rfl ?_
        refine cc_get (v := .ref (a + 2)) hL8.2.1 cc_c2 1 (by decide) fl_X2_15 rfl dX2_sendFrom_34 ?_
        refine cc_iload_n (j := 0) dX2_sendFrom_37 rfl rfl ?_
        refine cc_iconst (v := 1) dX2_sendFrom_38 (by decide) ?_
        refine cc_isub dX2_sendFrom_39 ?_
        rw [show (nI i) - 1 = nI (i - 1) from cc_m1 (by omega)]
        refine cc_aload_n (j := 2) dX2_sendFrom_40 rfl rfl ?_
        refine cc_get (v := .ref (a + 2)) hL8.2.1 cc_c2 1 (by decide) fl_X2_15 rfl dX2_sendFrom_41 ?_
        refine cc_iload_n (j := 0) dX2_sendFrom_44 rfl rfl ?_
        refine cc_iald (x := m2 i) hL8.2.2.2.1 (vp_in_nI (n := i) (by omega) (by decide)) (by rw [(nI_clamp (by omega))]) dX2_sendFrom_45 ?_
        refine qu_rast2 (j := (i - 1)) hL8 (vp_in_nI (n := (i - 1)) (by omega) (by decide)) (nI_clamp (by omega)) dX2_sendFrom_46 (fun G9 hL10 => ?_)
        refine cc_aload_n (j := 2) dX2_sendFrom_47 rfl rfl ?_
        refine cc_get (v := .ref (a + 3)) hL10.2.1 cc_c2 2 (by decide) fl_X2_18 rfl dX2_sendFrom_48 ?_
        refine cc_iload_n (j := 0) dX2_sendFrom_51 rfl rfl ?_
        refine cc_iconst (v := 1) dX2_sendFrom_52 (by decide) ?_
        refine cc_isub dX2_sendFrom_53 ?_
        rw [show (nI i) - 1 = nI (i - 1) from cc_m1 (by omega)]
        refine cc_aload_n (j := 2) dX2_sendFrom_54 rfl rfl ?_
        refine cc_get (v := .ref (a + 3)) hL10.2.1 cc_c2 2 (by decide) fl_X2_18 rfl dX2_sendFrom_55 ?_
        refine cc_iload_n (j := 0) dX2_sendFrom_58 rfl rfl ?_
        refine cc_iald (x := m3 i) hL10.2.2.2.2 (vp_in_nI (n := i) (by omega) (by decide)) (by rw [(nI_clamp (by omega))]) dX2_sendFrom_59 ?_
        refine qu_rast3 (j := (i - 1)) hL10 (vp_in_nI (n := (i - 1)) (by omega) (by decide)) (nI_clamp (by omega)) dX2_sendFrom_60 (fun G11 hL12 => ?_)
        refine cc_iinc (j := 0) (v := nI (i + 1)) (ls' := [(3, .int (nI (i + 1))), (2, .int (n1 r0)), (0, .ref a), (1, .int (nI r0))]) dX2_sendFrom_61 rfl (nI_1 i) (Nat.le_of_ble_eq_true rfl) rfl ?_
        refine cc_goto (tgt := 11) dX2_sendFrom_64 (by decide) ?_
        refine ih (i + 1) _ _ _ _ (by omega) (by omega) (by omega) hL12 (fun j hj => ?_) (fun j hj hj2 => ?_) (fun j hj hj2 => ?_)
        · have := h1 j hj
          refine ⟨?_, ?_, ?_⟩
          · rw [← this.1]; simp [upd]; omega
          · rw [← this.2.1]; simp [upd]; omega
          · rw [← this.2.2]; simp [upd]; omega
        · by_cases hq : j = i - 1
          · subst hq
            have := h3 i (by omega) (by omega)
            rw [show i - 1 + 1 = i by omega]
            refine ⟨?_, ?_, ?_⟩
            · rw [← this.1]; simp [upd]
            · rw [← this.2.1]; simp [upd]
            · rw [← this.2.2]; simp [upd]
          · have := h2 j hj (by omega)
            refine ⟨?_, ?_, ?_⟩
            · rw [← this.1]; simp [upd]; omega
            · rw [← this.2.1]; simp [upd]; omega
            · rw [← this.2.2]; simp [upd]; omega
        · have := h3 j (by omega) hj2
          refine ⟨?_, ?_, ?_⟩
          · rw [← this.1]; simp [upd]; omega
          · rw [← this.2.1]; simp [upd]; omega
          · rw [← this.2.2]; simp [upd]; omega
  refine cc_enter ok_X2_sendFrom (Nat.le_of_ble_eq_true rfl) (ls := [(0, .ref a), (1, .int (nI r0))]) rfl ?_
  refine cc_aload_n (j := 0) dX2_sendFrom_0 rfl rfl ?_
  refine cc_get (v := .ref (a + 1)) hL.2.1 cc_c2 0 (by decide) fl_X2_9 rfl dX2_sendFrom_1 ?_
  refine cc_iload_n (j := 1) dX2_sendFrom_4 rfl rfl ?_
  refine cc_iald (x := n1 r0) hL.2.2.1 (vp_in_nI (n := r0) (by omega) (by decide)) (by rw [(nI_clamp (by omega))]) dX2_sendFrom_5 ?_
  refine cc_istore_n (ls' := [(2, .int (n1 r0)), (0, .ref a), (1, .int (nI r0))]) dX2_sendFrom_6 rfl (Nat.le_of_ble_eq_true rfl) rfl ?_
  refine cc_iload_n (j := 2) dX2_sendFrom_7 rfl rfl ?_
  refine cc_iconst (v := 1) dX2_sendFrom_8 (by decide) ?_
  refine cc_iadd dX2_sendFrom_9 ?_
  rw [show (nI r0) + 1 = nI (r0 + 1) from nI_1 r0]
  refine cc_istore_n (ls' := [(3, .int (nI (r0 + 1))), (2, .int (n1 r0)), (0, .ref a), (1, .int (nI r0))]) dX2_sendFrom_10 rfl (Nat.le_of_ble_eq_true rfl) rfl ?_
  exact loop_11 (l.length + 1) (r0 + 1) n1 n2 n3 _ (by omega) (by omega) (by omega) hL (fun j _ => ⟨rfl, rfl, rfl⟩) (fun j hj hj2 => absurd hj2 (by omega)) (fun j _ _ => ⟨rfl, rfl, rfl⟩)

set_option maxHeartbeats 4000000 in
set_option maxRecDepth 100000 in
theorem ct_X2_countBlocked (cy : Nat → ClassId) (z : Nat) (G : cc_G) (a : Nat) (bl se hs : Int32) (l : List Pk_)  (hI : qu_I cy G G a hs (bl, se, l)) : cc_Cn cy Y_X2_countBlocked [.ref a] z G (cc_qv (fun G' => qu_I cy G G' a hs (if l ≠ [] ∧ hs = 0 then bl + 1 else bl, se, l))) := by
  obtain ⟨n1, n2, n3, hL, hA, h8⟩ := hI
  have hL : qu_R cy G G a n1 n2 n3 (nI l.length) bl se hs := hL
  have hA : qu_A n1 n2 n3 l := hA
  have h8 : l.length ≤ 8 := h8
  refine cc_enter ok_X2_countBlocked (Nat.le_of_ble_eq_true rfl) (ls := [(0, .ref a)]) rfl ?_
  refine cc_aload_n (j := 0) dX2_countBlocked_0 rfl rfl ?_
  refine cc_get (v := .int (nI l.length)) hL.2.1 cc_c2 3 (by decide) fl_X2_21 rfl dX2_countBlocked_1 ?_
  refine cc_if_le (tgt := 24) dX2_countBlocked_4 (by decide) (fun c_4 => ?_) (fun c_4 => ?_)
  · refine cc_vret rfl dX2_countBlocked_24 ?_
    refine ⟨rfl, ?_⟩
    rw [show (if l ≠ [] ∧ hs = 0 then bl + 1 else bl) = _ from if_neg (fun h => h.1 (List.length_eq_zero_iff.mp (by rcases Nat.eq_zero_or_pos l.length with e | e; exact e; exact absurd ((cc_p0 (by omega)).mpr e) (Int32.not_lt.mpr c_4))))]
    exact ⟨n1, n2, n3, hL, hA, h8⟩
  · refine cc_aload_n (j := 0) dX2_countBlocked_7 rfl rfl ?_
    refine cc_get (v := .int hs) hL.2.1 cc_c2 6 (by decide) fl_X2_31 rfl dX2_countBlocked_8 ?_
    refine cc_if_ne (tgt := 24) dX2_countBlocked_11 (by decide) (fun c_11 => ?_) (fun c_11 => ?_)
    · refine cc_vret rfl dX2_countBlocked_24 ?_
      refine ⟨rfl, ?_⟩
      rw [show (if l ≠ [] ∧ hs = 0 then bl + 1 else bl) = _ from if_neg (fun h => c_11 h.2)]
      exact ⟨n1, n2, n3, hL, hA, h8⟩
    · refine cc_aload_n (j := 0) dX2_countBlocked_14 rfl rfl ?_
      refine cc_dup dX2_countBlocked_15 rfl ?_
      refine cc_get (v := .int bl) hL.2.1 cc_c2 4 (by decide) fl_X2_25 rfl dX2_countBlocked_16 ?_
      refine cc_iconst (v := 1) dX2_countBlocked_19 (by decide) ?_
      refine cc_iadd dX2_countBlocked_20 ?_
      refine qu_rput (sz' := (nI l.length)) (bl' := (bl + 1)) (se' := se) (hs' := hs) hL cc_c2 4 (by decide) fl_X2_25 rfl rfl rfl rfl rfl dX2_countBlocked_21 (fun G1 hL2 => ?_)
      refine cc_vret rfl dX2_countBlocked_24 ?_
      refine ⟨rfl, ?_⟩
      rw [show (if l ≠ [] ∧ hs = 0 then bl + 1 else bl) = _ from if_pos ⟨fun h => by subst h; exact c_4 (by decide), c_11⟩]
      exact ⟨n1, n2, n3, hL2, hA, h8⟩

set_option maxHeartbeats 4000000 in
set_option maxRecDepth 100000 in
theorem ct_X2_waitingFor (cy : Nat → ClassId) (z : Nat) (G : cc_G) (a : Nat) (bl se hs : Int32) (l : List Pk_) (x1 : Int32) (hI : qu_I cy G G a hs (bl, se, l)) : cc_Cn cy Y_X2_waitingFor [.ref a, .int x1] z G (cc_qi (fun r G' => r = nI (Q_cn x1 l l.length) ∧ G' = G)) := by
  obtain ⟨n1, n2, n3, hL, hA, h8⟩ := hI
  have hL : qu_R cy G G a n1 n2 n3 (nI l.length) bl se hs := hL
  have hA : qu_A n1 n2 n3 l := hA
  have h8 : l.length ≤ 8 := h8
  have loop_4 : ∀ (n i : Nat), l.length < i + n → i ≤ l.length → cc_R cy Y_X2_waitingFor z 4 [(3, .int (nI i)), (2, .int (nI (Q_cn x1 l i))), (0, .ref a), (1, .int x1)] [] G (cc_qi (fun r G' => r = nI (Q_cn x1 l l.length) ∧ G' = G)) := by
    intro n
    induction n with
    | zero => intro i h1 h2; exact absurd h1 (by omega)
    | succ n ih =>
      intro i hn hi
      refine cc_iload_n (j := 0) dX2_waitingFor_4 rfl rfl ?_
      refine cc_aload_n (j := 2) dX2_waitingFor_5 rfl rfl ?_
      refine cc_get (v := .int (nI l.length)) hL.2.1 cc_c2 3 (by decide) fl_X2_21 rfl dX2_waitingFor_6 ?_
      refine cc_icmp_ge (tgt := 31) dX2_waitingFor_9 (by decide) (fun c_9 => ?_) (fun c_9 => ?_)
      · have hge : l.length ≤ i := (nI_leI (by omega) (by omega)).mp c_9
        refine cc_iload_n (j := 1) dX2_waitingFor_31 rfl rfl ?_
        refine cc_iret rfl rfl dX2_waitingFor_32 ?_
        exact ⟨_, rfl, by rw [show i = l.length by omega], rfl⟩
      · have hlt : i < l.length := by
          rcases Nat.lt_or_ge i l.length with q | q
          · exact q
          · exact absurd (nI_le q (by omega)) c_9
        refine cc_aload_n (j := 2) dX2_waitingFor_12 rfl rfl ?_
        refine cc_get (v := .ref (a + 2)) hL.2.1 cc_c2 1 (by decide) fl_X2_15 rfl dX2_waitingFor_13 ?_
        refine cc_iload_n (j := 0) dX2_waitingFor_16 rfl rfl ?_
        refine cc_iald (x := n2 i) hL.2.2.2.1 (vp_in_nI (n := i) (by omega) (by decide)) (by rw [(nI_clamp (by omega))]) dX2_waitingFor_17 ?_
        refine cc_iload_n (j := 3) dX2_waitingFor_18 rfl rfl ?_
        refine cc_icmp_ne (tgt := 25) dX2_waitingFor_19 (by decide) (fun c_19 => ?_) (fun c_19 => ?_)
        · rw [show nI (Q_cn x1 l i) = nI (Q_cn x1 l (i + 1)) by rw [Q_cn_no (by rw [← (qu_at hA hlt).2.1]; exact c_19)]]
          refine cc_iinc (j := 0) (v := nI (i + 1)) (ls' := [(3, .int (nI (i + 1))), (2, .int (nI (Q_cn x1 l (i + 1)))), (0, .ref a), (1, .int x1)]) dX2_waitingFor_25 rfl (nI_1 i) (Nat.le_of_ble_eq_true rfl) rfl ?_
          refine cc_goto (tgt := 4) dX2_waitingFor_28 (by decide) ?_
          exact ih (i + 1) (by omega) (by omega)
        · refine cc_iinc (j := 1) (v := nI (Q_cn x1 l (i + 1))) (ls' := [(2, .int (nI (Q_cn x1 l (i + 1)))), (3, .int (nI i)), (0, .ref a), (1, .int x1)]) dX2_waitingFor_22 rfl (by rw [Q_cn_yes (by rw [← (qu_at hA hlt).2.1]; simpa using c_19)]; exact nI_1 _) (Nat.le_of_ble_eq_true rfl) rfl ?_
          refine cc_iinc (j := 1) (v := nI (i + 1)) (ls' := [(3, .int (nI (i + 1))), (2, .int (nI (Q_cn x1 l (i + 1)))), (0, .ref a), (1, .int x1)]) dX2_waitingFor_25 rfl (nI_1 i) (Nat.le_of_ble_eq_true rfl) rfl ?_
          refine cc_goto (tgt := 4) dX2_waitingFor_28 (by decide) ?_
          exact ih (i + 1) (by omega) (by omega)
  refine cc_enter ok_X2_waitingFor (Nat.le_of_ble_eq_true rfl) (ls := [(0, .ref a), (1, .int x1)]) rfl ?_
  refine cc_iconst (v := 0) dX2_waitingFor_0 (by decide) ?_
  refine cc_istore_n (ls' := [(2, .int 0), (0, .ref a), (1, .int x1)]) dX2_waitingFor_1 rfl (Nat.le_of_ble_eq_true rfl) rfl ?_
  refine cc_iconst (v := 0) dX2_waitingFor_2 (by decide) ?_
  refine cc_istore_n (ls' := [(3, .int 0), (2, .int 0), (0, .ref a), (1, .int x1)]) dX2_waitingFor_3 rfl (Nat.le_of_ble_eq_true rfl) rfl ?_
  exact loop_4 (l.length + 1) 0 (by omega) (Nat.zero_le _)

set_option maxHeartbeats 4000000 in
set_option maxRecDepth 100000 in
theorem ct_X2_holds (cy : Nat → ClassId) (z : Nat) (G : cc_G) (a : Nat) (bl se hs : Int32) (l : List Pk_) (x1 : Int32) (hI : qu_I cy G G a hs (bl, se, l)) : cc_Cn cy Y_X2_holds [.ref a, .int x1] z G (cc_qi (fun r G' => r = (if x1 ∈ l.map (fun p => p.1) then 1 else 0) ∧ G' = G)) := by
  obtain ⟨n1, n2, n3, hL, hA, h8⟩ := hI
  have hL : qu_R cy G G a n1 n2 n3 (nI l.length) bl se hs := hL
  have hA : qu_A n1 n2 n3 l := hA
  have h8 : l.length ≤ 8 := h8
  have loop_2 : ∀ (n i : Nat), l.length < i + n → i ≤ l.length → (∀ j, j < i → (l.getD j (0, 0, 0)).1 ≠ x1) → cc_R cy Y_X2_holds z 2 [(2, .int (nI i)), (0, .ref a), (1, .int x1)] [] G (cc_qi (fun r G' => r = (if x1 ∈ l.map (fun p => p.1) then 1 else 0) ∧ G' = G)) := by
    intro n
    induction n with
    | zero => intro i h1 h2; exact absurd h1 (by omega)
    | succ n ih =>
      intro i hn hi h0
      refine cc_iload_n (j := 0) dX2_holds_2 rfl rfl ?_
      refine cc_aload_n (j := 1) dX2_holds_3 rfl rfl ?_
      refine cc_get (v := .int (nI l.length)) hL.2.1 cc_c2 3 (by decide) fl_X2_21 rfl dX2_holds_4 ?_
      refine cc_icmp_ge (tgt := 28) dX2_holds_7 (by decide) (fun c_7 => ?_) (fun c_7 => ?_)
      · have hge : l.length ≤ i := (nI_leI (by omega) (by omega)).mp c_7
        refine cc_iconst (v := 0) dX2_holds_28 (by decide) ?_
        refine cc_iret rfl rfl dX2_holds_29 ?_
        refine ⟨_, rfl, (if_neg (fun h => ?_)).symm, rfl⟩
        obtain ⟨p, hp, he⟩ := List.mem_map.mp h
        obtain ⟨k, hk, hp2⟩ := List.getElem_of_mem hp
        refine h0 k (by omega) ?_
        rw [List.getD_eq_getElem?_getD, List.getElem?_eq_getElem hk]
        show l[k].1 = x1
        rw [hp2]; exact he
      · have hlt : i < l.length := by
          rcases Nat.lt_or_ge i l.length with q | q
          · exact q
          · exact absurd (nI_le q (by omega)) c_7
        refine cc_aload_n (j := 1) dX2_holds_10 rfl rfl ?_
        refine cc_get (v := .ref (a + 1)) hL.2.1 cc_c2 0 (by decide) fl_X2_9 rfl dX2_holds_11 ?_
        refine cc_iload_n (j := 0) dX2_holds_14 rfl rfl ?_
        refine cc_iald (x := n1 i) hL.2.2.1 (vp_in_nI (n := i) (by omega) (by decide)) (by rw [(nI_clamp (by omega))]) dX2_holds_15 ?_
        refine cc_iload_n (j := 2) dX2_holds_16 rfl rfl ?_
        refine cc_icmp_ne (tgt := 22) dX2_holds_17 (by decide) (fun c_17 => ?_) (fun c_17 => ?_)
        · refine cc_iinc (j := 0) (v := nI (i + 1)) (ls' := [(2, .int (nI (i + 1))), (0, .ref a), (1, .int x1)]) dX2_holds_22 rfl (nI_1 i) (Nat.le_of_ble_eq_true rfl) rfl ?_
          refine cc_goto (tgt := 2) dX2_holds_25 (by decide) ?_
          exact ih (i + 1) (by omega) (by omega) (fun j hj => by
            by_cases hq : j = i
            · subst hq
              rw [← (qu_at hA hlt).1]
              exact c_17
            · exact h0 j (by omega))
        · refine cc_iconst (v := 1) dX2_holds_20 (by decide) ?_
          refine cc_iret rfl rfl dX2_holds_21 ?_
          have he : l.getD i (0, 0, 0) ∈ l := by rw [List.getD_eq_getElem?_getD, List.getElem?_eq_getElem hlt]; exact List.getElem_mem _
          exact ⟨_, rfl, (if_pos (List.mem_map.mpr ⟨_, he, by show (l.getD i (0, 0, 0)).1 = x1; rw [← (qu_at hA hlt).1]; simpa using c_17⟩)).symm, rfl⟩
  refine cc_enter ok_X2_holds (Nat.le_of_ble_eq_true rfl) (ls := [(0, .ref a), (1, .int x1)]) rfl ?_
  refine cc_iconst (v := 0) dX2_holds_0 (by decide) ?_
  refine cc_istore_n (ls' := [(2, .int 0), (0, .ref a), (1, .int x1)]) dX2_holds_1 rfl (Nat.le_of_ble_eq_true rfl) rfl ?_
  exact loop_2 (l.length + 1) 0 (by omega) (Nat.zero_le _) (fun j hj => absurd hj (by omega))

set_option maxHeartbeats 4000000 in
set_option maxRecDepth 100000 in
theorem ct_X2_figure (cy : Nat → ClassId) (z : Nat) (G : cc_G) (a : Nat) (n1 n2 n3 : Nat → Int32) (sz bl se hs : Int32) (x1 : Int32) (hL : qu_R cy G G a n1 n2 n3 sz bl se hs) : cc_Cn cy Y_X2_figure [.ref a, .int x1] z G (cc_qi (fun r G' => r = (if x1 = 0 then sz else if x1 = 1 then bl else if x1 = 2 then se else if x1 = 3 then (if 0 < sz then n2 0 else (-5)) else (-2)) ∧ G' = G)) := by
  
  refine cc_enter ok_X2_figure (Nat.le_of_ble_eq_true rfl) (ls := [(0, .ref a), (1, .int x1)]) rfl ?_
  refine cc_iload_n (j := 1) dX2_figure_0 rfl rfl ?_
  rcases cc_sw3 x1 with rfl | rfl | rfl | rfl | c_1
  · refine cc_tableIn (off := 31) (tgt := 32) dX2_figure_1 (by decide) (by decide) rfl (by decide) ?_
    refine cc_aload_n (j := 0) dX2_figure_32 rfl rfl ?_
    refine cc_get (v := .int sz) hL.2.1 cc_c2 3 (by decide) fl_X2_21 rfl dX2_figure_33 ?_
    refine cc_iret rfl rfl dX2_figure_36 ?_
    exact ⟨_, rfl, by simp, rfl⟩
  · refine cc_tableIn (off := 36) (tgt := 37) dX2_figure_1 (by decide) (by decide) rfl (by decide) ?_
    refine cc_aload_n (j := 0) dX2_figure_37 rfl rfl ?_
    refine cc_get (v := .int bl) hL.2.1 cc_c2 4 (by decide) fl_X2_25 rfl dX2_figure_38 ?_
    refine cc_iret rfl rfl dX2_figure_41 ?_
    exact ⟨_, rfl, by simp, rfl⟩
  · refine cc_tableIn (off := 41) (tgt := 42) dX2_figure_1 (by decide) (by decide) rfl (by decide) ?_
    refine cc_aload_n (j := 0) dX2_figure_42 rfl rfl ?_
    refine cc_get (v := .int se) hL.2.1 cc_c2 5 (by decide) fl_X2_28 rfl dX2_figure_43 ?_
    refine cc_iret rfl rfl dX2_figure_46 ?_
    exact ⟨_, rfl, by simp, rfl⟩
  · refine cc_tableIn (off := 46) (tgt := 47) dX2_figure_1 (by decide) (by decide) rfl (by decide) ?_
    refine cc_aload_n (j := 0) dX2_figure_47 rfl rfl ?_
    refine cc_get (v := .int sz) hL.2.1 cc_c2 3 (by decide) fl_X2_21 rfl dX2_figure_48 ?_
    refine cc_if_le (tgt := 63) dX2_figure_51 (by decide) (fun c_51 => ?_) (fun c_51 => ?_)
    · refine cc_bipush (v := (-5)) dX2_figure_63 (by decide) ?_
      refine cc_iret rfl rfl dX2_figure_65 ?_
      exact ⟨_, rfl, by simpa using fun h => absurd h (Int32.not_lt.mpr c_51), rfl⟩
    · refine cc_aload_n (j := 0) dX2_figure_54 rfl rfl ?_
      refine cc_get (v := .ref (a + 2)) hL.2.1 cc_c2 1 (by decide) fl_X2_15 rfl dX2_figure_55 ?_
      refine cc_iconst (v := 0) dX2_figure_58 (by decide) ?_
      refine cc_iald (x := n2 0) hL.2.2.2.1 (vp_in_nI (n := 0) (by decide) (by decide)) (by rw [show (0 : Int32).toNatClampNeg = 0 from rfl]) dX2_figure_59 ?_
      refine cc_goto (tgt := 65) dX2_figure_60 (by decide) ?_
      refine cc_iret rfl rfl dX2_figure_65 ?_
      exact ⟨_, rfl, by simpa using fun h => absurd h c_51, rfl⟩
  · refine cc_tableOut (tgt := 66) dX2_figure_1 c_1 (by decide) ?_
    refine cc_bipush (v := (-2)) dX2_figure_66 (by decide) ?_
    refine cc_iret rfl rfl dX2_figure_68 ?_
    exact ⟨_, rfl, by rw [if_neg (fun q => by subst q; exact absurd c_1 (by decide)), if_neg (fun q => by subst q; exact absurd c_1 (by decide)), if_neg (fun q => by subst q; exact absurd c_1 (by decide)), if_neg (fun q => by subst q; exact absurd c_1 (by decide))], rfl⟩

set_option maxHeartbeats 4000000 in
set_option maxRecDepth 100000 in
theorem ct_X2_packetFigure (cy : Nat → ClassId) (z : Nat) (G : cc_G) (a : Nat) (n1 n2 n3 : Nat → Int32) (sz bl se hs : Int32) (x1 x2 : Int32) (h0 : ¬ x1 < 0) (hsz : sz ≤ 8) (hL : qu_R cy G G a n1 n2 n3 sz bl se hs) : cc_Cn cy Y_X2_packetFigure [.ref a, .int x1, .int x2] z G (cc_qi (fun r G' => r = (if sz ≤ x1 then (-5) else if x2 = 0 then n1 x1.toNatClampNeg else if x2 = 1 then n2 x1.toNatClampNeg else n3 x1.toNatClampNeg) ∧ G' = G)) := by
  
  refine cc_enter ok_X2_packetFigure (Nat.le_of_ble_eq_true rfl) (ls := [(0, .ref a), (1, .int x1), (2, .int x2)]) rfl ?_
  refine cc_iload_n (j := 1) dX2_packetFigure_0 rfl rfl ?_
  refine cc_aload_n (j := 0) dX2_packetFigure_1 rfl rfl ?_
  refine cc_get (v := .int sz) hL.2.1 cc_c2 3 (by decide) fl_X2_21 rfl dX2_packetFigure_2 ?_
  refine cc_icmp_lt (tgt := 11) dX2_packetFigure_5 (by decide) (fun c_5 => ?_) (fun c_5 => ?_)
  · refine cc_iload_n (j := 2) dX2_packetFigure_11 rfl rfl ?_
    rcases cc_sw1 x2 with rfl | rfl | c_12
    · refine cc_lookup (off := 28) (tgt := 40) dX2_packetFigure_12 (by decide) (by decide) (by decide) ?_
      refine cc_aload_n (j := 0) dX2_packetFigure_40 rfl rfl ?_
      refine cc_get (v := .ref (a + 1)) hL.2.1 cc_c2 0 (by decide) fl_X2_9 rfl dX2_packetFigure_41 ?_
      refine cc_iload_n (j := 1) dX2_packetFigure_44 rfl rfl ?_
      refine cc_iald (x := n1 x1.toNatClampNeg) hL.2.2.1 (cc_inl h0 c_5 hsz) (by rw [show (x1 : Int32).toNatClampNeg = x1.toNatClampNeg from rfl]) dX2_packetFigure_45 ?_
      refine cc_iret rfl rfl dX2_packetFigure_46 ?_
      exact ⟨_, rfl, by rw [if_neg (Int32.not_le.mpr c_5)]; simp, rfl⟩
    · refine cc_lookup (off := 35) (tgt := 47) dX2_packetFigure_12 (by decide) (by decide) (by decide) ?_
      refine cc_aload_n (j := 0) dX2_packetFigure_47 rfl rfl ?_
      refine cc_get (v := .ref (a + 2)) hL.2.1 cc_c2 1 (by decide) fl_X2_15 rfl dX2_packetFigure_48 ?_
      refine cc_iload_n (j := 1) dX2_packetFigure_51 rfl rfl ?_
      refine cc_iald (x := n2 x1.toNatClampNeg) hL.2.2.2.1 (cc_inl h0 c_5 hsz) (by rw [show (x1 : Int32).toNatClampNeg = x1.toNatClampNeg from rfl]) dX2_packetFigure_52 ?_
      refine cc_iret rfl rfl dX2_packetFigure_53 ?_
      exact ⟨_, rfl, by rw [if_neg (Int32.not_le.mpr c_5)]; simp, rfl⟩
    · refine cc_lookup (off := 42) (tgt := 54) dX2_packetFigure_12 (by decide) (cc_lk1 c_12) (by decide) ?_
      refine cc_aload_n (j := 0) dX2_packetFigure_54 rfl rfl ?_
      refine cc_get (v := .ref (a + 3)) hL.2.1 cc_c2 2 (by decide) fl_X2_18 rfl dX2_packetFigure_55 ?_
      refine cc_iload_n (j := 1) dX2_packetFigure_58 rfl rfl ?_
      refine cc_iald (x := n3 x1.toNatClampNeg) hL.2.2.2.2 (cc_inl h0 c_5 hsz) (by rw [show (x1 : Int32).toNatClampNeg = x1.toNatClampNeg from rfl]) dX2_packetFigure_59 ?_
      refine cc_iret rfl rfl dX2_packetFigure_60 ?_
      exact ⟨_, rfl, by rw [if_neg (Int32.not_le.mpr c_5), if_neg (fun q => by subst q; exact absurd c_12 (by decide)), if_neg (fun q => by subst q; exact absurd c_12 (by decide))], rfl⟩
  · refine cc_bipush (v := (-5)) dX2_packetFigure_8 (by decide) ?_
    refine cc_iret rfl rfl dX2_packetFigure_10 ?_
    exact ⟨_, rfl, (if_pos (Int32.not_lt.mp c_5)).symm, rfl⟩

set_option maxHeartbeats 4000000 in
set_option maxRecDepth 100000 in
theorem ct_X2_copyFrom (cy : Nat → ClassId) (z : Nat) (G : cc_G) (a : Nat) (bl se hs : Int32) (l : List Pk_) (o : Nat) (hs2 : Int32) (q2 : Qu_) (hao : a + 4 ≤ o ∨ o + 4 ≤ a) (hI2 : qu_I cy G G o hs2 q2) (hI : qu_I cy G G a hs (bl, se, l)) : cc_Cn cy Y_X2_copyFrom [.ref a, .ref o] z G (cc_qv (fun G' => qu_I cy G G' a hs q2)) := by
  obtain ⟨n1, n2, n3, hL, hA, h8⟩ := hI
  have hL : qu_R cy G G a n1 n2 n3 (nI l.length) bl se hs := hL
  have hA : qu_A n1 n2 n3 l := hA
  have h8 : l.length ≤ 8 := h8
  obtain ⟨bl2, se2, l2⟩ := q2
  obtain ⟨m1, m2, m3, hO, hA2, h82⟩ := hI2
  have hO : qu_R cy G G o m1 m2 m3 (nI l2.length) bl2 se2 hs2 := hO
  have hA2 : qu_A m1 m2 m3 l2 := hA2
  have h82 : l2.length ≤ 8 := h82
  refine cc_enter ok_X2_copyFrom (Nat.le_of_ble_eq_true rfl) (ls := [(0, .ref a), (1, .ref o)]) rfl ?_
  refine cc_aload_n (j := 0) dX2_copyFrom_0 rfl rfl ?_
  refine cc_aload_n (j := 1) dX2_copyFrom_1 rfl rfl ?_
  refine cc_get (v := .int (nI l2.length)) (((hL).1 o (by omega)).trans hO.2.1) cc_c2 3 (by decide) fl_X2_21 rfl dX2_copyFrom_2 ?_
  refine qu_rput (sz' := (nI l2.length)) (bl' := bl) (se' := se) (hs' := hs) hL cc_c2 3 (by decide) fl_X2_21 rfl rfl rfl rfl rfl dX2_copyFrom_5 (fun G1 hL2 => ?_)
  refine cc_aload_n (j := 0) dX2_copyFrom_8 rfl rfl ?_
  refine cc_aload_n (j := 1) dX2_copyFrom_9 rfl rfl ?_
  refine cc_get (v := .int bl2) (((hL2).1 o (by omega)).trans hO.2.1) cc_c2 4 (by decide) fl_X2_25 rfl dX2_copyFrom_10 ?_
  refine qu_rput (sz' := (nI l2.length)) (bl' := bl2) (se' := se) (hs' := hs) hL2 cc_c2 4 (by decide) fl_X2_25 rfl rfl rfl rfl rfl dX2_copyFrom_13 (fun G3 hL4 => ?_)
  refine cc_aload_n (j := 0) dX2_copyFrom_16 rfl rfl ?_
  refine cc_aload_n (j := 1) dX2_copyFrom_17 rfl rfl ?_
  refine cc_get (v := .int se2) (((hL4).1 o (by omega)).trans hO.2.1) cc_c2 5 (by decide) fl_X2_28 rfl dX2_copyFrom_18 ?_
  refine qu_rput (sz' := (nI l2.length)) (bl' := bl2) (se' := se2) (hs' := hs) hL4 cc_c2 5 (by decide) fl_X2_28 rfl rfl rfl rfl rfl dX2_copyFrom_21 (fun G5 hL6 => ?_)
  refine cc_aload_n (j := 1) dX2_copyFrom_24 rfl rfl ?_
  refine cc_get (v := .ref (o + 1)) (((hL6).1 o (by omega)).trans hO.2.1) cc_c2 0 (by decide) fl_X2_9 rfl dX2_copyFrom_25 ?_
  refine cc_iconst (v := 0) dX2_copyFrom_28 (by decide) ?_
  refine cc_aload_n (j := 0) dX2_copyFrom_29 rfl rfl ?_
  refine cc_get (v := .ref (a + 1)) hL6.2.1 cc_c2 0 (by decide) fl_X2_9 rfl dX2_copyFrom_30 ?_
  refine cc_iconst (v := 0) dX2_copyFrom_33 (by decide) ?_
  refine cc_bipush (v := 8) dX2_copyFrom_34 (by decide) ?_
  refine cc_copy (k0 := 8) ml_X2_35 (((hL6).1 _ (by omega)).trans hO.2.2.1) hL6.2.2.1 (by omega) rfl (by decide) (by decide) (by decide) (by decide +kernel) dX2_copyFrom_36 ?_
  have hL8 := qu_up1 hL6 (va_cpy m1 n1 0 0 8)
  generalize va_up _ _ _ = G7 at hL8 ⊢
  refine cc_aload_n (j := 1) dX2_copyFrom_39 rfl rfl ?_
  refine cc_get (v := .ref (o + 2)) (((hL8).1 o (by omega)).trans hO.2.1) cc_c2 1 (by decide) fl_X2_15 rfl dX2_copyFrom_40 ?_
  refine cc_iconst (v := 0) dX2_copyFrom_43 (by decide) ?_
  refine cc_aload_n (j := 0) dX2_copyFrom_44 rfl rfl ?_
  refine cc_get (v := .ref (a + 2)) hL8.2.1 cc_c2 1 (by decide) fl_X2_15 rfl dX2_copyFrom_45 ?_
  refine cc_iconst (v := 0) dX2_copyFrom_48 (by decide) ?_
  refine cc_bipush (v := 8) dX2_copyFrom_49 (by decide) ?_
  refine cc_copy (k0 := 8) ml_X2_35 (((hL8).1 _ (by omega)).trans hO.2.2.2.1) hL8.2.2.2.1 (by omega) rfl (by decide) (by decide) (by decide) (by decide +kernel) dX2_copyFrom_51 ?_
  have hL10 := qu_up2 hL8 (va_cpy m2 n2 0 0 8)
  generalize va_up _ _ _ = G9 at hL10 ⊢
  refine cc_aload_n (j := 1) dX2_copyFrom_54 rfl rfl ?_
  refine cc_get (v := .ref (o + 3)) (((hL10).1 o (by omega)).trans hO.2.1) cc_c2 2 (by decide) fl_X2_18 rfl dX2_copyFrom_55 ?_
  refine cc_iconst (v := 0) dX2_copyFrom_58 (by decide) ?_
  refine cc_aload_n (j := 0) dX2_copyFrom_59 rfl rfl ?_
  refine cc_get (v := .ref (a + 3)) hL10.2.1 cc_c2 2 (by decide) fl_X2_18 rfl dX2_copyFrom_60 ?_
  refine cc_iconst (v := 0) dX2_copyFrom_63 (by decide) ?_
  refine cc_bipush (v := 8) dX2_copyFrom_64 (by decide) ?_
  refine cc_copy (k0 := 8) ml_X2_35 (((hL10).1 _ (by omega)).trans hO.2.2.2.2) hL10.2.2.2.2 (by omega) rfl (by decide) (by decide) (by decide) (by decide +kernel) dX2_copyFrom_66 ?_
  have hL12 := qu_up3 hL10 (va_cpy m3 n3 0 0 8)
  generalize va_up _ _ _ = G11 at hL12 ⊢
  refine cc_vret rfl dX2_copyFrom_69 ?_
  exact ⟨rfl, _, _, _, hL12, ⟨hA2.1.eq (fun k hk => (pk_cpy_in (by omega) (by simp at hk; omega)).trans (by rw [show 0 + (k - 0) = k by omega])), hA2.2.1.eq (fun k hk => (pk_cpy_in (by omega) (by simp at hk; omega)).trans (by rw [show 0 + (k - 0) = k by omega])), hA2.2.2.eq (fun k hk => (pk_cpy_in (by omega) (by simp at hk; omega)).trans (by rw [show 0 + (k - 0) = k by omega]))⟩, h82⟩
end
section
theorem cc_nlt {i : Nat} (N : Nat) (h : ¬ nI N ≤ nI i) (hi : i < 2 ^ 31) : i < N := by
  rcases Nat.lt_or_ge i N with q | q
  · exact q
  · exact absurd (nI_le q hi) h
theorem cc_ngt {i : Nat} (N : Nat) (h : nI N ≤ nI i) (hi : i < 2 ^ 31) (hN : N < 2 ^ 31) : N ≤ i := (nI_leI hN hi).mp h
/-! a box: the tick, the mode, the watch, how many arrived; four lanes; four queues. It lies in 31 cells from b on. -/
abbrev St_ : Type := (Nat → Int32) × (Nat → Ln_) × (Nat → Qu_)
def bx_fs (b : Nat) (g : Nat → Int32) : List Value := [.int (g 0), .int (g 1), .int (g 2), .int (g 3), .ref (b + 1), .ref (b + 2)]
def bx_l (b : Nat) : Nat → Option Nat := fun i => some (b + 3 + 7 * i)
def bx_q (b : Nat) : Nat → Option Nat := fun i => some (b + 6 + 7 * i)
def bx_I (cy : Nat → ClassId) (G0 G : cc_G) (b : Nat) (hs : Nat → Int32) (S : St_) : Prop :=
  (∀ q : Nat, (q < b ∨ b + 31 ≤ q) → G q = G0 q) ∧ G b = some (.inr (0, bx_fs b S.1)) ∧ G (b + 1) = some (.inl (cy 4, 4, .inr (.inr (.inr (.inr (bx_l b)))))) ∧ G (b + 2) = some (.inl (cy 5, 4, .inr (.inr (.inr (.inr (bx_q b)))))) ∧ (∀ j, j < 4 → ln_I cy G G (b + 3 + 7 * j) (S.2.1 j)) ∧ (∀ j, j < 4 → qu_I cy G G (b + 6 + 7 * j) (hs j) (S.2.2 j))
theorem ln_I.keep {cy : Nat → ClassId} {G0 G G1 : cc_G} {a : Nat} {L : Ln_} (h : ln_I cy G0 G a L) (hk : ∀ q, a ≤ q → q < a + 3 → G1 q = G q) : ln_I cy G1 G1 a L := by
  obtain ⟨f, g, ⟨-, h1, h2, h3⟩, h4⟩ := h
  exact ⟨f, g, ⟨fun _ _ => rfl, (hk a (by omega) (by omega)).trans h1, (hk _ (by omega) (by omega)).trans h2, (hk _ (by omega) (by omega)).trans h3⟩, h4⟩
theorem qu_I.keep {cy : Nat → ClassId} {G0 G G1 : cc_G} {a : Nat} {hs : Int32} {q : Qu_} (h : qu_I cy G0 G a hs q) (hk : ∀ x, a ≤ x → x < a + 4 → G1 x = G x) : qu_I cy G1 G1 a hs q := by
  obtain ⟨n1, n2, n3, ⟨-, h1, h2, h3, h5⟩, h4⟩ := h
  exact ⟨n1, n2, n3, ⟨fun _ _ => rfl, (hk a (by omega) (by omega)).trans h1, (hk _ (by omega) (by omega)).trans h2, (hk _ (by omega) (by omega)).trans h3, (hk _ (by omega) (by omega)).trans h5⟩, h4⟩
theorem ln_I.fr {cy : Nat → ClassId} {G0 G : cc_G} {a : Nat} {L : Ln_} (h : ln_I cy G0 G a L) : ∀ q : Nat, (q < a ∨ a + 3 ≤ q) → G q = G0 q := by
  obtain ⟨f, g, h1, -⟩ := h
  exact h1.1
theorem qu_I.fr {cy : Nat → ClassId} {G0 G : cc_G} {a : Nat} {hs : Int32} {q : Qu_} (h : qu_I cy G0 G a hs q) : ∀ x : Nat, (x < a ∨ a + 4 ≤ x) → G x = G0 x := by
  obtain ⟨n1, n2, n3, h1, -⟩ := h
  exact h1.1
theorem bx_I.self {cy : Nat → ClassId} {G0 G : cc_G} {b : Nat} {hs : Nat → Int32} {S : St_} (h : bx_I cy G0 G b hs S) : bx_I cy G G b hs S := ⟨fun _ _ => rfl, h.2⟩
theorem bx_I.tr {cy : Nat → ClassId} {G0 G1 G2 : cc_G} {b : Nat} {hs hs' : Nat → Int32} {S S' : St_} (h : bx_I cy G0 G1 b hs S) (h2 : bx_I cy G1 G2 b hs' S') : bx_I cy G0 G2 b hs' S' := ⟨fun q hq => (h2.1 q hq).trans (h.1 q hq), h2.2⟩
theorem bx_I.keep {cy : Nat → ClassId} {G0 G G1 : cc_G} {b : Nat} {hs : Nat → Int32} {S : St_} (h : bx_I cy G0 G b hs S) (hk : ∀ q, b ≤ q → q < b + 31 → G1 q = G q) : bx_I cy G1 G1 b hs S :=
  ⟨fun _ _ => rfl, (hk _ (by omega) (by omega)).trans h.2.1, (hk _ (by omega) (by omega)).trans h.2.2.1, (hk _ (by omega) (by omega)).trans h.2.2.2.1, fun j hj => (h.2.2.2.2.1 j hj).keep (fun q h1 h2 => hk q (by omega) (by omega)), fun j hj => (h.2.2.2.2.2 j hj).keep (fun q h1 h2 => hk q (by omega) (by omega))⟩
theorem bx_I.to {cy : Nat → ClassId} {G0 G : cc_G} {b : Nat} {hs hs' : Nat → Int32} {S S' : St_} (h : bx_I cy G0 G b hs S) (h0 : ∀ k, k < 4 → S.1 k = S'.1 k) (h1 : ∀ j, j < 4 → S.2.1 j = S'.2.1 j) (h2 : ∀ j, j < 4 → S.2.2 j = S'.2.2 j) (h3 : ∀ j, j < 4 → hs j = hs' j) : bx_I cy G0 G b hs' S' := by
  refine ⟨h.1, ?_, h.2.2.1, h.2.2.2.1, fun j hj => by rw [← h1 j hj]; exact h.2.2.2.2.1 j hj, fun j hj => by rw [← h2 j hj, ← h3 j hj]; exact h.2.2.2.2.2 j hj⟩
  rw [h.2.1]
  unfold bx_fs
  rw [h0 0 (by omega), h0 1 (by omega), h0 2 (by omega), h0 3 (by omega)]
theorem bx_I.lane {cy : Nat → ClassId} {G0 G G1 : cc_G} {b : Nat} {hs : Nat → Int32} {S : St_} (h : bx_I cy G0 G b hs S) {j : Nat} (hj : j < 4) {L : Ln_} (hL : ln_I cy G G1 (b + 3 + 7 * j) L) : bx_I cy G0 G1 b hs (S.1, va_up S.2.1 j L, S.2.2) := by
  have fr := hL.fr
  refine ⟨fun q hq => (fr q (by omega)).trans (h.1 q hq), (fr _ (by omega)).trans h.2.1, (fr _ (by omega)).trans h.2.2.1, (fr _ (by omega)).trans h.2.2.2.1, fun i hi => ?_, fun i hi => (h.2.2.2.2.2 i hi).keep (fun q h1 h2 => fr q (by omega))⟩
  by_cases hq : i = j
  · subst hq
    show ln_I cy G1 G1 _ (va_up S.2.1 i L i)
    rw [va_up_self]
    exact hL.self
  · show ln_I cy G1 G1 _ (va_up S.2.1 j L i)
    rw [va_up_ne _ _ hq]
    exact (h.2.2.2.2.1 i hi).keep (fun q h1 h2 => fr q (by omega))
theorem bx_I.queue {cy : Nat → ClassId} {G0 G G1 : cc_G} {b : Nat} {hs : Nat → Int32} {S : St_} (h : bx_I cy G0 G b hs S) {j : Nat} (hj : j < 4) {h' : Int32} {q' : Qu_} (hL : qu_I cy G G1 (b + 6 + 7 * j) h' q') : bx_I cy G0 G1 b (va_up hs j h') (S.1, S.2.1, va_up S.2.2 j q') := by
  have fr := hL.fr
  refine ⟨fun q hq => (fr q (by omega)).trans (h.1 q hq), (fr _ (by omega)).trans h.2.1, (fr _ (by omega)).trans h.2.2.1, (fr _ (by omega)).trans h.2.2.2.1, fun i hi => (h.2.2.2.2.1 i hi).keep (fun q h1 h2 => fr q (by omega)), fun i hi => ?_⟩
  by_cases hq : i = j
  · subst hq
    show qu_I cy G1 G1 _ (va_up hs i h' i) (va_up S.2.2 i q' i)
    rw [va_up_self, va_up_self]
    exact hL.self
  · show qu_I cy G1 G1 _ (va_up hs j h' i) (va_up S.2.2 j q' i)
    rw [va_up_ne _ _ hq, va_up_ne _ _ hq]
    exact (h.2.2.2.2.2 i hi).keep (fun q h1 h2 => fr q (by omega))
section BXR
variable {cy : Nat → ClassId} {Y : cc_Y} {z pc : Nat} {ls : List (Nat × Value)} {st : List Value} {G0 G : cc_G} {Q : Option Value → cc_G → Prop} {b idx : Nat} {hs : Nat → Int32} {S : St_} {x : Int32}
theorem bx_rput (hB : bx_I cy G0 G b hs S) (hcl : cc_Cl 0 Y.1.cls TX0 6 tyX0) (k0 : Nat) (hk0 : k0 < 6) (hln : Cond.fieldLink Y.1.cls idx (TX0 k0).1 (TX0 k0).2.1 (TX0 k0).2.2.1 ∈ cc_GT) (hfin : (TX0 k0).2.2.2 = false) (hdt : parseFieldDescriptor (TX0 k0).2.2.1 = some .int) {g' : Nat → Int32} (hset : (bx_fs b S.1).set k0 (.int x) = bx_fs b g') (hd : decode Y.2.1 pc = .ok (.putfield idx, 3)) (k : ∀ G1, bx_I cy G0 G1 b hs (g', S.2) → cc_R cy Y z (pc + 3) ls st G1 Q) : cc_R cy Y z pc ls (.int x :: .ref b :: st) G Q := by
  refine cc_put hB.2.1 hcl k0 hk0 hln hfin hdt rfl rfl hk0 hd ?_
  rw [hset]
  exact k _ ⟨fun q hq => by rw [va_up_ne _ _ (by omega)]; exact hB.1 q hq, va_up_self _ _ _, by rw [va_up_ne _ _ (by omega)]; exact hB.2.2.1, by rw [va_up_ne _ _ (by omega)]; exact hB.2.2.2.1, fun j hj => (hB.2.2.2.2.1 j hj).keep (fun q h1 h2 => va_up_ne _ _ (by omega)), fun j hj => (hB.2.2.2.2.2 j hj).keep (fun q h1 h2 => va_up_ne _ _ (by omega))⟩
theorem bx_rputN {host : String} (hB : bx_I cy G0 G b hs S) (k0 : Nat) (hk0 : k0 < 6) (hln : Cond.fieldLinkNest Y.1.cls idx (TX0 k0).1 (TX0 k0).2.1 (TX0 k0).2.2.1 host ∈ cc_NT) (hfin : (TX0 k0).2.2.2 = false) (hdt : parseFieldDescriptor (TX0 k0).2.2.1 = some .int) {g' : Nat → Int32} (hset : (bx_fs b S.1).set k0 (.int x) = bx_fs b g') (hd : decode Y.2.1 pc = .ok (.putfield idx, 3)) (k : ∀ G1, bx_I cy G0 G1 b hs (g', S.2) → cc_R cy Y z (pc + 3) ls st G1 Q) : cc_R cy Y z pc ls (.int x :: .ref b :: st) G Q := by
  refine cc_putN hB.2.1 cc_c0 k0 hk0 hln hfin hdt rfl rfl hk0 hd ?_
  rw [hset]
  exact k _ ⟨fun q hq => by rw [va_up_ne _ _ (by omega)]; exact hB.1 q hq, va_up_self _ _ _, by rw [va_up_ne _ _ (by omega)]; exact hB.2.2.1, by rw [va_up_ne _ _ (by omega)]; exact hB.2.2.2.1, fun j hj => (hB.2.2.2.2.1 j hj).keep (fun q h1 h2 => va_up_ne _ _ (by omega)), fun j hj => (hB.2.2.2.2.2 j hj).keep (fun q h1 h2 => va_up_ne _ _ (by omega))⟩
/-- a number of a lane, written from outside -/
theorem bx_rlane {host : String} {o : Nat} (hB : bx_I cy G0 G b hs S) (ho : o < 4) (k0 : Nat) (hk0 : k0 < 9) (hln : Cond.fieldLinkNest Y.1.cls idx (TX1 k0).1 (TX1 k0).2.1 (TX1 k0).2.2.1 host ∈ cc_NT) (hfin : (TX1 k0).2.2.2 = false) (hdt : parseFieldDescriptor (TX1 k0).2.2.1 = some .int) (hset : ∀ (a : Nat) (v : Nat → Int32) (nS nW : Int32), (ln_fs a v nS nW).set k0 (.int x) = ln_fs a (upd v k0 x) nS nW) (hd : decode Y.2.1 pc = .ok (.putfield idx, 3)) (k : ∀ G1, bx_I cy G0 G1 b hs (S.1, va_up S.2.1 o (upd (S.2.1 o).1 k0 x, (S.2.1 o).2), S.2.2) → cc_R cy Y z (pc + 3) ls st G1 Q) : cc_R cy Y z pc ls (.int x :: .ref (b + 3 + 7 * o) :: st) G Q := by
  obtain ⟨f, g, hL, h1, h2, h3, h4⟩ := hB.2.2.2.2.1 o ho
  refine ln_rputN hL k0 (by omega) hln hfin hdt (hset _ _ _ _) hd (fun G1 hL1 => ?_)
  exact k G1 (hB.lane ho ⟨f, g, hL1, h1, h2, h3, h4⟩)
/-- whether a queue has sent in this tick, written from outside -/
theorem bx_rsent {host : String} {j : Nat} (hB : bx_I cy G0 G b hs S) (hj : j < 4) (hln : Cond.fieldLinkNest Y.1.cls idx (TX2 6).1 (TX2 6).2.1 (TX2 6).2.2.1 host ∈ cc_NT) (hd : decode Y.2.1 pc = .ok (.putfield idx, 3)) (k : ∀ G1, bx_I cy G0 G1 b (va_up hs j 0) S → cc_R cy Y z (pc + 3) ls st G1 Q) : cc_R cy Y z pc ls (.int 0 :: .ref (b + 6 + 7 * j) :: st) G Q := by
  obtain ⟨n1, n2, n3, hL, h1, h2⟩ := hB.2.2.2.2.2 j hj
  refine qu_rputN (sz' := _) (bl' := _) (se' := _) (hs' := 0) hL 6 (by decide) hln rfl rfl rfl rfl rfl hd (fun G1 hL1 => ?_)
  refine k G1 ((hB.queue hj (q' := S.2.2 j) ⟨n1, n2, n3, hL1, h1, h2⟩).to (fun _ _ => rfl) (fun _ _ => rfl) (fun i hi => ?_) (fun _ _ => rfl))
  by_cases hq : i = j
  · subst hq; exact va_up_self _ _ _
  · exact va_up_ne _ _ hq
end BXR
def B_mapI {α : Type} (n : Nat) (F : Nat → α → α) (X : Nat → α) : Nat → α := fun j => if j < n then F j (X j) else X j
theorem B_mapI_at {α : Type} {F : Nat → α → α} {X : Nat → α} {i : Nat} : B_mapI i F X i = X i := if_neg (Nat.lt_irrefl i)
theorem B_mapI_0 {α : Type} {F : Nat → α → α} {X : Nat → α} : B_mapI 0 F X = X := funext fun j => if_neg (Nat.not_lt_zero j)
theorem B_mapI_s {α : Type} {F : Nat → α → α} {X : Nat → α} {i : Nat} : va_up (B_mapI i F X) i (F i (X i)) = B_mapI (i + 1) F X := by
  funext j
  by_cases hq : j = i
  · subst hq
    rw [va_up_self]
    exact (if_pos (Nat.lt_succ_self j)).symm
  · rw [va_up_ne _ _ hq]
    unfold B_mapI
    by_cases hl : j < i
    · rw [if_pos hl, if_pos (by omega)]
    · rw [if_neg hl, if_neg (by omega)]
theorem B_mapI_in {α : Type} {F : Nat → α → α} {X : Nat → α} {n j : Nat} (h : j < n) : B_mapI n F X j = F j (X j) := if_pos h
theorem bx_lane_at {cy : Nat → ClassId} {G0 G : cc_G} {b i : Nat} {hs g : Nat → Int32} {F : Nat → Ln_ → Ln_} {Ls : Nat → Ln_} {Qs : Nat → Qu_} (hB : bx_I cy G0 G b hs (g, B_mapI i F Ls, Qs)) (hi : i < 4) : ln_I cy G G (b + 3 + 7 * i) (Ls i) := by
  have h := hB.2.2.2.2.1 i hi
  rw [show (g, B_mapI i F Ls, Qs).2.1 i = Ls i from B_mapI_at] at h
  exact h
theorem bx_lane_up {cy : Nat → ClassId} {G0 G G1 : cc_G} {b i : Nat} {hs g : Nat → Int32} {F : Nat → Ln_ → Ln_} {Ls : Nat → Ln_} {Qs : Nat → Qu_} (hB : bx_I cy G0 G b hs (g, B_mapI i F Ls, Qs)) (hi : i < 4) (hq : ln_I cy G G1 (b + 3 + 7 * i) (F i (Ls i))) : bx_I cy G0 G1 b hs (g, B_mapI (i + 1) F Ls, Qs) := by
  have h := hB.lane hi hq
  rw [show va_up (g, B_mapI i F Ls, Qs).2.1 i (F i (Ls i)) = B_mapI (i + 1) F Ls from B_mapI_s] at h
  exact h
theorem bx_queue_at {cy : Nat → ClassId} {G0 G : cc_G} {b i : Nat} {hs g : Nat → Int32} {F : Nat → Qu_ → Qu_} {Ls : Nat → Ln_} {Qs : Nat → Qu_} (hB : bx_I cy G0 G b hs (g, Ls, B_mapI i F Qs)) (hi : i < 4) : qu_I cy G G (b + 6 + 7 * i) (hs i) (Qs i) := by
  have h := hB.2.2.2.2.2 i hi
  rw [show (g, Ls, B_mapI i F Qs).2.2 i = Qs i from B_mapI_at] at h
  exact h
theorem bx_queue_up {cy : Nat → ClassId} {G0 G G1 : cc_G} {b i : Nat} {hs g : Nat → Int32} {F : Nat → Qu_ → Qu_} {Ls : Nat → Ln_} {Qs : Nat → Qu_} (hB : bx_I cy G0 G b hs (g, Ls, B_mapI i F Qs)) (hi : i < 4) (hq : qu_I cy G G1 (b + 6 + 7 * i) (hs i) (F i (Qs i))) : bx_I cy G0 G1 b hs (g, Ls, B_mapI (i + 1) F Qs) := by
  have h := hB.queue hi hq
  rw [show va_up (g, Ls, B_mapI i F Qs).2.2 i (F i (Qs i)) = B_mapI (i + 1) F Qs from B_mapI_s] at h
  exact h.to (fun _ _ => rfl) (fun _ _ => rfl) (fun _ _ => rfl) (fun j hj => by
    by_cases hq : j = i
    · subst hq; exact va_up_self _ _ _
    · exact va_up_ne _ _ hq)
def B_begF (S : St_) (L : Ln_) : Ln_ := if 0 < S.1 2 ∧ cc_rm (S.1 0) (S.1 2) = 0 then L_mend (L_come (S.1 0) L) else L_come (S.1 0) L
/-- what happens ahead of the sending -/
def B_beg (S : St_) : St_ := (S.1, B_mapI 4 (fun _ L => B_begF S L) S.2.1, S.2.2)
/-- the input that sends to an output, and the place of its packet: n steps are left, from the step s on -/
def B_try (o m : Int32) (Qs : Nat → Qu_) (hs : Nat → Int32) (t : Nat) : Nat → Nat → Option (Nat × Nat)
  | 0, _ => none
  | n + 1, s => if hs ((t + s) % 4) = 0 then (match Q_off o m (Qs ((t + s) % 4)).2.2 with
    | some k => some ((t + s) % 4, k)
    | none => B_try o m Qs hs t n (s + 1)) else B_try o m Qs hs t n (s + 1)
def B_put (o j k : Nat) (X : St_ × (Nat → Int32)) : St_ × (Nat → Int32) :=
  ((X.1.1, va_up X.1.2.1 o (upd (L_recv ((X.1.2.2 j).2.2.getD k (0, 0, 0)).1 (X.1.2.1 o)).1 4 (nI ((j + 1) % 4)), (L_recv ((X.1.2.2 j).2.2.getD k (0, 0, 0)).1 (X.1.2.1 o)).2), va_up X.1.2.2 j ((X.1.2.2 j).1, (X.1.2.2 j).2.1 + 1, (X.1.2.2 j).2.2.eraseIdx k)), va_up X.2 j 1)
/-- what is sent to the output o, with the turn t; and the state then -/
def B_send (o t : Nat) (X : St_ × (Nat → Int32)) : Option Int32 × (St_ × (Nat → Int32)) :=
  if (X.1.2.1 o).1 3 ≤ 0 then (none, X) else match B_try (nI o) (X.1.1 1) X.1.2.2 X.2 t 4 0 with
    | none => (none, X)
    | some (j, k) => (some ((X.1.2.2 j).2.2.getD k (0, 0, 0)).1, B_put o j k X)
def B_turn (S : St_) (o : Nat) : Nat := ((S.2.1 o).1 4).toNatClampNeg
def B_sends : Nat → St_ × (Nat → Int32) → Nat × (St_ × (Nat → Int32))
  | 0, X => (0, X)
  | i + 1, X => ((if (B_send i (B_turn (B_sends i X).2.1 i) (B_sends i X).2).1.isSome then (B_sends i X).1 + 1 else (B_sends i X).1), (B_send i (B_turn (B_sends i X).2.1 i) (B_sends i X).2).2)
def B_end (X : St_ × (Nat → Int32)) : St_ := (upd X.1.1 0 (X.1.1 0 + 1), B_mapI 4 (fun _ L => L_take (X.1.1 0) L) X.1.2.1, B_mapI 4 (fun j q => (if q.2.2 ≠ [] ∧ X.2 j = 0 then q.1 + 1 else q.1, q.2.1, q.2.2)) X.1.2.2)
/-- a tick passes: how many packets are sent, and the state then -/
def B_tick (S : St_) : Nat × St_ := ((B_sends 4 (B_beg S, fun _ => 0)).1, B_end (B_sends 4 (B_beg S, fun _ => 0)).2)
theorem B_tick_eq {S : St_} {X : Nat × (St_ × (Nat → Int32))} (h : X = B_sends 4 (B_beg S, fun _ => 0)) : B_tick S = (X.1, B_end X.2) := by
  subst h
  rfl
def B_pass : Nat → St_ → Nat × St_
  | 0, S => (0, S)
  | n + 1, S => ((B_pass n S).1 + (B_tick (B_pass n S).2).1, (B_tick (B_pass n S).2).2)
def B_wt (o : Int32) (S : St_) : Nat → Nat
  | 0 => 0
  | i + 1 => B_wt o S i + Q_cn o (S.2.2 i).2.2 (S.2.2 i).2.2.length
noncomputable def B_stb (S : St_) (o : Nat) : Nat := if S.1 2 = 0 ∧ ((S.2.1 o).1 3 ≤ 0 ∧ nI (S.2.1 o).2.1.length = 0 ∧ nI (S.2.1 o).2.2.length = 0) ∧ 0 < nI (B_wt (nI o) S 4) then 1 else 0
noncomputable def B_stn (S : St_) : Nat → Nat
  | 0 => 0
  | i + 1 => B_stn S i + B_stb S i
def L_fig (x1 : Int32) (L : Ln_) : Int32 := (if x1 = 0 then L.1 0 else if x1 = 1 then L.1 1 else if x1 = 2 then L.1 2 else if x1 = 3 then L.1 3 + 100 else if x1 = 4 then nI L.2.1.length else if x1 = 5 then nI L.2.2.length else if x1 = 6 then L.1 0 - L.1 3 - nI L.2.1.length - nI L.2.2.length + 100 else if x1 = 7 then L.1 4 else if x1 = 8 then L.1 5 else if x1 = 9 then L.1 6 else if x1 = 10 then L.1 7 else if x1 = 11 then L.1 8 else (-2))
def Q_fig (x1 : Int32) (q : Qu_) : Int32 := (if x1 = 0 then nI q.2.2.length else if x1 = 1 then q.1 else if x1 = 2 then q.2.1 else if x1 = 3 then (if q.2.2.length = 0 then (-5) else (q.2.2.getD 0 (0, 0, 0)).2.1) else (-2))
def B_sl (x : Int32) (S : St_) : Nat → Int32
  | 0 => 0
  | i + 1 => B_sl x S i + L_fig x (S.2.1 i)
def B_sq (x : Int32) (S : St_) : Nat → Int32
  | 0 => 0
  | i + 1 => B_sq x S i + Q_fig x (S.2.2 i)
noncomputable def B_fig (x : Int32) (S : St_) : Int32 := if x = 0 then S.1 0 else if x = 1 then S.1 3 else if x = 2 then B_sq 0 S 4 else if x = 3 then B_sl 8 S 4 else if x = 4 then B_sl 9 S 4 else if x = 5 then B_sl 10 S 4 else if x = 6 then B_sl 4 S 4 else if x = 7 then B_sq 1 S 4 else if x = 8 then S.1 1 else if x = 9 then S.1 2 else if x = 10 then nI (B_stn S 4) else (-2)
def bx_E (cy : Nat → ClassId) (G0 G : cc_G) (b : Nat) (S : St_) : Prop := ∃ hs, bx_I cy G0 G b hs S
/-- what a tick needs of a box when its credits have come -/
def B_mid (S : St_) : Prop := ∀ j, j < 4 → (S.2.1 j).1 0 ≤ 8 ∧ 0 < (S.2.1 j).1 1 ∧ (∃ t, t < 4 ∧ (S.2.1 j).1 4 = nI t) ∧ (S.2.1 j).2.2.length ≤ 5 ∧ ∀ p ∈ (S.2.2 j).2.2, p.1 ≠ -5
theorem L_recv_k (n : Int32) (L : Ln_) : (L_recv n L).1 0 = L.1 0 ∧ (L_recv n L).1 1 = L.1 1 ∧ (L_recv n L).2.2 = L.2.2 := by
  unfold L_recv
  split <;> exact ⟨rfl, rfl, rfl⟩
theorem B_try_lt {o m : Int32} {Qs : Nat → Qu_} {hs : Nat → Int32} {t : Nat} : ∀ {n s : Nat} {j k : Nat}, B_try o m Qs hs t n s = some (j, k) → j < 4 ∧ k < (Qs j).2.2.length ∧ ((Qs j).2.2.getD k (0, 0, 0)).2.1 = o ∧ hs j = 0
  | 0, s, j, k, h => by cases h
  | n + 1, s, j, k, h => by
    unfold B_try at h
    split at h
    next h0 =>
      split at h
      next k0 hq =>
        cases h
        exact ⟨Nat.mod_lt _ (by decide), (Q_off_lt hq).1, (Q_off_lt hq).2, h0⟩
      next hq => exact B_try_lt h
    next h0 => exact B_try_lt h
/-- the two ends of a sending -/
theorem B_send_cases (o t : Nat) (X : St_ × (Nat → Int32)) : B_send o t X = (none, X) ∨ ∃ j k, j < 4 ∧ k < (X.1.2.2 j).2.2.length ∧ ((X.1.2.2 j).2.2.getD k (0, 0, 0)).2.1 = nI o ∧ X.2 j = 0 ∧ B_send o t X = (some ((X.1.2.2 j).2.2.getD k (0, 0, 0)).1, B_put o j k X) := by
  unfold B_send
  split
  · exact Or.inl rfl
  · split
    · exact Or.inl rfl
    next j k h =>
      obtain ⟨h1, h2, h3, h4⟩ := B_try_lt h
      exact Or.inr ⟨j, k, h1, h2, h3, h4, rfl⟩
theorem cc_getD_mem {α : Type} {l : List α} {k : Nat} {d : α} (h : k < l.length) : l.getD k d ∈ l := by
  rw [List.getD_eq_getElem?_getD, List.getElem?_eq_getElem h]
  exact List.getElem_mem _
theorem B_mid.send {X : St_ × (Nat → Int32)} (h : B_mid X.1) (hh : ∀ j, j < 4 → X.2 j = 0 ∨ X.2 j = 1) (o t : Nat) : B_mid (B_send o t X).2.1 ∧ (∀ j, j < 4 → (B_send o t X).2.2 j = 0 ∨ (B_send o t X).2.2 j = 1) ∧ ∀ n, (B_send o t X).1 = some n → n ≠ -5 := by
  rcases B_send_cases o t X with e | ⟨j, k, h1, h2, h3, h4, e⟩
  · rw [e]
    exact ⟨h, hh, fun n hn => by cases hn⟩
  · rw [e]
    refine ⟨fun i hi => ?_, fun i hi => ?_, fun n hn => ?_⟩
    · obtain ⟨a1, a2, a3, a4, a5⟩ := h i hi
      have hq : ∀ p ∈ ((B_put o j k X).1.2.2 i).2.2, p.1 ≠ -5 := by
        intro p hp
        by_cases hij : i = j
        · subst hij
          have hp : p ∈ (va_up X.1.2.2 i ((X.1.2.2 i).1, (X.1.2.2 i).2.1 + 1, (X.1.2.2 i).2.2.eraseIdx k) i).2.2 := hp
          rw [va_up_self] at hp
          exact a5 p (List.mem_of_mem_eraseIdx hp)
        · have hp : p ∈ (va_up X.1.2.2 j ((X.1.2.2 j).1, (X.1.2.2 j).2.1 + 1, (X.1.2.2 j).2.2.eraseIdx k) i).2.2 := hp
          rw [va_up_ne _ _ hij] at hp
          exact a5 p hp
      by_cases hio : i = o
      · subst hio
        have e2 : (B_put i j k X).1.2.1 i = (upd (L_recv ((X.1.2.2 j).2.2.getD k (0, 0, 0)).1 (X.1.2.1 i)).1 4 (nI ((j + 1) % 4)), (L_recv ((X.1.2.2 j).2.2.getD k (0, 0, 0)).1 (X.1.2.1 i)).2) := va_up_self _ _ _
        obtain ⟨r1, r2, r3⟩ := L_recv_k ((X.1.2.2 j).2.2.getD k (0, 0, 0)).1 (X.1.2.1 i)
        dsimp only
        rw [e2]
        have u0 : (upd (L_recv ((X.1.2.2 j).2.2.getD k (0, 0, 0)).1 (X.1.2.1 i)).1 4 (nI ((j + 1) % 4))) 0 = (X.1.2.1 i).1 0 := (pk_un (by decide)).trans r1
        have u1 : (upd (L_recv ((X.1.2.2 j).2.2.getD k (0, 0, 0)).1 (X.1.2.1 i)).1 4 (nI ((j + 1) % 4))) 1 = (X.1.2.1 i).1 1 := (pk_un (by decide)).trans r2
        rw [← u0] at a1
        rw [← u1] at a2
        rw [← r3] at a4
        exact ⟨a1, a2, ⟨(j + 1) % 4, Nat.mod_lt _ (by decide), pk_us (f := (L_recv ((X.1.2.2 j).2.2.getD k (0, 0, 0)).1 (X.1.2.1 i)).1) (k := 4) (x := nI ((j + 1) % 4))⟩, a4, hq⟩
      · have e2 : (B_put o j k X).1.2.1 i = X.1.2.1 i := va_up_ne _ _ hio
        dsimp only
        rw [e2]
        exact ⟨a1, a2, a3, a4, hq⟩
    · by_cases hij : i = j
      · subst hij
        exact Or.inr (va_up_self _ _ _)
      · show va_up X.2 j 1 i = 0 ∨ va_up X.2 j 1 i = 1
        rw [va_up_ne _ _ hij]
        exact hh i hi
    · cases hn
      exact (h j h1).2.2.2.2 _ (cc_getD_mem h2)
theorem B_mid.sends {X : St_ × (Nat → Int32)} (h : B_mid X.1) (hh : ∀ j, j < 4 → X.2 j = 0 ∨ X.2 j = 1) : ∀ i, B_mid (B_sends i X).2.1 ∧ ∀ j, j < 4 → (B_sends i X).2.2 j = 0 ∨ (B_sends i X).2.2 j = 1 := by
  intro i
  induction i with
  | zero => exact ⟨h, hh⟩
  | succ i ih =>
    have := B_mid.send ih.1 ih.2 i (B_turn (B_sends i X).2.1 i)
    exact ⟨this.1, this.2.1⟩
theorem B_mid.turn {S : St_} (h : B_mid S) {o : Nat} (ho : o < 4) : (S.2.1 o).1 4 = nI (B_turn S o) ∧ B_turn S o < 4 := by
  obtain ⟨-, -, ⟨t, h1, h2⟩, -⟩ := h o ho
  have e : B_turn S o = t := by unfold B_turn; rw [h2]; exact nI_clamp (by omega)
  rw [e]
  exact ⟨h2, h1⟩
theorem B_sends_le (X : St_ × (Nat → Int32)) : ∀ i, (B_sends i X).1 ≤ i := by
  intro i
  induction i with
  | zero => exact Nat.le_refl 0
  | succ i ih =>
    have e : (B_sends (i + 1) X).1 = if (B_send i (B_turn (B_sends i X).2.1 i) (B_sends i X).2).1.isSome then (B_sends i X).1 + 1 else (B_sends i X).1 := rfl
    rw [e]
    split
    · omega
    · omega
def B_adm (i : Nat) (o : Int32) (S : St_) : St_ := (upd S.1 3 (S.1 3 + 1), S.2.1, va_up S.2.2 i ((S.2.2 i).1, (S.2.2 i).2.1, (S.2.2 i).2.2 ++ [(S.1 3, o, S.1 0)]))
theorem cc_rm4 {n : Nat} (h : n < 2 ^ 31) : cc_rm (nI n) 4 = nI (n % 4) := pk_rem (d := 4) h (by decide) (by decide)
theorem Q_wt_le (o : Int32) (S : St_) (h : ∀ j, j < 4 → (S.2.2 j).2.2.length ≤ 8) : ∀ i, i ≤ 4 → B_wt o S i ≤ 8 * i := by
  intro i
  induction i with
  | zero => intro _; exact Nat.le_refl 0
  | succ i ih =>
    intro hi
    have h1 := Q_cn_le o (S.2.2 i).2.2 (S.2.2 i).2.2.length
    have h2 := h i (by omega)
    have h3 := ih (by omega)
    show B_wt o S i + _ ≤ _
    omega
end
section
set_option maxHeartbeats 4000000 in
set_option maxRecDepth 100000 in
theorem ct_X0_beginTick (cy : Nat → ClassId) (z : Nat) (G : cc_G) (b : Nat) (hs : Nat → Int32) (S : St_)  (hB : bx_I cy G G b hs S) : cc_Cn cy Y_X0_beginTick [.ref b] z G (cc_qv (fun G' => bx_I cy G G' b (fun _ => 0) (B_beg S))) := by
  
  have loop_27 : ∀ (n i : Nat) (mn : Int32) (G1 : cc_G), 4 < i + n → i ≤ 4 → ((mn = 1 ∧ (0 < S.1 2 ∧ cc_rm (S.1 0) (S.1 2) = 0)) ∨ (mn = 0 ∧ ¬ (0 < S.1 2 ∧ cc_rm (S.1 0) (S.1 2) = 0))) → bx_I cy G G1 b (B_mapI i (fun _ _ => 0) hs) (S.1, B_mapI i (fun _ L => B_begF S L) S.2.1, S.2.2) → cc_R cy Y_X0_beginTick z 27 [(2, .int (nI i)), (1, .int mn), (0, .ref b)] [] G1 (cc_qv (fun G' => bx_I cy G G' b (fun _ => 0) (B_beg S))) := by
    intro n
    induction n with
    | zero => intro i mn G1 h1 h2; exact absurd h1 (by omega)
    | succ n ih =>
      intro i mn G1 hn hi hmn hB
      refine cc_iload_n (j := 0) dX0_beginTick_27 rfl rfl ?_
      refine cc_iconst (v := 4) dX0_beginTick_28 (by decide) ?_
      refine cc_icmp_ge (tgt := 74) dX0_beginTick_29 (by decide) (fun c_29 => ?_) (fun c_29 => ?_)
      · have hge : i = 4 := by have := cc_ngt 4 c_29 (by omega) (by decide); omega
        subst hge
        refine cc_vret rfl dX0_beginTick_74 ?_
        exact ⟨rfl, hB.to (fun _ _ => rfl) (fun _ _ => rfl) (fun _ _ => rfl) (fun j hj => B_mapI_in hj)⟩
      · have hlt : i < 4 := cc_nlt 4 c_29 (by omega)
        refine cc_aload_n (j := 2) dX0_beginTick_32 rfl rfl ?_
        refine cc_get (v := .ref (b + 2)) hB.2.1 cc_c0 5 (by decide) fl_X0_32 rfl dX0_beginTick_33 ?_
        refine cc_iload_n (j := 0) dX0_beginTick_36 rfl rfl ?_
        refine cc_aald5 (x := b + 6 + 7 * i) hB.2.2.2.1 (vp_in_nI (n := i) (by omega) (by decide)) (by rw [(nI_clamp (by omega))]; rfl) dX0_beginTick_37 ?_
        refine cc_iconst (v := 0) dX0_beginTick_38 (by decide) ?_
        refine bx_rsent hB hlt fn_X0_67 dX0_beginTick_39 (fun G2 hB1 => ?_)
        have hB3 : bx_I cy G G2 b (B_mapI (i + 1) (fun _ _ => 0) hs) (S.1, B_mapI i (fun _ L => B_begF S L) S.2.1, S.2.2) := by
          rw [← B_mapI_s]; exact hB1
        refine cc_aload_n (j := 2) dX0_beginTick_42 rfl rfl ?_
        refine cc_get (v := .ref (b + 1)) hB3.2.1 cc_c0 4 (by decide) fl_X0_26 rfl dX0_beginTick_43 ?_
        refine cc_iload_n (j := 0) dX0_beginTick_46 rfl rfl ?_
        refine cc_aald4 (x := b + 3 + 7 * i) hB3.2.2.1 (vp_in_nI (n := i) (by omega) (by decide)) (by rw [(nI_clamp (by omega))]; rfl) dX0_beginTick_47 ?_
        refine cc_aload_n (j := 2) dX0_beginTick_48 rfl rfl ?_
        refine cc_get (v := .int (S.1 0)) hB3.2.1 cc_c0 0 (by decide) fl_X0_9 rfl dX0_beginTick_49 ?_
        obtain ⟨_, _, hLr, -⟩ := bx_lane_at hB3 hlt
        refine cc_callNv (As := [.int (S.1 0)]) (rest := []) (ct_X1_letCreditsCome cy z _ _ (S.2.1 i).1 (S.2.1 i).2.1 (S.2.1 i).2.2 _ (bx_lane_at hB3 hlt)) ok_X1_letCreditsCome (hLr.2.1) rfl im_X1_letCreditsCome sl_X1_letCreditsCome mn_X0_71 nd_X1_letCreditsCome (by decide +kernel) (Nat.le_of_ble_eq_true rfl) rfl dX0_beginTick_52 (fun G4 q6 => ?_)
        have q6 : ln_I cy _ G4 (b + 3 + 7 * i) (L_come (S.1 0) (S.2.1 i)) := q6
        have hB7 := hB3.lane hlt q6
        refine cc_iload_n (j := 1) dX0_beginTick_55 rfl rfl ?_
        refine cc_if_eq (tgt := 68) dX0_beginTick_56 (by decide) (fun c_56 => ?_) (fun c_56 => ?_)
        · refine cc_iinc (j := 0) (v := nI (i + 1)) (ls' := [(2, .int (nI (i + 1))), (1, .int mn), (0, .ref b)]) dX0_beginTick_68 rfl (nI_1 i) (Nat.le_of_ble_eq_true rfl) rfl ?_
          refine cc_goto (tgt := 27) dX0_beginTick_71 (by decide) ?_
          have hC : ¬ (0 < S.1 2 ∧ cc_rm (S.1 0) (S.1 2) = 0) := by
            rcases hmn with h | h
            · exact absurd (h.1.symm.trans c_56) (by decide)
            · exact h.2
          exact ih (i + 1) mn _ (by omega) (by omega) hmn (bx_lane_up hB3 hlt (by show ln_I cy _ _ _ (B_begF S (S.2.1 i)); unfold B_begF; rw [if_neg hC]; exact q6))
        · refine cc_aload_n (j := 2) dX0_beginTick_59 rfl rfl ?_
          refine cc_get (v := .ref (b + 1)) hB7.2.1 cc_c0 4 (by decide) fl_X0_26 rfl dX0_beginTick_60 ?_
          refine cc_iload_n (j := 0) dX0_beginTick_63 rfl rfl ?_
          refine cc_aald4 (x := b + 3 + 7 * i) hB7.2.2.1 (vp_in_nI (n := i) (by omega) (by decide)) (by rw [(nI_clamp (by omega))]; rfl) dX0_beginTick_64 ?_
          obtain ⟨_, _, hL2, hf2, hg2, h82, h62⟩ := q6.self
          refine cc_callNv (As := []) (rest := []) (ct_X1_mend cy z _ _ _ _ _ _ _ hL2) ok_X1_mend (hL2.2.1) rfl im_X1_mend sl_X1_mend mn_X0_74 nd_X1_mend (by decide +kernel) (Nat.le_of_ble_eq_true rfl) rfl dX0_beginTick_65 (fun G8 q10 => ?_)
          have q10 : ln_I cy _ G8 (b + 3 + 7 * i) (L_mend (L_come (S.1 0) (S.2.1 i))) := q6.tr ⟨_, _, q10, hf2, hg2, h82, h62⟩
          have hB11 := hB3.lane hlt q10
          refine cc_iinc (j := 0) (v := nI (i + 1)) (ls' := [(2, .int (nI (i + 1))), (1, .int mn), (0, .ref b)]) dX0_beginTick_68 rfl (nI_1 i) (Nat.le_of_ble_eq_true rfl) rfl ?_
          refine cc_goto (tgt := 27) dX0_beginTick_71 (by decide) ?_
          have hC : 0 < S.1 2 ∧ cc_rm (S.1 0) (S.1 2) = 0 := by
            rcases hmn with h | h
            · exact h.2
            · exact absurd h.1 c_56
          exact ih (i + 1) mn _ (by omega) (by omega) hmn (bx_lane_up hB3 hlt (by show ln_I cy _ _ _ (B_begF S (S.2.1 i)); unfold B_begF; rw [if_pos hC]; exact q10))
  refine cc_enter ok_X0_beginTick (Nat.le_of_ble_eq_true rfl) (ls := [(0, .ref b)]) rfl ?_
  refine cc_aload_n (j := 0) dX0_beginTick_0 rfl rfl ?_
  refine cc_get (v := .int (S.1 2)) hB.2.1 cc_c0 2 (by decide) fl_X0_18 rfl dX0_beginTick_1 ?_
  refine cc_if_le (tgt := 23) dX0_beginTick_4 (by decide) (fun c_4 => ?_) (fun c_4 => ?_)
  · refine cc_iconst (v := 0) dX0_beginTick_23 (by decide) ?_
    refine cc_istore_n (ls' := [(1, .int 0), (0, .ref b)]) dX0_beginTick_24 rfl (Nat.le_of_ble_eq_true rfl) rfl ?_
    refine cc_iconst (v := 0) dX0_beginTick_25 (by decide) ?_
    refine cc_istore_n (ls' := [(2, .int 0), (1, .int 0), (0, .ref b)]) dX0_beginTick_26 rfl (Nat.le_of_ble_eq_true rfl) rfl ?_
    exact loop_27 5 0 0 _ (by omega) (by omega) (Or.inr ⟨rfl, fun q => absurd q.1 (Int32.not_lt.mpr c_4)⟩) (by rw [B_mapI_0, B_mapI_0]; exact hB)
  · refine cc_aload_n (j := 0) dX0_beginTick_7 rfl rfl ?_
    refine cc_get (v := .int (S.1 0)) hB.2.1 cc_c0 0 (by decide) fl_X0_9 rfl dX0_beginTick_8 ?_
    refine cc_aload_n (j := 0) dX0_beginTick_11 rfl rfl ?_
    refine cc_get (v := .int (S.1 2)) hB.2.1 cc_c0 2 (by decide) fl_X0_18 rfl dX0_beginTick_12 ?_
    refine cc_irem dX0_beginTick_15 (fun q => c_4 (by rw [q]; decide)) ?_
    refine cc_if_ne (tgt := 23) dX0_beginTick_16 (by decide) (fun c_16 => ?_) (fun c_16 => ?_)
    · refine cc_iconst (v := 0) dX0_beginTick_23 (by decide) ?_
      refine cc_istore_n (ls' := [(1, .int 0), (0, .ref b)]) dX0_beginTick_24 rfl (Nat.le_of_ble_eq_true rfl) rfl ?_
      refine cc_iconst (v := 0) dX0_beginTick_25 (by decide) ?_
      refine cc_istore_n (ls' := [(2, .int 0), (1, .int 0), (0, .ref b)]) dX0_beginTick_26 rfl (Nat.le_of_ble_eq_true rfl) rfl ?_
      exact loop_27 5 0 0 _ (by omega) (by omega) (Or.inr ⟨rfl, fun q => c_16 q.2⟩) (by rw [B_mapI_0, B_mapI_0]; exact hB)
    · refine cc_iconst (v := 1) dX0_beginTick_19 (by decide) ?_
      refine cc_goto (tgt := 24) dX0_beginTick_20 (by decide) ?_
      refine cc_istore_n (ls' := [(1, .int 1), (0, .ref b)]) dX0_beginTick_24 rfl (Nat.le_of_ble_eq_true rfl) rfl ?_
      refine cc_iconst (v := 0) dX0_beginTick_25 (by decide) ?_
      refine cc_istore_n (ls' := [(2, .int 0), (1, .int 1), (0, .ref b)]) dX0_beginTick_26 rfl (Nat.le_of_ble_eq_true rfl) rfl ?_
      exact loop_27 5 0 1 _ (by omega) (by omega) (Or.inl ⟨rfl, Int32.not_le.mp c_4, by simpa using c_16⟩) (by rw [B_mapI_0, B_mapI_0]; exact hB)

set_option maxHeartbeats 4000000 in
set_option maxRecDepth 100000 in
theorem ct_X0_sendTo (cy : Nat → ClassId) (z : Nat) (G : cc_G) (b : Nat) (hs : Nat → Int32) (S : St_) (o t : Nat) (ho : o < 4) (ht : (S.2.1 o).1 4 = nI t) (ht4 : t < 4) (hch : (S.2.1 o).1 0 ≤ 8) (hhs : ∀ j, j < 4 → hs j = 0 ∨ hs j = 1) (hB : bx_I cy G G b hs S) : cc_Cn cy Y_X0_sendTo [.ref b, .int (nI o)] z G (cc_qi (fun r G' => r = (match (B_send o t (S, hs)).1 with | some n => n | none => (-5)) ∧ bx_I cy G G' b (B_send o t (S, hs)).2.2 (B_send o t (S, hs)).2.1)) := by
  
  have loop_19 : 0 < (S.2.1 o).1 3 → ∀ (n s : Nat), s + n = 4 → B_try (nI o) (S.1 1) S.2.2 hs t 4 0 = B_try (nI o) (S.1 1) S.2.2 hs t n s → cc_R cy Y_X0_sendTo z 19 [(3, .int (nI s)), (2, .ref (b + 3 + 7 * o)), (0, .ref b), (1, .int (nI o))] [] G (cc_qi (fun r G' => r = (match (B_send o t (S, hs)).1 with | some n => n | none => (-5)) ∧ bx_I cy G G' b (B_send o t (S, hs)).2.2 (B_send o t (S, hs)).2.1)) := by
    intro hcr
    intro n
    induction n with
    | zero =>
      intro s hsn hT
      have hs4 : s = 4 := by omega
      subst hs4
      have hT : B_try (nI o) (S.1 1) S.2.2 hs t 4 0 = none := hT
      refine cc_iload_n (j := 0) dX0_sendTo_19 rfl rfl ?_
      refine cc_iconst (v := 4) dX0_sendTo_20 (by decide) ?_
      refine cc_icmp_ge (tgt := 96) dX0_sendTo_21 (by decide) (fun c_21 => ?_) (fun c_21 => ?_)
      · refine cc_bipush (v := (-5)) dX0_sendTo_96 (by decide) ?_
        refine cc_iret rfl rfl dX0_sendTo_98 ?_
        have hS : B_send o t (S, hs) = (none, S, hs) := by
          unfold B_send; rw [if_neg (Int32.not_le.mpr hcr), hT]
        rw [hS]
        exact ⟨_, rfl, rfl, hB⟩
      · exact absurd (by decide) c_21
    | succ n ih =>
      intro s hsn hT
      have hj : (t + s) % 4 < 4 := Nat.mod_lt _ (by decide)
      refine cc_iload_n (j := 0) dX0_sendTo_19 rfl rfl ?_
      refine cc_iconst (v := 4) dX0_sendTo_20 (by decide) ?_
      refine cc_icmp_ge (tgt := 96) dX0_sendTo_21 (by decide) (fun c_21 => ?_) (fun c_21 => ?_)
      · exact absurd (cc_ngt 4 c_21 (by omega) (by decide)) (by omega)
      · refine cc_aload_n (j := 1) dX0_sendTo_24 rfl rfl ?_
        obtain ⟨_, _, hLr1, -⟩ := hB.2.2.2.2.1 o ho
        refine cc_getN (v := .int ((S.2.1 o).1 4)) hLr1.2.1 cc_c1 4 (by decide) fn_X0_80 rfl dX0_sendTo_25 ?_
        refine cc_iload_n (j := 0) dX0_sendTo_28 rfl rfl ?_
        refine cc_iadd dX0_sendTo_29 ?_
        rw [show ((S.2.1 o).1 4) + (nI s) = nI (t + s) from (by rw [ht]; exact nI_add _ _)]
        refine cc_iconst (v := 4) dX0_sendTo_30 (by decide) ?_
        refine cc_irem dX0_sendTo_31 (by decide) ?_
        rw [show cc_rm (nI (t + s)) 4 = nI ((t + s) % 4) from cc_rm4 (by omega)]
        refine cc_istore (ls' := [(4, .int (nI ((t + s) % 4))), (3, .int (nI s)), (2, .ref (b + 3 + 7 * o)), (0, .ref b), (1, .int (nI o))]) dX0_sendTo_32 (Nat.le_of_ble_eq_true rfl) rfl ?_
        refine cc_aload_n (j := 3) dX0_sendTo_34 rfl rfl ?_
        refine cc_get (v := .ref (b + 2)) hB.2.1 cc_c0 5 (by decide) fl_X0_32 rfl dX0_sendTo_35 ?_
        refine cc_iload (j := 0) dX0_sendTo_38 rfl ?_
        refine cc_aald5 (x := b + 6 + 7 * ((t + s) % 4)) hB.2.2.2.1 (vp_in_nI (n := ((t + s) % 4)) (by omega) (by decide)) (by rw [(nI_clamp (by omega))]; rfl) dX0_sendTo_40 ?_
        rcases hhs ((t + s) % 4) hj with h0 | h0
        · refine cc_iload_n (j := 4) dX0_sendTo_41 rfl rfl ?_
          refine cc_aload_n (j := 3) dX0_sendTo_42 rfl rfl ?_
          refine cc_get (v := .int (S.1 1)) hB.2.1 cc_c0 1 (by decide) fl_X0_15 rfl dX0_sendTo_43 ?_
          rcases hqo : Q_off (nI o) (S.1 1) (S.2.2 ((t + s) % 4)).2.2 with _ | k0
          · obtain ⟨_, _, _, hLr, -, hl8hLr⟩ := hB.2.2.2.2.2 ((t + s) % 4) hj
            refine cc_callNi (As := [.int (nI o), .int (S.1 1)]) (rest := []) (ct_X2_offerFor cy z _ _ (S.2.2 ((t + s) % 4)).1 (S.2.2 ((t + s) % 4)).2.1 _ (S.2.2 ((t + s) % 4)).2.2 _ _ h0 (hB.2.2.2.2.2 ((t + s) % 4) hj)) ok_X2_offerFor (hLr.2.1) rfl im_X2_offerFor sl_X2_offerFor mn_X0_83 nd_X2_offerFor (by decide +kernel) (Nat.le_of_ble_eq_true rfl) rfl dX0_sendTo_46 (fun r3 G2 q4 => ?_)
            obtain ⟨hr, rfl⟩ := q4
            rw [hqo] at hr
            have hr : r3 = (-1) := hr
            subst hr
            refine cc_istore (ls' := [(5, .int (-1)), (4, .int (nI ((t + s) % 4))), (3, .int (nI s)), (2, .ref (b + 3 + 7 * o)), (0, .ref b), (1, .int (nI o))]) dX0_sendTo_49 (Nat.le_of_ble_eq_true rfl) rfl ?_
            refine cc_iload (j := 0) dX0_sendTo_51 rfl ?_
            refine cc_iconst (v := (-1)) dX0_sendTo_53 (by decide) ?_
            refine cc_icmp_eq (tgt := 90) dX0_sendTo_54 (by decide) (fun c_54 => ?_) (fun c_54 => ?_)
            · refine cc_iinc (j := 2) (v := nI (s + 1)) (ls' := [(3, .int (nI (s + 1))), (5, .int (-1)), (4, .int (nI ((t + s) % 4))), (2, .ref (b + 3 + 7 * o)), (0, .ref b), (1, .int (nI o))]) dX0_sendTo_90 rfl (nI_1 s) (Nat.le_of_ble_eq_true rfl) rfl ?_
              refine cc_goto (tgt := 19) dX0_sendTo_93 (by decide) ?_
              refine cc_loc (ls' := [(3, .int (nI (s + 1))), (2, .ref (b + 3 + 7 * o)), (0, .ref b), (1, .int (nI o))]) [0, 3, 4, 5] rfl ?_
              exact ih (s + 1) (by omega) (hT.trans (by conv => { lhs; unfold B_try; rw [if_pos h0, hqo] }))
            · exact absurd c_54 (by decide)
          · obtain ⟨_, _, _, hLr, -, hl8hLr⟩ := hB.2.2.2.2.2 ((t + s) % 4) hj
            refine cc_callNi (As := [.int (nI o), .int (S.1 1)]) (rest := []) (ct_X2_offerFor cy z _ _ (S.2.2 ((t + s) % 4)).1 (S.2.2 ((t + s) % 4)).2.1 _ (S.2.2 ((t + s) % 4)).2.2 _ _ h0 (hB.2.2.2.2.2 ((t + s) % 4) hj)) ok_X2_offerFor (hLr.2.1) rfl im_X2_offerFor sl_X2_offerFor mn_X0_83 nd_X2_offerFor (by decide +kernel) (Nat.le_of_ble_eq_true rfl) rfl dX0_sendTo_46 (fun r6 G5 q7 => ?_)
            obtain ⟨hr, rfl⟩ := q7
            rw [hqo] at hr
            have hr : r6 = nI k0 := hr
            subst hr
            have hk0 := (Q_off_lt hqo).1
            refine cc_istore (ls' := [(5, .int (nI k0)), (4, .int (nI ((t + s) % 4))), (3, .int (nI s)), (2, .ref (b + 3 + 7 * o)), (0, .ref b), (1, .int (nI o))]) dX0_sendTo_49 (Nat.le_of_ble_eq_true rfl) rfl ?_
            refine cc_iload (j := 0) dX0_sendTo_51 rfl ?_
            refine cc_iconst (v := (-1)) dX0_sendTo_53 (by decide) ?_
            refine cc_icmp_eq (tgt := 90) dX0_sendTo_54 (by decide) (fun c_54_1 => ?_) (fun c_54_1 => ?_)
            · exact False.elim (nI_pos (n := k0) (by omega) (by rw [c_54_1]; decide))
            · refine cc_aload_n (j := 4) dX0_sendTo_57 rfl rfl ?_
              refine cc_get (v := .ref (b + 2)) hB.2.1 cc_c0 5 (by decide) fl_X0_32 rfl dX0_sendTo_58 ?_
              refine cc_iload (j := 1) dX0_sendTo_61 rfl ?_
              refine cc_aald5 (x := b + 6 + 7 * ((t + s) % 4)) hB.2.2.2.1 (vp_in_nI (n := ((t + s) % 4)) (by omega) (by decide)) (by rw [(nI_clamp (by omega))]; rfl) dX0_sendTo_63 ?_
              refine cc_iload (j := 0) dX0_sendTo_64 rfl ?_
              obtain ⟨_, _, _, hLr2, -, hl8hLr2⟩ := hB.2.2.2.2.2 ((t + s) % 4) hj
              refine cc_callNi (As := [.int (nI k0)]) (rest := []) (ct_X2_sendFrom cy z _ _ (S.2.2 ((t + s) % 4)).1 (S.2.2 ((t + s) % 4)).2.1 _ (S.2.2 ((t + s) % 4)).2.2 k0 hk0 (hB.2.2.2.2.2 ((t + s) % 4) hj)) ok_X2_sendFrom (hLr2.2.1) rfl im_X2_sendFrom sl_X2_sendFrom mn_X0_87 nd_X2_sendFrom (by decide +kernel) (Nat.le_of_ble_eq_true rfl) rfl dX0_sendTo_66 (fun r9 G8 q10 => ?_)
              obtain ⟨hr2, hq2⟩ := q10
              subst hr2
              have hB11 := hB.queue hj hq2
              refine cc_istore (ls' := [(6, .int (((S.2.2 ((t + s) % 4)).2.2.getD k0 (0, 0, 0)).1)), (5, .int (nI k0)), (4, .int (nI ((t + s) % 4))), (3, .int (nI s)), (2, .ref (b + 3 + 7 * o)), (0, .ref b), (1, .int (nI o))]) dX0_sendTo_69 (Nat.le_of_ble_eq_true rfl) rfl ?_
              refine cc_aload_n (j := 4) dX0_sendTo_71 rfl rfl ?_
              refine cc_iload (j := 0) dX0_sendTo_72 rfl ?_
              obtain ⟨_, _, hLr3, -⟩ := hB11.2.2.2.2.1 o ho
              refine cc_callNv (As := [.int (((S.2.2 ((t + s) % 4)).2.2.getD k0 (0, 0, 0)).1)]) (rest := []) (ct_X1_receive cy z _ _ (S.2.1 o).1 (S.2.1 o).2.1 (S.2.1 o).2.2 (((S.2.2 ((t + s) % 4)).2.2.getD k0 (0, 0, 0)).1) hch (hB11.2.2.2.2.1 o ho)) ok_X1_receive (hLr3.2.1) rfl im_X1_receive sl_X1_receive mn_X0_90 nd_X1_receive (by decide +kernel) (Nat.le_of_ble_eq_true rfl) rfl dX0_sendTo_74 (fun G12 q14 => ?_)
              have hB15 := hB11.lane ho q14
              refine cc_aload_n (j := 4) dX0_sendTo_77 rfl rfl ?_
              refine cc_iload (j := 2) dX0_sendTo_78 rfl ?_
              refine cc_iconst (v := 1) dX0_sendTo_80 (by decide) ?_
              refine cc_iadd dX0_sendTo_81 ?_
              rw [show (nI ((t + s) % 4)) + 1 = nI (((t + s) % 4) + 1) from nI_1 _]
              refine cc_iconst (v := 4) dX0_sendTo_82 (by decide) ?_
              refine cc_irem dX0_sendTo_83 (by decide) ?_
              rw [show cc_rm (nI (((t + s) % 4) + 1)) 4 = nI ((((t + s) % 4) + 1) % 4) from cc_rm4 (by omega)]
              refine bx_rlane hB15 ho 4 (by decide) fn_X0_80 rfl rfl (fun _ _ _ _ => rfl) dX0_sendTo_84 (fun G17 hB16 => ?_)
              refine cc_iload (j := 0) dX0_sendTo_87 rfl ?_
              refine cc_iret rfl rfl dX0_sendTo_89 ?_
              have hok := Q_off_lt hqo
              have hT2 : B_try (nI o) (S.1 1) S.2.2 hs t 4 0 = some (((t + s) % 4), k0) := by
                rw [hT]; unfold B_try; rw [if_pos h0, hqo]
              have hS : B_send o t (S, hs) = (some ((S.2.2 ((t + s) % 4)).2.2.getD k0 (0, 0, 0)).1, B_put o ((t + s) % 4) k0 (S, hs)) := by
                unfold B_send; rw [if_neg (Int32.not_le.mpr hcr), hT2]
              rw [hS]
              refine ⟨_, rfl, rfl, hB16.to (fun _ _ => rfl) (fun j hj => ?_) (fun _ _ => rfl) (fun _ _ => rfl)⟩
              show va_up (va_up S.2.1 o _) o (upd (va_up S.2.1 o _ o).1 4 _, (va_up S.2.1 o _ o).2) j = va_up S.2.1 o _ j
              rw [va_up_self]
              by_cases hq : j = o
              · subst hq; rw [va_up_self, va_up_self]
              · rw [va_up_ne _ _ hq, va_up_ne _ _ hq, va_up_ne _ _ hq]
        · refine cc_iload_n (j := 4) dX0_sendTo_41 rfl rfl ?_
          refine cc_aload_n (j := 3) dX0_sendTo_42 rfl rfl ?_
          refine cc_get (v := .int (S.1 1)) hB.2.1 cc_c0 1 (by decide) fl_X0_15 rfl dX0_sendTo_43 ?_
          obtain ⟨_, _, _, hLr, -, hl8hLr⟩ := hB.2.2.2.2.2 ((t + s) % 4) hj
          refine cc_callNi (As := [.int (nI o), .int (S.1 1)]) (rest := []) (ct_X2_offerFor_sent cy z _ _ (S.2.2 ((t + s) % 4)).1 (S.2.2 ((t + s) % 4)).2.1 _ (S.2.2 ((t + s) % 4)).2.2 _ _ h0 (hB.2.2.2.2.2 ((t + s) % 4) hj)) ok_X2_offerFor (hLr.2.1) rfl im_X2_offerFor sl_X2_offerFor mn_X0_83 nd_X2_offerFor (by decide +kernel) (Nat.le_of_ble_eq_true rfl) rfl dX0_sendTo_46 (fun r19 G18 q20 => ?_)
          obtain ⟨rfl, rfl⟩ := q20
          refine cc_istore (ls' := [(5, .int (-1)), (4, .int (nI ((t + s) % 4))), (3, .int (nI s)), (2, .ref (b + 3 + 7 * o)), (0, .ref b), (1, .int (nI o))]) dX0_sendTo_49 (Nat.le_of_ble_eq_true rfl) rfl ?_
          refine cc_iload (j := 0) dX0_sendTo_51 rfl ?_
          refine cc_iconst (v := (-1)) dX0_sendTo_53 (by decide) ?_
          refine cc_icmp_eq (tgt := 90) dX0_sendTo_54 (by decide) (fun c_54_2 => ?_) (fun c_54_2 => ?_)
          · refine cc_iinc (j := 2) (v := nI (s + 1)) (ls' := [(3, .int (nI (s + 1))), (5, .int (-1)), (4, .int (nI ((t + s) % 4))), (2, .ref (b + 3 + 7 * o)), (0, .ref b), (1, .int (nI o))]) dX0_sendTo_90 rfl (nI_1 s) (Nat.le_of_ble_eq_true rfl) rfl ?_
            refine cc_goto (tgt := 19) dX0_sendTo_93 (by decide) ?_
            refine cc_loc (ls' := [(3, .int (nI (s + 1))), (2, .ref (b + 3 + 7 * o)), (0, .ref b), (1, .int (nI o))]) [0, 3, 4, 5] rfl ?_
            exact ih (s + 1) (by omega) (hT.trans (by conv => { lhs; unfold B_try; rw [if_neg (by rw [h0]; decide)] }))
          · exact absurd c_54_2 (by decide)
  refine cc_enter ok_X0_sendTo (Nat.le_of_ble_eq_true rfl) (ls := [(0, .ref b), (1, .int (nI o))]) rfl ?_
  refine cc_aload_n (j := 0) dX0_sendTo_0 rfl rfl ?_
  refine cc_get (v := .ref (b + 1)) hB.2.1 cc_c0 4 (by decide) fl_X0_26 rfl dX0_sendTo_1 ?_
  refine cc_iload_n (j := 1) dX0_sendTo_4 rfl rfl ?_
  refine cc_aald4 (x := b + 3 + 7 * o) hB.2.2.1 (vp_in_nI (n := o) (by omega) (by decide)) (by rw [(nI_clamp (by omega))]; rfl) dX0_sendTo_5 ?_
  refine cc_astore_n (ls' := [(2, .ref (b + 3 + 7 * o)), (0, .ref b), (1, .int (nI o))]) dX0_sendTo_6 rfl (Nat.le_of_ble_eq_true rfl) rfl ?_
  refine cc_aload_n (j := 0) dX0_sendTo_7 rfl rfl ?_
  obtain ⟨_, _, hLr21, -⟩ := hB.2.2.2.2.1 o ho
  refine cc_getN (v := .int ((S.2.1 o).1 3)) hLr21.2.1 cc_c1 3 (by decide) fn_X0_77 rfl dX0_sendTo_8 ?_
  refine cc_if_gt (tgt := 17) dX0_sendTo_11 (by decide) (fun c_11 => ?_) (fun c_11 => ?_)
  · refine cc_iconst (v := 0) dX0_sendTo_17 (by decide) ?_
    refine cc_istore_n (ls' := [(3, .int 0), (2, .ref (b + 3 + 7 * o)), (0, .ref b), (1, .int (nI o))]) dX0_sendTo_18 rfl (Nat.le_of_ble_eq_true rfl) rfl ?_
    exact loop_19 c_11 4 0 (by omega) rfl
  · refine cc_bipush (v := (-5)) dX0_sendTo_14 (by decide) ?_
    refine cc_iret rfl rfl dX0_sendTo_16 ?_
    have hS : B_send o t (S, hs) = (none, S, hs) := by
      unfold B_send; rw [if_pos (Int32.not_lt.mp c_11)]
    rw [hS]
    exact ⟨_, rfl, rfl, hB⟩

set_option maxHeartbeats 4000000 in
set_option maxRecDepth 100000 in
theorem ct_X0_passTick (cy : Nat → ClassId) (z : Nat) (G : cc_G) (b : Nat) (S : St_) (hm : B_mid (B_beg S)) (hE : bx_E cy G G b S) : cc_Cn cy Y_X0_passTick [.ref b] z G (cc_qi (fun r G' => r = nI (B_tick S).1 ∧ bx_E cy G G' b (B_tick S).2)) := by
  obtain ⟨hs, hB⟩ := hE
  have hmz : ∀ j, j < 4 → (fun _ => 0 : Nat → Int32) j = 0 ∨ (fun _ => 0 : Nat → Int32) j = 1 := fun _ _ => Or.inl rfl
  obtain ⟨X4, hX4⟩ : ∃ X, X = B_sends 4 (B_beg S, fun _ => 0) := ⟨_, rfl⟩
  have hm4 : B_mid X4.2.1 ∧ ∀ j, j < 4 → X4.2.2 j = 0 ∨ X4.2.2 j = 1 := by rw [hX4]; exact B_mid.sends (X := (B_beg S, fun _ => 0)) hm hmz 4
  have loop_60 : ∀ (n i : Nat) (G1 : cc_G), 4 < i + n → i ≤ 4 → bx_I cy G G1 b X4.2.2 (X4.2.1.1, B_mapI 4 (fun _ L => L_take (X4.2.1.1 0) L) X4.2.1.2.1, B_mapI i (fun j q => (if q.2.2 ≠ [] ∧ X4.2.2 j = 0 then q.1 + 1 else q.1, q.2.1, q.2.2)) X4.2.1.2.2) → cc_R cy Y_X0_passTick z 60 [(2, .int (nI i)), (1, .int (nI X4.1)), (0, .ref b)] [] G1 (cc_qi (fun r G' => r = nI (B_tick S).1 ∧ bx_E cy G G' b (B_tick S).2)) := by
    intro n
    induction n with
    | zero => intro i G1 h1 h2; exact absurd h1 (by omega)
    | succ n ih =>
      intro i G1 hn hi hB
      refine cc_iload_n (j := 0) dX0_passTick_60 rfl rfl ?_
      refine cc_iconst (v := 4) dX0_passTick_61 (by decide) ?_
      refine cc_icmp_ge (tgt := 80) dX0_passTick_62 (by decide) (fun c_62 => ?_) (fun c_62 => ?_)
      · have hge : i = 4 := by have := cc_ngt 4 c_62 (by omega) (by decide); omega
        subst hge
        refine cc_aload_n (j := 2) dX0_passTick_80 rfl rfl ?_
        refine cc_dup dX0_passTick_81 rfl ?_
        refine cc_get (v := .int (X4.2.1.1 0)) hB.2.1 cc_c0 0 (by decide) fl_X0_9 rfl dX0_passTick_82 ?_
        refine cc_iconst (v := 1) dX0_passTick_85 (by decide) ?_
        refine cc_iadd dX0_passTick_86 ?_
        refine bx_rput (g' := upd X4.2.1.1 0 ((X4.2.1.1 0) + 1)) hB cc_c0 0 (by decide) fl_X0_9 rfl rfl rfl dX0_passTick_87 (fun G2 hB1 => ?_)
        refine cc_iload_n (j := 1) dX0_passTick_90 rfl rfl ?_
        refine cc_iret rfl rfl dX0_passTick_91 ?_
        rw [B_tick_eq hX4]
        exact ⟨_, rfl, rfl, _, hB1⟩
      · have hlt : i < 4 := cc_nlt 4 c_62 (by omega)
        refine cc_aload_n (j := 2) dX0_passTick_65 rfl rfl ?_
        refine cc_get (v := .ref (b + 2)) hB.2.1 cc_c0 5 (by decide) fl_X0_32 rfl dX0_passTick_66 ?_
        refine cc_iload_n (j := 0) dX0_passTick_69 rfl rfl ?_
        refine cc_aald5 (x := b + 6 + 7 * i) hB.2.2.2.1 (vp_in_nI (n := i) (by omega) (by decide)) (by rw [(nI_clamp (by omega))]; rfl) dX0_passTick_70 ?_
        obtain ⟨_, _, _, hLr, -⟩ := bx_queue_at hB hlt
        refine cc_callNv (As := []) (rest := []) (ct_X2_countBlocked cy z _ _ (X4.2.1.2.2 i).1 (X4.2.1.2.2 i).2.1 _ (X4.2.1.2.2 i).2.2 (bx_queue_at hB hlt)) ok_X2_countBlocked (hLr.2.1) rfl im_X2_countBlocked sl_X2_countBlocked mn_X0_64 nd_X2_countBlocked (by decide +kernel) (Nat.le_of_ble_eq_true rfl) rfl dX0_passTick_71 (fun G3 q5 => ?_)
        have hB6 := bx_queue_up hB hlt q5
        refine cc_iinc (j := 0) (v := nI (i + 1)) (ls' := [(2, .int (nI (i + 1))), (1, .int (nI X4.1)), (0, .ref b)]) dX0_passTick_74 rfl (nI_1 i) (Nat.le_of_ble_eq_true rfl) rfl ?_
        refine cc_goto (tgt := 60) dX0_passTick_77 (by decide) ?_
        exact ih (i + 1) _ (by omega) (by omega) hB6
  have loop_34 : ∀ (n i : Nat) (G1 : cc_G), 4 < i + n → i ≤ 4 → bx_I cy G G1 b X4.2.2 (X4.2.1.1, B_mapI i (fun _ L => L_take (X4.2.1.1 0) L) X4.2.1.2.1, X4.2.1.2.2) → cc_R cy Y_X0_passTick z 34 [(2, .int (nI i)), (1, .int (nI X4.1)), (0, .ref b)] [] G1 (cc_qi (fun r G' => r = nI (B_tick S).1 ∧ bx_E cy G G' b (B_tick S).2)) := by
    intro n
    induction n with
    | zero => intro i G1 h1 h2; exact absurd h1 (by omega)
    | succ n ih =>
      intro i G1 hn hi hB
      refine cc_iload_n (j := 0) dX0_passTick_34 rfl rfl ?_
      refine cc_iconst (v := 4) dX0_passTick_35 (by decide) ?_
      refine cc_icmp_ge (tgt := 58) dX0_passTick_36 (by decide) (fun c_36 => ?_) (fun c_36 => ?_)
      · have hge : i = 4 := by have := cc_ngt 4 c_36 (by omega) (by decide); omega
        subst hge
        refine cc_iconst (v := 0) dX0_passTick_58 (by decide) ?_
        refine cc_istore_n (ls' := [(2, .int 0), (1, .int (nI X4.1)), (0, .ref b)]) dX0_passTick_59 rfl (Nat.le_of_ble_eq_true rfl) rfl ?_
        exact loop_60 5 0 _ (by omega) (by omega) (by rw [B_mapI_0]; exact hB)
      · have hlt : i < 4 := cc_nlt 4 c_36 (by omega)
        refine cc_aload_n (j := 2) dX0_passTick_39 rfl rfl ?_
        refine cc_get (v := .ref (b + 1)) hB.2.1 cc_c0 4 (by decide) fl_X0_26 rfl dX0_passTick_40 ?_
        refine cc_iload_n (j := 0) dX0_passTick_43 rfl rfl ?_
        refine cc_aald4 (x := b + 3 + 7 * i) hB.2.2.1 (vp_in_nI (n := i) (by omega) (by decide)) (by rw [(nI_clamp (by omega))]; rfl) dX0_passTick_44 ?_
        refine cc_aload_n (j := 2) dX0_passTick_45 rfl rfl ?_
        refine cc_get (v := .int (X4.2.1.1 0)) hB.2.1 cc_c0 0 (by decide) fl_X0_9 rfl dX0_passTick_46 ?_
        obtain ⟨_, _, hLr, -⟩ := bx_lane_at hB hlt
        refine cc_callNv (As := [.int (X4.2.1.1 0)]) (rest := []) (ct_X1_takeIfDue cy z _ _ (X4.2.1.2.1 i).1 (X4.2.1.2.1 i).2.1 (X4.2.1.2.1 i).2.2 _ (hm4.1 i hlt).2.2.2.1 (hm4.1 i hlt).2.1 (bx_lane_at hB hlt)) ok_X1_takeIfDue (hLr.2.1) rfl im_X1_takeIfDue sl_X1_takeIfDue mn_X0_60 nd_X1_takeIfDue (by decide +kernel) (Nat.le_of_ble_eq_true rfl) rfl dX0_passTick_49 (fun G7 q9 => ?_)
        have hB10 := bx_lane_up hB hlt q9
        refine cc_iinc (j := 0) (v := nI (i + 1)) (ls' := [(2, .int (nI (i + 1))), (1, .int (nI X4.1)), (0, .ref b)]) dX0_passTick_52 rfl (nI_1 i) (Nat.le_of_ble_eq_true rfl) rfl ?_
        refine cc_goto (tgt := 34) dX0_passTick_55 (by decide) ?_
        exact ih (i + 1) _ (by omega) (by omega) hB10
  have loop_8 : ∀ (n i : Nat) (G1 : cc_G), 4 < i + n → i ≤ 4 → bx_I cy G G1 b (B_sends i (B_beg S, fun _ => 0)).2.2 (B_sends i (B_beg S, fun _ => 0)).2.1 → cc_R cy Y_X0_passTick z 8 [(2, .int (nI i)), (1, .int (nI (B_sends i (B_beg S, fun _ => 0)).1)), (0, .ref b)] [] G1 (cc_qi (fun r G' => r = nI (B_tick S).1 ∧ bx_E cy G G' b (B_tick S).2)) := by
    intro n
    induction n with
    | zero => intro i G1 h1 h2; exact absurd h1 (by omega)
    | succ n ih =>
      intro i G1 hn hi hB
      have hm2 := B_mid.sends (X := (B_beg S, fun _ => 0)) hm hmz i
      refine cc_iload_n (j := 0) dX0_passTick_8 rfl rfl ?_
      refine cc_iconst (v := 4) dX0_passTick_9 (by decide) ?_
      refine cc_icmp_ge (tgt := 32) dX0_passTick_10 (by decide) (fun c_10 => ?_) (fun c_10 => ?_)
      · have hge : i = 4 := by have := cc_ngt 4 c_10 (by omega) (by decide); omega
        subst hge
        rw [← hX4] at hB ⊢
        refine cc_iconst (v := 0) dX0_passTick_32 (by decide) ?_
        refine cc_istore_n (ls' := [(2, .int 0), (1, .int (nI X4.1)), (0, .ref b)]) dX0_passTick_33 rfl (Nat.le_of_ble_eq_true rfl) rfl ?_
        exact loop_34 5 0 _ (by omega) (by omega) (by rw [B_mapI_0]; exact hB)
      · have hlt : i < 4 := cc_nlt 4 c_10 (by omega)
        refine cc_aload_n (j := 2) dX0_passTick_13 rfl rfl ?_
        refine cc_iload_n (j := 0) dX0_passTick_14 rfl rfl ?_
        refine cc_callVi (As := [.int (nI i)]) (rest := []) (ct_X0_sendTo cy z _ b _ _ i (B_turn (B_sends i (B_beg S, fun _ => 0)).2.1 i) hlt (hm2.1.turn hlt).1 (hm2.1.turn hlt).2 (hm2.1 i hlt).1 hm2.2 hB.self) ok_X0_sendTo (hB.2.1) rfl im_X0_sendTo sl_X0_sendTo ml_X0_56 nd_X0_sendTo (by decide +kernel) (Nat.le_of_ble_eq_true rfl) rfl dX0_passTick_15 (fun r12 G11 q13 => ?_)
        obtain ⟨hr, hB14⟩ := q13
        have hB14 := hB.tr hB14
        rcases hsd : (B_send i (B_turn (B_sends i (B_beg S, fun _ => 0)).2.1 i) (B_sends i (B_beg S, fun _ => 0)).2).1 with _ | n0
        · have hr : r12 = (-5) := hr.trans (by rw [show (B_send i (B_turn (B_sends i (B_beg S, fun _ => 0)).2.1 i) ((B_sends i (B_beg S, fun _ => 0)).2.1, (B_sends i (B_beg S, fun _ => 0)).2.2)).1 = none from hsd])
          subst hr
          refine cc_bipush (v := (-5)) dX0_passTick_18 (by decide) ?_
          refine cc_icmp_eq (tgt := 26) dX0_passTick_20 (by decide) (fun c_20 => ?_) (fun c_20 => ?_)
          · rw [show nI (B_sends i (B_beg S, fun _ => 0)).1 = nI (B_sends (i + 1) (B_beg S, fun _ => 0)).1 from by show _ = nI (if _ then _ else _); rw [hsd]; rfl]
            refine cc_iinc (j := 0) (v := nI (i + 1)) (ls' := [(2, .int (nI (i + 1))), (1, .int (nI (B_sends (i + 1) (B_beg S, fun _ => 0)).1)), (0, .ref b)]) dX0_passTick_26 rfl (nI_1 i) (Nat.le_of_ble_eq_true rfl) rfl ?_
            refine cc_goto (tgt := 8) dX0_passTick_29 (by decide) ?_
            exact ih (i + 1) _ (by omega) (by omega) hB14
          · exact absurd c_20 (by decide)
        · have hr : r12 = n0 := hr.trans (by rw [show (B_send i (B_turn (B_sends i (B_beg S, fun _ => 0)).2.1 i) ((B_sends i (B_beg S, fun _ => 0)).2.1, (B_sends i (B_beg S, fun _ => 0)).2.2)).1 = some n0 from hsd])
          subst hr
          have hn5 := (B_mid.send hm2.1 hm2.2 i (B_turn (B_sends i (B_beg S, fun _ => 0)).2.1 i)).2.2 r12 hsd
          refine cc_bipush (v := (-5)) dX0_passTick_18 (by decide) ?_
          refine cc_icmp_eq (tgt := 26) dX0_passTick_20 (by decide) (fun c_20_1 => ?_) (fun c_20_1 => ?_)
          · exact absurd c_20_1 hn5
          · refine cc_iinc (j := 1) (v := nI (B_sends (i + 1) (B_beg S, fun _ => 0)).1) (ls' := [(1, .int (nI (B_sends (i + 1) (B_beg S, fun _ => 0)).1)), (2, .int (nI i)), (0, .ref b)]) dX0_passTick_23 rfl (by rw [show (B_sends (i + 1) (B_beg S, fun _ => 0)).1 = (B_sends i (B_beg S, fun _ => 0)).1 + 1 from by show (if _ then _ else _) = _; rw [hsd]; rfl]; exact nI_1 _) (Nat.le_of_ble_eq_true rfl) rfl ?_
            refine cc_iinc (j := 1) (v := nI (i + 1)) (ls' := [(2, .int (nI (i + 1))), (1, .int (nI (B_sends (i + 1) (B_beg S, fun _ => 0)).1)), (0, .ref b)]) dX0_passTick_26 rfl (nI_1 i) (Nat.le_of_ble_eq_true rfl) rfl ?_
            refine cc_goto (tgt := 8) dX0_passTick_29 (by decide) ?_
            exact ih (i + 1) _ (by omega) (by omega) hB14
  refine cc_enter ok_X0_passTick (Nat.le_of_ble_eq_true rfl) (ls := [(0, .ref b)]) rfl ?_
  refine cc_aload_n (j := 0) dX0_passTick_0 rfl rfl ?_
  refine cc_callVv (As := []) (rest := []) (ct_X0_beginTick cy z _ b _ S hB) ok_X0_beginTick (hB.2.1) rfl im_X0_beginTick sl_X0_beginTick ml_X0_53 nd_X0_beginTick (by decide +kernel) (Nat.le_of_ble_eq_true rfl) rfl dX0_passTick_1 (fun G15 q17 => ?_)
  refine cc_iconst (v := 0) dX0_passTick_4 (by decide) ?_
  refine cc_istore_n (ls' := [(1, .int 0), (0, .ref b)]) dX0_passTick_5 rfl (Nat.le_of_ble_eq_true rfl) rfl ?_
  refine cc_iconst (v := 0) dX0_passTick_6 (by decide) ?_
  refine cc_istore_n (ls' := [(2, .int 0), (1, .int 0), (0, .ref b)]) dX0_passTick_7 rfl (Nat.le_of_ble_eq_true rfl) rfl ?_
  exact loop_8 5 0 _ (by omega) (by omega) q17
end
section
theorem bx_E.self {cy : Nat → ClassId} {G0 G : cc_G} {b : Nat} {S : St_} (h : bx_E cy G0 G b S) : bx_E cy G G b S := by
  obtain ⟨hs, h⟩ := h
  exact ⟨hs, h.self⟩
theorem bx_E.tr {cy : Nat → ClassId} {G0 G1 G2 : cc_G} {b : Nat} {S S' : St_} (h : bx_E cy G0 G1 b S) (h2 : bx_E cy G1 G2 b S') : bx_E cy G0 G2 b S' := by
  obtain ⟨_, h⟩ := h
  obtain ⟨hs, h2⟩ := h2
  exact ⟨hs, h.tr h2⟩
theorem bx_E.obj {cy : Nat → ClassId} {G0 G : cc_G} {b : Nat} {S : St_} (h : bx_E cy G0 G b S) : G b = some (.inr (0, bx_fs b S.1)) := by
  obtain ⟨_, h⟩ := h
  exact h.2.1
theorem bx_E.fr {cy : Nat → ClassId} {G0 G : cc_G} {b : Nat} {S : St_} (h : bx_E cy G0 G b S) : ∀ q : Nat, (q < b ∨ b + 31 ≤ q) → G q = G0 q := by
  obtain ⟨_, h⟩ := h
  exact h.1
theorem bx_E.keep {cy : Nat → ClassId} {G0 G G1 : cc_G} {b : Nat} {S : St_} (h : bx_E cy G0 G b S) (hk : ∀ q, b ≤ q → q < b + 31 → G1 q = G q) : bx_E cy G1 G1 b S := by
  obtain ⟨hs, h⟩ := h
  exact ⟨hs, h.keep hk⟩
theorem Q_fig_eq {n1 n2 n3 : Nat → Int32} {q : Qu_} (hA : qu_A n1 n2 n3 q.2.2) (h8 : q.2.2.length ≤ 8) (x1 : Int32) : (if x1 = 0 then nI q.2.2.length else if x1 = 1 then q.1 else if x1 = 2 then q.2.1 else if x1 = 3 then (if 0 < nI q.2.2.length then n2 0 else (-5)) else (-2)) = Q_fig x1 q := by
  unfold Q_fig
  by_cases h : q.2.2.length = 0
  · rw [if_neg (show ¬ 0 < nI q.2.2.length by rw [h]; decide), if_pos h]
  · rw [if_pos ((cc_p0 (by omega)).mpr (by omega)), if_neg h, (qu_at hA (by omega)).2.1]
theorem B_stb_01 (S : St_) (o : Nat) : B_stb S o = 0 ∨ B_stb S o = 1 := by
  unfold B_stb
  split
  · exact Or.inr rfl
  · exact Or.inl rfl
theorem B_stn_le (S : St_) : ∀ i, B_stn S i ≤ i := by
  intro i
  induction i with
  | zero => exact Nat.le_refl 0
  | succ i ih =>
    have e : B_stn S (i + 1) = B_stn S i + B_stb S i := rfl
    have h := B_stb_01 S i
    omega

set_option maxHeartbeats 4000000 in
set_option maxRecDepth 100000 in
theorem ct_X0_admit (cy : Nat → ClassId) (z : Nat) (G : cc_G) (b : Nat) (S : St_) (i : Nat) (hi : i < 4) (x2 : Int32) (hlt : (S.2.2 i).2.2.length < 8) (hE : bx_E cy G G b S) : cc_Cn cy Y_X0_admit [.ref b, .int (nI i), .int x2] z G (cc_qi (fun r G' => r = S.1 3 ∧ bx_E cy G G' b (B_adm i x2 S))) := by
  obtain ⟨hs, hB⟩ := hE
  refine cc_enter ok_X0_admit (Nat.le_of_ble_eq_true rfl) (ls := [(0, .ref b), (1, .int (nI i)), (2, .int x2)]) rfl ?_
  refine cc_aload_n (j := 0) dX0_admit_0 rfl rfl ?_
  refine cc_get (v := .int (S.1 3)) hB.2.1 cc_c0 3 (by decide) fl_X0_21 rfl dX0_admit_1 ?_
  refine cc_istore_n (ls' := [(3, .int (S.1 3)), (0, .ref b), (1, .int (nI i)), (2, .int x2)]) dX0_admit_4 rfl (Nat.le_of_ble_eq_true rfl) rfl ?_
  refine cc_aload_n (j := 1) dX0_admit_5 rfl rfl ?_
  refine cc_get (v := .ref (b + 2)) hB.2.1 cc_c0 5 (by decide) fl_X0_32 rfl dX0_admit_6 ?_
  refine cc_iload_n (j := 2) dX0_admit_9 rfl rfl ?_
  refine cc_aald5 (x := b + 6 + 7 * i) hB.2.2.2.1 (vp_in_nI (n := i) (by omega) (by decide)) (by rw [(nI_clamp (by omega))]; rfl) dX0_admit_10 ?_
  refine cc_iload_n (j := 0) dX0_admit_11 rfl rfl ?_
  refine cc_iload_n (j := 3) dX0_admit_12 rfl rfl ?_
  refine cc_aload_n (j := 1) dX0_admit_13 rfl rfl ?_
  refine cc_get (v := .int (S.1 0)) hB.2.1 cc_c0 0 (by decide) fl_X0_9 rfl dX0_admit_14 ?_
  obtain ⟨_, _, _, hLr, -⟩ := hB.2.2.2.2.2 i hi
  refine cc_callNv (As := [.int (S.1 3), .int x2, .int (S.1 0)]) (rest := []) (ct_X2_append cy z _ _ (S.2.2 i).1 (S.2.2 i).2.1 _ (S.2.2 i).2.2 _ _ _ hlt (hB.2.2.2.2.2 i hi)) ok_X2_append (hLr.2.1) rfl im_X2_append sl_X2_append mn_X0_45 nd_X2_append (by decide +kernel) (Nat.le_of_ble_eq_true rfl) rfl dX0_admit_17 (fun G1 q3 => ?_)
  have hB4 := hB.queue hi q3
  refine cc_aload_n (j := 1) dX0_admit_20 rfl rfl ?_
  refine cc_dup dX0_admit_21 rfl ?_
  refine cc_get (v := .int (S.1 3)) hB4.2.1 cc_c0 3 (by decide) fl_X0_21 rfl dX0_admit_22 ?_
  refine cc_iconst (v := 1) dX0_admit_25 (by decide) ?_
  refine cc_iadd dX0_admit_26 ?_
  refine bx_rput (g' := upd S.1 3 ((S.1 3) + 1)) hB4 cc_c0 3 (by decide) fl_X0_21 rfl rfl rfl dX0_admit_27 (fun G6 hB5 => ?_)
  refine cc_iload_n (j := 0) dX0_admit_30 rfl rfl ?_
  refine cc_iret rfl rfl dX0_admit_31 ?_
  exact ⟨_, rfl, rfl, _, hB5⟩

set_option maxHeartbeats 4000000 in
set_option maxRecDepth 100000 in
theorem ct_X0_passTicks (cy : Nat → ClassId) (z : Nat) (G : cc_G) (b : Nat) (S : St_) (n : Nat) (hn : n < 2 ^ 20) (hm : ∀ k, k < n → B_mid (B_beg (B_pass k S).2)) (hE : bx_E cy G G b S) : cc_Cn cy Y_X0_passTicks [.ref b, .int (nI n)] z G (cc_qi (fun r G' => r = nI (B_pass n S).1 ∧ bx_E cy G G' b (B_pass n S).2)) := by
  
  have loop_4 : ∀ (f i : Nat) (G1 : cc_G), n < i + f → i ≤ n → bx_E cy G G1 b (B_pass i S).2 → cc_R cy Y_X0_passTicks z 4 [(3, .int (nI i)), (2, .int (nI (B_pass i S).1)), (0, .ref b), (1, .int (nI n))] [] G1 (cc_qi (fun r G' => r = nI (B_pass n S).1 ∧ bx_E cy G G' b (B_pass n S).2)) := by
    intro f
    induction f with
    | zero => intro i G1 h1 h2; exact absurd h1 (by omega)
    | succ f ih =>
      intro i G1 hn2 hi hE
      refine cc_iload_n (j := 0) dX0_passTicks_4 rfl rfl ?_
      refine cc_iload_n (j := 3) dX0_passTicks_5 rfl rfl ?_
      refine cc_icmp_ge (tgt := 22) dX0_passTicks_6 (by decide) (fun c_6 => ?_) (fun c_6 => ?_)
      · have hge : i = n := by have := cc_ngt n c_6 (by omega) (by omega); omega
        subst hge
        refine cc_iload_n (j := 1) dX0_passTicks_22 rfl rfl ?_
        refine cc_iret rfl rfl dX0_passTicks_23 ?_
        exact ⟨_, rfl, rfl, hE⟩
      · have hlt : i < n := cc_nlt n c_6 (by omega)
        refine cc_iload_n (j := 1) dX0_passTicks_9 rfl rfl ?_
        refine cc_aload_n (j := 2) dX0_passTicks_10 rfl rfl ?_
        refine cc_callVi (As := []) (rest := [.int (nI (B_pass i S).1)]) (ct_X0_passTick cy z _ b _ (hm i hlt) hE.self) ok_X0_passTick (hE.obj) rfl im_X0_passTick sl_X0_passTick ml_X0_49 nd_X0_passTick (by decide +kernel) (Nat.le_of_ble_eq_true rfl) rfl dX0_passTicks_11 (fun r2 G1 q3 => ?_)
        obtain ⟨hr, hE4⟩ := q3
        subst hr
        have hE4 := hE.tr hE4
        refine cc_iadd dX0_passTicks_14 ?_
        rw [show (nI (B_pass i S).1) + (nI (B_tick (B_pass i S).2).1) = nI (B_pass (i + 1) S).1 from nI_add _ _]
        refine cc_istore_n (ls' := [(2, .int (nI (B_pass (i + 1) S).1)), (3, .int (nI i)), (0, .ref b), (1, .int (nI n))]) dX0_passTicks_15 rfl (Nat.le_of_ble_eq_true rfl) rfl ?_
        refine cc_iinc (j := 1) (v := nI (i + 1)) (ls' := [(3, .int (nI (i + 1))), (2, .int (nI (B_pass (i + 1) S).1)), (0, .ref b), (1, .int (nI n))]) dX0_passTicks_16 rfl (nI_1 i) (Nat.le_of_ble_eq_true rfl) rfl ?_
        refine cc_goto (tgt := 4) dX0_passTicks_19 (by decide) ?_
        exact ih (i + 1) _ (by omega) (by omega) hE4
  refine cc_enter ok_X0_passTicks (Nat.le_of_ble_eq_true rfl) (ls := [(0, .ref b), (1, .int (nI n))]) rfl ?_
  refine cc_iconst (v := 0) dX0_passTicks_0 (by decide) ?_
  refine cc_istore_n (ls' := [(2, .int 0), (0, .ref b), (1, .int (nI n))]) dX0_passTicks_1 rfl (Nat.le_of_ble_eq_true rfl) rfl ?_
  refine cc_iconst (v := 0) dX0_passTicks_2 (by decide) ?_
  refine cc_istore_n (ls' := [(3, .int 0), (2, .int 0), (0, .ref b), (1, .int (nI n))]) dX0_passTicks_3 rfl (Nat.le_of_ble_eq_true rfl) rfl ?_
  exact loop_4 (n + 1) 0 _ (by omega) (by omega) hE

set_option maxHeartbeats 4000000 in
set_option maxRecDepth 100000 in
theorem ct_X0_waitingFor (cy : Nat → ClassId) (z : Nat) (G : cc_G) (b : Nat) (S : St_) (x1 : Int32) (hE : bx_E cy G G b S) : cc_Cn cy Y_X0_waitingFor [.ref b, .int x1] z G (cc_qi (fun r G' => r = nI (B_wt x1 S 4) ∧ G' = G)) := by
  obtain ⟨hs, hB⟩ := hE
  have loop_4 : ∀ (n i : Nat), 4 < i + n → i ≤ 4 → cc_R cy Y_X0_waitingFor z 4 [(3, .int (nI i)), (2, .int (nI (B_wt x1 S i))), (0, .ref b), (1, .int x1)] [] G (cc_qi (fun r G' => r = nI (B_wt x1 S 4) ∧ G' = G)) := by
    intro n
    induction n with
    | zero => intro i h1 h2; exact absurd h1 (by omega)
    | succ n ih =>
      intro i hn hi
      refine cc_iload_n (j := 0) dX0_waitingFor_4 rfl rfl ?_
      refine cc_iconst (v := 4) dX0_waitingFor_5 (by decide) ?_
      refine cc_icmp_ge (tgt := 28) dX0_waitingFor_6 (by decide) (fun c_6 => ?_) (fun c_6 => ?_)
      · have hge : i = 4 := by have := cc_ngt 4 c_6 (by omega) (by decide); omega
        subst hge
        refine cc_iload_n (j := 1) dX0_waitingFor_28 rfl rfl ?_
        refine cc_iret rfl rfl dX0_waitingFor_29 ?_
        exact ⟨_, rfl, rfl, rfl⟩
      · have hlt : i < 4 := cc_nlt 4 c_6 (by omega)
        refine cc_iload_n (j := 1) dX0_waitingFor_9 rfl rfl ?_
        refine cc_aload_n (j := 2) dX0_waitingFor_10 rfl rfl ?_
        refine cc_get (v := .ref (b + 2)) hB.2.1 cc_c0 5 (by decide) fl_X0_32 rfl dX0_waitingFor_11 ?_
        refine cc_iload_n (j := 0) dX0_waitingFor_14 rfl rfl ?_
        refine cc_aald5 (x := b + 6 + 7 * i) hB.2.2.2.1 (vp_in_nI (n := i) (by omega) (by decide)) (by rw [(nI_clamp (by omega))]; rfl) dX0_waitingFor_15 ?_
        refine cc_iload_n (j := 3) dX0_waitingFor_16 rfl rfl ?_
        obtain ⟨_, _, _, hLr, hAr, h8r⟩ := hB.2.2.2.2.2 i hlt
        refine cc_callNi (As := [.int x1]) (rest := [.int (nI (B_wt x1 S i))]) (ct_X2_waitingFor cy z _ _ (S.2.2 i).1 (S.2.2 i).2.1 _ (S.2.2 i).2.2 x1 (hB.2.2.2.2.2 i hlt)) ok_X2_waitingFor (hLr.2.1) rfl im_X2_waitingFor sl_X2_waitingFor mn_X0_93 nd_X2_waitingFor (by decide +kernel) (Nat.le_of_ble_eq_true rfl) rfl dX0_waitingFor_17 (fun r2 G1 q3 => ?_)
        obtain ⟨rfl, rfl⟩ := q3
        refine cc_iadd dX0_waitingFor_20 ?_
        rw [show (nI (B_wt x1 S i)) + (nI (Q_cn x1 (S.2.2 i).2.2 (S.2.2 i).2.2.length)) = nI (B_wt x1 S (i + 1)) from nI_add _ _]
        refine cc_istore_n (ls' := [(2, .int (nI (B_wt x1 S (i + 1)))), (3, .int (nI i)), (0, .ref b), (1, .int x1)]) dX0_waitingFor_21 rfl (Nat.le_of_ble_eq_true rfl) rfl ?_
        refine cc_iinc (j := 1) (v := nI (i + 1)) (ls' := [(3, .int (nI (i + 1))), (2, .int (nI (B_wt x1 S (i + 1)))), (0, .ref b), (1, .int x1)]) dX0_waitingFor_22 rfl (nI_1 i) (Nat.le_of_ble_eq_true rfl) rfl ?_
        refine cc_goto (tgt := 4) dX0_waitingFor_25 (by decide) ?_
        exact ih (i + 1) (by omega) (by omega)
  refine cc_enter ok_X0_waitingFor (Nat.le_of_ble_eq_true rfl) (ls := [(0, .ref b), (1, .int x1)]) rfl ?_
  refine cc_iconst (v := 0) dX0_waitingFor_0 (by decide) ?_
  refine cc_istore_n (ls' := [(2, .int 0), (0, .ref b), (1, .int x1)]) dX0_waitingFor_1 rfl (Nat.le_of_ble_eq_true rfl) rfl ?_
  refine cc_iconst (v := 0) dX0_waitingFor_2 (by decide) ?_
  refine cc_istore_n (ls' := [(3, .int 0), (2, .int 0), (0, .ref b), (1, .int x1)]) dX0_waitingFor_3 rfl (Nat.le_of_ble_eq_true rfl) rfl ?_
  exact loop_4 5 0 (by omega) (by omega)

set_option maxHeartbeats 4000000 in
set_option maxRecDepth 100000 in
theorem ct_X0_sumOfLanes (cy : Nat → ClassId) (z : Nat) (G : cc_G) (b : Nat) (S : St_) (x1 : Int32) (hE : bx_E cy G G b S) : cc_Cn cy Y_X0_sumOfLanes [.ref b, .int x1] z G (cc_qi (fun r G' => r = B_sl x1 S 4 ∧ G' = G)) := by
  obtain ⟨hs, hB⟩ := hE
  have loop_4 : ∀ (n i : Nat), 4 < i + n → i ≤ 4 → cc_R cy Y_X0_sumOfLanes z 4 [(3, .int (nI i)), (2, .int (B_sl x1 S i)), (0, .ref b), (1, .int x1)] [] G (cc_qi (fun r G' => r = B_sl x1 S 4 ∧ G' = G)) := by
    intro n
    induction n with
    | zero => intro i h1 h2; exact absurd h1 (by omega)
    | succ n ih =>
      intro i hn hi
      refine cc_iload_n (j := 0) dX0_sumOfLanes_4 rfl rfl ?_
      refine cc_iconst (v := 4) dX0_sumOfLanes_5 (by decide) ?_
      refine cc_icmp_ge (tgt := 28) dX0_sumOfLanes_6 (by decide) (fun c_6 => ?_) (fun c_6 => ?_)
      · have hge : i = 4 := by have := cc_ngt 4 c_6 (by omega) (by decide); omega
        subst hge
        refine cc_iload_n (j := 1) dX0_sumOfLanes_28 rfl rfl ?_
        refine cc_iret rfl rfl dX0_sumOfLanes_29 ?_
        exact ⟨_, rfl, rfl, rfl⟩
      · have hlt : i < 4 := cc_nlt 4 c_6 (by omega)
        refine cc_iload_n (j := 1) dX0_sumOfLanes_9 rfl rfl ?_
        refine cc_aload_n (j := 2) dX0_sumOfLanes_10 rfl rfl ?_
        refine cc_get (v := .ref (b + 1)) hB.2.1 cc_c0 4 (by decide) fl_X0_26 rfl dX0_sumOfLanes_11 ?_
        refine cc_iload_n (j := 0) dX0_sumOfLanes_14 rfl rfl ?_
        refine cc_aald4 (x := b + 3 + 7 * i) hB.2.2.1 (vp_in_nI (n := i) (by omega) (by decide)) (by rw [(nI_clamp (by omega))]; rfl) dX0_sumOfLanes_15 ?_
        refine cc_iload_n (j := 3) dX0_sumOfLanes_16 rfl rfl ?_
        obtain ⟨_, _, hLr, -⟩ := hB.2.2.2.2.1 i hlt
        refine cc_callNi (As := [.int x1]) (rest := [.int (B_sl x1 S i)]) (ct_X1_figure cy z _ _ _ _ _ _ _ x1 hLr) ok_X1_figure (hLr.2.1) rfl im_X1_figure sl_X1_figure mn_X0_114 nd_X1_figure (by decide +kernel) (Nat.le_of_ble_eq_true rfl) rfl dX0_sumOfLanes_17 (fun r2 G1 q3 => ?_)
        obtain ⟨hr, rfl⟩ := q3
        have hr : r2 = L_fig x1 (S.2.1 i) := hr
        subst hr
        refine cc_iadd dX0_sumOfLanes_20 ?_
        rw [show (B_sl x1 S i) + (L_fig x1 (S.2.1 i)) = B_sl x1 S (i + 1) from rfl]
        refine cc_istore_n (ls' := [(2, .int (B_sl x1 S (i + 1))), (3, .int (nI i)), (0, .ref b), (1, .int x1)]) dX0_sumOfLanes_21 rfl (Nat.le_of_ble_eq_true rfl) rfl ?_
        refine cc_iinc (j := 1) (v := nI (i + 1)) (ls' := [(3, .int (nI (i + 1))), (2, .int (B_sl x1 S (i + 1))), (0, .ref b), (1, .int x1)]) dX0_sumOfLanes_22 rfl (nI_1 i) (Nat.le_of_ble_eq_true rfl) rfl ?_
        refine cc_goto (tgt := 4) dX0_sumOfLanes_25 (by decide) ?_
        exact ih (i + 1) (by omega) (by omega)
  refine cc_enter ok_X0_sumOfLanes (Nat.le_of_ble_eq_true rfl) (ls := [(0, .ref b), (1, .int x1)]) rfl ?_
  refine cc_iconst (v := 0) dX0_sumOfLanes_0 (by decide) ?_
  refine cc_istore_n (ls' := [(2, .int 0), (0, .ref b), (1, .int x1)]) dX0_sumOfLanes_1 rfl (Nat.le_of_ble_eq_true rfl) rfl ?_
  refine cc_iconst (v := 0) dX0_sumOfLanes_2 (by decide) ?_
  refine cc_istore_n (ls' := [(3, .int 0), (2, .int 0), (0, .ref b), (1, .int x1)]) dX0_sumOfLanes_3 rfl (Nat.le_of_ble_eq_true rfl) rfl ?_
  exact loop_4 5 0 (by omega) (by omega)

set_option maxHeartbeats 4000000 in
set_option maxRecDepth 100000 in
theorem ct_X0_sumOfQueues (cy : Nat → ClassId) (z : Nat) (G : cc_G) (b : Nat) (S : St_) (x1 : Int32) (hE : bx_E cy G G b S) : cc_Cn cy Y_X0_sumOfQueues [.ref b, .int x1] z G (cc_qi (fun r G' => r = B_sq x1 S 4 ∧ G' = G)) := by
  obtain ⟨hs, hB⟩ := hE
  have loop_4 : ∀ (n i : Nat), 4 < i + n → i ≤ 4 → cc_R cy Y_X0_sumOfQueues z 4 [(3, .int (nI i)), (2, .int (B_sq x1 S i)), (0, .ref b), (1, .int x1)] [] G (cc_qi (fun r G' => r = B_sq x1 S 4 ∧ G' = G)) := by
    intro n
    induction n with
    | zero => intro i h1 h2; exact absurd h1 (by omega)
    | succ n ih =>
      intro i hn hi
      refine cc_iload_n (j := 0) dX0_sumOfQueues_4 rfl rfl ?_
      refine cc_iconst (v := 4) dX0_sumOfQueues_5 (by decide) ?_
      refine cc_icmp_ge (tgt := 28) dX0_sumOfQueues_6 (by decide) (fun c_6 => ?_) (fun c_6 => ?_)
      · have hge : i = 4 := by have := cc_ngt 4 c_6 (by omega) (by decide); omega
        subst hge
        refine cc_iload_n (j := 1) dX0_sumOfQueues_28 rfl rfl ?_
        refine cc_iret rfl rfl dX0_sumOfQueues_29 ?_
        exact ⟨_, rfl, rfl, rfl⟩
      · have hlt : i < 4 := cc_nlt 4 c_6 (by omega)
        refine cc_iload_n (j := 1) dX0_sumOfQueues_9 rfl rfl ?_
        refine cc_aload_n (j := 2) dX0_sumOfQueues_10 rfl rfl ?_
        refine cc_get (v := .ref (b + 2)) hB.2.1 cc_c0 5 (by decide) fl_X0_32 rfl dX0_sumOfQueues_11 ?_
        refine cc_iload_n (j := 0) dX0_sumOfQueues_14 rfl rfl ?_
        refine cc_aald5 (x := b + 6 + 7 * i) hB.2.2.2.1 (vp_in_nI (n := i) (by omega) (by decide)) (by rw [(nI_clamp (by omega))]; rfl) dX0_sumOfQueues_15 ?_
        refine cc_iload_n (j := 3) dX0_sumOfQueues_16 rfl rfl ?_
        obtain ⟨_, _, _, hLr, hAr, h8r⟩ := hB.2.2.2.2.2 i hlt
        refine cc_callNi (As := [.int x1]) (rest := [.int (B_sq x1 S i)]) (ct_X2_figure cy z _ _ _ _ _ _ _ _ _ x1 hLr) ok_X2_figure (hLr.2.1) rfl im_X2_figure sl_X2_figure mn_X0_117 nd_X2_figure (by decide +kernel) (Nat.le_of_ble_eq_true rfl) rfl dX0_sumOfQueues_17 (fun r2 G1 q3 => ?_)
        obtain ⟨hr, rfl⟩ := q3
        have hr : r2 = Q_fig x1 (S.2.2 i) := hr.trans (Q_fig_eq hAr h8r x1)
        subst hr
        refine cc_iadd dX0_sumOfQueues_20 ?_
        rw [show (B_sq x1 S i) + (Q_fig x1 (S.2.2 i)) = B_sq x1 S (i + 1) from rfl]
        refine cc_istore_n (ls' := [(2, .int (B_sq x1 S (i + 1))), (3, .int (nI i)), (0, .ref b), (1, .int x1)]) dX0_sumOfQueues_21 rfl (Nat.le_of_ble_eq_true rfl) rfl ?_
        refine cc_iinc (j := 1) (v := nI (i + 1)) (ls' := [(3, .int (nI (i + 1))), (2, .int (B_sq x1 S (i + 1))), (0, .ref b), (1, .int x1)]) dX0_sumOfQueues_22 rfl (nI_1 i) (Nat.le_of_ble_eq_true rfl) rfl ?_
        refine cc_goto (tgt := 4) dX0_sumOfQueues_25 (by decide) ?_
        exact ih (i + 1) (by omega) (by omega)
  refine cc_enter ok_X0_sumOfQueues (Nat.le_of_ble_eq_true rfl) (ls := [(0, .ref b), (1, .int x1)]) rfl ?_
  refine cc_iconst (v := 0) dX0_sumOfQueues_0 (by decide) ?_
  refine cc_istore_n (ls' := [(2, .int 0), (0, .ref b), (1, .int x1)]) dX0_sumOfQueues_1 rfl (Nat.le_of_ble_eq_true rfl) rfl ?_
  refine cc_iconst (v := 0) dX0_sumOfQueues_2 (by decide) ?_
  refine cc_istore_n (ls' := [(3, .int 0), (2, .int 0), (0, .ref b), (1, .int x1)]) dX0_sumOfQueues_3 rfl (Nat.le_of_ble_eq_true rfl) rfl ?_
  exact loop_4 5 0 (by omega) (by omega)

set_option maxHeartbeats 4000000 in
set_option maxRecDepth 100000 in
theorem ct_X0_isStuck (cy : Nat → ClassId) (z : Nat) (G : cc_G) (b : Nat) (S : St_) (o : Nat) (ho : o < 4) (hE : bx_E cy G G b S) : cc_Cn cy Y_X0_isStuck [.ref b, .int (nI o)] z G (cc_qi (fun r G' => r = nI (B_stb S o) ∧ G' = G)) := by
  obtain ⟨hs, hB⟩ := hE
  refine cc_enter ok_X0_isStuck (Nat.le_of_ble_eq_true rfl) (ls := [(0, .ref b), (1, .int (nI o))]) rfl ?_
  refine cc_aload_n (j := 0) dX0_isStuck_0 rfl rfl ?_
  refine cc_get (v := .int (S.1 2)) hB.2.1 cc_c0 2 (by decide) fl_X0_18 rfl dX0_isStuck_1 ?_
  refine cc_if_ne (tgt := 31) dX0_isStuck_4 (by decide) (fun c_4 => ?_) (fun c_4 => ?_)
  · refine cc_iconst (v := 0) dX0_isStuck_31 (by decide) ?_
    refine cc_iret rfl rfl dX0_isStuck_32 ?_
    refine ⟨_, rfl, ?_, rfl⟩
    rw [show B_stb S o = 0 from if_neg (fun h => c_4 h.1)]
    rfl
  · refine cc_aload_n (j := 0) dX0_isStuck_7 rfl rfl ?_
    refine cc_get (v := .ref (b + 1)) hB.2.1 cc_c0 4 (by decide) fl_X0_26 rfl dX0_isStuck_8 ?_
    refine cc_iload_n (j := 1) dX0_isStuck_11 rfl rfl ?_
    refine cc_aald4 (x := b + 3 + 7 * o) hB.2.2.1 (vp_in_nI (n := o) (by omega) (by decide)) (by rw [(nI_clamp (by omega))]; rfl) dX0_isStuck_12 ?_
    obtain ⟨_, _, hLr, -⟩ := hB.2.2.2.2.1 o ho
    refine cc_callNi (As := []) (rest := []) (ct_X1_isDry cy z _ _ _ _ _ _ _ hLr) ok_X1_isDry (hLr.2.1) rfl im_X1_isDry sl_X1_isDry mn_X0_96 nd_X1_isDry (by decide +kernel) (Nat.le_of_ble_eq_true rfl) rfl dX0_isStuck_13 (fun r2 G1 q3 => ?_)
    obtain ⟨rfl, rfl⟩ := q3
    refine cc_if_eq (tgt := 31) dX0_isStuck_16 (by decide) (fun c_16 => ?_) (fun c_16 => ?_)
    · refine cc_iconst (v := 0) dX0_isStuck_31 (by decide) ?_
      refine cc_iret rfl rfl dX0_isStuck_32 ?_
      refine ⟨_, rfl, ?_, rfl⟩
      rw [show B_stb S o = 0 from if_neg (fun h => by rw [if_pos h.2.1] at c_16; exact absurd c_16 (by decide))]
      rfl
    · refine cc_aload_n (j := 0) dX0_isStuck_19 rfl rfl ?_
      refine cc_iload_n (j := 1) dX0_isStuck_20 rfl rfl ?_
      refine cc_callVi (As := [.int (nI o)]) (rest := []) (ct_X0_waitingFor cy z _ b S (nI o) ⟨_, hB⟩) ok_X0_waitingFor (hB.2.1) rfl im_X0_waitingFor sl_X0_waitingFor ml_X0_100 nd_X0_waitingFor (by decide +kernel) (Nat.le_of_ble_eq_true rfl) rfl dX0_isStuck_21 (fun r5 G4 q6 => ?_)
      obtain ⟨rfl, rfl⟩ := q6
      refine cc_if_le (tgt := 31) dX0_isStuck_24 (by decide) (fun c_24 => ?_) (fun c_24 => ?_)
      · refine cc_iconst (v := 0) dX0_isStuck_31 (by decide) ?_
        refine cc_iret rfl rfl dX0_isStuck_32 ?_
        refine ⟨_, rfl, ?_, rfl⟩
        rw [show B_stb S o = 0 from if_neg (fun h => absurd h.2.2 (Int32.not_lt.mpr c_24))]
        rfl
      · refine cc_iconst (v := 1) dX0_isStuck_27 (by decide) ?_
        refine cc_goto (tgt := 32) dX0_isStuck_28 (by decide) ?_
        refine cc_iret rfl rfl dX0_isStuck_32 ?_
        refine ⟨_, rfl, ?_, rfl⟩
        rw [show B_stb S o = 1 from if_pos ⟨c_4, by by_cases h : (S.2.1 o).1 3 ≤ 0 ∧ nI (S.2.1 o).2.1.length = 0 ∧ nI (S.2.1 o).2.2.length = 0; exact h; rw [if_neg h] at c_16; exact absurd rfl c_16, Int32.not_le.mp c_24⟩]
        rfl

set_option maxHeartbeats 4000000 in
set_option maxRecDepth 100000 in
theorem ct_X0_stuckLanes (cy : Nat → ClassId) (z : Nat) (G : cc_G) (b : Nat) (S : St_)  (hE : bx_E cy G G b S) : cc_Cn cy Y_X0_stuckLanes [.ref b] z G (cc_qi (fun r G' => r = nI (B_stn S 4) ∧ G' = G)) := by
  obtain ⟨hs, hB⟩ := hE
  have loop_4 : ∀ (n i : Nat), 4 < i + n → i ≤ 4 → cc_R cy Y_X0_stuckLanes z 4 [(2, .int (nI i)), (1, .int (nI (B_stn S i))), (0, .ref b)] [] G (cc_qi (fun r G' => r = nI (B_stn S 4) ∧ G' = G)) := by
    intro n
    induction n with
    | zero => intro i h1 h2; exact absurd h1 (by omega)
    | succ n ih =>
      intro i hn hi
      refine cc_iload_n (j := 0) dX0_stuckLanes_4 rfl rfl ?_
      refine cc_iconst (v := 4) dX0_stuckLanes_5 (by decide) ?_
      refine cc_icmp_ge (tgt := 26) dX0_stuckLanes_6 (by decide) (fun c_6 => ?_) (fun c_6 => ?_)
      · have hge : i = 4 := by have := cc_ngt 4 c_6 (by omega) (by decide); omega
        subst hge
        refine cc_iload_n (j := 1) dX0_stuckLanes_26 rfl rfl ?_
        refine cc_iret rfl rfl dX0_stuckLanes_27 ?_
        exact ⟨_, rfl, rfl, rfl⟩
      · have hlt : i < 4 := cc_nlt 4 c_6 (by omega)
        refine cc_aload_n (j := 2) dX0_stuckLanes_9 rfl rfl ?_
        refine cc_iload_n (j := 0) dX0_stuckLanes_10 rfl rfl ?_
        refine cc_callVi (As := [.int (nI i)]) (rest := []) (ct_X0_isStuck cy z _ b S i hlt ⟨_, hB⟩) ok_X0_isStuck (hB.2.1) rfl im_X0_isStuck sl_X0_isStuck ml_X0_101 nd_X0_isStuck (by decide +kernel) (Nat.le_of_ble_eq_true rfl) rfl dX0_stuckLanes_11 (fun r2 G1 q3 => ?_)
        obtain ⟨rfl, rfl⟩ := q3
        rcases B_stb_01 S i with hsb | hsb
        · rw [show nI (B_stb S i) = 0 by rw [hsb]; rfl]
          refine cc_if_eq (tgt := 20) dX0_stuckLanes_14 (by decide) (fun c_14 => ?_) (fun c_14 => ?_)
          · rw [show nI (B_stn S i) = nI (B_stn S (i + 1)) from by show _ = nI (B_stn S i + B_stb S i); rw [hsb]; rfl]
            refine cc_iinc (j := 0) (v := nI (i + 1)) (ls' := [(2, .int (nI (i + 1))), (1, .int (nI (B_stn S (i + 1)))), (0, .ref b)]) dX0_stuckLanes_20 rfl (nI_1 i) (Nat.le_of_ble_eq_true rfl) rfl ?_
            refine cc_goto (tgt := 4) dX0_stuckLanes_23 (by decide) ?_
            exact ih (i + 1) (by omega) (by omega)
          · exact absurd c_14 (by decide)
        · rw [show nI (B_stb S i) = 1 by rw [hsb]; rfl]
          refine cc_if_eq (tgt := 20) dX0_stuckLanes_14 (by decide) (fun c_14_1 => ?_) (fun c_14_1 => ?_)
          · exact absurd c_14_1 (by decide)
          · refine cc_iinc (j := 1) (v := nI (B_stn S (i + 1))) (ls' := [(1, .int (nI (B_stn S (i + 1)))), (2, .int (nI i)), (0, .ref b)]) dX0_stuckLanes_17 rfl (by rw [show B_stn S (i + 1) = B_stn S i + 1 from by show B_stn S i + B_stb S i = _; rw [hsb]]; exact nI_1 _) (Nat.le_of_ble_eq_true rfl) rfl ?_
            refine cc_iinc (j := 1) (v := nI (i + 1)) (ls' := [(2, .int (nI (i + 1))), (1, .int (nI (B_stn S (i + 1)))), (0, .ref b)]) dX0_stuckLanes_20 rfl (nI_1 i) (Nat.le_of_ble_eq_true rfl) rfl ?_
            refine cc_goto (tgt := 4) dX0_stuckLanes_23 (by decide) ?_
            exact ih (i + 1) (by omega) (by omega)
  refine cc_enter ok_X0_stuckLanes (Nat.le_of_ble_eq_true rfl) (ls := [(0, .ref b)]) rfl ?_
  refine cc_iconst (v := 0) dX0_stuckLanes_0 (by decide) ?_
  refine cc_istore_n (ls' := [(1, .int 0), (0, .ref b)]) dX0_stuckLanes_1 rfl (Nat.le_of_ble_eq_true rfl) rfl ?_
  refine cc_iconst (v := 0) dX0_stuckLanes_2 (by decide) ?_
  refine cc_istore_n (ls' := [(2, .int 0), (1, .int 0), (0, .ref b)]) dX0_stuckLanes_3 rfl (Nat.le_of_ble_eq_true rfl) rfl ?_
  exact loop_4 5 0 (by omega) (by omega)

set_option maxHeartbeats 4000000 in
set_option maxRecDepth 100000 in
theorem ct_X0_figure (cy : Nat → ClassId) (z : Nat) (G : cc_G) (b : Nat) (S : St_) (x1 : Int32) (hE : bx_E cy G G b S) : cc_Cn cy Y_X0_figure [.ref b, .int x1] z G (cc_qi (fun r G' => r = B_fig x1 S ∧ G' = G)) := by
  obtain ⟨hs, hB⟩ := hE
  refine cc_enter ok_X0_figure (Nat.le_of_ble_eq_true rfl) (ls := [(0, .ref b), (1, .int x1)]) rfl ?_
  refine cc_iload_n (j := 1) dX0_figure_0 rfl rfl ?_
  rcases cc_sw10 x1 with rfl | rfl | rfl | rfl | rfl | rfl | rfl | rfl | rfl | rfl | rfl | c_1
  · refine cc_tableIn (off := 59) (tgt := 60) dX0_figure_1 (by decide) (by decide) rfl (by decide) ?_
    refine cc_aload_n (j := 0) dX0_figure_60 rfl rfl ?_
    refine cc_get (v := .int (S.1 0)) hB.2.1 cc_c0 0 (by decide) fl_X0_9 rfl dX0_figure_61 ?_
    refine cc_iret rfl rfl dX0_figure_64 ?_
    exact ⟨_, rfl, by simp [B_fig], rfl⟩
  · refine cc_tableIn (off := 64) (tgt := 65) dX0_figure_1 (by decide) (by decide) rfl (by decide) ?_
    refine cc_aload_n (j := 0) dX0_figure_65 rfl rfl ?_
    refine cc_get (v := .int (S.1 3)) hB.2.1 cc_c0 3 (by decide) fl_X0_21 rfl dX0_figure_66 ?_
    refine cc_iret rfl rfl dX0_figure_69 ?_
    exact ⟨_, rfl, by simp [B_fig], rfl⟩
  · refine cc_tableIn (off := 69) (tgt := 70) dX0_figure_1 (by decide) (by decide) rfl (by decide) ?_
    refine cc_aload_n (j := 0) dX0_figure_70 rfl rfl ?_
    refine cc_iconst (v := 0) dX0_figure_71 (by decide) ?_
    refine cc_callVi (As := [.int 0]) (rest := []) (ct_X0_sumOfQueues cy z _ b S 0 ⟨_, hB⟩) ok_X0_sumOfQueues (hB.2.1) rfl im_X0_sumOfQueues sl_X0_sumOfQueues ml_X0_105 nd_X0_sumOfQueues (by decide +kernel) (Nat.le_of_ble_eq_true rfl) rfl dX0_figure_72 (fun r2 G1 q3 => ?_)
    obtain ⟨rfl, rfl⟩ := q3
    refine cc_iret rfl rfl dX0_figure_75 ?_
    exact ⟨_, rfl, by simp [B_fig], rfl⟩
  · refine cc_tableIn (off := 75) (tgt := 76) dX0_figure_1 (by decide) (by decide) rfl (by decide) ?_
    refine cc_aload_n (j := 0) dX0_figure_76 rfl rfl ?_
    refine cc_bipush (v := 8) dX0_figure_77 (by decide) ?_
    refine cc_callVi (As := [.int 8]) (rest := []) (ct_X0_sumOfLanes cy z _ b S 8 ⟨_, hB⟩) ok_X0_sumOfLanes (hB.2.1) rfl im_X0_sumOfLanes sl_X0_sumOfLanes ml_X0_108 nd_X0_sumOfLanes (by decide +kernel) (Nat.le_of_ble_eq_true rfl) rfl dX0_figure_79 (fun r5 G4 q6 => ?_)
    obtain ⟨rfl, rfl⟩ := q6
    refine cc_iret rfl rfl dX0_figure_82 ?_
    exact ⟨_, rfl, by simp [B_fig], rfl⟩
  · refine cc_tableIn (off := 82) (tgt := 83) dX0_figure_1 (by decide) (by decide) rfl (by decide) ?_
    refine cc_aload_n (j := 0) dX0_figure_83 rfl rfl ?_
    refine cc_bipush (v := 9) dX0_figure_84 (by decide) ?_
    refine cc_callVi (As := [.int 9]) (rest := []) (ct_X0_sumOfLanes cy z _ b S 9 ⟨_, hB⟩) ok_X0_sumOfLanes (hB.2.1) rfl im_X0_sumOfLanes sl_X0_sumOfLanes ml_X0_108 nd_X0_sumOfLanes (by decide +kernel) (Nat.le_of_ble_eq_true rfl) rfl dX0_figure_86 (fun r8 G7 q9 => ?_)
    obtain ⟨rfl, rfl⟩ := q9
    refine cc_iret rfl rfl dX0_figure_89 ?_
    exact ⟨_, rfl, by simp [B_fig], rfl⟩
  · refine cc_tableIn (off := 89) (tgt := 90) dX0_figure_1 (by decide) (by decide) rfl (by decide) ?_
    refine cc_aload_n (j := 0) dX0_figure_90 rfl rfl ?_
    refine cc_bipush (v := 10) dX0_figure_91 (by decide) ?_
    refine cc_callVi (As := [.int 10]) (rest := []) (ct_X0_sumOfLanes cy z _ b S 10 ⟨_, hB⟩) ok_X0_sumOfLanes (hB.2.1) rfl im_X0_sumOfLanes sl_X0_sumOfLanes ml_X0_108 nd_X0_sumOfLanes (by decide +kernel) (Nat.le_of_ble_eq_true rfl) rfl dX0_figure_93 (fun r11 G10 q12 => ?_)
    obtain ⟨rfl, rfl⟩ := q12
    refine cc_iret rfl rfl dX0_figure_96 ?_
    exact ⟨_, rfl, by simp [B_fig], rfl⟩
  · refine cc_tableIn (off := 96) (tgt := 97) dX0_figure_1 (by decide) (by decide) rfl (by decide) ?_
    refine cc_aload_n (j := 0) dX0_figure_97 rfl rfl ?_
    refine cc_iconst (v := 4) dX0_figure_98 (by decide) ?_
    refine cc_callVi (As := [.int 4]) (rest := []) (ct_X0_sumOfLanes cy z _ b S 4 ⟨_, hB⟩) ok_X0_sumOfLanes (hB.2.1) rfl im_X0_sumOfLanes sl_X0_sumOfLanes ml_X0_108 nd_X0_sumOfLanes (by decide +kernel) (Nat.le_of_ble_eq_true rfl) rfl dX0_figure_99 (fun r14 G13 q15 => ?_)
    obtain ⟨rfl, rfl⟩ := q15
    refine cc_iret rfl rfl dX0_figure_102 ?_
    exact ⟨_, rfl, by simp [B_fig], rfl⟩
  · refine cc_tableIn (off := 102) (tgt := 103) dX0_figure_1 (by decide) (by decide) rfl (by decide) ?_
    refine cc_aload_n (j := 0) dX0_figure_103 rfl rfl ?_
    refine cc_iconst (v := 1) dX0_figure_104 (by decide) ?_
    refine cc_callVi (As := [.int 1]) (rest := []) (ct_X0_sumOfQueues cy z _ b S 1 ⟨_, hB⟩) ok_X0_sumOfQueues (hB.2.1) rfl im_X0_sumOfQueues sl_X0_sumOfQueues ml_X0_105 nd_X0_sumOfQueues (by decide +kernel) (Nat.le_of_ble_eq_true rfl) rfl dX0_figure_105 (fun r17 G16 q18 => ?_)
    obtain ⟨rfl, rfl⟩ := q18
    refine cc_iret rfl rfl dX0_figure_108 ?_
    exact ⟨_, rfl, by simp [B_fig], rfl⟩
  · refine cc_tableIn (off := 108) (tgt := 109) dX0_figure_1 (by decide) (by decide) rfl (by decide) ?_
    refine cc_aload_n (j := 0) dX0_figure_109 rfl rfl ?_
    refine cc_get (v := .int (S.1 1)) hB.2.1 cc_c0 1 (by decide) fl_X0_15 rfl dX0_figure_110 ?_
    refine cc_iret rfl rfl dX0_figure_113 ?_
    exact ⟨_, rfl, by simp [B_fig], rfl⟩
  · refine cc_tableIn (off := 113) (tgt := 114) dX0_figure_1 (by decide) (by decide) rfl (by decide) ?_
    refine cc_aload_n (j := 0) dX0_figure_114 rfl rfl ?_
    refine cc_get (v := .int (S.1 2)) hB.2.1 cc_c0 2 (by decide) fl_X0_18 rfl dX0_figure_115 ?_
    refine cc_iret rfl rfl dX0_figure_118 ?_
    exact ⟨_, rfl, by simp [B_fig], rfl⟩
  · refine cc_tableIn (off := 118) (tgt := 119) dX0_figure_1 (by decide) (by decide) rfl (by decide) ?_
    refine cc_aload_n (j := 0) dX0_figure_119 rfl rfl ?_
    refine cc_callVi (As := []) (rest := []) (ct_X0_stuckLanes cy z _ b S  ⟨_, hB⟩) ok_X0_stuckLanes (hB.2.1) rfl im_X0_stuckLanes sl_X0_stuckLanes ml_X0_111 nd_X0_stuckLanes (by decide +kernel) (Nat.le_of_ble_eq_true rfl) rfl dX0_figure_120 (fun r20 G19 q21 => ?_)
    obtain ⟨rfl, rfl⟩ := q21
    refine cc_iret rfl rfl dX0_figure_123 ?_
    exact ⟨_, rfl, by simp [B_fig], rfl⟩
  · refine cc_tableOut (tgt := 124) dX0_figure_1 c_1 (by decide) ?_
    refine cc_bipush (v := (-2)) dX0_figure_124 (by decide) ?_
    refine cc_iret rfl rfl dX0_figure_126 ?_
    exact ⟨_, rfl, by unfold B_fig; rw [if_neg (fun q => by subst q; exact absurd c_1 (by decide)), if_neg (fun q => by subst q; exact absurd c_1 (by decide)), if_neg (fun q => by subst q; exact absurd c_1 (by decide)), if_neg (fun q => by subst q; exact absurd c_1 (by decide)), if_neg (fun q => by subst q; exact absurd c_1 (by decide)), if_neg (fun q => by subst q; exact absurd c_1 (by decide)), if_neg (fun q => by subst q; exact absurd c_1 (by decide)), if_neg (fun q => by subst q; exact absurd c_1 (by decide)), if_neg (fun q => by subst q; exact absurd c_1 (by decide)), if_neg (fun q => by subst q; exact absurd c_1 (by decide)), if_neg (fun q => by subst q; exact absurd c_1 (by decide))], rfl⟩

set_option maxHeartbeats 4000000 in
set_option maxRecDepth 100000 in
theorem ct_X0_copyFrom (cy : Nat → ClassId) (z : Nat) (G : cc_G) (b : Nat) (S : St_) (o : Nat) (S2 : St_) (hbo : b + 31 ≤ o ∨ o + 31 ≤ b) (hE2 : bx_E cy G G o S2) (hE : bx_E cy G G b S) : cc_Cn cy Y_X0_copyFrom [.ref b, .ref o] z G (cc_qv (fun G' => bx_E cy G G' b S2)) := by
  obtain ⟨hs, hB⟩ := hE
  obtain ⟨hs2, hO⟩ := hE2
  have loop_34 : ∀ (n i : Nat) (G1 : cc_G), 4 < i + n → i ≤ 4 → bx_I cy G G1 b hs ((upd (upd (upd (upd S.1 0 (S2.1 0)) 1 (S2.1 1)) 2 (S2.1 2)) 3 (S2.1 3)), B_mapI i (fun j _ => S2.2.1 j) S.2.1, B_mapI i (fun j _ => S2.2.2 j) S.2.2) → cc_R cy Y_X0_copyFrom z 34 [(2, .int (nI i)), (0, .ref b), (1, .ref o)] [] G1 (cc_qv (fun G' => bx_E cy G G' b S2)) := by
    intro n
    induction n with
    | zero => intro i G1 h1 h2; exact absurd h1 (by omega)
    | succ n ih =>
      intro i G1 hn hi hB
      refine cc_iload_n (j := 0) dX0_copyFrom_34 rfl rfl ?_
      refine cc_iconst (v := 4) dX0_copyFrom_35 (by decide) ?_
      refine cc_icmp_ge (tgt := 75) dX0_copyFrom_36 (by decide) (fun c_36 => ?_) (fun c_36 => ?_)
      · have hge : i = 4 := by have := cc_ngt 4 c_36 (by omega) (by decide); omega
        subst hge
        refine cc_vret rfl dX0_copyFrom_75 ?_
        refine ⟨rfl, hs, hB.to (fun k hk => ?_) (fun j hj => B_mapI_in (F := (fun j _ => S2.2.1 j)) (X := S.2.1) hj) (fun j hj => B_mapI_in (F := (fun j _ => S2.2.2 j)) (X := S.2.2) hj) (fun _ _ => rfl)⟩
        match k, hk with
        | 0, _ => rfl
        | 1, _ => rfl
        | 2, _ => rfl
        | 3, _ => rfl
      · have hlt : i < 4 := cc_nlt 4 c_36 (by omega)
        refine cc_aload_n (j := 1) dX0_copyFrom_39 rfl rfl ?_
        refine cc_get (v := .ref (b + 1)) hB.2.1 cc_c0 4 (by decide) fl_X0_26 rfl dX0_copyFrom_40 ?_
        refine cc_iload_n (j := 0) dX0_copyFrom_43 rfl rfl ?_
        refine cc_aald4 (x := b + 3 + 7 * i) hB.2.2.1 (vp_in_nI (n := i) (by omega) (by decide)) (by rw [(nI_clamp (by omega))]; rfl) dX0_copyFrom_44 ?_
        refine cc_aload_n (j := 2) dX0_copyFrom_45 rfl rfl ?_
        refine cc_get (v := .ref (o + 1)) (((hB).1 o (by omega)).trans hO.2.1) cc_c0 4 (by decide) fl_X0_26 rfl dX0_copyFrom_46 ?_
        refine cc_iload_n (j := 0) dX0_copyFrom_49 rfl rfl ?_
        refine cc_aald4 (x := o + 3 + 7 * i) (((hB).1 _ (by omega)).trans hO.2.2.1) (vp_in_nI (n := i) (by omega) (by decide)) (by rw [(nI_clamp (by omega))]; rfl) dX0_copyFrom_50 ?_
        obtain ⟨_, _, hLr, -⟩ := bx_lane_at hB hlt
        refine cc_callNv (As := [.ref (o + 3 + 7 * i)]) (rest := []) (ct_X1_copyFrom cy z _ _ (S.2.1 i).1 (S.2.1 i).2.1 (S.2.1 i).2.2 _ (S2.2.1 i) (by omega) ((hO.2.2.2.2.1 i hlt).keep (fun q h1 h2 => hB.1 q (by omega))) (bx_lane_at hB hlt)) ok_X1_copyFrom (hLr.2.1) rfl im_X1_copyFrom sl_X1_copyFrom mn_X0_38 nd_X1_copyFrom (by decide +kernel) (Nat.le_of_ble_eq_true rfl) rfl dX0_copyFrom_51 (fun G1 q3 => ?_)
        have hB4 := bx_lane_up (F := (fun j _ => S2.2.1 j)) hB hlt q3
        refine cc_aload_n (j := 1) dX0_copyFrom_54 rfl rfl ?_
        refine cc_get (v := .ref (b + 2)) hB4.2.1 cc_c0 5 (by decide) fl_X0_32 rfl dX0_copyFrom_55 ?_
        refine cc_iload_n (j := 0) dX0_copyFrom_58 rfl rfl ?_
        refine cc_aald5 (x := b + 6 + 7 * i) hB4.2.2.2.1 (vp_in_nI (n := i) (by omega) (by decide)) (by rw [(nI_clamp (by omega))]; rfl) dX0_copyFrom_59 ?_
        refine cc_aload_n (j := 2) dX0_copyFrom_60 rfl rfl ?_
        refine cc_get (v := .ref (o + 2)) (((hB4).1 o (by omega)).trans hO.2.1) cc_c0 5 (by decide) fl_X0_32 rfl dX0_copyFrom_61 ?_
        refine cc_iload_n (j := 0) dX0_copyFrom_64 rfl rfl ?_
        refine cc_aald5 (x := o + 6 + 7 * i) (((hB4).1 _ (by omega)).trans hO.2.2.2.1) (vp_in_nI (n := i) (by omega) (by decide)) (by rw [(nI_clamp (by omega))]; rfl) dX0_copyFrom_65 ?_
        obtain ⟨_, _, _, hLr2, -⟩ := bx_queue_at hB4 hlt
        refine cc_callNv (As := [.ref (o + 6 + 7 * i)]) (rest := []) (ct_X2_copyFrom cy z _ _ (S.2.2 i).1 (S.2.2 i).2.1 _ (S.2.2 i).2.2 _ (hs2 i) (S2.2.2 i) (by omega) ((hO.2.2.2.2.2 i hlt).keep (fun q h1 h2 => hB4.1 q (by omega))) (bx_queue_at hB4 hlt)) ok_X2_copyFrom (hLr2.2.1) rfl im_X2_copyFrom sl_X2_copyFrom mn_X0_42 nd_X2_copyFrom (by decide +kernel) (Nat.le_of_ble_eq_true rfl) rfl dX0_copyFrom_66 (fun G5 q7 => ?_)
        have hB8 := bx_queue_up (F := (fun j _ => S2.2.2 j)) hB4 hlt q7
        refine cc_iinc (j := 0) (v := nI (i + 1)) (ls' := [(2, .int (nI (i + 1))), (0, .ref b), (1, .ref o)]) dX0_copyFrom_69 rfl (nI_1 i) (Nat.le_of_ble_eq_true rfl) rfl ?_
        refine cc_goto (tgt := 34) dX0_copyFrom_72 (by decide) ?_
        exact ih (i + 1) _ (by omega) (by omega) hB8
  refine cc_enter ok_X0_copyFrom (Nat.le_of_ble_eq_true rfl) (ls := [(0, .ref b), (1, .ref o)]) rfl ?_
  refine cc_aload_n (j := 0) dX0_copyFrom_0 rfl rfl ?_
  refine cc_aload_n (j := 1) dX0_copyFrom_1 rfl rfl ?_
  refine cc_get (v := .int (S2.1 0)) (((hB).1 o (by omega)).trans hO.2.1) cc_c0 0 (by decide) fl_X0_9 rfl dX0_copyFrom_2 ?_
  refine bx_rput (g' := upd S.1 0 (S2.1 0)) hB cc_c0 0 (by decide) fl_X0_9 rfl rfl rfl dX0_copyFrom_5 (fun G10 hB9 => ?_)
  refine cc_aload_n (j := 0) dX0_copyFrom_8 rfl rfl ?_
  refine cc_aload_n (j := 1) dX0_copyFrom_9 rfl rfl ?_
  refine cc_get (v := .int (S2.1 1)) (((hB9).1 o (by omega)).trans hO.2.1) cc_c0 1 (by decide) fl_X0_15 rfl dX0_copyFrom_10 ?_
  refine bx_rput (g' := upd (upd S.1 0 (S2.1 0)) 1 (S2.1 1)) hB9 cc_c0 1 (by decide) fl_X0_15 rfl rfl rfl dX0_copyFrom_13 (fun G12 hB11 => ?_)
  refine cc_aload_n (j := 0) dX0_copyFrom_16 rfl rfl ?_
  refine cc_aload_n (j := 1) dX0_copyFrom_17 rfl rfl ?_
  refine cc_get (v := .int (S2.1 2)) (((hB11).1 o (by omega)).trans hO.2.1) cc_c0 2 (by decide) fl_X0_18 rfl dX0_copyFrom_18 ?_
  refine bx_rput (g' := upd (upd (upd S.1 0 (S2.1 0)) 1 (S2.1 1)) 2 (S2.1 2)) hB11 cc_c0 2 (by decide) fl_X0_18 rfl rfl rfl dX0_copyFrom_21 (fun G14 hB13 => ?_)
  refine cc_aload_n (j := 0) dX0_copyFrom_24 rfl rfl ?_
  refine cc_aload_n (j := 1) dX0_copyFrom_25 rfl rfl ?_
  refine cc_get (v := .int (S2.1 3)) (((hB13).1 o (by omega)).trans hO.2.1) cc_c0 3 (by decide) fl_X0_21 rfl dX0_copyFrom_26 ?_
  refine bx_rput (g' := upd (upd (upd (upd S.1 0 (S2.1 0)) 1 (S2.1 1)) 2 (S2.1 2)) 3 (S2.1 3)) hB13 cc_c0 3 (by decide) fl_X0_21 rfl rfl rfl dX0_copyFrom_29 (fun G16 hB15 => ?_)
  refine cc_iconst (v := 0) dX0_copyFrom_32 (by decide) ?_
  refine cc_istore_n (ls' := [(2, .int 0), (0, .ref b), (1, .ref o)]) dX0_copyFrom_33 rfl (Nat.le_of_ble_eq_true rfl) rfl ?_
  exact loop_34 5 0 _ (by omega) (by omega) (by rw [B_mapI_0, B_mapI_0]; exact hB15)
end
section
/-! what always holds of a box -/
def ln_ok (T : Nat) (L : Ln_) : Prop := (∃ c : Nat, 1 ≤ c ∧ c ≤ 8 ∧ L.1 0 = nI c) ∧ (∃ p : Nat, 1 ≤ p ∧ p ≤ 9 ∧ L.1 1 = nI p) ∧ (∃ d : Nat, 1 ≤ d ∧ d ≤ 6 ∧ L.1 2 = nI d) ∧ (∃ t : Nat, t < 4 ∧ L.1 4 = nI t) ∧ L.2.1.length ≤ 8 ∧ ∀ k : Nat, k < L.2.2.length → (L.2.2.getD k 0).toInt + (L.2.2.length : Int) ≤ (T : Int) + 6 + k
def qu_ok (M : Nat) (q : Qu_) : Prop := q.2.2.length ≤ 8 ∧ ∀ p ∈ q.2.2, ∃ n : Nat, n < M ∧ p.1 = nI n
def B_ok (T M : Nat) (S : St_) : Prop := S.1 0 = nI T ∧ (S.1 1 = 0 ∨ S.1 1 = 1) ∧ (∃ a : Nat, a ≤ M ∧ S.1 3 = nI a) ∧ (∀ j, j < 4 → ln_ok T (S.2.1 j)) ∧ ∀ j, j < 4 → qu_ok M (S.2.2 j)
def B_mo (T M : Nat) (S : St_) : Prop := B_ok T M S ∧ ∀ j, j < 4 → (S.2.1 j).2.2.length ≤ 5
theorem B_mo.mid {T M : Nat} {S : St_} (h : B_mo T M S) (hM : M < 2 ^ 20) : B_mid S := by
  intro j hj
  obtain ⟨⟨c, hc1, hc2, hc⟩, ⟨p, hp1, hp2, hp⟩, -, ht, -⟩ := h.1.2.2.2.1 j hj
  refine ⟨by rw [hc]; exact nI_le (b := 8) hc2 (by decide), by rw [hp]; exact (cc_p0 (by omega)).mpr (by omega), ht, h.2 j hj, fun q hq => ?_⟩
  obtain ⟨n, hn, e⟩ := (h.1.2.2.2.2 j hj).2 q hq
  rw [e]
  intro q2
  exact nI_pos (n := n) (by omega) (by rw [q2]; decide)
theorem L_comeW_spec (t : Int32) : ∀ (wy : List Int32) (v : Nat → Int32), (∀ k, k ≠ 3 → (L_comeW t v wy).1 k = v k) ∧ (∃ pre, wy = pre ++ (L_comeW t v wy).2) ∧ ∀ w ws, (L_comeW t v wy).2 = w :: ws → t < w
  | [], v => ⟨fun _ _ => rfl, ⟨[], rfl⟩, fun w ws h => by cases h⟩
  | x :: xs, v => by
    unfold L_comeW
    split
    next hx =>
      obtain ⟨h1, ⟨pre, h2⟩, h3⟩ := L_comeW_spec t xs (upd v 3 (v 3 + 1))
      refine ⟨fun k hk => (h1 k hk).trans (pk_un hk), ⟨x :: pre, by rw [List.cons_append, ← h2]⟩, h3⟩
    next hx =>
      refine ⟨fun _ _ => rfl, ⟨[], rfl⟩, fun w ws h => ?_⟩
      cases h
      exact Int32.not_le.mp hx
theorem cc_getD_app {pre ws : List Int32} (k : Nat) : (pre ++ ws).getD (pre.length + k) 0 = ws.getD k 0 := by
  rw [List.getD_eq_getElem?_getD, List.getD_eq_getElem?_getD, List.getElem?_append_right (by omega), Nat.add_sub_cancel_left]
theorem ln_ok.come {T : Nat} {L : Ln_} (h : ln_ok T L) (hT : T < 2 ^ 20) : ln_ok T (L_come (nI T) L) ∧ (L_come (nI T) L).2.2.length ≤ 5 := by
  obtain ⟨h1, h2, h3, h4, h5, h6⟩ := h
  obtain ⟨e1, ⟨pre, e2⟩, e3⟩ := L_comeW_spec (nI T) L.2.2 L.1
  have hb : ∀ k : Nat, k < (L_comeW (nI T) L.1 L.2.2).2.length → ((L_comeW (nI T) L.1 L.2.2).2.getD k 0).toInt + ((L_comeW (nI T) L.1 L.2.2).2.length : Int) ≤ (T : Int) + 6 + k := by
    intro k hk
    have hl : L.2.2.length = pre.length + (L_comeW (nI T) L.1 L.2.2).2.length := by
      have := congrArg List.length e2
      rw [List.length_append] at this
      exact this
    have h7 := h6 (pre.length + k) (by omega)
    rw [show L.2.2.getD (pre.length + k) 0 = (L_comeW (nI T) L.1 L.2.2).2.getD k 0 by conv => { lhs; rw [e2] }; exact cc_getD_app k] at h7
    rw [hl] at h7
    push_cast at h7
    omega
  refine ⟨⟨?_, ?_, ?_, ?_, h5, hb⟩, ?_⟩
  · obtain ⟨c, a, b, e⟩ := h1
    exact ⟨c, a, b, (e1 0 (by decide)).trans e⟩
  · obtain ⟨c, a, b, e⟩ := h2
    exact ⟨c, a, b, (e1 1 (by decide)).trans e⟩
  · obtain ⟨c, a, b, e⟩ := h3
    exact ⟨c, a, b, (e1 2 (by decide)).trans e⟩
  · obtain ⟨c, a, e⟩ := h4
    exact ⟨c, a, (e1 4 (by decide)).trans e⟩
  · show (L_comeW (nI T) L.1 L.2.2).2.length ≤ 5
    cases hw : (L_comeW (nI T) L.1 L.2.2).2 with
    | nil => simp
    | cons w ws =>
      have h8 := Int32.lt_iff_toInt_lt.mp (e3 w ws hw)
      rw [nI_toInt (by omega)] at h8
      have h7 := hb 0 (by rw [hw]; simp)
      rw [hw] at h7
      simp only [List.getD_cons_zero] at h7
      have : ((w :: ws).length : Int) ≤ 5 := by omega
      omega
theorem ln_ok.same3 {T : Nat} {L : Ln_} (h : ln_ok T L) (x : Int32) : ln_ok T (upd L.1 3 x, L.2.1, L.2.2) := by
  obtain ⟨⟨c, a, b, e⟩, ⟨c2, a2, b2, e2⟩, ⟨c3, a3, b3, e3⟩, ⟨c4, a4, e4⟩, h5, h6⟩ := h
  exact ⟨⟨c, a, b, e⟩, ⟨c2, a2, b2, e2⟩, ⟨c3, a3, b3, e3⟩, ⟨c4, a4, e4⟩, h5, h6⟩
theorem B_ok.beg {T M : Nat} {S : St_} (h : B_ok T M S) (hT : T < 2 ^ 20) : B_mo T M (B_beg S) := by
  have hl : ∀ j, j < 4 → ln_ok T ((B_beg S).2.1 j) ∧ ((B_beg S).2.1 j).2.2.length ≤ 5 := by
    intro j hj
    have h0 : S.1 0 = nI T := h.1
    have h1 := (h.2.2.2.1 j hj).come hT
    have e : (B_beg S).2.1 j = B_begF S (S.2.1 j) := B_mapI_in (F := fun _ L => B_begF S L) (X := S.2.1) hj
    rw [e]
    unfold B_begF
    rw [h0]
    split
    · exact ⟨h1.1.same3 _, h1.2⟩
    · exact h1
  exact ⟨⟨h.1, h.2.1, h.2.2.1, fun j hj => (hl j hj).1, h.2.2.2.2⟩, fun j hj => (hl j hj).2⟩
theorem ln_ok.recv {T : Nat} {L : Ln_} (h : ln_ok T L) (n : Int32) (t : Nat) (ht : t < 4) : ln_ok T (upd (L_recv n L).1 4 (nI t), (L_recv n L).2) := by
  obtain ⟨⟨c, a, b, e⟩, ⟨c2, a2, b2, e2⟩, ⟨c3, a3, b3, e3⟩, -, h5, h6⟩ := h
  unfold L_recv
  split
  next hq => exact ⟨⟨c, a, b, e⟩, ⟨c2, a2, b2, e2⟩, ⟨c3, a3, b3, e3⟩, ⟨t, ht, rfl⟩, h5, h6⟩
  next hq =>
    refine ⟨⟨c, a, b, e⟩, ⟨c2, a2, b2, e2⟩, ⟨c3, a3, b3, e3⟩, ⟨t, ht, rfl⟩, ?_, h6⟩
    rw [e] at hq
    have : L.2.1.length < c := by
      rcases Nat.lt_or_ge L.2.1.length c with q | q
      · exact q
      · exact absurd (nI_le q (by omega)) hq
    show (L.2.1 ++ [n]).length ≤ 8
    rw [List.length_append, List.length_singleton]
    omega
theorem qu_ok.erase {M : Nat} {q : Qu_} (h : qu_ok M q) (x y : Int32) (k : Nat) : qu_ok M (x, y, q.2.2.eraseIdx k) :=
  ⟨Nat.le_trans (List.length_eraseIdx_le ..) h.1, fun p hp => h.2 p (List.mem_of_mem_eraseIdx hp)⟩
theorem B_mo.send {T M : Nat} {X : St_ × (Nat → Int32)} (h : B_mo T M X.1) (o t : Nat) : B_mo T M (B_send o t X).2.1 := by
  rcases B_send_cases o t X with e | ⟨j, k, h1, h2, h3, h4, e⟩
  · rw [e]
    exact h
  · rw [e]
    refine ⟨⟨h.1.1, h.1.2.1, h.1.2.2.1, fun i hi => ?_, fun i hi => ?_⟩, fun i hi => ?_⟩
    · show ln_ok T (va_up X.1.2.1 o _ i)
      by_cases hio : i = o
      · subst hio
        rw [va_up_self]
        exact (h.1.2.2.2.1 i hi).recv _ _ (Nat.mod_lt _ (by decide))
      · rw [va_up_ne _ _ hio]
        exact h.1.2.2.2.1 i hi
    · show qu_ok M (va_up X.1.2.2 j _ i)
      by_cases hij : i = j
      · subst hij
        rw [va_up_self]
        exact (h.1.2.2.2.2 i hi).erase _ _ _
      · rw [va_up_ne _ _ hij]
        exact h.1.2.2.2.2 i hi
    · show (va_up X.1.2.1 o _ i).2.2.length ≤ 5
      by_cases hio : i = o
      · subst hio
        rw [va_up_self]
        show (L_recv _ _).2.2.length ≤ 5
        rw [(L_recv_k _ _).2.2]
        exact h.2 i hi
      · rw [va_up_ne _ _ hio]
        exact h.2 i hi
theorem B_mo.sends {T M : Nat} {X : St_ × (Nat → Int32)} (h : B_mo T M X.1) : ∀ i, B_mo T M (B_sends i X).2.1 := by
  intro i
  induction i with
  | zero => exact h
  | succ i ih => exact B_mo.send ih i _
theorem L_rank_lt {c : Int32} {l : List Int32} : ∀ {n : Nat}, L_rank c l n < n → c < l.getD (L_rank c l n) 0
  | 0, h => absurd h (by omega)
  | n + 1, h => by
    unfold L_rank at h ⊢
    split
    next hc =>
      rw [if_pos hc] at h
      by_cases hq : L_rank c l n = n
      · rw [hq]; exact hc
      · exact L_rank_lt (by have := L_rank_le c l n; omega)
    next hc =>
      rw [if_neg hc] at h
      exact absurd h (by omega)
theorem cc_getD_ins {l : List Int32} {c : Int32} {r : Nat} (hr : r ≤ l.length) (k : Nat) : (l.take r ++ c :: l.drop r).getD k 0 = if k < r then l.getD k 0 else if k = r then c else l.getD (k - 1) 0 := by
  have ht : (l.take r).length = r := by rw [List.length_take]; omega
  simp only [List.getD_eq_getElem?_getD]
  by_cases h1 : k < r
  · rw [if_pos h1, List.getElem?_append_left (by omega), List.getElem?_take, if_pos h1]
  · rw [if_neg h1, List.getElem?_append_right (by omega), ht]
    by_cases h2 : k = r
    · subst h2
      simp
    · rw [if_neg h2]
      obtain ⟨m, hm⟩ : ∃ m, k - r = m + 1 := ⟨k - r - 1, by omega⟩
      rw [hm, List.getElem?_cons_succ, List.getElem?_drop, show r + m = k - 1 by omega]
theorem ln_ok.take {T : Nat} {L : Ln_} (h : ln_ok T L) (hT : T < 2 ^ 20) : ln_ok (T + 1) (L_take (nI T) L) := by
  obtain ⟨h1, h2, ⟨d, d1, d2, hd⟩, h4, h5, h6⟩ := h
  unfold L_take
  split
  next hq =>
    have hc : nI T + L.1 2 = nI (T + d) := by rw [hd]; exact nI_add _ _
    refine ⟨h1, h2, ⟨d, d1, d2, hd⟩, h4, ?_, fun k hk => ?_⟩
    · show L.2.1.tail.length ≤ 8
      rw [List.length_tail]
      omega
    · have hk : k < (L_ins (nI T + L.1 2) L.2.2).length := hk
      show ((L_ins (nI T + L.1 2) L.2.2).getD k 0).toInt + ((L_ins (nI T + L.1 2) L.2.2).length : Int) ≤ _
      rw [L_ins_len] at hk ⊢
      rw [hc]
      have hr := L_rank_le (nI (T + d)) L.2.2 L.2.2.length
      have hlt := @L_rank_lt (nI (T + d)) L.2.2 L.2.2.length
      unfold L_ins
      rw [cc_getD_ins hr]
      generalize L_rank (nI (T + d)) L.2.2 L.2.2.length = r at hr hlt ⊢
      push_cast
      split
      next hkr =>
        have := h6 k (by omega)
        omega
      next hkr =>
        split
        next hke =>
          subst hke
          rw [nI_toInt (by omega)]
          by_cases hkl : k < L.2.2.length
          · have h7 := Int32.lt_iff_toInt_lt.mp (hlt hkl)
            rw [nI_toInt (by omega)] at h7
            have := h6 k hkl
            push_cast at h7 ⊢
            omega
          · have : k = L.2.2.length := by omega
            push_cast
            omega
        next hke =>
          have := h6 (k - 1) (by omega)
          omega
  next hq =>
    exact ⟨h1, h2, ⟨d, d1, d2, hd⟩, h4, h5, fun k hk => by have := h6 k hk; push_cast; omega⟩
theorem B_ok.tick {T M : Nat} {S : St_} (h : B_ok T M S) (hT : T < 2 ^ 20) : B_ok (T + 1) M (B_tick S).2 := by
  have h0 : B_mo T M (B_beg S) := h.beg hT
  have h1 := h0.sends (X := (B_beg S, fun _ => 0)) 4
  obtain ⟨X4, hX4⟩ : ∃ X, X = B_sends 4 (B_beg S, fun _ => 0) := ⟨_, rfl⟩
  rw [B_tick_eq hX4]
  rw [← hX4] at h1
  obtain ⟨⟨a0, a1, a2, a3, a4⟩, -⟩ := h1
  refine ⟨?_, ?_, ?_, fun j hj => ?_, fun j hj => ?_⟩
  · show upd X4.2.1.1 0 (X4.2.1.1 0 + 1) 0 = _
    rw [pk_us, a0]
    exact nI_1 T
  · show upd X4.2.1.1 0 (X4.2.1.1 0 + 1) 1 = 0 ∨ upd X4.2.1.1 0 (X4.2.1.1 0 + 1) 1 = 1
    rw [pk_un (by decide)]
    exact a1
  · obtain ⟨a, ha, e⟩ := a2
    exact ⟨a, ha, e⟩
  · show ln_ok (T + 1) (B_mapI 4 (fun _ L => L_take (X4.2.1.1 0) L) X4.2.1.2.1 j)
    rw [B_mapI_in hj, a0]
    exact (a3 j hj).take hT
  · show qu_ok M (B_mapI 4 _ X4.2.1.2.2 j)
    rw [B_mapI_in hj]
    exact a4 j hj
theorem B_ok.pass {T M : Nat} {S : St_} (h : B_ok T M S) : ∀ n, T + n < 2 ^ 20 → B_ok (T + n) M (B_pass n S).2 := by
  intro n
  induction n with
  | zero => exact fun _ => h
  | succ n ih => exact fun hn => (ih (by omega)).tick (by omega)
theorem B_ok.mids {T M : Nat} {S : St_} (h : B_ok T M S) (hM : M < 2 ^ 20) {n : Nat} (hn : T + n < 2 ^ 20) : ∀ k, k < n → B_mid (B_beg (B_pass k S).2) := fun k hk => ((h.pass k (by omega)).beg (by omega)).mid hM
theorem B_ok.mono {T M M' : Nat} {S : St_} (h : B_ok T M S) (hM : M ≤ M') : B_ok T M' S := by
  obtain ⟨a0, a1, ⟨a, ha, e⟩, a3, a4⟩ := h
  refine ⟨a0, a1, ⟨a, by omega, e⟩, a3, fun j hj => ⟨(a4 j hj).1, fun p hp => ?_⟩⟩
  obtain ⟨n, hn, e⟩ := (a4 j hj).2 p hp
  exact ⟨n, by omega, e⟩
theorem B_ok.adm {T M : Nat} {S : St_} (h : B_ok T M S) {i : Nat} (hi : i < 4) (o : Int32) (hlt : (S.2.2 i).2.2.length < 8) : B_ok T (M + 1) (B_adm i o S) := by
  obtain ⟨a0, a1, ⟨a, ha, e⟩, a3, a4⟩ := h
  refine ⟨a0, ?_, ⟨a + 1, by omega, ?_⟩, a3, fun j hj => ?_⟩
  · show upd S.1 3 (S.1 3 + 1) 1 = 0 ∨ upd S.1 3 (S.1 3 + 1) 1 = 1
    rw [pk_un (by decide)]
    exact a1
  · show upd S.1 3 (S.1 3 + 1) 3 = _
    rw [pk_us, e]
    exact nI_1 a
  · show qu_ok (M + 1) (va_up S.2.2 i _ j)
    by_cases hq : j = i
    · subst hq
      rw [va_up_self]
      refine ⟨?_, fun p hp => ?_⟩
      · show ((S.2.2 j).2.2 ++ [_]).length ≤ 8
        rw [List.length_append, List.length_singleton]
        omega
      · rcases List.mem_append.mp hp with hp | hp
        · obtain ⟨n, hn, e2⟩ := (a4 j hj).2 p hp
          exact ⟨n, by omega, e2⟩
        · rw [List.mem_singleton.mp hp]
          exact ⟨a, by omega, e⟩
    · rw [va_up_ne _ _ hq]
      refine ⟨(a4 j hj).1, fun p hp => ?_⟩
      obtain ⟨n, hn, e2⟩ := (a4 j hj).2 p hp
      exact ⟨n, by omega, e2⟩
end
section
/-! the whole object: the box, the snapshot, the history (the oldest first), the text -/
abbrev CS_ : Type := St_ × Option St_ × List St_ × List Int32
/-- where the seven boxes of an object at h lie: the state, the trial, the snapshot, four of the history -/
def cb (h k : Nat) : Nat := if k < 3 then h + 1 + 31 * k else h + 3 + 31 * k
theorem cb_ap (h : Nat) {k j : Nat} (hk : k ≠ j) : cb h k + 31 ≤ cb h j ∨ cb h j + 31 ≤ cb h k := by
  unfold cb
  split <;> split <;> omega
theorem cb_in (h : Nat) {k : Nat} (hk : k < 7) : h < cb h k ∧ cb h k + 31 ≤ h + 220 ∧ (cb h k + 31 ≤ h + 94 ∨ h + 96 ≤ cb h k) := by
  unfold cb
  split <;> omega
def ca_fs (h : Nat) (hS nH nT : Int32) : List Value := [.ref (h + 1), .ref (h + 32), .ref (h + 63), .int hS, .ref (h + 94), .int nH, .ref (h + 95), .int nT]
def ca_h (h : Nat) (π : Nat → Nat) : Nat → Option Nat := fun i => some (cb h (3 + π i))
def ca_R (cy : Nat → ClassId) (G0 G : cc_G) (h : Nat) (BS : Nat → St_) (hS : Int32) (π : Nat → Nat) (nH : Int32) (tx : Nat → Int32) (nT : Int32) : Prop :=
  (∀ q : Nat, (q < h ∨ h + 220 ≤ q) → G q = G0 q) ∧ G h = some (.inr (3, ca_fs h hS nH nT)) ∧ (∀ k, k < 7 → bx_E cy G G (cb h k) (BS k)) ∧ G (h + 94) = some (.inl (cy 3, 4, .inr (.inr (.inr (.inr (ca_h h π)))))) ∧ G (h + 95) = some (.inl (cy 0, 60, .inl tx))
/-- four places, each once -/
def ca_P (π : Nat → Nat) : Prop := (∀ i, i < 4 → π i < 4) ∧ ∀ i j, i < 4 → j < 4 → π i = π j → i = j
def ca_S (hS : Int32) (BS : Nat → St_) (s : Option St_) : Prop := (s = none ∧ hS = 0) ∨ (s = some (BS 2) ∧ hS = 1)
def ca_I (cy : Nat → ClassId) (G0 G : cc_G) (h : Nat) (c : CS_) : Prop := ∃ BS hS π tx, ca_R cy G0 G h BS hS π (nI c.2.2.1.length) tx (nI c.2.2.2.length) ∧ c.1 = BS 0 ∧ ca_S hS BS c.2.1 ∧ ca_P π ∧ (∀ (i : Nat) (hi : i < c.2.2.1.length), BS (3 + π i) = c.2.2.1[i]) ∧ c.2.2.1.length ≤ 4 ∧ ar_ tx c.2.2.2 ∧ c.2.2.2.length ≤ 60
theorem ca_R.self {cy : Nat → ClassId} {G0 G : cc_G} {h : Nat} {BS : Nat → St_} {hS nH nT : Int32} {π : Nat → Nat} {tx : Nat → Int32} (H : ca_R cy G0 G h BS hS π nH tx nT) : ca_R cy G G h BS hS π nH tx nT := ⟨fun _ _ => rfl, H.2⟩
theorem ca_R.tr {cy : Nat → ClassId} {G0 G1 G2 : cc_G} {h : Nat} {BS BS' : Nat → St_} {hS nH nT hS' nH' nT' : Int32} {π π' : Nat → Nat} {tx tx' : Nat → Int32} (H : ca_R cy G0 G1 h BS hS π nH tx nT) (H2 : ca_R cy G1 G2 h BS' hS' π' nH' tx' nT') : ca_R cy G0 G2 h BS' hS' π' nH' tx' nT' := ⟨fun q hq => (H2.1 q hq).trans (H.1 q hq), H2.2⟩
theorem ca_I.self {cy : Nat → ClassId} {G0 G : cc_G} {h : Nat} {c : CS_} (H : ca_I cy G0 G h c) : ca_I cy G G h c := by
  obtain ⟨BS, hS, π, tx, h1, h2⟩ := H
  exact ⟨BS, hS, π, tx, h1.self, h2⟩
theorem ca_I.tr {cy : Nat → ClassId} {G0 G1 G2 : cc_G} {h : Nat} {c c' : CS_} (H : ca_I cy G0 G1 h c) (H2 : ca_I cy G1 G2 h c') : ca_I cy G0 G2 h c' := by
  obtain ⟨_, _, _, _, h1, -⟩ := H
  obtain ⟨BS, hS, π, tx, h2, h3⟩ := H2
  exact ⟨BS, hS, π, tx, h1.tr h2, h3⟩
/-- behind a change of one of the boxes -/
theorem ca_R.slot {cy : Nat → ClassId} {G0 G G1 : cc_G} {h : Nat} {BS : Nat → St_} {hS nH nT : Int32} {π : Nat → Nat} {tx : Nat → Int32} (H : ca_R cy G0 G h BS hS π nH tx nT) {k : Nat} (hk : k < 7) {S : St_} {b : Nat} (hb : b = cb h k) (hq : bx_E cy G G1 b S) : ca_R cy G0 G1 h (va_up BS k S) hS π nH tx nT := by
  subst hb
  have fr := hq.fr
  have hin := cb_in h hk
  refine ⟨fun q hq => (fr q (by omega)).trans (H.1 q hq), (fr _ (by omega)).trans H.2.1, fun j hj => ?_, (fr _ (by omega)).trans H.2.2.2.1, (fr _ (by omega)).trans H.2.2.2.2⟩
  by_cases hjk : j = k
  · subst hjk
    rw [va_up_self]
    exact hq.self
  · rw [va_up_ne _ _ hjk]
    have ap := cb_ap h hjk
    exact (H.2.2.1 j hj).keep (fun q h1 h2 => fr q (by omega))
theorem ca_R.b0 {cy : Nat → ClassId} {G0 G : cc_G} {h : Nat} {BS : Nat → St_} {hS nH nT : Int32} {π : Nat → Nat} {tx : Nat → Int32} (H : ca_R cy G0 G h BS hS π nH tx nT) : bx_E cy G G (h + 1) (BS 0) := H.2.2.1 0 (by decide)
theorem ca_R.b1 {cy : Nat → ClassId} {G0 G : cc_G} {h : Nat} {BS : Nat → St_} {hS nH nT : Int32} {π : Nat → Nat} {tx : Nat → Int32} (H : ca_R cy G0 G h BS hS π nH tx nT) : bx_E cy G G (h + 32) (BS 1) := H.2.2.1 1 (by decide)
theorem ca_R.b2 {cy : Nat → ClassId} {G0 G : cc_G} {h : Nat} {BS : Nat → St_} {hS nH nT : Int32} {π : Nat → Nat} {tx : Nat → Int32} (H : ca_R cy G0 G h BS hS π nH tx nT) : bx_E cy G G (h + 63) (BS 2) := H.2.2.1 2 (by decide)
section CAR
variable {cy : Nat → ClassId} {Y : cc_Y} {z pc : Nat} {ls : List (Nat × Value)} {st : List Value} {G0 G : cc_G} {Q : Option Value → cc_G → Prop} {h idx : Nat} {BS : Nat → St_} {hS nH nT hS' nH' nT' : Int32} {π : Nat → Nat} {tx : Nat → Int32} {x : Int32}
theorem ca_rput (H : ca_R cy G0 G h BS hS π nH tx nT) (hcl : cc_Cl 3 Y.1.cls TX3 8 tyX3) (k0 : Nat) (hk0 : k0 < 8) (hln : Cond.fieldLink Y.1.cls idx (TX3 k0).1 (TX3 k0).2.1 (TX3 k0).2.2.1 ∈ cc_GT) (hfin : (TX3 k0).2.2.2 = false) {ty : FieldType} (hdt : parseFieldDescriptor (TX3 k0).2.2.1 = some ty) (hn : narrow ty (.int x) = .int x) (hfit : fits ty (.int x) = true) (hset : (ca_fs h hS nH nT).set k0 (.int x) = ca_fs h hS' nH' nT') (hd : decode Y.2.1 pc = .ok (.putfield idx, 3)) (k : ∀ G1, ca_R cy G0 G1 h BS hS' π nH' tx nT' → cc_R cy Y z (pc + 3) ls st G1 Q) : cc_R cy Y z pc ls (.int x :: .ref h :: st) G Q := by
  refine cc_put H.2.1 hcl k0 hk0 hln hfin hdt hn hfit hk0 hd ?_
  rw [hset]
  exact k _ ⟨fun q hq => by rw [va_up_ne _ _ (by omega)]; exact H.1 q hq, va_up_self _ _ _, fun j hj => (H.2.2.1 j hj).keep (fun q h1 h2 => va_up_ne _ _ (by have := cb_in h hj; omega)), by rw [va_up_ne _ _ (by omega)]; exact H.2.2.2.1, by rw [va_up_ne _ _ (by omega)]; exact H.2.2.2.2⟩
theorem ca_rchar {i : Int32} {j : Nat} (H : ca_R cy G0 G h BS hS π nH tx nT) (hin : vp_in i 60) (hj : i.toNatClampNeg = j) (hx : vp_nar .char x = x) (hd : decode Y.2.1 pc = .ok (.castore, 1)) (k : ∀ G1, ca_R cy G0 G1 h BS hS π nH (upd tx j x) nT → cc_R cy Y z (pc + 1) ls st G1 Q) : cc_R cy Y z pc ls (.int x :: .int i :: .ref (h + 95) :: st) G Q := by
  refine cc_cast H.2.2.2.2 hin hj hd ?_
  rw [hx]
  exact k _ ⟨fun q hq => by rw [va_up_ne _ _ (by omega)]; exact H.1 q hq, by rw [va_up_ne _ _ (by omega)]; exact H.2.1, fun j hj => (H.2.2.1 j hj).keep (fun q h1 h2 => va_up_ne _ _ (by have := cb_in h hj; omega)), by rw [va_up_ne _ _ (by omega)]; exact H.2.2.2.1, va_up_self _ _ _⟩
/-- a place of the history is written with the box of a place -/
theorem ca_rhist {i : Int32} {j p : Nat} (H : ca_R cy G0 G h BS hS π nH tx nT) (hp : p < 4) (hin : vp_in i 4) (hj : i.toNatClampNeg = j) (hd : decode Y.2.1 pc = .ok (.aastore, 1)) (k : ∀ G1, ca_R cy G0 G1 h BS hS (va_up π j p) nH tx nT → cc_R cy Y z (pc + 1) ls st G1 Q) : cc_R cy Y z pc ls (.ref (cb h (3 + p)) :: .int i :: .ref (h + 94) :: st) G Q := by
  refine cc_aast3 H.2.2.2.1 (H.2.2.1 (3 + p) (by omega)).obj hin hj hd ?_
  have e : va_up (ca_h h π) j (some (cb h (3 + p))) = ca_h h (va_up π j p) := by
    funext q
    by_cases hq : q = j
    · subst hq
      rw [va_up_self]
      show _ = some (cb h (3 + va_up π q p q))
      rw [va_up_self]
    · rw [va_up_ne _ _ hq]
      show some (cb h (3 + π q)) = some (cb h (3 + va_up π j p q))
      rw [va_up_ne _ _ hq]
  rw [e]
  exact k _ ⟨fun q hq => by rw [va_up_ne _ _ (by omega)]; exact H.1 q hq, by rw [va_up_ne _ _ (by omega)]; exact H.2.1, fun j hj => (H.2.2.1 j hj).keep (fun q h1 h2 => va_up_ne _ _ (by have := cb_in h hj; omega)), va_up_self _ _ _, by rw [va_up_ne _ _ (by omega)]; exact H.2.2.2.2⟩
end CAR
theorem ca_I.obj {cy : Nat → ClassId} {G0 G : cc_G} {h : Nat} {c : CS_} (H : ca_I cy G0 G h c) : ∃ hS, G h = some (.inr (3, ca_fs h hS (nI c.2.2.1.length) (nI c.2.2.2.length))) := by
  obtain ⟨BS, hS, π, tx, h1, h2⟩ := H
  exact ⟨hS, h1.2.1⟩
theorem ca_I.box0 {cy : Nat → ClassId} {G0 G : cc_G} {h : Nat} {c : CS_} (H : ca_I cy G0 G h c) : bx_E cy G G (h + 1) c.1 := by
  obtain ⟨BS, hS, π, tx, h1, h2, -⟩ := H
  rw [h2]
  exact h1.b0
theorem ca_I.trial {cy : Nat → ClassId} {G0 G : cc_G} {h : Nat} {c : CS_} (H : ca_I cy G0 G h c) : ∃ S, bx_E cy G G (h + 32) S := by
  obtain ⟨BS, hS, π, tx, h1, h2, -⟩ := H
  exact ⟨_, h1.b1⟩
theorem ca_I.box {cy : Nat → ClassId} {G0 G G1 : cc_G} {h : Nat} {c : CS_} {S : St_} (H : ca_I cy G0 G h c) (hq : bx_E cy G G1 (h + 1) S) : ca_I cy G0 G1 h (S, c.2) := by
  obtain ⟨BS, hS, π, tx, h1, h2, h3, h4, h5, h6⟩ := H
  refine ⟨va_up BS 0 S, hS, π, tx, h1.slot (k := 0) (by decide) rfl hq, (va_up_self _ _ _).symm, ?_, h4, fun i hi => ?_, h6⟩
  · rcases h3 with ⟨a, b⟩ | ⟨a, b⟩
    · exact Or.inl ⟨a, b⟩
    · exact Or.inr ⟨by rw [va_up_ne _ _ (by decide)]; exact a, b⟩
  · rw [va_up_ne _ _ (by omega)]
    exact h5 i hi
theorem ca_I.trialup {cy : Nat → ClassId} {G0 G G1 : cc_G} {h : Nat} {c : CS_} {S : St_} (H : ca_I cy G0 G h c) (hq : bx_E cy G G1 (h + 32) S) : ca_I cy G0 G1 h c := by
  obtain ⟨BS, hS, π, tx, h1, h2, h3, h4, h5, h6⟩ := H
  refine ⟨va_up BS 1 S, hS, π, tx, h1.slot (k := 1) (by decide) rfl hq, h2.trans (va_up_ne _ _ (by decide)).symm, ?_, h4, fun i hi => ?_, h6⟩
  · rcases h3 with ⟨a, b⟩ | ⟨a, b⟩
    · exact Or.inl ⟨a, b⟩
    · exact Or.inr ⟨by rw [va_up_ne _ _ (by decide)]; exact a, b⟩
  · rw [va_up_ne _ _ (by omega)]
    exact h5 i hi
theorem ca_I.push {cy : Nat → ClassId} {G0 G : cc_G} {h : Nat} {BS : Nat → St_} {hS nH : Int32} {π : Nat → Nat} {tx : Nat → Int32} {S : St_} {sn : Option St_} {hi : List St_} {t : List Int32} (H : ca_R cy G0 G h (va_up BS (3 + π hi.length) S) hS π nH tx (nI t.length)) (hn : nH = nI (hi.length + 1)) (e0 : S = BS 0) (eS : ca_S hS BS sn) (hP : ca_P π) (hH : ∀ (i : Nat) (hq : i < hi.length), BS (3 + π i) = hi[i]) (hl : hi.length < 4) (hT : ar_ tx t) (h60 : t.length ≤ 60) : ca_I cy G0 G h (S, sn, hi ++ [S], t) := by
  refine ⟨va_up BS (3 + π hi.length) S, hS, π, tx, ?_, ?_, ?_, hP, fun i hi2 => ?_, ?_, hT, h60⟩
  · show ca_R cy G0 G h (va_up BS (3 + π hi.length) S) hS π (nI (hi ++ [S]).length) tx (nI t.length)
    rw [List.length_append, List.length_singleton, ← hn]
    exact H
  · show S = va_up BS (3 + π hi.length) S 0
    rw [va_up_ne _ _ (by omega)]
    exact e0
  · rcases eS with ⟨a, b⟩ | ⟨a, b⟩
    · exact Or.inl ⟨a, b⟩
    · exact Or.inr ⟨by rw [va_up_ne _ _ (by omega)]; exact a, b⟩
  · have hi3 : i < hi.length + 1 := by
      have : i < (hi ++ [S]).length := hi2
      rw [List.length_append, List.length_singleton] at this
      exact this
    show va_up BS (3 + π hi.length) S (3 + π i) = (hi ++ [S])[i]
    by_cases hq : i = hi.length
    · subst hq
      rw [va_up_self]
      simp
    · rw [va_up_ne _ _ (fun q => hq (hP.2 i hi.length (by omega) (by omega) (by omega))), List.getElem_append_left (by omega)]
      exact hH i (by omega)
  · show (hi ++ [S]).length ≤ 4
    rw [List.length_append, List.length_singleton]
    omega
def ca_rot (π : Nat → Nat) : Nat → Nat := va_up (va_up (va_up (va_up π 0 (π 1)) 1 (π 2)) 2 (π 3)) 3 (π 0)
theorem ca_rot_at (π : Nat → Nat) : ca_rot π 0 = π 1 ∧ ca_rot π 1 = π 2 ∧ ca_rot π 2 = π 3 ∧ ca_rot π 3 = π 0 := ⟨rfl, rfl, rfl, rfl⟩
theorem ca_P.rot {π : Nat → Nat} (h : ca_P π) : ca_P (ca_rot π) := by
  obtain ⟨r0, r1, r2, r3⟩ := ca_rot_at π
  have k : ∀ i, i < 4 → ∃ j, j < 4 ∧ ca_rot π i = π j ∧ (j = i + 1 ∨ (i = 3 ∧ j = 0)) := by
    intro i hi
    match i, hi with
    | 0, _ => exact ⟨1, by decide, r0, by omega⟩
    | 1, _ => exact ⟨2, by decide, r1, by omega⟩
    | 2, _ => exact ⟨3, by decide, r2, by omega⟩
    | 3, _ => exact ⟨0, by decide, r3, by omega⟩
  refine ⟨fun i hi => ?_, fun i j hi hj e => ?_⟩
  · obtain ⟨m, hm, e, -⟩ := k i hi
    rw [e]
    exact h.1 m hm
  · obtain ⟨m, hm, e1, a1⟩ := k i hi
    obtain ⟨n, hn, e2, a2⟩ := k j hj
    have := h.2 m n hm hn (by rw [← e1, ← e2]; exact e)
    omega
/-! what each call answers, and what it leaves -/
def C_i (x : Int32) : Nat := x.toNatClampNeg
def C_rem (c : CS_) : CS_ := (c.1, c.2.1, (if 4 ≤ c.2.2.1.length then c.2.2.1.tail else c.2.2.1) ++ [c.1], c.2.2.2)
def C_box (c : CS_) (S : St_) : CS_ := (S, c.2)
def S_lane (S : St_) (i : Nat) (L : Ln_) : St_ := (S.1, va_up S.2.1 i L, S.2.2)
def C_mostL (w : Int32) : Int32 := if w = 0 then 8 else if w = 1 then 9 else if w = 2 then 6 else (-1)
def C_mostB (w : Int32) : Int32 := if w = 0 then 1 else if w = 1 then 60 else (-1)
def L_set (w : Int32) (L : Ln_) : Int32 := if w = 0 then L.1 0 else if w = 1 then L.1 1 else L.1 2
def L_chg (w y : Int32) (L : Ln_) : Ln_ := (if w = 0 then upd (upd L.1 3 (L.1 3 + (y - L.1 0))) 0 y else if w = 1 then upd L.1 1 y else upd L.1 2 y, L.2)
def C_setLane (x w y : Int32) (c : CS_) : Int32 × CS_ :=
  if 0 ≤ x ∧ x < 4 then
    if y < 1 ∨ C_mostL w < y then (-2, c) else
    if w = 0 ∧ y < nI (c.1.2.1 (C_i x)).2.1.length then (-4, c) else
    if L_set w (c.1.2.1 (C_i x)) = y then (-5, c) else
    (L_set w (c.1.2.1 (C_i x)), C_box (C_rem c) (S_lane c.1 (C_i x) (L_chg w y (c.1.2.1 (C_i x)))))
  else (-1, c)
def C_set (w y : Int32) (c : CS_) : Int32 × CS_ :=
  if y < 0 ∨ C_mostB w < y then (-2, c) else
  if w = 0 then (if c.1.1 1 = y then (-5, c) else (c.1.1 1, C_box (C_rem c) (upd c.1.1 1 y, c.1.2)))
  else (if c.1.1 2 = y then (-5, c) else (c.1.1 2, C_box (C_rem c) (upd c.1.1 2 y, c.1.2)))
def C_arrive (x o : Int32) (c : CS_) : Int32 × CS_ :=
  if (0 ≤ x ∧ x < 4) ∧ 0 ≤ o ∧ o < 4 then
    if (c.1.2.2 (C_i x)).2.2.length < 8 then (c.1.1 3, C_box (C_rem c) (B_adm (C_i x) o c.1)) else (-3, c)
  else (-1, c)
def C_pass (n : Int32) (c : CS_) : Int32 × CS_ :=
  if 1 ≤ n ∧ n ≤ 50 then
    if 9999 < c.1.1 0 + n then (-4, c) else (nI (B_pass (C_i n) c.1).1, C_box (C_rem c) (B_pass (C_i n) c.1).2)
  else (-2, c)
def C_lose (x : Int32) (c : CS_) : Int32 × CS_ :=
  if 0 ≤ x ∧ x < 4 then
    if (c.1.2.1 (C_i x)).2.2.length = 0 then (-4, c) else (nI ((c.1.2.1 (C_i x)).2.2.length - 1), C_box (C_rem c) (S_lane c.1 (C_i x) (L_lose (c.1.2.1 (C_i x)))))
  else (-1, c)
def C_forge (x : Int32) (c : CS_) : Int32 × CS_ :=
  if 0 ≤ x ∧ x < 4 then
    if 16 ≤ (c.1.2.1 (C_i x)).1 3 then (-3, c) else ((c.1.2.1 (C_i x)).1 3 + 1 + 100, C_box (C_rem c) (S_lane c.1 (C_i x) (upd (c.1.2.1 (C_i x)).1 3 ((c.1.2.1 (C_i x)).1 3 + 1), (c.1.2.1 (C_i x)).2)))
  else (-1, c)
def L_mis (L : Ln_) : Int32 := L.1 0 - L.1 3 - nI L.2.1.length - nI L.2.2.length
def C_repair (x : Int32) (c : CS_) : Int32 × CS_ :=
  if 0 ≤ x ∧ x < 4 then
    if L_mis (c.1.2.1 (C_i x)) = 0 then (-5, c) else (L_mis (c.1.2.1 (C_i x)) + 100, C_box (C_rem c) (S_lane c.1 (C_i x) (L_mend (c.1.2.1 (C_i x)))))
  else (-1, c)
def C_type (x : Int32) (c : CS_) : Int32 × CS_ :=
  if c.2.2.2.length < 60 then (nI (c.2.2.2.length + 1), (c.1, c.2.1, c.2.2.1, c.2.2.2 ++ [x])) else (-3, c)
def C_clearText (c : CS_) : Int32 × CS_ := (nI c.2.2.2.length, (c.1, c.2.1, c.2.2.1, []))
def C_undo (c : CS_) : Int32 × CS_ :=
  if c.2.2.1.length = 0 then (-5, c) else (nI (c.2.2.1.length - 1), (c.2.2.1.getD (c.2.2.1.length - 1) c.1, c.2.1, c.2.2.1.take (c.2.2.1.length - 1), c.2.2.2))
def C_keep (c : CS_) : Int32 × CS_ := (c.1.1 0, (c.1, some c.1, c.2.2))
def C_restore (c : CS_) : Int32 × CS_ := match c.2.1 with
  | none => (-5, c)
  | some s => (s.1 0, C_box (C_rem c) s)
noncomputable def C_lane (x w : Int32) (c : CS_) : Int32 :=
  if 0 ≤ x ∧ x < 4 then
    if w = 12 then nI (B_wt x c.1 4) else if w = 13 then nI (B_stb c.1 (C_i x)) else L_fig w (c.1.2.1 (C_i x))
  else (-1)
def C_seated (x p : Int32) (c : CS_) : Int32 :=
  if 0 ≤ x ∧ x < 4 then
    if p < 0 then (-2) else if p < nI (c.1.2.1 (C_i x)).2.1.length then (c.1.2.1 (C_i x)).2.1.getD (C_i p) 0 else (-5)
  else (-1)
def C_onTheWay (x p : Int32) (c : CS_) : Int32 :=
  if 0 ≤ x ∧ x < 4 then
    if p < 0 then (-2) else if p < nI (c.1.2.1 (C_i x)).2.2.length then (c.1.2.1 (C_i x)).2.2.getD (C_i p) 0 - c.1.1 0 + 1 else (-5)
  else (-1)
def C_input (x w : Int32) (c : CS_) : Int32 := if 0 ≤ x ∧ x < 4 then Q_fig w (c.1.2.2 (C_i x)) else (-1)
def C_packet (x p w : Int32) (c : CS_) : Int32 :=
  if 0 ≤ x ∧ x < 4 then
    if p < 0 ∨ w < 0 ∨ 2 < w then (-2) else
    if nI (c.1.2.2 (C_i x)).2.2.length ≤ p then (-5) else
    if w = 0 then ((c.1.2.2 (C_i x)).2.2.getD (C_i p) (0, 0, 0)).1 else if w = 1 then ((c.1.2.2 (C_i x)).2.2.getD (C_i p) (0, 0, 0)).2.1 else ((c.1.2.2 (C_i x)).2.2.getD (C_i p) (0, 0, 0)).2.2
  else (-1)
/-- what is sent to the output o in the next tick -/
def B_next (S : St_) (o : Nat) : Int32 := match (B_send o (B_turn (B_sends o (B_beg S, fun _ => 0)).2.1 o) (B_sends o (B_beg S, fun _ => 0)).2).1 with
  | some n => n
  | none => (-5)
def C_next (x : Int32) (c : CS_) : Int32 := if 0 ≤ x ∧ x < 4 then B_next c.1 (C_i x) else (-1)
/-- the first of f ticks behind which a packet doesn't wait any more: k ticks have passed -/
def B_leaves (i : Nat) (num : Int32) (S : St_) : Nat → Nat → Option Nat
  | 0, _ => none
  | f + 1, k => if num ∈ ((B_pass (k + 1) S).2.2.2 i).2.2.map (fun p => p.1) then B_leaves i num S f (k + 1) else some (k + 1)
def C_leavesIn (x p : Int32) (c : CS_) : Int32 :=
  if 0 ≤ x ∧ x < 4 then
    if p < 0 ∨ nI (c.1.2.2 (C_i x)).2.2.length ≤ p then (-2) else
    match B_leaves (C_i x) ((c.1.2.2 (C_i x)).2.2.getD (C_i p) (0, 0, 0)).1 c.1 200 0 with
    | some k => nI k
    | none => (-5)
  else (-1)
def C_wouldSend (n md : Int32) (c : CS_) : Int32 :=
  if (1 ≤ n ∧ n ≤ 50) ∧ 0 ≤ md ∧ md ≤ 1 then nI (B_pass (C_i n) (upd c.1.1 1 md, c.1.2)).1 else (-2)
noncomputable def C_count (w : Int32) (c : CS_) : Int32 :=
  if w = 11 then nI c.2.2.1.length else if w = 12 then nI c.2.2.2.length else B_fig w c.1
theorem cc_port (x : Int32) : (∃ i : Nat, i < 4 ∧ x = nI i) ∨ ¬ (0 ≤ x ∧ x < 4) := by
  by_cases h : 0 ≤ x ∧ x < 4
  · obtain ⟨j, hj, e⟩ := nI_of (Int32.not_lt.mpr h.1)
    subst e
    exact Or.inl ⟨j, (nI_ltI (b := 4) hj (by decide)).mp h.2, rfl⟩
  · exact Or.inr h
theorem cc_pt {i : Nat} (h : i < 4) : (0 : Int32) ≤ nI i ∧ nI i < 4 := ⟨nI_pos' (by omega), nI_lt (b := 4) h (by decide)⟩
theorem C_i_n {i : Nat} (h : i < 2 ^ 31) : C_i (nI i) = i := nI_clamp h
def B_k (M : Nat) (S : St_) : Prop := ∃ T, T ≤ 9999 ∧ B_ok T M S
def C_ok (M : Nat) (c : CS_) : Prop := B_k M c.1 ∧ (∀ s, c.2.1 = some s → B_k M s) ∧ ∀ s ∈ c.2.2.1, B_k M s
end
section
set_option maxHeartbeats 4000000 in
set_option maxRecDepth 100000 in
theorem ct_X3_isPort (cy : Nat → ClassId) (z : Nat) (G : cc_G) (x1 : Int32) : cc_Cn cy Y_X3_isPort [.int x1] z G (cc_qi (fun r G' => r = (if 0 ≤ x1 ∧ x1 < 4 then 1 else 0) ∧ G' = G)) := by
  
  refine cc_enter ok_X3_isPort (Nat.le_of_ble_eq_true rfl) (ls := [(0, .int x1)]) rfl ?_
  refine cc_iload_n (j := 0) dX3_isPort_0 rfl rfl ?_
  refine cc_if_lt (tgt := 13) dX3_isPort_1 (by decide) (fun c_1 => ?_) (fun c_1 => ?_)
  · refine cc_iconst (v := 0) dX3_isPort_13 (by decide) ?_
    refine cc_iret rfl rfl dX3_isPort_14 ?_
    exact ⟨_, rfl, (if_neg (fun h => absurd c_1 (Int32.not_lt.mpr h.1))).symm, rfl⟩
  · refine cc_iload_n (j := 0) dX3_isPort_4 rfl rfl ?_
    refine cc_iconst (v := 4) dX3_isPort_5 (by decide) ?_
    refine cc_icmp_ge (tgt := 13) dX3_isPort_6 (by decide) (fun c_6 => ?_) (fun c_6 => ?_)
    · refine cc_iconst (v := 0) dX3_isPort_13 (by decide) ?_
      refine cc_iret rfl rfl dX3_isPort_14 ?_
      exact ⟨_, rfl, (if_neg (fun h => absurd h.2 (Int32.not_lt.mpr c_6))).symm, rfl⟩
    · refine cc_iconst (v := 1) dX3_isPort_9 (by decide) ?_
      refine cc_goto (tgt := 14) dX3_isPort_10 (by decide) ?_
      refine cc_iret rfl rfl dX3_isPort_14 ?_
      exact ⟨_, rfl, (if_pos ⟨Int32.not_lt.mp c_1, Int32.not_le.mp c_6⟩).symm, rfl⟩

set_option maxHeartbeats 4000000 in
set_option maxRecDepth 100000 in
theorem ct_X3_isTickCount (cy : Nat → ClassId) (z : Nat) (G : cc_G) (x1 : Int32) : cc_Cn cy Y_X3_isTickCount [.int x1] z G (cc_qi (fun r G' => r = (if 1 ≤ x1 ∧ x1 ≤ 50 then 1 else 0) ∧ G' = G)) := by
  
  refine cc_enter ok_X3_isTickCount (Nat.le_of_ble_eq_true rfl) (ls := [(0, .int x1)]) rfl ?_
  refine cc_iload_n (j := 0) dX3_isTickCount_0 rfl rfl ?_
  refine cc_iconst (v := 1) dX3_isTickCount_1 (by decide) ?_
  refine cc_icmp_lt (tgt := 15) dX3_isTickCount_2 (by decide) (fun c_2 => ?_) (fun c_2 => ?_)
  · refine cc_iconst (v := 0) dX3_isTickCount_15 (by decide) ?_
    refine cc_iret rfl rfl dX3_isTickCount_16 ?_
    exact ⟨_, rfl, (if_neg (fun h => absurd c_2 (Int32.not_lt.mpr h.1))).symm, rfl⟩
  · refine cc_iload_n (j := 0) dX3_isTickCount_5 rfl rfl ?_
    refine cc_bipush (v := 50) dX3_isTickCount_6 (by decide) ?_
    refine cc_icmp_gt (tgt := 15) dX3_isTickCount_8 (by decide) (fun c_8 => ?_) (fun c_8 => ?_)
    · refine cc_iconst (v := 0) dX3_isTickCount_15 (by decide) ?_
      refine cc_iret rfl rfl dX3_isTickCount_16 ?_
      exact ⟨_, rfl, (if_neg (fun h => absurd c_8 (Int32.not_lt.mpr h.2))).symm, rfl⟩
    · refine cc_iconst (v := 1) dX3_isTickCount_11 (by decide) ?_
      refine cc_goto (tgt := 16) dX3_isTickCount_12 (by decide) ?_
      refine cc_iret rfl rfl dX3_isTickCount_16 ?_
      exact ⟨_, rfl, (if_pos ⟨Int32.not_lt.mp c_2, Int32.not_lt.mp c_8⟩).symm, rfl⟩

set_option maxHeartbeats 4000000 in
set_option maxRecDepth 100000 in
theorem ct_X3_mostOfLane (cy : Nat → ClassId) (z : Nat) (G : cc_G) (x1 : Int32) : cc_Cn cy Y_X3_mostOfLane [.int x1] z G (cc_qi (fun r G' => r = C_mostL x1 ∧ G' = G)) := by
  
  refine cc_enter ok_X3_mostOfLane (Nat.le_of_ble_eq_true rfl) (ls := [(0, .int x1)]) rfl ?_
  refine cc_iload_n (j := 0) dX3_mostOfLane_0 rfl rfl ?_
  rcases cc_sw2 x1 with rfl | rfl | rfl | c_1
  · refine cc_tableIn (off := 27) (tgt := 28) dX3_mostOfLane_1 (by decide) (by decide) rfl (by decide) ?_
    refine cc_bipush (v := 8) dX3_mostOfLane_28 (by decide) ?_
    refine cc_iret rfl rfl dX3_mostOfLane_30 ?_
    exact ⟨_, rfl, rfl, rfl⟩
  · refine cc_tableIn (off := 30) (tgt := 31) dX3_mostOfLane_1 (by decide) (by decide) rfl (by decide) ?_
    refine cc_bipush (v := 9) dX3_mostOfLane_31 (by decide) ?_
    refine cc_iret rfl rfl dX3_mostOfLane_33 ?_
    exact ⟨_, rfl, rfl, rfl⟩
  · refine cc_tableIn (off := 33) (tgt := 34) dX3_mostOfLane_1 (by decide) (by decide) rfl (by decide) ?_
    refine cc_bipush (v := 6) dX3_mostOfLane_34 (by decide) ?_
    refine cc_iret rfl rfl dX3_mostOfLane_36 ?_
    exact ⟨_, rfl, rfl, rfl⟩
  · refine cc_tableOut (tgt := 37) dX3_mostOfLane_1 c_1 (by decide) ?_
    refine cc_iconst (v := (-1)) dX3_mostOfLane_37 (by decide) ?_
    refine cc_iret rfl rfl dX3_mostOfLane_38 ?_
    exact ⟨_, rfl, by unfold C_mostL; rw [if_neg (fun q => by subst q; exact absurd c_1 (by decide)), if_neg (fun q => by subst q; exact absurd c_1 (by decide)), if_neg (fun q => by subst q; exact absurd c_1 (by decide))], rfl⟩

set_option maxHeartbeats 4000000 in
set_option maxRecDepth 100000 in
theorem ct_X3_mostOfBox (cy : Nat → ClassId) (z : Nat) (G : cc_G) (x1 : Int32) : cc_Cn cy Y_X3_mostOfBox [.int x1] z G (cc_qi (fun r G' => r = C_mostB x1 ∧ G' = G)) := by
  
  refine cc_enter ok_X3_mostOfBox (Nat.le_of_ble_eq_true rfl) (ls := [(0, .int x1)]) rfl ?_
  refine cc_iload_n (j := 0) dX3_mostOfBox_0 rfl rfl ?_
  rcases cc_sw1 x1 with rfl | rfl | c_1
  · refine cc_lookup (off := 27) (tgt := 28) dX3_mostOfBox_1 (by decide) (by decide) (by decide) ?_
    refine cc_iconst (v := 1) dX3_mostOfBox_28 (by decide) ?_
    refine cc_iret rfl rfl dX3_mostOfBox_29 ?_
    exact ⟨_, rfl, rfl, rfl⟩
  · refine cc_lookup (off := 29) (tgt := 30) dX3_mostOfBox_1 (by decide) (by decide) (by decide) ?_
    refine cc_bipush (v := 60) dX3_mostOfBox_30 (by decide) ?_
    refine cc_iret rfl rfl dX3_mostOfBox_32 ?_
    exact ⟨_, rfl, rfl, rfl⟩
  · refine cc_lookup (off := 32) (tgt := 33) dX3_mostOfBox_1 (by decide) (cc_lk1 c_1) (by decide) ?_
    refine cc_iconst (v := (-1)) dX3_mostOfBox_33 (by decide) ?_
    refine cc_iret rfl rfl dX3_mostOfBox_34 ?_
    exact ⟨_, rfl, by unfold C_mostB; rw [if_neg (fun q => by subst q; exact absurd c_1 (by decide)), if_neg (fun q => by subst q; exact absurd c_1 (by decide))], rfl⟩

set_option maxHeartbeats 4000000 in
set_option maxRecDepth 100000 in
theorem ct_X3_dropOldest (cy : Nat → ClassId) (z : Nat) (G : cc_G) (h : Nat) (c : CS_) (BS : Nat → St_) (hS : Int32) (π : Nat → Nat) (nH : Int32) (tx : Nat → Int32) (nT : Int32) (hP : ca_P π) (H : ca_R cy G G h BS hS π nH tx nT) : cc_Cn cy Y_X3_dropOldest [.ref h] z G (cc_qv (fun G' => ca_R cy G G' h BS hS (ca_rot π) 3 tx nT)) := by
  
  refine cc_enter ok_X3_dropOldest (Nat.le_of_ble_eq_true rfl) (ls := [(0, .ref h)]) rfl ?_
  refine cc_aload_n (j := 0) dX3_dropOldest_0 rfl rfl ?_
  refine cc_get (v := .ref (h + 94)) H.2.1 cc_c3 4 (by decide) fl_X3_26 rfl dX3_dropOldest_1 ?_
  refine cc_iconst (v := 0) dX3_dropOldest_4 (by decide) ?_
  refine cc_aald3 (x := cb h (3 + π 0)) H.2.2.2.1 (vp_in_nI (n := 0) (by decide) (by decide)) rfl dX3_dropOldest_5 ?_
  refine cc_astore_n (ls' := [(1, .ref (cb h (3 + π 0))), (0, .ref h)]) dX3_dropOldest_6 rfl (Nat.le_of_ble_eq_true rfl) rfl ?_
  refine cc_iconst (v := 1) dX3_dropOldest_7 (by decide) ?_
  refine cc_istore_n (ls' := [(2, .int 1), (1, .ref (cb h (3 + π 0))), (0, .ref h)]) dX3_dropOldest_8 rfl (Nat.le_of_ble_eq_true rfl) rfl ?_
  refine cc_iload_n (j := 0) dX3_dropOldest_9 rfl rfl ?_
  refine cc_iconst (v := 4) dX3_dropOldest_10 (by decide) ?_
  refine cc_icmp_ge (tgt := 34) dX3_dropOldest_11 (by decide) (fun c_11 => ?_) (fun c_11 => ?_)
  · exact absurd c_11 (by decide)
  · refine cc_aload_n (j := 2) dX3_dropOldest_14 rfl rfl ?_
    refine cc_get (v := .ref (h + 94)) H.2.1 cc_c3 4 (by decide) fl_X3_26 rfl dX3_dropOldest_15 ?_
    refine cc_iload_n (j := 0) dX3_dropOldest_18 rfl rfl ?_
    refine cc_iconst (v := 1) dX3_dropOldest_19 (by decide) ?_
    refine cc_isub dX3_dropOldest_20 ?_
    rw [show (1 : Int32) - 1 = 0 by decide]
    refine cc_aload_n (j := 2) dX3_dropOldest_21 rfl rfl ?_
    refine cc_get (v := .ref (h + 94)) H.2.1 cc_c3 4 (by decide) fl_X3_26 rfl dX3_dropOldest_22 ?_
    refine cc_iload_n (j := 0) dX3_dropOldest_25 rfl rfl ?_
    refine cc_aald3 (x := cb h (3 + π 1)) H.2.2.2.1 (vp_in_nI (n := 1) (by decide) (by decide)) rfl dX3_dropOldest_26 ?_
    refine ca_rhist (p := π 1) (j := 0) H (hP.1 1 (by decide)) (vp_in_nI (n := 0) (by decide) (by decide)) rfl dX3_dropOldest_27 (fun G1 H2 => ?_)
    refine cc_iinc (j := 0) (v := 2) (ls' := [(2, .int 2), (1, .ref (cb h (3 + π 0))), (0, .ref h)]) dX3_dropOldest_28 rfl (by decide) (Nat.le_of_ble_eq_true rfl) rfl ?_
    refine cc_goto (tgt := 9) dX3_dropOldest_31 (by decide) ?_
    refine cc_iload_n (j := 0) dX3_dropOldest_9 rfl rfl ?_
    refine cc_iconst (v := 4) dX3_dropOldest_10 (by decide) ?_
    refine cc_icmp_ge (tgt := 34) dX3_dropOldest_11 (by decide) (fun c_11_1 => ?_) (fun c_11_1 => ?_)
    · exact absurd c_11_1 (by decide)
    · refine cc_aload_n (j := 2) dX3_dropOldest_14 rfl rfl ?_
      refine cc_get (v := .ref (h + 94)) H2.2.1 cc_c3 4 (by decide) fl_X3_26 rfl dX3_dropOldest_15 ?_
      refine cc_iload_n (j := 0) dX3_dropOldest_18 rfl rfl ?_
      refine cc_iconst (v := 1) dX3_dropOldest_19 (by decide) ?_
      refine cc_isub dX3_dropOldest_20 ?_
      rw [show (2 : Int32) - 1 = 1 by decide]
      refine cc_aload_n (j := 2) dX3_dropOldest_21 rfl rfl ?_
      refine cc_get (v := .ref (h + 94)) H2.2.1 cc_c3 4 (by decide) fl_X3_26 rfl dX3_dropOldest_22 ?_
      refine cc_iload_n (j := 0) dX3_dropOldest_25 rfl rfl ?_
      refine cc_aald3 (x := cb h (3 + (va_up π 0 (π 1)) 2)) H2.2.2.2.1 (vp_in_nI (n := 2) (by decide) (by decide)) rfl dX3_dropOldest_26 ?_
      refine ca_rhist (p := (va_up π 0 (π 1)) 2) (j := 1) H2 (hP.1 2 (by decide)) (vp_in_nI (n := 1) (by decide) (by decide)) rfl dX3_dropOldest_27 (fun G3 H4 => ?_)
      refine cc_iinc (j := 0) (v := 3) (ls' := [(2, .int 3), (1, .ref (cb h (3 + π 0))), (0, .ref h)]) dX3_dropOldest_28 rfl (by decide) (Nat.le_of_ble_eq_true rfl) rfl ?_
      refine cc_goto (tgt := 9) dX3_dropOldest_31 (by decide) ?_
      refine cc_iload_n (j := 0) dX3_dropOldest_9 rfl rfl ?_
      refine cc_iconst (v := 4) dX3_dropOldest_10 (by decide) ?_
      refine cc_icmp_ge (tgt := 34) dX3_dropOldest_11 (by decide) (fun c_11_2 => ?_) (fun c_11_2 => ?_)
      · exact absurd c_11_2 (by decide)
      · refine cc_aload_n (j := 2) dX3_dropOldest_14 rfl rfl ?_
        refine cc_get (v := .ref (h + 94)) H4.2.1 cc_c3 4 (by decide) fl_X3_26 rfl dX3_dropOldest_15 ?_
        refine cc_iload_n (j := 0) dX3_dropOldest_18 rfl rfl ?_
        refine cc_iconst (v := 1) dX3_dropOldest_19 (by decide) ?_
        refine cc_isub dX3_dropOldest_20 ?_
        rw [show (3 : Int32) - 1 = 2 by decide]
        refine cc_aload_n (j := 2) dX3_dropOldest_21 rfl rfl ?_
        refine cc_get (v := .ref (h + 94)) H4.2.1 cc_c3 4 (by decide) fl_X3_26 rfl dX3_dropOldest_22 ?_
        refine cc_iload_n (j := 0) dX3_dropOldest_25 rfl rfl ?_
        refine cc_aald3 (x := cb h (3 + (va_up (va_up π 0 (π 1)) 1 ((va_up π 0 (π 1)) 2)) 3)) H4.2.2.2.1 (vp_in_nI (n := 3) (by decide) (by decide)) rfl dX3_dropOldest_26 ?_
        refine ca_rhist (p := (va_up (va_up π 0 (π 1)) 1 ((va_up π 0 (π 1)) 2)) 3) (j := 2) H4 (hP.1 3 (by decide)) (vp_in_nI (n := 2) (by decide) (by decide)) rfl dX3_dropOldest_27 (fun G5 H6 => ?_)
        refine cc_iinc (j := 0) (v := 4) (ls' := [(2, .int 4), (1, .ref (cb h (3 + π 0))), (0, .ref h)]) dX3_dropOldest_28 rfl (by decide) (Nat.le_of_ble_eq_true rfl) rfl ?_
        refine cc_goto (tgt := 9) dX3_dropOldest_31 (by decide) ?_
        refine cc_iload_n (j := 0) dX3_dropOldest_9 rfl rfl ?_
        refine cc_iconst (v := 4) dX3_dropOldest_10 (by decide) ?_
        refine cc_icmp_ge (tgt := 34) dX3_dropOldest_11 (by decide) (fun c_11_3 => ?_) (fun c_11_3 => ?_)
        · refine cc_aload_n (j := 2) dX3_dropOldest_34 rfl rfl ?_
          refine cc_get (v := .ref (h + 94)) H6.2.1 cc_c3 4 (by decide) fl_X3_26 rfl dX3_dropOldest_35 ?_
          refine cc_iconst (v := 3) dX3_dropOldest_38 (by decide) ?_
          refine cc_aload_n (j := 1) dX3_dropOldest_39 rfl rfl ?_
          refine ca_rhist (p := π 0) (j := 3) H6 (hP.1 0 (by decide)) (vp_in_nI (n := 3) (by decide) (by decide)) rfl dX3_dropOldest_40 (fun G7 H8 => ?_)
          refine cc_aload_n (j := 2) dX3_dropOldest_41 rfl rfl ?_
          refine cc_iconst (v := 3) dX3_dropOldest_42 (by decide) ?_
          refine ca_rput (hS' := hS) (nH' := 3) (nT' := nT) H8 cc_c3 5 (by decide) fl_X3_30 rfl rfl rfl rfl rfl dX3_dropOldest_43 (fun G9 H10 => ?_)
          refine cc_vret rfl dX3_dropOldest_46 ?_
          exact ⟨rfl, H10⟩
        · exact absurd c_11_3 (by decide)

set_option maxHeartbeats 4000000 in
set_option maxRecDepth 100000 in
theorem ct_X3_remember (cy : Nat → ClassId) (z : Nat) (G : cc_G) (h : Nat) (c : CS_)  (hI : ca_I cy G G h c) : cc_Cn cy Y_X3_remember [.ref h] z G (cc_qv (fun G' => ca_I cy G G' h (C_rem c))) := by
  obtain ⟨S, sn, hi, t⟩ := c
  obtain ⟨BS, hS, π, tx, H, e0, eS, hP, hH, hl, hT, h60⟩ := hI
  have e0 : S = BS 0 := e0
  have H : ca_R cy G G h BS hS π (nI hi.length) tx (nI t.length) := H
  have eS : ca_S hS BS sn := eS
  have hH : ∀ (i : Nat) (hq : i < hi.length), BS (3 + π i) = hi[i] := hH
  have hl : hi.length ≤ 4 := hl
  have hT : ar_ tx t := hT
  have h60 : t.length ≤ 60 := h60
  refine cc_enter ok_X3_remember (Nat.le_of_ble_eq_true rfl) (ls := [(0, .ref h)]) rfl ?_
  refine cc_aload_n (j := 0) dX3_remember_0 rfl rfl ?_
  refine cc_get (v := .int (nI hi.length)) H.2.1 cc_c3 5 (by decide) fl_X3_30 rfl dX3_remember_1 ?_
  refine cc_iconst (v := 4) dX3_remember_4 (by decide) ?_
  refine cc_icmp_lt (tgt := 12) dX3_remember_5 (by decide) (fun c_5 => ?_) (fun c_5 => ?_)
  · have hlt : hi.length < 4 := (nI_ltI (b := 4) (by omega) (by decide)).mp c_5
    refine cc_aload_n (j := 0) dX3_remember_12 rfl rfl ?_
    refine cc_get (v := .ref (h + 94)) H.2.1 cc_c3 4 (by decide) fl_X3_26 rfl dX3_remember_13 ?_
    refine cc_aload_n (j := 0) dX3_remember_16 rfl rfl ?_
    refine cc_get (v := .int (nI hi.length)) H.2.1 cc_c3 5 (by decide) fl_X3_30 rfl dX3_remember_17 ?_
    refine cc_aald3 (x := cb h (3 + π hi.length)) H.2.2.2.1 (vp_in_nI (n := hi.length) (by omega) (by decide)) (by rw [(nI_clamp (by omega))]; rfl) dX3_remember_20 ?_
    refine cc_aload_n (j := 0) dX3_remember_21 rfl rfl ?_
    refine cc_get (v := .ref (h + 1)) H.2.1 cc_c3 0 (by decide) fl_X3_10 rfl dX3_remember_22 ?_
    refine cc_callNv (As := [.ref (h + 1)]) (rest := []) (ct_X0_copyFrom cy z _ _ _ _ _ (cb_ap h (k := 3 + π hi.length) (j := 0) (by omega)) H.b0 (H.2.2.1 (3 + π hi.length) (by have := hP.1 hi.length (by omega); omega))) ok_X0_copyFrom ((H.2.2.1 (3 + π hi.length) (by have := hP.1 hi.length (by omega); omega)).obj) rfl im_X0_copyFrom sl_X0_copyFrom mn_X3_95 nd_X0_copyFrom (by decide +kernel) (Nat.le_of_ble_eq_true rfl) rfl dX3_remember_25 (fun G1 q3 => ?_)
    have H4 := H.slot (k := 3 + π hi.length) (by have := hP.1 hi.length (by omega); omega) rfl q3
    refine cc_aload_n (j := 0) dX3_remember_28 rfl rfl ?_
    refine cc_dup dX3_remember_29 rfl ?_
    refine cc_get (v := .int (nI hi.length)) H4.2.1 cc_c3 5 (by decide) fl_X3_30 rfl dX3_remember_30 ?_
    refine cc_iconst (v := 1) dX3_remember_33 (by decide) ?_
    refine cc_iadd dX3_remember_34 ?_
    rw [show (nI hi.length) + 1 = nI (hi.length + 1) from nI_1 _]
    refine ca_rput (hS' := hS) (nH' := (nI (hi.length + 1))) (nT' := (nI t.length)) H4 cc_c3 5 (by decide) fl_X3_30 rfl rfl rfl rfl rfl dX3_remember_35 (fun G5 H6 => ?_)
    refine cc_vret rfl dX3_remember_38 ?_
    have e : C_rem (S, sn, hi, t) = (S, sn, hi ++ [S], t) := by
      show (S, sn, (if 4 ≤ hi.length then hi.tail else hi) ++ [S], t) = _
      rw [if_neg (by omega)]
    subst e0
    refine ⟨rfl, ?_⟩
    rw [e]
    exact ca_I.push H6 rfl rfl eS hP hH hlt hT h60
  · have hge : hi.length = 4 := by
      rcases Nat.lt_or_ge hi.length 4 with q | q
      · exact absurd (nI_lt (b := 4) q (by decide)) c_5
      · omega
    refine cc_aload_n (j := 0) dX3_remember_8 rfl rfl ?_
    refine cc_callVv (As := []) (rest := []) (ct_X3_dropOldest cy z _ h (S, sn, hi, t) _ _ _ _ _ _ hP H.self) ok_X3_dropOldest (H.2.1) rfl im_X3_dropOldest sl_X3_dropOldest ml_X3_165 nd_X3_dropOldest (by decide +kernel) (Nat.le_of_ble_eq_true rfl) rfl dX3_remember_9 (fun G7 q9 => ?_)
    refine cc_aload_n (j := 0) dX3_remember_12 rfl rfl ?_
    refine cc_get (v := .ref (h + 94)) q9.2.1 cc_c3 4 (by decide) fl_X3_26 rfl dX3_remember_13 ?_
    refine cc_aload_n (j := 0) dX3_remember_16 rfl rfl ?_
    refine cc_get (v := .int 3) q9.2.1 cc_c3 5 (by decide) fl_X3_30 rfl dX3_remember_17 ?_
    refine cc_aald3 (x := cb h (3 + (ca_rot π) 3)) q9.2.2.2.1 (vp_in_nI (n := 3) (by decide) (by decide)) rfl dX3_remember_20 ?_
    refine cc_aload_n (j := 0) dX3_remember_21 rfl rfl ?_
    refine cc_get (v := .ref (h + 1)) q9.2.1 cc_c3 0 (by decide) fl_X3_10 rfl dX3_remember_22 ?_
    refine cc_callNv (As := [.ref (h + 1)]) (rest := []) (ct_X0_copyFrom cy z _ _ _ _ _ (cb_ap h (k := 3 + (ca_rot π) 3) (j := 0) (by omega)) q9.b0 (q9.2.2.1 (3 + (ca_rot π) 3) (by have := hP.rot.1 3 (by omega); omega))) ok_X0_copyFrom ((q9.2.2.1 (3 + (ca_rot π) 3) (by have := hP.rot.1 3 (by omega); omega)).obj) rfl im_X0_copyFrom sl_X0_copyFrom mn_X3_95 nd_X0_copyFrom (by decide +kernel) (Nat.le_of_ble_eq_true rfl) rfl dX3_remember_25 (fun G10 q12 => ?_)
    have H13 := q9.slot (k := 3 + (ca_rot π) 3) (by have := hP.rot.1 3 (by omega); omega) rfl q12
    refine cc_aload_n (j := 0) dX3_remember_28 rfl rfl ?_
    refine cc_dup dX3_remember_29 rfl ?_
    refine cc_get (v := .int 3) H13.2.1 cc_c3 5 (by decide) fl_X3_30 rfl dX3_remember_30 ?_
    refine cc_iconst (v := 1) dX3_remember_33 (by decide) ?_
    refine cc_iadd dX3_remember_34 ?_
    rw [show (3 : Int32) + 1 = 4 by decide]
    refine ca_rput (hS' := hS) (nH' := 4) (nT' := (nI t.length)) H13 cc_c3 5 (by decide) fl_X3_30 rfl rfl rfl rfl rfl dX3_remember_35 (fun G14 H15 => ?_)
    refine cc_vret rfl dX3_remember_38 ?_
    have e : C_rem (S, sn, hi, t) = (S, sn, hi.tail ++ [S], t) := by
      show (S, sn, (if 4 ≤ hi.length then hi.tail else hi) ++ [S], t) = _
      rw [if_pos (by omega)]
    subst e0
    refine ⟨rfl, ?_⟩
    rw [e]
    have h3 : hi.tail.length = 3 := by rw [List.length_tail]; omega
    refine ca_I.push (π := ca_rot π) (by rw [h3]; exact H15) (by rw [h3]; rfl) rfl eS hP.rot (fun i hq => ?_) (by omega) hT h60
    have hi3 : i < 3 := by omega
    have hr : ca_rot π i = π (i + 1) := by
      match i, hi3 with
      | 0, _ => rfl
      | 1, _ => rfl
      | 2, _ => rfl
    have hi4 : i + 1 < hi.length := by rw [hge]; omega
    rw [hr, hH (i + 1) hi4, List.getElem_tail]
end
section
theorem cc_ticks {x : Int32} (h : 1 ≤ x ∧ x ≤ 50) : ∃ n : Nat, x = nI n ∧ 1 ≤ n ∧ n ≤ 50 := by
  have h0 : ¬ x < 0 := fun q => absurd (Int32.lt_of_le_of_lt h.1 q) (by decide)
  obtain ⟨j, hj, e⟩ := nI_of h0
  subst e
  exact ⟨j, rfl, (nI_leI (a := 1) (by decide) hj).mp h.1, (nI_leI (b := 50) hj (by decide)).mp h.2⟩
set_option maxHeartbeats 4000000 in
set_option maxRecDepth 100000 in
theorem ct_X3_setLane (cy : Nat → ClassId) (z : Nat) (G : cc_G) (h : Nat) (c : CS_) (x1 x2 x3 : Int32)  (hI : ca_I cy G G h c) : cc_Cn cy Y_X3_setLane [.ref h, .int x1, .int x2, .int x3] z G (cc_qi (fun r G' => r = (C_setLane x1 x2 x3 c).1 ∧ ca_I cy G G' h (C_setLane x1 x2 x3 c).2)) := by
  obtain ⟨S, sn, hi, t⟩ := c
  refine cc_enter ok_X3_setLane (Nat.le_of_ble_eq_true rfl) (ls := [(0, .ref h), (1, .int x1), (2, .int x2), (3, .int x3)]) rfl ?_
  rcases cc_port x1 with ⟨i, hi4, rfl⟩ | hx
  · refine cc_iload_n (j := 1) dX3_setLane_0 rfl rfl ?_
    refine cc_callSi (As := [.int (nI i)]) (rest := []) (ct_X3_isPort cy z _ (nI i)) ok_X3_isPort st_X3_isPort ml_X3_41 nd_X3_isPort (by decide +kernel) (Nat.le_of_ble_eq_true rfl) rfl dX3_setLane_1 (fun r2 G1 q3 => ?_)
    obtain ⟨rfl, rfl⟩ := q3
    rw [if_pos (cc_pt hi4)]
    refine cc_if_ne (tgt := 9) dX3_setLane_4 (by decide) (fun c_4 => ?_) (fun c_4 => ?_)
    · refine cc_iload_n (j := 3) dX3_setLane_9 rfl rfl ?_
      refine cc_iconst (v := 1) dX3_setLane_10 (by decide) ?_
      refine cc_icmp_lt (tgt := 22) dX3_setLane_11 (by decide) (fun c_11 => ?_) (fun c_11 => ?_)
      · refine cc_bipush (v := (-2)) dX3_setLane_22 (by decide) ?_
        refine cc_iret rfl rfl dX3_setLane_24 ?_
        have e : C_setLane (nI i) x2 x3 (S, sn, hi, t) = ((-2), (S, sn, hi, t)) := by
          unfold C_setLane
          rw [if_pos (cc_pt hi4), C_i_n (by omega)]
          dsimp only
          rw [if_pos (Or.inl c_11)]
        rw [e]
        exact ⟨_, rfl, rfl, hI⟩
      · refine cc_iload_n (j := 3) dX3_setLane_14 rfl rfl ?_
        refine cc_iload_n (j := 2) dX3_setLane_15 rfl rfl ?_
        refine cc_callSi (As := [.int x2]) (rest := [.int x3]) (ct_X3_mostOfLane cy z _ x2) ok_X3_mostOfLane st_X3_mostOfLane ml_X3_45 nd_X3_mostOfLane (by decide +kernel) (Nat.le_of_ble_eq_true rfl) rfl dX3_setLane_16 (fun r5 G4 q6 => ?_)
        obtain ⟨rfl, rfl⟩ := q6
        refine cc_icmp_le (tgt := 25) dX3_setLane_19 (by decide) (fun c_19 => ?_) (fun c_19 => ?_)
        · refine cc_aload_n (j := 0) dX3_setLane_25 rfl rfl ?_
          obtain ⟨hs7, hO8⟩ := hI.obj
          refine cc_get (v := .ref (h + 1)) hO8 cc_c3 0 (by decide) fl_X3_10 rfl dX3_setLane_26 ?_
          obtain ⟨_, hB9⟩ := hI.box0
          refine cc_getN (v := .ref (h + 1 + 1)) hB9.2.1 cc_c0 4 (by decide) fn_X3_49 rfl dX3_setLane_29 ?_
          refine cc_iload_n (j := 1) dX3_setLane_32 rfl rfl ?_
          refine cc_aald4 (x := h + 1 + 3 + 7 * i) hB9.2.2.1 (vp_in_nI (n := i) (by omega) (by decide)) (by rw [(nI_clamp (by omega))]; rfl) dX3_setLane_33 ?_
          refine cc_astore (ls' := [(4, .ref (h + 1 + 3 + 7 * i)), (0, .ref h), (1, .int (nI i)), (2, .int x2), (3, .int x3)]) dX3_setLane_34 (Nat.le_of_ble_eq_true rfl) rfl ?_
          refine cc_iload_n (j := 3) dX3_setLane_36 rfl rfl ?_
          refine cc_if_ne (tgt := 52) dX3_setLane_37 (by decide) (fun c_37 => ?_) (fun c_37 => ?_)
          · refine cc_aload (j := 0) dX3_setLane_52 rfl ?_
            refine cc_iload_n (j := 3) dX3_setLane_54 rfl rfl ?_
            obtain ⟨fL, gL, hL, hfL, hgL, h8L, h6L⟩ := hB9.2.2.2.2.1 i hi4
            refine cc_callNi (As := [.int x2]) (rest := []) (ct_X1_setting cy z _ _ _ _ _ _ _ x2 hL) ok_X1_setting (hL.2.1) rfl im_X1_setting sl_X1_setting mn_X3_58 nd_X1_setting (by decide +kernel) (Nat.le_of_ble_eq_true rfl) rfl dX3_setLane_55 (fun r11 G10 q12 => ?_)
            obtain ⟨hr, rfl⟩ := q12
            have hr : r11 = L_set x2 (S.2.1 i) := hr
            subst hr
            refine cc_istore (ls' := [(5, .int (L_set x2 (S.2.1 i))), (4, .ref (h + 1 + 3 + 7 * i)), (0, .ref h), (1, .int (nI i)), (2, .int x2), (3, .int x3)]) dX3_setLane_58 (Nat.le_of_ble_eq_true rfl) rfl ?_
            refine cc_iload (j := 0) dX3_setLane_60 rfl ?_
            refine cc_iload_n (j := 5) dX3_setLane_62 rfl rfl ?_
            refine cc_icmp_ne (tgt := 69) dX3_setLane_63 (by decide) (fun c_63 => ?_) (fun c_63 => ?_)
            · refine cc_aload_n (j := 2) dX3_setLane_69 rfl rfl ?_
              obtain ⟨_, hOr⟩ := hI.obj
              refine cc_callVv (As := []) (rest := []) (ct_X3_remember cy z _ h _ hI.self) ok_X3_remember (hOr) rfl im_X3_remember sl_X3_remember ml_X3_61 nd_X3_remember (by decide +kernel) (Nat.le_of_ble_eq_true rfl) rfl dX3_setLane_70 (fun G13 q15 => ?_)
              refine cc_aload (j := 1) dX3_setLane_73 rfl ?_
              refine cc_iload_n (j := 4) dX3_setLane_75 rfl rfl ?_
              refine cc_iload_n (j := 5) dX3_setLane_76 rfl rfl ?_
              obtain ⟨_, hB16⟩ := q15.box0
              obtain ⟨fL, gL, hL, hfL, hgL, h8L, h6L⟩ := hB16.2.2.2.2.1 i hi4
              refine cc_callNv (As := [.int x2, .int x3]) (rest := []) (ct_X1_change cy z _ _ _ _ _ _ _ x2 x3 hL) ok_X1_change (hL.2.1) rfl im_X1_change sl_X1_change mn_X3_64 nd_X1_change (by decide +kernel) (Nat.le_of_ble_eq_true rfl) rfl dX3_setLane_77 (fun G17 q19 => ?_)
              have hI20 := q15.box ⟨_, hB16.lane hi4 (L := L_chg x2 x3 (S.2.1 i)) ⟨_, _, q19, hfL, hgL, h8L, h6L⟩⟩
              refine cc_iload (j := 0) dX3_setLane_80 rfl ?_
              refine cc_iret rfl rfl dX3_setLane_82 ?_
              have e : C_setLane (nI i) x2 x3 (S, sn, hi, t) = (L_set x2 (S.2.1 i), C_box (C_rem (S, sn, hi, t)) (S_lane S i (L_chg x2 x3 (S.2.1 i)))) := by
                unfold C_setLane
                rw [if_pos (cc_pt hi4), C_i_n (by omega)]
                dsimp only
                rw [if_neg (fun h => h.elim c_11 (fun q => absurd c_19 (Int32.not_le.mpr q))), if_neg (fun h => c_37 h.1), if_neg c_63]
              rw [e]
              exact ⟨_, rfl, rfl, hI20⟩
            · refine cc_bipush (v := (-5)) dX3_setLane_66 (by decide) ?_
              refine cc_iret rfl rfl dX3_setLane_68 ?_
              have e : C_setLane (nI i) x2 x3 (S, sn, hi, t) = ((-5), (S, sn, hi, t)) := by
                unfold C_setLane
                rw [if_pos (cc_pt hi4), C_i_n (by omega)]
                dsimp only
                rw [if_neg (fun h => h.elim c_11 (fun q => absurd c_19 (Int32.not_le.mpr q))), if_neg (fun h => c_37 h.1), if_pos c_63]
              rw [e]
              exact ⟨_, rfl, rfl, hI⟩
          · refine cc_aload (j := 0) dX3_setLane_40 rfl ?_
            obtain ⟨_, _, hLr21, -⟩ := hB9.2.2.2.2.1 i hi4
            refine cc_getN (v := .int (nI (S.2.1 i).2.1.length)) hLr21.2.1 cc_c1 10 (by decide) fn_X3_53 rfl dX3_setLane_42 ?_
            refine cc_iload_n (j := 4) dX3_setLane_45 rfl rfl ?_
            refine cc_icmp_le (tgt := 52) dX3_setLane_46 (by decide) (fun c_46 => ?_) (fun c_46 => ?_)
            · refine cc_aload (j := 0) dX3_setLane_52 rfl ?_
              refine cc_iload_n (j := 3) dX3_setLane_54 rfl rfl ?_
              obtain ⟨fL, gL, hL, hfL, hgL, h8L, h6L⟩ := hB9.2.2.2.2.1 i hi4
              refine cc_callNi (As := [.int x2]) (rest := []) (ct_X1_setting cy z _ _ _ _ _ _ _ x2 hL) ok_X1_setting (hL.2.1) rfl im_X1_setting sl_X1_setting mn_X3_58 nd_X1_setting (by decide +kernel) (Nat.le_of_ble_eq_true rfl) rfl dX3_setLane_55 (fun r23 G22 q24 => ?_)
              obtain ⟨hr, rfl⟩ := q24
              have hr : r23 = L_set x2 (S.2.1 i) := hr
              subst hr
              refine cc_istore (ls' := [(5, .int (L_set x2 (S.2.1 i))), (4, .ref (h + 1 + 3 + 7 * i)), (0, .ref h), (1, .int (nI i)), (2, .int x2), (3, .int x3)]) dX3_setLane_58 (Nat.le_of_ble_eq_true rfl) rfl ?_
              refine cc_iload (j := 0) dX3_setLane_60 rfl ?_
              refine cc_iload_n (j := 5) dX3_setLane_62 rfl rfl ?_
              refine cc_icmp_ne (tgt := 69) dX3_setLane_63 (by decide) (fun c_63_1 => ?_) (fun c_63_1 => ?_)
              · refine cc_aload_n (j := 2) dX3_setLane_69 rfl rfl ?_
                obtain ⟨_, hOr⟩ := hI.obj
                refine cc_callVv (As := []) (rest := []) (ct_X3_remember cy z _ h _ hI.self) ok_X3_remember (hOr) rfl im_X3_remember sl_X3_remember ml_X3_61 nd_X3_remember (by decide +kernel) (Nat.le_of_ble_eq_true rfl) rfl dX3_setLane_70 (fun G25 q27 => ?_)
                refine cc_aload (j := 1) dX3_setLane_73 rfl ?_
                refine cc_iload_n (j := 4) dX3_setLane_75 rfl rfl ?_
                refine cc_iload_n (j := 5) dX3_setLane_76 rfl rfl ?_
                obtain ⟨_, hB28⟩ := q27.box0
                obtain ⟨fL, gL, hL, hfL, hgL, h8L, h6L⟩ := hB28.2.2.2.2.1 i hi4
                refine cc_callNv (As := [.int x2, .int x3]) (rest := []) (ct_X1_change cy z _ _ _ _ _ _ _ x2 x3 hL) ok_X1_change (hL.2.1) rfl im_X1_change sl_X1_change mn_X3_64 nd_X1_change (by decide +kernel) (Nat.le_of_ble_eq_true rfl) rfl dX3_setLane_77 (fun G29 q31 => ?_)
                have hI32 := q27.box ⟨_, hB28.lane hi4 (L := L_chg x2 x3 (S.2.1 i)) ⟨_, _, q31, hfL, hgL, h8L, h6L⟩⟩
                refine cc_iload (j := 0) dX3_setLane_80 rfl ?_
                refine cc_iret rfl rfl dX3_setLane_82 ?_
                have e : C_setLane (nI i) x2 x3 (S, sn, hi, t) = (L_set x2 (S.2.1 i), C_box (C_rem (S, sn, hi, t)) (S_lane S i (L_chg x2 x3 (S.2.1 i)))) := by
                  unfold C_setLane
                  rw [if_pos (cc_pt hi4), C_i_n (by omega)]
                  dsimp only
                  rw [if_neg (fun h => h.elim c_11 (fun q => absurd c_19 (Int32.not_le.mpr q))), if_neg (fun h => absurd c_46 (Int32.not_le.mpr h.2)), if_neg c_63_1]
                rw [e]
                exact ⟨_, rfl, rfl, hI32⟩
              · refine cc_bipush (v := (-5)) dX3_setLane_66 (by decide) ?_
                refine cc_iret rfl rfl dX3_setLane_68 ?_
                have e : C_setLane (nI i) x2 x3 (S, sn, hi, t) = ((-5), (S, sn, hi, t)) := by
                  unfold C_setLane
                  rw [if_pos (cc_pt hi4), C_i_n (by omega)]
                  dsimp only
                  rw [if_neg (fun h => h.elim c_11 (fun q => absurd c_19 (Int32.not_le.mpr q))), if_neg (fun h => absurd c_46 (Int32.not_le.mpr h.2)), if_pos c_63_1]
                rw [e]
                exact ⟨_, rfl, rfl, hI⟩
            · refine cc_bipush (v := (-4)) dX3_setLane_49 (by decide) ?_
              refine cc_iret rfl rfl dX3_setLane_51 ?_
              have e : C_setLane (nI i) x2 x3 (S, sn, hi, t) = ((-4), (S, sn, hi, t)) := by
                unfold C_setLane
                rw [if_pos (cc_pt hi4), C_i_n (by omega)]
                dsimp only
                rw [if_neg (fun h => h.elim c_11 (fun q => absurd c_19 (Int32.not_le.mpr q))), if_pos ⟨c_37, Int32.not_le.mp c_46⟩]
              rw [e]
              exact ⟨_, rfl, rfl, hI⟩
        · refine cc_bipush (v := (-2)) dX3_setLane_22 (by decide) ?_
          refine cc_iret rfl rfl dX3_setLane_24 ?_
          have e : C_setLane (nI i) x2 x3 (S, sn, hi, t) = ((-2), (S, sn, hi, t)) := by
            unfold C_setLane
            rw [if_pos (cc_pt hi4), C_i_n (by omega)]
            dsimp only
            rw [if_pos (Or.inr (Int32.not_le.mp c_19))]
          rw [e]
          exact ⟨_, rfl, rfl, hI⟩
    · exact absurd c_4 (by decide)
  · refine cc_iload_n (j := 1) dX3_setLane_0 rfl rfl ?_
    refine cc_callSi (As := [.int x1]) (rest := []) (ct_X3_isPort cy z _ x1) ok_X3_isPort st_X3_isPort ml_X3_41 nd_X3_isPort (by decide +kernel) (Nat.le_of_ble_eq_true rfl) rfl dX3_setLane_1 (fun r34 G33 q35 => ?_)
    obtain ⟨rfl, rfl⟩ := q35
    rw [if_neg hx]
    refine cc_if_ne (tgt := 9) dX3_setLane_4 (by decide) (fun c_4_1 => ?_) (fun c_4_1 => ?_)
    · exact absurd c_4_1 (by decide)
    · refine cc_iconst (v := (-1)) dX3_setLane_7 (by decide) ?_
      refine cc_iret rfl rfl dX3_setLane_8 ?_
      have e : C_setLane x1 x2 x3 (S, sn, hi, t) = ((-1), (S, sn, hi, t)) := by
        unfold C_setLane
        
        rw [if_neg hx]
      rw [e]
      exact ⟨_, rfl, rfl, hI⟩

set_option maxHeartbeats 4000000 in
set_option maxRecDepth 100000 in
theorem ct_X3_set (cy : Nat → ClassId) (z : Nat) (G : cc_G) (h : Nat) (c : CS_) (x1 x2 : Int32)  (hI : ca_I cy G G h c) : cc_Cn cy Y_X3_set [.ref h, .int x1, .int x2] z G (cc_qi (fun r G' => r = (C_set x1 x2 c).1 ∧ ca_I cy G G' h (C_set x1 x2 c).2)) := by
  obtain ⟨S, sn, hi, t⟩ := c
  refine cc_enter ok_X3_set (Nat.le_of_ble_eq_true rfl) (ls := [(0, .ref h), (1, .int x1), (2, .int x2)]) rfl ?_
  refine cc_iload_n (j := 2) dX3_set_0 rfl rfl ?_
  refine cc_if_lt (tgt := 12) dX3_set_1 (by decide) (fun c_1 => ?_) (fun c_1 => ?_)
  · refine cc_bipush (v := (-2)) dX3_set_12 (by decide) ?_
    refine cc_iret rfl rfl dX3_set_14 ?_
    have e : C_set x1 x2 (S, sn, hi, t) = ((-2), (S, sn, hi, t)) := by
      unfold C_set
      
      rw [if_pos (Or.inl c_1)]
    rw [e]
    exact ⟨_, rfl, rfl, hI⟩
  · refine cc_iload_n (j := 2) dX3_set_4 rfl rfl ?_
    refine cc_iload_n (j := 1) dX3_set_5 rfl rfl ?_
    refine cc_callSi (As := [.int x1]) (rest := [.int x2]) (ct_X3_mostOfBox cy z _ x1) ok_X3_mostOfBox st_X3_mostOfBox ml_X3_68 nd_X3_mostOfBox (by decide +kernel) (Nat.le_of_ble_eq_true rfl) rfl dX3_set_6 (fun r2 G1 q3 => ?_)
    obtain ⟨rfl, rfl⟩ := q3
    refine cc_icmp_le (tgt := 15) dX3_set_9 (by decide) (fun c_9 => ?_) (fun c_9 => ?_)
    · refine cc_iload_n (j := 1) dX3_set_15 rfl rfl ?_
      refine cc_if_ne (tgt := 29) dX3_set_16 (by decide) (fun c_16 => ?_) (fun c_16 => ?_)
      · refine cc_aload_n (j := 0) dX3_set_29 rfl rfl ?_
        obtain ⟨hs4, hO5⟩ := hI.obj
        refine cc_get (v := .ref (h + 1)) hO5 cc_c3 0 (by decide) fl_X3_10 rfl dX3_set_30 ?_
        obtain ⟨_, hB6⟩ := hI.box0
        refine cc_getN (v := .int (S.1 2)) hB6.2.1 cc_c0 2 (by decide) fn_X3_74 rfl dX3_set_33 ?_
        refine cc_istore_n (ls' := [(3, .int (S.1 2)), (0, .ref h), (1, .int x1), (2, .int x2)]) dX3_set_36 rfl (Nat.le_of_ble_eq_true rfl) rfl ?_
        refine cc_iload_n (j := 0) dX3_set_37 rfl rfl ?_
        refine cc_iload_n (j := 3) dX3_set_38 rfl rfl ?_
        refine cc_icmp_ne (tgt := 45) dX3_set_39 (by decide) (fun c_39 => ?_) (fun c_39 => ?_)
        · refine cc_aload_n (j := 1) dX3_set_45 rfl rfl ?_
          obtain ⟨_, hOr⟩ := hI.obj
          refine cc_callVv (As := []) (rest := []) (ct_X3_remember cy z _ h _ hI.self) ok_X3_remember (hOr) rfl im_X3_remember sl_X3_remember ml_X3_61 nd_X3_remember (by decide +kernel) (Nat.le_of_ble_eq_true rfl) rfl dX3_set_46 (fun G7 q9 => ?_)
          refine cc_iload_n (j := 2) dX3_set_49 rfl rfl ?_
          refine cc_if_ne (tgt := 64) dX3_set_50 (by decide) (fun c_50 => ?_) (fun c_50 => ?_)
          · refine cc_aload_n (j := 1) dX3_set_64 rfl rfl ?_
            obtain ⟨hs10, hO11⟩ := q9.obj
            refine cc_get (v := .ref (h + 1)) hO11 cc_c3 0 (by decide) fl_X3_10 rfl dX3_set_65 ?_
            refine cc_iload_n (j := 3) dX3_set_68 rfl rfl ?_
            obtain ⟨_, hB12⟩ := q9.box0
            refine bx_rputN (g' := upd S.1 2 x2) hB12 2 (by decide) fn_X3_74 rfl rfl rfl dX3_set_69 (fun G14 hB13 => ?_)
            have hI15 := q9.box ⟨_, hB13⟩
            refine cc_iload_n (j := 0) dX3_set_72 rfl rfl ?_
            refine cc_iret rfl rfl dX3_set_73 ?_
            have e : C_set x1 x2 (S, sn, hi, t) = (S.1 2, C_box (C_rem (S, sn, hi, t)) (upd S.1 2 x2, S.2)) := by
              unfold C_set
              
              rw [if_neg (fun h => h.elim (fun q => absurd q c_1) (fun q => absurd c_9 (Int32.not_le.mpr q))), if_neg c_16, if_neg c_39]
            rw [e]
            exact ⟨_, rfl, rfl, hI15⟩
          · exact absurd c_50 c_16
        · refine cc_bipush (v := (-5)) dX3_set_42 (by decide) ?_
          refine cc_iret rfl rfl dX3_set_44 ?_
          have e : C_set x1 x2 (S, sn, hi, t) = ((-5), (S, sn, hi, t)) := by
            unfold C_set
            
            rw [if_neg (fun h => h.elim (fun q => absurd q c_1) (fun q => absurd c_9 (Int32.not_le.mpr q))), if_neg c_16, if_pos c_39]
          rw [e]
          exact ⟨_, rfl, rfl, hI⟩
      · refine cc_aload_n (j := 0) dX3_set_19 rfl rfl ?_
        obtain ⟨hs16, hO17⟩ := hI.obj
        refine cc_get (v := .ref (h + 1)) hO17 cc_c3 0 (by decide) fl_X3_10 rfl dX3_set_20 ?_
        obtain ⟨_, hB18⟩ := hI.box0
        refine cc_getN (v := .int (S.1 1)) hB18.2.1 cc_c0 1 (by decide) fn_X3_71 rfl dX3_set_23 ?_
        refine cc_goto (tgt := 36) dX3_set_26 (by decide) ?_
        refine cc_istore_n (ls' := [(3, .int (S.1 1)), (0, .ref h), (1, .int x1), (2, .int x2)]) dX3_set_36 rfl (Nat.le_of_ble_eq_true rfl) rfl ?_
        refine cc_iload_n (j := 0) dX3_set_37 rfl rfl ?_
        refine cc_iload_n (j := 3) dX3_set_38 rfl rfl ?_
        refine cc_icmp_ne (tgt := 45) dX3_set_39 (by decide) (fun c_39_1 => ?_) (fun c_39_1 => ?_)
        · refine cc_aload_n (j := 1) dX3_set_45 rfl rfl ?_
          obtain ⟨_, hOr⟩ := hI.obj
          refine cc_callVv (As := []) (rest := []) (ct_X3_remember cy z _ h _ hI.self) ok_X3_remember (hOr) rfl im_X3_remember sl_X3_remember ml_X3_61 nd_X3_remember (by decide +kernel) (Nat.le_of_ble_eq_true rfl) rfl dX3_set_46 (fun G19 q21 => ?_)
          refine cc_iload_n (j := 2) dX3_set_49 rfl rfl ?_
          refine cc_if_ne (tgt := 64) dX3_set_50 (by decide) (fun c_50_1 => ?_) (fun c_50_1 => ?_)
          · exact absurd c_16 c_50_1
          · refine cc_aload_n (j := 1) dX3_set_53 rfl rfl ?_
            obtain ⟨hs22, hO23⟩ := q21.obj
            refine cc_get (v := .ref (h + 1)) hO23 cc_c3 0 (by decide) fl_X3_10 rfl dX3_set_54 ?_
            refine cc_iload_n (j := 3) dX3_set_57 rfl rfl ?_
            obtain ⟨_, hB24⟩ := q21.box0
            refine bx_rputN (g' := upd S.1 1 x2) hB24 1 (by decide) fn_X3_71 rfl rfl rfl dX3_set_58 (fun G26 hB25 => ?_)
            have hI27 := q21.box ⟨_, hB25⟩
            refine cc_goto (tgt := 72) dX3_set_61 (by decide) ?_
            refine cc_iload_n (j := 0) dX3_set_72 rfl rfl ?_
            refine cc_iret rfl rfl dX3_set_73 ?_
            have e : C_set x1 x2 (S, sn, hi, t) = (S.1 1, C_box (C_rem (S, sn, hi, t)) (upd S.1 1 x2, S.2)) := by
              unfold C_set
              
              rw [if_neg (fun h => h.elim (fun q => absurd q c_1) (fun q => absurd c_9 (Int32.not_le.mpr q))), if_pos c_16, if_neg c_39_1]
            rw [e]
            exact ⟨_, rfl, rfl, hI27⟩
        · refine cc_bipush (v := (-5)) dX3_set_42 (by decide) ?_
          refine cc_iret rfl rfl dX3_set_44 ?_
          have e : C_set x1 x2 (S, sn, hi, t) = ((-5), (S, sn, hi, t)) := by
            unfold C_set
            
            rw [if_neg (fun h => h.elim (fun q => absurd q c_1) (fun q => absurd c_9 (Int32.not_le.mpr q))), if_pos c_16, if_pos c_39_1]
          rw [e]
          exact ⟨_, rfl, rfl, hI⟩
    · refine cc_bipush (v := (-2)) dX3_set_12 (by decide) ?_
      refine cc_iret rfl rfl dX3_set_14 ?_
      have e : C_set x1 x2 (S, sn, hi, t) = ((-2), (S, sn, hi, t)) := by
        unfold C_set
        
        rw [if_pos (Or.inr (Int32.not_le.mp c_9))]
      rw [e]
      exact ⟨_, rfl, rfl, hI⟩

set_option maxHeartbeats 4000000 in
set_option maxRecDepth 100000 in
theorem ct_X3_arrive (cy : Nat → ClassId) (z : Nat) (G : cc_G) (h : Nat) (c : CS_) (x1 x2 : Int32)  (hI : ca_I cy G G h c) : cc_Cn cy Y_X3_arrive [.ref h, .int x1, .int x2] z G (cc_qi (fun r G' => r = (C_arrive x1 x2 c).1 ∧ ca_I cy G G' h (C_arrive x1 x2 c).2)) := by
  obtain ⟨S, sn, hi, t⟩ := c
  refine cc_enter ok_X3_arrive (Nat.le_of_ble_eq_true rfl) (ls := [(0, .ref h), (1, .int x1), (2, .int x2)]) rfl ?_
  rcases cc_port x1 with ⟨i, hi4, rfl⟩ | hx
  · refine cc_iload_n (j := 1) dX3_arrive_0 rfl rfl ?_
    refine cc_callSi (As := [.int (nI i)]) (rest := []) (ct_X3_isPort cy z _ (nI i)) ok_X3_isPort st_X3_isPort ml_X3_41 nd_X3_isPort (by decide +kernel) (Nat.le_of_ble_eq_true rfl) rfl dX3_arrive_1 (fun r2 G1 q3 => ?_)
    obtain ⟨rfl, rfl⟩ := q3
    rw [if_pos (cc_pt hi4)]
    refine cc_if_eq (tgt := 14) dX3_arrive_4 (by decide) (fun c_4 => ?_) (fun c_4 => ?_)
    · exact absurd c_4 (by decide)
    · by_cases hx2 : 0 ≤ x2 ∧ x2 < 4
      · refine cc_iload_n (j := 2) dX3_arrive_7 rfl rfl ?_
        refine cc_callSi (As := [.int x2]) (rest := []) (ct_X3_isPort cy z _ x2) ok_X3_isPort st_X3_isPort ml_X3_41 nd_X3_isPort (by decide +kernel) (Nat.le_of_ble_eq_true rfl) rfl dX3_arrive_8 (fun r5 G4 q6 => ?_)
        obtain ⟨rfl, rfl⟩ := q6
        rw [if_pos hx2]
        refine cc_if_ne (tgt := 16) dX3_arrive_11 (by decide) (fun c_11 => ?_) (fun c_11 => ?_)
        · by_cases hlt : (S.2.2 i).2.2.length < 8
          · refine cc_aload_n (j := 0) dX3_arrive_16 rfl rfl ?_
            obtain ⟨hs7, hO8⟩ := hI.obj
            refine cc_get (v := .ref (h + 1)) hO8 cc_c3 0 (by decide) fl_X3_10 rfl dX3_arrive_17 ?_
            obtain ⟨_, hB9⟩ := hI.box0
            refine cc_getN (v := .ref (h + 1 + 2)) hB9.2.1 cc_c0 5 (by decide) fn_X3_77 rfl dX3_arrive_20 ?_
            refine cc_iload_n (j := 1) dX3_arrive_23 rfl rfl ?_
            refine cc_aald5 (x := h + 1 + 6 + 7 * i) hB9.2.2.2.1 (vp_in_nI (n := i) (by omega) (by decide)) (by rw [(nI_clamp (by omega))]; rfl) dX3_arrive_24 ?_
            obtain ⟨m1, m2, m3, hQ, hAq, h8q⟩ := hB9.2.2.2.2.2 i hi4
            refine cc_callNi (As := []) (rest := []) (ct_X2_isFull cy z _ _ _ _ _ _ _ _ _ hQ) ok_X2_isFull (hQ.2.1) rfl im_X2_isFull sl_X2_isFull mn_X3_81 nd_X2_isFull (by decide +kernel) (Nat.le_of_ble_eq_true rfl) rfl dX3_arrive_25 (fun r11 G10 q12 => ?_)
            obtain ⟨hr, rfl⟩ := q12
            have hr : r11 = 0 := hr.trans (if_pos (nI_lt (b := 8) hlt (by decide)))
            subst hr
            refine cc_if_eq (tgt := 34) dX3_arrive_28 (by decide) (fun c_28 => ?_) (fun c_28 => ?_)
            · refine cc_aload_n (j := 0) dX3_arrive_34 rfl rfl ?_
              obtain ⟨_, hOr⟩ := hI.obj
              refine cc_callVv (As := []) (rest := []) (ct_X3_remember cy z _ h _ hI.self) ok_X3_remember (hOr) rfl im_X3_remember sl_X3_remember ml_X3_61 nd_X3_remember (by decide +kernel) (Nat.le_of_ble_eq_true rfl) rfl dX3_arrive_35 (fun G13 q15 => ?_)
              refine cc_aload_n (j := 0) dX3_arrive_38 rfl rfl ?_
              obtain ⟨hs16, hO17⟩ := q15.obj
              refine cc_get (v := .ref (h + 1)) hO17 cc_c3 0 (by decide) fl_X3_10 rfl dX3_arrive_39 ?_
              refine cc_iload_n (j := 1) dX3_arrive_42 rfl rfl ?_
              refine cc_iload_n (j := 2) dX3_arrive_43 rfl rfl ?_
              obtain ⟨_, hB18⟩ := q15.box0
              refine cc_callNi (As := [.int (nI i), .int x2]) (rest := []) (ct_X0_admit cy z _ _ S i hi4 x2 hlt ⟨_, hB18⟩) ok_X0_admit (hB18.2.1) rfl im_X0_admit sl_X0_admit mn_X3_87 nd_X0_admit (by decide +kernel) (Nat.le_of_ble_eq_true rfl) rfl dX3_arrive_44 (fun r20 G19 q21 => ?_)
              obtain ⟨rfl, q21⟩ := q21
              have hI22 := q15.box q21
              refine cc_iret rfl rfl dX3_arrive_47 ?_
              have e : C_arrive (nI i) x2 (S, sn, hi, t) = (S.1 3, C_box (C_rem (S, sn, hi, t)) (B_adm i x2 S)) := by
                unfold C_arrive
                rw [if_pos ⟨cc_pt hi4, hx2⟩, C_i_n (by omega)]
                dsimp only
                rw [if_pos hlt]
              rw [e]
              exact ⟨_, rfl, rfl, hI22⟩
            · exact absurd c_28 (by decide)
          · refine cc_aload_n (j := 0) dX3_arrive_16 rfl rfl ?_
            obtain ⟨hs23, hO24⟩ := hI.obj
            refine cc_get (v := .ref (h + 1)) hO24 cc_c3 0 (by decide) fl_X3_10 rfl dX3_arrive_17 ?_
            obtain ⟨_, hB25⟩ := hI.box0
            refine cc_getN (v := .ref (h + 1 + 2)) hB25.2.1 cc_c0 5 (by decide) fn_X3_77 rfl dX3_arrive_20 ?_
            refine cc_iload_n (j := 1) dX3_arrive_23 rfl rfl ?_
            refine cc_aald5 (x := h + 1 + 6 + 7 * i) hB25.2.2.2.1 (vp_in_nI (n := i) (by omega) (by decide)) (by rw [(nI_clamp (by omega))]; rfl) dX3_arrive_24 ?_
            obtain ⟨m1, m2, m3, hQ, hAq, h8q⟩ := hB25.2.2.2.2.2 i hi4
            refine cc_callNi (As := []) (rest := []) (ct_X2_isFull cy z _ _ _ _ _ _ _ _ _ hQ) ok_X2_isFull (hQ.2.1) rfl im_X2_isFull sl_X2_isFull mn_X3_81 nd_X2_isFull (by decide +kernel) (Nat.le_of_ble_eq_true rfl) rfl dX3_arrive_25 (fun r27 G26 q28 => ?_)
            obtain ⟨hr, rfl⟩ := q28
            have hr : r27 = 1 := hr.trans (if_neg (fun q => hlt ((nI_ltI (b := 8) (Nat.lt_of_le_of_lt h8q (by decide)) (by decide)).mp q)))
            subst hr
            refine cc_if_eq (tgt := 34) dX3_arrive_28 (by decide) (fun c_28_1 => ?_) (fun c_28_1 => ?_)
            · exact absurd c_28_1 (by decide)
            · refine cc_bipush (v := (-3)) dX3_arrive_31 (by decide) ?_
              refine cc_iret rfl rfl dX3_arrive_33 ?_
              have e : C_arrive (nI i) x2 (S, sn, hi, t) = ((-3), (S, sn, hi, t)) := by
                unfold C_arrive
                rw [if_pos ⟨cc_pt hi4, hx2⟩, C_i_n (by omega)]
                dsimp only
                rw [if_neg hlt]
              rw [e]
              exact ⟨_, rfl, rfl, hI⟩
        · exact absurd c_11 (by decide)
      · refine cc_iload_n (j := 2) dX3_arrive_7 rfl rfl ?_
        refine cc_callSi (As := [.int x2]) (rest := []) (ct_X3_isPort cy z _ x2) ok_X3_isPort st_X3_isPort ml_X3_41 nd_X3_isPort (by decide +kernel) (Nat.le_of_ble_eq_true rfl) rfl dX3_arrive_8 (fun r30 G29 q31 => ?_)
        obtain ⟨rfl, rfl⟩ := q31
        rw [if_neg hx2]
        refine cc_if_ne (tgt := 16) dX3_arrive_11 (by decide) (fun c_11_1 => ?_) (fun c_11_1 => ?_)
        · exact absurd c_11_1 (by decide)
        · refine cc_iconst (v := (-1)) dX3_arrive_14 (by decide) ?_
          refine cc_iret rfl rfl dX3_arrive_15 ?_
          have e : C_arrive (nI i) x2 (S, sn, hi, t) = ((-1), (S, sn, hi, t)) := by
            unfold C_arrive
            
            rw [if_neg (fun h => hx2 h.2)]
          rw [e]
          exact ⟨_, rfl, rfl, hI⟩
  · refine cc_iload_n (j := 1) dX3_arrive_0 rfl rfl ?_
    refine cc_callSi (As := [.int x1]) (rest := []) (ct_X3_isPort cy z _ x1) ok_X3_isPort st_X3_isPort ml_X3_41 nd_X3_isPort (by decide +kernel) (Nat.le_of_ble_eq_true rfl) rfl dX3_arrive_1 (fun r33 G32 q34 => ?_)
    obtain ⟨rfl, rfl⟩ := q34
    rw [if_neg hx]
    refine cc_if_eq (tgt := 14) dX3_arrive_4 (by decide) (fun c_4_1 => ?_) (fun c_4_1 => ?_)
    · refine cc_iconst (v := (-1)) dX3_arrive_14 (by decide) ?_
      refine cc_iret rfl rfl dX3_arrive_15 ?_
      have e : C_arrive x1 x2 (S, sn, hi, t) = ((-1), (S, sn, hi, t)) := by
        unfold C_arrive
        
        rw [if_neg (fun h => hx h.1)]
      rw [e]
      exact ⟨_, rfl, rfl, hI⟩
    · exact absurd c_4_1 (by decide)

set_option maxHeartbeats 4000000 in
set_option maxRecDepth 100000 in
theorem ct_X3_lose (cy : Nat → ClassId) (z : Nat) (G : cc_G) (h : Nat) (c : CS_) (x1 : Int32)  (hI : ca_I cy G G h c) : cc_Cn cy Y_X3_lose [.ref h, .int x1] z G (cc_qi (fun r G' => r = (C_lose x1 c).1 ∧ ca_I cy G G' h (C_lose x1 c).2)) := by
  obtain ⟨S, sn, hi, t⟩ := c
  refine cc_enter ok_X3_lose (Nat.le_of_ble_eq_true rfl) (ls := [(0, .ref h), (1, .int x1)]) rfl ?_
  rcases cc_port x1 with ⟨i, hi4, rfl⟩ | hx
  · refine cc_iload_n (j := 1) dX3_lose_0 rfl rfl ?_
    refine cc_callSi (As := [.int (nI i)]) (rest := []) (ct_X3_isPort cy z _ (nI i)) ok_X3_isPort st_X3_isPort ml_X3_41 nd_X3_isPort (by decide +kernel) (Nat.le_of_ble_eq_true rfl) rfl dX3_lose_1 (fun r2 G1 q3 => ?_)
    obtain ⟨rfl, rfl⟩ := q3
    rw [if_pos (cc_pt hi4)]
    refine cc_if_ne (tgt := 9) dX3_lose_4 (by decide) (fun c_4 => ?_) (fun c_4 => ?_)
    · refine cc_aload_n (j := 0) dX3_lose_9 rfl rfl ?_
      obtain ⟨hs4, hO5⟩ := hI.obj
      refine cc_get (v := .ref (h + 1)) hO5 cc_c3 0 (by decide) fl_X3_10 rfl dX3_lose_10 ?_
      obtain ⟨_, hB6⟩ := hI.box0
      refine cc_getN (v := .ref (h + 1 + 1)) hB6.2.1 cc_c0 4 (by decide) fn_X3_49 rfl dX3_lose_13 ?_
      refine cc_iload_n (j := 1) dX3_lose_16 rfl rfl ?_
      refine cc_aald4 (x := h + 1 + 3 + 7 * i) hB6.2.2.1 (vp_in_nI (n := i) (by omega) (by decide)) (by rw [(nI_clamp (by omega))]; rfl) dX3_lose_17 ?_
      refine cc_astore_n (ls' := [(2, .ref (h + 1 + 3 + 7 * i)), (0, .ref h), (1, .int (nI i))]) dX3_lose_18 rfl (Nat.le_of_ble_eq_true rfl) rfl ?_
      refine cc_aload_n (j := 0) dX3_lose_19 rfl rfl ?_
      obtain ⟨_, _, hLr7, -⟩ := hB6.2.2.2.2.1 i hi4
      refine cc_getN (v := .int (nI (S.2.1 i).2.2.length)) hLr7.2.1 cc_c1 12 (by decide) fn_X3_111 rfl dX3_lose_20 ?_
      have h6w : (S.2.1 i).2.2.length ≤ 6 := by
        obtain ⟨_, _, _, _, _, _, h6⟩ := hB6.2.2.2.2.1 i hi4
        exact h6
      refine cc_if_ne (tgt := 29) dX3_lose_23 (by decide) (fun c_23 => ?_) (fun c_23 => ?_)
      · refine cc_aload_n (j := 1) dX3_lose_29 rfl rfl ?_
        obtain ⟨_, hOr⟩ := hI.obj
        refine cc_callVv (As := []) (rest := []) (ct_X3_remember cy z _ h _ hI.self) ok_X3_remember (hOr) rfl im_X3_remember sl_X3_remember ml_X3_61 nd_X3_remember (by decide +kernel) (Nat.le_of_ble_eq_true rfl) rfl dX3_lose_30 (fun G8 q10 => ?_)
        refine cc_aload_n (j := 0) dX3_lose_33 rfl rfl ?_
        obtain ⟨_, hB11⟩ := q10.box0
        have hBl := hB11
        obtain ⟨fL, gL, hL, hfL, hgL, h8L, h6L⟩ := hB11.2.2.2.2.1 i hi4
        refine cc_callNv (As := []) (rest := []) (ct_X1_loseFirst cy z _ _ (S.2.1 i).1 (S.2.1 i).2.1 (S.2.1 i).2.2 (hBl.2.2.2.2.1 i hi4)) ok_X1_loseFirst (hL.2.1) rfl im_X1_loseFirst sl_X1_loseFirst mn_X3_114 nd_X1_loseFirst (by decide +kernel) (Nat.le_of_ble_eq_true rfl) rfl dX3_lose_34 (fun G12 q14 => ?_)
        have hI15 := q10.box ⟨_, hB11.lane hi4 (L := L_lose (S.2.1 i)) q14⟩
        refine cc_aload_n (j := 0) dX3_lose_37 rfl rfl ?_
        obtain ⟨_, hB16⟩ := hI15.box0
        obtain ⟨_, _, hLr17, -⟩ := hB16.2.2.2.2.1 i hi4
        refine cc_getN (v := .int (nI (((S_lane S i (L_lose (S.2.1 i))).2.1) i).2.2.length)) hLr17.2.1 cc_c1 12 (by decide) fn_X3_111 rfl dX3_lose_38 ?_
        refine cc_iret rfl rfl dX3_lose_41 ?_
        have e : C_lose (nI i) (S, sn, hi, t) = (nI ((S.2.1 i).2.2.length - 1), C_box (C_rem (S, sn, hi, t)) (S_lane S i (L_lose (S.2.1 i)))) := by
          unfold C_lose
          rw [if_pos (cc_pt hi4), C_i_n (by omega)]
          dsimp only
          rw [if_neg (fun q => c_23 (by rw [q]; rfl))]
        rw [e]
        refine ⟨_, rfl, ?_, hI15⟩
        show nI (va_up S.2.1 i (L_lose (S.2.1 i)) i).2.2.length = _
        rw [va_up_self]
        show nI (S.2.1 i).2.2.tail.length = _
        rw [List.length_tail]
      · refine cc_bipush (v := (-4)) dX3_lose_26 (by decide) ?_
        refine cc_iret rfl rfl dX3_lose_28 ?_
        have e : C_lose (nI i) (S, sn, hi, t) = ((-4), (S, sn, hi, t)) := by
          unfold C_lose
          rw [if_pos (cc_pt hi4), C_i_n (by omega)]
          dsimp only
          rw [if_pos ((cc_e0 (by omega)).mp c_23)]
        rw [e]
        exact ⟨_, rfl, rfl, hI⟩
    · exact absurd c_4 (by decide)
  · refine cc_iload_n (j := 1) dX3_lose_0 rfl rfl ?_
    refine cc_callSi (As := [.int x1]) (rest := []) (ct_X3_isPort cy z _ x1) ok_X3_isPort st_X3_isPort ml_X3_41 nd_X3_isPort (by decide +kernel) (Nat.le_of_ble_eq_true rfl) rfl dX3_lose_1 (fun r19 G18 q20 => ?_)
    obtain ⟨rfl, rfl⟩ := q20
    rw [if_neg hx]
    refine cc_if_ne (tgt := 9) dX3_lose_4 (by decide) (fun c_4_1 => ?_) (fun c_4_1 => ?_)
    · exact absurd c_4_1 (by decide)
    · refine cc_iconst (v := (-1)) dX3_lose_7 (by decide) ?_
      refine cc_iret rfl rfl dX3_lose_8 ?_
      have e : C_lose x1 (S, sn, hi, t) = ((-1), (S, sn, hi, t)) := by
        unfold C_lose
        
        rw [if_neg hx]
      rw [e]
      exact ⟨_, rfl, rfl, hI⟩

set_option maxHeartbeats 4000000 in
set_option maxRecDepth 100000 in
theorem ct_X3_forge (cy : Nat → ClassId) (z : Nat) (G : cc_G) (h : Nat) (c : CS_) (x1 : Int32)  (hI : ca_I cy G G h c) : cc_Cn cy Y_X3_forge [.ref h, .int x1] z G (cc_qi (fun r G' => r = (C_forge x1 c).1 ∧ ca_I cy G G' h (C_forge x1 c).2)) := by
  obtain ⟨S, sn, hi, t⟩ := c
  refine cc_enter ok_X3_forge (Nat.le_of_ble_eq_true rfl) (ls := [(0, .ref h), (1, .int x1)]) rfl ?_
  rcases cc_port x1 with ⟨i, hi4, rfl⟩ | hx
  · refine cc_iload_n (j := 1) dX3_forge_0 rfl rfl ?_
    refine cc_callSi (As := [.int (nI i)]) (rest := []) (ct_X3_isPort cy z _ (nI i)) ok_X3_isPort st_X3_isPort ml_X3_41 nd_X3_isPort (by decide +kernel) (Nat.le_of_ble_eq_true rfl) rfl dX3_forge_1 (fun r2 G1 q3 => ?_)
    obtain ⟨rfl, rfl⟩ := q3
    rw [if_pos (cc_pt hi4)]
    refine cc_if_ne (tgt := 9) dX3_forge_4 (by decide) (fun c_4 => ?_) (fun c_4 => ?_)
    · refine cc_aload_n (j := 0) dX3_forge_9 rfl rfl ?_
      obtain ⟨hs4, hO5⟩ := hI.obj
      refine cc_get (v := .ref (h + 1)) hO5 cc_c3 0 (by decide) fl_X3_10 rfl dX3_forge_10 ?_
      obtain ⟨_, hB6⟩ := hI.box0
      refine cc_getN (v := .ref (h + 1 + 1)) hB6.2.1 cc_c0 4 (by decide) fn_X3_49 rfl dX3_forge_13 ?_
      refine cc_iload_n (j := 1) dX3_forge_16 rfl rfl ?_
      refine cc_aald4 (x := h + 1 + 3 + 7 * i) hB6.2.2.1 (vp_in_nI (n := i) (by omega) (by decide)) (by rw [(nI_clamp (by omega))]; rfl) dX3_forge_17 ?_
      refine cc_astore_n (ls' := [(2, .ref (h + 1 + 3 + 7 * i)), (0, .ref h), (1, .int (nI i))]) dX3_forge_18 rfl (Nat.le_of_ble_eq_true rfl) rfl ?_
      refine cc_aload_n (j := 0) dX3_forge_19 rfl rfl ?_
      obtain ⟨_, _, hLr7, -⟩ := hB6.2.2.2.2.1 i hi4
      refine cc_getN (v := .int ((S.2.1 i).1 3)) hLr7.2.1 cc_c1 3 (by decide) fn_X3_117 rfl dX3_forge_20 ?_
      refine cc_bipush (v := 16) dX3_forge_23 (by decide) ?_
      refine cc_icmp_lt (tgt := 31) dX3_forge_25 (by decide) (fun c_25 => ?_) (fun c_25 => ?_)
      · refine cc_aload_n (j := 1) dX3_forge_31 rfl rfl ?_
        obtain ⟨_, hOr⟩ := hI.obj
        refine cc_callVv (As := []) (rest := []) (ct_X3_remember cy z _ h _ hI.self) ok_X3_remember (hOr) rfl im_X3_remember sl_X3_remember ml_X3_61 nd_X3_remember (by decide +kernel) (Nat.le_of_ble_eq_true rfl) rfl dX3_forge_32 (fun G8 q10 => ?_)
        refine cc_aload_n (j := 0) dX3_forge_35 rfl rfl ?_
        refine cc_dup dX3_forge_36 rfl ?_
        obtain ⟨_, hB11⟩ := q10.box0
        obtain ⟨_, _, hLr12, -⟩ := hB11.2.2.2.2.1 i hi4
        refine cc_getN (v := .int ((S.2.1 i).1 3)) hLr12.2.1 cc_c1 3 (by decide) fn_X3_117 rfl dX3_forge_37 ?_
        refine cc_iconst (v := 1) dX3_forge_40 (by decide) ?_
        refine cc_iadd dX3_forge_41 ?_
        refine bx_rlane hB11 hi4 3 (by decide) fn_X3_117 rfl rfl (fun _ _ _ _ => rfl) dX3_forge_42 (fun G14 hB13 => ?_)
        have hI15 := q10.box ⟨_, hB13⟩
        refine cc_aload_n (j := 0) dX3_forge_45 rfl rfl ?_
        obtain ⟨_, hB16⟩ := hI15.box0
        obtain ⟨_, _, hLr17, -⟩ := hB16.2.2.2.2.1 i hi4
        refine cc_getN (v := .int ((((S.1, va_up S.2.1 i (upd (S.2.1 i).1 3 (((S.2.1 i).1 3) + 1), (S.2.1 i).2), S.2.2).2.1) i).1 3)) hLr17.2.1 cc_c1 3 (by decide) fn_X3_117 rfl dX3_forge_46 ?_
        refine cc_bipush (v := 100) dX3_forge_49 (by decide) ?_
        refine cc_iadd dX3_forge_51 ?_
        refine cc_iret rfl rfl dX3_forge_52 ?_
        have e : C_forge (nI i) (S, sn, hi, t) = ((S.2.1 i).1 3 + 1 + 100, C_box (C_rem (S, sn, hi, t)) (S_lane S i (upd (S.2.1 i).1 3 ((S.2.1 i).1 3 + 1), (S.2.1 i).2))) := by
          unfold C_forge
          rw [if_pos (cc_pt hi4), C_i_n (by omega)]
          dsimp only
          rw [if_neg (Int32.not_le.mpr c_25)]
        rw [e]
        refine ⟨_, rfl, ?_, hI15⟩
        show (va_up S.2.1 i (upd (S.2.1 i).1 3 ((S.2.1 i).1 3 + 1), (S.2.1 i).2) i).1 3 + 100 = _
        rw [va_up_self]
        rfl
      · refine cc_bipush (v := (-3)) dX3_forge_28 (by decide) ?_
        refine cc_iret rfl rfl dX3_forge_30 ?_
        have e : C_forge (nI i) (S, sn, hi, t) = ((-3), (S, sn, hi, t)) := by
          unfold C_forge
          rw [if_pos (cc_pt hi4), C_i_n (by omega)]
          dsimp only
          rw [if_pos (Int32.not_lt.mp c_25)]
        rw [e]
        exact ⟨_, rfl, rfl, hI⟩
    · exact absurd c_4 (by decide)
  · refine cc_iload_n (j := 1) dX3_forge_0 rfl rfl ?_
    refine cc_callSi (As := [.int x1]) (rest := []) (ct_X3_isPort cy z _ x1) ok_X3_isPort st_X3_isPort ml_X3_41 nd_X3_isPort (by decide +kernel) (Nat.le_of_ble_eq_true rfl) rfl dX3_forge_1 (fun r19 G18 q20 => ?_)
    obtain ⟨rfl, rfl⟩ := q20
    rw [if_neg hx]
    refine cc_if_ne (tgt := 9) dX3_forge_4 (by decide) (fun c_4_1 => ?_) (fun c_4_1 => ?_)
    · exact absurd c_4_1 (by decide)
    · refine cc_iconst (v := (-1)) dX3_forge_7 (by decide) ?_
      refine cc_iret rfl rfl dX3_forge_8 ?_
      have e : C_forge x1 (S, sn, hi, t) = ((-1), (S, sn, hi, t)) := by
        unfold C_forge
        
        rw [if_neg hx]
      rw [e]
      exact ⟨_, rfl, rfl, hI⟩

set_option maxHeartbeats 4000000 in
set_option maxRecDepth 100000 in
theorem ct_X3_repair (cy : Nat → ClassId) (z : Nat) (G : cc_G) (h : Nat) (c : CS_) (x1 : Int32)  (hI : ca_I cy G G h c) : cc_Cn cy Y_X3_repair [.ref h, .int x1] z G (cc_qi (fun r G' => r = (C_repair x1 c).1 ∧ ca_I cy G G' h (C_repair x1 c).2)) := by
  obtain ⟨S, sn, hi, t⟩ := c
  refine cc_enter ok_X3_repair (Nat.le_of_ble_eq_true rfl) (ls := [(0, .ref h), (1, .int x1)]) rfl ?_
  rcases cc_port x1 with ⟨i, hi4, rfl⟩ | hx
  · refine cc_iload_n (j := 1) dX3_repair_0 rfl rfl ?_
    refine cc_callSi (As := [.int (nI i)]) (rest := []) (ct_X3_isPort cy z _ (nI i)) ok_X3_isPort st_X3_isPort ml_X3_41 nd_X3_isPort (by decide +kernel) (Nat.le_of_ble_eq_true rfl) rfl dX3_repair_1 (fun r2 G1 q3 => ?_)
    obtain ⟨rfl, rfl⟩ := q3
    rw [if_pos (cc_pt hi4)]
    refine cc_if_ne (tgt := 9) dX3_repair_4 (by decide) (fun c_4 => ?_) (fun c_4 => ?_)
    · refine cc_aload_n (j := 0) dX3_repair_9 rfl rfl ?_
      obtain ⟨hs4, hO5⟩ := hI.obj
      refine cc_get (v := .ref (h + 1)) hO5 cc_c3 0 (by decide) fl_X3_10 rfl dX3_repair_10 ?_
      obtain ⟨_, hB6⟩ := hI.box0
      refine cc_getN (v := .ref (h + 1 + 1)) hB6.2.1 cc_c0 4 (by decide) fn_X3_49 rfl dX3_repair_13 ?_
      refine cc_iload_n (j := 1) dX3_repair_16 rfl rfl ?_
      refine cc_aald4 (x := h + 1 + 3 + 7 * i) hB6.2.2.1 (vp_in_nI (n := i) (by omega) (by decide)) (by rw [(nI_clamp (by omega))]; rfl) dX3_repair_17 ?_
      refine cc_astore_n (ls' := [(2, .ref (h + 1 + 3 + 7 * i)), (0, .ref h), (1, .int (nI i))]) dX3_repair_18 rfl (Nat.le_of_ble_eq_true rfl) rfl ?_
      refine cc_aload_n (j := 0) dX3_repair_19 rfl rfl ?_
      obtain ⟨fL, gL, hL, hfL, hgL, h8L, h6L⟩ := hB6.2.2.2.2.1 i hi4
      refine cc_callNi (As := []) (rest := []) (ct_X1_missing cy z _ _ _ _ _ _ _ hL) ok_X1_missing (hL.2.1) rfl im_X1_missing sl_X1_missing mn_X3_120 nd_X1_missing (by decide +kernel) (Nat.le_of_ble_eq_true rfl) rfl dX3_repair_20 (fun r8 G7 q9 => ?_)
      obtain ⟨hr, rfl⟩ := q9
      have hr : r8 = L_mis (S.2.1 i) := hr
      subst hr
      refine cc_istore_n (ls' := [(3, .int (L_mis (S.2.1 i))), (2, .ref (h + 1 + 3 + 7 * i)), (0, .ref h), (1, .int (nI i))]) dX3_repair_23 rfl (Nat.le_of_ble_eq_true rfl) rfl ?_
      refine cc_iload_n (j := 0) dX3_repair_24 rfl rfl ?_
      refine cc_if_ne (tgt := 31) dX3_repair_25 (by decide) (fun c_25 => ?_) (fun c_25 => ?_)
      · refine cc_aload_n (j := 2) dX3_repair_31 rfl rfl ?_
        obtain ⟨_, hOr⟩ := hI.obj
        refine cc_callVv (As := []) (rest := []) (ct_X3_remember cy z _ h _ hI.self) ok_X3_remember (hOr) rfl im_X3_remember sl_X3_remember ml_X3_61 nd_X3_remember (by decide +kernel) (Nat.le_of_ble_eq_true rfl) rfl dX3_repair_32 (fun G10 q12 => ?_)
        refine cc_aload_n (j := 1) dX3_repair_35 rfl rfl ?_
        obtain ⟨_, hB13⟩ := q12.box0
        obtain ⟨fL, gL, hL, hfL, hgL, h8L, h6L⟩ := hB13.2.2.2.2.1 i hi4
        refine cc_callNv (As := []) (rest := []) (ct_X1_mend cy z _ _ _ _ _ _ _ hL) ok_X1_mend (hL.2.1) rfl im_X1_mend sl_X1_mend mn_X3_123 nd_X1_mend (by decide +kernel) (Nat.le_of_ble_eq_true rfl) rfl dX3_repair_36 (fun G14 q16 => ?_)
        have hI17 := q12.box ⟨_, hB13.lane hi4 (L := L_mend (S.2.1 i)) ⟨_, _, q16, hfL, hgL, h8L, h6L⟩⟩
        refine cc_iload_n (j := 0) dX3_repair_39 rfl rfl ?_
        refine cc_bipush (v := 100) dX3_repair_40 (by decide) ?_
        refine cc_iadd dX3_repair_42 ?_
        refine cc_iret rfl rfl dX3_repair_43 ?_
        have e : C_repair (nI i) (S, sn, hi, t) = (L_mis (S.2.1 i) + 100, C_box (C_rem (S, sn, hi, t)) (S_lane S i (L_mend (S.2.1 i)))) := by
          unfold C_repair
          rw [if_pos (cc_pt hi4), C_i_n (by omega)]
          dsimp only
          rw [if_neg c_25]
        rw [e]
        exact ⟨_, rfl, rfl, hI17⟩
      · refine cc_bipush (v := (-5)) dX3_repair_28 (by decide) ?_
        refine cc_iret rfl rfl dX3_repair_30 ?_
        have e : C_repair (nI i) (S, sn, hi, t) = ((-5), (S, sn, hi, t)) := by
          unfold C_repair
          rw [if_pos (cc_pt hi4), C_i_n (by omega)]
          dsimp only
          rw [if_pos c_25]
        rw [e]
        exact ⟨_, rfl, rfl, hI⟩
    · exact absurd c_4 (by decide)
  · refine cc_iload_n (j := 1) dX3_repair_0 rfl rfl ?_
    refine cc_callSi (As := [.int x1]) (rest := []) (ct_X3_isPort cy z _ x1) ok_X3_isPort st_X3_isPort ml_X3_41 nd_X3_isPort (by decide +kernel) (Nat.le_of_ble_eq_true rfl) rfl dX3_repair_1 (fun r19 G18 q20 => ?_)
    obtain ⟨rfl, rfl⟩ := q20
    rw [if_neg hx]
    refine cc_if_ne (tgt := 9) dX3_repair_4 (by decide) (fun c_4_1 => ?_) (fun c_4_1 => ?_)
    · exact absurd c_4_1 (by decide)
    · refine cc_iconst (v := (-1)) dX3_repair_7 (by decide) ?_
      refine cc_iret rfl rfl dX3_repair_8 ?_
      have e : C_repair x1 (S, sn, hi, t) = ((-1), (S, sn, hi, t)) := by
        unfold C_repair
        
        rw [if_neg hx]
      rw [e]
      exact ⟨_, rfl, rfl, hI⟩

set_option maxHeartbeats 4000000 in
set_option maxRecDepth 100000 in
theorem ct_X3_pass (cy : Nat → ClassId) (z : Nat) (G : cc_G) (h : Nat) (c : CS_) (x1 : Int32) (M : Nat) (hM : M < 2 ^ 20) (hok : C_ok M c) (hI : ca_I cy G G h c) : cc_Cn cy Y_X3_pass [.ref h, .int x1] z G (cc_qi (fun r G' => r = (C_pass x1 c).1 ∧ ca_I cy G G' h (C_pass x1 c).2)) := by
  obtain ⟨S, sn, hi, t⟩ := c
  obtain ⟨T, hTk⟩ := hok.1
  have hTk : T ≤ 9999 ∧ B_ok T M S := hTk
  refine cc_enter ok_X3_pass (Nat.le_of_ble_eq_true rfl) (ls := [(0, .ref h), (1, .int x1)]) rfl ?_
  by_cases htc : 1 ≤ x1 ∧ x1 ≤ 50
  · obtain ⟨n, rfl, hn1, hn2⟩ := cc_ticks htc
    refine cc_iload_n (j := 1) dX3_pass_0 rfl rfl ?_
    refine cc_callSi (As := [.int (nI n)]) (rest := []) (ct_X3_isTickCount cy z _ _) ok_X3_isTickCount st_X3_isTickCount ml_X3_102 nd_X3_isTickCount (by decide +kernel) (Nat.le_of_ble_eq_true rfl) rfl dX3_pass_1 (fun r2 G1 q3 => ?_)
    obtain ⟨rfl, rfl⟩ := q3
    rw [if_pos htc]
    refine cc_if_ne (tgt := 10) dX3_pass_4 (by decide) (fun c_4 => ?_) (fun c_4 => ?_)
    · refine cc_aload_n (j := 0) dX3_pass_10 rfl rfl ?_
      obtain ⟨hs4, hO5⟩ := hI.obj
      refine cc_get (v := .ref (h + 1)) hO5 cc_c3 0 (by decide) fl_X3_10 rfl dX3_pass_11 ?_
      obtain ⟨_, hB6⟩ := hI.box0
      refine cc_getN (v := .int (S.1 0)) hB6.2.1 cc_c0 0 (by decide) fn_X3_105 rfl dX3_pass_14 ?_
      refine cc_iload_n (j := 1) dX3_pass_17 rfl rfl ?_
      refine cc_iadd dX3_pass_18 ?_
      refine cc_sipush (v := 9999) dX3_pass_19 (by decide) ?_
      refine cc_icmp_le (tgt := 28) dX3_pass_22 (by decide) (fun c_22 => ?_) (fun c_22 => ?_)
      · refine cc_aload_n (j := 0) dX3_pass_28 rfl rfl ?_
        obtain ⟨_, hOr⟩ := hI.obj
        refine cc_callVv (As := []) (rest := []) (ct_X3_remember cy z _ h _ hI.self) ok_X3_remember (hOr) rfl im_X3_remember sl_X3_remember ml_X3_61 nd_X3_remember (by decide +kernel) (Nat.le_of_ble_eq_true rfl) rfl dX3_pass_29 (fun G7 q9 => ?_)
        refine cc_aload_n (j := 0) dX3_pass_32 rfl rfl ?_
        obtain ⟨hs10, hO11⟩ := q9.obj
        refine cc_get (v := .ref (h + 1)) hO11 cc_c3 0 (by decide) fl_X3_10 rfl dX3_pass_33 ?_
        refine cc_iload_n (j := 1) dX3_pass_36 rfl rfl ?_
        obtain ⟨_, hB12⟩ := q9.box0
        refine cc_callNi (As := [.int (nI n)]) (rest := []) (ct_X0_passTicks cy z _ _ S n (by omega) (hTk.2.mids hM (by omega)) ⟨_, hB12⟩) ok_X0_passTicks (hB12.2.1) rfl im_X0_passTicks sl_X0_passTicks mn_X3_108 nd_X0_passTicks (by decide +kernel) (Nat.le_of_ble_eq_true rfl) rfl dX3_pass_37 (fun r14 G13 q15 => ?_)
        obtain ⟨rfl, q15⟩ := q15
        have hI16 := q9.box q15
        refine cc_iret rfl rfl dX3_pass_40 ?_
        have e : C_pass (nI n) (S, sn, hi, t) = (nI (B_pass n S).1, C_box (C_rem (S, sn, hi, t)) (B_pass n S).2) := by
          unfold C_pass
          rw [if_pos htc, C_i_n (by omega)]
          dsimp only
          rw [if_neg (Int32.not_lt.mpr c_22)]
        rw [e]
        exact ⟨_, rfl, rfl, hI16⟩
      · refine cc_bipush (v := (-4)) dX3_pass_25 (by decide) ?_
        refine cc_iret rfl rfl dX3_pass_27 ?_
        have e : C_pass (nI n) (S, sn, hi, t) = ((-4), (S, sn, hi, t)) := by
          unfold C_pass
          rw [if_pos htc, C_i_n (by omega)]
          dsimp only
          rw [if_pos (Int32.not_le.mp c_22)]
        rw [e]
        exact ⟨_, rfl, rfl, hI⟩
    · exact absurd c_4 (by decide)
  · refine cc_iload_n (j := 1) dX3_pass_0 rfl rfl ?_
    refine cc_callSi (As := [.int x1]) (rest := []) (ct_X3_isTickCount cy z _ _) ok_X3_isTickCount st_X3_isTickCount ml_X3_102 nd_X3_isTickCount (by decide +kernel) (Nat.le_of_ble_eq_true rfl) rfl dX3_pass_1 (fun r18 G17 q19 => ?_)
    obtain ⟨rfl, rfl⟩ := q19
    rw [if_neg htc]
    refine cc_if_ne (tgt := 10) dX3_pass_4 (by decide) (fun c_4_1 => ?_) (fun c_4_1 => ?_)
    · exact absurd c_4_1 (by decide)
    · refine cc_bipush (v := (-2)) dX3_pass_7 (by decide) ?_
      refine cc_iret rfl rfl dX3_pass_9 ?_
      have e : C_pass x1 (S, sn, hi, t) = ((-2), (S, sn, hi, t)) := by
        unfold C_pass
        
        rw [if_neg htc]
      rw [e]
      exact ⟨_, rfl, rfl, hI⟩
end
section
theorem cc_inn {x : Int32} {n : Nat} (h0 : ¬ x < 0) (h : x < nI n) (hn : n < 2 ^ 31) : x.toNatClampNeg < n := by
  obtain ⟨j, hj, rfl⟩ := nI_of h0
  rw [nI_clamp hj]
  exact (nI_ltI hj hn).mp h

set_option maxHeartbeats 4000000 in
set_option maxRecDepth 100000 in
theorem ct_X3_type (cy : Nat → ClassId) (z : Nat) (G : cc_G) (h : Nat) (c : CS_) (x1 : Int32) (hx1 : vp_nar .char x1 = x1) (hI : ca_I cy G G h c) : cc_Cn cy Y_X3_type [.ref h, .int x1] z G (cc_qi (fun r G' => r = (C_type x1 c).1 ∧ ca_I cy G G' h (C_type x1 c).2)) := by
  obtain ⟨S, sn, hi, t⟩ := c
  obtain ⟨BS, hS, π, tx, H, e0, eS, hP, hH, hl, hT, h60⟩ := hI
  have e0 : S = BS 0 := e0
  have H : ca_R cy G G h BS hS π (nI hi.length) tx (nI t.length) := H
  have eS : ca_S hS BS sn := eS
  have hH : ∀ (i : Nat) (hq : i < hi.length), BS (3 + π i) = hi[i] := hH
  have hl : hi.length ≤ 4 := hl
  have hT : ar_ tx t := hT
  have h60 : t.length ≤ 60 := h60
  refine cc_enter ok_X3_type (Nat.le_of_ble_eq_true rfl) (ls := [(0, .ref h), (1, .int x1)]) rfl ?_
  refine cc_aload_n (j := 0) dX3_type_0 rfl rfl ?_
  refine cc_get (v := .int (nI t.length)) H.2.1 cc_c3 7 (by decide) fl_X3_38 rfl dX3_type_1 ?_
  refine cc_bipush (v := 60) dX3_type_4 (by decide) ?_
  refine cc_icmp_lt (tgt := 12) dX3_type_6 (by decide) (fun c_6 => ?_) (fun c_6 => ?_)
  · have hlt : t.length < 60 := (nI_ltI (b := 60) (by omega) (by decide)).mp c_6
    refine cc_aload_n (j := 0) dX3_type_12 rfl rfl ?_
    refine cc_get (v := .ref (h + 95)) H.2.1 cc_c3 6 (by decide) fl_X3_34 rfl dX3_type_13 ?_
    refine cc_aload_n (j := 0) dX3_type_16 rfl rfl ?_
    refine cc_get (v := .int (nI t.length)) H.2.1 cc_c3 7 (by decide) fl_X3_38 rfl dX3_type_17 ?_
    refine cc_iload_n (j := 1) dX3_type_20 rfl rfl ?_
    refine ca_rchar (j := t.length) H (vp_in_nI (n := t.length) (by omega) (by decide)) (nI_clamp (by omega)) hx1 dX3_type_21 (fun G1 H2 => ?_)
    refine cc_aload_n (j := 0) dX3_type_22 rfl rfl ?_
    refine cc_dup dX3_type_23 rfl ?_
    refine cc_get (v := .int (nI t.length)) H2.2.1 cc_c3 7 (by decide) fl_X3_38 rfl dX3_type_24 ?_
    refine cc_iconst (v := 1) dX3_type_27 (by decide) ?_
    refine cc_iadd dX3_type_28 ?_
    rw [show (nI t.length) + 1 = nI (t ++ [x1]).length from (by rw [List.length_append]; exact nI_1 _)]
    refine ca_rput (hS' := hS) (nH' := (nI hi.length)) (nT' := (nI (t ++ [x1]).length)) H2 cc_c3 7 (by decide) fl_X3_38 rfl rfl rfl rfl rfl dX3_type_29 (fun G3 H4 => ?_)
    refine cc_aload_n (j := 0) dX3_type_32 rfl rfl ?_
    refine cc_get (v := .int (nI (t ++ [x1]).length)) H4.2.1 cc_c3 7 (by decide) fl_X3_38 rfl dX3_type_33 ?_
    refine cc_iret rfl rfl dX3_type_36 ?_
    have e : C_type x1 (S, sn, hi, t) = (nI (t.length + 1), (S, sn, hi, t ++ [x1])) := if_pos hlt
    rw [e]
    refine ⟨_, rfl, ?_, BS, hS, π, _, H4, e0, eS, hP, hH, hl, hT.push x1, ?_⟩
    · show nI (t ++ [x1]).length = nI (t.length + 1)
      rw [List.length_append, List.length_singleton]
    · show (t ++ [x1]).length ≤ 60
      rw [List.length_append, List.length_singleton]
      omega
  · have hlt : ¬ t.length < 60 := fun q => c_6 (nI_lt (b := 60) q (by decide))
    refine cc_bipush (v := (-3)) dX3_type_9 (by decide) ?_
    refine cc_iret rfl rfl dX3_type_11 ?_
    have e : C_type x1 (S, sn, hi, t) = (-3, (S, sn, hi, t)) := if_neg hlt
    rw [e]
    exact ⟨_, rfl, rfl, BS, hS, π, tx, H, e0, eS, hP, hH, hl, hT, h60⟩

set_option maxHeartbeats 4000000 in
set_option maxRecDepth 100000 in
theorem ct_X3_clearText (cy : Nat → ClassId) (z : Nat) (G : cc_G) (h : Nat) (c : CS_)  (hI : ca_I cy G G h c) : cc_Cn cy Y_X3_clearText [.ref h] z G (cc_qi (fun r G' => r = (C_clearText c).1 ∧ ca_I cy G G' h (C_clearText c).2)) := by
  obtain ⟨S, sn, hi, t⟩ := c
  obtain ⟨BS, hS, π, tx, H, e0, eS, hP, hH, hl, hT, h60⟩ := hI
  have e0 : S = BS 0 := e0
  have H : ca_R cy G G h BS hS π (nI hi.length) tx (nI t.length) := H
  have eS : ca_S hS BS sn := eS
  have hH : ∀ (i : Nat) (hq : i < hi.length), BS (3 + π i) = hi[i] := hH
  have hl : hi.length ≤ 4 := hl
  have hT : ar_ tx t := hT
  have h60 : t.length ≤ 60 := h60
  refine cc_enter ok_X3_clearText (Nat.le_of_ble_eq_true rfl) (ls := [(0, .ref h)]) rfl ?_
  refine cc_aload_n (j := 0) dX3_clearText_0 rfl rfl ?_
  refine cc_get (v := .int (nI t.length)) H.2.1 cc_c3 7 (by decide) fl_X3_38 rfl dX3_clearText_1 ?_
  refine cc_istore_n (ls' := [(1, .int (nI t.length)), (0, .ref h)]) dX3_clearText_4 rfl (Nat.le_of_ble_eq_true rfl) rfl ?_
  refine cc_aload_n (j := 1) dX3_clearText_5 rfl rfl ?_
  refine cc_iconst (v := 0) dX3_clearText_6 (by decide) ?_
  refine ca_rput (hS' := hS) (nH' := (nI hi.length)) (nT' := 0) H cc_c3 7 (by decide) fl_X3_38 rfl rfl rfl rfl rfl dX3_clearText_7 (fun G1 H2 => ?_)
  refine cc_iload_n (j := 0) dX3_clearText_10 rfl rfl ?_
  refine cc_iret rfl rfl dX3_clearText_11 ?_
  exact ⟨_, rfl, rfl, BS, hS, π, tx, H2, e0, eS, hP, hH, hl, ar_.nil, Nat.zero_le _⟩

set_option maxHeartbeats 4000000 in
set_option maxRecDepth 100000 in
theorem ct_X3_undo (cy : Nat → ClassId) (z : Nat) (G : cc_G) (h : Nat) (c : CS_)  (hI : ca_I cy G G h c) : cc_Cn cy Y_X3_undo [.ref h] z G (cc_qi (fun r G' => r = (C_undo c).1 ∧ ca_I cy G G' h (C_undo c).2)) := by
  obtain ⟨S, sn, hi, t⟩ := c
  obtain ⟨BS, hS, π, tx, H, e0, eS, hP, hH, hl, hT, h60⟩ := hI
  have e0 : S = BS 0 := e0
  have H : ca_R cy G G h BS hS π (nI hi.length) tx (nI t.length) := H
  have eS : ca_S hS BS sn := eS
  have hH : ∀ (i : Nat) (hq : i < hi.length), BS (3 + π i) = hi[i] := hH
  have hl : hi.length ≤ 4 := hl
  have hT : ar_ tx t := hT
  have h60 : t.length ≤ 60 := h60
  refine cc_enter ok_X3_undo (Nat.le_of_ble_eq_true rfl) (ls := [(0, .ref h)]) rfl ?_
  refine cc_aload_n (j := 0) dX3_undo_0 rfl rfl ?_
  refine cc_get (v := .int (nI hi.length)) H.2.1 cc_c3 5 (by decide) fl_X3_30 rfl dX3_undo_1 ?_
  refine cc_if_ne (tgt := 10) dX3_undo_4 (by decide) (fun c_4 => ?_) (fun c_4 => ?_)
  · have hne : ¬ hi.length = 0 := fun q => c_4 (by rw [q]; rfl)
    refine cc_aload_n (j := 0) dX3_undo_10 rfl rfl ?_
    refine cc_dup dX3_undo_11 rfl ?_
    refine cc_get (v := .int (nI hi.length)) H.2.1 cc_c3 5 (by decide) fl_X3_30 rfl dX3_undo_12 ?_
    refine cc_iconst (v := 1) dX3_undo_15 (by decide) ?_
    refine cc_isub dX3_undo_16 ?_
    rw [show (nI hi.length) - 1 = nI (hi.length - 1) from cc_m1 (by omega)]
    refine ca_rput (hS' := hS) (nH' := (nI (hi.length - 1))) (nT' := (nI t.length)) H cc_c3 5 (by decide) fl_X3_30 rfl rfl rfl rfl rfl dX3_undo_17 (fun G1 H2 => ?_)
    refine cc_aload_n (j := 0) dX3_undo_20 rfl rfl ?_
    refine cc_get (v := .ref (h + 1)) H2.2.1 cc_c3 0 (by decide) fl_X3_10 rfl dX3_undo_21 ?_
    refine cc_aload_n (j := 0) dX3_undo_24 rfl rfl ?_
    refine cc_get (v := .ref (h + 94)) H2.2.1 cc_c3 4 (by decide) fl_X3_26 rfl dX3_undo_25 ?_
    refine cc_aload_n (j := 0) dX3_undo_28 rfl rfl ?_
    refine cc_get (v := .int (nI (hi.length - 1))) H2.2.1 cc_c3 5 (by decide) fl_X3_30 rfl dX3_undo_29 ?_
    refine cc_aald3 (x := cb h (3 + π (hi.length - 1))) H2.2.2.2.1 (vp_in_nI (n := (hi.length - 1)) (by omega) (by decide)) (by rw [(nI_clamp (by omega))]; rfl) dX3_undo_32 ?_
    refine cc_callNv (As := [.ref (cb h (3 + π (hi.length - 1)))]) (rest := []) (ct_X0_copyFrom cy z _ _ _ _ _ (cb_ap h (k := 0) (j := 3 + π (hi.length - 1)) (by omega)) (H2.2.2.1 (3 + π (hi.length - 1)) (by have := hP.1 (hi.length - 1) (by omega); omega)) H2.b0) ok_X0_copyFrom (H2.b0.obj) rfl im_X0_copyFrom sl_X0_copyFrom mn_X3_95 nd_X0_copyFrom (by decide +kernel) (Nat.le_of_ble_eq_true rfl) rfl dX3_undo_33 (fun G3 q5 => ?_)
    have H6 := H2.slot (k := 0) (by decide) rfl q5
    refine cc_aload_n (j := 0) dX3_undo_36 rfl rfl ?_
    refine cc_get (v := .int (nI (hi.length - 1))) H6.2.1 cc_c3 5 (by decide) fl_X3_30 rfl dX3_undo_37 ?_
    refine cc_iret rfl rfl dX3_undo_40 ?_
    have e : C_undo (S, sn, hi, t) = (nI (hi.length - 1), (hi.getD (hi.length - 1) S, sn, hi.take (hi.length - 1), t)) := if_neg hne
    have el : (hi.take (hi.length - 1)).length = hi.length - 1 := by rw [List.length_take]; omega
    rw [e]
    refine ⟨_, rfl, rfl, va_up BS 0 (BS (3 + π (hi.length - 1))), hS, π, tx, ?_, ?_, ?_, hP, fun i hq => ?_, ?_, hT, h60⟩
    · show ca_R cy G _ h _ hS π (nI (hi.take (hi.length - 1)).length) tx (nI t.length)
      rw [el]
      exact H6
    · show hi.getD (hi.length - 1) S = va_up BS 0 _ 0
      rw [va_up_self, hH (hi.length - 1) (by omega), List.getD_eq_getElem?_getD, List.getElem?_eq_getElem (by omega)]
      rfl
    · rcases eS with ⟨a, b⟩ | ⟨a, b⟩
      · exact Or.inl ⟨a, b⟩
      · exact Or.inr ⟨by rw [va_up_ne _ _ (by decide)]; exact a, b⟩
    · have hq2 : i < (hi.take (hi.length - 1)).length := hq
      rw [va_up_ne _ _ (by omega), hH i (by omega)]
      show hi[i] = (hi.take (hi.length - 1))[i]
      rw [List.getElem_take]
    · show (hi.take (hi.length - 1)).length ≤ 4
      omega
  · have hze : hi.length = 0 := (cc_e0 (by omega)).mp c_4
    refine cc_bipush (v := (-5)) dX3_undo_7 (by decide) ?_
    refine cc_iret rfl rfl dX3_undo_9 ?_
    have e : C_undo (S, sn, hi, t) = (-5, (S, sn, hi, t)) := if_pos hze
    rw [e]
    exact ⟨_, rfl, rfl, BS, hS, π, tx, H, e0, eS, hP, hH, hl, hT, h60⟩

set_option maxHeartbeats 4000000 in
set_option maxRecDepth 100000 in
theorem ct_X3_keep (cy : Nat → ClassId) (z : Nat) (G : cc_G) (h : Nat) (c : CS_)  (hI : ca_I cy G G h c) : cc_Cn cy Y_X3_keep [.ref h] z G (cc_qi (fun r G' => r = (C_keep c).1 ∧ ca_I cy G G' h (C_keep c).2)) := by
  obtain ⟨S, sn, hi, t⟩ := c
  obtain ⟨BS, hS, π, tx, H, e0, eS, hP, hH, hl, hT, h60⟩ := hI
  have e0 : S = BS 0 := e0
  have H : ca_R cy G G h BS hS π (nI hi.length) tx (nI t.length) := H
  have eS : ca_S hS BS sn := eS
  have hH : ∀ (i : Nat) (hq : i < hi.length), BS (3 + π i) = hi[i] := hH
  have hl : hi.length ≤ 4 := hl
  have hT : ar_ tx t := hT
  have h60 : t.length ≤ 60 := h60
  refine cc_enter ok_X3_keep (Nat.le_of_ble_eq_true rfl) (ls := [(0, .ref h)]) rfl ?_
  refine cc_aload_n (j := 0) dX3_keep_0 rfl rfl ?_
  refine cc_get (v := .ref (h + 63)) H.2.1 cc_c3 2 (by decide) fl_X3_19 rfl dX3_keep_1 ?_
  refine cc_aload_n (j := 0) dX3_keep_4 rfl rfl ?_
  refine cc_get (v := .ref (h + 1)) H.2.1 cc_c3 0 (by decide) fl_X3_10 rfl dX3_keep_5 ?_
  refine cc_callNv (As := [.ref (h + 1)]) (rest := []) (ct_X0_copyFrom cy z _ _ _ _ _ (cb_ap h (k := 2) (j := 0) (by decide)) H.b0 H.b2) ok_X0_copyFrom (H.b2.obj) rfl im_X0_copyFrom sl_X0_copyFrom mn_X3_95 nd_X0_copyFrom (by decide +kernel) (Nat.le_of_ble_eq_true rfl) rfl dX3_keep_8 (fun G1 q3 => ?_)
  have H4 := H.slot (k := 2) (by decide) rfl q3
  refine cc_aload_n (j := 0) dX3_keep_11 rfl rfl ?_
  refine cc_iconst (v := 1) dX3_keep_12 (by decide) ?_
  refine ca_rput (hS' := 1) (nH' := (nI hi.length)) (nT' := (nI t.length)) H4 cc_c3 3 (by decide) fl_X3_22 rfl rfl rfl rfl rfl dX3_keep_13 (fun G5 H6 => ?_)
  refine cc_aload_n (j := 0) dX3_keep_16 rfl rfl ?_
  refine cc_get (v := .ref (h + 1)) H6.2.1 cc_c3 0 (by decide) fl_X3_10 rfl dX3_keep_17 ?_
  obtain ⟨_, hB7⟩ := H6.b0
  refine cc_getN (v := .int (((BS 0).1) 0)) hB7.2.1 cc_c0 0 (by decide) fn_X3_105 rfl dX3_keep_20 ?_
  refine cc_iret rfl rfl dX3_keep_23 ?_
  subst e0
  refine ⟨_, rfl, rfl, va_up BS 2 (BS 0), 1, π, tx, H6, (va_up_ne _ _ (by decide)).symm, Or.inr ⟨by rw [va_up_self]; rfl, rfl⟩, hP, fun i hq => ?_, hl, hT, h60⟩
  rw [va_up_ne _ _ (by omega)]
  exact hH i hq

set_option maxHeartbeats 4000000 in
set_option maxRecDepth 100000 in
theorem ct_X3_restore (cy : Nat → ClassId) (z : Nat) (G : cc_G) (h : Nat) (c : CS_)  (hI : ca_I cy G G h c) : cc_Cn cy Y_X3_restore [.ref h] z G (cc_qi (fun r G' => r = (C_restore c).1 ∧ ca_I cy G G' h (C_restore c).2)) := by
  have hI0 := hI
  obtain ⟨S, sn, hi, t⟩ := c
  obtain ⟨BS, hS, π, tx, H, e0, eS, hP, hH, hl, hT, h60⟩ := hI
  have e0 : S = BS 0 := e0
  have H : ca_R cy G G h BS hS π (nI hi.length) tx (nI t.length) := H
  have eS : ca_S hS BS sn := eS
  have hH : ∀ (i : Nat) (hq : i < hi.length), BS (3 + π i) = hi[i] := hH
  have hl : hi.length ≤ 4 := hl
  have hT : ar_ tx t := hT
  have h60 : t.length ≤ 60 := h60
  refine cc_enter ok_X3_restore (Nat.le_of_ble_eq_true rfl) (ls := [(0, .ref h)]) rfl ?_
  rcases eS with ⟨rfl, rfl⟩ | ⟨rfl, rfl⟩
  · refine cc_aload_n (j := 0) dX3_restore_0 rfl rfl ?_
    refine cc_get (v := .int 0) H.2.1 cc_c3 3 (by decide) fl_X3_22 rfl dX3_restore_1 ?_
    refine cc_if_ne (tgt := 10) dX3_restore_4 (by decide) (fun c_4 => ?_) (fun c_4 => ?_)
    · exact absurd c_4 (by decide)
    · refine cc_bipush (v := (-5)) dX3_restore_7 (by decide) ?_
      refine cc_iret rfl rfl dX3_restore_9 ?_
      exact ⟨_, rfl, rfl, hI0⟩
  · refine cc_aload_n (j := 0) dX3_restore_0 rfl rfl ?_
    refine cc_get (v := .int 1) H.2.1 cc_c3 3 (by decide) fl_X3_22 rfl dX3_restore_1 ?_
    refine cc_if_ne (tgt := 10) dX3_restore_4 (by decide) (fun c_4_1 => ?_) (fun c_4_1 => ?_)
    · refine cc_aload_n (j := 0) dX3_restore_10 rfl rfl ?_
      refine cc_callVv (As := []) (rest := []) (ct_X3_remember cy z _ h _ hI0) ok_X3_remember (H.2.1) rfl im_X3_remember sl_X3_remember ml_X3_61 nd_X3_remember (by decide +kernel) (Nat.le_of_ble_eq_true rfl) rfl dX3_restore_11 (fun G1 q3 => ?_)
      obtain ⟨BS2, hS2, π2, tx2, H2, e02, eS2, -⟩ := id q3
      have hs2 : BS 2 = BS2 2 := by
        rcases eS2 with ⟨a, -⟩ | ⟨a, -⟩
        · cases a
        · exact Option.some.inj a
      refine cc_aload_n (j := 0) dX3_restore_14 rfl rfl ?_
      obtain ⟨hs4, hO5⟩ := q3.obj
      refine cc_get (v := .ref (h + 1)) hO5 cc_c3 0 (by decide) fl_X3_10 rfl dX3_restore_15 ?_
      refine cc_aload_n (j := 0) dX3_restore_18 rfl rfl ?_
      refine cc_get (v := .ref (h + 63)) hO5 cc_c3 2 (by decide) fl_X3_19 rfl dX3_restore_19 ?_
      refine cc_callNv (As := [.ref (h + 63)]) (rest := []) (ct_X0_copyFrom cy z _ _ _ _ _ (cb_ap h (k := 0) (j := 2) (by decide)) H2.self.b2 H2.self.b0) ok_X0_copyFrom (H2.b0.obj) rfl im_X0_copyFrom sl_X0_copyFrom mn_X3_95 nd_X0_copyFrom (by decide +kernel) (Nat.le_of_ble_eq_true rfl) rfl dX3_restore_22 (fun G6 q8 => ?_)
      have hI9 := q3.box q8
      refine cc_aload_n (j := 0) dX3_restore_25 rfl rfl ?_
      obtain ⟨hs10, hO11⟩ := hI9.obj
      refine cc_get (v := .ref (h + 1)) hO11 cc_c3 0 (by decide) fl_X3_10 rfl dX3_restore_26 ?_
      obtain ⟨_, hB12⟩ := hI9.box0
      refine cc_getN (v := .int (((BS2 2).1) 0)) hB12.2.1 cc_c0 0 (by decide) fn_X3_105 rfl dX3_restore_29 ?_
      refine cc_iret rfl rfl dX3_restore_32 ?_
      refine ⟨_, rfl, ?_, ?_⟩
      · show (BS2 2).1 0 = (BS 2).1 0
        rw [hs2]
      · show ca_I cy G _ h (BS 2, (C_rem (S, some (BS 2), hi, t)).2)
        have hf := hI9
        rw [← hs2] at hf
        exact hf
    · exact absurd c_4_1 (by decide)

set_option maxHeartbeats 4000000 in
set_option maxRecDepth 100000 in
theorem ct_X3_lane (cy : Nat → ClassId) (z : Nat) (G : cc_G) (h : Nat) (c : CS_) (x1 x2 : Int32)  (hI : ca_I cy G G h c) : cc_Cn cy Y_X3_lane [.ref h, .int x1, .int x2] z G (cc_qi (fun r G' => r = C_lane x1 x2 c ∧ ca_I cy G G' h c)) := by
  obtain ⟨S, sn, hi, t⟩ := c
  refine cc_enter ok_X3_lane (Nat.le_of_ble_eq_true rfl) (ls := [(0, .ref h), (1, .int x1), (2, .int x2)]) rfl ?_
  rcases cc_port x1 with ⟨i, hi4, rfl⟩ | hx
  · refine cc_iload_n (j := 1) dX3_lane_0 rfl rfl ?_
    refine cc_callSi (As := [.int (nI i)]) (rest := []) (ct_X3_isPort cy z _ (nI i)) ok_X3_isPort st_X3_isPort ml_X3_41 nd_X3_isPort (by decide +kernel) (Nat.le_of_ble_eq_true rfl) rfl dX3_lane_1 (fun r2 G1 q3 => ?_)
    obtain ⟨rfl, rfl⟩ := q3
    rw [if_pos (cc_pt hi4)]
    refine cc_if_ne (tgt := 9) dX3_lane_4 (by decide) (fun c_4 => ?_) (fun c_4 => ?_)
    · refine cc_iload_n (j := 2) dX3_lane_9 rfl rfl ?_
      refine cc_bipush (v := 12) dX3_lane_10 (by decide) ?_
      refine cc_icmp_ne (tgt := 24) dX3_lane_12 (by decide) (fun c_12 => ?_) (fun c_12 => ?_)
      · refine cc_iload_n (j := 2) dX3_lane_24 rfl rfl ?_
        refine cc_bipush (v := 13) dX3_lane_25 (by decide) ?_
        refine cc_icmp_ne (tgt := 47) dX3_lane_27 (by decide) (fun c_27 => ?_) (fun c_27 => ?_)
        · refine cc_aload_n (j := 0) dX3_lane_47 rfl rfl ?_
          obtain ⟨hs4, hO5⟩ := hI.obj
          refine cc_get (v := .ref (h + 1)) hO5 cc_c3 0 (by decide) fl_X3_10 rfl dX3_lane_48 ?_
          obtain ⟨_, hB6⟩ := hI.box0
          refine cc_getN (v := .ref (h + 1 + 1)) hB6.2.1 cc_c0 4 (by decide) fn_X3_49 rfl dX3_lane_51 ?_
          refine cc_iload_n (j := 1) dX3_lane_54 rfl rfl ?_
          refine cc_aald4 (x := h + 1 + 3 + 7 * i) hB6.2.2.1 (vp_in_nI (n := i) (by omega) (by decide)) (by rw [(nI_clamp (by omega))]; rfl) dX3_lane_55 ?_
          refine cc_iload_n (j := 2) dX3_lane_56 rfl rfl ?_
          obtain ⟨fL, gL, hL, hfL, hgL, h8L, h6L⟩ := hB6.2.2.2.2.1 i hi4
          refine cc_callNi (As := [.int x2]) (rest := []) (ct_X1_figure cy z _ _ _ _ _ _ _ x2 hL) ok_X1_figure (hL.2.1) rfl im_X1_figure sl_X1_figure mn_X3_132 nd_X1_figure (by decide +kernel) (Nat.le_of_ble_eq_true rfl) rfl dX3_lane_57 (fun r8 G7 q9 => ?_)
          obtain ⟨hr, rfl⟩ := q9
          have hr : r8 = L_fig x2 (S.2.1 i) := hr
          subst hr
          refine cc_iret rfl rfl dX3_lane_60 ?_
          have e : C_lane (nI i) x2 (S, sn, hi, t) = L_fig x2 (S.2.1 i) := by
            unfold C_lane
            rw [if_pos (cc_pt hi4), C_i_n (by omega)]
            dsimp only
            rw [if_neg c_12, if_neg c_27]
          rw [e]
          exact ⟨_, rfl, rfl, hI⟩
        · refine cc_aload_n (j := 0) dX3_lane_30 rfl rfl ?_
          obtain ⟨hs10, hO11⟩ := hI.obj
          refine cc_get (v := .ref (h + 1)) hO11 cc_c3 0 (by decide) fl_X3_10 rfl dX3_lane_31 ?_
          refine cc_iload_n (j := 1) dX3_lane_34 rfl rfl ?_
          obtain ⟨_, hB12⟩ := hI.box0
          refine cc_callNi (As := [.int (nI i)]) (rest := []) (ct_X0_isStuck cy z _ _ S i hi4 ⟨_, hB12⟩) ok_X0_isStuck (hB12.2.1) rfl im_X0_isStuck sl_X0_isStuck mn_X3_129 nd_X0_isStuck (by decide +kernel) (Nat.le_of_ble_eq_true rfl) rfl dX3_lane_35 (fun r14 G13 q15 => ?_)
          obtain ⟨rfl, rfl⟩ := q15
          rcases B_stb_01 S i with hsb | hsb
          · rw [show nI (B_stb S i) = 0 by rw [hsb]; rfl]
            refine cc_if_eq (tgt := 45) dX3_lane_38 (by decide) (fun c_38 => ?_) (fun c_38 => ?_)
            · refine cc_iconst (v := 0) dX3_lane_45 (by decide) ?_
              refine cc_iret rfl rfl dX3_lane_46 ?_
              have e : C_lane (nI i) x2 (S, sn, hi, t) = nI 0 := by
                unfold C_lane
                rw [if_pos (cc_pt hi4), C_i_n (by omega)]
                dsimp only
                rw [if_neg c_12, if_pos c_27, hsb]
              rw [e]
              exact ⟨_, rfl, rfl, hI⟩
            · exact absurd c_38 (by decide)
          · rw [show nI (B_stb S i) = 1 by rw [hsb]; rfl]
            refine cc_if_eq (tgt := 45) dX3_lane_38 (by decide) (fun c_38_1 => ?_) (fun c_38_1 => ?_)
            · exact absurd c_38_1 (by decide)
            · refine cc_iconst (v := 1) dX3_lane_41 (by decide) ?_
              refine cc_goto (tgt := 46) dX3_lane_42 (by decide) ?_
              refine cc_iret rfl rfl dX3_lane_46 ?_
              have e : C_lane (nI i) x2 (S, sn, hi, t) = nI 1 := by
                unfold C_lane
                rw [if_pos (cc_pt hi4), C_i_n (by omega)]
                dsimp only
                rw [if_neg c_12, if_pos c_27, hsb]
              rw [e]
              exact ⟨_, rfl, rfl, hI⟩
      · refine cc_aload_n (j := 0) dX3_lane_15 rfl rfl ?_
        obtain ⟨hs16, hO17⟩ := hI.obj
        refine cc_get (v := .ref (h + 1)) hO17 cc_c3 0 (by decide) fl_X3_10 rfl dX3_lane_16 ?_
        refine cc_iload_n (j := 1) dX3_lane_19 rfl rfl ?_
        obtain ⟨_, hB18⟩ := hI.box0
        refine cc_callNi (As := [.int (nI i)]) (rest := []) (ct_X0_waitingFor cy z _ _ S (nI i) ⟨_, hB18⟩) ok_X0_waitingFor (hB18.2.1) rfl im_X0_waitingFor sl_X0_waitingFor mn_X3_126 nd_X0_waitingFor (by decide +kernel) (Nat.le_of_ble_eq_true rfl) rfl dX3_lane_20 (fun r20 G19 q21 => ?_)
        obtain ⟨rfl, rfl⟩ := q21
        refine cc_iret rfl rfl dX3_lane_23 ?_
        have e : C_lane (nI i) x2 (S, sn, hi, t) = nI (B_wt (nI i) S 4) := by
          unfold C_lane
          rw [if_pos (cc_pt hi4), C_i_n (by omega)]
          dsimp only
          rw [if_pos c_12]
        rw [e]
        exact ⟨_, rfl, rfl, hI⟩
    · exact absurd c_4 (by decide)
  · refine cc_iload_n (j := 1) dX3_lane_0 rfl rfl ?_
    refine cc_callSi (As := [.int x1]) (rest := []) (ct_X3_isPort cy z _ x1) ok_X3_isPort st_X3_isPort ml_X3_41 nd_X3_isPort (by decide +kernel) (Nat.le_of_ble_eq_true rfl) rfl dX3_lane_1 (fun r23 G22 q24 => ?_)
    obtain ⟨rfl, rfl⟩ := q24
    rw [if_neg hx]
    refine cc_if_ne (tgt := 9) dX3_lane_4 (by decide) (fun c_4_1 => ?_) (fun c_4_1 => ?_)
    · exact absurd c_4_1 (by decide)
    · refine cc_iconst (v := (-1)) dX3_lane_7 (by decide) ?_
      refine cc_iret rfl rfl dX3_lane_8 ?_
      have e : C_lane x1 x2 (S, sn, hi, t) = (-1) := by
        unfold C_lane
        
        rw [if_neg hx]
      rw [e]
      exact ⟨_, rfl, rfl, hI⟩

set_option maxHeartbeats 4000000 in
set_option maxRecDepth 100000 in
theorem ct_X3_seated (cy : Nat → ClassId) (z : Nat) (G : cc_G) (h : Nat) (c : CS_) (x1 x2 : Int32)  (hI : ca_I cy G G h c) : cc_Cn cy Y_X3_seated [.ref h, .int x1, .int x2] z G (cc_qi (fun r G' => r = C_seated x1 x2 c ∧ ca_I cy G G' h c)) := by
  obtain ⟨S, sn, hi, t⟩ := c
  refine cc_enter ok_X3_seated (Nat.le_of_ble_eq_true rfl) (ls := [(0, .ref h), (1, .int x1), (2, .int x2)]) rfl ?_
  rcases cc_port x1 with ⟨i, hi4, rfl⟩ | hx
  · refine cc_iload_n (j := 1) dX3_seated_0 rfl rfl ?_
    refine cc_callSi (As := [.int (nI i)]) (rest := []) (ct_X3_isPort cy z _ (nI i)) ok_X3_isPort st_X3_isPort ml_X3_41 nd_X3_isPort (by decide +kernel) (Nat.le_of_ble_eq_true rfl) rfl dX3_seated_1 (fun r2 G1 q3 => ?_)
    obtain ⟨rfl, rfl⟩ := q3
    rw [if_pos (cc_pt hi4)]
    refine cc_if_ne (tgt := 9) dX3_seated_4 (by decide) (fun c_4 => ?_) (fun c_4 => ?_)
    · refine cc_iload_n (j := 2) dX3_seated_9 rfl rfl ?_
      refine cc_if_ge (tgt := 16) dX3_seated_10 (by decide) (fun c_10 => ?_) (fun c_10 => ?_)
      · have hx0 : ¬ x2 < 0 := Int32.not_lt.mpr c_10
        refine cc_aload_n (j := 0) dX3_seated_16 rfl rfl ?_
        obtain ⟨hs4, hO5⟩ := hI.obj
        refine cc_get (v := .ref (h + 1)) hO5 cc_c3 0 (by decide) fl_X3_10 rfl dX3_seated_17 ?_
        obtain ⟨_, hB6⟩ := hI.box0
        refine cc_getN (v := .ref (h + 1 + 1)) hB6.2.1 cc_c0 4 (by decide) fn_X3_49 rfl dX3_seated_20 ?_
        refine cc_iload_n (j := 1) dX3_seated_23 rfl rfl ?_
        refine cc_aald4 (x := h + 1 + 3 + 7 * i) hB6.2.2.1 (vp_in_nI (n := i) (by omega) (by decide)) (by rw [(nI_clamp (by omega))]; rfl) dX3_seated_24 ?_
        refine cc_astore_n (ls' := [(3, .ref (h + 1 + 3 + 7 * i)), (0, .ref h), (1, .int (nI i)), (2, .int x2)]) dX3_seated_25 rfl (Nat.le_of_ble_eq_true rfl) rfl ?_
        refine cc_iload_n (j := 3) dX3_seated_26 rfl rfl ?_
        refine cc_aload_n (j := 0) dX3_seated_27 rfl rfl ?_
        obtain ⟨_, _, hLr7, -⟩ := hB6.2.2.2.2.1 i hi4
        refine cc_getN (v := .int (nI (S.2.1 i).2.1.length)) hLr7.2.1 cc_c1 10 (by decide) fn_X3_53 rfl dX3_seated_28 ?_
        refine cc_icmp_ge (tgt := 43) dX3_seated_31 (by decide) (fun c_31 => ?_) (fun c_31 => ?_)
        · refine cc_bipush (v := (-5)) dX3_seated_43 (by decide) ?_
          refine cc_iret rfl rfl dX3_seated_45 ?_
          have e : C_seated (nI i) x2 (S, sn, hi, t) = (-5) := by
            unfold C_seated
            rw [if_pos (cc_pt hi4), C_i_n (by omega)]
            dsimp only
            rw [if_neg hx0, if_neg (Int32.not_lt.mpr c_31)]
          rw [e]
          exact ⟨_, rfl, rfl, hI⟩
        · have hxl : x2 < nI (S.2.1 i).2.1.length := Int32.not_le.mp c_31
          refine cc_aload_n (j := 0) dX3_seated_34 rfl rfl ?_
          obtain ⟨_, _, hLr8, -⟩ := hB6.2.2.2.2.1 i hi4
          refine cc_getN (v := .ref (h + 1 + 3 + 7 * i + 1)) hLr8.2.1 cc_c1 9 (by decide) fn_X3_135 rfl dX3_seated_35 ?_
          obtain ⟨fL, gL, hL, hfL, hgL, h8L, h6L⟩ := hB6.2.2.2.2.1 i hi4
          refine cc_iload_n (j := 3) dX3_seated_38 rfl rfl ?_
          refine cc_iald (x := fL x2.toNatClampNeg) hL.2.2.1 (cc_inl hx0 hxl (nI_le h8L (by decide))) rfl dX3_seated_39 ?_
          refine cc_goto (tgt := 45) dX3_seated_40 (by decide) ?_
          refine cc_iret rfl rfl dX3_seated_45 ?_
          have e : C_seated (nI i) x2 (S, sn, hi, t) = (S.2.1 i).2.1.getD (C_i x2) 0 := by
            unfold C_seated
            rw [if_pos (cc_pt hi4), C_i_n (by omega)]
            dsimp only
            rw [if_neg hx0, if_pos hxl]
          rw [e]
          refine ⟨_, rfl, ?_, hI⟩
          rw [ar_at hfL (cc_inn hx0 hxl (Nat.lt_of_le_of_lt h8L (by decide)))]
          rfl
      · have hxn : x2 < 0 := Int32.not_le.mp c_10
        refine cc_bipush (v := (-2)) dX3_seated_13 (by decide) ?_
        refine cc_iret rfl rfl dX3_seated_15 ?_
        have e : C_seated (nI i) x2 (S, sn, hi, t) = (-2) := by
          unfold C_seated
          rw [if_pos (cc_pt hi4), C_i_n (by omega)]
          dsimp only
          rw [if_pos hxn]
        rw [e]
        exact ⟨_, rfl, rfl, hI⟩
    · exact absurd c_4 (by decide)
  · refine cc_iload_n (j := 1) dX3_seated_0 rfl rfl ?_
    refine cc_callSi (As := [.int x1]) (rest := []) (ct_X3_isPort cy z _ x1) ok_X3_isPort st_X3_isPort ml_X3_41 nd_X3_isPort (by decide +kernel) (Nat.le_of_ble_eq_true rfl) rfl dX3_seated_1 (fun r10 G9 q11 => ?_)
    obtain ⟨rfl, rfl⟩ := q11
    rw [if_neg hx]
    refine cc_if_ne (tgt := 9) dX3_seated_4 (by decide) (fun c_4_1 => ?_) (fun c_4_1 => ?_)
    · exact absurd c_4_1 (by decide)
    · refine cc_iconst (v := (-1)) dX3_seated_7 (by decide) ?_
      refine cc_iret rfl rfl dX3_seated_8 ?_
      have e : C_seated x1 x2 (S, sn, hi, t) = (-1) := by
        unfold C_seated
        
        rw [if_neg hx]
      rw [e]
      exact ⟨_, rfl, rfl, hI⟩

set_option maxHeartbeats 4000000 in
set_option maxRecDepth 100000 in
theorem ct_X3_onTheWay (cy : Nat → ClassId) (z : Nat) (G : cc_G) (h : Nat) (c : CS_) (x1 x2 : Int32)  (hI : ca_I cy G G h c) : cc_Cn cy Y_X3_onTheWay [.ref h, .int x1, .int x2] z G (cc_qi (fun r G' => r = C_onTheWay x1 x2 c ∧ ca_I cy G G' h c)) := by
  obtain ⟨S, sn, hi, t⟩ := c
  refine cc_enter ok_X3_onTheWay (Nat.le_of_ble_eq_true rfl) (ls := [(0, .ref h), (1, .int x1), (2, .int x2)]) rfl ?_
  rcases cc_port x1 with ⟨i, hi4, rfl⟩ | hx
  · refine cc_iload_n (j := 1) dX3_onTheWay_0 rfl rfl ?_
    refine cc_callSi (As := [.int (nI i)]) (rest := []) (ct_X3_isPort cy z _ (nI i)) ok_X3_isPort st_X3_isPort ml_X3_41 nd_X3_isPort (by decide +kernel) (Nat.le_of_ble_eq_true rfl) rfl dX3_onTheWay_1 (fun r2 G1 q3 => ?_)
    obtain ⟨rfl, rfl⟩ := q3
    rw [if_pos (cc_pt hi4)]
    refine cc_if_ne (tgt := 9) dX3_onTheWay_4 (by decide) (fun c_4 => ?_) (fun c_4 => ?_)
    · refine cc_iload_n (j := 2) dX3_onTheWay_9 rfl rfl ?_
      refine cc_if_ge (tgt := 16) dX3_onTheWay_10 (by decide) (fun c_10 => ?_) (fun c_10 => ?_)
      · have hx0 : ¬ x2 < 0 := Int32.not_lt.mpr c_10
        refine cc_aload_n (j := 0) dX3_onTheWay_16 rfl rfl ?_
        obtain ⟨hs4, hO5⟩ := hI.obj
        refine cc_get (v := .ref (h + 1)) hO5 cc_c3 0 (by decide) fl_X3_10 rfl dX3_onTheWay_17 ?_
        obtain ⟨_, hB6⟩ := hI.box0
        refine cc_getN (v := .ref (h + 1 + 1)) hB6.2.1 cc_c0 4 (by decide) fn_X3_49 rfl dX3_onTheWay_20 ?_
        refine cc_iload_n (j := 1) dX3_onTheWay_23 rfl rfl ?_
        refine cc_aald4 (x := h + 1 + 3 + 7 * i) hB6.2.2.1 (vp_in_nI (n := i) (by omega) (by decide)) (by rw [(nI_clamp (by omega))]; rfl) dX3_onTheWay_24 ?_
        refine cc_astore_n (ls' := [(3, .ref (h + 1 + 3 + 7 * i)), (0, .ref h), (1, .int (nI i)), (2, .int x2)]) dX3_onTheWay_25 rfl (Nat.le_of_ble_eq_true rfl) rfl ?_
        refine cc_iload_n (j := 3) dX3_onTheWay_26 rfl rfl ?_
        refine cc_aload_n (j := 0) dX3_onTheWay_27 rfl rfl ?_
        obtain ⟨_, _, hLr7, -⟩ := hB6.2.2.2.2.1 i hi4
        refine cc_getN (v := .int (nI (S.2.1 i).2.2.length)) hLr7.2.1 cc_c1 12 (by decide) fn_X3_111 rfl dX3_onTheWay_28 ?_
        refine cc_icmp_ge (tgt := 53) dX3_onTheWay_31 (by decide) (fun c_31 => ?_) (fun c_31 => ?_)
        · refine cc_bipush (v := (-5)) dX3_onTheWay_53 (by decide) ?_
          refine cc_iret rfl rfl dX3_onTheWay_55 ?_
          have e : C_onTheWay (nI i) x2 (S, sn, hi, t) = (-5) := by
            unfold C_onTheWay
            rw [if_pos (cc_pt hi4), C_i_n (by omega)]
            dsimp only
            rw [if_neg hx0, if_neg (Int32.not_lt.mpr c_31)]
          rw [e]
          exact ⟨_, rfl, rfl, hI⟩
        · have hxl : x2 < nI (S.2.1 i).2.2.length := Int32.not_le.mp c_31
          refine cc_aload_n (j := 0) dX3_onTheWay_34 rfl rfl ?_
          obtain ⟨_, _, hLr8, -⟩ := hB6.2.2.2.2.1 i hi4
          refine cc_getN (v := .ref (h + 1 + 3 + 7 * i + 2)) hLr8.2.1 cc_c1 11 (by decide) fn_X3_139 rfl dX3_onTheWay_35 ?_
          obtain ⟨fL, gL, hL, hfL, hgL, h8L, h6L⟩ := hB6.2.2.2.2.1 i hi4
          refine cc_iload_n (j := 3) dX3_onTheWay_38 rfl rfl ?_
          refine cc_iald (x := gL x2.toNatClampNeg) hL.2.2.2 (cc_inl hx0 hxl (nI_le h6L (by decide))) rfl dX3_onTheWay_39 ?_
          refine cc_aload_n (j := 1) dX3_onTheWay_40 rfl rfl ?_
          refine cc_get (v := .ref (h + 1)) hO5 cc_c3 0 (by decide) fl_X3_10 rfl dX3_onTheWay_41 ?_
          refine cc_getN (v := .int (S.1 0)) hB6.2.1 cc_c0 0 (by decide) fn_X3_105 rfl dX3_onTheWay_44 ?_
          refine cc_isub dX3_onTheWay_47 ?_
          refine cc_iconst (v := 1) dX3_onTheWay_48 (by decide) ?_
          refine cc_iadd dX3_onTheWay_49 ?_
          refine cc_goto (tgt := 55) dX3_onTheWay_50 (by decide) ?_
          refine cc_iret rfl rfl dX3_onTheWay_55 ?_
          have e : C_onTheWay (nI i) x2 (S, sn, hi, t) = (S.2.1 i).2.2.getD (C_i x2) 0 - S.1 0 + 1 := by
            unfold C_onTheWay
            rw [if_pos (cc_pt hi4), C_i_n (by omega)]
            dsimp only
            rw [if_neg hx0, if_pos hxl]
          rw [e]
          refine ⟨_, rfl, ?_, hI⟩
          rw [ar_at hgL (cc_inn hx0 hxl (Nat.lt_of_le_of_lt h6L (by decide)))]
          rfl
      · have hxn : x2 < 0 := Int32.not_le.mp c_10
        refine cc_bipush (v := (-2)) dX3_onTheWay_13 (by decide) ?_
        refine cc_iret rfl rfl dX3_onTheWay_15 ?_
        have e : C_onTheWay (nI i) x2 (S, sn, hi, t) = (-2) := by
          unfold C_onTheWay
          rw [if_pos (cc_pt hi4), C_i_n (by omega)]
          dsimp only
          rw [if_pos hxn]
        rw [e]
        exact ⟨_, rfl, rfl, hI⟩
    · exact absurd c_4 (by decide)
  · refine cc_iload_n (j := 1) dX3_onTheWay_0 rfl rfl ?_
    refine cc_callSi (As := [.int x1]) (rest := []) (ct_X3_isPort cy z _ x1) ok_X3_isPort st_X3_isPort ml_X3_41 nd_X3_isPort (by decide +kernel) (Nat.le_of_ble_eq_true rfl) rfl dX3_onTheWay_1 (fun r10 G9 q11 => ?_)
    obtain ⟨rfl, rfl⟩ := q11
    rw [if_neg hx]
    refine cc_if_ne (tgt := 9) dX3_onTheWay_4 (by decide) (fun c_4_1 => ?_) (fun c_4_1 => ?_)
    · exact absurd c_4_1 (by decide)
    · refine cc_iconst (v := (-1)) dX3_onTheWay_7 (by decide) ?_
      refine cc_iret rfl rfl dX3_onTheWay_8 ?_
      have e : C_onTheWay x1 x2 (S, sn, hi, t) = (-1) := by
        unfold C_onTheWay
        
        rw [if_neg hx]
      rw [e]
      exact ⟨_, rfl, rfl, hI⟩

set_option maxHeartbeats 4000000 in
set_option maxRecDepth 100000 in
theorem ct_X3_input (cy : Nat → ClassId) (z : Nat) (G : cc_G) (h : Nat) (c : CS_) (x1 x2 : Int32)  (hI : ca_I cy G G h c) : cc_Cn cy Y_X3_input [.ref h, .int x1, .int x2] z G (cc_qi (fun r G' => r = C_input x1 x2 c ∧ ca_I cy G G' h c)) := by
  obtain ⟨S, sn, hi, t⟩ := c
  refine cc_enter ok_X3_input (Nat.le_of_ble_eq_true rfl) (ls := [(0, .ref h), (1, .int x1), (2, .int x2)]) rfl ?_
  rcases cc_port x1 with ⟨i, hi4, rfl⟩ | hx
  · refine cc_iload_n (j := 1) dX3_input_0 rfl rfl ?_
    refine cc_callSi (As := [.int (nI i)]) (rest := []) (ct_X3_isPort cy z _ (nI i)) ok_X3_isPort st_X3_isPort ml_X3_41 nd_X3_isPort (by decide +kernel) (Nat.le_of_ble_eq_true rfl) rfl dX3_input_1 (fun r2 G1 q3 => ?_)
    obtain ⟨rfl, rfl⟩ := q3
    rw [if_pos (cc_pt hi4)]
    refine cc_if_ne (tgt := 9) dX3_input_4 (by decide) (fun c_4 => ?_) (fun c_4 => ?_)
    · refine cc_aload_n (j := 0) dX3_input_9 rfl rfl ?_
      obtain ⟨hs4, hO5⟩ := hI.obj
      refine cc_get (v := .ref (h + 1)) hO5 cc_c3 0 (by decide) fl_X3_10 rfl dX3_input_10 ?_
      obtain ⟨_, hB6⟩ := hI.box0
      refine cc_getN (v := .ref (h + 1 + 2)) hB6.2.1 cc_c0 5 (by decide) fn_X3_77 rfl dX3_input_13 ?_
      refine cc_iload_n (j := 1) dX3_input_16 rfl rfl ?_
      refine cc_aald5 (x := h + 1 + 6 + 7 * i) hB6.2.2.2.1 (vp_in_nI (n := i) (by omega) (by decide)) (by rw [(nI_clamp (by omega))]; rfl) dX3_input_17 ?_
      refine cc_iload_n (j := 2) dX3_input_18 rfl rfl ?_
      obtain ⟨m1, m2, m3, hQ, hAq, h8q⟩ := hB6.2.2.2.2.2 i hi4
      refine cc_callNi (As := [.int x2]) (rest := []) (ct_X2_figure cy z _ _ _ _ _ _ _ _ _ x2 hQ) ok_X2_figure (hQ.2.1) rfl im_X2_figure sl_X2_figure mn_X3_142 nd_X2_figure (by decide +kernel) (Nat.le_of_ble_eq_true rfl) rfl dX3_input_19 (fun r8 G7 q9 => ?_)
      obtain ⟨hr, rfl⟩ := q9
      have hr : r8 = Q_fig x2 (S.2.2 i) := hr.trans (Q_fig_eq hAq h8q x2)
      subst hr
      refine cc_iret rfl rfl dX3_input_22 ?_
      have e : C_input (nI i) x2 (S, sn, hi, t) = Q_fig x2 (S.2.2 i) := by
        unfold C_input
        rw [if_pos (cc_pt hi4), C_i_n (by omega)]
        
      rw [e]
      exact ⟨_, rfl, rfl, hI⟩
    · exact absurd c_4 (by decide)
  · refine cc_iload_n (j := 1) dX3_input_0 rfl rfl ?_
    refine cc_callSi (As := [.int x1]) (rest := []) (ct_X3_isPort cy z _ x1) ok_X3_isPort st_X3_isPort ml_X3_41 nd_X3_isPort (by decide +kernel) (Nat.le_of_ble_eq_true rfl) rfl dX3_input_1 (fun r11 G10 q12 => ?_)
    obtain ⟨rfl, rfl⟩ := q12
    rw [if_neg hx]
    refine cc_if_ne (tgt := 9) dX3_input_4 (by decide) (fun c_4_1 => ?_) (fun c_4_1 => ?_)
    · exact absurd c_4_1 (by decide)
    · refine cc_iconst (v := (-1)) dX3_input_7 (by decide) ?_
      refine cc_iret rfl rfl dX3_input_8 ?_
      have e : C_input x1 x2 (S, sn, hi, t) = (-1) := by
        unfold C_input
        
        rw [if_neg hx]
      rw [e]
      exact ⟨_, rfl, rfl, hI⟩

set_option maxHeartbeats 4000000 in
set_option maxRecDepth 100000 in
theorem ct_X3_packet (cy : Nat → ClassId) (z : Nat) (G : cc_G) (h : Nat) (c : CS_) (x1 x2 x3 : Int32)  (hI : ca_I cy G G h c) : cc_Cn cy Y_X3_packet [.ref h, .int x1, .int x2, .int x3] z G (cc_qi (fun r G' => r = C_packet x1 x2 x3 c ∧ ca_I cy G G' h c)) := by
  obtain ⟨S, sn, hi, t⟩ := c
  refine cc_enter ok_X3_packet (Nat.le_of_ble_eq_true rfl) (ls := [(0, .ref h), (1, .int x1), (2, .int x2), (3, .int x3)]) rfl ?_
  rcases cc_port x1 with ⟨i, hi4, rfl⟩ | hx
  · refine cc_iload_n (j := 1) dX3_packet_0 rfl rfl ?_
    refine cc_callSi (As := [.int (nI i)]) (rest := []) (ct_X3_isPort cy z _ (nI i)) ok_X3_isPort st_X3_isPort ml_X3_41 nd_X3_isPort (by decide +kernel) (Nat.le_of_ble_eq_true rfl) rfl dX3_packet_1 (fun r2 G1 q3 => ?_)
    obtain ⟨rfl, rfl⟩ := q3
    rw [if_pos (cc_pt hi4)]
    refine cc_if_ne (tgt := 9) dX3_packet_4 (by decide) (fun c_4 => ?_) (fun c_4 => ?_)
    · refine cc_iload_n (j := 2) dX3_packet_9 rfl rfl ?_
      refine cc_if_lt (tgt := 22) dX3_packet_10 (by decide) (fun c_10 => ?_) (fun c_10 => ?_)
      · refine cc_bipush (v := (-2)) dX3_packet_22 (by decide) ?_
        refine cc_iret rfl rfl dX3_packet_24 ?_
        have e : C_packet (nI i) x2 x3 (S, sn, hi, t) = (-2) := by
          unfold C_packet
          rw [if_pos (cc_pt hi4), C_i_n (by omega)]
          dsimp only
          rw [if_pos (Or.inl c_10)]
        rw [e]
        exact ⟨_, rfl, rfl, hI⟩
      · have hx0 : ¬ x2 < 0 := c_10
        refine cc_iload_n (j := 3) dX3_packet_13 rfl rfl ?_
        refine cc_if_lt (tgt := 22) dX3_packet_14 (by decide) (fun c_14 => ?_) (fun c_14 => ?_)
        · refine cc_bipush (v := (-2)) dX3_packet_22 (by decide) ?_
          refine cc_iret rfl rfl dX3_packet_24 ?_
          have e : C_packet (nI i) x2 x3 (S, sn, hi, t) = (-2) := by
            unfold C_packet
            rw [if_pos (cc_pt hi4), C_i_n (by omega)]
            dsimp only
            rw [if_pos (Or.inr (Or.inl c_14))]
          rw [e]
          exact ⟨_, rfl, rfl, hI⟩
        · refine cc_iload_n (j := 3) dX3_packet_17 rfl rfl ?_
          refine cc_iconst (v := 2) dX3_packet_18 (by decide) ?_
          refine cc_icmp_le (tgt := 25) dX3_packet_19 (by decide) (fun c_19 => ?_) (fun c_19 => ?_)
          · refine cc_aload_n (j := 0) dX3_packet_25 rfl rfl ?_
            obtain ⟨hs4, hO5⟩ := hI.obj
            refine cc_get (v := .ref (h + 1)) hO5 cc_c3 0 (by decide) fl_X3_10 rfl dX3_packet_26 ?_
            obtain ⟨_, hB6⟩ := hI.box0
            refine cc_getN (v := .ref (h + 1 + 2)) hB6.2.1 cc_c0 5 (by decide) fn_X3_77 rfl dX3_packet_29 ?_
            refine cc_iload_n (j := 1) dX3_packet_32 rfl rfl ?_
            refine cc_aald5 (x := h + 1 + 6 + 7 * i) hB6.2.2.2.1 (vp_in_nI (n := i) (by omega) (by decide)) (by rw [(nI_clamp (by omega))]; rfl) dX3_packet_33 ?_
            refine cc_iload_n (j := 2) dX3_packet_34 rfl rfl ?_
            refine cc_iload_n (j := 3) dX3_packet_35 rfl rfl ?_
            obtain ⟨m1, m2, m3, hQ, hAq, h8q⟩ := hB6.2.2.2.2.2 i hi4
            refine cc_callNi (As := [.int x2, .int x3]) (rest := []) (ct_X2_packetFigure cy z _ _ _ _ _ _ _ _ _ x2 x3 hx0 (nI_le h8q (by decide)) hQ) ok_X2_packetFigure (hQ.2.1) rfl im_X2_packetFigure sl_X2_packetFigure mn_X3_143 nd_X2_packetFigure (by decide +kernel) (Nat.le_of_ble_eq_true rfl) rfl dX3_packet_36 (fun r8 G7 q9 => ?_)
            obtain ⟨hr, rfl⟩ := q9
            refine cc_iret rfl rfl dX3_packet_39 ?_
            have e : C_packet (nI i) x2 x3 (S, sn, hi, t) = r8 := by
              rw [hr]
              unfold C_packet
              rw [if_pos (cc_pt hi4), C_i_n (by omega)]
              dsimp only
              rw [if_neg (fun h => h.elim hx0 (fun h => h.elim c_14 (fun q => absurd c_19 (Int32.not_le.mpr q))))]
              by_cases hle : nI (S.2.2 i).2.2.length ≤ x2
              · rw [if_pos hle, if_pos hle]
              · have hx := cc_inn hx0 (Int32.not_le.mp hle) (Nat.lt_of_le_of_lt h8q (by decide))
                have ha := qu_at hAq hx
                rw [if_neg hle, if_neg hle]
                show (if x3 = 0 then _ else if x3 = 1 then _ else _) = (if x3 = 0 then m1 _ else if x3 = 1 then m2 _ else m3 _)
                rw [ha.1, ha.2.1, ha.2.2]
                rfl
            rw [e]
            exact ⟨_, rfl, rfl, hI⟩
          · refine cc_bipush (v := (-2)) dX3_packet_22 (by decide) ?_
            refine cc_iret rfl rfl dX3_packet_24 ?_
            have e : C_packet (nI i) x2 x3 (S, sn, hi, t) = (-2) := by
              unfold C_packet
              rw [if_pos (cc_pt hi4), C_i_n (by omega)]
              dsimp only
              rw [if_pos (Or.inr (Or.inr (Int32.not_le.mp c_19)))]
            rw [e]
            exact ⟨_, rfl, rfl, hI⟩
    · exact absurd c_4 (by decide)
  · refine cc_iload_n (j := 1) dX3_packet_0 rfl rfl ?_
    refine cc_callSi (As := [.int x1]) (rest := []) (ct_X3_isPort cy z _ x1) ok_X3_isPort st_X3_isPort ml_X3_41 nd_X3_isPort (by decide +kernel) (Nat.le_of_ble_eq_true rfl) rfl dX3_packet_1 (fun r11 G10 q12 => ?_)
    obtain ⟨rfl, rfl⟩ := q12
    rw [if_neg hx]
    refine cc_if_ne (tgt := 9) dX3_packet_4 (by decide) (fun c_4_1 => ?_) (fun c_4_1 => ?_)
    · exact absurd c_4_1 (by decide)
    · refine cc_iconst (v := (-1)) dX3_packet_7 (by decide) ?_
      refine cc_iret rfl rfl dX3_packet_8 ?_
      have e : C_packet x1 x2 x3 (S, sn, hi, t) = (-1) := by
        unfold C_packet
        
        rw [if_neg hx]
      rw [e]
      exact ⟨_, rfl, rfl, hI⟩

set_option maxHeartbeats 4000000 in
set_option maxRecDepth 100000 in
theorem ct_X3_count (cy : Nat → ClassId) (z : Nat) (G : cc_G) (h : Nat) (c : CS_) (x1 : Int32)  (hI : ca_I cy G G h c) : cc_Cn cy Y_X3_count [.ref h, .int x1] z G (cc_qi (fun r G' => r = C_count x1 c ∧ ca_I cy G G' h c)) := by
  obtain ⟨S, sn, hi, t⟩ := c
  refine cc_enter ok_X3_count (Nat.le_of_ble_eq_true rfl) (ls := [(0, .ref h), (1, .int x1)]) rfl ?_
  refine cc_iload_n (j := 1) dX3_count_0 rfl rfl ?_
  refine cc_bipush (v := 11) dX3_count_1 (by decide) ?_
  refine cc_icmp_ne (tgt := 11) dX3_count_3 (by decide) (fun c_3 => ?_) (fun c_3 => ?_)
  · refine cc_iload_n (j := 1) dX3_count_11 rfl rfl ?_
    refine cc_bipush (v := 12) dX3_count_12 (by decide) ?_
    refine cc_icmp_ne (tgt := 22) dX3_count_14 (by decide) (fun c_14 => ?_) (fun c_14 => ?_)
    · refine cc_aload_n (j := 0) dX3_count_22 rfl rfl ?_
      obtain ⟨hs1, hO2⟩ := hI.obj
      refine cc_get (v := .ref (h + 1)) hO2 cc_c3 0 (by decide) fl_X3_10 rfl dX3_count_23 ?_
      refine cc_iload_n (j := 1) dX3_count_26 rfl rfl ?_
      obtain ⟨_, hB3⟩ := hI.box0
      refine cc_callNi (As := [.int x1]) (rest := []) (ct_X0_figure cy z _ _ S x1 ⟨_, hB3⟩) ok_X0_figure (hB3.2.1) rfl im_X0_figure sl_X0_figure mn_X3_164 nd_X0_figure (by decide +kernel) (Nat.le_of_ble_eq_true rfl) rfl dX3_count_27 (fun r5 G4 q6 => ?_)
      obtain ⟨rfl, rfl⟩ := q6
      refine cc_iret rfl rfl dX3_count_30 ?_
      have e : C_count x1 (S, sn, hi, t) = B_fig x1 S := by
        unfold C_count
        
        rw [if_neg c_3, if_neg c_14]
      rw [e]
      exact ⟨_, rfl, rfl, hI⟩
    · refine cc_aload_n (j := 0) dX3_count_17 rfl rfl ?_
      obtain ⟨hs7, hO8⟩ := hI.obj
      refine cc_get (v := .int (nI t.length)) hO8 cc_c3 7 (by decide) fl_X3_38 rfl dX3_count_18 ?_
      refine cc_iret rfl rfl dX3_count_21 ?_
      have e : C_count x1 (S, sn, hi, t) = nI t.length := by
        unfold C_count
        
        rw [if_neg c_3, if_pos c_14]
      rw [e]
      exact ⟨_, rfl, rfl, hI⟩
  · refine cc_aload_n (j := 0) dX3_count_6 rfl rfl ?_
    obtain ⟨hs9, hO10⟩ := hI.obj
    refine cc_get (v := .int (nI hi.length)) hO10 cc_c3 5 (by decide) fl_X3_30 rfl dX3_count_7 ?_
    refine cc_iret rfl rfl dX3_count_10 ?_
    have e : C_count x1 (S, sn, hi, t) = nI hi.length := by
      unfold C_count
      
      rw [if_pos c_3]
    rw [e]
    exact ⟨_, rfl, rfl, hI⟩
end
