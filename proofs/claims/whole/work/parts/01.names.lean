/-- the name that the tables give the method of their row 221 -/
def lw_nm : String := match tables_1[221]? with
  | some (Cond.instanceMethod y) => y.name
  | _ => ""
-- ===== PART A: goes FIRST, ahead of the names: the tables' words, and 'selects' of the private methods out of them =====
/-- a private method of a class that the tables say can be made, by its rows of tables_1 -/
def lw_okq (q : MethodName × Nat) : Prop := (q.1.cls ≠ "java/lang/invoke/MethodHandle" ∧ q.1.cls ≠ "java/lang/invoke/VarHandle") ∧ Cond.instantiable q.1.cls q.2 ∈ tables_1 ∧ Cond.privateMethod q.1 ∈ tables_1 ∧ Cond.instanceMethod q.1 ∈ tables_1
theorem lw_p0 : lw_okq (⟨"ChairCredits$Lane", "setting", "(I)I"⟩, 13) := ⟨⟨by decide +kernel, by decide +kernel⟩, List.mem_of_getElem? (i := 26) (by decide +kernel), List.mem_of_getElem? (i := 172) (by decide +kernel), List.mem_of_getElem? (i := 173) (by decide +kernel)⟩
theorem lw_p1 : lw_okq (⟨"ChairCredits", "remember", "()V"⟩, 8) := ⟨⟨by decide +kernel, by decide +kernel⟩, List.mem_of_getElem? (i := 9) (by decide +kernel), List.mem_of_getElem? (i := 176) (by decide +kernel), List.mem_of_getElem? (i := 177) (by decide +kernel)⟩
theorem lw_p2 : lw_okq (⟨"ChairCredits", "dropOldest", "()V"⟩, 8) := ⟨⟨by decide +kernel, by decide +kernel⟩, List.mem_of_getElem? (i := 9) (by decide +kernel), List.mem_of_getElem? (i := 180) (by decide +kernel), List.mem_of_getElem? (i := 181) (by decide +kernel)⟩
theorem lw_p3 : lw_okq (⟨"ChairCredits$Box", "copyFrom", "(LChairCredits$Box;)V"⟩, 6) := ⟨⟨by decide +kernel, by decide +kernel⟩, List.mem_of_getElem? (i := 17) (by decide +kernel), List.mem_of_getElem? (i := 184) (by decide +kernel), List.mem_of_getElem? (i := 185) (by decide +kernel)⟩
theorem lw_p4 : lw_okq (⟨"ChairCredits$Lane", "copyFrom", "(LChairCredits$Lane;)V"⟩, 13) := ⟨⟨by decide +kernel, by decide +kernel⟩, List.mem_of_getElem? (i := 26) (by decide +kernel), List.mem_of_getElem? (i := 188) (by decide +kernel), List.mem_of_getElem? (i := 189) (by decide +kernel)⟩
theorem lw_p5 : lw_okq (⟨"ChairCredits$Queue", "copyFrom", "(LChairCredits$Queue;)V"⟩, 7) := ⟨⟨by decide +kernel, by decide +kernel⟩, List.mem_of_getElem? (i := 79) (by decide +kernel), List.mem_of_getElem? (i := 195) (by decide +kernel), List.mem_of_getElem? (i := 196) (by decide +kernel)⟩
theorem lw_p6 : lw_okq (⟨"ChairCredits$Lane", "change", "(II)V"⟩, 13) := ⟨⟨by decide +kernel, by decide +kernel⟩, List.mem_of_getElem? (i := 26) (by decide +kernel), List.mem_of_getElem? (i := 200) (by decide +kernel), List.mem_of_getElem? (i := 201) (by decide +kernel)⟩
theorem lw_p7 : lw_okq (⟨"ChairCredits$Box", "hasRoom", "(II)Z"⟩, 6) := ⟨⟨by decide +kernel, by decide +kernel⟩, List.mem_of_getElem? (i := 17) (by decide +kernel), List.mem_of_getElem? (i := 215) (by decide +kernel), List.mem_of_getElem? (i := 216) (by decide +kernel)⟩
theorem lw_p8 : lw_okq (⟨"ChairCredits$Box", lw_nm, "(II)I"⟩, 6) := ⟨⟨by decide +kernel, by decide +kernel⟩, List.mem_of_getElem? (i := 17) (by decide +kernel), List.mem_of_getElem? (i := 220) (by decide +kernel), List.mem_of_getElem? (i := 221) (by decide +kernel)⟩
theorem lw_p9 : lw_okq (⟨"ChairCredits$Queue", "append", "(III)V"⟩, 7) := ⟨⟨by decide +kernel, by decide +kernel⟩, List.mem_of_getElem? (i := 79) (by decide +kernel), List.mem_of_getElem? (i := 224) (by decide +kernel), List.mem_of_getElem? (i := 225) (by decide +kernel)⟩
theorem lw_p10 : lw_okq (⟨"ChairCredits", "faultOfText", "()I"⟩, 8) := ⟨⟨by decide +kernel, by decide +kernel⟩, List.mem_of_getElem? (i := 9) (by decide +kernel), List.mem_of_getElem? (i := 232) (by decide +kernel), List.mem_of_getElem? (i := 233) (by decide +kernel)⟩
theorem lw_p11 : lw_okq (⟨"ChairCredits", "admitTextToTrial", "()I"⟩, 8) := ⟨⟨by decide +kernel, by decide +kernel⟩, List.mem_of_getElem? (i := 9) (by decide +kernel), List.mem_of_getElem? (i := 239) (by decide +kernel), List.mem_of_getElem? (i := 240) (by decide +kernel)⟩
theorem lw_p12 : lw_okq (⟨"ChairCredits", "tellsTimes", "(I)Z"⟩, 8) := ⟨⟨by decide +kernel, by decide +kernel⟩, List.mem_of_getElem? (i := 9) (by decide +kernel), List.mem_of_getElem? (i := 243) (by decide +kernel), List.mem_of_getElem? (i := 244) (by decide +kernel)⟩
theorem lw_p13 : lw_okq (⟨"ChairCredits$Box", "passTicks", "(I)I"⟩, 6) := ⟨⟨by decide +kernel, by decide +kernel⟩, List.mem_of_getElem? (i := 17) (by decide +kernel), List.mem_of_getElem? (i := 254) (by decide +kernel), List.mem_of_getElem? (i := 255) (by decide +kernel)⟩
theorem lw_p14 : lw_okq (⟨"ChairCredits$Box", "passTick", "()I"⟩, 6) := ⟨⟨by decide +kernel, by decide +kernel⟩, List.mem_of_getElem? (i := 17) (by decide +kernel), List.mem_of_getElem? (i := 258) (by decide +kernel), List.mem_of_getElem? (i := 259) (by decide +kernel)⟩
theorem lw_p15 : lw_okq (⟨"ChairCredits$Box", "beginTick", "()V"⟩, 6) := ⟨⟨by decide +kernel, by decide +kernel⟩, List.mem_of_getElem? (i := 17) (by decide +kernel), List.mem_of_getElem? (i := 262) (by decide +kernel), List.mem_of_getElem? (i := 263) (by decide +kernel)⟩
def lw_privs_1 : List (MethodName × Nat) := [(⟨"ChairCredits$Lane", "setting", "(I)I"⟩, 13), (⟨"ChairCredits", "remember", "()V"⟩, 8), (⟨"ChairCredits", "dropOldest", "()V"⟩, 8), (⟨"ChairCredits$Box", "copyFrom", "(LChairCredits$Box;)V"⟩, 6), (⟨"ChairCredits$Lane", "copyFrom", "(LChairCredits$Lane;)V"⟩, 13), (⟨"ChairCredits$Queue", "copyFrom", "(LChairCredits$Queue;)V"⟩, 7), (⟨"ChairCredits$Lane", "change", "(II)V"⟩, 13), (⟨"ChairCredits$Box", "hasRoom", "(II)Z"⟩, 6), (⟨"ChairCredits$Box", lw_nm, "(II)I"⟩, 6), (⟨"ChairCredits$Queue", "append", "(III)V"⟩, 7), (⟨"ChairCredits", "faultOfText", "()I"⟩, 8), (⟨"ChairCredits", "admitTextToTrial", "()I"⟩, 8), (⟨"ChairCredits", "tellsTimes", "(I)Z"⟩, 8), (⟨"ChairCredits$Box", "passTicks", "(I)I"⟩, 6), (⟨"ChairCredits$Box", "passTick", "()I"⟩, 6), (⟨"ChairCredits$Box", "beginTick", "()V"⟩, 6)]
theorem lw_r1 : ∀ q ∈ lw_privs_1, lw_okq q := List.forall_mem_cons.mpr ⟨lw_p0, List.forall_mem_cons.mpr ⟨lw_p1, List.forall_mem_cons.mpr ⟨lw_p2, List.forall_mem_cons.mpr ⟨lw_p3, List.forall_mem_cons.mpr ⟨lw_p4, List.forall_mem_cons.mpr ⟨lw_p5, List.forall_mem_cons.mpr ⟨lw_p6, List.forall_mem_cons.mpr ⟨lw_p7, List.forall_mem_cons.mpr ⟨lw_p8, List.forall_mem_cons.mpr ⟨lw_p9, List.forall_mem_cons.mpr ⟨lw_p10, List.forall_mem_cons.mpr ⟨lw_p11, List.forall_mem_cons.mpr ⟨lw_p12, List.forall_mem_cons.mpr ⟨lw_p13, List.forall_mem_cons.mpr ⟨lw_p14, List.forall_mem_cons.mpr ⟨lw_p15, fun _ h => absurd h List.not_mem_nil⟩⟩⟩⟩⟩⟩⟩⟩⟩⟩⟩⟩⟩⟩⟩⟩
theorem lw_p16 : lw_okq (⟨"ChairCredits$Lane", "letCreditsCome", "(I)V"⟩, 13) := ⟨⟨by decide +kernel, by decide +kernel⟩, List.mem_of_getElem? (i := 26) (by decide +kernel), List.mem_of_getElem? (i := 266) (by decide +kernel), List.mem_of_getElem? (i := 267) (by decide +kernel)⟩
theorem lw_p17 : lw_okq (⟨"ChairCredits$Lane", "creditComes", "(I)Z"⟩, 13) := ⟨⟨by decide +kernel, by decide +kernel⟩, List.mem_of_getElem? (i := 26) (by decide +kernel), List.mem_of_getElem? (i := 270) (by decide +kernel), List.mem_of_getElem? (i := 271) (by decide +kernel)⟩
theorem lw_p18 : lw_okq (⟨"ChairCredits$Lane", "dropFirstOnTheWay", "()V"⟩, 13) := ⟨⟨by decide +kernel, by decide +kernel⟩, List.mem_of_getElem? (i := 26) (by decide +kernel), List.mem_of_getElem? (i := 274) (by decide +kernel), List.mem_of_getElem? (i := 275) (by decide +kernel)⟩
theorem lw_p19 : lw_okq (⟨"ChairCredits$Lane", "mend", "()V"⟩, 13) := ⟨⟨by decide +kernel, by decide +kernel⟩, List.mem_of_getElem? (i := 26) (by decide +kernel), List.mem_of_getElem? (i := 278) (by decide +kernel), List.mem_of_getElem? (i := 279) (by decide +kernel)⟩
theorem lw_p20 : lw_okq (⟨"ChairCredits$Lane", "missing", "()I"⟩, 13) := ⟨⟨by decide +kernel, by decide +kernel⟩, List.mem_of_getElem? (i := 26) (by decide +kernel), List.mem_of_getElem? (i := 282) (by decide +kernel), List.mem_of_getElem? (i := 283) (by decide +kernel)⟩
theorem lw_p21 : lw_okq (⟨"ChairCredits$Box", "sendTo", "(I)I"⟩, 6) := ⟨⟨by decide +kernel, by decide +kernel⟩, List.mem_of_getElem? (i := 17) (by decide +kernel), List.mem_of_getElem? (i := 286) (by decide +kernel), List.mem_of_getElem? (i := 287) (by decide +kernel)⟩
theorem lw_p22 : lw_okq (⟨"ChairCredits$Queue", "offerFor", "(II)I"⟩, 7) := ⟨⟨by decide +kernel, by decide +kernel⟩, List.mem_of_getElem? (i := 79) (by decide +kernel), List.mem_of_getElem? (i := 290) (by decide +kernel), List.mem_of_getElem? (i := 291) (by decide +kernel)⟩
theorem lw_p23 : lw_okq (⟨"ChairCredits$Queue", "sendFrom", "(I)I"⟩, 7) := ⟨⟨by decide +kernel, by decide +kernel⟩, List.mem_of_getElem? (i := 79) (by decide +kernel), List.mem_of_getElem? (i := 297) (by decide +kernel), List.mem_of_getElem? (i := 298) (by decide +kernel)⟩
theorem lw_p24 : lw_okq (⟨"ChairCredits$Lane", "receive", "(I)V"⟩, 13) := ⟨⟨by decide +kernel, by decide +kernel⟩, List.mem_of_getElem? (i := 26) (by decide +kernel), List.mem_of_getElem? (i := 301) (by decide +kernel), List.mem_of_getElem? (i := 302) (by decide +kernel)⟩
theorem lw_p25 : lw_okq (⟨"ChairCredits$Lane", "takeIfDue", "(I)V"⟩, 13) := ⟨⟨by decide +kernel, by decide +kernel⟩, List.mem_of_getElem? (i := 26) (by decide +kernel), List.mem_of_getElem? (i := 305) (by decide +kernel), List.mem_of_getElem? (i := 306) (by decide +kernel)⟩
theorem lw_p26 : lw_okq (⟨"ChairCredits$Lane", "sendCreditBack", "(I)V"⟩, 13) := ⟨⟨by decide +kernel, by decide +kernel⟩, List.mem_of_getElem? (i := 26) (by decide +kernel), List.mem_of_getElem? (i := 309) (by decide +kernel), List.mem_of_getElem? (i := 310) (by decide +kernel)⟩
theorem lw_p27 : lw_okq (⟨"ChairCredits$Queue", "countBlocked", "()V"⟩, 7) := ⟨⟨by decide +kernel, by decide +kernel⟩, List.mem_of_getElem? (i := 79) (by decide +kernel), List.mem_of_getElem? (i := 313) (by decide +kernel), List.mem_of_getElem? (i := 314) (by decide +kernel)⟩
theorem lw_p28 : lw_okq (⟨"ChairCredits$Lane", "loseFirst", "()V"⟩, 13) := ⟨⟨by decide +kernel, by decide +kernel⟩, List.mem_of_getElem? (i := 26) (by decide +kernel), List.mem_of_getElem? (i := 321) (by decide +kernel), List.mem_of_getElem? (i := 322) (by decide +kernel)⟩
theorem lw_p29 : lw_okq (⟨"ChairCredits$Box", "waitingFor", "(I)I"⟩, 6) := ⟨⟨by decide +kernel, by decide +kernel⟩, List.mem_of_getElem? (i := 17) (by decide +kernel), List.mem_of_getElem? (i := 359) (by decide +kernel), List.mem_of_getElem? (i := 360) (by decide +kernel)⟩
theorem lw_p30 : lw_okq (⟨"ChairCredits$Queue", "waitingFor", "(I)I"⟩, 7) := ⟨⟨by decide +kernel, by decide +kernel⟩, List.mem_of_getElem? (i := 79) (by decide +kernel), List.mem_of_getElem? (i := 363) (by decide +kernel), List.mem_of_getElem? (i := 364) (by decide +kernel)⟩
theorem lw_p31 : lw_okq (⟨"ChairCredits$Box", "isStuck", "(I)Z"⟩, 6) := ⟨⟨by decide +kernel, by decide +kernel⟩, List.mem_of_getElem? (i := 17) (by decide +kernel), List.mem_of_getElem? (i := 367) (by decide +kernel), List.mem_of_getElem? (i := 368) (by decide +kernel)⟩
def lw_privs_2 : List (MethodName × Nat) := [(⟨"ChairCredits$Lane", "letCreditsCome", "(I)V"⟩, 13), (⟨"ChairCredits$Lane", "creditComes", "(I)Z"⟩, 13), (⟨"ChairCredits$Lane", "dropFirstOnTheWay", "()V"⟩, 13), (⟨"ChairCredits$Lane", "mend", "()V"⟩, 13), (⟨"ChairCredits$Lane", "missing", "()I"⟩, 13), (⟨"ChairCredits$Box", "sendTo", "(I)I"⟩, 6), (⟨"ChairCredits$Queue", "offerFor", "(II)I"⟩, 7), (⟨"ChairCredits$Queue", "sendFrom", "(I)I"⟩, 7), (⟨"ChairCredits$Lane", "receive", "(I)V"⟩, 13), (⟨"ChairCredits$Lane", "takeIfDue", "(I)V"⟩, 13), (⟨"ChairCredits$Lane", "sendCreditBack", "(I)V"⟩, 13), (⟨"ChairCredits$Queue", "countBlocked", "()V"⟩, 7), (⟨"ChairCredits$Lane", "loseFirst", "()V"⟩, 13), (⟨"ChairCredits$Box", "waitingFor", "(I)I"⟩, 6), (⟨"ChairCredits$Queue", "waitingFor", "(I)I"⟩, 7), (⟨"ChairCredits$Box", "isStuck", "(I)Z"⟩, 6)]
theorem lw_r2 : ∀ q ∈ lw_privs_2, lw_okq q := List.forall_mem_cons.mpr ⟨lw_p16, List.forall_mem_cons.mpr ⟨lw_p17, List.forall_mem_cons.mpr ⟨lw_p18, List.forall_mem_cons.mpr ⟨lw_p19, List.forall_mem_cons.mpr ⟨lw_p20, List.forall_mem_cons.mpr ⟨lw_p21, List.forall_mem_cons.mpr ⟨lw_p22, List.forall_mem_cons.mpr ⟨lw_p23, List.forall_mem_cons.mpr ⟨lw_p24, List.forall_mem_cons.mpr ⟨lw_p25, List.forall_mem_cons.mpr ⟨lw_p26, List.forall_mem_cons.mpr ⟨lw_p27, List.forall_mem_cons.mpr ⟨lw_p28, List.forall_mem_cons.mpr ⟨lw_p29, List.forall_mem_cons.mpr ⟨lw_p30, List.forall_mem_cons.mpr ⟨lw_p31, fun _ h => absurd h List.not_mem_nil⟩⟩⟩⟩⟩⟩⟩⟩⟩⟩⟩⟩⟩⟩⟩⟩
theorem lw_p32 : lw_okq (⟨"ChairCredits$Lane", "isDry", "()Z"⟩, 13) := ⟨⟨by decide +kernel, by decide +kernel⟩, List.mem_of_getElem? (i := 26) (by decide +kernel), List.mem_of_getElem? (i := 371) (by decide +kernel), List.mem_of_getElem? (i := 372) (by decide +kernel)⟩
theorem lw_p33 : lw_okq (⟨"ChairCredits$Lane", "figure", "(I)I"⟩, 13) := ⟨⟨by decide +kernel, by decide +kernel⟩, List.mem_of_getElem? (i := 26) (by decide +kernel), List.mem_of_getElem? (i := 376) (by decide +kernel), List.mem_of_getElem? (i := 377) (by decide +kernel)⟩
theorem lw_p34 : lw_okq (⟨"ChairCredits$Queue", "figure", "(I)I"⟩, 7) := ⟨⟨by decide +kernel, by decide +kernel⟩, List.mem_of_getElem? (i := 79) (by decide +kernel), List.mem_of_getElem? (i := 392) (by decide +kernel), List.mem_of_getElem? (i := 393) (by decide +kernel)⟩
theorem lw_p35 : lw_okq (⟨"ChairCredits$Queue", "packetFigure", "(II)I"⟩, 7) := ⟨⟨by decide +kernel, by decide +kernel⟩, List.mem_of_getElem? (i := 79) (by decide +kernel), List.mem_of_getElem? (i := 400) (by decide +kernel), List.mem_of_getElem? (i := 401) (by decide +kernel)⟩
theorem lw_p36 : lw_okq (⟨"ChairCredits$Queue", "holds", "(I)Z"⟩, 7) := ⟨⟨by decide +kernel, by decide +kernel⟩, List.mem_of_getElem? (i := 79) (by decide +kernel), List.mem_of_getElem? (i := 415) (by decide +kernel), List.mem_of_getElem? (i := 416) (by decide +kernel)⟩
theorem lw_p37 : lw_okq (⟨"ChairCredits$Box", "figure", "(I)I"⟩, 6) := ⟨⟨by decide +kernel, by decide +kernel⟩, List.mem_of_getElem? (i := 17) (by decide +kernel), List.mem_of_getElem? (i := 427) (by decide +kernel), List.mem_of_getElem? (i := 428) (by decide +kernel)⟩
theorem lw_p38 : lw_okq (⟨"ChairCredits$Box", "sumOfQueues", "(I)I"⟩, 6) := ⟨⟨by decide +kernel, by decide +kernel⟩, List.mem_of_getElem? (i := 17) (by decide +kernel), List.mem_of_getElem? (i := 431) (by decide +kernel), List.mem_of_getElem? (i := 432) (by decide +kernel)⟩
theorem lw_p39 : lw_okq (⟨"ChairCredits$Box", "sumOfLanes", "(I)I"⟩, 6) := ⟨⟨by decide +kernel, by decide +kernel⟩, List.mem_of_getElem? (i := 17) (by decide +kernel), List.mem_of_getElem? (i := 436) (by decide +kernel), List.mem_of_getElem? (i := 437) (by decide +kernel)⟩
theorem lw_p40 : lw_okq (⟨"ChairCredits$Box", "stuckLanes", "()I"⟩, 6) := ⟨⟨by decide +kernel, by decide +kernel⟩, List.mem_of_getElem? (i := 17) (by decide +kernel), List.mem_of_getElem? (i := 441) (by decide +kernel), List.mem_of_getElem? (i := 442) (by decide +kernel)⟩
theorem lw_p41 : lw_okq (⟨"ChairCreditsModel", "lay", "(III)V"⟩, 11) := ⟨⟨by decide +kernel, by decide +kernel⟩, List.mem_of_getElem? (i := 446) (by decide +kernel), List.mem_of_getElem? (i := 452) (by decide +kernel), List.mem_of_getElem? (i := 453) (by decide +kernel)⟩
theorem lw_p42 : lw_okq (⟨"ChairCreditsModel", "open", "()V"⟩, 11) := ⟨⟨by decide +kernel, by decide +kernel⟩, List.mem_of_getElem? (i := 446) (by decide +kernel), List.mem_of_getElem? (i := 503) (by decide +kernel), List.mem_of_getElem? (i := 504) (by decide +kernel)⟩
theorem lw_p43 : lw_okq (⟨"ChairCreditsModel", "remember", "()V"⟩, 11) := ⟨⟨by decide +kernel, by decide +kernel⟩, List.mem_of_getElem? (i := 446) (by decide +kernel), List.mem_of_getElem? (i := 507) (by decide +kernel), List.mem_of_getElem? (i := 508) (by decide +kernel)⟩
theorem lw_p44 : lw_okq (⟨"ChairCreditsModel", "record", "()V"⟩, 11) := ⟨⟨by decide +kernel, by decide +kernel⟩, List.mem_of_getElem? (i := 446) (by decide +kernel), List.mem_of_getElem? (i := 511) (by decide +kernel), List.mem_of_getElem? (i := 512) (by decide +kernel)⟩
theorem lw_p45 : lw_okq (⟨"ChairCreditsModel", "of", "(II)I"⟩, 11) := ⟨⟨by decide +kernel, by decide +kernel⟩, List.mem_of_getElem? (i := 446) (by decide +kernel), List.mem_of_getElem? (i := 525) (by decide +kernel), List.mem_of_getElem? (i := 526) (by decide +kernel)⟩
theorem lw_p46 : lw_okq (⟨"ChairCreditsModel", "more", "(III)V"⟩, 11) := ⟨⟨by decide +kernel, by decide +kernel⟩, List.mem_of_getElem? (i := 446) (by decide +kernel), List.mem_of_getElem? (i := 529) (by decide +kernel), List.mem_of_getElem? (i := 530) (by decide +kernel)⟩
theorem lw_p47 : lw_okq (⟨"ChairCreditsModel", "by", "(II)I"⟩, 11) := ⟨⟨by decide +kernel, by decide +kernel⟩, List.mem_of_getElem? (i := 446) (by decide +kernel), List.mem_of_getElem? (i := 541) (by decide +kernel), List.mem_of_getElem? (i := 542) (by decide +kernel)⟩
def lw_privs_3 : List (MethodName × Nat) := [(⟨"ChairCredits$Lane", "isDry", "()Z"⟩, 13), (⟨"ChairCredits$Lane", "figure", "(I)I"⟩, 13), (⟨"ChairCredits$Queue", "figure", "(I)I"⟩, 7), (⟨"ChairCredits$Queue", "packetFigure", "(II)I"⟩, 7), (⟨"ChairCredits$Queue", "holds", "(I)Z"⟩, 7), (⟨"ChairCredits$Box", "figure", "(I)I"⟩, 6), (⟨"ChairCredits$Box", "sumOfQueues", "(I)I"⟩, 6), (⟨"ChairCredits$Box", "sumOfLanes", "(I)I"⟩, 6), (⟨"ChairCredits$Box", "stuckLanes", "()I"⟩, 6), (⟨"ChairCreditsModel", "lay", "(III)V"⟩, 11), (⟨"ChairCreditsModel", "open", "()V"⟩, 11), (⟨"ChairCreditsModel", "remember", "()V"⟩, 11), (⟨"ChairCreditsModel", "record", "()V"⟩, 11), (⟨"ChairCreditsModel", "of", "(II)I"⟩, 11), (⟨"ChairCreditsModel", "more", "(III)V"⟩, 11), (⟨"ChairCreditsModel", "by", "(II)I"⟩, 11)]
theorem lw_r3 : ∀ q ∈ lw_privs_3, lw_okq q := List.forall_mem_cons.mpr ⟨lw_p32, List.forall_mem_cons.mpr ⟨lw_p33, List.forall_mem_cons.mpr ⟨lw_p34, List.forall_mem_cons.mpr ⟨lw_p35, List.forall_mem_cons.mpr ⟨lw_p36, List.forall_mem_cons.mpr ⟨lw_p37, List.forall_mem_cons.mpr ⟨lw_p38, List.forall_mem_cons.mpr ⟨lw_p39, List.forall_mem_cons.mpr ⟨lw_p40, List.forall_mem_cons.mpr ⟨lw_p41, List.forall_mem_cons.mpr ⟨lw_p42, List.forall_mem_cons.mpr ⟨lw_p43, List.forall_mem_cons.mpr ⟨lw_p44, List.forall_mem_cons.mpr ⟨lw_p45, List.forall_mem_cons.mpr ⟨lw_p46, List.forall_mem_cons.mpr ⟨lw_p47, fun _ h => absurd h List.not_mem_nil⟩⟩⟩⟩⟩⟩⟩⟩⟩⟩⟩⟩⟩⟩⟩⟩
theorem lw_p48 : lw_okq (⟨"ChairCreditsModel", "bring", "(II)V"⟩, 11) := ⟨⟨by decide +kernel, by decide +kernel⟩, List.mem_of_getElem? (i := 446) (by decide +kernel), List.mem_of_getElem? (i := 545) (by decide +kernel), List.mem_of_getElem? (i := 546) (by decide +kernel)⟩
theorem lw_p49 : lw_okq (⟨"ChairCreditsModel", "arrivals", "(Z)I"⟩, 11) := ⟨⟨by decide +kernel, by decide +kernel⟩, List.mem_of_getElem? (i := 446) (by decide +kernel), List.mem_of_getElem? (i := 553) (by decide +kernel), List.mem_of_getElem? (i := 554) (by decide +kernel)⟩
theorem lw_p50 : lw_okq (⟨"ChairCreditsModel", "arrival", "(Z)I"⟩, 11) := ⟨⟨by decide +kernel, by decide +kernel⟩, List.mem_of_getElem? (i := 446) (by decide +kernel), List.mem_of_getElem? (i := 557) (by decide +kernel), List.mem_of_getElem? (i := 558) (by decide +kernel)⟩
theorem lw_p51 : lw_okq (⟨"ChairCreditsModel", "sees", "(CC)Z"⟩, 11) := ⟨⟨by decide +kernel, by decide +kernel⟩, List.mem_of_getElem? (i := 446) (by decide +kernel), List.mem_of_getElem? (i := 561) (by decide +kernel), List.mem_of_getElem? (i := 562) (by decide +kernel)⟩
theorem lw_p52 : lw_okq (⟨"ChairCreditsModel", "goBack", "()V"⟩, 11) := ⟨⟨by decide +kernel, by decide +kernel⟩, List.mem_of_getElem? (i := 446) (by decide +kernel), List.mem_of_getElem? (i := 565) (by decide +kernel), List.mem_of_getElem? (i := 566) (by decide +kernel)⟩
theorem lw_p53 : lw_okq (⟨"ChairCreditsModel", "passAll", "(I)I"⟩, 11) := ⟨⟨by decide +kernel, by decide +kernel⟩, List.mem_of_getElem? (i := 446) (by decide +kernel), List.mem_of_getElem? (i := 573) (by decide +kernel), List.mem_of_getElem? (i := 574) (by decide +kernel)⟩
theorem lw_p54 : lw_okq (⟨"ChairCreditsModel", "tick", "()I"⟩, 11) := ⟨⟨by decide +kernel, by decide +kernel⟩, List.mem_of_getElem? (i := 446) (by decide +kernel), List.mem_of_getElem? (i := 577) (by decide +kernel), List.mem_of_getElem? (i := 578) (by decide +kernel)⟩
theorem lw_p55 : lw_okq (⟨"ChairCreditsModel", "come", "(I)V"⟩, 11) := ⟨⟨by decide +kernel, by decide +kernel⟩, List.mem_of_getElem? (i := 446) (by decide +kernel), List.mem_of_getElem? (i := 581) (by decide +kernel), List.mem_of_getElem? (i := 582) (by decide +kernel)⟩
theorem lw_p56 : lw_okq (⟨"ChairCreditsModel", "dropFirst", "(I)V"⟩, 11) := ⟨⟨by decide +kernel, by decide +kernel⟩, List.mem_of_getElem? (i := 446) (by decide +kernel), List.mem_of_getElem? (i := 585) (by decide +kernel), List.mem_of_getElem? (i := 586) (by decide +kernel)⟩
theorem lw_p57 : lw_okq (⟨"ChairCreditsModel", "missing", "(I)I"⟩, 11) := ⟨⟨by decide +kernel, by decide +kernel⟩, List.mem_of_getElem? (i := 446) (by decide +kernel), List.mem_of_getElem? (i := 589) (by decide +kernel), List.mem_of_getElem? (i := 590) (by decide +kernel)⟩
theorem lw_p58 : lw_okq (⟨"ChairCreditsModel", "send", "(I)I"⟩, 11) := ⟨⟨by decide +kernel, by decide +kernel⟩, List.mem_of_getElem? (i := 446) (by decide +kernel), List.mem_of_getElem? (i := 593) (by decide +kernel), List.mem_of_getElem? (i := 594) (by decide +kernel)⟩
theorem lw_p59 : lw_okq (⟨"ChairCreditsModel", "offer", "(II)I"⟩, 11) := ⟨⟨by decide +kernel, by decide +kernel⟩, List.mem_of_getElem? (i := 446) (by decide +kernel), List.mem_of_getElem? (i := 597) (by decide +kernel), List.mem_of_getElem? (i := 598) (by decide +kernel)⟩
theorem lw_p60 : lw_okq (⟨"ChairCreditsModel", "leave", "(II)I"⟩, 11) := ⟨⟨by decide +kernel, by decide +kernel⟩, List.mem_of_getElem? (i := 446) (by decide +kernel), List.mem_of_getElem? (i := 601) (by decide +kernel), List.mem_of_getElem? (i := 602) (by decide +kernel)⟩
theorem lw_p61 : lw_okq (⟨"ChairCreditsModel", "take", "(I)V"⟩, 11) := ⟨⟨by decide +kernel, by decide +kernel⟩, List.mem_of_getElem? (i := 446) (by decide +kernel), List.mem_of_getElem? (i := 605) (by decide +kernel), List.mem_of_getElem? (i := 606) (by decide +kernel)⟩
theorem lw_p62 : lw_okq (⟨"ChairCreditsModel", "waiting", "(I)I"⟩, 11) := ⟨⟨by decide +kernel, by decide +kernel⟩, List.mem_of_getElem? (i := 446) (by decide +kernel), List.mem_of_getElem? (i := 633) (by decide +kernel), List.mem_of_getElem? (i := 634) (by decide +kernel)⟩
theorem lw_p63 : lw_okq (⟨"ChairCreditsModel", "isStuck", "(I)Z"⟩, 11) := ⟨⟨by decide +kernel, by decide +kernel⟩, List.mem_of_getElem? (i := 446) (by decide +kernel), List.mem_of_getElem? (i := 637) (by decide +kernel), List.mem_of_getElem? (i := 638) (by decide +kernel)⟩
def lw_privs_4 : List (MethodName × Nat) := [(⟨"ChairCreditsModel", "bring", "(II)V"⟩, 11), (⟨"ChairCreditsModel", "arrivals", "(Z)I"⟩, 11), (⟨"ChairCreditsModel", "arrival", "(Z)I"⟩, 11), (⟨"ChairCreditsModel", "sees", "(CC)Z"⟩, 11), (⟨"ChairCreditsModel", "goBack", "()V"⟩, 11), (⟨"ChairCreditsModel", "passAll", "(I)I"⟩, 11), (⟨"ChairCreditsModel", "tick", "()I"⟩, 11), (⟨"ChairCreditsModel", "come", "(I)V"⟩, 11), (⟨"ChairCreditsModel", "dropFirst", "(I)V"⟩, 11), (⟨"ChairCreditsModel", "missing", "(I)I"⟩, 11), (⟨"ChairCreditsModel", "send", "(I)I"⟩, 11), (⟨"ChairCreditsModel", "offer", "(II)I"⟩, 11), (⟨"ChairCreditsModel", "leave", "(II)I"⟩, 11), (⟨"ChairCreditsModel", "take", "(I)V"⟩, 11), (⟨"ChairCreditsModel", "waiting", "(I)I"⟩, 11), (⟨"ChairCreditsModel", "isStuck", "(I)Z"⟩, 11)]
theorem lw_r4 : ∀ q ∈ lw_privs_4, lw_okq q := List.forall_mem_cons.mpr ⟨lw_p48, List.forall_mem_cons.mpr ⟨lw_p49, List.forall_mem_cons.mpr ⟨lw_p50, List.forall_mem_cons.mpr ⟨lw_p51, List.forall_mem_cons.mpr ⟨lw_p52, List.forall_mem_cons.mpr ⟨lw_p53, List.forall_mem_cons.mpr ⟨lw_p54, List.forall_mem_cons.mpr ⟨lw_p55, List.forall_mem_cons.mpr ⟨lw_p56, List.forall_mem_cons.mpr ⟨lw_p57, List.forall_mem_cons.mpr ⟨lw_p58, List.forall_mem_cons.mpr ⟨lw_p59, List.forall_mem_cons.mpr ⟨lw_p60, List.forall_mem_cons.mpr ⟨lw_p61, List.forall_mem_cons.mpr ⟨lw_p62, List.forall_mem_cons.mpr ⟨lw_p63, fun _ h => absurd h List.not_mem_nil⟩⟩⟩⟩⟩⟩⟩⟩⟩⟩⟩⟩⟩⟩⟩⟩
theorem lw_p64 : lw_okq (⟨"ChairCreditsModel", "waits", "(II)Z"⟩, 11) := ⟨⟨by decide +kernel, by decide +kernel⟩, List.mem_of_getElem? (i := 446) (by decide +kernel), List.mem_of_getElem? (i := 665) (by decide +kernel), List.mem_of_getElem? (i := 666) (by decide +kernel)⟩
theorem lw_p65 : lw_okq (⟨"ChairCreditsModel", "over", "(IZ)I"⟩, 11) := ⟨⟨by decide +kernel, by decide +kernel⟩, List.mem_of_getElem? (i := 446) (by decide +kernel), List.mem_of_getElem? (i := 677) (by decide +kernel), List.mem_of_getElem? (i := 678) (by decide +kernel)⟩
theorem lw_p66 : lw_okq (⟨"ChairCreditsModel", "stuckOnes", "()I"⟩, 11) := ⟨⟨by decide +kernel, by decide +kernel⟩, List.mem_of_getElem? (i := 446) (by decide +kernel), List.mem_of_getElem? (i := 681) (by decide +kernel), List.mem_of_getElem? (i := 682) (by decide +kernel)⟩
def lw_privs_5 : List (MethodName × Nat) := [(⟨"ChairCreditsModel", "waits", "(II)Z"⟩, 11), (⟨"ChairCreditsModel", "over", "(IZ)I"⟩, 11), (⟨"ChairCreditsModel", "stuckOnes", "()I"⟩, 11)]
theorem lw_r5 : ∀ q ∈ lw_privs_5, lw_okq q := List.forall_mem_cons.mpr ⟨lw_p64, List.forall_mem_cons.mpr ⟨lw_p65, List.forall_mem_cons.mpr ⟨lw_p66, fun _ h => absurd h List.not_mem_nil⟩⟩⟩
def lw_privs : List (MethodName × Nat) := lw_privs_1 ++ (lw_privs_2 ++ (lw_privs_3 ++ (lw_privs_4 ++ (lw_privs_5))))
def lw_tbl : List Cond := k2_sels lw_privs ++ tables_1
theorem lw_privs_ok : ∀ q ∈ lw_privs, lw_okq q := by
  show ∀ q ∈ lw_privs_1 ++ (lw_privs_2 ++ (lw_privs_3 ++ (lw_privs_4 ++ (lw_privs_5)))), lw_okq q
  exact List.forall_mem_append.mpr ⟨lw_r1, List.forall_mem_append.mpr ⟨lw_r2, List.forall_mem_append.mpr ⟨lw_r3, List.forall_mem_append.mpr ⟨lw_r4, lw_r5⟩⟩⟩⟩
def RX0 : String := "ChairCredits$Box"
def TX0 : u_T := fun k => match k with
  | 0 => ("ChairCredits$Box", "tick", "I", false)
  | 1 => ("ChairCredits$Box", "mode", "I", false)
  | 2 => ("ChairCredits$Box", "watch", "I", false)
  | 3 => ("ChairCredits$Box", "arrived", "I", false)
  | 4 => ("ChairCredits$Box", "lanes", "[LChairCredits$Lane;", true)
  | _ => ("ChairCredits$Box", "queues", "[LChairCredits$Queue;", true)
def tyX0 : Nat → FieldType := fun k => match k with
  | 0 => .int
  | 1 => .int
  | 2 => .int
  | 3 => .int
  | 4 => .array (.object "ChairCredits$Lane")
  | _ => .array (.object "ChairCredits$Queue")
abbrev wsX00 : List Cond := u_ws RX0 TX0 6
theorem nmX0 : ∀ a, a < 6 → ∀ b, b < 6 → a ≠ b → (TX0 a).2.1 ≠ (TX0 b).2.1 := by decide +kernel
theorem tyX0_ok : ∀ k, k < 6 → parseFieldDescriptor (TX0 k).2.2.1 = some (tyX0 k) := by decide +kernel
abbrev cX0_init : ByteArray := prog_2_method_1_code
def yX0_init : MethodName := ⟨RX0, "<init>", "()V"⟩
abbrev cX0_copyFrom : ByteArray := prog_2_method_2_code
def yX0_copyFrom : MethodName := ⟨RX0, "copyFrom", "(LChairCredits$Box;)V"⟩
abbrev cX0_hasRoom : ByteArray := prog_2_method_3_code
def yX0_hasRoom : MethodName := ⟨RX0, "hasRoom", "(II)Z"⟩
abbrev cX0_admit : ByteArray := prog_2_method_4_code
def yX0_admit : MethodName := ⟨RX0, lw_nm, "(II)I"⟩
abbrev cX0_passTicks : ByteArray := prog_2_method_5_code
def yX0_passTicks : MethodName := ⟨RX0, "passTicks", "(I)I"⟩
abbrev cX0_passTick : ByteArray := prog_2_method_6_code
def yX0_passTick : MethodName := ⟨RX0, "passTick", "()I"⟩
abbrev cX0_beginTick : ByteArray := prog_2_method_7_code
def yX0_beginTick : MethodName := ⟨RX0, "beginTick", "()V"⟩
abbrev cX0_sendTo : ByteArray := prog_2_method_8_code
def yX0_sendTo : MethodName := ⟨RX0, "sendTo", "(I)I"⟩
abbrev cX0_waitingFor : ByteArray := prog_2_method_9_code
def yX0_waitingFor : MethodName := ⟨RX0, "waitingFor", "(I)I"⟩
abbrev cX0_isStuck : ByteArray := prog_2_method_10_code
def yX0_isStuck : MethodName := ⟨RX0, "isStuck", "(I)Z"⟩
abbrev cX0_stuckLanes : ByteArray := prog_2_method_11_code
def yX0_stuckLanes : MethodName := ⟨RX0, "stuckLanes", "()I"⟩
abbrev cX0_figure : ByteArray := prog_2_method_12_code
def yX0_figure : MethodName := ⟨RX0, "figure", "(I)I"⟩
abbrev cX0_sumOfLanes : ByteArray := prog_2_method_13_code
def yX0_sumOfLanes : MethodName := ⟨RX0, "sumOfLanes", "(I)I"⟩
abbrev cX0_sumOfQueues : ByteArray := prog_2_method_14_code
def yX0_sumOfQueues : MethodName := ⟨RX0, "sumOfQueues", "(I)I"⟩
def RX1 : String := "ChairCredits$Lane"
def TX1 : u_T := fun k => match k with
  | 0 => ("ChairCredits$Lane", "chairs", "I", false)
  | 1 => ("ChairCredits$Lane", "period", "I", false)
  | 2 => ("ChairCredits$Lane", "delay", "I", false)
  | 3 => ("ChairCredits$Lane", "credits", "I", false)
  | 4 => ("ChairCredits$Lane", "turn", "I", false)
  | 5 => ("ChairCredits$Lane", "sent", "I", false)
  | 6 => ("ChairCredits$Lane", "taken", "I", false)
  | 7 => ("ChairCredits$Lane", "spilled", "I", false)
  | 8 => ("ChairCredits$Lane", "lost", "I", false)
  | 9 => ("ChairCredits$Lane", "seatedNumbers", "[I", true)
  | 10 => ("ChairCredits$Lane", "seatedSize", "I", false)
  | 11 => ("ChairCredits$Lane", "wayTicks", "[I", true)
  | _ => ("ChairCredits$Lane", "wayLength", "I", false)
def tyX1 : Nat → FieldType := fun k => match k with
  | 0 => .int
  | 1 => .int
  | 2 => .int
  | 3 => .int
  | 4 => .int
  | 5 => .int
  | 6 => .int
  | 7 => .int
  | 8 => .int
  | 9 => .array .int
  | 10 => .int
  | 11 => .array .int
  | _ => .int
abbrev wsX10 : List Cond := u_ws RX1 TX1 13
theorem nmX1 : ∀ a, a < 13 → ∀ b, b < 13 → a ≠ b → (TX1 a).2.1 ≠ (TX1 b).2.1 := by decide +kernel
theorem tyX1_ok : ∀ k, k < 13 → parseFieldDescriptor (TX1 k).2.2.1 = some (tyX1 k) := by decide +kernel
abbrev cX1_init : ByteArray := prog_3_method_1_code
def yX1_init : MethodName := ⟨RX1, "<init>", "()V"⟩
abbrev cX1_copyFrom : ByteArray := prog_3_method_2_code
def yX1_copyFrom : MethodName := ⟨RX1, "copyFrom", "(LChairCredits$Lane;)V"⟩
abbrev cX1_setting : ByteArray := prog_3_method_3_code
def yX1_setting : MethodName := ⟨RX1, "setting", "(I)I"⟩
abbrev cX1_change : ByteArray := prog_3_method_4_code
def yX1_change : MethodName := ⟨RX1, "change", "(II)V"⟩
abbrev cX1_missing : ByteArray := prog_3_method_5_code
def yX1_missing : MethodName := ⟨RX1, "missing", "()I"⟩
abbrev cX1_mend : ByteArray := prog_3_method_6_code
def yX1_mend : MethodName := ⟨RX1, "mend", "()V"⟩
abbrev cX1_isDry : ByteArray := prog_3_method_7_code
def yX1_isDry : MethodName := ⟨RX1, "isDry", "()Z"⟩
abbrev cX1_letCreditsCome : ByteArray := prog_3_method_8_code
def yX1_letCreditsCome : MethodName := ⟨RX1, "letCreditsCome", "(I)V"⟩
abbrev cX1_creditComes : ByteArray := prog_3_method_9_code
def yX1_creditComes : MethodName := ⟨RX1, "creditComes", "(I)Z"⟩
abbrev cX1_loseFirst : ByteArray := prog_3_method_10_code
def yX1_loseFirst : MethodName := ⟨RX1, "loseFirst", "()V"⟩
abbrev cX1_dropFirstOnTheWay : ByteArray := prog_3_method_11_code
def yX1_dropFirstOnTheWay : MethodName := ⟨RX1, "dropFirstOnTheWay", "()V"⟩
abbrev cX1_receive : ByteArray := prog_3_method_12_code
def yX1_receive : MethodName := ⟨RX1, "receive", "(I)V"⟩
abbrev cX1_takeIfDue : ByteArray := prog_3_method_13_code
def yX1_takeIfDue : MethodName := ⟨RX1, "takeIfDue", "(I)V"⟩
abbrev cX1_sendCreditBack : ByteArray := prog_3_method_14_code
def yX1_sendCreditBack : MethodName := ⟨RX1, "sendCreditBack", "(I)V"⟩
abbrev cX1_figure : ByteArray := prog_3_method_15_code
def yX1_figure : MethodName := ⟨RX1, "figure", "(I)I"⟩
def RX2 : String := "ChairCredits$Queue"
def TX2 : u_T := fun k => match k with
  | 0 => ("ChairCredits$Queue", "numbers", "[I", true)
  | 1 => ("ChairCredits$Queue", "outputs", "[I", true)
  | 2 => ("ChairCredits$Queue", "arrivalTicks", "[I", true)
  | 3 => ("ChairCredits$Queue", "size", "I", false)
  | 4 => ("ChairCredits$Queue", "blocked", "I", false)
  | 5 => ("ChairCredits$Queue", "sent", "I", false)
  | _ => ("ChairCredits$Queue", "hasSent", "Z", false)
def tyX2 : Nat → FieldType := fun k => match k with
  | 0 => .array .int
  | 1 => .array .int
  | 2 => .array .int
  | 3 => .int
  | 4 => .int
  | 5 => .int
  | _ => .boolean
abbrev wsX20 : List Cond := u_ws RX2 TX2 7
theorem nmX2 : ∀ a, a < 7 → ∀ b, b < 7 → a ≠ b → (TX2 a).2.1 ≠ (TX2 b).2.1 := by decide +kernel
theorem tyX2_ok : ∀ k, k < 7 → parseFieldDescriptor (TX2 k).2.2.1 = some (tyX2 k) := by decide +kernel
abbrev cX2_init : ByteArray := prog_4_method_1_code
def yX2_init : MethodName := ⟨RX2, "<init>", "()V"⟩
abbrev cX2_copyFrom : ByteArray := prog_4_method_2_code
def yX2_copyFrom : MethodName := ⟨RX2, "copyFrom", "(LChairCredits$Queue;)V"⟩
abbrev cX2_append : ByteArray := prog_4_method_3_code
def yX2_append : MethodName := ⟨RX2, "append", "(III)V"⟩
abbrev cX2_offerFor : ByteArray := prog_4_method_4_code
def yX2_offerFor : MethodName := ⟨RX2, "offerFor", "(II)I"⟩
abbrev cX2_sendFrom : ByteArray := prog_4_method_5_code
def yX2_sendFrom : MethodName := ⟨RX2, "sendFrom", "(I)I"⟩
abbrev cX2_countBlocked : ByteArray := prog_4_method_6_code
def yX2_countBlocked : MethodName := ⟨RX2, "countBlocked", "()V"⟩
abbrev cX2_waitingFor : ByteArray := prog_4_method_7_code
def yX2_waitingFor : MethodName := ⟨RX2, "waitingFor", "(I)I"⟩
abbrev cX2_holds : ByteArray := prog_4_method_8_code
def yX2_holds : MethodName := ⟨RX2, "holds", "(I)Z"⟩
abbrev cX2_figure : ByteArray := prog_4_method_9_code
def yX2_figure : MethodName := ⟨RX2, "figure", "(I)I"⟩
abbrev cX2_packetFigure : ByteArray := prog_4_method_10_code
def yX2_packetFigure : MethodName := ⟨RX2, "packetFigure", "(II)I"⟩
def RX3 : String := "ChairCredits"
def TX3 : u_T := fun k => match k with
  | 0 => ("ChairCredits", "box", "LChairCredits$Box;", true)
  | 1 => ("ChairCredits", "trial", "LChairCredits$Box;", true)
  | 2 => ("ChairCredits", "snapshot", "LChairCredits$Box;", true)
  | 3 => ("ChairCredits", "hasSnapshot", "Z", false)
  | 4 => ("ChairCredits", "history", "[LChairCredits$Box;", true)
  | 5 => ("ChairCredits", "historySize", "I", false)
  | 6 => ("ChairCredits", "text", "[C", true)
  | _ => ("ChairCredits", "textLength", "I", false)
def tyX3 : Nat → FieldType := fun k => match k with
  | 0 => .object "ChairCredits$Box"
  | 1 => .object "ChairCredits$Box"
  | 2 => .object "ChairCredits$Box"
  | 3 => .boolean
  | 4 => .array (.object "ChairCredits$Box")
  | 5 => .int
  | 6 => .array .char
  | _ => .int
abbrev wsX30 : List Cond := u_ws RX3 TX3 8
theorem nmX3 : ∀ a, a < 8 → ∀ b, b < 8 → a ≠ b → (TX3 a).2.1 ≠ (TX3 b).2.1 := by decide +kernel
theorem tyX3_ok : ∀ k, k < 8 → parseFieldDescriptor (TX3 k).2.2.1 = some (tyX3 k) := by decide +kernel
abbrev cX3_init : ByteArray := prog_1_method_1_code
def yX3_init : MethodName := ⟨RX3, "<init>", "()V"⟩
abbrev cX3_setLane : ByteArray := prog_1_method_2_code
def yX3_setLane : MethodName := ⟨RX3, "setLane", "(III)I"⟩
abbrev cX3_set : ByteArray := prog_1_method_3_code
def yX3_set : MethodName := ⟨RX3, "set", "(II)I"⟩
abbrev cX3_arrive : ByteArray := prog_1_method_4_code
def yX3_arrive : MethodName := ⟨RX3, "arrive", "(II)I"⟩
abbrev cX3_readArrivals : ByteArray := prog_1_method_5_code
def yX3_readArrivals : MethodName := ⟨RX3, "readArrivals", "()I"⟩
abbrev cX3_pass : ByteArray := prog_1_method_6_code
def yX3_pass : MethodName := ⟨RX3, "pass", "(I)I"⟩
abbrev cX3_lose : ByteArray := prog_1_method_7_code
def yX3_lose : MethodName := ⟨RX3, "lose", "(I)I"⟩
abbrev cX3_forge : ByteArray := prog_1_method_8_code
def yX3_forge : MethodName := ⟨RX3, "forge", "(I)I"⟩
abbrev cX3_repair : ByteArray := prog_1_method_9_code
def yX3_repair : MethodName := ⟨RX3, "repair", "(I)I"⟩
abbrev cX3_type : ByteArray := prog_1_method_10_code
def yX3_type : MethodName := ⟨RX3, "type", "(C)I"⟩
abbrev cX3_clearText : ByteArray := prog_1_method_11_code
def yX3_clearText : MethodName := ⟨RX3, "clearText", "()I"⟩
abbrev cX3_undo : ByteArray := prog_1_method_12_code
def yX3_undo : MethodName := ⟨RX3, "undo", "()I"⟩
abbrev cX3_keep : ByteArray := prog_1_method_13_code
def yX3_keep : MethodName := ⟨RX3, "keep", "()I"⟩
abbrev cX3_restore : ByteArray := prog_1_method_14_code
def yX3_restore : MethodName := ⟨RX3, "restore", "()I"⟩
abbrev cX3_lane : ByteArray := prog_1_method_15_code
def yX3_lane : MethodName := ⟨RX3, "lane", "(II)I"⟩
abbrev cX3_seated : ByteArray := prog_1_method_16_code
def yX3_seated : MethodName := ⟨RX3, "seated", "(II)I"⟩
abbrev cX3_onTheWay : ByteArray := prog_1_method_17_code
def yX3_onTheWay : MethodName := ⟨RX3, "onTheWay", "(II)I"⟩
abbrev cX3_input : ByteArray := prog_1_method_18_code
def yX3_input : MethodName := ⟨RX3, "input", "(II)I"⟩
abbrev cX3_packet : ByteArray := prog_1_method_19_code
def yX3_packet : MethodName := ⟨RX3, "packet", "(III)I"⟩
abbrev cX3_next : ByteArray := prog_1_method_20_code
def yX3_next : MethodName := ⟨RX3, "next", "(I)I"⟩
abbrev cX3_leavesIn : ByteArray := prog_1_method_21_code
def yX3_leavesIn : MethodName := ⟨RX3, "leavesIn", "(II)I"⟩
abbrev cX3_wouldSend : ByteArray := prog_1_method_22_code
def yX3_wouldSend : MethodName := ⟨RX3, "wouldSend", "(II)I"⟩
abbrev cX3_count : ByteArray := prog_1_method_23_code
def yX3_count : MethodName := ⟨RX3, "count", "(I)I"⟩
abbrev cX3_isPort : ByteArray := prog_1_method_24_code
def yX3_isPort : MethodName := ⟨RX3, "isPort", "(I)Z"⟩
abbrev cX3_isTickCount : ByteArray := prog_1_method_25_code
def yX3_isTickCount : MethodName := ⟨RX3, "isTickCount", "(I)Z"⟩
abbrev cX3_mostOfLane : ByteArray := prog_1_method_26_code
def yX3_mostOfLane : MethodName := ⟨RX3, "mostOfLane", "(I)I"⟩
abbrev cX3_mostOfBox : ByteArray := prog_1_method_27_code
def yX3_mostOfBox : MethodName := ⟨RX3, "mostOfBox", "(I)I"⟩
abbrev cX3_remember : ByteArray := prog_1_method_28_code
def yX3_remember : MethodName := ⟨RX3, "remember", "()V"⟩
abbrev cX3_dropOldest : ByteArray := prog_1_method_29_code
def yX3_dropOldest : MethodName := ⟨RX3, "dropOldest", "()V"⟩
abbrev cX3_faultOfText : ByteArray := prog_1_method_30_code
def yX3_faultOfText : MethodName := ⟨RX3, "faultOfText", "()I"⟩
abbrev cX3_dueBehind : ByteArray := prog_1_method_31_code
def yX3_dueBehind : MethodName := ⟨RX3, "dueBehind", "(IC)I"⟩
abbrev cX3_admitTextToTrial : ByteArray := prog_1_method_32_code
def yX3_admitTextToTrial : MethodName := ⟨RX3, "admitTextToTrial", "()I"⟩
abbrev cX3_tellsTimes : ByteArray := prog_1_method_33_code
def yX3_tellsTimes : MethodName := ⟨RX3, "tellsTimes", "(I)Z"⟩
def RX4 : String := "ChairCreditsModel"
def TX4 : u_T := fun k => match k with
  | 0 => ("ChairCreditsModel", "row", "[I", true)
  | 1 => ("ChairCreditsModel", "past", "[I", true)
  | 2 => ("ChairCreditsModel", "aside", "[I", true)
  | 3 => ("ChairCreditsModel", "before", "[I", true)
  | 4 => ("ChairCreditsModel", "states", "I", false)
  | 5 => ("ChairCreditsModel", "isAside", "Z", false)
  | 6 => ("ChairCreditsModel", "text", "[C", true)
  | 7 => ("ChairCreditsModel", "length", "I", false)
  | 8 => ("ChairCreditsModel", "at", "I", false)
  | 9 => ("ChairCreditsModel", "hasSent", "[Z", true)
  | _ => ("ChairCreditsModel", "sentTo", "[I", true)
def tyX4 : Nat → FieldType := fun k => match k with
  | 0 => .array .int
  | 1 => .array .int
  | 2 => .array .int
  | 3 => .array .int
  | 4 => .int
  | 5 => .boolean
  | 6 => .array .char
  | 7 => .int
  | 8 => .int
  | 9 => .array .boolean
  | _ => .array .int
abbrev wsX40 : List Cond := u_ws RX4 TX4 11
theorem nmX4 : ∀ a, a < 11 → ∀ b, b < 11 → a ≠ b → (TX4 a).2.1 ≠ (TX4 b).2.1 := by decide +kernel
theorem tyX4_ok : ∀ k, k < 11 → parseFieldDescriptor (TX4 k).2.2.1 = some (tyX4 k) := by decide +kernel
abbrev cX4_init : ByteArray := prog_6_method_1_code
def yX4_init : MethodName := ⟨RX4, "<init>", "()V"⟩
abbrev cX4_in : ByteArray := prog_6_method_2_code
def yX4_in : MethodName := ⟨RX4, "in", "(III)Z"⟩
abbrev cX4_noPort : ByteArray := prog_6_method_3_code
def yX4_noPort : MethodName := ⟨RX4, "noPort", "(I)Z"⟩
abbrev cX4_of : ByteArray := prog_6_method_4_code
def yX4_of : MethodName := ⟨RX4, "of", "(II)I"⟩
abbrev cX4_lay : ByteArray := prog_6_method_5_code
def yX4_lay : MethodName := ⟨RX4, "lay", "(III)V"⟩
abbrev cX4_more : ByteArray := prog_6_method_6_code
def yX4_more : MethodName := ⟨RX4, "more", "(III)V"⟩
abbrev cX4_by : ByteArray := prog_6_method_7_code
def yX4_by : MethodName := ⟨RX4, "by", "(II)I"⟩
abbrev cX4_remember : ByteArray := prog_6_method_8_code
def yX4_remember : MethodName := ⟨RX4, "remember", "()V"⟩
abbrev cX4_goBack : ByteArray := prog_6_method_9_code
def yX4_goBack : MethodName := ⟨RX4, "goBack", "()V"⟩
abbrev cX4_record : ByteArray := prog_6_method_10_code
def yX4_record : MethodName := ⟨RX4, "record", "()V"⟩
abbrev cX4_open : ByteArray := prog_6_method_11_code
def yX4_open : MethodName := ⟨RX4, "open", "()V"⟩
abbrev cX4_undo : ByteArray := prog_6_method_12_code
def yX4_undo : MethodName := ⟨RX4, "undo", "()I"⟩
abbrev cX4_keep : ByteArray := prog_6_method_13_code
def yX4_keep : MethodName := ⟨RX4, "keep", "()I"⟩
abbrev cX4_restore : ByteArray := prog_6_method_14_code
def yX4_restore : MethodName := ⟨RX4, "restore", "()I"⟩
abbrev cX4_setLane : ByteArray := prog_6_method_15_code
def yX4_setLane : MethodName := ⟨RX4, "setLane", "(III)I"⟩
abbrev cX4_set : ByteArray := prog_6_method_16_code
def yX4_set : MethodName := ⟨RX4, "set", "(II)I"⟩
abbrev cX4_bring : ByteArray := prog_6_method_17_code
def yX4_bring : MethodName := ⟨RX4, "bring", "(II)V"⟩
abbrev cX4_arrive : ByteArray := prog_6_method_18_code
def yX4_arrive : MethodName := ⟨RX4, "arrive", "(II)I"⟩
abbrev cX4_sees : ByteArray := prog_6_method_19_code
def yX4_sees : MethodName := ⟨RX4, "sees", "(CC)Z"⟩
abbrev cX4_arrival : ByteArray := prog_6_method_20_code
def yX4_arrival : MethodName := ⟨RX4, "arrival", "(Z)I"⟩
abbrev cX4_arrivals : ByteArray := prog_6_method_21_code
def yX4_arrivals : MethodName := ⟨RX4, "arrivals", "(Z)I"⟩
abbrev cX4_readArrivals : ByteArray := prog_6_method_22_code
def yX4_readArrivals : MethodName := ⟨RX4, "readArrivals", "()I"⟩
abbrev cX4_missing : ByteArray := prog_6_method_23_code
def yX4_missing : MethodName := ⟨RX4, "missing", "(I)I"⟩
abbrev cX4_come : ByteArray := prog_6_method_24_code
def yX4_come : MethodName := ⟨RX4, "come", "(I)V"⟩
abbrev cX4_dropFirst : ByteArray := prog_6_method_25_code
def yX4_dropFirst : MethodName := ⟨RX4, "dropFirst", "(I)V"⟩
abbrev cX4_offer : ByteArray := prog_6_method_26_code
def yX4_offer : MethodName := ⟨RX4, "offer", "(II)I"⟩
abbrev cX4_leave : ByteArray := prog_6_method_27_code
def yX4_leave : MethodName := ⟨RX4, "leave", "(II)I"⟩
abbrev cX4_send : ByteArray := prog_6_method_28_code
def yX4_send : MethodName := ⟨RX4, "send", "(I)I"⟩
abbrev cX4_take : ByteArray := prog_6_method_29_code
def yX4_take : MethodName := ⟨RX4, "take", "(I)V"⟩
abbrev cX4_tick : ByteArray := prog_6_method_30_code
def yX4_tick : MethodName := ⟨RX4, "tick", "()I"⟩
abbrev cX4_passAll : ByteArray := prog_6_method_31_code
def yX4_passAll : MethodName := ⟨RX4, "passAll", "(I)I"⟩
abbrev cX4_pass : ByteArray := prog_6_method_32_code
def yX4_pass : MethodName := ⟨RX4, "pass", "(I)I"⟩
abbrev cX4_lose : ByteArray := prog_6_method_33_code
def yX4_lose : MethodName := ⟨RX4, "lose", "(I)I"⟩
abbrev cX4_forge : ByteArray := prog_6_method_34_code
def yX4_forge : MethodName := ⟨RX4, "forge", "(I)I"⟩
abbrev cX4_repair : ByteArray := prog_6_method_35_code
def yX4_repair : MethodName := ⟨RX4, "repair", "(I)I"⟩
abbrev cX4_type : ByteArray := prog_6_method_36_code
def yX4_type : MethodName := ⟨RX4, "type", "(C)I"⟩
abbrev cX4_clearText : ByteArray := prog_6_method_37_code
def yX4_clearText : MethodName := ⟨RX4, "clearText", "()I"⟩
abbrev cX4_waiting : ByteArray := prog_6_method_38_code
def yX4_waiting : MethodName := ⟨RX4, "waiting", "(I)I"⟩
abbrev cX4_isStuck : ByteArray := prog_6_method_39_code
def yX4_isStuck : MethodName := ⟨RX4, "isStuck", "(I)Z"⟩
abbrev cX4_lane : ByteArray := prog_6_method_40_code
def yX4_lane : MethodName := ⟨RX4, "lane", "(II)I"⟩
abbrev cX4_seated : ByteArray := prog_6_method_41_code
def yX4_seated : MethodName := ⟨RX4, "seated", "(II)I"⟩
abbrev cX4_onTheWay : ByteArray := prog_6_method_42_code
def yX4_onTheWay : MethodName := ⟨RX4, "onTheWay", "(II)I"⟩
abbrev cX4_input : ByteArray := prog_6_method_43_code
def yX4_input : MethodName := ⟨RX4, "input", "(II)I"⟩
abbrev cX4_packet : ByteArray := prog_6_method_44_code
def yX4_packet : MethodName := ⟨RX4, "packet", "(III)I"⟩
abbrev cX4_next : ByteArray := prog_6_method_45_code
def yX4_next : MethodName := ⟨RX4, "next", "(I)I"⟩
abbrev cX4_waits : ByteArray := prog_6_method_46_code
def yX4_waits : MethodName := ⟨RX4, "waits", "(II)Z"⟩
abbrev cX4_leavesIn : ByteArray := prog_6_method_47_code
def yX4_leavesIn : MethodName := ⟨RX4, "leavesIn", "(II)I"⟩
abbrev cX4_wouldSend : ByteArray := prog_6_method_48_code
def yX4_wouldSend : MethodName := ⟨RX4, "wouldSend", "(II)I"⟩
abbrev cX4_over : ByteArray := prog_6_method_49_code
def yX4_over : MethodName := ⟨RX4, "over", "(IZ)I"⟩
abbrev cX4_stuckOnes : ByteArray := prog_6_method_50_code
def yX4_stuckOnes : MethodName := ⟨RX4, "stuckOnes", "()I"⟩
abbrev cX4_count : ByteArray := prog_6_method_51_code
def yX4_count : MethodName := ⟨RX4, "count", "(I)I"⟩
def RJ9 : String := "java/lang/Math"
abbrev cJ9_min_7cf53 : ByteArray := prog_7_method_69_code
def yJ9_min_7cf53 : MethodName := ⟨RJ9, "min", "(II)I"⟩
def RJ10 : String := "java/lang/System"
def RL : String := "ChairCreditsLaw"
abbrev cL_law : ByteArray := code
def yL_law : MethodName := ⟨RL, "law", "([I)Z"⟩
abbrev vwCl : List vw_C := [(RX0, TX0, 6), (RX1, TX1, 13), (RX2, TX2, 7), (RX3, TX3, 8), (RX4, TX4, 11)]

-- ===== the tables' words that stay good whatever is called, and those of nest mates =====
def cc_GT : List Cond := lw_tbl.filter goodWord
theorem cc_gt {w : Cond} (i : Nat) (h : lw_tbl[i]? = some w) (g : goodWord w = true) : w ∈ cc_GT := List.mem_filter.mpr ⟨List.mem_of_getElem? h, g⟩
def cc_isNest : Cond → Bool
  | .fieldLinkNest .. => true
  | .methodLinkNest .. => true
  | _ => false
def cc_NT : List Cond := tables_1.filter cc_isNest
theorem in_L : Cond.initialized RL ∈ cc_GT := cc_gt 67 (by decide +kernel) (by decide +kernel)
theorem in_X3 : Cond.initialized RX3 ∈ cc_GT := cc_gt 68 (by decide +kernel) (by decide +kernel)
theorem in_X0 : Cond.initialized RX0 ∈ cc_GT := cc_gt 69 (by decide +kernel) (by decide +kernel)
theorem in_X1 : Cond.initialized RX1 ∈ cc_GT := cc_gt 70 (by decide +kernel) (by decide +kernel)
theorem in_X2 : Cond.initialized RX2 ∈ cc_GT := cc_gt 71 (by decide +kernel) (by decide +kernel)
theorem in_X4 : Cond.initialized RX4 ∈ cc_GT := cc_gt 72 (by decide +kernel) (by decide +kernel)
theorem in_J10 : Cond.initialized RJ10 ∈ cc_GT := cc_gt 73 (by decide +kernel) (by decide +kernel)
theorem in_J9 : Cond.initialized RJ9 ∈ cc_GT := cc_gt 74 (by decide +kernel) (by decide +kernel)
theorem cl_L_7 : Cond.classLink RL 7 RX3 ∈ cc_GT := cc_gt 75 (by decide +kernel) (by decide +kernel)
theorem ib_X3 : Cond.instantiable RX3 8 ∈ cc_GT := cc_gt 76 (by decide +kernel) (by decide +kernel)
theorem ml_L_9 : Cond.methodLink RL 9 yX3_init ∈ cc_GT := cc_gt 77 (by decide +kernel) (by decide +kernel)
theorem im_X3_init : Cond.instanceMethod yX3_init ∈ cc_GT := cc_gt 78 (by decide +kernel) (by decide +kernel)
theorem cd_X3_init : Cond.code yX3_init prog_1_method_1_code 2 (none : Option FieldType) ∈ cc_GT := cc_gt 79 (by decide +kernel) (by decide +kernel)
theorem ml_X3_1 : Cond.methodLink RX3 1 ⟨"java/lang/Object", "<init>", "()V"⟩ ∈ cc_GT := cc_gt 80 (by decide +kernel) (by decide +kernel)
theorem im_objinit : Cond.instanceMethod ⟨"java/lang/Object", "<init>", "()V"⟩ ∈ cc_GT := cc_gt 81 (by decide +kernel) (by decide +kernel)
theorem cd_objinit : Cond.code ⟨"java/lang/Object", "<init>", "()V"⟩ object_method_1_code 1 (none : Option FieldType) ∈ cc_GT := cc_gt 82 (by decide +kernel) (by decide +kernel)
theorem cl_X3_7 : Cond.classLink RX3 7 RX0 ∈ cc_GT := cc_gt 83 (by decide +kernel) (by decide +kernel)
theorem ib_X0 : Cond.instantiable RX0 6 ∈ cc_GT := cc_gt 84 (by decide +kernel) (by decide +kernel)
theorem mn_X3_9 : Cond.methodLinkNest RX3 9 yX0_init "ChairCredits" ∈ cc_NT := List.mem_filter.mpr ⟨List.mem_of_getElem? (i := 18) (by decide +kernel), by decide +kernel⟩
theorem im_X0_init : Cond.instanceMethod yX0_init ∈ cc_GT := cc_gt 86 (by decide +kernel) (by decide +kernel)
theorem cd_X0_init : Cond.code yX0_init prog_2_method_1_code 2 (none : Option FieldType) ∈ cc_GT := cc_gt 87 (by decide +kernel) (by decide +kernel)
theorem ml_X0_3 : Cond.methodLink RX0 3 ⟨"java/lang/Object", "<init>", "()V"⟩ ∈ cc_GT := cc_gt 88 (by decide +kernel) (by decide +kernel)
theorem cl_X0_24 : Cond.classLink RX0 24 RX1 ∈ cc_GT := cc_gt 89 (by decide +kernel) (by decide +kernel)
theorem ao_objectChairCreditsLane : Cond.arrayOver (.object "ChairCredits$Lane") ∈ lw_tbl := List.mem_of_getElem? (i := 90) (by decide +kernel)
theorem cl_X0_30 : Cond.classLink RX0 30 RX2 ∈ cc_GT := cc_gt 91 (by decide +kernel) (by decide +kernel)
theorem ao_objectChairCreditsQueue : Cond.arrayOver (.object "ChairCredits$Queue") ∈ lw_tbl := List.mem_of_getElem? (i := 92) (by decide +kernel)
theorem ib_X1 : Cond.instantiable RX1 13 ∈ cc_GT := cc_gt 93 (by decide +kernel) (by decide +kernel)
theorem mn_X0_36 : Cond.methodLinkNest RX0 36 yX1_init "ChairCredits" ∈ cc_NT := List.mem_filter.mpr ⟨List.mem_of_getElem? (i := 27) (by decide +kernel), by decide +kernel⟩
theorem im_X1_init : Cond.instanceMethod yX1_init ∈ cc_GT := cc_gt 95 (by decide +kernel) (by decide +kernel)
theorem cd_X1_init : Cond.code yX1_init prog_3_method_1_code 1 (none : Option FieldType) ∈ cc_GT := cc_gt 96 (by decide +kernel) (by decide +kernel)
theorem ml_X1_3 : Cond.methodLink RX1 3 ⟨"java/lang/Object", "<init>", "()V"⟩ ∈ cc_GT := cc_gt 97 (by decide +kernel) (by decide +kernel)
theorem fl_X1_9 : Cond.fieldLink RX1 9 "ChairCredits$Lane" "chairs" "I" ∈ cc_GT := cc_gt 98 (by decide +kernel) (by decide +kernel)
theorem fl_X1_15 : Cond.fieldLink RX1 15 "ChairCredits$Lane" "period" "I" ∈ cc_GT := cc_gt 99 (by decide +kernel) (by decide +kernel)
theorem fl_X1_18 : Cond.fieldLink RX1 18 "ChairCredits$Lane" "delay" "I" ∈ cc_GT := cc_gt 100 (by decide +kernel) (by decide +kernel)
theorem fl_X1_21 : Cond.fieldLink RX1 21 "ChairCredits$Lane" "credits" "I" ∈ cc_GT := cc_gt 101 (by decide +kernel) (by decide +kernel)
theorem fn_X0_84 : Cond.fieldLinkNest RX0 84 "ChairCredits$Lane" "credits" "I" "ChairCredits" ∈ cc_NT := List.mem_filter.mpr ⟨List.mem_of_getElem? (i := 35) (by decide +kernel), by decide +kernel⟩
theorem fn_X3_111 : Cond.fieldLinkNest RX3 111 "ChairCredits$Lane" "credits" "I" "ChairCredits" ∈ cc_NT := List.mem_filter.mpr ⟨List.mem_of_getElem? (i := 36) (by decide +kernel), by decide +kernel⟩
theorem fl_X1_24 : Cond.fieldLink RX1 24 "ChairCredits$Lane" "turn" "I" ∈ cc_GT := cc_gt 104 (by decide +kernel) (by decide +kernel)
theorem fn_X0_87 : Cond.fieldLinkNest RX0 87 "ChairCredits$Lane" "turn" "I" "ChairCredits" ∈ cc_NT := List.mem_filter.mpr ⟨List.mem_of_getElem? (i := 38) (by decide +kernel), by decide +kernel⟩
theorem fl_X1_27 : Cond.fieldLink RX1 27 "ChairCredits$Lane" "sent" "I" ∈ cc_GT := cc_gt 106 (by decide +kernel) (by decide +kernel)
theorem fl_X1_30 : Cond.fieldLink RX1 30 "ChairCredits$Lane" "taken" "I" ∈ cc_GT := cc_gt 107 (by decide +kernel) (by decide +kernel)
theorem fl_X1_33 : Cond.fieldLink RX1 33 "ChairCredits$Lane" "spilled" "I" ∈ cc_GT := cc_gt 108 (by decide +kernel) (by decide +kernel)
theorem fl_X1_36 : Cond.fieldLink RX1 36 "ChairCredits$Lane" "lost" "I" ∈ cc_GT := cc_gt 109 (by decide +kernel) (by decide +kernel)
theorem fl_X1_39 : Cond.fieldLink RX1 39 "ChairCredits$Lane" "seatedNumbers" "[I" ∈ cc_GT := cc_gt 110 (by decide +kernel) (by decide +kernel)
theorem fn_X3_129 : Cond.fieldLinkNest RX3 129 "ChairCredits$Lane" "seatedNumbers" "[I" "ChairCredits" ∈ cc_NT := List.mem_filter.mpr ⟨List.mem_of_getElem? (i := 44) (by decide +kernel), by decide +kernel⟩
theorem fl_X1_43 : Cond.fieldLink RX1 43 "ChairCredits$Lane" "seatedSize" "I" ∈ cc_GT := cc_gt 112 (by decide +kernel) (by decide +kernel)
theorem fn_X3_53 : Cond.fieldLinkNest RX3 53 "ChairCredits$Lane" "seatedSize" "I" "ChairCredits" ∈ cc_NT := List.mem_filter.mpr ⟨List.mem_of_getElem? (i := 46) (by decide +kernel), by decide +kernel⟩
theorem fl_X1_46 : Cond.fieldLink RX1 46 "ChairCredits$Lane" "wayTicks" "[I" ∈ cc_GT := cc_gt 114 (by decide +kernel) (by decide +kernel)
theorem fn_X3_133 : Cond.fieldLinkNest RX3 133 "ChairCredits$Lane" "wayTicks" "[I" "ChairCredits" ∈ cc_NT := List.mem_filter.mpr ⟨List.mem_of_getElem? (i := 48) (by decide +kernel), by decide +kernel⟩
theorem fl_X1_49 : Cond.fieldLink RX1 49 "ChairCredits$Lane" "wayLength" "I" ∈ cc_GT := cc_gt 116 (by decide +kernel) (by decide +kernel)
theorem fn_X3_105 : Cond.fieldLinkNest RX3 105 "ChairCredits$Lane" "wayLength" "I" "ChairCredits" ∈ cc_NT := List.mem_filter.mpr ⟨List.mem_of_getElem? (i := 50) (by decide +kernel), by decide +kernel⟩
theorem ac_int : Cond.arrayClass .int ∈ cc_GT := cc_gt 145 (by decide +kernel) (by decide +kernel)
theorem ib_X2 : Cond.instantiable RX2 7 ∈ cc_GT := cc_gt 146 (by decide +kernel) (by decide +kernel)
theorem mn_X0_37 : Cond.methodLinkNest RX0 37 yX2_init "ChairCredits" ∈ cc_NT := List.mem_filter.mpr ⟨List.mem_of_getElem? (i := 80) (by decide +kernel), by decide +kernel⟩
theorem im_X2_init : Cond.instanceMethod yX2_init ∈ cc_GT := cc_gt 148 (by decide +kernel) (by decide +kernel)
theorem cd_X2_init : Cond.code yX2_init prog_4_method_1_code 1 (none : Option FieldType) ∈ cc_GT := cc_gt 149 (by decide +kernel) (by decide +kernel)
theorem ml_X2_3 : Cond.methodLink RX2 3 ⟨"java/lang/Object", "<init>", "()V"⟩ ∈ cc_GT := cc_gt 150 (by decide +kernel) (by decide +kernel)
theorem fl_X2_9 : Cond.fieldLink RX2 9 "ChairCredits$Queue" "numbers" "[I" ∈ cc_GT := cc_gt 151 (by decide +kernel) (by decide +kernel)
theorem fn_X3_155 : Cond.fieldLinkNest RX3 155 "ChairCredits$Queue" "numbers" "[I" "ChairCredits" ∈ cc_NT := List.mem_filter.mpr ⟨List.mem_of_getElem? (i := 85) (by decide +kernel), by decide +kernel⟩
theorem fl_X2_15 : Cond.fieldLink RX2 15 "ChairCredits$Queue" "outputs" "[I" ∈ cc_GT := cc_gt 153 (by decide +kernel) (by decide +kernel)
theorem fl_X2_18 : Cond.fieldLink RX2 18 "ChairCredits$Queue" "arrivalTicks" "[I" ∈ cc_GT := cc_gt 154 (by decide +kernel) (by decide +kernel)
theorem fl_X2_21 : Cond.fieldLink RX2 21 "ChairCredits$Queue" "size" "I" ∈ cc_GT := cc_gt 155 (by decide +kernel) (by decide +kernel)
theorem fn_X0_49 : Cond.fieldLinkNest RX0 49 "ChairCredits$Queue" "size" "I" "ChairCredits" ∈ cc_NT := List.mem_filter.mpr ⟨List.mem_of_getElem? (i := 89) (by decide +kernel), by decide +kernel⟩
theorem fn_X3_152 : Cond.fieldLinkNest RX3 152 "ChairCredits$Queue" "size" "I" "ChairCredits" ∈ cc_NT := List.mem_filter.mpr ⟨List.mem_of_getElem? (i := 90) (by decide +kernel), by decide +kernel⟩
theorem fl_X2_25 : Cond.fieldLink RX2 25 "ChairCredits$Queue" "blocked" "I" ∈ cc_GT := cc_gt 158 (by decide +kernel) (by decide +kernel)
theorem fl_X2_28 : Cond.fieldLink RX2 28 "ChairCredits$Queue" "sent" "I" ∈ cc_GT := cc_gt 159 (by decide +kernel) (by decide +kernel)
theorem fl_X2_31 : Cond.fieldLink RX2 31 "ChairCredits$Queue" "hasSent" "Z" ∈ cc_GT := cc_gt 160 (by decide +kernel) (by decide +kernel)
theorem fn_X0_74 : Cond.fieldLinkNest RX0 74 "ChairCredits$Queue" "hasSent" "Z" "ChairCredits" ∈ cc_NT := List.mem_filter.mpr ⟨List.mem_of_getElem? (i := 94) (by decide +kernel), by decide +kernel⟩
theorem fl_X0_9 : Cond.fieldLink RX0 9 "ChairCredits$Box" "tick" "I" ∈ cc_GT := cc_gt 177 (by decide +kernel) (by decide +kernel)
theorem fn_X3_99 : Cond.fieldLinkNest RX3 99 "ChairCredits$Box" "tick" "I" "ChairCredits" ∈ cc_NT := List.mem_filter.mpr ⟨List.mem_of_getElem? (i := 111) (by decide +kernel), by decide +kernel⟩
theorem fl_X0_15 : Cond.fieldLink RX0 15 "ChairCredits$Box" "mode" "I" ∈ cc_GT := cc_gt 179 (by decide +kernel) (by decide +kernel)
theorem fn_X3_71 : Cond.fieldLinkNest RX3 71 "ChairCredits$Box" "mode" "I" "ChairCredits" ∈ cc_NT := List.mem_filter.mpr ⟨List.mem_of_getElem? (i := 113) (by decide +kernel), by decide +kernel⟩
theorem fl_X0_18 : Cond.fieldLink RX0 18 "ChairCredits$Box" "watch" "I" ∈ cc_GT := cc_gt 181 (by decide +kernel) (by decide +kernel)
theorem fn_X3_74 : Cond.fieldLinkNest RX3 74 "ChairCredits$Box" "watch" "I" "ChairCredits" ∈ cc_NT := List.mem_filter.mpr ⟨List.mem_of_getElem? (i := 115) (by decide +kernel), by decide +kernel⟩
theorem fl_X0_21 : Cond.fieldLink RX0 21 "ChairCredits$Box" "arrived" "I" ∈ cc_GT := cc_gt 183 (by decide +kernel) (by decide +kernel)
theorem fl_X0_26 : Cond.fieldLink RX0 26 "ChairCredits$Box" "lanes" "[LChairCredits$Lane;" ∈ cc_GT := cc_gt 184 (by decide +kernel) (by decide +kernel)
theorem fn_X3_49 : Cond.fieldLinkNest RX3 49 "ChairCredits$Box" "lanes" "[LChairCredits$Lane;" "ChairCredits" ∈ cc_NT := List.mem_filter.mpr ⟨List.mem_of_getElem? (i := 118) (by decide +kernel), by decide +kernel⟩
theorem fl_X0_32 : Cond.fieldLink RX0 32 "ChairCredits$Box" "queues" "[LChairCredits$Queue;" ∈ cc_GT := cc_gt 186 (by decide +kernel) (by decide +kernel)
theorem fn_X3_136 : Cond.fieldLinkNest RX3 136 "ChairCredits$Box" "queues" "[LChairCredits$Queue;" "ChairCredits" ∈ cc_NT := List.mem_filter.mpr ⟨List.mem_of_getElem? (i := 120) (by decide +kernel), by decide +kernel⟩
theorem ao_objectChairCreditsBox : Cond.arrayOver (.object "ChairCredits$Box") ∈ lw_tbl := List.mem_of_getElem? (i := 201) (by decide +kernel)
theorem fl_X3_10 : Cond.fieldLink RX3 10 "ChairCredits" "box" "LChairCredits$Box;" ∈ cc_GT := cc_gt 202 (by decide +kernel) (by decide +kernel)
theorem fl_X3_16 : Cond.fieldLink RX3 16 "ChairCredits" "trial" "LChairCredits$Box;" ∈ cc_GT := cc_gt 203 (by decide +kernel) (by decide +kernel)
theorem fl_X3_19 : Cond.fieldLink RX3 19 "ChairCredits" "snapshot" "LChairCredits$Box;" ∈ cc_GT := cc_gt 204 (by decide +kernel) (by decide +kernel)
theorem fl_X3_22 : Cond.fieldLink RX3 22 "ChairCredits" "hasSnapshot" "Z" ∈ cc_GT := cc_gt 205 (by decide +kernel) (by decide +kernel)
theorem fl_X3_26 : Cond.fieldLink RX3 26 "ChairCredits" "history" "[LChairCredits$Box;" ∈ cc_GT := cc_gt 206 (by decide +kernel) (by decide +kernel)
theorem fl_X3_30 : Cond.fieldLink RX3 30 "ChairCredits" "historySize" "I" ∈ cc_GT := cc_gt 207 (by decide +kernel) (by decide +kernel)
theorem fl_X3_34 : Cond.fieldLink RX3 34 "ChairCredits" "text" "[C" ∈ cc_GT := cc_gt 208 (by decide +kernel) (by decide +kernel)
theorem fl_X3_38 : Cond.fieldLink RX3 38 "ChairCredits" "textLength" "I" ∈ cc_GT := cc_gt 209 (by decide +kernel) (by decide +kernel)
theorem ac_char : Cond.arrayClass .char ∈ cc_GT := cc_gt 227 (by decide +kernel) (by decide +kernel)
theorem ml_L_13 : Cond.methodLink RL 13 yX3_setLane ∈ cc_GT := cc_gt 228 (by decide +kernel) (by decide +kernel)
theorem im_X3_setLane : Cond.instanceMethod yX3_setLane ∈ cc_GT := cc_gt 229 (by decide +kernel) (by decide +kernel)
theorem sl_X3_setLane : Cond.selects RX3 yX3_setLane yX3_setLane ∈ cc_GT := cc_gt 230 (by decide +kernel) (by decide +kernel)
theorem cd_X3_setLane : Cond.code yX3_setLane prog_1_method_2_code 6 (some .int) ∈ cc_GT := cc_gt 231 (by decide +kernel) (by decide +kernel)
theorem ml_X3_41 : Cond.methodLink RX3 41 yX3_isPort ∈ cc_GT := cc_gt 232 (by decide +kernel) (by decide +kernel)
theorem st_X3_isPort : Cond.static yX3_isPort ∈ cc_GT := cc_gt 233 (by decide +kernel) (by decide +kernel)
theorem cd_X3_isPort : Cond.code yX3_isPort prog_1_method_24_code 1 (some .boolean) ∈ cc_GT := cc_gt 234 (by decide +kernel) (by decide +kernel)
theorem ml_X3_45 : Cond.methodLink RX3 45 yX3_mostOfLane ∈ cc_GT := cc_gt 235 (by decide +kernel) (by decide +kernel)
theorem st_X3_mostOfLane : Cond.static yX3_mostOfLane ∈ cc_GT := cc_gt 236 (by decide +kernel) (by decide +kernel)
theorem cd_X3_mostOfLane : Cond.code yX3_mostOfLane prog_1_method_26_code 1 (some .int) ∈ cc_GT := cc_gt 237 (by decide +kernel) (by decide +kernel)
theorem mn_X3_58 : Cond.methodLinkNest RX3 58 yX1_setting "ChairCredits" ∈ cc_NT := List.mem_filter.mpr ⟨List.mem_of_getElem? (i := 171) (by decide +kernel), by decide +kernel⟩
theorem im_X1_setting : Cond.instanceMethod yX1_setting ∈ cc_GT := cc_gt 240 (by decide +kernel) (by decide +kernel)
theorem cd_X1_setting : Cond.code yX1_setting prog_3_method_3_code 2 (some .int) ∈ cc_GT := cc_gt 241 (by decide +kernel) (by decide +kernel)
theorem ml_X3_61 : Cond.methodLink RX3 61 yX3_remember ∈ cc_GT := cc_gt 242 (by decide +kernel) (by decide +kernel)
theorem im_X3_remember : Cond.instanceMethod yX3_remember ∈ cc_GT := cc_gt 244 (by decide +kernel) (by decide +kernel)
theorem cd_X3_remember : Cond.code yX3_remember prog_1_method_28_code 1 (none : Option FieldType) ∈ cc_GT := cc_gt 245 (by decide +kernel) (by decide +kernel)
theorem ml_X3_165 : Cond.methodLink RX3 165 yX3_dropOldest ∈ cc_GT := cc_gt 246 (by decide +kernel) (by decide +kernel)
theorem im_X3_dropOldest : Cond.instanceMethod yX3_dropOldest ∈ cc_GT := cc_gt 248 (by decide +kernel) (by decide +kernel)
theorem cd_X3_dropOldest : Cond.code yX3_dropOldest prog_1_method_29_code 3 (none : Option FieldType) ∈ cc_GT := cc_gt 249 (by decide +kernel) (by decide +kernel)
theorem mn_X3_89 : Cond.methodLinkNest RX3 89 yX0_copyFrom "ChairCredits" ∈ cc_NT := List.mem_filter.mpr ⟨List.mem_of_getElem? (i := 183) (by decide +kernel), by decide +kernel⟩
theorem im_X0_copyFrom : Cond.instanceMethod yX0_copyFrom ∈ cc_GT := cc_gt 252 (by decide +kernel) (by decide +kernel)
theorem cd_X0_copyFrom : Cond.code yX0_copyFrom prog_2_method_2_code 3 (none : Option FieldType) ∈ cc_GT := cc_gt 253 (by decide +kernel) (by decide +kernel)
theorem mn_X0_38 : Cond.methodLinkNest RX0 38 yX1_copyFrom "ChairCredits" ∈ cc_NT := List.mem_filter.mpr ⟨List.mem_of_getElem? (i := 187) (by decide +kernel), by decide +kernel⟩
theorem im_X1_copyFrom : Cond.instanceMethod yX1_copyFrom ∈ cc_GT := cc_gt 256 (by decide +kernel) (by decide +kernel)
theorem cd_X1_copyFrom : Cond.code yX1_copyFrom prog_3_method_2_code 2 (none : Option FieldType) ∈ cc_GT := cc_gt 257 (by decide +kernel) (by decide +kernel)
theorem ml_X1_52 : Cond.methodLink RX1 52 ⟨"java/lang/System", "arraycopy", "(Ljava/lang/Object;ILjava/lang/Object;II)V"⟩ ∈ cc_GT := cc_gt 258 (by decide +kernel) (by decide +kernel)
theorem st_arraycopy : Cond.static ⟨"java/lang/System", "arraycopy", "(Ljava/lang/Object;ILjava/lang/Object;II)V"⟩ ∈ cc_GT := cc_gt 259 (by decide +kernel) (by decide +kernel)
theorem nt_arraycopy : Cond.native ⟨"java/lang/System", "arraycopy", "(Ljava/lang/Object;ILjava/lang/Object;II)V"⟩ ∈ cc_GT := cc_gt 260 (by decide +kernel) (by decide +kernel)
theorem mn_X0_42 : Cond.methodLinkNest RX0 42 yX2_copyFrom "ChairCredits" ∈ cc_NT := List.mem_filter.mpr ⟨List.mem_of_getElem? (i := 194) (by decide +kernel), by decide +kernel⟩
theorem im_X2_copyFrom : Cond.instanceMethod yX2_copyFrom ∈ cc_GT := cc_gt 263 (by decide +kernel) (by decide +kernel)
theorem cd_X2_copyFrom : Cond.code yX2_copyFrom prog_4_method_2_code 2 (none : Option FieldType) ∈ cc_GT := cc_gt 264 (by decide +kernel) (by decide +kernel)
theorem ml_X2_35 : Cond.methodLink RX2 35 ⟨"java/lang/System", "arraycopy", "(Ljava/lang/Object;ILjava/lang/Object;II)V"⟩ ∈ cc_GT := cc_gt 265 (by decide +kernel) (by decide +kernel)
theorem mn_X3_64 : Cond.methodLinkNest RX3 64 yX1_change "ChairCredits" ∈ cc_NT := List.mem_filter.mpr ⟨List.mem_of_getElem? (i := 199) (by decide +kernel), by decide +kernel⟩
theorem im_X1_change : Cond.instanceMethod yX1_change ∈ cc_GT := cc_gt 268 (by decide +kernel) (by decide +kernel)
theorem cd_X1_change : Cond.code yX1_change prog_3_method_4_code 3 (none : Option FieldType) ∈ cc_GT := cc_gt 269 (by decide +kernel) (by decide +kernel)
theorem ml_L_18 : Cond.methodLink RL 18 yX3_set ∈ cc_GT := cc_gt 270 (by decide +kernel) (by decide +kernel)
theorem im_X3_set : Cond.instanceMethod yX3_set ∈ cc_GT := cc_gt 271 (by decide +kernel) (by decide +kernel)
theorem sl_X3_set : Cond.selects RX3 yX3_set yX3_set ∈ cc_GT := cc_gt 272 (by decide +kernel) (by decide +kernel)
theorem cd_X3_set : Cond.code yX3_set prog_1_method_3_code 4 (some .int) ∈ cc_GT := cc_gt 273 (by decide +kernel) (by decide +kernel)
theorem ml_X3_68 : Cond.methodLink RX3 68 yX3_mostOfBox ∈ cc_GT := cc_gt 274 (by decide +kernel) (by decide +kernel)
theorem st_X3_mostOfBox : Cond.static yX3_mostOfBox ∈ cc_GT := cc_gt 275 (by decide +kernel) (by decide +kernel)
theorem cd_X3_mostOfBox : Cond.code yX3_mostOfBox prog_1_method_27_code 1 (some .int) ∈ cc_GT := cc_gt 276 (by decide +kernel) (by decide +kernel)
theorem ml_L_23 : Cond.methodLink RL 23 yX3_arrive ∈ cc_GT := cc_gt 277 (by decide +kernel) (by decide +kernel)
theorem im_X3_arrive : Cond.instanceMethod yX3_arrive ∈ cc_GT := cc_gt 278 (by decide +kernel) (by decide +kernel)
theorem sl_X3_arrive : Cond.selects RX3 yX3_arrive yX3_arrive ∈ cc_GT := cc_gt 279 (by decide +kernel) (by decide +kernel)
theorem cd_X3_arrive : Cond.code yX3_arrive prog_1_method_4_code 3 (some .int) ∈ cc_GT := cc_gt 280 (by decide +kernel) (by decide +kernel)
theorem mn_X3_77 : Cond.methodLinkNest RX3 77 yX0_hasRoom "ChairCredits" ∈ cc_NT := List.mem_filter.mpr ⟨List.mem_of_getElem? (i := 214) (by decide +kernel), by decide +kernel⟩
theorem im_X0_hasRoom : Cond.instanceMethod yX0_hasRoom ∈ cc_GT := cc_gt 283 (by decide +kernel) (by decide +kernel)
theorem cd_X0_hasRoom : Cond.code yX0_hasRoom prog_2_method_3_code 3 (some .boolean) ∈ cc_GT := cc_gt 284 (by decide +kernel) (by decide +kernel)
theorem mn_X0_45 : Cond.methodLinkNest RX0 45 yX3_isPort "ChairCredits" ∈ cc_NT := List.mem_filter.mpr ⟨List.mem_of_getElem? (i := 218) (by decide +kernel), by decide +kernel⟩
theorem mn_X3_81 : Cond.methodLinkNest RX3 81 yX0_admit "ChairCredits" ∈ cc_NT := List.mem_filter.mpr ⟨List.mem_of_getElem? (i := 219) (by decide +kernel), by decide +kernel⟩
theorem im_X0_admit : Cond.instanceMethod yX0_admit ∈ cc_GT := cc_gt 288 (by decide +kernel) (by decide +kernel)
theorem cd_X0_admit : Cond.code yX0_admit prog_2_method_4_code 4 (some .int) ∈ cc_GT := cc_gt 289 (by decide +kernel) (by decide +kernel)
theorem mn_X0_52 : Cond.methodLinkNest RX0 52 yX2_append "ChairCredits" ∈ cc_NT := List.mem_filter.mpr ⟨List.mem_of_getElem? (i := 223) (by decide +kernel), by decide +kernel⟩
theorem im_X2_append : Cond.instanceMethod yX2_append ∈ cc_GT := cc_gt 292 (by decide +kernel) (by decide +kernel)
theorem cd_X2_append : Cond.code yX2_append prog_4_method_3_code 4 (none : Option FieldType) ∈ cc_GT := cc_gt 293 (by decide +kernel) (by decide +kernel)
theorem ml_L_27 : Cond.methodLink RL 27 yX3_readArrivals ∈ cc_GT := cc_gt 294 (by decide +kernel) (by decide +kernel)
theorem im_X3_readArrivals : Cond.instanceMethod yX3_readArrivals ∈ cc_GT := cc_gt 295 (by decide +kernel) (by decide +kernel)
theorem sl_X3_readArrivals : Cond.selects RX3 yX3_readArrivals yX3_readArrivals ∈ cc_GT := cc_gt 296 (by decide +kernel) (by decide +kernel)
theorem cd_X3_readArrivals : Cond.code yX3_readArrivals prog_1_method_5_code 3 (some .int) ∈ cc_GT := cc_gt 297 (by decide +kernel) (by decide +kernel)
theorem ml_X3_85 : Cond.methodLink RX3 85 yX3_faultOfText ∈ cc_GT := cc_gt 298 (by decide +kernel) (by decide +kernel)
theorem im_X3_faultOfText : Cond.instanceMethod yX3_faultOfText ∈ cc_GT := cc_gt 300 (by decide +kernel) (by decide +kernel)
theorem cd_X3_faultOfText : Cond.code yX3_faultOfText prog_1_method_30_code 3 (some .int) ∈ cc_GT := cc_gt 301 (by decide +kernel) (by decide +kernel)
theorem ml_X3_168 : Cond.methodLink RX3 168 yX3_dueBehind ∈ cc_GT := cc_gt 302 (by decide +kernel) (by decide +kernel)
theorem st_X3_dueBehind : Cond.static yX3_dueBehind ∈ cc_GT := cc_gt 303 (by decide +kernel) (by decide +kernel)
theorem cd_X3_dueBehind : Cond.code yX3_dueBehind prog_1_method_31_code 2 (some .int) ∈ cc_GT := cc_gt 304 (by decide +kernel) (by decide +kernel)
theorem ml_X3_93 : Cond.methodLink RX3 93 yX3_admitTextToTrial ∈ cc_GT := cc_gt 305 (by decide +kernel) (by decide +kernel)
theorem im_X3_admitTextToTrial : Cond.instanceMethod yX3_admitTextToTrial ∈ cc_GT := cc_gt 307 (by decide +kernel) (by decide +kernel)
theorem cd_X3_admitTextToTrial : Cond.code yX3_admitTextToTrial prog_1_method_32_code 7 (some .int) ∈ cc_GT := cc_gt 308 (by decide +kernel) (by decide +kernel)
theorem ml_X3_172 : Cond.methodLink RX3 172 yX3_tellsTimes ∈ cc_GT := cc_gt 309 (by decide +kernel) (by decide +kernel)
theorem im_X3_tellsTimes : Cond.instanceMethod yX3_tellsTimes ∈ cc_GT := cc_gt 311 (by decide +kernel) (by decide +kernel)
theorem cd_X3_tellsTimes : Cond.code yX3_tellsTimes prog_1_method_33_code 2 (some .boolean) ∈ cc_GT := cc_gt 312 (by decide +kernel) (by decide +kernel)
theorem ml_L_32 : Cond.methodLink RL 32 yX3_pass ∈ cc_GT := cc_gt 313 (by decide +kernel) (by decide +kernel)
theorem im_X3_pass : Cond.instanceMethod yX3_pass ∈ cc_GT := cc_gt 314 (by decide +kernel) (by decide +kernel)
theorem sl_X3_pass : Cond.selects RX3 yX3_pass yX3_pass ∈ cc_GT := cc_gt 315 (by decide +kernel) (by decide +kernel)
theorem cd_X3_pass : Cond.code yX3_pass prog_1_method_6_code 2 (some .int) ∈ cc_GT := cc_gt 316 (by decide +kernel) (by decide +kernel)
theorem ml_X3_96 : Cond.methodLink RX3 96 yX3_isTickCount ∈ cc_GT := cc_gt 317 (by decide +kernel) (by decide +kernel)
theorem st_X3_isTickCount : Cond.static yX3_isTickCount ∈ cc_GT := cc_gt 318 (by decide +kernel) (by decide +kernel)
theorem cd_X3_isTickCount : Cond.code yX3_isTickCount prog_1_method_25_code 1 (some .boolean) ∈ cc_GT := cc_gt 319 (by decide +kernel) (by decide +kernel)
theorem mn_X3_102 : Cond.methodLinkNest RX3 102 yX0_passTicks "ChairCredits" ∈ cc_NT := List.mem_filter.mpr ⟨List.mem_of_getElem? (i := 253) (by decide +kernel), by decide +kernel⟩
theorem im_X0_passTicks : Cond.instanceMethod yX0_passTicks ∈ cc_GT := cc_gt 322 (by decide +kernel) (by decide +kernel)
theorem cd_X0_passTicks : Cond.code yX0_passTicks prog_2_method_5_code 4 (some .int) ∈ cc_GT := cc_gt 323 (by decide +kernel) (by decide +kernel)
theorem ml_X0_56 : Cond.methodLink RX0 56 yX0_passTick ∈ cc_GT := cc_gt 324 (by decide +kernel) (by decide +kernel)
theorem im_X0_passTick : Cond.instanceMethod yX0_passTick ∈ cc_GT := cc_gt 326 (by decide +kernel) (by decide +kernel)
theorem cd_X0_passTick : Cond.code yX0_passTick prog_2_method_6_code 3 (some .int) ∈ cc_GT := cc_gt 327 (by decide +kernel) (by decide +kernel)
theorem ml_X0_60 : Cond.methodLink RX0 60 yX0_beginTick ∈ cc_GT := cc_gt 328 (by decide +kernel) (by decide +kernel)
theorem im_X0_beginTick : Cond.instanceMethod yX0_beginTick ∈ cc_GT := cc_gt 330 (by decide +kernel) (by decide +kernel)
theorem cd_X0_beginTick : Cond.code yX0_beginTick prog_2_method_7_code 3 (none : Option FieldType) ∈ cc_GT := cc_gt 331 (by decide +kernel) (by decide +kernel)
theorem mn_X0_78 : Cond.methodLinkNest RX0 78 yX1_letCreditsCome "ChairCredits" ∈ cc_NT := List.mem_filter.mpr ⟨List.mem_of_getElem? (i := 265) (by decide +kernel), by decide +kernel⟩
theorem im_X1_letCreditsCome : Cond.instanceMethod yX1_letCreditsCome ∈ cc_GT := cc_gt 334 (by decide +kernel) (by decide +kernel)
theorem cd_X1_letCreditsCome : Cond.code yX1_letCreditsCome prog_3_method_8_code 3 (none : Option FieldType) ∈ cc_GT := cc_gt 335 (by decide +kernel) (by decide +kernel)
theorem ml_X1_62 : Cond.methodLink RX1 62 yX1_creditComes ∈ cc_GT := cc_gt 336 (by decide +kernel) (by decide +kernel)
theorem im_X1_creditComes : Cond.instanceMethod yX1_creditComes ∈ cc_GT := cc_gt 338 (by decide +kernel) (by decide +kernel)
theorem cd_X1_creditComes : Cond.code yX1_creditComes prog_3_method_9_code 2 (some .boolean) ∈ cc_GT := cc_gt 339 (by decide +kernel) (by decide +kernel)
theorem ml_X1_66 : Cond.methodLink RX1 66 yX1_dropFirstOnTheWay ∈ cc_GT := cc_gt 340 (by decide +kernel) (by decide +kernel)
theorem im_X1_dropFirstOnTheWay : Cond.instanceMethod yX1_dropFirstOnTheWay ∈ cc_GT := cc_gt 342 (by decide +kernel) (by decide +kernel)
theorem cd_X1_dropFirstOnTheWay : Cond.code yX1_dropFirstOnTheWay prog_3_method_11_code 2 (none : Option FieldType) ∈ cc_GT := cc_gt 343 (by decide +kernel) (by decide +kernel)
theorem mn_X0_81 : Cond.methodLinkNest RX0 81 yX1_mend "ChairCredits" ∈ cc_NT := List.mem_filter.mpr ⟨List.mem_of_getElem? (i := 277) (by decide +kernel), by decide +kernel⟩
theorem im_X1_mend : Cond.instanceMethod yX1_mend ∈ cc_GT := cc_gt 346 (by decide +kernel) (by decide +kernel)
theorem cd_X1_mend : Cond.code yX1_mend prog_3_method_6_code 1 (none : Option FieldType) ∈ cc_GT := cc_gt 347 (by decide +kernel) (by decide +kernel)
theorem ml_X1_58 : Cond.methodLink RX1 58 yX1_missing ∈ cc_GT := cc_gt 348 (by decide +kernel) (by decide +kernel)
theorem im_X1_missing : Cond.instanceMethod yX1_missing ∈ cc_GT := cc_gt 350 (by decide +kernel) (by decide +kernel)
theorem cd_X1_missing : Cond.code yX1_missing prog_3_method_5_code 1 (some .int) ∈ cc_GT := cc_gt 351 (by decide +kernel) (by decide +kernel)
theorem ml_X0_63 : Cond.methodLink RX0 63 yX0_sendTo ∈ cc_GT := cc_gt 352 (by decide +kernel) (by decide +kernel)
theorem im_X0_sendTo : Cond.instanceMethod yX0_sendTo ∈ cc_GT := cc_gt 354 (by decide +kernel) (by decide +kernel)
theorem cd_X0_sendTo : Cond.code yX0_sendTo prog_2_method_8_code 7 (some .int) ∈ cc_GT := cc_gt 355 (by decide +kernel) (by decide +kernel)
theorem mn_X0_90 : Cond.methodLinkNest RX0 90 yX2_offerFor "ChairCredits" ∈ cc_NT := List.mem_filter.mpr ⟨List.mem_of_getElem? (i := 289) (by decide +kernel), by decide +kernel⟩
theorem im_X2_offerFor : Cond.instanceMethod yX2_offerFor ∈ cc_GT := cc_gt 358 (by decide +kernel) (by decide +kernel)
theorem cd_X2_offerFor : Cond.code yX2_offerFor prog_4_method_4_code 5 (some .int) ∈ cc_GT := cc_gt 359 (by decide +kernel) (by decide +kernel)
theorem ml_X2_41 : Cond.methodLink RX2 41 yJ9_min_7cf53 ∈ cc_GT := cc_gt 360 (by decide +kernel) (by decide +kernel)
theorem st_J9_min_7cf53 : Cond.static yJ9_min_7cf53 ∈ cc_GT := cc_gt 361 (by decide +kernel) (by decide +kernel)
theorem cd_J9_min_7cf53 : Cond.code yJ9_min_7cf53 prog_7_method_69_code 2 (some .int) ∈ cc_GT := cc_gt 362 (by decide +kernel) (by decide +kernel)
theorem mn_X0_94 : Cond.methodLinkNest RX0 94 yX2_sendFrom "ChairCredits" ∈ cc_NT := List.mem_filter.mpr ⟨List.mem_of_getElem? (i := 296) (by decide +kernel), by decide +kernel⟩
theorem im_X2_sendFrom : Cond.instanceMethod yX2_sendFrom ∈ cc_GT := cc_gt 365 (by decide +kernel) (by decide +kernel)
theorem cd_X2_sendFrom : Cond.code yX2_sendFrom prog_4_method_5_code 4 (some .int) ∈ cc_GT := cc_gt 366 (by decide +kernel) (by decide +kernel)
theorem mn_X0_97 : Cond.methodLinkNest RX0 97 yX1_receive "ChairCredits" ∈ cc_NT := List.mem_filter.mpr ⟨List.mem_of_getElem? (i := 300) (by decide +kernel), by decide +kernel⟩
theorem im_X1_receive : Cond.instanceMethod yX1_receive ∈ cc_GT := cc_gt 369 (by decide +kernel) (by decide +kernel)
theorem cd_X1_receive : Cond.code yX1_receive prog_3_method_12_code 2 (none : Option FieldType) ∈ cc_GT := cc_gt 370 (by decide +kernel) (by decide +kernel)
theorem mn_X0_67 : Cond.methodLinkNest RX0 67 yX1_takeIfDue "ChairCredits" ∈ cc_NT := List.mem_filter.mpr ⟨List.mem_of_getElem? (i := 304) (by decide +kernel), by decide +kernel⟩
theorem im_X1_takeIfDue : Cond.instanceMethod yX1_takeIfDue ∈ cc_GT := cc_gt 373 (by decide +kernel) (by decide +kernel)
theorem cd_X1_takeIfDue : Cond.code yX1_takeIfDue prog_3_method_13_code 4 (none : Option FieldType) ∈ cc_GT := cc_gt 374 (by decide +kernel) (by decide +kernel)
theorem ml_X1_69 : Cond.methodLink RX1 69 yX1_sendCreditBack ∈ cc_GT := cc_gt 375 (by decide +kernel) (by decide +kernel)
theorem im_X1_sendCreditBack : Cond.instanceMethod yX1_sendCreditBack ∈ cc_GT := cc_gt 377 (by decide +kernel) (by decide +kernel)
theorem cd_X1_sendCreditBack : Cond.code yX1_sendCreditBack prog_3_method_14_code 3 (none : Option FieldType) ∈ cc_GT := cc_gt 378 (by decide +kernel) (by decide +kernel)
theorem mn_X0_71 : Cond.methodLinkNest RX0 71 yX2_countBlocked "ChairCredits" ∈ cc_NT := List.mem_filter.mpr ⟨List.mem_of_getElem? (i := 312) (by decide +kernel), by decide +kernel⟩
theorem im_X2_countBlocked : Cond.instanceMethod yX2_countBlocked ∈ cc_GT := cc_gt 381 (by decide +kernel) (by decide +kernel)
theorem cd_X2_countBlocked : Cond.code yX2_countBlocked prog_4_method_6_code 1 (none : Option FieldType) ∈ cc_GT := cc_gt 382 (by decide +kernel) (by decide +kernel)
theorem ml_L_37 : Cond.methodLink RL 37 yX3_lose ∈ cc_GT := cc_gt 383 (by decide +kernel) (by decide +kernel)
theorem im_X3_lose : Cond.instanceMethod yX3_lose ∈ cc_GT := cc_gt 384 (by decide +kernel) (by decide +kernel)
theorem sl_X3_lose : Cond.selects RX3 yX3_lose yX3_lose ∈ cc_GT := cc_gt 385 (by decide +kernel) (by decide +kernel)
theorem cd_X3_lose : Cond.code yX3_lose prog_1_method_7_code 3 (some .int) ∈ cc_GT := cc_gt 386 (by decide +kernel) (by decide +kernel)
theorem mn_X3_108 : Cond.methodLinkNest RX3 108 yX1_loseFirst "ChairCredits" ∈ cc_NT := List.mem_filter.mpr ⟨List.mem_of_getElem? (i := 320) (by decide +kernel), by decide +kernel⟩
theorem im_X1_loseFirst : Cond.instanceMethod yX1_loseFirst ∈ cc_GT := cc_gt 389 (by decide +kernel) (by decide +kernel)
theorem cd_X1_loseFirst : Cond.code yX1_loseFirst prog_3_method_10_code 1 (none : Option FieldType) ∈ cc_GT := cc_gt 390 (by decide +kernel) (by decide +kernel)
theorem ml_L_41 : Cond.methodLink RL 41 yX3_forge ∈ cc_GT := cc_gt 391 (by decide +kernel) (by decide +kernel)
theorem im_X3_forge : Cond.instanceMethod yX3_forge ∈ cc_GT := cc_gt 392 (by decide +kernel) (by decide +kernel)
theorem sl_X3_forge : Cond.selects RX3 yX3_forge yX3_forge ∈ cc_GT := cc_gt 393 (by decide +kernel) (by decide +kernel)
theorem cd_X3_forge : Cond.code yX3_forge prog_1_method_8_code 3 (some .int) ∈ cc_GT := cc_gt 394 (by decide +kernel) (by decide +kernel)
theorem ml_L_45 : Cond.methodLink RL 45 yX3_repair ∈ cc_GT := cc_gt 395 (by decide +kernel) (by decide +kernel)
theorem im_X3_repair : Cond.instanceMethod yX3_repair ∈ cc_GT := cc_gt 396 (by decide +kernel) (by decide +kernel)
theorem sl_X3_repair : Cond.selects RX3 yX3_repair yX3_repair ∈ cc_GT := cc_gt 397 (by decide +kernel) (by decide +kernel)
theorem cd_X3_repair : Cond.code yX3_repair prog_1_method_9_code 4 (some .int) ∈ cc_GT := cc_gt 398 (by decide +kernel) (by decide +kernel)
theorem mn_X3_114 : Cond.methodLinkNest RX3 114 yX1_missing "ChairCredits" ∈ cc_NT := List.mem_filter.mpr ⟨List.mem_of_getElem? (i := 332) (by decide +kernel), by decide +kernel⟩
theorem mn_X3_117 : Cond.methodLinkNest RX3 117 yX1_mend "ChairCredits" ∈ cc_NT := List.mem_filter.mpr ⟨List.mem_of_getElem? (i := 333) (by decide +kernel), by decide +kernel⟩
theorem ml_L_49 : Cond.methodLink RL 49 yX3_type ∈ cc_GT := cc_gt 401 (by decide +kernel) (by decide +kernel)
theorem im_X3_type : Cond.instanceMethod yX3_type ∈ cc_GT := cc_gt 402 (by decide +kernel) (by decide +kernel)
theorem sl_X3_type : Cond.selects RX3 yX3_type yX3_type ∈ cc_GT := cc_gt 403 (by decide +kernel) (by decide +kernel)
theorem cd_X3_type : Cond.code yX3_type prog_1_method_10_code 2 (some .int) ∈ cc_GT := cc_gt 404 (by decide +kernel) (by decide +kernel)
theorem ml_L_54 : Cond.methodLink RL 54 yX3_clearText ∈ cc_GT := cc_gt 405 (by decide +kernel) (by decide +kernel)
theorem im_X3_clearText : Cond.instanceMethod yX3_clearText ∈ cc_GT := cc_gt 406 (by decide +kernel) (by decide +kernel)
theorem sl_X3_clearText : Cond.selects RX3 yX3_clearText yX3_clearText ∈ cc_GT := cc_gt 407 (by decide +kernel) (by decide +kernel)
theorem cd_X3_clearText : Cond.code yX3_clearText prog_1_method_11_code 2 (some .int) ∈ cc_GT := cc_gt 408 (by decide +kernel) (by decide +kernel)
theorem ml_L_58 : Cond.methodLink RL 58 yX3_undo ∈ cc_GT := cc_gt 409 (by decide +kernel) (by decide +kernel)
theorem im_X3_undo : Cond.instanceMethod yX3_undo ∈ cc_GT := cc_gt 410 (by decide +kernel) (by decide +kernel)
theorem sl_X3_undo : Cond.selects RX3 yX3_undo yX3_undo ∈ cc_GT := cc_gt 411 (by decide +kernel) (by decide +kernel)
theorem cd_X3_undo : Cond.code yX3_undo prog_1_method_12_code 1 (some .int) ∈ cc_GT := cc_gt 412 (by decide +kernel) (by decide +kernel)
theorem ml_L_62 : Cond.methodLink RL 62 yX3_keep ∈ cc_GT := cc_gt 413 (by decide +kernel) (by decide +kernel)
theorem im_X3_keep : Cond.instanceMethod yX3_keep ∈ cc_GT := cc_gt 414 (by decide +kernel) (by decide +kernel)
theorem sl_X3_keep : Cond.selects RX3 yX3_keep yX3_keep ∈ cc_GT := cc_gt 415 (by decide +kernel) (by decide +kernel)
theorem cd_X3_keep : Cond.code yX3_keep prog_1_method_13_code 1 (some .int) ∈ cc_GT := cc_gt 416 (by decide +kernel) (by decide +kernel)
theorem ml_L_66 : Cond.methodLink RL 66 yX3_restore ∈ cc_GT := cc_gt 417 (by decide +kernel) (by decide +kernel)
theorem im_X3_restore : Cond.instanceMethod yX3_restore ∈ cc_GT := cc_gt 418 (by decide +kernel) (by decide +kernel)
theorem sl_X3_restore : Cond.selects RX3 yX3_restore yX3_restore ∈ cc_GT := cc_gt 419 (by decide +kernel) (by decide +kernel)
theorem cd_X3_restore : Cond.code yX3_restore prog_1_method_14_code 1 (some .int) ∈ cc_GT := cc_gt 420 (by decide +kernel) (by decide +kernel)
theorem ml_L_70 : Cond.methodLink RL 70 yX3_lane ∈ cc_GT := cc_gt 421 (by decide +kernel) (by decide +kernel)
theorem im_X3_lane : Cond.instanceMethod yX3_lane ∈ cc_GT := cc_gt 422 (by decide +kernel) (by decide +kernel)
theorem sl_X3_lane : Cond.selects RX3 yX3_lane yX3_lane ∈ cc_GT := cc_gt 423 (by decide +kernel) (by decide +kernel)
theorem cd_X3_lane : Cond.code yX3_lane prog_1_method_15_code 3 (some .int) ∈ cc_GT := cc_gt 424 (by decide +kernel) (by decide +kernel)
theorem mn_X3_120 : Cond.methodLinkNest RX3 120 yX0_waitingFor "ChairCredits" ∈ cc_NT := List.mem_filter.mpr ⟨List.mem_of_getElem? (i := 358) (by decide +kernel), by decide +kernel⟩
theorem im_X0_waitingFor : Cond.instanceMethod yX0_waitingFor ∈ cc_GT := cc_gt 427 (by decide +kernel) (by decide +kernel)
theorem cd_X0_waitingFor : Cond.code yX0_waitingFor prog_2_method_9_code 4 (some .int) ∈ cc_GT := cc_gt 428 (by decide +kernel) (by decide +kernel)
theorem mn_X0_100 : Cond.methodLinkNest RX0 100 yX2_waitingFor "ChairCredits" ∈ cc_NT := List.mem_filter.mpr ⟨List.mem_of_getElem? (i := 362) (by decide +kernel), by decide +kernel⟩
theorem im_X2_waitingFor : Cond.instanceMethod yX2_waitingFor ∈ cc_GT := cc_gt 431 (by decide +kernel) (by decide +kernel)
theorem cd_X2_waitingFor : Cond.code yX2_waitingFor prog_4_method_7_code 4 (some .int) ∈ cc_GT := cc_gt 432 (by decide +kernel) (by decide +kernel)
theorem mn_X3_123 : Cond.methodLinkNest RX3 123 yX0_isStuck "ChairCredits" ∈ cc_NT := List.mem_filter.mpr ⟨List.mem_of_getElem? (i := 366) (by decide +kernel), by decide +kernel⟩
theorem im_X0_isStuck : Cond.instanceMethod yX0_isStuck ∈ cc_GT := cc_gt 435 (by decide +kernel) (by decide +kernel)
theorem cd_X0_isStuck : Cond.code yX0_isStuck prog_2_method_10_code 2 (some .boolean) ∈ cc_GT := cc_gt 436 (by decide +kernel) (by decide +kernel)
theorem mn_X0_103 : Cond.methodLinkNest RX0 103 yX1_isDry "ChairCredits" ∈ cc_NT := List.mem_filter.mpr ⟨List.mem_of_getElem? (i := 370) (by decide +kernel), by decide +kernel⟩
theorem im_X1_isDry : Cond.instanceMethod yX1_isDry ∈ cc_GT := cc_gt 439 (by decide +kernel) (by decide +kernel)
theorem cd_X1_isDry : Cond.code yX1_isDry prog_3_method_7_code 1 (some .boolean) ∈ cc_GT := cc_gt 440 (by decide +kernel) (by decide +kernel)
theorem ml_X0_107 : Cond.methodLink RX0 107 yX0_waitingFor ∈ cc_GT := cc_gt 441 (by decide +kernel) (by decide +kernel)
theorem mn_X3_126 : Cond.methodLinkNest RX3 126 yX1_figure "ChairCredits" ∈ cc_NT := List.mem_filter.mpr ⟨List.mem_of_getElem? (i := 375) (by decide +kernel), by decide +kernel⟩
theorem im_X1_figure : Cond.instanceMethod yX1_figure ∈ cc_GT := cc_gt 444 (by decide +kernel) (by decide +kernel)
theorem cd_X1_figure : Cond.code yX1_figure prog_3_method_15_code 2 (some .int) ∈ cc_GT := cc_gt 445 (by decide +kernel) (by decide +kernel)
theorem ml_L_74 : Cond.methodLink RL 74 yX3_seated ∈ cc_GT := cc_gt 446 (by decide +kernel) (by decide +kernel)
theorem im_X3_seated : Cond.instanceMethod yX3_seated ∈ cc_GT := cc_gt 447 (by decide +kernel) (by decide +kernel)
theorem sl_X3_seated : Cond.selects RX3 yX3_seated yX3_seated ∈ cc_GT := cc_gt 448 (by decide +kernel) (by decide +kernel)
theorem cd_X3_seated : Cond.code yX3_seated prog_1_method_16_code 4 (some .int) ∈ cc_GT := cc_gt 449 (by decide +kernel) (by decide +kernel)
theorem ml_L_78 : Cond.methodLink RL 78 yX3_onTheWay ∈ cc_GT := cc_gt 450 (by decide +kernel) (by decide +kernel)
theorem im_X3_onTheWay : Cond.instanceMethod yX3_onTheWay ∈ cc_GT := cc_gt 451 (by decide +kernel) (by decide +kernel)
theorem sl_X3_onTheWay : Cond.selects RX3 yX3_onTheWay yX3_onTheWay ∈ cc_GT := cc_gt 452 (by decide +kernel) (by decide +kernel)
theorem cd_X3_onTheWay : Cond.code yX3_onTheWay prog_1_method_17_code 4 (some .int) ∈ cc_GT := cc_gt 453 (by decide +kernel) (by decide +kernel)
theorem ml_L_82 : Cond.methodLink RL 82 yX3_input ∈ cc_GT := cc_gt 454 (by decide +kernel) (by decide +kernel)
theorem im_X3_input : Cond.instanceMethod yX3_input ∈ cc_GT := cc_gt 455 (by decide +kernel) (by decide +kernel)
theorem sl_X3_input : Cond.selects RX3 yX3_input yX3_input ∈ cc_GT := cc_gt 456 (by decide +kernel) (by decide +kernel)
theorem cd_X3_input : Cond.code yX3_input prog_1_method_18_code 3 (some .int) ∈ cc_GT := cc_gt 457 (by decide +kernel) (by decide +kernel)
theorem mn_X3_140 : Cond.methodLinkNest RX3 140 yX2_figure "ChairCredits" ∈ cc_NT := List.mem_filter.mpr ⟨List.mem_of_getElem? (i := 391) (by decide +kernel), by decide +kernel⟩
theorem im_X2_figure : Cond.instanceMethod yX2_figure ∈ cc_GT := cc_gt 460 (by decide +kernel) (by decide +kernel)
theorem cd_X2_figure : Cond.code yX2_figure prog_4_method_9_code 2 (some .int) ∈ cc_GT := cc_gt 461 (by decide +kernel) (by decide +kernel)
theorem ml_L_86 : Cond.methodLink RL 86 yX3_packet ∈ cc_GT := cc_gt 462 (by decide +kernel) (by decide +kernel)
theorem im_X3_packet : Cond.instanceMethod yX3_packet ∈ cc_GT := cc_gt 463 (by decide +kernel) (by decide +kernel)
theorem sl_X3_packet : Cond.selects RX3 yX3_packet yX3_packet ∈ cc_GT := cc_gt 464 (by decide +kernel) (by decide +kernel)
theorem cd_X3_packet : Cond.code yX3_packet prog_1_method_19_code 4 (some .int) ∈ cc_GT := cc_gt 465 (by decide +kernel) (by decide +kernel)
theorem mn_X3_143 : Cond.methodLinkNest RX3 143 yX2_packetFigure "ChairCredits" ∈ cc_NT := List.mem_filter.mpr ⟨List.mem_of_getElem? (i := 399) (by decide +kernel), by decide +kernel⟩
theorem im_X2_packetFigure : Cond.instanceMethod yX2_packetFigure ∈ cc_GT := cc_gt 468 (by decide +kernel) (by decide +kernel)
theorem cd_X2_packetFigure : Cond.code yX2_packetFigure prog_4_method_10_code 3 (some .int) ∈ cc_GT := cc_gt 469 (by decide +kernel) (by decide +kernel)
theorem ml_L_90 : Cond.methodLink RL 90 yX3_next ∈ cc_GT := cc_gt 470 (by decide +kernel) (by decide +kernel)
theorem im_X3_next : Cond.instanceMethod yX3_next ∈ cc_GT := cc_gt 471 (by decide +kernel) (by decide +kernel)
theorem sl_X3_next : Cond.selects RX3 yX3_next yX3_next ∈ cc_GT := cc_gt 472 (by decide +kernel) (by decide +kernel)
theorem cd_X3_next : Cond.code yX3_next prog_1_method_20_code 4 (some .int) ∈ cc_GT := cc_gt 473 (by decide +kernel) (by decide +kernel)
theorem mn_X3_146 : Cond.methodLinkNest RX3 146 yX0_beginTick "ChairCredits" ∈ cc_NT := List.mem_filter.mpr ⟨List.mem_of_getElem? (i := 407) (by decide +kernel), by decide +kernel⟩
theorem mn_X3_149 : Cond.methodLinkNest RX3 149 yX0_sendTo "ChairCredits" ∈ cc_NT := List.mem_filter.mpr ⟨List.mem_of_getElem? (i := 408) (by decide +kernel), by decide +kernel⟩
theorem ml_L_94 : Cond.methodLink RL 94 yX3_leavesIn ∈ cc_GT := cc_gt 476 (by decide +kernel) (by decide +kernel)
theorem im_X3_leavesIn : Cond.instanceMethod yX3_leavesIn ∈ cc_GT := cc_gt 477 (by decide +kernel) (by decide +kernel)
theorem sl_X3_leavesIn : Cond.selects RX3 yX3_leavesIn yX3_leavesIn ∈ cc_GT := cc_gt 478 (by decide +kernel) (by decide +kernel)
theorem cd_X3_leavesIn : Cond.code yX3_leavesIn prog_1_method_21_code 5 (some .int) ∈ cc_GT := cc_gt 479 (by decide +kernel) (by decide +kernel)
theorem mn_X3_158 : Cond.methodLinkNest RX3 158 yX0_passTick "ChairCredits" ∈ cc_NT := List.mem_filter.mpr ⟨List.mem_of_getElem? (i := 413) (by decide +kernel), by decide +kernel⟩
theorem mn_X3_161 : Cond.methodLinkNest RX3 161 yX2_holds "ChairCredits" ∈ cc_NT := List.mem_filter.mpr ⟨List.mem_of_getElem? (i := 414) (by decide +kernel), by decide +kernel⟩
theorem im_X2_holds : Cond.instanceMethod yX2_holds ∈ cc_GT := cc_gt 483 (by decide +kernel) (by decide +kernel)
theorem cd_X2_holds : Cond.code yX2_holds prog_4_method_8_code 3 (some .boolean) ∈ cc_GT := cc_gt 484 (by decide +kernel) (by decide +kernel)
theorem ml_L_98 : Cond.methodLink RL 98 yX3_wouldSend ∈ cc_GT := cc_gt 485 (by decide +kernel) (by decide +kernel)
theorem im_X3_wouldSend : Cond.instanceMethod yX3_wouldSend ∈ cc_GT := cc_gt 486 (by decide +kernel) (by decide +kernel)
theorem sl_X3_wouldSend : Cond.selects RX3 yX3_wouldSend yX3_wouldSend ∈ cc_GT := cc_gt 487 (by decide +kernel) (by decide +kernel)
theorem cd_X3_wouldSend : Cond.code yX3_wouldSend prog_1_method_22_code 3 (some .int) ∈ cc_GT := cc_gt 488 (by decide +kernel) (by decide +kernel)
theorem ml_L_102 : Cond.methodLink RL 102 yX3_count ∈ cc_GT := cc_gt 489 (by decide +kernel) (by decide +kernel)
theorem im_X3_count : Cond.instanceMethod yX3_count ∈ cc_GT := cc_gt 490 (by decide +kernel) (by decide +kernel)
theorem sl_X3_count : Cond.selects RX3 yX3_count yX3_count ∈ cc_GT := cc_gt 491 (by decide +kernel) (by decide +kernel)
theorem cd_X3_count : Cond.code yX3_count prog_1_method_23_code 2 (some .int) ∈ cc_GT := cc_gt 492 (by decide +kernel) (by decide +kernel)
theorem mn_X3_164 : Cond.methodLinkNest RX3 164 yX0_figure "ChairCredits" ∈ cc_NT := List.mem_filter.mpr ⟨List.mem_of_getElem? (i := 426) (by decide +kernel), by decide +kernel⟩
theorem im_X0_figure : Cond.instanceMethod yX0_figure ∈ cc_GT := cc_gt 495 (by decide +kernel) (by decide +kernel)
theorem cd_X0_figure : Cond.code yX0_figure prog_2_method_12_code 2 (some .int) ∈ cc_GT := cc_gt 496 (by decide +kernel) (by decide +kernel)
theorem ml_X0_111 : Cond.methodLink RX0 111 yX0_sumOfQueues ∈ cc_GT := cc_gt 497 (by decide +kernel) (by decide +kernel)
theorem im_X0_sumOfQueues : Cond.instanceMethod yX0_sumOfQueues ∈ cc_GT := cc_gt 499 (by decide +kernel) (by decide +kernel)
theorem cd_X0_sumOfQueues : Cond.code yX0_sumOfQueues prog_2_method_14_code 4 (some .int) ∈ cc_GT := cc_gt 500 (by decide +kernel) (by decide +kernel)
theorem mn_X0_123 : Cond.methodLinkNest RX0 123 yX2_figure "ChairCredits" ∈ cc_NT := List.mem_filter.mpr ⟨List.mem_of_getElem? (i := 434) (by decide +kernel), by decide +kernel⟩
theorem ml_X0_114 : Cond.methodLink RX0 114 yX0_sumOfLanes ∈ cc_GT := cc_gt 502 (by decide +kernel) (by decide +kernel)
theorem im_X0_sumOfLanes : Cond.instanceMethod yX0_sumOfLanes ∈ cc_GT := cc_gt 504 (by decide +kernel) (by decide +kernel)
theorem cd_X0_sumOfLanes : Cond.code yX0_sumOfLanes prog_2_method_13_code 4 (some .int) ∈ cc_GT := cc_gt 505 (by decide +kernel) (by decide +kernel)
theorem mn_X0_120 : Cond.methodLinkNest RX0 120 yX1_figure "ChairCredits" ∈ cc_NT := List.mem_filter.mpr ⟨List.mem_of_getElem? (i := 439) (by decide +kernel), by decide +kernel⟩
theorem ml_X0_117 : Cond.methodLink RX0 117 yX0_stuckLanes ∈ cc_GT := cc_gt 507 (by decide +kernel) (by decide +kernel)
theorem im_X0_stuckLanes : Cond.instanceMethod yX0_stuckLanes ∈ cc_GT := cc_gt 509 (by decide +kernel) (by decide +kernel)
theorem cd_X0_stuckLanes : Cond.code yX0_stuckLanes prog_2_method_11_code 3 (some .int) ∈ cc_GT := cc_gt 510 (by decide +kernel) (by decide +kernel)
theorem ml_X0_108 : Cond.methodLink RX0 108 yX0_isStuck ∈ cc_GT := cc_gt 511 (by decide +kernel) (by decide +kernel)
theorem cl_L_10 : Cond.classLink RL 10 RX4 ∈ cc_GT := cc_gt 512 (by decide +kernel) (by decide +kernel)
theorem ib_X4 : Cond.instantiable RX4 11 ∈ cc_GT := cc_gt 513 (by decide +kernel) (by decide +kernel)
theorem ml_L_12 : Cond.methodLink RL 12 yX4_init ∈ cc_GT := cc_gt 514 (by decide +kernel) (by decide +kernel)
theorem im_X4_init : Cond.instanceMethod yX4_init ∈ cc_GT := cc_gt 515 (by decide +kernel) (by decide +kernel)
theorem cd_X4_init : Cond.code yX4_init prog_6_method_1_code 2 (none : Option FieldType) ∈ cc_GT := cc_gt 516 (by decide +kernel) (by decide +kernel)
theorem ml_X4_1 : Cond.methodLink RX4 1 ⟨"java/lang/Object", "<init>", "()V"⟩ ∈ cc_GT := cc_gt 517 (by decide +kernel) (by decide +kernel)
theorem ml_X4_33 : Cond.methodLink RX4 33 yX4_lay ∈ cc_GT := cc_gt 518 (by decide +kernel) (by decide +kernel)
theorem im_X4_lay : Cond.instanceMethod yX4_lay ∈ cc_GT := cc_gt 520 (by decide +kernel) (by decide +kernel)
theorem cd_X4_lay : Cond.code yX4_lay prog_6_method_5_code 4 (none : Option FieldType) ∈ cc_GT := cc_gt 521 (by decide +kernel) (by decide +kernel)
theorem fl_X4_7 : Cond.fieldLink RX4 7 "ChairCreditsModel" "row" "[I" ∈ cc_GT := cc_gt 522 (by decide +kernel) (by decide +kernel)
theorem fl_X4_13 : Cond.fieldLink RX4 13 "ChairCreditsModel" "past" "[I" ∈ cc_GT := cc_gt 523 (by decide +kernel) (by decide +kernel)
theorem fl_X4_16 : Cond.fieldLink RX4 16 "ChairCreditsModel" "aside" "[I" ∈ cc_GT := cc_gt 524 (by decide +kernel) (by decide +kernel)
theorem fl_X4_19 : Cond.fieldLink RX4 19 "ChairCreditsModel" "before" "[I" ∈ cc_GT := cc_gt 525 (by decide +kernel) (by decide +kernel)
theorem fl_X4_41 : Cond.fieldLink RX4 41 "ChairCreditsModel" "states" "I" ∈ cc_GT := cc_gt 526 (by decide +kernel) (by decide +kernel)
theorem fl_X4_51 : Cond.fieldLink RX4 51 "ChairCreditsModel" "isAside" "Z" ∈ cc_GT := cc_gt 527 (by decide +kernel) (by decide +kernel)
theorem fl_X4_22 : Cond.fieldLink RX4 22 "ChairCreditsModel" "text" "[C" ∈ cc_GT := cc_gt 528 (by decide +kernel) (by decide +kernel)
theorem fl_X4_79 : Cond.fieldLink RX4 79 "ChairCreditsModel" "length" "I" ∈ cc_GT := cc_gt 529 (by decide +kernel) (by decide +kernel)
theorem fl_X4_76 : Cond.fieldLink RX4 76 "ChairCreditsModel" "at" "I" ∈ cc_GT := cc_gt 530 (by decide +kernel) (by decide +kernel)
theorem fl_X4_26 : Cond.fieldLink RX4 26 "ChairCreditsModel" "hasSent" "[Z" ∈ cc_GT := cc_gt 531 (by decide +kernel) (by decide +kernel)
theorem fl_X4_30 : Cond.fieldLink RX4 30 "ChairCreditsModel" "sentTo" "[I" ∈ cc_GT := cc_gt 532 (by decide +kernel) (by decide +kernel)
theorem ac_boolean : Cond.arrayClass .boolean ∈ cc_GT := cc_gt 556 (by decide +kernel) (by decide +kernel)
theorem ml_L_61 : Cond.methodLink RL 61 yX4_undo ∈ cc_GT := cc_gt 557 (by decide +kernel) (by decide +kernel)
theorem im_X4_undo : Cond.instanceMethod yX4_undo ∈ cc_GT := cc_gt 558 (by decide +kernel) (by decide +kernel)
theorem sl_X4_undo : Cond.selects RX4 yX4_undo yX4_undo ∈ cc_GT := cc_gt 559 (by decide +kernel) (by decide +kernel)
theorem cd_X4_undo : Cond.code yX4_undo prog_6_method_12_code 2 (some .int) ∈ cc_GT := cc_gt 560 (by decide +kernel) (by decide +kernel)
theorem ml_L_65 : Cond.methodLink RL 65 yX4_keep ∈ cc_GT := cc_gt 561 (by decide +kernel) (by decide +kernel)
theorem im_X4_keep : Cond.instanceMethod yX4_keep ∈ cc_GT := cc_gt 562 (by decide +kernel) (by decide +kernel)
theorem sl_X4_keep : Cond.selects RX4 yX4_keep yX4_keep ∈ cc_GT := cc_gt 563 (by decide +kernel) (by decide +kernel)
theorem cd_X4_keep : Cond.code yX4_keep prog_6_method_13_code 2 (some .int) ∈ cc_GT := cc_gt 564 (by decide +kernel) (by decide +kernel)
theorem ml_L_69 : Cond.methodLink RL 69 yX4_restore ∈ cc_GT := cc_gt 565 (by decide +kernel) (by decide +kernel)
theorem im_X4_restore : Cond.instanceMethod yX4_restore ∈ cc_GT := cc_gt 566 (by decide +kernel) (by decide +kernel)
theorem sl_X4_restore : Cond.selects RX4 yX4_restore yX4_restore ∈ cc_GT := cc_gt 567 (by decide +kernel) (by decide +kernel)
theorem cd_X4_restore : Cond.code yX4_restore prog_6_method_14_code 2 (some .int) ∈ cc_GT := cc_gt 568 (by decide +kernel) (by decide +kernel)
theorem ml_X4_55 : Cond.methodLink RX4 55 yX4_open ∈ cc_GT := cc_gt 569 (by decide +kernel) (by decide +kernel)
theorem im_X4_open : Cond.instanceMethod yX4_open ∈ cc_GT := cc_gt 571 (by decide +kernel) (by decide +kernel)
theorem cd_X4_open : Cond.code yX4_open prog_6_method_11_code 1 (none : Option FieldType) ∈ cc_GT := cc_gt 572 (by decide +kernel) (by decide +kernel)
theorem ml_X4_45 : Cond.methodLink RX4 45 yX4_remember ∈ cc_GT := cc_gt 573 (by decide +kernel) (by decide +kernel)
theorem im_X4_remember : Cond.instanceMethod yX4_remember ∈ cc_GT := cc_gt 575 (by decide +kernel) (by decide +kernel)
theorem cd_X4_remember : Cond.code yX4_remember prog_6_method_8_code 2 (none : Option FieldType) ∈ cc_GT := cc_gt 576 (by decide +kernel) (by decide +kernel)
theorem ml_X4_48 : Cond.methodLink RX4 48 yX4_record ∈ cc_GT := cc_gt 577 (by decide +kernel) (by decide +kernel)
theorem im_X4_record : Cond.instanceMethod yX4_record ∈ cc_GT := cc_gt 579 (by decide +kernel) (by decide +kernel)
theorem cd_X4_record : Cond.code yX4_record prog_6_method_10_code 2 (none : Option FieldType) ∈ cc_GT := cc_gt 580 (by decide +kernel) (by decide +kernel)
theorem ml_L_17 : Cond.methodLink RL 17 yX4_setLane ∈ cc_GT := cc_gt 581 (by decide +kernel) (by decide +kernel)
theorem im_X4_setLane : Cond.instanceMethod yX4_setLane ∈ cc_GT := cc_gt 582 (by decide +kernel) (by decide +kernel)
theorem sl_X4_setLane : Cond.selects RX4 yX4_setLane yX4_setLane ∈ cc_GT := cc_gt 583 (by decide +kernel) (by decide +kernel)
theorem cd_X4_setLane : Cond.code yX4_setLane prog_6_method_15_code 5 (some .int) ∈ cc_GT := cc_gt 584 (by decide +kernel) (by decide +kernel)
theorem ml_X4_58 : Cond.methodLink RX4 58 yX4_noPort ∈ cc_GT := cc_gt 585 (by decide +kernel) (by decide +kernel)
theorem st_X4_noPort : Cond.static yX4_noPort ∈ cc_GT := cc_gt 586 (by decide +kernel) (by decide +kernel)
theorem cd_X4_noPort : Cond.code yX4_noPort prog_6_method_3_code 1 (some .boolean) ∈ cc_GT := cc_gt 587 (by decide +kernel) (by decide +kernel)
theorem ml_X4_37 : Cond.methodLink RX4 37 yX4_in ∈ cc_GT := cc_gt 588 (by decide +kernel) (by decide +kernel)
theorem st_X4_in : Cond.static yX4_in ∈ cc_GT := cc_gt 589 (by decide +kernel) (by decide +kernel)
theorem cd_X4_in : Cond.code yX4_in prog_6_method_2_code 3 (some .boolean) ∈ cc_GT := cc_gt 590 (by decide +kernel) (by decide +kernel)
theorem ml_X4_62 : Cond.methodLink RX4 62 yX4_of ∈ cc_GT := cc_gt 591 (by decide +kernel) (by decide +kernel)
theorem im_X4_of : Cond.instanceMethod yX4_of ∈ cc_GT := cc_gt 593 (by decide +kernel) (by decide +kernel)
theorem cd_X4_of : Cond.code yX4_of prog_6_method_4_code 3 (some .int) ∈ cc_GT := cc_gt 594 (by decide +kernel) (by decide +kernel)
theorem ml_X4_66 : Cond.methodLink RX4 66 yX4_more ∈ cc_GT := cc_gt 595 (by decide +kernel) (by decide +kernel)
theorem im_X4_more : Cond.instanceMethod yX4_more ∈ cc_GT := cc_gt 597 (by decide +kernel) (by decide +kernel)
theorem cd_X4_more : Cond.code yX4_more prog_6_method_6_code 4 (none : Option FieldType) ∈ cc_GT := cc_gt 598 (by decide +kernel) (by decide +kernel)
theorem ml_L_22 : Cond.methodLink RL 22 yX4_set ∈ cc_GT := cc_gt 599 (by decide +kernel) (by decide +kernel)
theorem im_X4_set : Cond.instanceMethod yX4_set ∈ cc_GT := cc_gt 600 (by decide +kernel) (by decide +kernel)
theorem sl_X4_set : Cond.selects RX4 yX4_set yX4_set ∈ cc_GT := cc_gt 601 (by decide +kernel) (by decide +kernel)
theorem cd_X4_set : Cond.code yX4_set prog_6_method_16_code 4 (some .int) ∈ cc_GT := cc_gt 602 (by decide +kernel) (by decide +kernel)
theorem ml_L_26 : Cond.methodLink RL 26 yX4_arrive ∈ cc_GT := cc_gt 603 (by decide +kernel) (by decide +kernel)
theorem im_X4_arrive : Cond.instanceMethod yX4_arrive ∈ cc_GT := cc_gt 604 (by decide +kernel) (by decide +kernel)
theorem sl_X4_arrive : Cond.selects RX4 yX4_arrive yX4_arrive ∈ cc_GT := cc_gt 605 (by decide +kernel) (by decide +kernel)
theorem cd_X4_arrive : Cond.code yX4_arrive prog_6_method_18_code 3 (some .int) ∈ cc_GT := cc_gt 606 (by decide +kernel) (by decide +kernel)
theorem ml_X4_69 : Cond.methodLink RX4 69 yX4_by ∈ cc_GT := cc_gt 607 (by decide +kernel) (by decide +kernel)
theorem im_X4_by : Cond.instanceMethod yX4_by ∈ cc_GT := cc_gt 609 (by decide +kernel) (by decide +kernel)
theorem cd_X4_by : Cond.code yX4_by prog_6_method_7_code 3 (some .int) ∈ cc_GT := cc_gt 610 (by decide +kernel) (by decide +kernel)
theorem ml_X4_72 : Cond.methodLink RX4 72 yX4_bring ∈ cc_GT := cc_gt 611 (by decide +kernel) (by decide +kernel)
theorem im_X4_bring : Cond.instanceMethod yX4_bring ∈ cc_GT := cc_gt 613 (by decide +kernel) (by decide +kernel)
theorem cd_X4_bring : Cond.code yX4_bring prog_6_method_17_code 4 (none : Option FieldType) ∈ cc_GT := cc_gt 614 (by decide +kernel) (by decide +kernel)
theorem ml_L_31 : Cond.methodLink RL 31 yX4_readArrivals ∈ cc_GT := cc_gt 615 (by decide +kernel) (by decide +kernel)
theorem im_X4_readArrivals : Cond.instanceMethod yX4_readArrivals ∈ cc_GT := cc_gt 616 (by decide +kernel) (by decide +kernel)
theorem sl_X4_readArrivals : Cond.selects RX4 yX4_readArrivals yX4_readArrivals ∈ cc_GT := cc_gt 617 (by decide +kernel) (by decide +kernel)
theorem cd_X4_readArrivals : Cond.code yX4_readArrivals prog_6_method_22_code 2 (some .int) ∈ cc_GT := cc_gt 618 (by decide +kernel) (by decide +kernel)
theorem ml_X4_90 : Cond.methodLink RX4 90 yX4_arrivals ∈ cc_GT := cc_gt 619 (by decide +kernel) (by decide +kernel)
theorem im_X4_arrivals : Cond.instanceMethod yX4_arrivals ∈ cc_GT := cc_gt 621 (by decide +kernel) (by decide +kernel)
theorem cd_X4_arrivals : Cond.code yX4_arrivals prog_6_method_21_code 5 (some .int) ∈ cc_GT := cc_gt 622 (by decide +kernel) (by decide +kernel)
theorem ml_X4_86 : Cond.methodLink RX4 86 yX4_arrival ∈ cc_GT := cc_gt 623 (by decide +kernel) (by decide +kernel)
theorem im_X4_arrival : Cond.instanceMethod yX4_arrival ∈ cc_GT := cc_gt 625 (by decide +kernel) (by decide +kernel)
theorem cd_X4_arrival : Cond.code yX4_arrival prog_6_method_20_code 6 (some .int) ∈ cc_GT := cc_gt 626 (by decide +kernel) (by decide +kernel)
theorem ml_X4_82 : Cond.methodLink RX4 82 yX4_sees ∈ cc_GT := cc_gt 627 (by decide +kernel) (by decide +kernel)
theorem im_X4_sees : Cond.instanceMethod yX4_sees ∈ cc_GT := cc_gt 629 (by decide +kernel) (by decide +kernel)
theorem cd_X4_sees : Cond.code yX4_sees prog_6_method_19_code 3 (some .boolean) ∈ cc_GT := cc_gt 630 (by decide +kernel) (by decide +kernel)
theorem ml_X4_93 : Cond.methodLink RX4 93 yX4_goBack ∈ cc_GT := cc_gt 631 (by decide +kernel) (by decide +kernel)
theorem im_X4_goBack : Cond.instanceMethod yX4_goBack ∈ cc_GT := cc_gt 633 (by decide +kernel) (by decide +kernel)
theorem cd_X4_goBack : Cond.code yX4_goBack prog_6_method_9_code 2 (none : Option FieldType) ∈ cc_GT := cc_gt 634 (by decide +kernel) (by decide +kernel)
theorem ml_L_36 : Cond.methodLink RL 36 yX4_pass ∈ cc_GT := cc_gt 635 (by decide +kernel) (by decide +kernel)
theorem im_X4_pass : Cond.instanceMethod yX4_pass ∈ cc_GT := cc_gt 636 (by decide +kernel) (by decide +kernel)
theorem sl_X4_pass : Cond.selects RX4 yX4_pass yX4_pass ∈ cc_GT := cc_gt 637 (by decide +kernel) (by decide +kernel)
theorem cd_X4_pass : Cond.code yX4_pass prog_6_method_32_code 2 (some .int) ∈ cc_GT := cc_gt 638 (by decide +kernel) (by decide +kernel)
theorem ml_X4_123 : Cond.methodLink RX4 123 yX4_passAll ∈ cc_GT := cc_gt 639 (by decide +kernel) (by decide +kernel)
theorem im_X4_passAll : Cond.instanceMethod yX4_passAll ∈ cc_GT := cc_gt 641 (by decide +kernel) (by decide +kernel)
theorem cd_X4_passAll : Cond.code yX4_passAll prog_6_method_31_code 4 (some .int) ∈ cc_GT := cc_gt 642 (by decide +kernel) (by decide +kernel)
theorem ml_X4_119 : Cond.methodLink RX4 119 yX4_tick ∈ cc_GT := cc_gt 643 (by decide +kernel) (by decide +kernel)
theorem im_X4_tick : Cond.instanceMethod yX4_tick ∈ cc_GT := cc_gt 645 (by decide +kernel) (by decide +kernel)
theorem cd_X4_tick : Cond.code yX4_tick prog_6_method_30_code 3 (some .int) ∈ cc_GT := cc_gt 646 (by decide +kernel) (by decide +kernel)
theorem ml_X4_106 : Cond.methodLink RX4 106 yX4_come ∈ cc_GT := cc_gt 647 (by decide +kernel) (by decide +kernel)
theorem im_X4_come : Cond.instanceMethod yX4_come ∈ cc_GT := cc_gt 649 (by decide +kernel) (by decide +kernel)
theorem cd_X4_come : Cond.code yX4_come prog_6_method_24_code 2 (none : Option FieldType) ∈ cc_GT := cc_gt 650 (by decide +kernel) (by decide +kernel)
theorem ml_X4_96 : Cond.methodLink RX4 96 yX4_dropFirst ∈ cc_GT := cc_gt 651 (by decide +kernel) (by decide +kernel)
theorem im_X4_dropFirst : Cond.instanceMethod yX4_dropFirst ∈ cc_GT := cc_gt 653 (by decide +kernel) (by decide +kernel)
theorem cd_X4_dropFirst : Cond.code yX4_dropFirst prog_6_method_25_code 3 (none : Option FieldType) ∈ cc_GT := cc_gt 654 (by decide +kernel) (by decide +kernel)
theorem ml_X4_109 : Cond.methodLink RX4 109 yX4_missing ∈ cc_GT := cc_gt 655 (by decide +kernel) (by decide +kernel)
theorem im_X4_missing : Cond.instanceMethod yX4_missing ∈ cc_GT := cc_gt 657 (by decide +kernel) (by decide +kernel)
theorem cd_X4_missing : Cond.code yX4_missing prog_6_method_23_code 2 (some .int) ∈ cc_GT := cc_gt 658 (by decide +kernel) (by decide +kernel)
theorem ml_X4_113 : Cond.methodLink RX4 113 yX4_send ∈ cc_GT := cc_gt 659 (by decide +kernel) (by decide +kernel)
theorem im_X4_send : Cond.instanceMethod yX4_send ∈ cc_GT := cc_gt 661 (by decide +kernel) (by decide +kernel)
theorem cd_X4_send : Cond.code yX4_send prog_6_method_28_code 6 (some .int) ∈ cc_GT := cc_gt 662 (by decide +kernel) (by decide +kernel)
theorem ml_X4_100 : Cond.methodLink RX4 100 yX4_offer ∈ cc_GT := cc_gt 663 (by decide +kernel) (by decide +kernel)
theorem im_X4_offer : Cond.instanceMethod yX4_offer ∈ cc_GT := cc_gt 665 (by decide +kernel) (by decide +kernel)
theorem cd_X4_offer : Cond.code yX4_offer prog_6_method_26_code 5 (some .int) ∈ cc_GT := cc_gt 666 (by decide +kernel) (by decide +kernel)
theorem ml_X4_103 : Cond.methodLink RX4 103 yX4_leave ∈ cc_GT := cc_gt 667 (by decide +kernel) (by decide +kernel)
theorem im_X4_leave : Cond.instanceMethod yX4_leave ∈ cc_GT := cc_gt 669 (by decide +kernel) (by decide +kernel)
theorem cd_X4_leave : Cond.code yX4_leave prog_6_method_27_code 6 (some .int) ∈ cc_GT := cc_gt 670 (by decide +kernel) (by decide +kernel)
theorem ml_X4_116 : Cond.methodLink RX4 116 yX4_take ∈ cc_GT := cc_gt 671 (by decide +kernel) (by decide +kernel)
theorem im_X4_take : Cond.instanceMethod yX4_take ∈ cc_GT := cc_gt 673 (by decide +kernel) (by decide +kernel)
theorem cd_X4_take : Cond.code yX4_take prog_6_method_29_code 4 (none : Option FieldType) ∈ cc_GT := cc_gt 674 (by decide +kernel) (by decide +kernel)
theorem ml_L_40 : Cond.methodLink RL 40 yX4_lose ∈ cc_GT := cc_gt 675 (by decide +kernel) (by decide +kernel)
theorem im_X4_lose : Cond.instanceMethod yX4_lose ∈ cc_GT := cc_gt 676 (by decide +kernel) (by decide +kernel)
theorem sl_X4_lose : Cond.selects RX4 yX4_lose yX4_lose ∈ cc_GT := cc_gt 677 (by decide +kernel) (by decide +kernel)
theorem cd_X4_lose : Cond.code yX4_lose prog_6_method_33_code 2 (some .int) ∈ cc_GT := cc_gt 678 (by decide +kernel) (by decide +kernel)
theorem ml_L_44 : Cond.methodLink RL 44 yX4_forge ∈ cc_GT := cc_gt 679 (by decide +kernel) (by decide +kernel)
theorem im_X4_forge : Cond.instanceMethod yX4_forge ∈ cc_GT := cc_gt 680 (by decide +kernel) (by decide +kernel)
theorem sl_X4_forge : Cond.selects RX4 yX4_forge yX4_forge ∈ cc_GT := cc_gt 681 (by decide +kernel) (by decide +kernel)
theorem cd_X4_forge : Cond.code yX4_forge prog_6_method_34_code 2 (some .int) ∈ cc_GT := cc_gt 682 (by decide +kernel) (by decide +kernel)
theorem ml_L_48 : Cond.methodLink RL 48 yX4_repair ∈ cc_GT := cc_gt 683 (by decide +kernel) (by decide +kernel)
theorem im_X4_repair : Cond.instanceMethod yX4_repair ∈ cc_GT := cc_gt 684 (by decide +kernel) (by decide +kernel)
theorem sl_X4_repair : Cond.selects RX4 yX4_repair yX4_repair ∈ cc_GT := cc_gt 685 (by decide +kernel) (by decide +kernel)
theorem cd_X4_repair : Cond.code yX4_repair prog_6_method_35_code 3 (some .int) ∈ cc_GT := cc_gt 686 (by decide +kernel) (by decide +kernel)
theorem ml_L_53 : Cond.methodLink RL 53 yX4_type ∈ cc_GT := cc_gt 687 (by decide +kernel) (by decide +kernel)
theorem im_X4_type : Cond.instanceMethod yX4_type ∈ cc_GT := cc_gt 688 (by decide +kernel) (by decide +kernel)
theorem sl_X4_type : Cond.selects RX4 yX4_type yX4_type ∈ cc_GT := cc_gt 689 (by decide +kernel) (by decide +kernel)
theorem cd_X4_type : Cond.code yX4_type prog_6_method_36_code 2 (some .int) ∈ cc_GT := cc_gt 690 (by decide +kernel) (by decide +kernel)
theorem ml_L_57 : Cond.methodLink RL 57 yX4_clearText ∈ cc_GT := cc_gt 691 (by decide +kernel) (by decide +kernel)
theorem im_X4_clearText : Cond.instanceMethod yX4_clearText ∈ cc_GT := cc_gt 692 (by decide +kernel) (by decide +kernel)
theorem sl_X4_clearText : Cond.selects RX4 yX4_clearText yX4_clearText ∈ cc_GT := cc_gt 693 (by decide +kernel) (by decide +kernel)
theorem cd_X4_clearText : Cond.code yX4_clearText prog_6_method_37_code 2 (some .int) ∈ cc_GT := cc_gt 694 (by decide +kernel) (by decide +kernel)
theorem ml_L_73 : Cond.methodLink RL 73 yX4_lane ∈ cc_GT := cc_gt 695 (by decide +kernel) (by decide +kernel)
theorem im_X4_lane : Cond.instanceMethod yX4_lane ∈ cc_GT := cc_gt 696 (by decide +kernel) (by decide +kernel)
theorem sl_X4_lane : Cond.selects RX4 yX4_lane yX4_lane ∈ cc_GT := cc_gt 697 (by decide +kernel) (by decide +kernel)
theorem cd_X4_lane : Cond.code yX4_lane prog_6_method_40_code 3 (some .int) ∈ cc_GT := cc_gt 698 (by decide +kernel) (by decide +kernel)
theorem ml_X4_126 : Cond.methodLink RX4 126 yX4_waiting ∈ cc_GT := cc_gt 699 (by decide +kernel) (by decide +kernel)
theorem im_X4_waiting : Cond.instanceMethod yX4_waiting ∈ cc_GT := cc_gt 701 (by decide +kernel) (by decide +kernel)
theorem cd_X4_waiting : Cond.code yX4_waiting prog_6_method_38_code 5 (some .int) ∈ cc_GT := cc_gt 702 (by decide +kernel) (by decide +kernel)
theorem ml_X4_129 : Cond.methodLink RX4 129 yX4_isStuck ∈ cc_GT := cc_gt 703 (by decide +kernel) (by decide +kernel)
theorem im_X4_isStuck : Cond.instanceMethod yX4_isStuck ∈ cc_GT := cc_gt 705 (by decide +kernel) (by decide +kernel)
theorem cd_X4_isStuck : Cond.code yX4_isStuck prog_6_method_39_code 2 (some .boolean) ∈ cc_GT := cc_gt 706 (by decide +kernel) (by decide +kernel)
theorem ml_L_77 : Cond.methodLink RL 77 yX4_seated ∈ cc_GT := cc_gt 707 (by decide +kernel) (by decide +kernel)
theorem im_X4_seated : Cond.instanceMethod yX4_seated ∈ cc_GT := cc_gt 708 (by decide +kernel) (by decide +kernel)
theorem sl_X4_seated : Cond.selects RX4 yX4_seated yX4_seated ∈ cc_GT := cc_gt 709 (by decide +kernel) (by decide +kernel)
theorem cd_X4_seated : Cond.code yX4_seated prog_6_method_41_code 3 (some .int) ∈ cc_GT := cc_gt 710 (by decide +kernel) (by decide +kernel)
theorem ml_L_81 : Cond.methodLink RL 81 yX4_onTheWay ∈ cc_GT := cc_gt 711 (by decide +kernel) (by decide +kernel)
theorem im_X4_onTheWay : Cond.instanceMethod yX4_onTheWay ∈ cc_GT := cc_gt 712 (by decide +kernel) (by decide +kernel)
theorem sl_X4_onTheWay : Cond.selects RX4 yX4_onTheWay yX4_onTheWay ∈ cc_GT := cc_gt 713 (by decide +kernel) (by decide +kernel)
theorem cd_X4_onTheWay : Cond.code yX4_onTheWay prog_6_method_42_code 3 (some .int) ∈ cc_GT := cc_gt 714 (by decide +kernel) (by decide +kernel)
theorem ml_L_85 : Cond.methodLink RL 85 yX4_input ∈ cc_GT := cc_gt 715 (by decide +kernel) (by decide +kernel)
theorem im_X4_input : Cond.instanceMethod yX4_input ∈ cc_GT := cc_gt 716 (by decide +kernel) (by decide +kernel)
theorem sl_X4_input : Cond.selects RX4 yX4_input yX4_input ∈ cc_GT := cc_gt 717 (by decide +kernel) (by decide +kernel)
theorem cd_X4_input : Cond.code yX4_input prog_6_method_43_code 3 (some .int) ∈ cc_GT := cc_gt 718 (by decide +kernel) (by decide +kernel)
theorem ml_L_89 : Cond.methodLink RL 89 yX4_packet ∈ cc_GT := cc_gt 719 (by decide +kernel) (by decide +kernel)
theorem im_X4_packet : Cond.instanceMethod yX4_packet ∈ cc_GT := cc_gt 720 (by decide +kernel) (by decide +kernel)
theorem sl_X4_packet : Cond.selects RX4 yX4_packet yX4_packet ∈ cc_GT := cc_gt 721 (by decide +kernel) (by decide +kernel)
theorem cd_X4_packet : Cond.code yX4_packet prog_6_method_44_code 4 (some .int) ∈ cc_GT := cc_gt 722 (by decide +kernel) (by decide +kernel)
theorem ml_L_93 : Cond.methodLink RL 93 yX4_next ∈ cc_GT := cc_gt 723 (by decide +kernel) (by decide +kernel)
theorem im_X4_next : Cond.instanceMethod yX4_next ∈ cc_GT := cc_gt 724 (by decide +kernel) (by decide +kernel)
theorem sl_X4_next : Cond.selects RX4 yX4_next yX4_next ∈ cc_GT := cc_gt 725 (by decide +kernel) (by decide +kernel)
theorem cd_X4_next : Cond.code yX4_next prog_6_method_45_code 2 (some .int) ∈ cc_GT := cc_gt 726 (by decide +kernel) (by decide +kernel)
theorem ml_L_97 : Cond.methodLink RL 97 yX4_leavesIn ∈ cc_GT := cc_gt 727 (by decide +kernel) (by decide +kernel)
theorem im_X4_leavesIn : Cond.instanceMethod yX4_leavesIn ∈ cc_GT := cc_gt 728 (by decide +kernel) (by decide +kernel)
theorem sl_X4_leavesIn : Cond.selects RX4 yX4_leavesIn yX4_leavesIn ∈ cc_GT := cc_gt 729 (by decide +kernel) (by decide +kernel)
theorem cd_X4_leavesIn : Cond.code yX4_leavesIn prog_6_method_47_code 6 (some .int) ∈ cc_GT := cc_gt 730 (by decide +kernel) (by decide +kernel)
theorem ml_X4_132 : Cond.methodLink RX4 132 yX4_waits ∈ cc_GT := cc_gt 731 (by decide +kernel) (by decide +kernel)
theorem im_X4_waits : Cond.instanceMethod yX4_waits ∈ cc_GT := cc_gt 733 (by decide +kernel) (by decide +kernel)
theorem cd_X4_waits : Cond.code yX4_waits prog_6_method_46_code 5 (some .boolean) ∈ cc_GT := cc_gt 734 (by decide +kernel) (by decide +kernel)
theorem ml_L_101 : Cond.methodLink RL 101 yX4_wouldSend ∈ cc_GT := cc_gt 735 (by decide +kernel) (by decide +kernel)
theorem im_X4_wouldSend : Cond.instanceMethod yX4_wouldSend ∈ cc_GT := cc_gt 736 (by decide +kernel) (by decide +kernel)
theorem sl_X4_wouldSend : Cond.selects RX4 yX4_wouldSend yX4_wouldSend ∈ cc_GT := cc_gt 737 (by decide +kernel) (by decide +kernel)
theorem cd_X4_wouldSend : Cond.code yX4_wouldSend prog_6_method_48_code 4 (some .int) ∈ cc_GT := cc_gt 738 (by decide +kernel) (by decide +kernel)
theorem ml_L_105 : Cond.methodLink RL 105 yX4_count ∈ cc_GT := cc_gt 739 (by decide +kernel) (by decide +kernel)
theorem im_X4_count : Cond.instanceMethod yX4_count ∈ cc_GT := cc_gt 740 (by decide +kernel) (by decide +kernel)
theorem sl_X4_count : Cond.selects RX4 yX4_count yX4_count ∈ cc_GT := cc_gt 741 (by decide +kernel) (by decide +kernel)
theorem cd_X4_count : Cond.code yX4_count prog_6_method_51_code 2 (some .int) ∈ cc_GT := cc_gt 742 (by decide +kernel) (by decide +kernel)
theorem ml_X4_136 : Cond.methodLink RX4 136 yX4_over ∈ cc_GT := cc_gt 743 (by decide +kernel) (by decide +kernel)
theorem im_X4_over : Cond.instanceMethod yX4_over ∈ cc_GT := cc_gt 745 (by decide +kernel) (by decide +kernel)
theorem cd_X4_over : Cond.code yX4_over prog_6_method_49_code 5 (some .int) ∈ cc_GT := cc_gt 746 (by decide +kernel) (by decide +kernel)
theorem ml_X4_140 : Cond.methodLink RX4 140 yX4_stuckOnes ∈ cc_GT := cc_gt 747 (by decide +kernel) (by decide +kernel)
theorem im_X4_stuckOnes : Cond.instanceMethod yX4_stuckOnes ∈ cc_GT := cc_gt 749 (by decide +kernel) (by decide +kernel)
theorem cd_X4_stuckOnes : Cond.code yX4_stuckOnes prog_6_method_50_code 3 (some .int) ∈ cc_GT := cc_gt 750 (by decide +kernel) (by decide +kernel)
theorem sl_X1_setting : Cond.selects RX1 yX1_setting yX1_setting ∈ cc_GT := cc_gt 0 (by decide +kernel) (by decide +kernel)
theorem sl_X3_remember : Cond.selects RX3 yX3_remember yX3_remember ∈ cc_GT := cc_gt 1 (by decide +kernel) (by decide +kernel)
theorem sl_X3_dropOldest : Cond.selects RX3 yX3_dropOldest yX3_dropOldest ∈ cc_GT := cc_gt 2 (by decide +kernel) (by decide +kernel)
theorem sl_X0_copyFrom : Cond.selects RX0 yX0_copyFrom yX0_copyFrom ∈ cc_GT := cc_gt 3 (by decide +kernel) (by decide +kernel)
theorem sl_X1_copyFrom : Cond.selects RX1 yX1_copyFrom yX1_copyFrom ∈ cc_GT := cc_gt 4 (by decide +kernel) (by decide +kernel)
theorem sl_X2_copyFrom : Cond.selects RX2 yX2_copyFrom yX2_copyFrom ∈ cc_GT := cc_gt 5 (by decide +kernel) (by decide +kernel)
theorem sl_X1_change : Cond.selects RX1 yX1_change yX1_change ∈ cc_GT := cc_gt 6 (by decide +kernel) (by decide +kernel)
theorem sl_X0_hasRoom : Cond.selects RX0 yX0_hasRoom yX0_hasRoom ∈ cc_GT := cc_gt 7 (by decide +kernel) (by decide +kernel)
theorem sl_X0_admit : Cond.selects RX0 yX0_admit yX0_admit ∈ cc_GT := cc_gt 8 (by decide +kernel) (by decide +kernel)
theorem sl_X2_append : Cond.selects RX2 yX2_append yX2_append ∈ cc_GT := cc_gt 9 (by decide +kernel) (by decide +kernel)
theorem sl_X3_faultOfText : Cond.selects RX3 yX3_faultOfText yX3_faultOfText ∈ cc_GT := cc_gt 10 (by decide +kernel) (by decide +kernel)
theorem sl_X3_admitTextToTrial : Cond.selects RX3 yX3_admitTextToTrial yX3_admitTextToTrial ∈ cc_GT := cc_gt 11 (by decide +kernel) (by decide +kernel)
theorem sl_X3_tellsTimes : Cond.selects RX3 yX3_tellsTimes yX3_tellsTimes ∈ cc_GT := cc_gt 12 (by decide +kernel) (by decide +kernel)
theorem sl_X0_passTicks : Cond.selects RX0 yX0_passTicks yX0_passTicks ∈ cc_GT := cc_gt 13 (by decide +kernel) (by decide +kernel)
theorem sl_X0_passTick : Cond.selects RX0 yX0_passTick yX0_passTick ∈ cc_GT := cc_gt 14 (by decide +kernel) (by decide +kernel)
theorem sl_X0_beginTick : Cond.selects RX0 yX0_beginTick yX0_beginTick ∈ cc_GT := cc_gt 15 (by decide +kernel) (by decide +kernel)
theorem sl_X1_letCreditsCome : Cond.selects RX1 yX1_letCreditsCome yX1_letCreditsCome ∈ cc_GT := cc_gt 16 (by decide +kernel) (by decide +kernel)
theorem sl_X1_creditComes : Cond.selects RX1 yX1_creditComes yX1_creditComes ∈ cc_GT := cc_gt 17 (by decide +kernel) (by decide +kernel)
theorem sl_X1_dropFirstOnTheWay : Cond.selects RX1 yX1_dropFirstOnTheWay yX1_dropFirstOnTheWay ∈ cc_GT := cc_gt 18 (by decide +kernel) (by decide +kernel)
theorem sl_X1_mend : Cond.selects RX1 yX1_mend yX1_mend ∈ cc_GT := cc_gt 19 (by decide +kernel) (by decide +kernel)
theorem sl_X1_missing : Cond.selects RX1 yX1_missing yX1_missing ∈ cc_GT := cc_gt 20 (by decide +kernel) (by decide +kernel)
theorem sl_X0_sendTo : Cond.selects RX0 yX0_sendTo yX0_sendTo ∈ cc_GT := cc_gt 21 (by decide +kernel) (by decide +kernel)
theorem sl_X2_offerFor : Cond.selects RX2 yX2_offerFor yX2_offerFor ∈ cc_GT := cc_gt 22 (by decide +kernel) (by decide +kernel)
theorem sl_X2_sendFrom : Cond.selects RX2 yX2_sendFrom yX2_sendFrom ∈ cc_GT := cc_gt 23 (by decide +kernel) (by decide +kernel)
theorem sl_X1_receive : Cond.selects RX1 yX1_receive yX1_receive ∈ cc_GT := cc_gt 24 (by decide +kernel) (by decide +kernel)
theorem sl_X1_takeIfDue : Cond.selects RX1 yX1_takeIfDue yX1_takeIfDue ∈ cc_GT := cc_gt 25 (by decide +kernel) (by decide +kernel)
theorem sl_X1_sendCreditBack : Cond.selects RX1 yX1_sendCreditBack yX1_sendCreditBack ∈ cc_GT := cc_gt 26 (by decide +kernel) (by decide +kernel)
theorem sl_X2_countBlocked : Cond.selects RX2 yX2_countBlocked yX2_countBlocked ∈ cc_GT := cc_gt 27 (by decide +kernel) (by decide +kernel)
theorem sl_X1_loseFirst : Cond.selects RX1 yX1_loseFirst yX1_loseFirst ∈ cc_GT := cc_gt 28 (by decide +kernel) (by decide +kernel)
theorem sl_X0_waitingFor : Cond.selects RX0 yX0_waitingFor yX0_waitingFor ∈ cc_GT := cc_gt 29 (by decide +kernel) (by decide +kernel)
theorem sl_X2_waitingFor : Cond.selects RX2 yX2_waitingFor yX2_waitingFor ∈ cc_GT := cc_gt 30 (by decide +kernel) (by decide +kernel)
theorem sl_X0_isStuck : Cond.selects RX0 yX0_isStuck yX0_isStuck ∈ cc_GT := cc_gt 31 (by decide +kernel) (by decide +kernel)
theorem sl_X1_isDry : Cond.selects RX1 yX1_isDry yX1_isDry ∈ cc_GT := cc_gt 32 (by decide +kernel) (by decide +kernel)
theorem sl_X1_figure : Cond.selects RX1 yX1_figure yX1_figure ∈ cc_GT := cc_gt 33 (by decide +kernel) (by decide +kernel)
theorem sl_X2_figure : Cond.selects RX2 yX2_figure yX2_figure ∈ cc_GT := cc_gt 34 (by decide +kernel) (by decide +kernel)
theorem sl_X2_packetFigure : Cond.selects RX2 yX2_packetFigure yX2_packetFigure ∈ cc_GT := cc_gt 35 (by decide +kernel) (by decide +kernel)
theorem sl_X2_holds : Cond.selects RX2 yX2_holds yX2_holds ∈ cc_GT := cc_gt 36 (by decide +kernel) (by decide +kernel)
theorem sl_X0_figure : Cond.selects RX0 yX0_figure yX0_figure ∈ cc_GT := cc_gt 37 (by decide +kernel) (by decide +kernel)
theorem sl_X0_sumOfQueues : Cond.selects RX0 yX0_sumOfQueues yX0_sumOfQueues ∈ cc_GT := cc_gt 38 (by decide +kernel) (by decide +kernel)
theorem sl_X0_sumOfLanes : Cond.selects RX0 yX0_sumOfLanes yX0_sumOfLanes ∈ cc_GT := cc_gt 39 (by decide +kernel) (by decide +kernel)
theorem sl_X0_stuckLanes : Cond.selects RX0 yX0_stuckLanes yX0_stuckLanes ∈ cc_GT := cc_gt 40 (by decide +kernel) (by decide +kernel)
theorem sl_X4_lay : Cond.selects RX4 yX4_lay yX4_lay ∈ cc_GT := cc_gt 41 (by decide +kernel) (by decide +kernel)
theorem sl_X4_open : Cond.selects RX4 yX4_open yX4_open ∈ cc_GT := cc_gt 42 (by decide +kernel) (by decide +kernel)
theorem sl_X4_remember : Cond.selects RX4 yX4_remember yX4_remember ∈ cc_GT := cc_gt 43 (by decide +kernel) (by decide +kernel)
theorem sl_X4_record : Cond.selects RX4 yX4_record yX4_record ∈ cc_GT := cc_gt 44 (by decide +kernel) (by decide +kernel)
theorem sl_X4_of : Cond.selects RX4 yX4_of yX4_of ∈ cc_GT := cc_gt 45 (by decide +kernel) (by decide +kernel)
theorem sl_X4_more : Cond.selects RX4 yX4_more yX4_more ∈ cc_GT := cc_gt 46 (by decide +kernel) (by decide +kernel)
theorem sl_X4_by : Cond.selects RX4 yX4_by yX4_by ∈ cc_GT := cc_gt 47 (by decide +kernel) (by decide +kernel)
theorem sl_X4_bring : Cond.selects RX4 yX4_bring yX4_bring ∈ cc_GT := cc_gt 48 (by decide +kernel) (by decide +kernel)
theorem sl_X4_arrivals : Cond.selects RX4 yX4_arrivals yX4_arrivals ∈ cc_GT := cc_gt 49 (by decide +kernel) (by decide +kernel)
theorem sl_X4_arrival : Cond.selects RX4 yX4_arrival yX4_arrival ∈ cc_GT := cc_gt 50 (by decide +kernel) (by decide +kernel)
theorem sl_X4_sees : Cond.selects RX4 yX4_sees yX4_sees ∈ cc_GT := cc_gt 51 (by decide +kernel) (by decide +kernel)
theorem sl_X4_goBack : Cond.selects RX4 yX4_goBack yX4_goBack ∈ cc_GT := cc_gt 52 (by decide +kernel) (by decide +kernel)
theorem sl_X4_passAll : Cond.selects RX4 yX4_passAll yX4_passAll ∈ cc_GT := cc_gt 53 (by decide +kernel) (by decide +kernel)
theorem sl_X4_tick : Cond.selects RX4 yX4_tick yX4_tick ∈ cc_GT := cc_gt 54 (by decide +kernel) (by decide +kernel)
theorem sl_X4_come : Cond.selects RX4 yX4_come yX4_come ∈ cc_GT := cc_gt 55 (by decide +kernel) (by decide +kernel)
theorem sl_X4_dropFirst : Cond.selects RX4 yX4_dropFirst yX4_dropFirst ∈ cc_GT := cc_gt 56 (by decide +kernel) (by decide +kernel)
theorem sl_X4_missing : Cond.selects RX4 yX4_missing yX4_missing ∈ cc_GT := cc_gt 57 (by decide +kernel) (by decide +kernel)
theorem sl_X4_send : Cond.selects RX4 yX4_send yX4_send ∈ cc_GT := cc_gt 58 (by decide +kernel) (by decide +kernel)
theorem sl_X4_offer : Cond.selects RX4 yX4_offer yX4_offer ∈ cc_GT := cc_gt 59 (by decide +kernel) (by decide +kernel)
theorem sl_X4_leave : Cond.selects RX4 yX4_leave yX4_leave ∈ cc_GT := cc_gt 60 (by decide +kernel) (by decide +kernel)
theorem sl_X4_take : Cond.selects RX4 yX4_take yX4_take ∈ cc_GT := cc_gt 61 (by decide +kernel) (by decide +kernel)
theorem sl_X4_waiting : Cond.selects RX4 yX4_waiting yX4_waiting ∈ cc_GT := cc_gt 62 (by decide +kernel) (by decide +kernel)
theorem sl_X4_isStuck : Cond.selects RX4 yX4_isStuck yX4_isStuck ∈ cc_GT := cc_gt 63 (by decide +kernel) (by decide +kernel)
theorem sl_X4_waits : Cond.selects RX4 yX4_waits yX4_waits ∈ cc_GT := cc_gt 64 (by decide +kernel) (by decide +kernel)
theorem sl_X4_over : Cond.selects RX4 yX4_over yX4_over ∈ cc_GT := cc_gt 65 (by decide +kernel) (by decide +kernel)
theorem sl_X4_stuckOnes : Cond.selects RX4 yX4_stuckOnes yX4_stuckOnes ∈ cc_GT := cc_gt 66 (by decide +kernel) (by decide +kernel)
theorem uw_X0 : ∀ w ∈ u_ws RX0 TX0 6, w ∈ cc_GT := by decide +kernel
theorem uw_X1 : ∀ w ∈ u_ws RX1 TX1 13, w ∈ cc_GT := by decide +kernel
theorem uw_X2 : ∀ w ∈ u_ws RX2 TX2 7, w ∈ cc_GT := by decide +kernel
theorem uw_X3 : ∀ w ∈ u_ws RX3 TX3 8, w ∈ cc_GT := by decide +kernel
theorem uw_X4 : ∀ w ∈ u_ws RX4 TX4 11, w ∈ cc_GT := by decide +kernel
