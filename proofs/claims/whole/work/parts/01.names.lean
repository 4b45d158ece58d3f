-- ===== PART A: goes FIRST, ahead of the names: the tables' words, and 'selects' of the private methods out of them =====
/-- a private method of a class that the tables say can be made, by its rows of tables_1 -/
def lw_okq (q : MethodName × Nat) : Prop := (q.1.cls ≠ "java/lang/invoke/MethodHandle" ∧ q.1.cls ≠ "java/lang/invoke/VarHandle") ∧ Cond.instantiable q.1.cls q.2 ∈ tables_1 ∧ Cond.privateMethod q.1 ∈ tables_1 ∧ Cond.instanceMethod q.1 ∈ tables_1
theorem lw_p0 : lw_okq (⟨"LineWalkers", "refuseAsTold", "(I)I"⟩, 16) := ⟨⟨by decide +kernel, by decide +kernel⟩, List.mem_of_getElem? (i := 14) (by decide +kernel), List.mem_of_getElem? (i := 303) (by decide +kernel), List.mem_of_getElem? (i := 304) (by decide +kernel)⟩
theorem lw_p1 : lw_okq (⟨"LineWalkers", "refuse", "(I)I"⟩, 16) := ⟨⟨by decide +kernel, by decide +kernel⟩, List.mem_of_getElem? (i := 14) (by decide +kernel), List.mem_of_getElem? (i := 308) (by decide +kernel), List.mem_of_getElem? (i := 309) (by decide +kernel)⟩
theorem lw_p2 : lw_okq (⟨"LineWalkers", "readingsOf", "(I)LLineWalkers$Readings;"⟩, 16) := ⟨⟨by decide +kernel, by decide +kernel⟩, List.mem_of_getElem? (i := 14) (by decide +kernel), List.mem_of_getElem? (i := 312) (by decide +kernel), List.mem_of_getElem? (i := 313) (by decide +kernel)⟩
theorem lw_p3 : lw_okq (⟨"LineWalkers", "ruleFor", "(I)I"⟩, 16) := ⟨⟨by decide +kernel, by decide +kernel⟩, List.mem_of_getElem? (i := 14) (by decide +kernel), List.mem_of_getElem? (i := 357) (by decide +kernel), List.mem_of_getElem? (i := 358) (by decide +kernel)⟩
theorem lw_p4 : lw_okq (⟨"LineWalkers$RuleBook", "goesBefore", "(II)Z"⟩, 6) := ⟨⟨by decide +kernel, by decide +kernel⟩, List.mem_of_getElem? (i := 99) (by decide +kernel), List.mem_of_getElem? (i := 365) (by decide +kernel), List.mem_of_getElem? (i := 366) (by decide +kernel)⟩
theorem lw_p5 : lw_okq (⟨"LineWalkers", "refusalOfOpenDefect", "(I)I"⟩, 16) := ⟨⟨by decide +kernel, by decide +kernel⟩, List.mem_of_getElem? (i := 14) (by decide +kernel), List.mem_of_getElem? (i := 381) (by decide +kernel), List.mem_of_getElem? (i := 382) (by decide +kernel)⟩
theorem lw_p6 : lw_okq (⟨"LineWalkers", "isDefect", "(I)Z"⟩, 16) := ⟨⟨by decide +kernel, by decide +kernel⟩, List.mem_of_getElem? (i := 14) (by decide +kernel), List.mem_of_getElem? (i := 385) (by decide +kernel), List.mem_of_getElem? (i := 386) (by decide +kernel)⟩
theorem lw_p7 : lw_okq (⟨"LineWalkers", "dueDay", "(I)I"⟩, 16) := ⟨⟨by decide +kernel, by decide +kernel⟩, List.mem_of_getElem? (i := 14) (by decide +kernel), List.mem_of_getElem? (i := 409) (by decide +kernel), List.mem_of_getElem? (i := 410) (by decide +kernel)⟩
theorem lw_p8 : lw_okq (⟨"LineWalkers", "isOverdue", "(I)Z"⟩, 16) := ⟨⟨by decide +kernel, by decide +kernel⟩, List.mem_of_getElem? (i := 14) (by decide +kernel), List.mem_of_getElem? (i := 417) (by decide +kernel), List.mem_of_getElem? (i := 418) (by decide +kernel)⟩
theorem lw_p9 : lw_okq (⟨"LineWalkers", "needsAct", "(I)Z"⟩, 16) := ⟨⟨by decide +kernel, by decide +kernel⟩, List.mem_of_getElem? (i := 14) (by decide +kernel), List.mem_of_getElem? (i := 441) (by decide +kernel), List.mem_of_getElem? (i := 442) (by decide +kernel)⟩
theorem lw_p10 : lw_okq (⟨"LineWalkers", "heatOf", "(I)I"⟩, 16) := ⟨⟨by decide +kernel, by decide +kernel⟩, List.mem_of_getElem? (i := 14) (by decide +kernel), List.mem_of_getElem? (i := 445) (by decide +kernel), List.mem_of_getElem? (i := 446) (by decide +kernel)⟩
theorem lw_p11 : lw_okq (⟨"LineWalkers", "passDay", "()V"⟩, 16) := ⟨⟨by decide +kernel, by decide +kernel⟩, List.mem_of_getElem? (i := 14) (by decide +kernel), List.mem_of_getElem? (i := 468) (by decide +kernel), List.mem_of_getElem? (i := 469) (by decide +kernel)⟩
theorem lw_p12 : lw_okq (⟨"LineWalkers", "riskOf", "(I)I"⟩, 16) := ⟨⟨by decide +kernel, by decide +kernel⟩, List.mem_of_getElem? (i := 14) (by decide +kernel), List.mem_of_getElem? (i := 523) (by decide +kernel), List.mem_of_getElem? (i := 524) (by decide +kernel)⟩
theorem lw_p13 : lw_okq (⟨"LineWalkers", "addUpRisks", "()V"⟩, 16) := ⟨⟨by decide +kernel, by decide +kernel⟩, List.mem_of_getElem? (i := 14) (by decide +kernel), List.mem_of_getElem? (i := 535) (by decide +kernel), List.mem_of_getElem? (i := 536) (by decide +kernel)⟩
theorem lw_p14 : lw_okq (⟨"LineWalkers", "riskOfRange", "(II)I"⟩, 16) := ⟨⟨by decide +kernel, by decide +kernel⟩, List.mem_of_getElem? (i := 14) (by decide +kernel), List.mem_of_getElem? (i := 539) (by decide +kernel), List.mem_of_getElem? (i := 540) (by decide +kernel)⟩
theorem lw_p15 : lw_okq (⟨"LineWalkers$CarLines", "weighPairs", "(LLineWalkers$Defects;III)Z"⟩, 6) := ⟨⟨by decide +kernel, by decide +kernel⟩, List.mem_of_getElem? (i := 175) (by decide +kernel), List.mem_of_getElem? (i := 585) (by decide +kernel), List.mem_of_getElem? (i := 586) (by decide +kernel)⟩
def lw_privs_1 : List (MethodName × Nat) := [(⟨"LineWalkers", "refuseAsTold", "(I)I"⟩, 16), (⟨"LineWalkers", "refuse", "(I)I"⟩, 16), (⟨"LineWalkers", "readingsOf", "(I)LLineWalkers$Readings;"⟩, 16), (⟨"LineWalkers", "ruleFor", "(I)I"⟩, 16), (⟨"LineWalkers$RuleBook", "goesBefore", "(II)Z"⟩, 6), (⟨"LineWalkers", "refusalOfOpenDefect", "(I)I"⟩, 16), (⟨"LineWalkers", "isDefect", "(I)Z"⟩, 16), (⟨"LineWalkers", "dueDay", "(I)I"⟩, 16), (⟨"LineWalkers", "isOverdue", "(I)Z"⟩, 16), (⟨"LineWalkers", "needsAct", "(I)Z"⟩, 16), (⟨"LineWalkers", "heatOf", "(I)I"⟩, 16), (⟨"LineWalkers", "passDay", "()V"⟩, 16), (⟨"LineWalkers", "riskOf", "(I)I"⟩, 16), (⟨"LineWalkers", "addUpRisks", "()V"⟩, 16), (⟨"LineWalkers", "riskOfRange", "(II)I"⟩, 16), (⟨"LineWalkers$CarLines", "weighPairs", "(LLineWalkers$Defects;III)Z"⟩, 6)]
theorem lw_r1 : ∀ q ∈ lw_privs_1, lw_okq q := List.forall_mem_cons.mpr ⟨lw_p0, List.forall_mem_cons.mpr ⟨lw_p1, List.forall_mem_cons.mpr ⟨lw_p2, List.forall_mem_cons.mpr ⟨lw_p3, List.forall_mem_cons.mpr ⟨lw_p4, List.forall_mem_cons.mpr ⟨lw_p5, List.forall_mem_cons.mpr ⟨lw_p6, List.forall_mem_cons.mpr ⟨lw_p7, List.forall_mem_cons.mpr ⟨lw_p8, List.forall_mem_cons.mpr ⟨lw_p9, List.forall_mem_cons.mpr ⟨lw_p10, List.forall_mem_cons.mpr ⟨lw_p11, List.forall_mem_cons.mpr ⟨lw_p12, List.forall_mem_cons.mpr ⟨lw_p13, List.forall_mem_cons.mpr ⟨lw_p14, List.forall_mem_cons.mpr ⟨lw_p15, fun _ h => absurd h List.not_mem_nil⟩⟩⟩⟩⟩⟩⟩⟩⟩⟩⟩⟩⟩⟩⟩⟩
theorem lw_p16 : lw_okq (⟨"LineWalkers$CarLines", "offerDefect", "(I)V"⟩, 6) := ⟨⟨by decide +kernel, by decide +kernel⟩, List.mem_of_getElem? (i := 175) (by decide +kernel), List.mem_of_getElem? (i := 593) (by decide +kernel), List.mem_of_getElem? (i := 594) (by decide +kernel)⟩
theorem lw_p17 : lw_okq (⟨"LineWalkers$CarLines", "weightOfRest", "(I)J"⟩, 6) := ⟨⟨by decide +kernel, by decide +kernel⟩, List.mem_of_getElem? (i := 175) (by decide +kernel), List.mem_of_getElem? (i := 600) (by decide +kernel), List.mem_of_getElem? (i := 601) (by decide +kernel)⟩
theorem lw_p18 : lw_okq (⟨"LineWalkers$Gangs", "hasTools", "(I)Z"⟩, 6) := ⟨⟨by decide +kernel, by decide +kernel⟩, List.mem_of_getElem? (i := 202) (by decide +kernel), List.mem_of_getElem? (i := 645) (by decide +kernel), List.mem_of_getElem? (i := 646) (by decide +kernel)⟩
theorem lw_p19 : lw_okq (⟨"LineWalkers$Gangs", "weigh", "(I)I"⟩, 6) := ⟨⟨by decide +kernel, by decide +kernel⟩, List.mem_of_getElem? (i := 202) (by decide +kernel), List.mem_of_getElem? (i := 653) (by decide +kernel), List.mem_of_getElem? (i := 654) (by decide +kernel)⟩
theorem lw_p20 : lw_okq (⟨"LineWalkersModel", "refuseFar", "(I)I"⟩, 58) := ⟨⟨by decide +kernel, by decide +kernel⟩, List.mem_of_getElem? (i := 724) (by decide +kernel), List.mem_of_getElem? (i := 916) (by decide +kernel), List.mem_of_getElem? (i := 917) (by decide +kernel)⟩
theorem lw_p21 : lw_okq (⟨"LineWalkersModel", "refuse", "(I)I"⟩, 58) := ⟨⟨by decide +kernel, by decide +kernel⟩, List.mem_of_getElem? (i := 724) (by decide +kernel), List.mem_of_getElem? (i := 921) (by decide +kernel), List.mem_of_getElem? (i := 922) (by decide +kernel)⟩
theorem lw_p22 : lw_okq (⟨"LineWalkersModel", "counts", "(II)I"⟩, 58) := ⟨⟨by decide +kernel, by decide +kernel⟩, List.mem_of_getElem? (i := 724) (by decide +kernel), List.mem_of_getElem? (i := 929) (by decide +kernel), List.mem_of_getElem? (i := 930) (by decide +kernel)⟩
theorem lw_p23 : lw_okq (⟨"LineWalkersModel", "looksAt", "(III)Z"⟩, 58) := ⟨⟨by decide +kernel, by decide +kernel⟩, List.mem_of_getElem? (i := 724) (by decide +kernel), List.mem_of_getElem? (i := 946) (by decide +kernel), List.mem_of_getElem? (i := 947) (by decide +kernel)⟩
theorem lw_p24 : lw_okq (⟨"LineWalkersModel", "forceOf", "(I)I"⟩, 58) := ⟨⟨by decide +kernel, by decide +kernel⟩, List.mem_of_getElem? (i := 724) (by decide +kernel), List.mem_of_getElem? (i := 951) (by decide +kernel), List.mem_of_getElem? (i := 952) (by decide +kernel)⟩
theorem lw_p25 : lw_okq (⟨"LineWalkersModel", "isDefect", "(I)Z"⟩, 58) := ⟨⟨by decide +kernel, by decide +kernel⟩, List.mem_of_getElem? (i := 724) (by decide +kernel), List.mem_of_getElem? (i := 959) (by decide +kernel), List.mem_of_getElem? (i := 960) (by decide +kernel)⟩
theorem lw_p26 : lw_okq (⟨"LineWalkersModel", "wrongOpen", "(I)I"⟩, 58) := ⟨⟨by decide +kernel, by decide +kernel⟩, List.mem_of_getElem? (i := 724) (by decide +kernel), List.mem_of_getElem? (i := 975) (by decide +kernel), List.mem_of_getElem? (i := 976) (by decide +kernel)⟩
theorem lw_p27 : lw_okq (⟨"LineWalkersModel", "dueOf", "(I)I"⟩, 58) := ⟨⟨by decide +kernel, by decide +kernel⟩, List.mem_of_getElem? (i := 724) (by decide +kernel), List.mem_of_getElem? (i := 983) (by decide +kernel), List.mem_of_getElem? (i := 984) (by decide +kernel)⟩
theorem lw_p28 : lw_okq (⟨"LineWalkersModel", "heatOf", "(I)I"⟩, 58) := ⟨⟨by decide +kernel, by decide +kernel⟩, List.mem_of_getElem? (i := 724) (by decide +kernel), List.mem_of_getElem? (i := 1003) (by decide +kernel), List.mem_of_getElem? (i := 1004) (by decide +kernel)⟩
theorem lw_p29 : lw_okq (⟨"LineWalkersModel", "grows", "(I)I"⟩, 58) := ⟨⟨by decide +kernel, by decide +kernel⟩, List.mem_of_getElem? (i := 724) (by decide +kernel), List.mem_of_getElem? (i := 1020) (by decide +kernel), List.mem_of_getElem? (i := 1021) (by decide +kernel)⟩
theorem lw_p30 : lw_okq (⟨"LineWalkersModel", "isSafe", "(III)Z"⟩, 58) := ⟨⟨by decide +kernel, by decide +kernel⟩, List.mem_of_getElem? (i := 724) (by decide +kernel), List.mem_of_getElem? (i := 1035) (by decide +kernel), List.mem_of_getElem? (i := 1036) (by decide +kernel)⟩
theorem lw_p31 : lw_okq (⟨"LineWalkersModel", "riskOf", "(I)I"⟩, 58) := ⟨⟨by decide +kernel, by decide +kernel⟩, List.mem_of_getElem? (i := 724) (by decide +kernel), List.mem_of_getElem? (i := 1051) (by decide +kernel), List.mem_of_getElem? (i := 1052) (by decide +kernel)⟩
def lw_privs_2 : List (MethodName × Nat) := [(⟨"LineWalkers$CarLines", "offerDefect", "(I)V"⟩, 6), (⟨"LineWalkers$CarLines", "weightOfRest", "(I)J"⟩, 6), (⟨"LineWalkers$Gangs", "hasTools", "(I)Z"⟩, 6), (⟨"LineWalkers$Gangs", "weigh", "(I)I"⟩, 6), (⟨"LineWalkersModel", "refuseFar", "(I)I"⟩, 58), (⟨"LineWalkersModel", "refuse", "(I)I"⟩, 58), (⟨"LineWalkersModel", "counts", "(II)I"⟩, 58), (⟨"LineWalkersModel", "looksAt", "(III)Z"⟩, 58), (⟨"LineWalkersModel", "forceOf", "(I)I"⟩, 58), (⟨"LineWalkersModel", "isDefect", "(I)Z"⟩, 58), (⟨"LineWalkersModel", "wrongOpen", "(I)I"⟩, 58), (⟨"LineWalkersModel", "dueOf", "(I)I"⟩, 58), (⟨"LineWalkersModel", "heatOf", "(I)I"⟩, 58), (⟨"LineWalkersModel", "grows", "(I)I"⟩, 58), (⟨"LineWalkersModel", "isSafe", "(III)Z"⟩, 58), (⟨"LineWalkersModel", "riskOf", "(I)I"⟩, 58)]
theorem lw_r2 : ∀ q ∈ lw_privs_2, lw_okq q := List.forall_mem_cons.mpr ⟨lw_p16, List.forall_mem_cons.mpr ⟨lw_p17, List.forall_mem_cons.mpr ⟨lw_p18, List.forall_mem_cons.mpr ⟨lw_p19, List.forall_mem_cons.mpr ⟨lw_p20, List.forall_mem_cons.mpr ⟨lw_p21, List.forall_mem_cons.mpr ⟨lw_p22, List.forall_mem_cons.mpr ⟨lw_p23, List.forall_mem_cons.mpr ⟨lw_p24, List.forall_mem_cons.mpr ⟨lw_p25, List.forall_mem_cons.mpr ⟨lw_p26, List.forall_mem_cons.mpr ⟨lw_p27, List.forall_mem_cons.mpr ⟨lw_p28, List.forall_mem_cons.mpr ⟨lw_p29, List.forall_mem_cons.mpr ⟨lw_p30, List.forall_mem_cons.mpr ⟨lw_p31, fun _ h => absurd h List.not_mem_nil⟩⟩⟩⟩⟩⟩⟩⟩⟩⟩⟩⟩⟩⟩⟩⟩
theorem lw_p32 : lw_okq (⟨"LineWalkersModel", "riskFrom", "(II)I"⟩, 58) := ⟨⟨by decide +kernel, by decide +kernel⟩, List.mem_of_getElem? (i := 724) (by decide +kernel), List.mem_of_getElem? (i := 1059) (by decide +kernel), List.mem_of_getElem? (i := 1060) (by decide +kernel)⟩
theorem lw_p33 : lw_okq (⟨"LineWalkersModel", "joins", "()I"⟩, 58) := ⟨⟨by decide +kernel, by decide +kernel⟩, List.mem_of_getElem? (i := 724) (by decide +kernel), List.mem_of_getElem? (i := 1079) (by decide +kernel), List.mem_of_getElem? (i := 1080) (by decide +kernel)⟩
theorem lw_p34 : lw_okq (⟨"LineWalkersModel", "worth", "(II)I"⟩, 58) := ⟨⟨by decide +kernel, by decide +kernel⟩, List.mem_of_getElem? (i := 724) (by decide +kernel), List.mem_of_getElem? (i := 1083) (by decide +kernel), List.mem_of_getElem? (i := 1084) (by decide +kernel)⟩
theorem lw_p35 : lw_okq (⟨"LineWalkersModel", "plans", "()V"⟩, 58) := ⟨⟨by decide +kernel, by decide +kernel⟩, List.mem_of_getElem? (i := 724) (by decide +kernel), List.mem_of_getElem? (i := 1103) (by decide +kernel), List.mem_of_getElem? (i := 1104) (by decide +kernel)⟩
theorem lw_p36 : lw_okq (⟨"LineWalkersModel", "tries", "(I)V"⟩, 58) := ⟨⟨by decide +kernel, by decide +kernel⟩, List.mem_of_getElem? (i := 724) (by decide +kernel), List.mem_of_getElem? (i := 1107) (by decide +kernel), List.mem_of_getElem? (i := 1108) (by decide +kernel)⟩
theorem lw_p37 : lw_okq (⟨"LineWalkersModel", "gangIn", "(II)I"⟩, 58) := ⟨⟨by decide +kernel, by decide +kernel⟩, List.mem_of_getElem? (i := 724) (by decide +kernel), List.mem_of_getElem? (i := 1111) (by decide +kernel), List.mem_of_getElem? (i := 1112) (by decide +kernel)⟩
theorem lw_p38 : lw_okq (⟨"LineWalkersModel", "cracks", "(I)I"⟩, 58) := ⟨⟨by decide +kernel, by decide +kernel⟩, List.mem_of_getElem? (i := 724) (by decide +kernel), List.mem_of_getElem? (i := 1131) (by decide +kernel), List.mem_of_getElem? (i := 1132) (by decide +kernel)⟩
theorem lw_p39 : lw_okq (⟨"LineWalkersModel", "milesOf", "(I)I"⟩, 58) := ⟨⟨by decide +kernel, by decide +kernel⟩, List.mem_of_getElem? (i := 724) (by decide +kernel), List.mem_of_getElem? (i := 1135) (by decide +kernel), List.mem_of_getElem? (i := 1136) (by decide +kernel)⟩
theorem lw_p40 : lw_okq (⟨"LineWalkersModel", "worstOf", "()I"⟩, 58) := ⟨⟨by decide +kernel, by decide +kernel⟩, List.mem_of_getElem? (i := 724) (by decide +kernel), List.mem_of_getElem? (i := 1143) (by decide +kernel), List.mem_of_getElem? (i := 1144) (by decide +kernel)⟩
def lw_privs_3 : List (MethodName × Nat) := [(⟨"LineWalkersModel", "riskFrom", "(II)I"⟩, 58), (⟨"LineWalkersModel", "joins", "()I"⟩, 58), (⟨"LineWalkersModel", "worth", "(II)I"⟩, 58), (⟨"LineWalkersModel", "plans", "()V"⟩, 58), (⟨"LineWalkersModel", "tries", "(I)V"⟩, 58), (⟨"LineWalkersModel", "gangIn", "(II)I"⟩, 58), (⟨"LineWalkersModel", "cracks", "(I)I"⟩, 58), (⟨"LineWalkersModel", "milesOf", "(I)I"⟩, 58), (⟨"LineWalkersModel", "worstOf", "()I"⟩, 58)]
theorem lw_r3 : ∀ q ∈ lw_privs_3, lw_okq q := List.forall_mem_cons.mpr ⟨lw_p32, List.forall_mem_cons.mpr ⟨lw_p33, List.forall_mem_cons.mpr ⟨lw_p34, List.forall_mem_cons.mpr ⟨lw_p35, List.forall_mem_cons.mpr ⟨lw_p36, List.forall_mem_cons.mpr ⟨lw_p37, List.forall_mem_cons.mpr ⟨lw_p38, List.forall_mem_cons.mpr ⟨lw_p39, List.forall_mem_cons.mpr ⟨lw_p40, fun _ h => absurd h List.not_mem_nil⟩⟩⟩⟩⟩⟩⟩⟩⟩
def lw_privs : List (MethodName × Nat) := lw_privs_1 ++ (lw_privs_2 ++ (lw_privs_3))
def lw_tbl : List Cond := k2_sels lw_privs ++ tables_1
theorem lw_privs_ok : ∀ q ∈ lw_privs, lw_okq q := by
  show ∀ q ∈ lw_privs_1 ++ (lw_privs_2 ++ (lw_privs_3)), lw_okq q
  exact List.forall_mem_append.mpr ⟨lw_r1, List.forall_mem_append.mpr ⟨lw_r2, lw_r3⟩⟩
-- ===== names =====
def RX0 : String := "LineWalkers$CarLines"
def TX0 : u_T := fun k => match k with
  | 0 => ("LineWalkers$CarLines", "told", "I", false)
  | 1 => ("LineWalkers$CarLines", "mile", "[I", true)
  | 2 => ("LineWalkers$CarLines", "yard", "[I", true)
  | 3 => ("LineWalkers$CarLines", "side", "[I", true)
  | 4 => ("LineWalkers$CarLines", "pairWeights", "[J", true)
  | _ => ("LineWalkers$CarLines", "leastFor", "[J", true)
def tyX0 : Nat → FieldType := fun k => match k with
  | 0 => .int
  | 1 => .array .int
  | 2 => .array .int
  | 3 => .array .int
  | 4 => .array .long
  | _ => .array .long
abbrev wsX00 : List Cond := u_ws RX0 TX0 6
theorem nmX0 : ∀ a, a < 6 → ∀ b, b < 6 → a ≠ b → (TX0 a).2.1 ≠ (TX0 b).2.1 := by decide +kernel
theorem tyX0_ok : ∀ k, k < 6 → parseFieldDescriptor (TX0 k).2.2.1 = some (tyX0 k) := by decide +kernel
abbrev cX0_init : ByteArray := prog_2_method_1_code
def yX0_init : MethodName := ⟨RX0, "<init>", "()V"⟩
abbrev cX0_add : ByteArray := prog_2_method_2_code
def yX0_add : MethodName := ⟨RX0, "add", "(III)I"⟩
abbrev cX0_bestJoining : ByteArray := prog_2_method_3_code
def yX0_bestJoining : MethodName := ⟨RX0, "bestJoining", "(LLineWalkers$Defects;I)J"⟩
abbrev cX0_weighPairs : ByteArray := prog_2_method_4_code
def yX0_weighPairs : MethodName := ⟨RX0, "weighPairs", "(LLineWalkers$Defects;III)Z"⟩
abbrev cX0_offerDefect : ByteArray := prog_2_method_5_code
def yX0_offerDefect : MethodName := ⟨RX0, "offerDefect", "(I)V"⟩
abbrev cX0_weightOfRest : ByteArray := prog_2_method_6_code
def yX0_weightOfRest : MethodName := ⟨RX0, "weightOfRest", "(I)J"⟩
abbrev cX0_joinedIn : ByteArray := prog_2_method_7_code
def yX0_joinedIn : MethodName := ⟨RX0, "joinedIn", "(J)I"⟩
abbrev cX0_yardsIn : ByteArray := prog_2_method_8_code
def yX0_yardsIn : MethodName := ⟨RX0, "yardsIn", "(J)I"⟩
abbrev cX0_choiceIn : ByteArray := prog_2_method_9_code
def yX0_choiceIn : MethodName := ⟨RX0, "choiceIn", "(JI)I"⟩
def RX1 : String := "LineWalkers$Defects"
def TX1 : u_T := fun k => match k with
  | 0 => ("LineWalkers$Defects", "told", "I", false)
  | 1 => ("LineWalkers$Defects", "looks", "I", false)
  | 2 => ("LineWalkers$Defects", "quarrels", "I", false)
  | 3 => ("LineWalkers$Defects", "mile", "[I", true)
  | 4 => ("LineWalkers$Defects", "yard", "[I", true)
  | 5 => ("LineWalkers$Defects", "side", "[I", true)
  | 6 => ("LineWalkers$Defects", "kind", "[I", true)
  | 7 => ("LineWalkers$Defects", "open", "[Z", true)
  | 8 => ("LineWalkers$Defects", "least", "[I", true)
  | 9 => ("LineWalkers$Defects", "greatest", "[I", true)
  | 10 => ("LineWalkers$Defects", "noted", "[I", true)
  | _ => ("LineWalkers$Defects", "notedSince", "[I", true)
def tyX1 : Nat → FieldType := fun k => match k with
  | 0 => .int
  | 1 => .int
  | 2 => .int
  | 3 => .array .int
  | 4 => .array .int
  | 5 => .array .int
  | 6 => .array .int
  | 7 => .array .boolean
  | 8 => .array .int
  | 9 => .array .int
  | 10 => .array .int
  | _ => .array .int
abbrev wsX10 : List Cond := u_ws RX1 TX1 12
theorem nmX1 : ∀ a, a < 12 → ∀ b, b < 12 → a ≠ b → (TX1 a).2.1 ≠ (TX1 b).2.1 := by decide +kernel
theorem tyX1_ok : ∀ k, k < 12 → parseFieldDescriptor (TX1 k).2.2.1 = some (tyX1 k) := by decide +kernel
abbrev cX1_init : ByteArray := prog_3_method_1_code
def yX1_init : MethodName := ⟨RX1, "<init>", "()V"⟩
abbrev cX1_add : ByteArray := prog_3_method_2_code
def yX1_add : MethodName := ⟨RX1, "add", "(IIII)I"⟩
abbrev cX1_cutSpan : ByteArray := prog_3_method_3_code
def yX1_cutSpan : MethodName := ⟨RX1, "cutSpan", "(III)Z"⟩
abbrev cX1_note : ByteArray := prog_3_method_4_code
def yX1_note : MethodName := ⟨RX1, "note", "(III)V"⟩
abbrev cX1_grow : ByteArray := prog_3_method_5_code
def yX1_grow : MethodName := ⟨RX1, "grow", "(II[I)V"⟩
abbrev cX1_mostGrowth : ByteArray := prog_3_method_6_code
def yX1_mostGrowth : MethodName := ⟨RX1, "mostGrowth", "(III)I"⟩
abbrev cX1_countOpen : ByteArray := prog_3_method_7_code
def yX1_countOpen : MethodName := ⟨RX1, "countOpen", "()I"⟩
abbrev cX1_countOpenIn : ByteArray := prog_3_method_8_code
def yX1_countOpenIn : MethodName := ⟨RX1, "countOpenIn", "(I)I"⟩
abbrev cX1_openOne : ByteArray := prog_3_method_9_code
def yX1_openOne : MethodName := ⟨RX1, "openOne", "(I)I"⟩
def RX2 : String := "LineWalkers$Finds"
def TX2 : u_T := fun k => match k with
  | 0 => ("LineWalkers$Finds", "byFirst", "[I", true)
  | 1 => ("LineWalkers$Finds", "bySecond", "[I", true)
  | _ => ("LineWalkers$Finds", "byBoth", "[I", true)
def tyX2 : Nat → FieldType := fun k => match k with
  | 0 => .array .int
  | 1 => .array .int
  | _ => .array .int
abbrev wsX20 : List Cond := u_ws RX2 TX2 3
theorem nmX2 : ∀ a, a < 3 → ∀ b, b < 3 → a ≠ b → (TX2 a).2.1 ≠ (TX2 b).2.1 := by decide +kernel
theorem tyX2_ok : ∀ k, k < 3 → parseFieldDescriptor (TX2 k).2.2.1 = some (tyX2 k) := by decide +kernel
abbrev cX2_init : ByteArray := prog_4_method_1_code
def yX2_init : MethodName := ⟨RX2, "<init>", "()V"⟩
abbrev cX2_hasRoom : ByteArray := prog_4_method_2_code
def yX2_hasRoom : MethodName := ⟨RX2, "hasRoom", "(IIII)Z"⟩
abbrev cX2_add : ByteArray := prog_4_method_3_code
def yX2_add : MethodName := ⟨RX2, "add", "(IIII)V"⟩
abbrev cX2_estimate : ByteArray := prog_4_method_4_code
def yX2_estimate : MethodName := ⟨RX2, "estimate", "(I)I"⟩
abbrev cX2_missed : ByteArray := prog_4_method_5_code
def yX2_missed : MethodName := ⟨RX2, "missed", "(I)I"⟩
def RX3 : String := "LineWalkers$Gangs"
def TX3 : u_T := fun k => match k with
  | 0 => ("LineWalkers$Gangs", "jobs", "I", false)
  | 1 => ("LineWalkers$Gangs", "toolsOfGang", "[I", true)
  | 2 => ("LineWalkers$Gangs", "hours", "[I", true)
  | 3 => ("LineWalkers$Gangs", "dueHour", "[I", true)
  | 4 => ("LineWalkers$Gangs", "tools", "[I", true)
  | _ => ("LineWalkers$Gangs", "byDue", "[I", true)
def tyX3 : Nat → FieldType := fun k => match k with
  | 0 => .int
  | 1 => .array .int
  | 2 => .array .int
  | 3 => .array .int
  | 4 => .array .int
  | _ => .array .int
abbrev wsX30 : List Cond := u_ws RX3 TX3 6
theorem nmX3 : ∀ a, a < 6 → ∀ b, b < 6 → a ≠ b → (TX3 a).2.1 ≠ (TX3 b).2.1 := by decide +kernel
theorem tyX3_ok : ∀ k, k < 6 → parseFieldDescriptor (TX3 k).2.2.1 = some (tyX3 k) := by decide +kernel
abbrev cX3_init : ByteArray := prog_5_method_1_code
def yX3_init : MethodName := ⟨RX3, "<init>", "()V"⟩
abbrev cX3_add : ByteArray := prog_5_method_2_code
def yX3_add : MethodName := ⟨RX3, "add", "(III)I"⟩
abbrev cX3_bestPlan : ByteArray := prog_5_method_3_code
def yX3_bestPlan : MethodName := ⟨RX3, "bestPlan", "()I"⟩
abbrev cX3_hasTools : ByteArray := prog_5_method_4_code
def yX3_hasTools : MethodName := ⟨RX3, "hasTools", "(I)Z"⟩
abbrev cX3_weigh : ByteArray := prog_5_method_5_code
def yX3_weigh : MethodName := ⟨RX3, "weigh", "(I)I"⟩
abbrev cX3_gangIn : ByteArray := prog_5_method_6_code
def yX3_gangIn : MethodName := ⟨RX3, "gangIn", "(II)I"⟩
abbrev cX3_worstIn : ByteArray := prog_5_method_7_code
def yX3_worstIn : MethodName := ⟨RX3, "worstIn", "(I)I"⟩
abbrev cX3_togetherIn : ByteArray := prog_5_method_8_code
def yX3_togetherIn : MethodName := ⟨RX3, "togetherIn", "(I)I"⟩
abbrev cX3_wayIn : ByteArray := prog_5_method_9_code
def yX3_wayIn : MethodName := ⟨RX3, "wayIn", "(I)I"⟩
def RX4 : String := "LineWalkers$Rails"
def TX4 : u_T := fun k => match k with
  | 0 => ("LineWalkers$Rails", "laidAt", "[I", true)
  | 1 => ("LineWalkers$Rails", "cracks", "[I", true)
  | _ => ("LineWalkers$Rails", "lotOfMile", "[I", true)
def tyX4 : Nat → FieldType := fun k => match k with
  | 0 => .array .int
  | 1 => .array .int
  | _ => .array .int
abbrev wsX40 : List Cond := u_ws RX4 TX4 3
theorem nmX4 : ∀ a, a < 3 → ∀ b, b < 3 → a ≠ b → (TX4 a).2.1 ≠ (TX4 b).2.1 := by decide +kernel
theorem tyX4_ok : ∀ k, k < 3 → parseFieldDescriptor (TX4 k).2.2.1 = some (tyX4 k) := by decide +kernel
abbrev cX4_init : ByteArray := prog_6_method_1_code
def yX4_init : MethodName := ⟨RX4, "<init>", "()V"⟩
abbrev cX4_lay : ByteArray := prog_6_method_2_code
def yX4_lay : MethodName := ⟨RX4, "lay", "(II)I"⟩
abbrev cX4_giveLot : ByteArray := prog_6_method_3_code
def yX4_giveLot : MethodName := ⟨RX4, "giveLot", "(II)I"⟩
abbrev cX4_addCrack : ByteArray := prog_6_method_4_code
def yX4_addCrack : MethodName := ⟨RX4, "addCrack", "(I)V"⟩
abbrev cX4_milesWith : ByteArray := prog_6_method_5_code
def yX4_milesWith : MethodName := ⟨RX4, "milesWith", "(I)I"⟩
abbrev cX4_worstLot : ByteArray := prog_6_method_6_code
def yX4_worstLot : MethodName := ⟨RX4, "worstLot", "()I"⟩
abbrev cX4_isWorstBeyondDoubt : ByteArray := prog_6_method_7_code
def yX4_isWorstBeyondDoubt : MethodName := ⟨RX4, "isWorstBeyondDoubt", "()Z"⟩
def RX5 : String := "LineWalkers$Readings"
def TX5 : u_T := fun k => match k with
  | 0 => ("LineWalkers$Readings", "most", "I", true)
  | 1 => ("LineWalkers$Readings", "otherwise", "I", true)
  | _ => ("LineWalkers$Readings", "told", "[I", true)
def tyX5 : Nat → FieldType := fun k => match k with
  | 0 => .int
  | 1 => .int
  | _ => .array .int
abbrev wsX50 : List Cond := u_ws RX5 TX5 3
theorem nmX5 : ∀ a, a < 3 → ∀ b, b < 3 → a ≠ b → (TX5 a).2.1 ≠ (TX5 b).2.1 := by decide +kernel
theorem tyX5_ok : ∀ k, k < 3 → parseFieldDescriptor (TX5 k).2.2.1 = some (tyX5 k) := by decide +kernel
abbrev cX5_init : ByteArray := prog_7_method_1_code
def yX5_init : MethodName := ⟨RX5, "<init>", "(II)V"⟩
abbrev cX5_tell : ByteArray := prog_7_method_2_code
def yX5_tell : MethodName := ⟨RX5, "tell", "(II)I"⟩
abbrev cX5_counted : ByteArray := prog_7_method_3_code
def yX5_counted : MethodName := ⟨RX5, "counted", "(I)I"⟩
def RX6 : String := "LineWalkers$RuleBook"
def TX6 : u_T := fun k => match k with
  | 0 => ("LineWalkers$RuleBook", "told", "I", false)
  | 1 => ("LineWalkers$RuleBook", "act", "[I", true)
  | 2 => ("LineWalkers$RuleBook", "within", "[I", true)
  | 3 => ("LineWalkers$RuleBook", "kind", "[I", true)
  | 4 => ("LineWalkers$RuleBook", "size", "[I", true)
  | _ => ("LineWalkers$RuleBook", "from", "[I", true)
def tyX6 : Nat → FieldType := fun k => match k with
  | 0 => .int
  | 1 => .array .int
  | 2 => .array .int
  | 3 => .array .int
  | 4 => .array .int
  | _ => .array .int
abbrev wsX60 : List Cond := u_ws RX6 TX6 6
theorem nmX6 : ∀ a, a < 6 → ∀ b, b < 6 → a ≠ b → (TX6 a).2.1 ≠ (TX6 b).2.1 := by decide +kernel
theorem tyX6_ok : ∀ k, k < 6 → parseFieldDescriptor (TX6 k).2.2.1 = some (tyX6 k) := by decide +kernel
abbrev cX6_init : ByteArray := prog_8_method_1_code
def yX6_init : MethodName := ⟨RX6, "<init>", "()V"⟩
abbrev cX6_add : ByteArray := prog_8_method_2_code
def yX6_add : MethodName := ⟨RX6, "add", "(IIIII)I"⟩
abbrev cX6_inForce : ByteArray := prog_8_method_3_code
def yX6_inForce : MethodName := ⟨RX6, "inForce", "(III)I"⟩
abbrev cX6_goesBefore : ByteArray := prog_8_method_4_code
def yX6_goesBefore : MethodName := ⟨RX6, "goesBefore", "(II)Z"⟩
def RX7 : String := "LineWalkers$SlowOrders"
def TX7 : u_T := fun k => match k with
  | 0 => ("LineWalkers$SlowOrders", "lostMinutes", "I", false)
  | _ => ("LineWalkers$SlowOrders", "minutes", "[I", true)
def tyX7 : Nat → FieldType := fun k => match k with
  | 0 => .int
  | _ => .array .int
abbrev wsX70 : List Cond := u_ws RX7 TX7 2
theorem nmX7 : ∀ a, a < 2 → ∀ b, b < 2 → a ≠ b → (TX7 a).2.1 ≠ (TX7 b).2.1 := by decide +kernel
theorem tyX7_ok : ∀ k, k < 2 → parseFieldDescriptor (TX7 k).2.2.1 = some (tyX7 k) := by decide +kernel
abbrev cX7_init : ByteArray := prog_9_method_1_code
def yX7_init : MethodName := ⟨RX7, "<init>", "()V"⟩
abbrev cX7_standsOn : ByteArray := prog_9_method_2_code
def yX7_standsOn : MethodName := ⟨RX7, "standsOn", "(I)Z"⟩
abbrev cX7_countStanding : ByteArray := prog_9_method_3_code
def yX7_countStanding : MethodName := ⟨RX7, "countStanding", "()I"⟩
abbrev cX7_passDay : ByteArray := prog_9_method_4_code
def yX7_passDay : MethodName := ⟨RX7, "passDay", "(I)V"⟩
def RX8 : String := "LineWalkers$Timetable"
def TX8 : u_T := fun k => match k with
  | 0 => ("LineWalkers$Timetable", "told", "I", false)
  | 1 => ("LineWalkers$Timetable", "start", "[I", true)
  | _ => ("LineWalkers$Timetable", "pace", "[I", true)
def tyX8 : Nat → FieldType := fun k => match k with
  | 0 => .int
  | 1 => .array .int
  | _ => .array .int
abbrev wsX80 : List Cond := u_ws RX8 TX8 3
theorem nmX8 : ∀ a, a < 3 → ∀ b, b < 3 → a ≠ b → (TX8 a).2.1 ≠ (TX8 b).2.1 := by decide +kernel
theorem tyX8_ok : ∀ k, k < 3 → parseFieldDescriptor (TX8 k).2.2.1 = some (tyX8 k) := by decide +kernel
abbrev cX8_init : ByteArray := prog_10_method_1_code
def yX8_init : MethodName := ⟨RX8, "<init>", "()V"⟩
abbrev cX8_add : ByteArray := prog_10_method_2_code
def yX8_add : MethodName := ⟨RX8, "add", "(II)I"⟩
abbrev cX8_clearFrom : ByteArray := prog_10_method_3_code
def yX8_clearFrom : MethodName := ⟨RX8, "clearFrom", "(IIII)I"⟩
abbrev cX8_firstSafe : ByteArray := prog_10_method_4_code
def yX8_firstSafe : MethodName := ⟨RX8, "firstSafe", "(IIII)I"⟩
def RX9 : String := "LineWalkers"
def TX9 : u_T := fun k => match k with
  | 0 => ("LineWalkers", "now", "I", false)
  | 1 => ("LineWalkers", "refusals", "[I", true)
  | 2 => ("LineWalkers", "settings", "[I", true)
  | 3 => ("LineWalkers", "growths", "[I", true)
  | 4 => ("LineWalkers", "tons", "LLineWalkers$Readings;", true)
  | 5 => ("LineWalkers", "cold", "LLineWalkers$Readings;", true)
  | 6 => ("LineWalkers", "defects", "LLineWalkers$Defects;", true)
  | 7 => ("LineWalkers", "rules", "LLineWalkers$RuleBook;", true)
  | 8 => ("LineWalkers", "orders", "LLineWalkers$SlowOrders;", true)
  | 9 => ("LineWalkers", "trains", "LLineWalkers$Timetable;", true)
  | 10 => ("LineWalkers", "lastWalked", "[I", true)
  | 11 => ("LineWalkers", "risksBelow", "[I", true)
  | 12 => ("LineWalkers", "finds", "LLineWalkers$Finds;", true)
  | 13 => ("LineWalkers", "lines", "LLineWalkers$CarLines;", true)
  | 14 => ("LineWalkers", "gangs", "LLineWalkers$Gangs;", true)
  | _ => ("LineWalkers", "rails", "LLineWalkers$Rails;", true)
def tyX9 : Nat → FieldType := fun k => match k with
  | 0 => .int
  | 1 => .array .int
  | 2 => .array .int
  | 3 => .array .int
  | 4 => .object "LineWalkers$Readings"
  | 5 => .object "LineWalkers$Readings"
  | 6 => .object "LineWalkers$Defects"
  | 7 => .object "LineWalkers$RuleBook"
  | 8 => .object "LineWalkers$SlowOrders"
  | 9 => .object "LineWalkers$Timetable"
  | 10 => .array .int
  | 11 => .array .int
  | 12 => .object "LineWalkers$Finds"
  | 13 => .object "LineWalkers$CarLines"
  | 14 => .object "LineWalkers$Gangs"
  | _ => .object "LineWalkers$Rails"
abbrev wsX90 : List Cond := u_ws RX9 TX9 16
theorem nmX9 : ∀ a, a < 16 → ∀ b, b < 16 → a ≠ b → (TX9 a).2.1 ≠ (TX9 b).2.1 := by decide +kernel
theorem tyX9_ok : ∀ k, k < 16 → parseFieldDescriptor (TX9 k).2.2.1 = some (tyX9 k) := by decide +kernel
abbrev cX9_init : ByteArray := prog_1_method_1_code
def yX9_init : MethodName := ⟨RX9, "<init>", "()V"⟩
abbrev cX9_day : ByteArray := prog_1_method_2_code
def yX9_day : MethodName := ⟨RX9, "day", "(III)I"⟩
abbrev cX9_dayOf : ByteArray := prog_1_method_3_code
def yX9_dayOf : MethodName := ⟨RX9, "dayOf", "(II)I"⟩
abbrev cX9_growth : ByteArray := prog_1_method_4_code
def yX9_growth : MethodName := ⟨RX9, "growth", "(II)I"⟩
abbrev cX9_defect : ByteArray := prog_1_method_5_code
def yX9_defect : MethodName := ⟨RX9, "defect", "(IIIIII)I"⟩
abbrev cX9_look : ByteArray := prog_1_method_6_code
def yX9_look : MethodName := ⟨RX9, "look", "(III)I"⟩
abbrev cX9_span : ByteArray := prog_1_method_7_code
def yX9_span : MethodName := ⟨RX9, "span", "(II)I"⟩
abbrev cX9_rule : ByteArray := prog_1_method_8_code
def yX9_rule : MethodName := ⟨RX9, "rule", "(IIIII)I"⟩
abbrev cX9_force : ByteArray := prog_1_method_9_code
def yX9_force : MethodName := ⟨RX9, "force", "(I)I"⟩
abbrev cX9_due : ByteArray := prog_1_method_10_code
def yX9_due : MethodName := ⟨RX9, "due", "(I)I"⟩
abbrev cX9_overdue : ByteArray := prog_1_method_11_code
def yX9_overdue : MethodName := ⟨RX9, "overdue", "()I"⟩
abbrev cX9_close : ByteArray := prog_1_method_12_code
def yX9_close : MethodName := ⟨RX9, "close", "(II)I"⟩
abbrev cX9_slow : ByteArray := prog_1_method_13_code
def yX9_slow : MethodName := ⟨RX9, "slow", "(II)I"⟩
abbrev cX9_lift : ByteArray := prog_1_method_14_code
def yX9_lift : MethodName := ⟨RX9, "lift", "(I)I"⟩
abbrev cX9_lost : ByteArray := prog_1_method_15_code
def yX9_lost : MethodName := ⟨RX9, "lost", "()I"⟩
abbrev cX9_set : ByteArray := prog_1_method_16_code
def yX9_set : MethodName := ⟨RX9, "set", "(II)I"⟩
abbrev cX9_days : ByteArray := prog_1_method_17_code
def yX9_days : MethodName := ⟨RX9, "days", "(I)I"⟩
abbrev cX9_train : ByteArray := prog_1_method_18_code
def yX9_train : MethodName := ⟨RX9, "train", "(II)I"⟩
abbrev cX9_safe : ByteArray := prog_1_method_19_code
def yX9_safe : MethodName := ⟨RX9, "safe", "(III)I"⟩
abbrev cX9_first : ByteArray := prog_1_method_20_code
def yX9_first : MethodName := ⟨RX9, "first", "(III)I"⟩
abbrev cX9_walked : ByteArray := prog_1_method_21_code
def yX9_walked : MethodName := ⟨RX9, "walked", "(II)I"⟩
abbrev cX9_risk : ByteArray := prog_1_method_22_code
def yX9_risk : MethodName := ⟨RX9, "risk", "(I)I"⟩
abbrev cX9_walks : ByteArray := prog_1_method_23_code
def yX9_walks : MethodName := ⟨RX9, "walks", "(II)I"⟩
abbrev cX9_doubles : ByteArray := prog_1_method_24_code
def yX9_doubles : MethodName := ⟨RX9, "doubles", "(IIII)I"⟩
abbrev cX9_eyes : ByteArray := prog_1_method_25_code
def yX9_eyes : MethodName := ⟨RX9, "eyes", "(II)I"⟩
abbrev cX9_line : ByteArray := prog_1_method_26_code
def yX9_line : MethodName := ⟨RX9, "line", "(III)I"⟩
abbrev cX9_join : ByteArray := prog_1_method_27_code
def yX9_join : MethodName := ⟨RX9, "join", "(I)I"⟩
abbrev cX9_joined : ByteArray := prog_1_method_28_code
def yX9_joined : MethodName := ⟨RX9, "joined", "(I)I"⟩
abbrev cX9_job : ByteArray := prog_1_method_29_code
def yX9_job : MethodName := ⟨RX9, "job", "(III)I"⟩
abbrev cX9_gang : ByteArray := prog_1_method_30_code
def yX9_gang : MethodName := ⟨RX9, "gang", "(II)I"⟩
abbrev cX9_plan : ByteArray := prog_1_method_31_code
def yX9_plan : MethodName := ⟨RX9, "plan", "(I)I"⟩
abbrev cX9_gangOf : ByteArray := prog_1_method_32_code
def yX9_gangOf : MethodName := ⟨RX9, "gangOf", "(I)I"⟩
abbrev cX9_rail : ByteArray := prog_1_method_33_code
def yX9_rail : MethodName := ⟨RX9, "rail", "(III)I"⟩
abbrev cX9_heat : ByteArray := prog_1_method_34_code
def yX9_heat : MethodName := ⟨RX9, "heat", "(I)I"⟩
abbrev cX9_lot : ByteArray := prog_1_method_35_code
def yX9_lot : MethodName := ⟨RX9, "lot", "(II)I"⟩
abbrev cX9_worst : ByteArray := prog_1_method_36_code
def yX9_worst : MethodName := ⟨RX9, "worst", "()I"⟩
abbrev cX9_sure : ByteArray := prog_1_method_37_code
def yX9_sure : MethodName := ⟨RX9, "sure", "()I"⟩
abbrev cX9_count : ByteArray := prog_1_method_38_code
def yX9_count : MethodName := ⟨RX9, "count", "(I)I"⟩
abbrev cX9_refuse : ByteArray := prog_1_method_39_code
def yX9_refuse : MethodName := ⟨RX9, "refuse", "(I)I"⟩
abbrev cX9_refuseAsTold : ByteArray := prog_1_method_40_code
def yX9_refuseAsTold : MethodName := ⟨RX9, "refuseAsTold", "(I)I"⟩
abbrev cX9_isDay : ByteArray := prog_1_method_41_code
def yX9_isDay : MethodName := ⟨RX9, "isDay", "(I)Z"⟩
abbrev cX9_isMile : ByteArray := prog_1_method_42_code
def yX9_isMile : MethodName := ⟨RX9, "isMile", "(I)Z"⟩
abbrev cX9_isRange : ByteArray := prog_1_method_43_code
def yX9_isRange : MethodName := ⟨RX9, "isRange", "(II)Z"⟩
abbrev cX9_isKind : ByteArray := prog_1_method_44_code
def yX9_isKind : MethodName := ⟨RX9, "isKind", "(I)Z"⟩
abbrev cX9_isDefect : ByteArray := prog_1_method_45_code
def yX9_isDefect : MethodName := ⟨RX9, "isDefect", "(I)Z"⟩
abbrev cX9_refusalOfOpenDefect : ByteArray := prog_1_method_46_code
def yX9_refusalOfOpenDefect : MethodName := ⟨RX9, "refusalOfOpenDefect", "(I)I"⟩
abbrev cX9_refusalOfWalk : ByteArray := prog_1_method_47_code
def yX9_refusalOfWalk : MethodName := ⟨RX9, "refusalOfWalk", "(III)I"⟩
abbrev cX9_readingsOf : ByteArray := prog_1_method_48_code
def yX9_readingsOf : MethodName := ⟨RX9, "readingsOf", "(I)LLineWalkers$Readings;"⟩
abbrev cX9_ruleFor : ByteArray := prog_1_method_49_code
def yX9_ruleFor : MethodName := ⟨RX9, "ruleFor", "(I)I"⟩
abbrev cX9_dueDay : ByteArray := prog_1_method_50_code
def yX9_dueDay : MethodName := ⟨RX9, "dueDay", "(I)I"⟩
abbrev cX9_isOverdue : ByteArray := prog_1_method_51_code
def yX9_isOverdue : MethodName := ⟨RX9, "isOverdue", "(I)Z"⟩
abbrev cX9_needsAct : ByteArray := prog_1_method_52_code
def yX9_needsAct : MethodName := ⟨RX9, "needsAct", "(I)Z"⟩
abbrev cX9_heatOf : ByteArray := prog_1_method_53_code
def yX9_heatOf : MethodName := ⟨RX9, "heatOf", "(I)I"⟩
abbrev cX9_passDay : ByteArray := prog_1_method_54_code
def yX9_passDay : MethodName := ⟨RX9, "passDay", "()V"⟩
abbrev cX9_riskOf : ByteArray := prog_1_method_55_code
def yX9_riskOf : MethodName := ⟨RX9, "riskOf", "(I)I"⟩
abbrev cX9_addUpRisks : ByteArray := prog_1_method_56_code
def yX9_addUpRisks : MethodName := ⟨RX9, "addUpRisks", "()V"⟩
abbrev cX9_riskOfRange : ByteArray := prog_1_method_57_code
def yX9_riskOfRange : MethodName := ⟨RX9, "riskOfRange", "(II)I"⟩
def RX10 : String := "LineWalkersModel"
def TX10 : u_T := fun k => match k with
  | 0 => ("LineWalkersModel", "refusals", "[I", true)
  | 1 => ("LineWalkersModel", "tons", "[I", true)
  | 2 => ("LineWalkersModel", "colds", "[I", true)
  | 3 => ("LineWalkersModel", "growths", "[I", true)
  | 4 => ("LineWalkersModel", "day", "I", false)
  | 5 => ("LineWalkersModel", "defects", "I", false)
  | 6 => ("LineWalkersModel", "looks", "I", false)
  | 7 => ("LineWalkersModel", "quarrels", "I", false)
  | 8 => ("LineWalkersModel", "rules", "I", false)
  | 9 => ("LineWalkersModel", "lost", "I", false)
  | 10 => ("LineWalkersModel", "trains", "I", false)
  | 11 => ("LineWalkersModel", "lines", "I", false)
  | 12 => ("LineWalkersModel", "jobs", "I", false)
  | 13 => ("LineWalkersModel", "perDay", "I", false)
  | 14 => ("LineWalkersModel", "step", "I", false)
  | 15 => ("LineWalkersModel", "off", "I", false)
  | 16 => ("LineWalkersModel", "warmth", "I", false)
  | 17 => ("LineWalkersModel", "mile", "[I", true)
  | 18 => ("LineWalkersModel", "yard", "[I", true)
  | 19 => ("LineWalkersModel", "side", "[I", true)
  | 20 => ("LineWalkersModel", "kind", "[I", true)
  | 21 => ("LineWalkersModel", "lotThen", "[I", true)
  | 22 => ("LineWalkersModel", "least", "[I", true)
  | 23 => ("LineWalkersModel", "most", "[I", true)
  | 24 => ("LineWalkersModel", "isOpen", "[Z", true)
  | 25 => ("LineWalkersModel", "lookAt", "[I", true)
  | 26 => ("LineWalkersModel", "lookDay", "[I", true)
  | 27 => ("LineWalkersModel", "noted", "[I", true)
  | 28 => ("LineWalkersModel", "ruleKind", "[I", true)
  | 29 => ("LineWalkersModel", "ruleSize", "[I", true)
  | 30 => ("LineWalkersModel", "ruleDay", "[I", true)
  | 31 => ("LineWalkersModel", "act", "[I", true)
  | 32 => ("LineWalkersModel", "within", "[I", true)
  | 33 => ("LineWalkersModel", "slow", "[I", true)
  | 34 => ("LineWalkersModel", "walked", "[I", true)
  | 35 => ("LineWalkersModel", "one", "[I", true)
  | 36 => ("LineWalkersModel", "two", "[I", true)
  | 37 => ("LineWalkersModel", "both", "[I", true)
  | 38 => ("LineWalkersModel", "laid", "[I", true)
  | 39 => ("LineWalkersModel", "lots", "[I", true)
  | 40 => ("LineWalkersModel", "start", "[I", true)
  | 41 => ("LineWalkersModel", "pace", "[I", true)
  | 42 => ("LineWalkersModel", "lineMile", "[I", true)
  | 43 => ("LineWalkersModel", "lineYard", "[I", true)
  | 44 => ("LineWalkersModel", "lineSide", "[I", true)
  | 45 => ("LineWalkersModel", "hours", "[I", true)
  | 46 => ("LineWalkersModel", "dues", "[I", true)
  | 47 => ("LineWalkersModel", "tools", "[I", true)
  | 48 => ("LineWalkersModel", "gangs", "[I", true)
  | 49 => ("LineWalkersModel", "some", "[I", true)
  | 50 => ("LineWalkersModel", "yards", "[I", true)
  | 51 => ("LineWalkersModel", "toWhich", "[I", true)
  | 52 => ("LineWalkersModel", "many", "I", false)
  | 53 => ("LineWalkersModel", "order", "[I", true)
  | 54 => ("LineWalkersModel", "busy", "[I", true)
  | 55 => ("LineWalkersModel", "bestWay", "I", false)
  | 56 => ("LineWalkersModel", "bestMost", "I", false)
  | _ => ("LineWalkersModel", "bestSum", "I", false)
def tyX10 : Nat → FieldType := fun k => match k with
  | 0 => .array .int
  | 1 => .array .int
  | 2 => .array .int
  | 3 => .array .int
  | 4 => .int
  | 5 => .int
  | 6 => .int
  | 7 => .int
  | 8 => .int
  | 9 => .int
  | 10 => .int
  | 11 => .int
  | 12 => .int
  | 13 => .int
  | 14 => .int
  | 15 => .int
  | 16 => .int
  | 17 => .array .int
  | 18 => .array .int
  | 19 => .array .int
  | 20 => .array .int
  | 21 => .array .int
  | 22 => .array .int
  | 23 => .array .int
  | 24 => .array .boolean
  | 25 => .array .int
  | 26 => .array .int
  | 27 => .array .int
  | 28 => .array .int
  | 29 => .array .int
  | 30 => .array .int
  | 31 => .array .int
  | 32 => .array .int
  | 33 => .array .int
  | 34 => .array .int
  | 35 => .array .int
  | 36 => .array .int
  | 37 => .array .int
  | 38 => .array .int
  | 39 => .array .int
  | 40 => .array .int
  | 41 => .array .int
  | 42 => .array .int
  | 43 => .array .int
  | 44 => .array .int
  | 45 => .array .int
  | 46 => .array .int
  | 47 => .array .int
  | 48 => .array .int
  | 49 => .array .int
  | 50 => .array .int
  | 51 => .array .int
  | 52 => .int
  | 53 => .array .int
  | 54 => .array .int
  | 55 => .int
  | 56 => .int
  | _ => .int
abbrev wsX100 : List Cond := u_ws RX10 TX10 58
theorem nmX10 : ∀ a, a < 58 → ∀ b, b < 58 → a ≠ b → (TX10 a).2.1 ≠ (TX10 b).2.1 := by decide +kernel
theorem tyX10_ok : ∀ k, k < 58 → parseFieldDescriptor (TX10 k).2.2.1 = some (tyX10 k) := by decide +kernel
abbrev cX10_init : ByteArray := prog_12_method_1_code
def yX10_init : MethodName := ⟨RX10, "<init>", "()V"⟩
abbrev cX10_refuse : ByteArray := prog_12_method_2_code
def yX10_refuse : MethodName := ⟨RX10, "refuse", "(I)I"⟩
abbrev cX10_refuseFar : ByteArray := prog_12_method_3_code
def yX10_refuseFar : MethodName := ⟨RX10, "refuseFar", "(I)I"⟩
abbrev cX10_isIn : ByteArray := prog_12_method_4_code
def yX10_isIn : MethodName := ⟨RX10, "isIn", "(II)Z"⟩
abbrev cX10_wrong : ByteArray := prog_12_method_5_code
def yX10_wrong : MethodName := ⟨RX10, "wrong", "(III)I"⟩
abbrev cX10_day : ByteArray := prog_12_method_6_code
def yX10_day : MethodName := ⟨RX10, "day", "(III)I"⟩
abbrev cX10_counts : ByteArray := prog_12_method_7_code
def yX10_counts : MethodName := ⟨RX10, "counts", "(II)I"⟩
abbrev cX10_dayOf : ByteArray := prog_12_method_8_code
def yX10_dayOf : MethodName := ⟨RX10, "dayOf", "(II)I"⟩
abbrev cX10_growth : ByteArray := prog_12_method_9_code
def yX10_growth : MethodName := ⟨RX10, "growth", "(II)I"⟩
abbrev cX10_isMile : ByteArray := prog_12_method_10_code
def yX10_isMile : MethodName := ⟨RX10, "isMile", "(I)Z"⟩
abbrev cX10_isDefect : ByteArray := prog_12_method_11_code
def yX10_isDefect : MethodName := ⟨RX10, "isDefect", "(I)Z"⟩
abbrev cX10_defect : ByteArray := prog_12_method_12_code
def yX10_defect : MethodName := ⟨RX10, "defect", "(IIIIII)I"⟩
abbrev cX10_looksAt : ByteArray := prog_12_method_13_code
def yX10_looksAt : MethodName := ⟨RX10, "looksAt", "(III)Z"⟩
abbrev cX10_look : ByteArray := prog_12_method_14_code
def yX10_look : MethodName := ⟨RX10, "look", "(III)I"⟩
abbrev cX10_span : ByteArray := prog_12_method_15_code
def yX10_span : MethodName := ⟨RX10, "span", "(II)I"⟩
abbrev cX10_rule : ByteArray := prog_12_method_16_code
def yX10_rule : MethodName := ⟨RX10, "rule", "(IIIII)I"⟩
abbrev cX10_forceOf : ByteArray := prog_12_method_17_code
def yX10_forceOf : MethodName := ⟨RX10, "forceOf", "(I)I"⟩
abbrev cX10_wrongOpen : ByteArray := prog_12_method_18_code
def yX10_wrongOpen : MethodName := ⟨RX10, "wrongOpen", "(I)I"⟩
abbrev cX10_force : ByteArray := prog_12_method_19_code
def yX10_force : MethodName := ⟨RX10, "force", "(I)I"⟩
abbrev cX10_dueOf : ByteArray := prog_12_method_20_code
def yX10_dueOf : MethodName := ⟨RX10, "dueOf", "(I)I"⟩
abbrev cX10_due : ByteArray := prog_12_method_21_code
def yX10_due : MethodName := ⟨RX10, "due", "(I)I"⟩
abbrev cX10_overdue : ByteArray := prog_12_method_22_code
def yX10_overdue : MethodName := ⟨RX10, "overdue", "()I"⟩
abbrev cX10_close : ByteArray := prog_12_method_23_code
def yX10_close : MethodName := ⟨RX10, "close", "(II)I"⟩
abbrev cX10_slow : ByteArray := prog_12_method_24_code
def yX10_slow : MethodName := ⟨RX10, "slow", "(II)I"⟩
abbrev cX10_heatOf : ByteArray := prog_12_method_25_code
def yX10_heatOf : MethodName := ⟨RX10, "heatOf", "(I)I"⟩
abbrev cX10_lift : ByteArray := prog_12_method_26_code
def yX10_lift : MethodName := ⟨RX10, "lift", "(I)I"⟩
abbrev cX10_lost : ByteArray := prog_12_method_27_code
def yX10_lost : MethodName := ⟨RX10, "lost", "()I"⟩
abbrev cX10_set : ByteArray := prog_12_method_28_code
def yX10_set : MethodName := ⟨RX10, "set", "(II)I"⟩
abbrev cX10_days : ByteArray := prog_12_method_29_code
def yX10_days : MethodName := ⟨RX10, "days", "(I)I"⟩
abbrev cX10_grows : ByteArray := prog_12_method_30_code
def yX10_grows : MethodName := ⟨RX10, "grows", "(I)I"⟩
abbrev cX10_train : ByteArray := prog_12_method_31_code
def yX10_train : MethodName := ⟨RX10, "train", "(II)I"⟩
abbrev cX10_isSafe : ByteArray := prog_12_method_32_code
def yX10_isSafe : MethodName := ⟨RX10, "isSafe", "(III)Z"⟩
abbrev cX10_wrongWalk : ByteArray := prog_12_method_33_code
def yX10_wrongWalk : MethodName := ⟨RX10, "wrongWalk", "(III)I"⟩
abbrev cX10_safe : ByteArray := prog_12_method_34_code
def yX10_safe : MethodName := ⟨RX10, "safe", "(III)I"⟩
abbrev cX10_first : ByteArray := prog_12_method_35_code
def yX10_first : MethodName := ⟨RX10, "first", "(III)I"⟩
abbrev cX10_walked : ByteArray := prog_12_method_36_code
def yX10_walked : MethodName := ⟨RX10, "walked", "(II)I"⟩
abbrev cX10_riskOf : ByteArray := prog_12_method_37_code
def yX10_riskOf : MethodName := ⟨RX10, "riskOf", "(I)I"⟩
abbrev cX10_risk : ByteArray := prog_12_method_38_code
def yX10_risk : MethodName := ⟨RX10, "risk", "(I)I"⟩
abbrev cX10_riskFrom : ByteArray := prog_12_method_39_code
def yX10_riskFrom : MethodName := ⟨RX10, "riskFrom", "(II)I"⟩
abbrev cX10_walks : ByteArray := prog_12_method_40_code
def yX10_walks : MethodName := ⟨RX10, "walks", "(II)I"⟩
abbrev cX10_doubles : ByteArray := prog_12_method_41_code
def yX10_doubles : MethodName := ⟨RX10, "doubles", "(IIII)I"⟩
abbrev cX10_eyes : ByteArray := prog_12_method_42_code
def yX10_eyes : MethodName := ⟨RX10, "eyes", "(II)I"⟩
abbrev cX10_line : ByteArray := prog_12_method_43_code
def yX10_line : MethodName := ⟨RX10, "line", "(III)I"⟩
abbrev cX10_worth : ByteArray := prog_12_method_44_code
def yX10_worth : MethodName := ⟨RX10, "worth", "(II)I"⟩
abbrev cX10_joins : ByteArray := prog_12_method_45_code
def yX10_joins : MethodName := ⟨RX10, "joins", "()I"⟩
abbrev cX10_join : ByteArray := prog_12_method_46_code
def yX10_join : MethodName := ⟨RX10, "join", "(I)I"⟩
abbrev cX10_joined : ByteArray := prog_12_method_47_code
def yX10_joined : MethodName := ⟨RX10, "joined", "(I)I"⟩
abbrev cX10_job : ByteArray := prog_12_method_48_code
def yX10_job : MethodName := ⟨RX10, "job", "(III)I"⟩
abbrev cX10_gang : ByteArray := prog_12_method_49_code
def yX10_gang : MethodName := ⟨RX10, "gang", "(II)I"⟩
abbrev cX10_plans : ByteArray := prog_12_method_50_code
def yX10_plans : MethodName := ⟨RX10, "plans", "()V"⟩
abbrev cX10_gangIn : ByteArray := prog_12_method_51_code
def yX10_gangIn : MethodName := ⟨RX10, "gangIn", "(II)I"⟩
abbrev cX10_tries : ByteArray := prog_12_method_52_code
def yX10_tries : MethodName := ⟨RX10, "tries", "(I)V"⟩
abbrev cX10_plan : ByteArray := prog_12_method_53_code
def yX10_plan : MethodName := ⟨RX10, "plan", "(I)I"⟩
abbrev cX10_gangOf : ByteArray := prog_12_method_54_code
def yX10_gangOf : MethodName := ⟨RX10, "gangOf", "(I)I"⟩
abbrev cX10_rail : ByteArray := prog_12_method_55_code
def yX10_rail : MethodName := ⟨RX10, "rail", "(III)I"⟩
abbrev cX10_heat : ByteArray := prog_12_method_56_code
def yX10_heat : MethodName := ⟨RX10, "heat", "(I)I"⟩
abbrev cX10_cracks : ByteArray := prog_12_method_57_code
def yX10_cracks : MethodName := ⟨RX10, "cracks", "(I)I"⟩
abbrev cX10_milesOf : ByteArray := prog_12_method_58_code
def yX10_milesOf : MethodName := ⟨RX10, "milesOf", "(I)I"⟩
abbrev cX10_lot : ByteArray := prog_12_method_59_code
def yX10_lot : MethodName := ⟨RX10, "lot", "(II)I"⟩
abbrev cX10_worstOf : ByteArray := prog_12_method_60_code
def yX10_worstOf : MethodName := ⟨RX10, "worstOf", "()I"⟩
abbrev cX10_worst : ByteArray := prog_12_method_61_code
def yX10_worst : MethodName := ⟨RX10, "worst", "()I"⟩
abbrev cX10_sure : ByteArray := prog_12_method_62_code
def yX10_sure : MethodName := ⟨RX10, "sure", "()I"⟩
abbrev cX10_count : ByteArray := prog_12_method_63_code
def yX10_count : MethodName := ⟨RX10, "count", "(I)I"⟩
def RJ9 : String := "java/lang/Math"
abbrev cJ9_abs_0f7a4 : ByteArray := prog_13_method_59_code
def yJ9_abs_0f7a4 : MethodName := ⟨RJ9, "abs", "(I)I"⟩
abbrev cJ9_max_7cf53 : ByteArray := prog_13_method_65_code
def yJ9_max_7cf53 : MethodName := ⟨RJ9, "max", "(II)I"⟩
abbrev cJ9_min_7cf53 : ByteArray := prog_13_method_69_code
def yJ9_min_7cf53 : MethodName := ⟨RJ9, "min", "(II)I"⟩
abbrev cJ9_min_f86c9 : ByteArray := prog_13_method_70_code
def yJ9_min_f86c9 : MethodName := ⟨RJ9, "min", "(JJ)J"⟩
def RL : String := "LineWalkersLaw"
abbrev cL_law : ByteArray := code
abbrev vwCl : List vw_C := [(RX0, TX0, 6), (RX1, TX1, 12), (RX2, TX2, 3), (RX3, TX3, 6), (RX4, TX4, 3), (RX5, TX5, 3), (RX6, TX6, 6), (RX7, TX7, 2), (RX8, TX8, 3), (RX9, TX9, 16), (RX10, TX10, 58)]
