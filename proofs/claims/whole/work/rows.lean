section
-- ===== PART A: goes FIRST, ahead of the names: the tables' words, and 'selects' of the private methods out of them =====
/-- a private method of a class that the tables say can be made, by its rows of tables_1 -/
def lw_okq (q : MethodName × Nat) : Prop := (q.1.cls ≠ "java/lang/invoke/MethodHandle" ∧ q.1.cls ≠ "java/lang/invoke/VarHandle") ∧ Cond.instantiable q.1.cls q.2 ∈ tables_1 ∧ Cond.privateMethod q.1 ∈ tables_1 ∧ Cond.instanceMethod q.1 ∈ tables_1
theorem lw_p0 : lw_okq (⟨"Fieldbook", "weighAnew", "()V"⟩, 9) := ⟨⟨by decide +kernel, by decide +kernel⟩, List.mem_of_getElem? (i := 20) (by decide +kernel), List.mem_of_getElem? (i := 150) (by decide +kernel), List.mem_of_getElem? (i := 151) (by decide +kernel)⟩
theorem lw_p1 : lw_okq (⟨"Fieldbook$History", "retellOne", "(ILFieldbook$Tally;)V"⟩, 2) := ⟨⟨by decide +kernel, by decide +kernel⟩, List.mem_of_getElem? (i := 97) (by decide +kernel), List.mem_of_getElem? (i := 162) (by decide +kernel), List.mem_of_getElem? (i := 163) (by decide +kernel)⟩
theorem lw_p2 : lw_okq (⟨"Fieldbook$Tally", "dropAnswersTo", "(I)V"⟩, 5) := ⟨⟨by decide +kernel, by decide +kernel⟩, List.mem_of_getElem? (i := 69) (by decide +kernel), List.mem_of_getElem? (i := 178) (by decide +kernel), List.mem_of_getElem? (i := 179) (by decide +kernel)⟩
theorem lw_p3 : lw_okq (⟨"Fieldbook$Tally", "fitGroups", "([I[II)V"⟩, 5) := ⟨⟨by decide +kernel, by decide +kernel⟩, List.mem_of_getElem? (i := 69) (by decide +kernel), List.mem_of_getElem? (i := 186) (by decide +kernel), List.mem_of_getElem? (i := 187) (by decide +kernel)⟩
theorem lw_p4 : lw_okq (⟨"Fieldbook$Tally", "membersOfGroup", "([III)I"⟩, 5) := ⟨⟨by decide +kernel, by decide +kernel⟩, List.mem_of_getElem? (i := 69) (by decide +kernel), List.mem_of_getElem? (i := 190) (by decide +kernel), List.mem_of_getElem? (i := 191) (by decide +kernel)⟩
theorem lw_p5 : lw_okq (⟨"Fieldbook$Tally", "isInGroup", "([III)Z"⟩, 5) := ⟨⟨by decide +kernel, by decide +kernel⟩, List.mem_of_getElem? (i := 69) (by decide +kernel), List.mem_of_getElem? (i := 194) (by decide +kernel), List.mem_of_getElem? (i := 195) (by decide +kernel)⟩
theorem lw_p6 : lw_okq (⟨"Fieldbook$Tally", "fitGroup", "([IIIII)V"⟩, 5) := ⟨⟨by decide +kernel, by decide +kernel⟩, List.mem_of_getElem? (i := 69) (by decide +kernel), List.mem_of_getElem? (i := 198) (by decide +kernel), List.mem_of_getElem? (i := 199) (by decide +kernel)⟩
theorem lw_p7 : lw_okq (⟨"Fieldbook$Tally", "spreadMissing", "([IIII)V"⟩, 5) := ⟨⟨by decide +kernel, by decide +kernel⟩, List.mem_of_getElem? (i := 69) (by decide +kernel), List.mem_of_getElem? (i := 206) (by decide +kernel), List.mem_of_getElem? (i := 207) (by decide +kernel)⟩
theorem lw_p8 : lw_okq (⟨"java/lang/Throwable", "fillInStackTrace", "(I)Ljava/lang/Throwable;"⟩, 6) := ⟨⟨by decide +kernel, by decide +kernel⟩, List.mem_of_getElem? (i := 268) (by decide +kernel), List.mem_of_getElem? (i := 266) (by decide +kernel), List.mem_of_getElem? (i := 267) (by decide +kernel)⟩
theorem lw_p9 : lw_okq (⟨"Fieldbook", "requireStratum", "(I)V"⟩, 9) := ⟨⟨by decide +kernel, by decide +kernel⟩, List.mem_of_getElem? (i := 20) (by decide +kernel), List.mem_of_getElem? (i := 353) (by decide +kernel), List.mem_of_getElem? (i := 354) (by decide +kernel)⟩
theorem lw_p10 : lw_okq (⟨"Fieldbook", "requirePlace", "(I)V"⟩, 9) := ⟨⟨by decide +kernel, by decide +kernel⟩, List.mem_of_getElem? (i := 20) (by decide +kernel), List.mem_of_getElem? (i := 370) (by decide +kernel), List.mem_of_getElem? (i := 371) (by decide +kernel)⟩
theorem lw_p11 : lw_okq (⟨"Fieldbook", "requireLanguage", "(I)V"⟩, 9) := ⟨⟨by decide +kernel, by decide +kernel⟩, List.mem_of_getElem? (i := 20) (by decide +kernel), List.mem_of_getElem? (i := 375) (by decide +kernel), List.mem_of_getElem? (i := 376) (by decide +kernel)⟩
theorem lw_p12 : lw_okq (⟨"Fieldbook", "undrawnIn", "(I)I"⟩, 9) := ⟨⟨by decide +kernel, by decide +kernel⟩, List.mem_of_getElem? (i := 20) (by decide +kernel), List.mem_of_getElem? (i := 475) (by decide +kernel), List.mem_of_getElem? (i := 476) (by decide +kernel)⟩
theorem lw_p13 : lw_okq (⟨"Fieldbook", "isUndrawnIn", "(II)Z"⟩, 9) := ⟨⟨by decide +kernel, by decide +kernel⟩, List.mem_of_getElem? (i := 20) (by decide +kernel), List.mem_of_getElem? (i := 479) (by decide +kernel), List.mem_of_getElem? (i := 480) (by decide +kernel)⟩
theorem lw_p14 : lw_okq (⟨"Fieldbook", "drawOne", "(I)I"⟩, 9) := ⟨⟨by decide +kernel, by decide +kernel⟩, List.mem_of_getElem? (i := 20) (by decide +kernel), List.mem_of_getElem? (i := 484) (by decide +kernel), List.mem_of_getElem? (i := 485) (by decide +kernel)⟩
theorem lw_p15 : lw_okq (⟨"Fieldbook", "interviewerNumbered", "(I)LFieldbook$Interviewer;"⟩, 9) := ⟨⟨by decide +kernel, by decide +kernel⟩, List.mem_of_getElem? (i := 20) (by decide +kernel), List.mem_of_getElem? (i := 503) (by decide +kernel), List.mem_of_getElem? (i := 504) (by decide +kernel)⟩
def lw_privs_1 : List (MethodName × Nat) := [(⟨"Fieldbook", "weighAnew", "()V"⟩, 9), (⟨"Fieldbook$History", "retellOne", "(ILFieldbook$Tally;)V"⟩, 2), (⟨"Fieldbook$Tally", "dropAnswersTo", "(I)V"⟩, 5), (⟨"Fieldbook$Tally", "fitGroups", "([I[II)V"⟩, 5), (⟨"Fieldbook$Tally", "membersOfGroup", "([III)I"⟩, 5), (⟨"Fieldbook$Tally", "isInGroup", "([III)Z"⟩, 5), (⟨"Fieldbook$Tally", "fitGroup", "([IIIII)V"⟩, 5), (⟨"Fieldbook$Tally", "spreadMissing", "([IIII)V"⟩, 5), (⟨"java/lang/Throwable", "fillInStackTrace", "(I)Ljava/lang/Throwable;"⟩, 6), (⟨"Fieldbook", "requireStratum", "(I)V"⟩, 9), (⟨"Fieldbook", "requirePlace", "(I)V"⟩, 9), (⟨"Fieldbook", "requireLanguage", "(I)V"⟩, 9), (⟨"Fieldbook", "undrawnIn", "(I)I"⟩, 9), (⟨"Fieldbook", "isUndrawnIn", "(II)Z"⟩, 9), (⟨"Fieldbook", "drawOne", "(I)I"⟩, 9), (⟨"Fieldbook", "interviewerNumbered", "(I)LFieldbook$Interviewer;"⟩, 9)]
theorem lw_r1 : ∀ q ∈ lw_privs_1, lw_okq q := List.forall_mem_cons.mpr ⟨lw_p0, List.forall_mem_cons.mpr ⟨lw_p1, List.forall_mem_cons.mpr ⟨lw_p2, List.forall_mem_cons.mpr ⟨lw_p3, List.forall_mem_cons.mpr ⟨lw_p4, List.forall_mem_cons.mpr ⟨lw_p5, List.forall_mem_cons.mpr ⟨lw_p6, List.forall_mem_cons.mpr ⟨lw_p7, List.forall_mem_cons.mpr ⟨lw_p8, List.forall_mem_cons.mpr ⟨lw_p9, List.forall_mem_cons.mpr ⟨lw_p10, List.forall_mem_cons.mpr ⟨lw_p11, List.forall_mem_cons.mpr ⟨lw_p12, List.forall_mem_cons.mpr ⟨lw_p13, List.forall_mem_cons.mpr ⟨lw_p14, List.forall_mem_cons.mpr ⟨lw_p15, fun _ h => absurd h List.not_mem_nil⟩⟩⟩⟩⟩⟩⟩⟩⟩⟩⟩⟩⟩⟩⟩⟩
theorem lw_p16 : lw_okq (⟨"Fieldbook", "requireInterviewer", "(I)V"⟩, 9) := ⟨⟨by decide +kernel, by decide +kernel⟩, List.mem_of_getElem? (i := 20) (by decide +kernel), List.mem_of_getElem? (i := 507) (by decide +kernel), List.mem_of_getElem? (i := 508) (by decide +kernel)⟩
theorem lw_p17 : lw_okq (⟨"Fieldbook", "houseNumbered", "(I)LFieldbook$House;"⟩, 9) := ⟨⟨by decide +kernel, by decide +kernel⟩, List.mem_of_getElem? (i := 20) (by decide +kernel), List.mem_of_getElem? (i := 557) (by decide +kernel), List.mem_of_getElem? (i := 558) (by decide +kernel)⟩
theorem lw_p18 : lw_okq (⟨"Fieldbook", "requireOutcome", "(C)V"⟩, 9) := ⟨⟨by decide +kernel, by decide +kernel⟩, List.mem_of_getElem? (i := 20) (by decide +kernel), List.mem_of_getElem? (i := 562) (by decide +kernel), List.mem_of_getElem? (i := 563) (by decide +kernel)⟩
theorem lw_p19 : lw_okq (⟨"Fieldbook", "requireAnswer", "(I)V"⟩, 9) := ⟨⟨by decide +kernel, by decide +kernel⟩, List.mem_of_getElem? (i := 20) (by decide +kernel), List.mem_of_getElem? (i := 567) (by decide +kernel), List.mem_of_getElem? (i := 568) (by decide +kernel)⟩
theorem lw_p20 : lw_okq (⟨"Fieldbook", "requireOpenVisit", "(LFieldbook$House;)V"⟩, 9) := ⟨⟨by decide +kernel, by decide +kernel⟩, List.mem_of_getElem? (i := 20) (by decide +kernel), List.mem_of_getElem? (i := 572) (by decide +kernel), List.mem_of_getElem? (i := 573) (by decide +kernel)⟩
theorem lw_p21 : lw_okq (⟨"Fieldbook", "takeAnswer", "(III)V"⟩, 9) := ⟨⟨by decide +kernel, by decide +kernel⟩, List.mem_of_getElem? (i := 20) (by decide +kernel), List.mem_of_getElem? (i := 584) (by decide +kernel), List.mem_of_getElem? (i := 585) (by decide +kernel)⟩
theorem lw_p22 : lw_okq (⟨"Fieldbook", "wantLostAnswersAgain", "()V"⟩, 9) := ⟨⟨by decide +kernel, by decide +kernel⟩, List.mem_of_getElem? (i := 20) (by decide +kernel), List.mem_of_getElem? (i := 612) (by decide +kernel), List.mem_of_getElem? (i := 613) (by decide +kernel)⟩
theorem lw_p23 : lw_okq (⟨"Fieldbook", "replaceLostHouses", "()I"⟩, 9) := ⟨⟨by decide +kernel, by decide +kernel⟩, List.mem_of_getElem? (i := 20) (by decide +kernel), List.mem_of_getElem? (i := 624) (by decide +kernel), List.mem_of_getElem? (i := 625) (by decide +kernel)⟩
theorem lw_p24 : lw_okq (⟨"Fieldbook", "makeRounds", "()V"⟩, 9) := ⟨⟨by decide +kernel, by decide +kernel⟩, List.mem_of_getElem? (i := 20) (by decide +kernel), List.mem_of_getElem? (i := 628) (by decide +kernel), List.mem_of_getElem? (i := 629) (by decide +kernel)⟩
theorem lw_p25 : lw_okq (⟨"Fieldbook", "makeRound", "(I)V"⟩, 9) := ⟨⟨by decide +kernel, by decide +kernel⟩, List.mem_of_getElem? (i := 20) (by decide +kernel), List.mem_of_getElem? (i := 640) (by decide +kernel), List.mem_of_getElem? (i := 641) (by decide +kernel)⟩
theorem lw_p26 : lw_okq (⟨"Fieldbook", "nearestFor", "(I)I"⟩, 9) := ⟨⟨by decide +kernel, by decide +kernel⟩, List.mem_of_getElem? (i := 20) (by decide +kernel), List.mem_of_getElem? (i := 644) (by decide +kernel), List.mem_of_getElem? (i := 645) (by decide +kernel)⟩
theorem lw_p27 : lw_okq (⟨"Fieldbook", "canAdd", "(II)Z"⟩, 9) := ⟨⟨by decide +kernel, by decide +kernel⟩, List.mem_of_getElem? (i := 20) (by decide +kernel), List.mem_of_getElem? (i := 648) (by decide +kernel), List.mem_of_getElem? (i := 649) (by decide +kernel)⟩
theorem lw_p28 : lw_okq (⟨"Fieldbook", "requireAnswered", "(I)V"⟩, 9) := ⟨⟨by decide +kernel, by decide +kernel⟩, List.mem_of_getElem? (i := 20) (by decide +kernel), List.mem_of_getElem? (i := 706) (by decide +kernel), List.mem_of_getElem? (i := 707) (by decide +kernel)⟩
theorem lw_p29 : lw_okq (⟨"Fieldbook", "sumOfWeights", "()J"⟩, 9) := ⟨⟨by decide +kernel, by decide +kernel⟩, List.mem_of_getElem? (i := 20) (by decide +kernel), List.mem_of_getElem? (i := 775) (by decide +kernel), List.mem_of_getElem? (i := 776) (by decide +kernel)⟩
theorem lw_p30 : lw_okq (⟨"FieldbookModel", "fails", "(I)I"⟩, 31) := ⟨⟨by decide +kernel, by decide +kernel⟩, List.mem_of_getElem? (i := 791) (by decide +kernel), List.mem_of_getElem? (i := 903) (by decide +kernel), List.mem_of_getElem? (i := 904) (by decide +kernel)⟩
theorem lw_p31 : lw_okq (⟨"FieldbookModel", "undrawn", "(I)I"⟩, 31) := ⟨⟨by decide +kernel, by decide +kernel⟩, List.mem_of_getElem? (i := 791) (by decide +kernel), List.mem_of_getElem? (i := 923) (by decide +kernel), List.mem_of_getElem? (i := 924) (by decide +kernel)⟩
def lw_privs_2 : List (MethodName × Nat) := [(⟨"Fieldbook", "requireInterviewer", "(I)V"⟩, 9), (⟨"Fieldbook", "houseNumbered", "(I)LFieldbook$House;"⟩, 9), (⟨"Fieldbook", "requireOutcome", "(C)V"⟩, 9), (⟨"Fieldbook", "requireAnswer", "(I)V"⟩, 9), (⟨"Fieldbook", "requireOpenVisit", "(LFieldbook$House;)V"⟩, 9), (⟨"Fieldbook", "takeAnswer", "(III)V"⟩, 9), (⟨"Fieldbook", "wantLostAnswersAgain", "()V"⟩, 9), (⟨"Fieldbook", "replaceLostHouses", "()I"⟩, 9), (⟨"Fieldbook", "makeRounds", "()V"⟩, 9), (⟨"Fieldbook", "makeRound", "(I)V"⟩, 9), (⟨"Fieldbook", "nearestFor", "(I)I"⟩, 9), (⟨"Fieldbook", "canAdd", "(II)Z"⟩, 9), (⟨"Fieldbook", "requireAnswered", "(I)V"⟩, 9), (⟨"Fieldbook", "sumOfWeights", "()J"⟩, 9), (⟨"FieldbookModel", "fails", "(I)I"⟩, 31), (⟨"FieldbookModel", "undrawn", "(I)I"⟩, 31)]
theorem lw_r2 : ∀ q ∈ lw_privs_2, lw_okq q := List.forall_mem_cons.mpr ⟨lw_p16, List.forall_mem_cons.mpr ⟨lw_p17, List.forall_mem_cons.mpr ⟨lw_p18, List.forall_mem_cons.mpr ⟨lw_p19, List.forall_mem_cons.mpr ⟨lw_p20, List.forall_mem_cons.mpr ⟨lw_p21, List.forall_mem_cons.mpr ⟨lw_p22, List.forall_mem_cons.mpr ⟨lw_p23, List.forall_mem_cons.mpr ⟨lw_p24, List.forall_mem_cons.mpr ⟨lw_p25, List.forall_mem_cons.mpr ⟨lw_p26, List.forall_mem_cons.mpr ⟨lw_p27, List.forall_mem_cons.mpr ⟨lw_p28, List.forall_mem_cons.mpr ⟨lw_p29, List.forall_mem_cons.mpr ⟨lw_p30, List.forall_mem_cons.mpr ⟨lw_p31, fun _ h => absurd h List.not_mem_nil⟩⟩⟩⟩⟩⟩⟩⟩⟩⟩⟩⟩⟩⟩⟩⟩
theorem lw_p32 : lw_okq (⟨"FieldbookModel", "draws", "(IZ)I"⟩, 31) := ⟨⟨by decide +kernel, by decide +kernel⟩, List.mem_of_getElem? (i := 791) (by decide +kernel), List.mem_of_getElem? (i := 927) (by decide +kernel), List.mem_of_getElem? (i := 928) (by decide +kernel)⟩
theorem lw_p33 : lw_okq (⟨"FieldbookModel", "isInterviewer", "(I)Z"⟩, 31) := ⟨⟨by decide +kernel, by decide +kernel⟩, List.mem_of_getElem? (i := 791) (by decide +kernel), List.mem_of_getElem? (i := 940) (by decide +kernel), List.mem_of_getElem? (i := 941) (by decide +kernel)⟩
theorem lw_p34 : lw_okq (⟨"FieldbookModel", "isHouse", "(I)Z"⟩, 31) := ⟨⟨by decide +kernel, by decide +kernel⟩, List.mem_of_getElem? (i := 791) (by decide +kernel), List.mem_of_getElem? (i := 956) (by decide +kernel), List.mem_of_getElem? (i := 957) (by decide +kernel)⟩
theorem lw_p35 : lw_okq (⟨"FieldbookModel", "rounds", "()V"⟩, 31) := ⟨⟨by decide +kernel, by decide +kernel⟩, List.mem_of_getElem? (i := 791) (by decide +kernel), List.mem_of_getElem? (i := 968) (by decide +kernel), List.mem_of_getElem? (i := 969) (by decide +kernel)⟩
theorem lw_p36 : lw_okq (⟨"FieldbookModel", "next", "(II)I"⟩, 31) := ⟨⟨by decide +kernel, by decide +kernel⟩, List.mem_of_getElem? (i := 791) (by decide +kernel), List.mem_of_getElem? (i := 972) (by decide +kernel), List.mem_of_getElem? (i := 973) (by decide +kernel)⟩
theorem lw_p37 : lw_okq (⟨"FieldbookModel", "goal", "(IZ)I"⟩, 31) := ⟨⟨by decide +kernel, by decide +kernel⟩, List.mem_of_getElem? (i := 791) (by decide +kernel), List.mem_of_getElem? (i := 1007) (by decide +kernel), List.mem_of_getElem? (i := 1008) (by decide +kernel)⟩
theorem lw_p38 : lw_okq (⟨"FieldbookModel", "isOf", "(IIZ)Z"⟩, 31) := ⟨⟨by decide +kernel, by decide +kernel⟩, List.mem_of_getElem? (i := 791) (by decide +kernel), List.mem_of_getElem? (i := 1011) (by decide +kernel), List.mem_of_getElem? (i := 1012) (by decide +kernel)⟩
theorem lw_p39 : lw_okq (⟨"FieldbookModel", "weighs", "()V"⟩, 31) := ⟨⟨by decide +kernel, by decide +kernel⟩, List.mem_of_getElem? (i := 791) (by decide +kernel), List.mem_of_getElem? (i := 1019) (by decide +kernel), List.mem_of_getElem? (i := 1020) (by decide +kernel)⟩
theorem lw_p40 : lw_okq (⟨"FieldbookModel", "fits", "(IZ)V"⟩, 31) := ⟨⟨by decide +kernel, by decide +kernel⟩, List.mem_of_getElem? (i := 791) (by decide +kernel), List.mem_of_getElem? (i := 1023) (by decide +kernel), List.mem_of_getElem? (i := 1024) (by decide +kernel)⟩
def lw_privs_3 : List (MethodName × Nat) := [(⟨"FieldbookModel", "draws", "(IZ)I"⟩, 31), (⟨"FieldbookModel", "isInterviewer", "(I)Z"⟩, 31), (⟨"FieldbookModel", "isHouse", "(I)Z"⟩, 31), (⟨"FieldbookModel", "rounds", "()V"⟩, 31), (⟨"FieldbookModel", "next", "(II)I"⟩, 31), (⟨"FieldbookModel", "goal", "(IZ)I"⟩, 31), (⟨"FieldbookModel", "isOf", "(IIZ)Z"⟩, 31), (⟨"FieldbookModel", "weighs", "()V"⟩, 31), (⟨"FieldbookModel", "fits", "(IZ)V"⟩, 31)]
theorem lw_r3 : ∀ q ∈ lw_privs_3, lw_okq q := List.forall_mem_cons.mpr ⟨lw_p32, List.forall_mem_cons.mpr ⟨lw_p33, List.forall_mem_cons.mpr ⟨lw_p34, List.forall_mem_cons.mpr ⟨lw_p35, List.forall_mem_cons.mpr ⟨lw_p36, List.forall_mem_cons.mpr ⟨lw_p37, List.forall_mem_cons.mpr ⟨lw_p38, List.forall_mem_cons.mpr ⟨lw_p39, List.forall_mem_cons.mpr ⟨lw_p40, fun _ h => absurd h List.not_mem_nil⟩⟩⟩⟩⟩⟩⟩⟩⟩
def lw_privs : List (MethodName × Nat) := lw_privs_1 ++ (lw_privs_2 ++ (lw_privs_3))
def lw_tbl : List Cond := k2_sels lw_privs ++ tables_1
theorem lw_privs_ok : ∀ q ∈ lw_privs, lw_okq q := by
  show ∀ q ∈ lw_privs_1 ++ (lw_privs_2 ++ (lw_privs_3)), lw_okq q
  exact List.forall_mem_append.mpr ⟨lw_r1, List.forall_mem_append.mpr ⟨lw_r2, lw_r3⟩⟩
/-- the streams that the claim lets the run draw from -/
abbrev lw_cs : List Choice := [Jvm.Choice.named "NaN.bits"]
theorem lw_bits : nanBits ∈ lw_cs := by first | decide | exact List.mem_cons_self | simp [lw_cs, nanBits]
/-! ===== BEGIN words of one list among another's, by their places ===== -/
theorem goodIn_r {big : List Cond} (ws : List Cond) (ps : List Nat) (hp : ws = ps.filterMap (fun i => big[i]?)) (h : ws.all goodWord = true) : GoodIn big ws := by
  intro w hw
  have h1 := List.all_eq_true.mp h w hw
  rw [hp] at hw
  obtain ⟨i, -, hi⟩ := List.mem_filterMap.mp hw
  have hm : w ∈ big := by first | exact List.mem_of_getElem? hi | exact List.getElem?_mem hi
  exact ⟨hm, good_of_word h1⟩
theorem goodIn_app {big a b : List Cond} (ha : GoodIn big a) (hb : GoodIn big b) : GoodIn big (a ++ b) := fun w h => (List.mem_append.mp h).elim (ha w) (hb w)
theorem goodIn_ca {big a b : List Cond} {c : Cond} (ha : GoodIn big (c :: a)) (hb : GoodIn big b) : GoodIn big (c :: (a ++ b)) := fun w h => (List.mem_cons.mp h).elim (fun e => ha w (List.mem_cons.mpr (Or.inl e))) (fun h => (List.mem_append.mp h).elim (fun h => ha w (List.mem_cons.mpr (Or.inr h))) (hb w))
theorem goodIn_sub {big ws : List Cond} (hm : ∀ w ∈ ws, w ∈ big) (h : ws.all goodWord = true) : GoodIn big ws := fun w hw => ⟨hm w hw, good_of_word (List.all_eq_true.mp h w hw)⟩
/-! ===== END ===== -/

/-! ===== BEGIN exceptions that leave a method, and their catching by the caller (launches without stack traces) ===== -/
section VXA
/-! The laws vx_back, vx_callV, vx_callS, vx_callSW, vx_throw0, vx_throwS follow proofs of the library, with one case more: JvmDerived/Free/Laws.lean (Back.of_free), Shelf42/LK1.lean (callV, callS), Shelf/KitTraced.lean (throwNew0V, throwNewS). -/
/-- where a method has thrown q: the class by its name, the cell, what was written, the world -/
def vx_T (XC : String → State → State → Prop) (st : State) (q : Addr) (t : State) (mc ms : Nat) (free : Addr → Prop) : Prop :=
  ∃ (E : String) (ce : Cell) (L : List Loc), XC E st t ∧ t.heap[q]? = some ce ∧ ce.vm = .none ∧ st.vm.findClass E = some ce.cls ∧ st.WarmedH t.vm ∧ st.sameButNew ({ t with vm := st.vm } : State) L mc ms ∧ ∀ z ∈ L, free z.base
def vx_Q (Qc : Array Value → State → Outcome → State → Prop) (XC : String → State → State → Prop) (mc ms : Nat) (free : Addr → Prop) : Array Value → State → Outcome → State → Prop := fun a st o t =>
  (Qc a st o t ∧ ∃ L, FrameEnd st o t L mc ms ∧ ∀ q ∈ L, free q.base) ∨ ∃ q, o = .threw q ∧ vx_T XC st q t mc ms free
/-- a callee that returns or throws -/
def vx_Met (l : Launch) (y : MethodName) (ws : List Cond) (rm : Room) (Pc : Array Value → State → Prop) (Qc : Array Value → State → Outcome → State → Prop) (XC : String → State → State → Prop) (mc ms : Nat) (free : Addr → Prop) : Prop :=
  MetFree l y (headSpec ws rm) Pc (fun _ _ _ _ _ => True) (vx_Q Qc XC mc ms free)
def vx_Post (XC : String → State → State → Prop) (mc ms : Nat) (free : Addr → Prop) : Pt → Array Value → Addr → Pt → Prop := fun A a q B =>
  ∃ (g : JFrame) (mk : MethodId) (t : State) (L : List Loc) (E : String) (ce : Cell), B.U.heap = t.heap ∧ B.U.vm = t.vm ∧ XC E (A.U.calling g mk a) t ∧ t.heap[q]? = some ce ∧ ce.vm = .none ∧ A.U.vm.findClass E = some ce.cls ∧ B.locs = A.locs ++ L ∧ (∀ z ∈ L, free z.base) ∧ B.cells = A.cells + mc ∧ B.slots = A.slots + ms
def vx_Back (l : Launch) (R : Room) (p : Program) (e : Env) (below : List Frame) (s : State) (sargs : Array Value) (y : MethodName) (len W9 : Nat)
    (Pre : Pt → Array Value → Prop) (Post : Pt → Array Value → Option Value → Pt → Prop) (PostX : Pt → Array Value → Addr → Pt → Prop) : Prop :=
  ∀ (m : MethodId) (meth : Method) (c : Code) (A : Pt) (g : JFrame) (ig : Instr) (mk : MethodId) (a : Array Value),
    Stand p l e R s m sargs below meth c A.U A.locs A.cells A.slots → g.method = m → g.locals.size = c.maxLocals → decode c.code g.pc = .ok (ig, len) →
    2 * g.monitorRoom + (g.stack.map fun v => v.category).sum ≤ W9 → A.U.methodNamed? y = some mk → Pre A a →
    (∃ (v : Option Value) (B : Pt), Stand p l e R s m sargs below meth c B.U B.locs B.cells B.slots ∧ Post A a v B ∧
      Steps p.tables e below (doInvoke e (A.U.setTop g) [] mk a).1 (B.U.setTop { g with pc := g.pc + len, stack := v.toList ++ g.stack })) ∨
    (∃ (q : Addr) (B : Pt), Stand p l e R s m sargs below meth c B.U B.locs B.cells B.slots ∧ PostX A a q B ∧
      Steps p.tables e below (doInvoke e (A.U.setTop g) [] mk a).1 ((B.U.setTop g).pushFrame (.throwing q)))
section Payer
variable {l : Launch} {R : Room} {p : Program} {e : Env} {below : List Frame} {s : State} {sargs : Array Value} {y : MethodName} {len W9 : Nat}
theorem vx_back {ws : List Cond} {rm : Room} {Pc : Array Value → State → Prop} {Qc : Array Value → State → Outcome → State → Prop} {XC : String → State → State → Prop} {mc ms : Nat} {free : Addr → Prop} {bytes : ByteArray} {maxL : Nat} {ret : Option FieldType}
    (hM : vx_Met l y ws rm Pc Qc XC mc ms free) (hblind : FrameBlind Pc) (hrc : rm.cells = mc) (hrs : rm.slots = ms)
    (hframes : rm.frames + 1 ≤ R.frames) (hlocals : W9 + (maxL + 11) + rm.locals ≤ R.locals)
    (hws : ∀ w ∈ ws, ∀ a' U, s.WarmedH U.vm → w.before a' U = true) (hcode : Cond.code y bytes maxL ret ∈ ws) (hinit : ∀ a' U, s.WarmedH U.vm → (Cond.initialized y.cls).before a' U = true) :
    vx_Back l R p e below s sargs y len W9 (PreOf R mc ms Pc) (PostOf Qc mc ms free) (vx_Post XC mc ms free) := by
  intro m meth c A g ig mk a X hg hsize hdg hW hn hp
  have h1 : (headSpec ws rm).pre.before a A.U = true := atoms_intro fun w hw => hws w hw _ _ X.warmed
  have h2 : (Cond.code y bytes maxL ret).before a A.U = true := hws _ hcode _ _ X.warmed
  have h3 : (Cond.initialized y.cls).before a A.U = true := hinit _ _ X.warmed
  have h4 : A.cells + (headSpec ws rm).room.cells ≤ R.cells := by rw [show (headSpec ws rm).room.cells = mc from hrc]; exact hp.1
  have h5 : A.slots + (headSpec ws rm).room.slots ≤ R.slots := by rw [show (headSpec ws rm).room.slots = ms from hrs]; exact hp.2.1
  have hPc : Pc a (A.U.calling g mk a) := hblind _ _ _ _ hp.2.2
  obtain ⟨U, Ls, c0, s0⟩ := A
  dsimp only [Pt.U, Pt.locs, Pt.cells, Pt.slots] at h1 h2 h3 h4 h5 X hn hPc ⊢
  obtain ⟨methY, cY, hmY, hcY, -, hlY, -, -, -, -⟩ := Cond.code_spec hn h2
  obtain ⟨kY, hkY, -⟩ := className_of_methodNamed hn
  have hinitY : kY.init = .initialized := Cond.initialized_spec (findClass_of_methodNamed hn) hkY h3
  have h : At U g.method c below := by rw [hg]; exact X.here
  have hlocals9 : W9 + (maxL + 11) + (headSpec ws rm).room.locals ≤ R.locals := hlocals
  have happ : (headSpec ws rm).appliesLoose y e.platform (U.calling g mk a) = true :=
    Spec.appliesLoose_calling (g := g) h hdg hn hkY hinitY
      (X.room_calling (g := g) (R' := (headSpec ws rm).room) hsize hmY hcY hframes (by rw [hlY]; omega) h4 h5) h1
  obtain ⟨mid, hmid⟩ := h.above
  have hfr : (U.setTop g).frames = (.java g :: mid) ++ below := by rw [State.frames_setTop' g h.top, hmid]; rfl
  obtain ⟨o, s₂, hsteps, -, hend, hq⟩ := Steps.callFree hM p X.admits X.cas X.clock (acts := []) hfr happ hPc trivial
  have hq' : vx_Q Qc XC mc ms free a (U.calling g mk a) o s₂ := hq
  rw [State.frames_setTop' g h.top] at hend
  obtain ⟨g₀, hg0⟩ := Option.isSome_iff_exists.mp h.top
  obtain ⟨r, hr⟩ := State.topJava?_eq_some.mp hg0
  have hr' : (({ U with heap := s₂.heap, slotsUsed := s₂.slotsUsed } : State).setVm s₂.vm).frames = .java g₀ :: r := hr
  rcases hq' with ⟨hqc, L, hfe, hL⟩ | ⟨q, rfl, E, ce, L, hx, hce, hcv, hcl, hW₂, hsm, hL⟩
  · obtain ⟨⟨v, rfl⟩, hW₂, e2, q2, q3, q4, q5, q6⟩ := id hfe
    have e3 : s₂ = ({ (U.calling g mk a).setFrames s₂.frames with heap := s₂.heap, slotsUsed := s₂.slotsUsed } : State).setVm s₂.vm := by
      have : s₂ = ({ s₂ with vm := (U.calling g mk a).vm } : State).setVm s₂.vm := rfl
      rw [e2] at this
      exact this
    obtain ⟨c₂, i₂, len₂, hc₂, hd₂, hf₂⟩ := hend
    have hW' : U.WarmedH s₂.vm := hW₂
    have hcc : c₂ = c := by
      have h1 : s₂.code? g.method = U.code? g.method := by
        rw [State.code?_eq, State.code?_eq, hW'.alike.method?]
      exact Option.some.inj (hc₂.symm.trans (h1.trans h.code))
    subst hcc
    have hlen : len₂ = len := by rw [hdg] at hd₂; cases hd₂; rfl
    subst hlen
    have hs₂ : s₂ = (({ U with heap := s₂.heap, slotsUsed := s₂.slotsUsed } : State).setVm s₂.vm).setTop { g with pc := g.pc + len₂, stack := v.toList ++ g.stack } := by
      refine e3.trans ?_
      rw [hf₂, State.calling_eq h.top, State.setFrames_setFrames, State.setTop_of_frames _ hr', hr]
      rfl
    have hsame : U.sameButNew ({ U with heap := s₂.heap, slotsUsed := s₂.slotsUsed } : State) L mc ms := by
      refine ⟨?_, q2, q3, q4, q5, q6⟩
      obtain ⟨t, ht, -⟩ := State.frames_cons hr
      show ({ U with heap := s₂.heap, slotsUsed := s₂.slotsUsed } : State) = { U.setFrames U.frames with heap := s₂.heap, slotsUsed := s₂.slotsUsed }
      rw [State.setFrames_self ht]
    subst hg
    refine Or.inl ⟨v, ⟨(({ U with heap := s₂.heap, slotsUsed := s₂.slotsUsed } : State).setVm s₂.vm), Ls ++ L, c0 + mc, s0 + ms⟩,
      ⟨X.admits, X.cas, X.clock, X.frames, X.room, X.hears, X.method, X.code, (X.here.setHeapUsed s₂.heap s₂.slotsUsed).setVm hW'.alike, X.tail, State.WarmedH.trans X.warmed hW', X.limits, X.bytes, X.same.trans (hsame.setVm s.vm)⟩,
      ⟨g, mk, s₂, L, rfl, rfl, hqc, rfl, hL, rfl, rfl⟩, ?_⟩
    show Steps p.tables e below _ ((({ U with heap := s₂.heap, slotsUsed := s₂.slotsUsed } : State).setVm s₂.vm).setTop { g with pc := g.pc + len₂, stack := v.toList ++ g.stack })
    rw [← hs₂]
    exact hsteps
  · obtain ⟨e2, q2, q3, q4, q5, q6⟩ := id hsm
    have e3 : s₂ = ({ (U.calling g mk a).setFrames s₂.frames with heap := s₂.heap, slotsUsed := s₂.slotsUsed } : State).setVm s₂.vm := by
      have : s₂ = ({ s₂ with vm := (U.calling g mk a).vm } : State).setVm s₂.vm := rfl
      rw [e2] at this
      exact this
    have hf₂ : s₂.frames = .throwing q :: .java g :: U.frames.tail := hend
    have hW' : U.WarmedH s₂.vm := hW₂
    have hs₂ : s₂ = ((({ U with heap := s₂.heap, slotsUsed := s₂.slotsUsed } : State).setVm s₂.vm).setTop g).pushFrame (.throwing q) := by
      refine e3.trans ?_
      rw [hf₂, State.calling_eq h.top, State.setFrames_setFrames, State.pushFrame, State.frames_setTop _ hr', State.setTop_of_frames _ hr', State.setFrames_setFrames, hr]
      rfl
    have hsame : U.sameButNew ({ U with heap := s₂.heap, slotsUsed := s₂.slotsUsed } : State) L mc ms := by
      refine ⟨?_, q2, q3, q4, q5, q6⟩
      obtain ⟨t, ht, -⟩ := State.frames_cons hr
      show ({ U with heap := s₂.heap, slotsUsed := s₂.slotsUsed } : State) = { U.setFrames U.frames with heap := s₂.heap, slotsUsed := s₂.slotsUsed }
      rw [State.setFrames_self ht]
    subst hg
    refine Or.inr ⟨q, ⟨(({ U with heap := s₂.heap, slotsUsed := s₂.slotsUsed } : State).setVm s₂.vm), Ls ++ L, c0 + mc, s0 + ms⟩,
      ⟨X.admits, X.cas, X.clock, X.frames, X.room, X.hears, X.method, X.code, (X.here.setHeapUsed s₂.heap s₂.slotsUsed).setVm hW'.alike, X.tail, State.WarmedH.trans X.warmed hW', X.limits, X.bytes, X.same.trans (hsame.setVm s.vm)⟩,
      ⟨g, mk, s₂, L, E, ce, rfl, rfl, hx, hce, hcv, hcl, rfl, hL, rfl, rfl⟩, ?_⟩
    show Steps p.tables e below _ (((({ U with heap := s₂.heap, slotsUsed := s₂.slotsUsed } : State).setVm s₂.vm).setTop g).pushFrame (.throwing q))
    rw [← hs₂]
    exact hsteps
end Payer
section Calls
variable {p : Program} {l : Launch} {e : Env} {R : Room} {s : State} {m : MethodId} {args : Array Value} {below : List Frame} {meth : Method} {c : Code} {T : State} {locs : List Loc} {cells slots : Nat}
theorem vx_callV (X : Stand p l e R s m args below meth c T locs cells slots) (hexec : p.tables.exec = Jvm.exec) {own C : String} {index : Nat} {y : MethodName} {bytes : ByteArray} {maxL : Nat} {ret : Option FieldType}
    (hown : s.vm.findClass own = some m.cls) (hlink : (Cond.methodLink own index y).before args s = true) (hinst : (Cond.instanceMethod y).before args s = true) (hsel : (Cond.selects C y y).before args s = true)
    (hcode : (Cond.code y bytes maxL ret).before args s = true) (hy : y.cls ≠ "java/lang/invoke/MethodHandle" ∧ y.cls ≠ "java/lang/invoke/VarHandle")
    {W9 : Nat} {Pre : Pt → Array Value → Prop} {Post : Pt → Array Value → Option Value → Pt → Prop} {PostX : Pt → Array Value → Addr → Pt → Prop} (hK : vx_Back l R p e below s args y 3 W9 Pre Post PostX)
    {b : Addr} {cellB : Cell} (hcell : T.heap[b]? = some cellB) (hobj : cellB.vm.isStatics = false) (hcls : s.vm.findClass C = some cellB.cls)
    {g : JFrame} (hg : g.method = m) (hsize : g.locals.size = c.maxLocals) {argsL rest : List Value} (hlen : ∀ sig, parseMethodDescriptor y.desc = some sig → argsL.length = sig.parameters.length)
    (hstack : g.stack = argsL.reverse ++ .ref b :: rest) (hW : 2 * g.monitorRoom + (rest.map fun v => v.category).sum ≤ W9) (hdg : decode c.code g.pc = .ok (.invokevirtual index, 3))
    (hpre : ∀ vm₁, s.WarmedH vm₁ → Pre ⟨T.setVm vm₁, locs, cells, slots⟩ (Value.ref b :: argsL).toArray) :
    (∃ (v : Option Value) (vm₁ : Vm) (B : Pt), s.WarmedH vm₁ ∧ Stand p l e R s m args below meth c B.U B.locs B.cells B.slots ∧ Post ⟨T.setVm vm₁, locs, cells, slots⟩ (Value.ref b :: argsL).toArray v B ∧
      ∀ target, Steps p.tables e below (B.U.setTop { g with pc := g.pc + 3, stack := v.toList ++ rest }) target → Steps p.tables e below (T.setTop g) target) ∨
    (∃ (q : Addr) (vm₁ : Vm) (B : Pt), s.WarmedH vm₁ ∧ Stand p l e R s m args below meth c B.U B.locs B.cells B.slots ∧ PostX ⟨T.setVm vm₁, locs, cells, slots⟩ (Value.ref b :: argsL).toArray q B ∧
      Steps p.tables e below (T.setTop g) ((B.U.setTop { g with stack := rest }).pushFrame (.throwing q))) := by
  obtain ⟨mk, methM, hnamed, hmethM, hstM, habM⟩ := Cond.instanceMethod_spec hinst
  obtain ⟨methM', cM, hmethM', -, -, -, -, -, -, hsigM⟩ := Cond.code_spec hnamed hcode
  cases hmethM.symm.trans hmethM'
  obtain ⟨c2, r2, m2, q1, q2, q3, q4, kP, hkP, hkPi⟩ := Cond.selects_spec hsel
  cases hcls.symm.trans q1
  cases (State.methodFound?_of_named hnamed hy).symm.trans q2
  cases hnamed.symm.trans q3
  have hselP : selectMethod e.platform s.vm cellB.cls mk = .method mk := by rw [Launch.admits_selectMethod X.admits]; exact q4
  obtain ⟨vm₁, X₁, hstep₁⟩ := X.invokevirtual hexec hown hlink hnamed hmethM hstM hkP hkPi hy (a := b) (cell := cellB) hcell
    (fun z h => by rw [h] at hobj; cases hobj) hselP hmethM habM hkP hkPi (g := g) hg (argsL := argsL) (rest := rest) (hlen _ hsigM) hstack hdg
  rcases hK m meth c ⟨T.setVm vm₁, locs, cells, slots⟩ { g with stack := rest } (.invokevirtual index) mk (Value.ref b :: argsL).toArray X₁ hg hsize hdg hW (X₁.named hnamed) (hpre vm₁ X₁.warmed) with ⟨v, B, X', hpost, hsteps⟩ | ⟨q, B, X', hpost, hsteps⟩
  · exact Or.inl ⟨v, vm₁, B, X₁.warmed, X', hpost, fun target h => hstep₁ _ fun acts => by rw [doInvoke_state]; exact hsteps.trans h⟩
  · exact Or.inr ⟨q, vm₁, B, X₁.warmed, X', hpost, hstep₁ _ fun acts => by rw [doInvoke_state]; exact hsteps⟩
theorem vx_callS (X : Stand p l e R s m args below meth c T locs cells slots) (hexec : p.tables.exec = Jvm.exec) {own : String} {index : Nat} {y : MethodName} {bytes : ByteArray} {maxL : Nat} {ret : Option FieldType}
    (hown : s.vm.findClass own = some m.cls) (hlink : (Cond.methodLink own index y).before args s = true) (hstat : (Cond.static y).before args s = true) (hinit : (Cond.initialized y.cls).before args s = true)
    (hcode : (Cond.code y bytes maxL ret).before args s = true) (hy : y.cls ≠ "java/lang/invoke/MethodHandle" ∧ y.cls ≠ "java/lang/invoke/VarHandle")
    {W9 : Nat} {Pre : Pt → Array Value → Prop} {Post : Pt → Array Value → Option Value → Pt → Prop} {PostX : Pt → Array Value → Addr → Pt → Prop} (hK : vx_Back l R p e below s args y 3 W9 Pre Post PostX)
    {g : JFrame} (hg : g.method = m) (hsize : g.locals.size = c.maxLocals) {argsL rest : List Value} (hlen : ∀ sig, parseMethodDescriptor y.desc = some sig → argsL.length = sig.parameters.length)
    (hstack : g.stack = argsL.reverse ++ rest) (hW : 2 * g.monitorRoom + (rest.map fun v => v.category).sum ≤ W9) (hdg : decode c.code g.pc = .ok (.invokestatic index, 3))
    (hpre : ∀ vm₁, s.WarmedH vm₁ → Pre ⟨T.setVm vm₁, locs, cells, slots⟩ argsL.toArray) :
    (∃ (v : Option Value) (vm₁ : Vm) (B : Pt), s.WarmedH vm₁ ∧ Stand p l e R s m args below meth c B.U B.locs B.cells B.slots ∧ Post ⟨T.setVm vm₁, locs, cells, slots⟩ argsL.toArray v B ∧
      ∀ target, Steps p.tables e below (B.U.setTop { g with pc := g.pc + 3, stack := v.toList ++ rest }) target → Steps p.tables e below (T.setTop g) target) ∨
    (∃ (q : Addr) (vm₁ : Vm) (B : Pt), s.WarmedH vm₁ ∧ Stand p l e R s m args below meth c B.U B.locs B.cells B.slots ∧ PostX ⟨T.setVm vm₁, locs, cells, slots⟩ argsL.toArray q B ∧
      Steps p.tables e below (T.setTop g) ((B.U.setTop { g with stack := rest }).pushFrame (.throwing q))) := by
  obtain ⟨mk, hnamed⟩ := Cond.code_named hcode
  obtain ⟨methM, cM, hmethM, -, -, -, -, -, -, hsigM⟩ := Cond.code_spec hnamed hcode
  have hstatic : methM.isStatic = true := Cond.static_spec hnamed hmethM hstat
  obtain ⟨kP, hkP, -⟩ := className_of_methodNamed hnamed
  have hinitP : kP.init = .initialized := Cond.initialized_spec (findClass_of_methodNamed hnamed) hkP hinit
  obtain ⟨vm₁, X₁, hstep₁⟩ := X.invokestatic hexec hown hlink hnamed hmethM hstatic hkP hinitP hy (g := g) hg (argsL := argsL) (rest := rest) (hlen _ hsigM) hstack hdg
  rcases hK m meth c ⟨T.setVm vm₁, locs, cells, slots⟩ { g with stack := rest } (.invokestatic index) mk argsL.toArray X₁ hg hsize hdg hW (X₁.named hnamed) (hpre vm₁ X₁.warmed) with ⟨v, B, X', hpost, hsteps⟩ | ⟨q, B, X', hpost, hsteps⟩
  · exact Or.inl ⟨v, vm₁, B, X₁.warmed, X', hpost, fun target h => hstep₁ _ fun acts => by rw [doInvoke_state]; exact hsteps.trans h⟩
  · exact Or.inr ⟨q, vm₁, B, X₁.warmed, X', hpost, hstep₁ _ fun acts => by rw [doInvoke_state]; exact hsteps⟩
end Calls
theorem vx_cls {s : State} {T : State} {vm₁ : Vm} {E : String} {k : ClassId} (hW : s.WarmedH vm₁) (h : (T.setVm vm₁).vm.findClass E = some k) : s.vm.findClass E = some k := by
  have h1 : vm₁.findClass E = some k := h
  rw [hW.alike.findClass] at h1
  exact h1
/-- the method's frame g, with q thrown over it -/
def vx_W (p : Program) (l : Launch) (e : Env) (R : Room) (s : State) (m : MethodId) (args : Array Value) (below : List Frame) (meth : Method) (c : Code) (H : Heap) (locs : List Loc) (cells slots : Nat) (Q : State → Prop) (g : JFrame) (q : Addr) : Prop :=
  ∀ T : State, T.heap = H → Stand p l e R s m args below meth c T locs cells slots → ∃ t, Steps p.tables e below ((T.setTop g).pushFrame (.throwing q)) t ∧ Q t
def vx_Run (p : Program) (l : Launch) (e : Env) (R : Room) (s : State) (m : MethodId) (args : Array Value) (below : List Frame) (meth : Method) (c : Code) (H : Heap) (locs : List Loc) (cells slots mc ms : Nat) (g : JFrame) (rest : List Value) (Qa : State → Outcome → State → Prop) (XC : String → State → State → Prop) (free : Addr → Prop) : Prop :=
  ∀ T : State, T.heap = H → Stand p l e R s m args below meth c T locs cells slots →
    (∃ (v : Option Value) (st₀ t T' : State) (L : List Loc), st₀.heap = H ∧ Stand p l e R s m args below meth c T' (locs ++ L) (cells + mc) (slots + ms) ∧ (∀ q ∈ L, free q.base) ∧ T'.heap = t.heap ∧ T'.vm = t.vm ∧ Qa st₀ (.returned v) t ∧
      Goes p e below T g T' { g with pc := g.pc + 3, stack := v.toList ++ rest }) ∨
    (∃ (q : Addr) (st₀ t T' : State) (L : List Loc) (E : String) (ce : Cell), st₀.heap = H ∧ Stand p l e R s m args below meth c T' (locs ++ L) (cells + mc) (slots + ms) ∧ (∀ z ∈ L, free z.base) ∧ T'.heap = t.heap ∧ T'.vm = t.vm ∧ XC E st₀ t ∧ t.heap[q]? = some ce ∧ ce.vm = .none ∧ s.vm.findClass E = some ce.cls ∧
      Steps p.tables e below (T.setTop g) ((T'.setTop { g with stack := rest }).pushFrame (.throwing q)))
def vx_X {S : Type} (px : S → Prop) (B : String → S → State → Prop) (A : Nat → Prop) : String → State → State → Prop := fun E st t => ∃ u : S, px u ∧ B E u t ∧ va_F A st t
section Runs
variable {p : Program} {l : Launch} {e : Env} {R : Room} {s : State} {m : MethodId} {args : Array Value} {below : List Frame} {meth : Method} {c : Code} {H : Heap} {locs : List Loc} {cells slots : Nat}
variable {y : MethodName} {bytes cc : ByteArray} {maxL nL mc ms n index : Nat} {ret : Option FieldType} {ws : List Cond} {rm : Room} {Pc : Array Value → State → Prop} {Qc : Array Value → State → Outcome → State → Prop} {XC : String → State → State → Prop} {free : Addr → Prop} {Ts : List Cond} {own C : String} {b : Addr} {As rest : List Value} {g : JFrame}
theorem vx_callBack (cb : CallB R s args own index y bytes maxL ret ws rm mc ms n) (hM : vx_Met l y ws rm Pc Qc XC mc ms free) (hbl : FrameBlind Pc) : vx_Back l R p e below s args y 3 8 (PreOf R mc ms Pc) (PostOf Qc mc ms free) (vx_Post XC mc ms free) := by
  obtain ⟨hrc, hrs, hfr, hlo, hws, hcw, -, hini, -⟩ := cb
  exact vx_back (bytes := bytes) (maxL := maxL) (ret := ret) hM hbl hrc hrs hfr hlo hws hcw (fun a' U hW => word_at hW (Or.inl (by first | rfl | simp [Cond.onTables, Cond.keeps, Cond.steady])) hini)
theorem vx_runV (S : CallFix p m c cc nL s args Ts own) (hM : vx_Met l y ws rm Pc Qc XC mc ms free) (cw : CallW R s args own C index y bytes maxL ret ws rm mc ms n) (hp : PreV s H C b Pc As)
    (hg : g.method = m) (hn : As.length = n) (hsize : g.locals.size = nL) (hstack : g.stack = As.reverse ++ .ref b :: rest) (hW : 2 * g.monitorRoom + (rest.map fun v => v.category).sum ≤ 8) (hdg : decode cc g.pc = .ok (.invokevirtual index, 3)) (hf : cells + mc ≤ R.cells ∧ slots + ms ≤ R.slots) :
    vx_Run p l e R s m args below meth c H locs cells slots mc ms g rest (Qc (Value.ref b :: As).toArray) XC free := by
  have hK : vx_Back l R p e below s args y 3 8 (PreOf R mc ms Pc) (PostOf Qc mc ms free) (vx_Post XC mc ms free) := vx_callBack cw.1 hM hp.1
  obtain ⟨⟨-, -, -, -, -, -, hcode, -, hy, hlen, hl⟩, hin, hse⟩ := cw
  obtain ⟨hx, hb, hml, ho, -⟩ := S
  obtain ⟨-, ⟨cellB, hcB, hoB, hclB⟩, hPc⟩ := hp
  intro T hT X
  rcases vx_callV X hx (C := C) (bytes := bytes) (maxL := maxL) (ret := ret) ho hl hin hse hcode hy hK (by rw [hT]; exact hcB) hoB hclB hg (hsize.trans hml.symm) (argsL := As) (rest := rest) (fun sig h => hn.trans (hlen sig h)) hstack hW (by rw [hb]; exact hdg)
    (fun vm₁ hW₁ => ⟨hf.1, hf.2, hPc (T.setVm vm₁) hT hW₁⟩) with ⟨v, vm₁, ⟨U', l2, c2, s2⟩, hW₁, X', ⟨g', mk, t, L, e1, e2, hq, h1, hL, h2, h3⟩, st⟩ | ⟨q, vm₁, ⟨U', l2, c2, s2⟩, hW₁, X', ⟨g', mk, t, L, E, ce, e1, e2, hq, hce, hcv, hcl, h1, hL, h2, h3⟩, st⟩
  · dsimp only [Pt.U, Pt.locs, Pt.cells, Pt.slots] at X' e1 e2 h1 h2 h3 st
    subst h1; subst h2; subst h3
    exact Or.inl ⟨v, (T.setVm vm₁).calling g' mk (Value.ref b :: As).toArray, t, U', L, hT, X', hL, e1, e2, hq, st⟩
  · dsimp only [Pt.U, Pt.locs, Pt.cells, Pt.slots] at X' e1 e2 h1 h2 h3 st hcl
    subst h1; subst h2; subst h3
    exact Or.inr ⟨q, (T.setVm vm₁).calling g' mk (Value.ref b :: As).toArray, t, U', L, E, ce, hT, X', hL, e1, e2, hq, hce, hcv, vx_cls hW₁ hcl, st⟩
theorem vx_runS (S : CallFix p m c cc nL s args Ts own) (hM : vx_Met l y ws rm Pc Qc XC mc ms free) (cw : CallB R s args own index y bytes maxL ret ws rm mc ms n ∧ (Cond.static y).before args s = true) (hp : PreS s H Pc As)
    (hg : g.method = m) (hn : As.length = n) (hsize : g.locals.size = nL) (hstack : g.stack = As.reverse ++ rest) (hW : 2 * g.monitorRoom + (rest.map fun v => v.category).sum ≤ 8) (hdg : decode cc g.pc = .ok (.invokestatic index, 3)) (hf : cells + mc ≤ R.cells ∧ slots + ms ≤ R.slots) :
    vx_Run p l e R s m args below meth c H locs cells slots mc ms g rest (Qc As.toArray) XC free := by
  have hK : vx_Back l R p e below s args y 3 8 (PreOf R mc ms Pc) (PostOf Qc mc ms free) (vx_Post XC mc ms free) := vx_callBack cw.1 hM hp.1
  obtain ⟨⟨-, -, -, -, -, -, hcode, hini, hy, hlen, hl⟩, hstt⟩ := cw
  obtain ⟨hx, hb, hml, ho, -⟩ := S
  intro T hT X
  rcases vx_callS X hx (bytes := bytes) (maxL := maxL) (ret := ret) ho hl hstt hini hcode hy hK hg (hsize.trans hml.symm) (argsL := As) (rest := rest) (fun sig h => hn.trans (hlen sig h)) hstack hW (by rw [hb]; exact hdg)
    (fun vm₁ hW₁ => ⟨hf.1, hf.2, hp.2 (T.setVm vm₁) hT hW₁⟩) with ⟨v, vm₁, ⟨U', l2, c2, s2⟩, hW₁, X', ⟨g', mk, t, L, e1, e2, hq, h1, hL, h2, h3⟩, st⟩ | ⟨q, vm₁, ⟨U', l2, c2, s2⟩, hW₁, X', ⟨g', mk, t, L, E, ce, e1, e2, hq, hce, hcv, hcl, h1, hL, h2, h3⟩, st⟩
  · dsimp only [Pt.U, Pt.locs, Pt.cells, Pt.slots] at X' e1 e2 h1 h2 h3 st
    subst h1; subst h2; subst h3
    exact Or.inl ⟨v, (T.setVm vm₁).calling g' mk As.toArray, t, U', L, hT, X', hL, e1, e2, hq, st⟩
  · dsimp only [Pt.U, Pt.locs, Pt.cells, Pt.slots] at X' e1 e2 h1 h2 h3 st hcl
    subst h1; subst h2; subst h3
    exact Or.inr ⟨q, (T.setVm vm₁).calling g' mk As.toArray, t, U', L, E, ce, hT, X', hL, e1, e2, hq, hce, hcv, vx_cls hW₁ hcl, st⟩
end Runs
section Rows
variable {p : Program} {l : Launch} {e : Env} {R : Room} {s : State} {m : MethodId} {args : Array Value} {below : List Frame} {meth : Method} {c : Code} {H : Heap} {locs : List Loc} {cells slots : Nat} {Q : State → Prop}
variable {mc ms : Nat} {free : Addr → Prop} {A0 A1 : Nat → Prop} {H0 : Heap} {a : Array Value} {pc : Nat} {ls : Array Slot} {st0 rest : List Value}
theorem vx_keep {st₀ t T' : State} {L : List Loc} (h0 : st₀.heap = H) (e1 : T'.heap = t.heap) (hS : va_S A0 H0 H locs) (hA : ∀ q, q < H.size → A1 q → A0 q) (hf : ∀ q, free q → A0 q) (hL : ∀ q ∈ L, free q.base) (hF : va_F A1 st₀ t) :
    H.size ≤ T'.heap.size ∧ (∀ q : Nat, q < H.size → ¬ A1 q → T'.heap[q]? = H[q]?) ∧ va_S A0 H0 T'.heap (locs ++ L) := by
  obtain ⟨hz, hk⟩ := hF
  rw [h0] at hz hk
  exact ⟨by rw [e1]; exact hz, fun q h1 h2 => by rw [e1]; exact hk q h1 h2,
    ⟨Nat.le_trans hS.1 (by rw [e1]; exact hz), fun q h1 h2 => by rw [e1, hk q (Nat.lt_of_lt_of_le h1 hS.1) (fun z => h2 (hA q (Nat.lt_of_lt_of_le h1 hS.1) z))]; exact hS.2.1 q h1 h2, fun q hq => by
      rcases List.mem_append.mp hq with h | h
      · exact hS.2.2 q h
      · exact hf _ (hL q h)⟩⟩
theorem vx_calli {S SX : Type} {post : Int32 → S → Prop} {px : SX → Prop} {B : S → State → Prop} {BX : String → SX → State → Prop} {AX : Nat → Prop} (hr : vx_Run p l e R s m args below meth c H locs cells slots mc ms (F0 m pc ls st0) rest (va_Qi post B A1 a) (vx_X px BX AX) free) (hS : va_S A0 H0 H locs) (hA : ∀ q, q < H.size → A1 q → A0 q) (hf : ∀ q, free q → A0 q) (hAX : ∀ q, q < H.size → AX q → A0 q)
    (kx : ∀ (E : String) (ce : Cell) (q9 : Addr) (u : SX) (t : State) (H1 : Heap) (locs1 : List Loc), t.heap = H1 → s.vm.Alike t.vm → px u → BX E u t → H.size ≤ H1.size → (∀ q : Nat, q < H.size → ¬ AX q → H1[q]? = H[q]?) → va_S A0 H0 H1 locs1 → H1[q9]? = some ce → ce.vm = .none → s.vm.findClass E = some ce.cls → vx_W p l e R s m args below meth c H1 locs1 (cells + mc) (slots + ms) Q (F0 m pc ls rest) q9)
    (kk : ∀ (r : Int32) (u : S) (t : State) (H1 : Heap) (locs1 : List Loc), t.heap = H1 → s.vm.Alike t.vm → post r u → B u t → H.size ≤ H1.size → (∀ q : Nat, q < H.size → ¬ A1 q → H1[q]? = H[q]?) → va_S A0 H0 H1 locs1 → W p l e R s m args below meth c H1 locs1 (cells + mc) (slots + ms) Q (F0 m (pc + 3) ls (.int r :: rest))) : W p l e R s m args below meth c H locs cells slots Q (F0 m pc ls st0) := by
  intro T hT X
  rcases hr T hT X with ⟨v, st₀, t, T', L, h0, X', hL, e1, e2, ⟨⟨r, u, hv, hp, hb⟩, hF⟩, st⟩ | ⟨q, st₀, t, T', L, E, ce, h0, X', hL, e1, e2, ⟨u, hp, hb, hF⟩, hce, hcv, hcl, st⟩
  · cases hv
    obtain ⟨k1, k2, k3⟩ := vx_keep h0 e1 hS hA hf hL hF
    obtain ⟨t2, a1, b1⟩ := kk r u t T'.heap (locs ++ L) e1.symm (by rw [← e2]; exact X'.warmed.alike) hp hb k1 k2 k3 T' rfl X'
    exact ⟨t2, st t2 a1, b1⟩
  · obtain ⟨k1, k2, k3⟩ := vx_keep h0 e1 hS hAX hf hL hF
    obtain ⟨t2, a1, b1⟩ := kx E ce q u t T'.heap (locs ++ L) e1.symm (by rw [← e2]; exact X'.warmed.alike) hp hb k1 k2 k3 (by rw [e1]; exact hce) hcv hcl T' rfl X'
    exact ⟨t2, st.trans a1, b1⟩
theorem vx_calll {S SX : Type} {post : Int64 → S → Prop} {px : SX → Prop} {B : S → State → Prop} {BX : String → SX → State → Prop} {AX : Nat → Prop} (hr : vx_Run p l e R s m args below meth c H locs cells slots mc ms (F0 m pc ls st0) rest (va_Ql post B A1 a) (vx_X px BX AX) free) (hS : va_S A0 H0 H locs) (hA : ∀ q, q < H.size → A1 q → A0 q) (hf : ∀ q, free q → A0 q) (hAX : ∀ q, q < H.size → AX q → A0 q)
    (kx : ∀ (E : String) (ce : Cell) (q9 : Addr) (u : SX) (t : State) (H1 : Heap) (locs1 : List Loc), t.heap = H1 → s.vm.Alike t.vm → px u → BX E u t → H.size ≤ H1.size → (∀ q : Nat, q < H.size → ¬ AX q → H1[q]? = H[q]?) → va_S A0 H0 H1 locs1 → H1[q9]? = some ce → ce.vm = .none → s.vm.findClass E = some ce.cls → vx_W p l e R s m args below meth c H1 locs1 (cells + mc) (slots + ms) Q (F0 m pc ls rest) q9)
    (kk : ∀ (r : Int64) (u : S) (t : State) (H1 : Heap) (locs1 : List Loc), t.heap = H1 → s.vm.Alike t.vm → post r u → B u t → H.size ≤ H1.size → (∀ q : Nat, q < H.size → ¬ A1 q → H1[q]? = H[q]?) → va_S A0 H0 H1 locs1 → W p l e R s m args below meth c H1 locs1 (cells + mc) (slots + ms) Q (F0 m (pc + 3) ls (.long r :: rest))) : W p l e R s m args below meth c H locs cells slots Q (F0 m pc ls st0) := by
  intro T hT X
  rcases hr T hT X with ⟨v, st₀, t, T', L, h0, X', hL, e1, e2, ⟨⟨r, u, hv, hp, hb⟩, hF⟩, st⟩ | ⟨q, st₀, t, T', L, E, ce, h0, X', hL, e1, e2, ⟨u, hp, hb, hF⟩, hce, hcv, hcl, st⟩
  · cases hv
    obtain ⟨k1, k2, k3⟩ := vx_keep h0 e1 hS hA hf hL hF
    obtain ⟨t2, a1, b1⟩ := kk r u t T'.heap (locs ++ L) e1.symm (by rw [← e2]; exact X'.warmed.alike) hp hb k1 k2 k3 T' rfl X'
    exact ⟨t2, st t2 a1, b1⟩
  · obtain ⟨k1, k2, k3⟩ := vx_keep h0 e1 hS hAX hf hL hF
    obtain ⟨t2, a1, b1⟩ := kx E ce q u t T'.heap (locs ++ L) e1.symm (by rw [← e2]; exact X'.warmed.alike) hp hb k1 k2 k3 (by rw [e1]; exact hce) hcv hcl T' rfl X'
    exact ⟨t2, st.trans a1, b1⟩
theorem vx_callf {S SX : Type} {post : UInt32 → S → Prop} {px : SX → Prop} {B : S → State → Prop} {BX : String → SX → State → Prop} {AX : Nat → Prop} (hr : vx_Run p l e R s m args below meth c H locs cells slots mc ms (F0 m pc ls st0) rest (va_Qf post B A1 a) (vx_X px BX AX) free) (hS : va_S A0 H0 H locs) (hA : ∀ q, q < H.size → A1 q → A0 q) (hf : ∀ q, free q → A0 q) (hAX : ∀ q, q < H.size → AX q → A0 q)
    (kx : ∀ (E : String) (ce : Cell) (q9 : Addr) (u : SX) (t : State) (H1 : Heap) (locs1 : List Loc), t.heap = H1 → s.vm.Alike t.vm → px u → BX E u t → H.size ≤ H1.size → (∀ q : Nat, q < H.size → ¬ AX q → H1[q]? = H[q]?) → va_S A0 H0 H1 locs1 → H1[q9]? = some ce → ce.vm = .none → s.vm.findClass E = some ce.cls → vx_W p l e R s m args below meth c H1 locs1 (cells + mc) (slots + ms) Q (F0 m pc ls rest) q9)
    (kk : ∀ (r : UInt32) (u : S) (t : State) (H1 : Heap) (locs1 : List Loc), t.heap = H1 → s.vm.Alike t.vm → post r u → B u t → H.size ≤ H1.size → (∀ q : Nat, q < H.size → ¬ A1 q → H1[q]? = H[q]?) → va_S A0 H0 H1 locs1 → W p l e R s m args below meth c H1 locs1 (cells + mc) (slots + ms) Q (F0 m (pc + 3) ls (.float r :: rest))) : W p l e R s m args below meth c H locs cells slots Q (F0 m pc ls st0) := by
  intro T hT X
  rcases hr T hT X with ⟨v, st₀, t, T', L, h0, X', hL, e1, e2, ⟨⟨r, u, hv, hp, hb⟩, hF⟩, st⟩ | ⟨q, st₀, t, T', L, E, ce, h0, X', hL, e1, e2, ⟨u, hp, hb, hF⟩, hce, hcv, hcl, st⟩
  · cases hv
    obtain ⟨k1, k2, k3⟩ := vx_keep h0 e1 hS hA hf hL hF
    obtain ⟨t2, a1, b1⟩ := kk r u t T'.heap (locs ++ L) e1.symm (by rw [← e2]; exact X'.warmed.alike) hp hb k1 k2 k3 T' rfl X'
    exact ⟨t2, st t2 a1, b1⟩
  · obtain ⟨k1, k2, k3⟩ := vx_keep h0 e1 hS hAX hf hL hF
    obtain ⟨t2, a1, b1⟩ := kx E ce q u t T'.heap (locs ++ L) e1.symm (by rw [← e2]; exact X'.warmed.alike) hp hb k1 k2 k3 (by rw [e1]; exact hce) hcv hcl T' rfl X'
    exact ⟨t2, st.trans a1, b1⟩
theorem vx_calld {S SX : Type} {post : UInt64 → S → Prop} {px : SX → Prop} {B : S → State → Prop} {BX : String → SX → State → Prop} {AX : Nat → Prop} (hr : vx_Run p l e R s m args below meth c H locs cells slots mc ms (F0 m pc ls st0) rest (va_Qd post B A1 a) (vx_X px BX AX) free) (hS : va_S A0 H0 H locs) (hA : ∀ q, q < H.size → A1 q → A0 q) (hf : ∀ q, free q → A0 q) (hAX : ∀ q, q < H.size → AX q → A0 q)
    (kx : ∀ (E : String) (ce : Cell) (q9 : Addr) (u : SX) (t : State) (H1 : Heap) (locs1 : List Loc), t.heap = H1 → s.vm.Alike t.vm → px u → BX E u t → H.size ≤ H1.size → (∀ q : Nat, q < H.size → ¬ AX q → H1[q]? = H[q]?) → va_S A0 H0 H1 locs1 → H1[q9]? = some ce → ce.vm = .none → s.vm.findClass E = some ce.cls → vx_W p l e R s m args below meth c H1 locs1 (cells + mc) (slots + ms) Q (F0 m pc ls rest) q9)
    (kk : ∀ (r : UInt64) (u : S) (t : State) (H1 : Heap) (locs1 : List Loc), t.heap = H1 → s.vm.Alike t.vm → post r u → B u t → H.size ≤ H1.size → (∀ q : Nat, q < H.size → ¬ A1 q → H1[q]? = H[q]?) → va_S A0 H0 H1 locs1 → W p l e R s m args below meth c H1 locs1 (cells + mc) (slots + ms) Q (F0 m (pc + 3) ls (.double r :: rest))) : W p l e R s m args below meth c H locs cells slots Q (F0 m pc ls st0) := by
  intro T hT X
  rcases hr T hT X with ⟨v, st₀, t, T', L, h0, X', hL, e1, e2, ⟨⟨r, u, hv, hp, hb⟩, hF⟩, st⟩ | ⟨q, st₀, t, T', L, E, ce, h0, X', hL, e1, e2, ⟨u, hp, hb, hF⟩, hce, hcv, hcl, st⟩
  · cases hv
    obtain ⟨k1, k2, k3⟩ := vx_keep h0 e1 hS hA hf hL hF
    obtain ⟨t2, a1, b1⟩ := kk r u t T'.heap (locs ++ L) e1.symm (by rw [← e2]; exact X'.warmed.alike) hp hb k1 k2 k3 T' rfl X'
    exact ⟨t2, st t2 a1, b1⟩
  · obtain ⟨k1, k2, k3⟩ := vx_keep h0 e1 hS hAX hf hL hF
    obtain ⟨t2, a1, b1⟩ := kx E ce q u t T'.heap (locs ++ L) e1.symm (by rw [← e2]; exact X'.warmed.alike) hp hb k1 k2 k3 (by rw [e1]; exact hce) hcv hcl T' rfl X'
    exact ⟨t2, st.trans a1, b1⟩
theorem vx_callv {S SX : Type} {post : S → Prop} {px : SX → Prop} {B : S → State → Prop} {BX : String → SX → State → Prop} {AX : Nat → Prop} (hr : vx_Run p l e R s m args below meth c H locs cells slots mc ms (F0 m pc ls st0) rest (va_Qv post B A1 a) (vx_X px BX AX) free) (hS : va_S A0 H0 H locs) (hA : ∀ q, q < H.size → A1 q → A0 q) (hf : ∀ q, free q → A0 q) (hAX : ∀ q, q < H.size → AX q → A0 q)
    (kx : ∀ (E : String) (ce : Cell) (q9 : Addr) (u : SX) (t : State) (H1 : Heap) (locs1 : List Loc), t.heap = H1 → s.vm.Alike t.vm → px u → BX E u t → H.size ≤ H1.size → (∀ q : Nat, q < H.size → ¬ AX q → H1[q]? = H[q]?) → va_S A0 H0 H1 locs1 → H1[q9]? = some ce → ce.vm = .none → s.vm.findClass E = some ce.cls → vx_W p l e R s m args below meth c H1 locs1 (cells + mc) (slots + ms) Q (F0 m pc ls rest) q9)
    (kk : ∀ (u : S) (t : State) (H1 : Heap) (locs1 : List Loc), t.heap = H1 → s.vm.Alike t.vm → post u → B u t → H.size ≤ H1.size → (∀ q : Nat, q < H.size → ¬ A1 q → H1[q]? = H[q]?) → va_S A0 H0 H1 locs1 → W p l e R s m args below meth c H1 locs1 (cells + mc) (slots + ms) Q (F0 m (pc + 3) ls (rest))) : W p l e R s m args below meth c H locs cells slots Q (F0 m pc ls st0) := by
  intro T hT X
  rcases hr T hT X with ⟨v, st₀, t, T', L, h0, X', hL, e1, e2, ⟨⟨u, hv, hp, hb⟩, hF⟩, st⟩ | ⟨q, st₀, t, T', L, E, ce, h0, X', hL, e1, e2, ⟨u, hp, hb, hF⟩, hce, hcv, hcl, st⟩
  · cases hv
    obtain ⟨k1, k2, k3⟩ := vx_keep h0 e1 hS hA hf hL hF
    obtain ⟨t2, a1, b1⟩ := kk u t T'.heap (locs ++ L) e1.symm (by rw [← e2]; exact X'.warmed.alike) hp hb k1 k2 k3 T' rfl X'
    exact ⟨t2, st t2 a1, b1⟩
  · obtain ⟨k1, k2, k3⟩ := vx_keep h0 e1 hS hAX hf hL hF
    obtain ⟨t2, a1, b1⟩ := kx E ce q u t T'.heap (locs ++ L) e1.symm (by rw [← e2]; exact X'.warmed.alike) hp hb k1 k2 k3 (by rw [e1]; exact hce) hcv hcl T' rfl X'
    exact ⟨t2, st.trans a1, b1⟩
/-- caught by the row x of this method's table; the rows ahead don't take it -/
theorem vx_catch {own name : String} {E : String} {ce : Cell} {q : Addr} (hown : s.vm.findClass own = some m.cls) (pre : List ExceptionTableEntry) (x : ExceptionTableEntry) (suf : List ExceptionTableEntry) (hsplit : c.exceptionTable.toList = pre ++ x :: suf)
    (hpass : ∀ z ∈ pre, covers z pc = false ∨ (z.catchType ≠ 0 ∧ ∃ nm : String, (Cond.classLink own z.catchType nm).before args s = true ∧ va_Nc E nm s)) (hx : covers x pc = true) (h0 : x.catchType ≠ 0)
    (hlink : (Cond.classLink own x.catchType name).before args s = true) (hcast : (Cond.castable E name).before args s = true) (hcell : H[q]? = some ce) (hv : ce.vm = .none) (hcl : s.vm.findClass E = some ce.cls)
    (kk : W p l e R s m args below meth c H locs cells slots Q (F0 m x.handlerPc ls [.ref q])) : vx_W p l e R s m args below meth c H locs cells slots Q (F0 m pc ls rest) q := by
  intro T hT X
  have hpl : e.platform.magicAccessors = ({} : Platform).magicAccessors := by rw [X.admits.platform]
  obtain ⟨c3, c4, hc3, hc4, hasg⟩ := Cond.castable_spec hcast
  cases Option.some.inj (hc3.symm.trans hcl)
  obtain ⟨c5, hc5, hcl5⟩ := Cond.classLink_spec hown hlink e.platform hpl
  cases Option.some.inj (hc4.symm.trans hc5)
  obtain ⟨vm', X', st⟩ := X.thenCaughtThrough q (g := F0 m pc ls rest) rfl (Steps.refl _) (by rw [hT]; exact hcell) (by rw [hv]; rfl) (by obtain ⟨k9, h9, -⟩ := Vm.findClass_spec hcl; exact ⟨k9, h9⟩) pre x suf hsplit
    (fun z hz => by
      rcases hpass z hz with h | ⟨hz0, nm, hl1, hn1⟩
      · exact Or.inl h
      · obtain ⟨c6, hc6, hcl6⟩ := Cond.classLink_spec hown hl1 e.platform hpl
        obtain ⟨a8, b8, h1, h2, h3⟩ := hn1
        cases Option.some.inj (h1.symm.trans hcl)
        cases Option.some.inj (h2.symm.trans hc6)
        exact Or.inr ⟨hz0, _, hcl6, h3⟩) hx (Or.inr ⟨h0, c4, hcl5, hasg⟩)
  obtain ⟨t, a1, b1⟩ := kk (T.setVm vm') hT X'
  exact ⟨t, st.trans a1, b1⟩
end Rows
section Ends
variable {p : Program} {l : Launch} {e : Env} {R : Room} {s : State} {m : MethodId} {args : Array Value} {below : List Frame} {meth : Method} {c : Code} {H : Heap} {locs : List Loc} {cells slots : Nat} {Q : State → Prop}
variable {mc ms : Nat} {free : Addr → Prop} {A0 A1 : Nat → Prop} {H0 : Heap} {a : Array Value} {ls : Array Slot} {st0 rest : List Value}
variable {Qc : Array Value → State → Outcome → State → Prop} {XC : String → State → State → Prop}
/-- what a body that may throw owes at its end -/
def vx_MQ (below : List Frame) (Qc : Array Value → State → Outcome → State → Prop) (XC : String → State → State → Prop) (a : Array Value) (s : State) (mc ms : Nat) (free : Addr → Prop) : State → Prop := fun t =>
  ∃ o, t.status = .running ∧ Ended t below o ∧ vx_Q Qc XC mc ms free a s o t
theorem vx_ret {g : JFrame} {mc ms : Nat} (k : W p l e R s m args below meth c H locs cells slots (MQ below Qc args s mc ms free) g) : W p l e R s m args below meth c H locs cells slots (vx_MQ below Qc XC args s mc ms free) g := by
  intro T hT X
  obtain ⟨t, a1, o, b1, b2, b3, b4⟩ := k T hT X
  exact ⟨t, a1, o, b1, b2, Or.inl ⟨b3, b4⟩⟩
/-- not caught here: it goes on to the caller -/
theorem vx_widen {g : JFrame} {q : Addr} {k n : Nat} (h1 : cells ≤ k) (h2 : slots ≤ n) (kk : vx_W p l e R s m args below meth c H locs k n Q g q) : vx_W p l e R s m args below meth c H locs cells slots Q g q := fun T hT X => kk T hT (stand_widen X h1 h2)
theorem vx_out {pc : Nat} {E : String} {ce : Cell} {q : Addr} {mc ms : Nat} (hout : ∀ x ∈ c.exceptionTable.toList, covers x pc = false) (hlocks : meth.locks = false) (hcell : H[q]? = some ce) (hv : ce.vm = .none) (hcl : s.vm.findClass E = some ce.cls)
    (hx : ∀ t : State, t.heap = H → s.vm.Alike t.vm → XC E s t) (hf : ∀ z ∈ locs, free z.base) (hc : cells ≤ mc) (hs : slots ≤ ms) :
    vx_W p l e R s m args below meth c H locs cells slots (vx_MQ below Qc XC args s mc ms free) (F0 m pc ls rest) q := by
  intro T hT X
  obtain ⟨st1, hrun, hend, hW, hsm⟩ := X.leaveThrown q (g := F0 m pc ls rest) rfl rfl rfl hout hlocks
  have hcell9 : (T.setFrames (.throwing q :: below)).heap[q]? = some ce := by
    show T.heap[q]? = some ce
    rw [hT]; exact hcell
  exact ⟨_, st1, .threw q, hrun, hend, Or.inr ⟨q, rfl, E, ce, locs, hx _ hT hW.alike, hcell9, hv, hcl, hW, hsm.mono hc hs, hf⟩⟩
theorem vx_frame {U : State} {k n : Nat} (h : s.sameButNew ({ U with vm := s.vm } : State) locs k n) : s.heap.size ≤ U.heap.size ∧ ∀ q : Nat, q < s.heap.size → (∀ z ∈ locs, z.base ≠ q) → U.heap[q]? = s.heap[q]? := by
  obtain ⟨-, h2, -, -, -, h6⟩ := h
  refine ⟨h2, fun q hq hz => ?_⟩
  obtain ⟨c9, e1, e2, e3, e4⟩ := h6 q _ (Array.getElem?_eq_getElem hq)
  have hs : c9.slots = (s.heap[q]).slots := Array.ext_getElem? fun i => e4 i fun hm => hz _ hm rfl
  have h9 : c9 = s.heap[q] := by
    rw [hs] at e2
    exact e2
  have e5 : U.heap[q]? = some c9 := e1
  rw [e5, h9, Array.getElem?_eq_getElem hq]
/-- the words of a throw but the four that speak of the heap -/
def vx_no (w : Cond) : Bool := decide (w ≠ .isRef (.static Bundle.tN "UNASSIGNED_STACK" Bundle.steD)) && decide (w ≠ .isRef (.static Bundle.tN "SUPPRESSED_SENTINEL" Bundle.listD)) && decide (w ≠ .laysStatic Bundle.tN "UNASSIGNED_STACK" Bundle.steD) && decide (w ≠ .laysStatic Bundle.tN "SUPPRESSED_SENTINEL" Bundle.listD)
def vx_at0 (own : String) (ic : Nat) (X : String) (names : List String) : List Cond := (Bundle.ownAtoms0 own ic X names).filter vx_no
def vx_atS (own : String) (ic : Nat) (X : String) (names : List String) : List Cond := (Bundle.ownAtoms own ic X names).filter vx_no
/-- a word that the tables alone decide, or a good one -/
def vx_ot (w : Cond) : Bool := w.onTables || goodWord w
theorem vx_ot_at {args a' : Array Value} {s U : State} {w : Cond} (hW : s.WarmedH U.vm) (hvm : s.vm = U.vm) (hg : vx_ot w = true) (h : w.before args s = true) : w.before a' U = true := by
  simp only [vx_ot, Bool.or_eq_true] at hg
  rcases hg with hg | hg
  · exact va_tabs hg hvm h
  · exact word_at hW (good_of_word hg) h
/-- a list's words: the good ones out of the method's own list, the others by premises of their own -/
theorem vx_hat {args : Array Value} {s : State} {L B : List Cond} (h1 : ∀ w ∈ L.filter goodWord, w.before args s = true) (h2 : ∀ w ∈ L.filter (fun w => !goodWord w), w ∈ B) (h3 : ∀ w ∈ B, w.before args s = true) : ∀ w ∈ L, w.before args s = true := by
  intro w hw
  by_cases g : goodWord w = true
  · exact h1 w (List.mem_filter.mpr ⟨hw, g⟩)
  · refine h3 w (h2 w (List.mem_filter.mpr ⟨hw, ?_⟩))
    show (!goodWord w) = true
    cases hgw : goodWord w
    · rfl
    · exact absurd hgw g
theorem vx_c {args : Array Value} {s : State} {w : Cond} {B : List Cond} (h : w.before args s = true) (t : ∀ w ∈ B, w.before args s = true) : ∀ w' ∈ w :: B, w'.before args s = true := fun w' h' => (List.mem_cons.mp h').elim (fun e => by rw [e]; exact h) (t w')
theorem vx_n {args : Array Value} {s : State} : ∀ w ∈ ([] : List Cond), w.before args s = true := fun _ h => nomatch h
theorem vx_own {args : Array Value} {s : State} {L : List Cond} (h1 : ∀ w ∈ L.filter vx_no, w.before args s = true)
    (hU : (Cond.isRef (.static Bundle.tN "UNASSIGNED_STACK" Bundle.steD)).before args s = true) (hN : (Cond.isRef (.static Bundle.tN "SUPPRESSED_SENTINEL" Bundle.listD)).before args s = true)
    (lU : (Cond.laysStatic Bundle.tN "UNASSIGNED_STACK" Bundle.steD).before args s = true) (lN : (Cond.laysStatic Bundle.tN "SUPPRESSED_SENTINEL" Bundle.listD).before args s = true) : ∀ w ∈ L, w.before args s = true := by
  intro w hw
  by_cases e1 : w = .isRef (.static Bundle.tN "UNASSIGNED_STACK" Bundle.steD)
  · rw [e1]; exact hU
  · by_cases e2 : w = .isRef (.static Bundle.tN "SUPPRESSED_SENTINEL" Bundle.listD)
    · rw [e2]; exact hN
    · by_cases e3 : w = .laysStatic Bundle.tN "UNASSIGNED_STACK" Bundle.steD
      · rw [e3]; exact lU
      · by_cases e4 : w = .laysStatic Bundle.tN "SUPPRESSED_SENTINEL" Bundle.listD
        · rw [e4]; exact lN
        · exact h1 w (List.mem_filter.mpr ⟨hw, by unfold vx_no; rw [decide_eq_true e1, decide_eq_true e2, decide_eq_true e3, decide_eq_true e4]; rfl⟩)
/-- where a static field lies, its class's statics cell in H -/
def vx_L (C n d : String) (A : Nat → Prop) (U : State) (H : Heap) : Prop := ∃ (c : ClassId) (k : Class) (i : Nat) (f : Field) (a : Nat) (cell : Cell), U.vm.findClass C = some c ∧ U.fieldFound? C n d = some (c, k, i, f) ∧ f.isStatic = true ∧ k.statics = some a ∧ H[a]? = some cell ∧ cell.vm.isStatics = true ∧ cell.cls = c ∧ f.slot < cell.slots.size ∧ k.staticTypes[f.slot]? = some f.type ∧ ¬ A a
theorem vx_L.moved {C n d : String} {A : Nat → Prop} {u U : State} {H : Heap} (hvm : u.vm.Alike U.vm) (h : vx_L C n d A u H) : vx_L C n d A U H := by
  obtain ⟨c, k, i, f, a, cell, h1, h2, h3, h4, h5, h6, h7, h8, h9, h10⟩ := h
  obtain ⟨k', hi', he⟩ := State.fieldFound?_setVm hvm h2
  exact ⟨c, k', i, f, a, cell, by rw [hvm.findClass]; exact h1, hi', h3, by rw [he]; exact h4, h5, h6, h7, h8, by rw [he]; exact h9, h10⟩
theorem vx_L.kept {C n d : String} {A : Nat → Prop} {U : State} {H H1 : Heap} (h : vx_L C n d A U H) (hq : ∀ a : Nat, a < H.size → ¬ A a → H1[a]? = H[a]?) : vx_L C n d A U H1 := by
  obtain ⟨c, k, i, f, a, cell, h1, h2, h3, h4, h5, h6, h7, h8, h9, h10⟩ := h
  exact ⟨c, k, i, f, a, cell, h1, h2, h3, h4, by rw [hq a (Array.getElem?_eq_some_iff.mp h5).1 h10]; exact h5, h6, h7, h8, h9, h10⟩
theorem vx_L.narrow {C n d : String} {A B : Nat → Prop} {U : State} {H : Heap} (h : vx_L C n d A U H) (hAB : ∀ q, B q → A q) : vx_L C n d B U H := by
  obtain ⟨c, k, i, f, a, cell, h1, h2, h3, h4, h5, h6, h7, h8, h9, h10⟩ := h
  exact ⟨c, k, i, f, a, cell, h1, h2, h3, h4, h5, h6, h7, h8, h9, fun z => h10 (hAB _ z)⟩
theorem vx_L.word {C n d : String} {A : Nat → Prop} {s : State} {args : Array Value} (h : vx_L C n d A s s.heap) : (Cond.laysStatic C n d).before args s = true := by
  obtain ⟨c, k, i, f, a, cell, h1, h2, h3, h4, h5, h6, h7, h8, h9, -⟩ := h
  show (Cond.laysStatic C n d).holds args s none s [] = true
  exact Cond.laysStatic_of h1 h2 h3 h4 h5 h6 h7 h8 h9
/-- .. and what it holds: null or some reference -/
def vx_Zq (C n d : String) (A : Nat → Prop) (U : State) (H : Heap) : Prop := va_Zq C n d A U H ∧ vx_L C n d A U H
theorem vx_Zq.moved {C n d : String} {A : Nat → Prop} {u U : State} {H : Heap} (hvm : u.vm.Alike U.vm) (h : vx_Zq C n d A u H) : vx_Zq C n d A U H := ⟨va_Zq.moved hvm h.1, vx_L.moved hvm h.2⟩
theorem vx_Zq.kept {C n d : String} {A : Nat → Prop} {U : State} {H H1 : Heap} (h : vx_Zq C n d A U H) (hq : ∀ a : Nat, a < H.size → ¬ A a → H1[a]? = H[a]?) : vx_Zq C n d A U H1 := ⟨va_Zq.kept h.1 hq, vx_L.kept h.2 hq⟩
theorem vx_Zq.narrow {C n d : String} {A B : Nat → Prop} {U : State} {H : Heap} (h : vx_Zq C n d A U H) (hAB : ∀ q, B q → A q) : vx_Zq C n d B U H := ⟨va_Zq.narrow h.1 hAB, vx_L.narrow h.2 hAB⟩
theorem vx_Zqof {args : Array Value} {s : State} {C n d : String} {A : Nat → Prop} (hl : (Cond.laysStatic C n d).before args s = true) (hini : (Cond.initialized C).before args s = true) (h : (Cond.isRef (.static C n d)).before args s = true) (hA : ∀ a : Nat, a < s.heap.size → ¬ A a) : vx_Zq C n d A s s.heap := by
  refine ⟨va_Zqof hl hini h hA, ?_⟩
  obtain ⟨c, k, i, f, a, cell, h1, h2, h3, h4, h5, h6, h7, h8, h9⟩ := Cond.laysStatic_spec hl
  exact ⟨c, k, i, f, a, cell, h1, h2, h3, h4, h5, h6, h7, h8, h9, hA a (Array.getElem?_eq_some_iff.mp h5).1⟩
theorem vx_isRef {C n d : String} {v : Value} {A : Nat → Prop} {s : State} {args : Array Value} (h : va_Z C n d v A s s.heap) (hv : v.isRef = true) : (Cond.isRef (.static C n d)).before args s = true := by
  obtain ⟨cf, kf, fi, f, a, cell, h1, h2, h3, h4, h5, h6, h7, -⟩ := h
  have he : (Term.static C n d).eval args s none [] s = some v := by
    simp [Term.eval, State.fieldNamed?, h1, h2, h4, h5, h6, h7]
  simp only [Cond.before, Cond.holds, Cond.value, he]
  cases v <;> simp_all [Value.isRef]
theorem vx_isRefq {C n d : String} {A : Nat → Prop} {s : State} {args : Array Value} (h : va_Zq C n d A s s.heap) : (Cond.isRef (.static C n d)).before args s = true := by
  rcases h with h | ⟨t, h⟩
  · exact vx_isRef h rfl
  · exact vx_isRef h rfl
/-- the same frame, seen from here: as if the method were called anew in this heap -/
theorem vx_rebase {T : State} (X : Stand p l e R s m args below meth c T locs cells slots) {R' : Room} (hf : R'.frames ≤ R.frames) (hl : R'.locals ≤ R.locals) (hc : cells + R'.cells ≤ R.cells) (hs : slots + R'.slots ≤ R.slots) :
    Stand p l e R' ((T.setVm s.vm).setFrames (.invoking m args :: below)) m args below meth c T [] 0 0 := by
  have htop : (T.setVm s.vm).topJava?.isSome := X.here.top
  have hF : ((T.setVm s.vm).setFrames (.invoking m args :: below)).frames = .invoking m args :: below := State.frames_setFrames _ (State.cur_lt_of_top htop)
  obtain ⟨g₀, hg0⟩ := Option.isSome_iff_exists.mp htop
  obtain ⟨r, hr⟩ := State.topJava?_eq_some.mp hg0
  have hl9 : e.platform.stackLimits (T.setVm s.vm).me = e.platform.stackLimits s.me := X.limits
  have hb9 : (T.setVm s.vm).me.stackBytes = s.me.stackBytes := X.bytes
  refine ⟨X.admits, X.cas, X.clock, hF, ?_, X.hears, X.method, X.code, X.here, X.tail, X.warmed, ?_, ?_, ?_⟩
  · have h := X.room
    have hU : ((T.setVm s.vm).setFrames (.invoking m args :: below)).localsInUse = s.localsInUse := by
      rw [State.localsInUse_invoking hF (meth := meth) (c := c) X.method X.code, State.localsInUse_invoking X.frames X.method X.code]
    simp only [State.hasRoom, Bool.and_eq_true, decide_eq_true_eq] at h ⊢
    obtain ⟨⟨⟨⟨h1, h2, h3, h4, h5, h6⟩, h7⟩, h8⟩, h9⟩ := h
    rw [X.frames, List.length_cons] at h2 h3
    have q1 := X.heapSize
    have q2 := X.used
    simp only [hF, hU, List.length_cons, State.stackLimits_setFrames, State.stackBytes_setFrames, hl9, hb9]
    refine ⟨⟨⟨⟨by omega, by omega, by omega, by omega, by omega, h6⟩, ?_⟩, ?_⟩, X.book⟩
    · show T.heap.size + R'.cells ≤ e.platform.maxCells
      omega
    · show T.slotsUsed + R'.slots ≤ e.platform.maxSlots
      omega
  · rw [State.stackLimits_setFrames]; rfl
  · rw [State.stackBytes_setFrames]; rfl
  · refine ⟨?_, Nat.le_refl _, Nat.le_refl _, ?_, ?_, fun a c9 h9 => ⟨c9, h9, rfl, rfl, fun _ _ => rfl⟩⟩
    · obtain ⟨t, ht, -⟩ := State.frames_cons hr
      show T.setVm s.vm = { ((T.setVm s.vm).setFrames (.invoking m args :: below)).setFrames (T.setVm s.vm).frames with heap := T.heap, slotsUsed := T.slotsUsed }
      rw [State.setFrames_setFrames, State.setFrames_self ht]
      rfl
    · show T.slotsUsed = T.slotsUsed + ((T.heap.toList.drop T.heap.size).map (·.slots.size)).sum
      rw [List.drop_eq_nil_of_le (Nat.le_of_eq Array.length_toList)]
      rfl
    · show ((T.heap.toList.drop T.heap.size).map (·.slots.size)).sum ≤ 0
      rw [List.drop_eq_nil_of_le (Nat.le_of_eq Array.length_toList)]
      exact Nat.le_refl _
/-- 'throw new E()': new; dup; invokespecial; athrow -/
theorem vx_throw0 {cc : ByteArray} {pc : Nat} (hexec : p.tables.exec = Jvm.exec) (hb : c.code = cc) (hl : l.stackTraces = false) {own cls : String} {names : List String} {ik ic mc ms : Nat} {A : Nat → Prop}
    (hown : s.vm.findClass own = some m.cls) (hcls : Bundle.fit cls = true) (hnames : ∀ n ∈ names, Bundle.fit n = true)
    (hk : (Cond.classLink own ik cls).before args s = true) (hini : (Cond.initialized cls).before args s = true) (hat : ∀ w ∈ vx_at0 own ic cls names, w.before args s = true)
    (hgood : ∀ w ∈ Cond.classLink own ik cls :: Cond.initialized cls :: vx_at0 own ic cls names, vx_ot w = true)
    (hU : vx_Zq Bundle.tN "UNASSIGNED_STACK" Bundle.steD A s s.heap) (hN : vx_Zq Bundle.tN "SUPPRESSED_SENTINEL" Bundle.listD A s s.heap) (hS : va_S A s.heap H locs) (hsize : ls.size = c.maxLocals)
    (d0 : decode cc pc = .ok (.new ik, 3)) (d3 : decode cc (pc + 3) = .ok (.dup, 1)) (d4 : decode cc (pc + 4) = .ok (.invokespecial ic, 3)) (d7 : decode cc (pc + 7) = .ok (.athrow, 1))
    (hout : ∀ x ∈ c.exceptionTable.toList, covers x (pc + 7) = false)
    (hRframes : names.length + 3 < R.frames) (hRlocals : (rest.map fun v => v.category).sum + (13 * (names.length + 1) + 42) ≤ R.locals) (hRcells : cells + 1 ≤ R.cells) (hRslots : slots + 6 ≤ R.slots) (hlocks : meth.locks = false)
    (hx : ∀ t : State, s.vm.Alike t.vm → H.size ≤ t.heap.size → (∀ q : Nat, q < H.size → t.heap[q]? = H[q]?) → XC cls s t)
    (hf : ∀ z ∈ locs, free z.base) (hc : cells + 1 ≤ mc) (hs : slots + 6 ≤ ms) :
    W p l e R s m args below meth c H locs cells slots (vx_MQ below Qc XC args s mc ms free) (F0 m pc ls rest) := by
  intro T hT X
  have htr : e.platform.stackTraces = false := (show e.platform.stackTraces = l.stackTraces by rw [X.admits.platform]).trans hl
  have Y := vx_rebase X (R' := { frames := R.frames, locals := R.locals, cells := 1, slots := 6 }) (Nat.le_refl _) (Nat.le_refl _) hRcells hRslots
  obtain ⟨s', hA⟩ : ∃ z, z = (T.setVm s.vm).setFrames (.invoking m args :: below) := ⟨_, rfl⟩
  rw [← hA] at Y
  have hvm : s'.vm = s.vm := by rw [hA]; rfl
  have hhp : s'.heap = H := by rw [hA]; exact hT
  have hW0 : s.WarmedH s'.vm := by rw [hvm]; exact State.WarmedH.refl s
  have hat' : ∀ w ∈ vx_at0 own ic cls names, w.before args s' = true := fun w hw => vx_ot_at hW0 hvm.symm (hgood w (List.mem_cons_of_mem _ (List.mem_cons_of_mem _ hw))) (hat w hw)
  have hk' : (Cond.classLink own ik cls).before args s' = true := vx_ot_at hW0 hvm.symm (hgood _ List.mem_cons_self) hk
  have hini' : (Cond.initialized cls).before args s' = true := vx_ot_at hW0 hvm.symm (hgood _ (List.mem_cons_of_mem _ List.mem_cons_self)) hini
  have hU' : vx_Zq Bundle.tN "UNASSIGNED_STACK" Bundle.steD A s' s'.heap := by rw [hhp]; exact vx_Zq.moved hW0.alike (hU.kept hS.2.1)
  have hN' : vx_Zq Bundle.tN "SUPPRESSED_SENTINEL" Bundle.listD A s' s'.heap := by rw [hhp]; exact vx_Zq.moved hW0.alike (hN.kept hS.2.1)
  have h : ∀ w ∈ Bundle.ownAtoms0 own ic cls names, w.before args s' = true := vx_own hat' (vx_isRefq hU'.1) (vx_isRefq hN'.1) hU'.2.word hN'.2.word
  have hown' : s'.vm.findClass own = some m.cls := by rw [hvm]; exact hown
  have hins : (Cond.instantiable cls 6).before args s' = true := h _ (by simp [Bundle.ownAtoms0])
  obtain ⟨vm₁, cX, kX, hfX, hkX, -, -, X₁, st1⟩ := Y.newCold hexec (own := own) (C := cls) (index := ik) (n := 6) hown' hk' hins hini'
    (g := F0 m pc ls rest) rfl (by rw [hb]; exact d0) (Nat.le_refl _) (Nat.le_refl _)
  generalize hT1 : (T.setVm vm₁).pushCell { cls := cX, slots := kX.instanceTypes.map defaultValue, vm := .none } = T1 at X₁ st1
  have hcat : (Value.ref T.heap.size).category = 1 := rfl
  have hcellA : T1.heap[T.heap.size]? = some (freshCell cX kX) := by rw [← hT1]; exact State.heap_pushCell_size _ _
  have d3' : decode c.code (pc + 3) = .ok (.dup, 1) := by rw [hb]; exact d3
  obtain ⟨U, hsteps, hrun, hend, hW, hsame, ce, hce, hO⟩ := X₁.ctorThrow0 hexec htr (own := own) (cls := cls) (names := names) (ic := ic) hown' hcls hnames h (fun x hx => nomatch hx) hfX hkX hcellA (by rw [hhp, hT]; exact Nat.le_refl _)
    (g := { method := m, pc := pc + 4, locals := ls, stack := .ref T.heap.size :: .ref T.heap.size :: rest, locked := none }) rfl hsize rfl rfl (rest := rest) rfl
    (by rw [hb]; exact d4) (by rw [hb]; exact d7) hout hRframes (by simp only [List.map_cons, List.sum_cons, hcat]; omega) hlocks
  obtain ⟨f1, f2⟩ := vx_frame hsame
  rw [hhp] at f1 f2
  have hWs : s.WarmedH U.vm := State.WarmedH.trans hW0 hW
  have hcl : s.vm.findClass cls = some ce.cls := by
    have h9 := hO.cls
    rw [hvm] at h9
    exact h9
  have hall : s.sameButNew ({ U with vm := s.vm } : State) locs mc ms := by
    subst hA
    obtain ⟨e1, e2⟩ := hsame
    rw [State.setFrames_setFrames] at e1
    have h2 : (T.setVm s.vm).sameButNew ({ U with vm := s.vm } : State) [] (0 + 1) (0 + 6) := ⟨e1, e2⟩
    have h3 := X.same.trans h2
    rw [List.append_nil] at h3
    exact h3.mono hc hs
  refine ⟨U, ?_, .threw T.heap.size, hrun, hend, Or.inr ⟨T.heap.size, rfl, cls, ce, locs, hx U hWs.alike f1 (fun q hq => f2 q hq (fun z hz => nomatch hz)), hce, hO.vm, hcl, hWs, hall, hf⟩⟩
  refine st1 _ ?_
  show Steps p.tables e below (T1.setTop { method := m, pc := pc + 3, locals := ls, stack := .ref T.heap.size :: rest, locked := none }) _
  jvm_step X₁.here [X₁.here.top, hexec, d3', Value.category]
  exact hsteps
/-- 'throw new E("text")': new; dup; ldc; invokespecial; athrow -/
theorem vx_throwS {cc : ByteArray} {pc : Nat} (hexec : p.tables.exec = Jvm.exec) (hb : c.code = cc) (hl : l.stackTraces = false) {own cls text : String} {names : List String} {ik is ic mc ms sa : Nat} {A : Nat → Prop}
    (hown : s.vm.findClass own = some m.cls) (hcls : Bundle.fit cls = true) (hnames : ∀ n ∈ names, Bundle.fit n = true)
    (hk : (Cond.classLink own ik cls).before args s = true) (hini : (Cond.initialized cls).before args s = true) (hstr : vk_R own is text sa s) (hat : ∀ w ∈ vx_atS own ic cls names, w.before args s = true)
    (hgood : ∀ w ∈ Cond.classLink own ik cls :: Cond.initialized cls :: vx_atS own ic cls names, vx_ot w = true)
    (hU : vx_Zq Bundle.tN "UNASSIGNED_STACK" Bundle.steD A s s.heap) (hN : vx_Zq Bundle.tN "SUPPRESSED_SENTINEL" Bundle.listD A s s.heap) (hS : va_S A s.heap H locs) (hsize : ls.size = c.maxLocals)
    (d0 : decode cc pc = .ok (.new ik, 3)) (d3 : decode cc (pc + 3) = .ok (.dup, 1)) (d4 : decode cc (pc + 4) = .ok (.ldc is, 2)) (d6 : decode cc (pc + 6) = .ok (.invokespecial ic, 3)) (d9 : decode cc (pc + 9) = .ok (.athrow, 1))
    (hout : ∀ x ∈ c.exceptionTable.toList, covers x (pc + 9) = false)
    (hRframes : names.length + 3 < R.frames) (hRlocals : (rest.map fun v => v.category).sum + (13 * (names.length + 1) + 43) ≤ R.locals) (hRcells : cells + 1 ≤ R.cells) (hRslots : slots + 6 ≤ R.slots) (hlocks : meth.locks = false)
    (hx : ∀ t : State, s.vm.Alike t.vm → H.size ≤ t.heap.size → (∀ q : Nat, q < H.size → t.heap[q]? = H[q]?) → XC cls s t)
    (hf : ∀ z ∈ locs, free z.base) (hc : cells + 1 ≤ mc) (hs : slots + 6 ≤ ms) :
    W p l e R s m args below meth c H locs cells slots (vx_MQ below Qc XC args s mc ms free) (F0 m pc ls rest) := by
  intro T hT X
  have htr : e.platform.stackTraces = false := (show e.platform.stackTraces = l.stackTraces by rw [X.admits.platform]).trans hl
  have Y := vx_rebase X (R' := { frames := R.frames, locals := R.locals, cells := 1, slots := 6 }) (Nat.le_refl _) (Nat.le_refl _) hRcells hRslots
  obtain ⟨s', hA⟩ : ∃ z, z = (T.setVm s.vm).setFrames (.invoking m args :: below) := ⟨_, rfl⟩
  rw [← hA] at Y
  have hvm : s'.vm = s.vm := by rw [hA]; rfl
  have hhp : s'.heap = H := by rw [hA]; exact hT
  have hW0 : s.WarmedH s'.vm := by rw [hvm]; exact State.WarmedH.refl s
  have hat' : ∀ w ∈ vx_atS own ic cls names, w.before args s' = true := fun w hw => vx_ot_at hW0 hvm.symm (hgood w (List.mem_cons_of_mem _ (List.mem_cons_of_mem _ hw))) (hat w hw)
  have hk' : (Cond.classLink own ik cls).before args s' = true := vx_ot_at hW0 hvm.symm (hgood _ List.mem_cons_self) hk
  have hini' : (Cond.initialized cls).before args s' = true := vx_ot_at hW0 hvm.symm (hgood _ (List.mem_cons_of_mem _ List.mem_cons_self)) hini
  have hU' : vx_Zq Bundle.tN "UNASSIGNED_STACK" Bundle.steD A s' s'.heap := by rw [hhp]; exact vx_Zq.moved hW0.alike (hU.kept hS.2.1)
  have hN' : vx_Zq Bundle.tN "SUPPRESSED_SENTINEL" Bundle.listD A s' s'.heap := by rw [hhp]; exact vx_Zq.moved hW0.alike (hN.kept hS.2.1)
  have h : ∀ w ∈ Bundle.ownAtoms own ic cls names, w.before args s' = true := vx_own hat' (vx_isRefq hU'.1) (vx_isRefq hN'.1) hU'.2.word hN'.2.word
  have hown' : s'.vm.findClass own = some m.cls := by rw [hvm]; exact hown
  have hins : (Cond.instantiable cls 6).before args s' = true := h _ (by simp [Bundle.ownAtoms])
  obtain ⟨vm₁, cX, kX, hfX, hkX, -, -, X₁, st1⟩ := Y.newCold hexec (own := own) (C := cls) (index := ik) (n := 6) hown' hk' hins hini'
    (g := F0 m pc ls rest) rfl (by rw [hb]; exact d0) (Nat.le_refl _) (Nat.le_refl _)
  generalize hT1 : (T.setVm vm₁).pushCell { cls := cX, slots := kX.instanceTypes.map defaultValue, vm := .none } = T1 at X₁ st1
  have hcat : (Value.ref T.heap.size).category = 1 := rfl
  have hcellA : T1.heap[T.heap.size]? = some (freshCell cX kX) := by rw [← hT1]; exact State.heap_pushCell_size _ _
  have d3' : decode c.code (pc + 3) = .ok (.dup, 1) := by rw [hb]; exact d3
  have d4' : decode c.code (pc + 4) = .ok (.ldc is, 2) := by rw [hb]; exact d4
  have hstr' : vk_R own is text sa s' := vk_R.warm hW0 hstr
  obtain ⟨U, hsteps, hrun, hend, hW, hsame, ce, hce, hO⟩ := X₁.ctorThrowS hexec htr (own := own) (cls := cls) (names := names) (ic := ic) hown' hcls hnames h (fun x hx => nomatch hx) hfX hkX hcellA (by rw [hhp, hT]; exact Nat.le_refl _) (msg := .ref sa) rfl
    (g := { method := m, pc := pc + 6, locals := ls, stack := .ref sa :: .ref T.heap.size :: .ref T.heap.size :: rest, locked := none }) rfl hsize rfl rfl (rest := rest) rfl
    (by rw [hb]; exact d6) (by rw [hb]; exact d9) hout hRframes (by simp only [List.map_cons, List.sum_cons, hcat]; omega) hlocks
  obtain ⟨f1, f2⟩ := vx_frame hsame
  rw [hhp] at f1 f2
  have hWs : s.WarmedH U.vm := State.WarmedH.trans hW0 hW
  have hcl : s.vm.findClass cls = some ce.cls := by
    have h9 := hO.cls
    rw [hvm] at h9
    exact h9
  have hall : s.sameButNew ({ U with vm := s.vm } : State) locs mc ms := by
    subst hA
    obtain ⟨e1, e2⟩ := hsame
    rw [State.setFrames_setFrames] at e1
    have h2 : (T.setVm s.vm).sameButNew ({ U with vm := s.vm } : State) [] (0 + 1) (0 + 6) := ⟨e1, e2⟩
    have h3 := X.same.trans h2
    rw [List.append_nil] at h3
    exact h3.mono hc hs
  refine ⟨U, ?_, .threw T.heap.size, hrun, hend, Or.inr ⟨T.heap.size, rfl, cls, ce, locs, hx U hWs.alike f1 (fun q hq => f2 q hq (fun z hz => nomatch hz)), hce, hO.vm, hcl, hWs, hall, hf⟩⟩
  refine st1 _ ?_
  show Steps p.tables e below (T1.setTop { method := m, pc := pc + 3, locals := ls, stack := .ref T.heap.size :: rest, locked := none }) _
  jvm_step X₁.here [X₁.here.top, hexec, d3', Value.category]
  exact X₁.ldcString hexec (own := own) (text := text) (index := is) (a := sa) hown' hstr'.1 hstr'.2
    (g := { method := m, pc := pc + 4, locals := ls, stack := .ref T.heap.size :: .ref T.heap.size :: rest, locked := none }) rfl d4' _ hsteps
/-- 'throw new E("text")', the text by a wide index -/
theorem vx_throwSW {cc : ByteArray} {pc : Nat} (hexec : p.tables.exec = Jvm.exec) (hb : c.code = cc) (hl : l.stackTraces = false) {own cls text : String} {names : List String} {ik is ic mc ms sa : Nat} {A : Nat → Prop}
    (hown : s.vm.findClass own = some m.cls) (hcls : Bundle.fit cls = true) (hnames : ∀ n ∈ names, Bundle.fit n = true)
    (hk : (Cond.classLink own ik cls).before args s = true) (hini : (Cond.initialized cls).before args s = true) (hstr : vk_R own is text sa s) (hat : ∀ w ∈ vx_atS own ic cls names, w.before args s = true)
    (hgood : ∀ w ∈ Cond.classLink own ik cls :: Cond.initialized cls :: vx_atS own ic cls names, vx_ot w = true)
    (hU : vx_Zq Bundle.tN "UNASSIGNED_STACK" Bundle.steD A s s.heap) (hN : vx_Zq Bundle.tN "SUPPRESSED_SENTINEL" Bundle.listD A s s.heap) (hS : va_S A s.heap H locs) (hsize : ls.size = c.maxLocals)
    (d0 : decode cc pc = .ok (.new ik, 3)) (d3 : decode cc (pc + 3) = .ok (.dup, 1)) (d4 : decode cc (pc + 4) = .ok (.ldc_w is, 3)) (d7 : decode cc (pc + 7) = .ok (.invokespecial ic, 3)) (d10 : decode cc (pc + 10) = .ok (.athrow, 1))
    (hout : ∀ x ∈ c.exceptionTable.toList, covers x (pc + 10) = false)
    (hRframes : names.length + 3 < R.frames) (hRlocals : (rest.map fun v => v.category).sum + (13 * (names.length + 1) + 43) ≤ R.locals) (hRcells : cells + 1 ≤ R.cells) (hRslots : slots + 6 ≤ R.slots) (hlocks : meth.locks = false)
    (hx : ∀ t : State, s.vm.Alike t.vm → H.size ≤ t.heap.size → (∀ q : Nat, q < H.size → t.heap[q]? = H[q]?) → XC cls s t)
    (hf : ∀ z ∈ locs, free z.base) (hc : cells + 1 ≤ mc) (hs : slots + 6 ≤ ms) :
    W p l e R s m args below meth c H locs cells slots (vx_MQ below Qc XC args s mc ms free) (F0 m pc ls rest) := by
  intro T hT X
  have htr : e.platform.stackTraces = false := (show e.platform.stackTraces = l.stackTraces by rw [X.admits.platform]).trans hl
  have Y := vx_rebase X (R' := { frames := R.frames, locals := R.locals, cells := 1, slots := 6 }) (Nat.le_refl _) (Nat.le_refl _) hRcells hRslots
  obtain ⟨s', hA⟩ : ∃ z, z = (T.setVm s.vm).setFrames (.invoking m args :: below) := ⟨_, rfl⟩
  rw [← hA] at Y
  have hvm : s'.vm = s.vm := by rw [hA]; rfl
  have hhp : s'.heap = H := by rw [hA]; exact hT
  have hW0 : s.WarmedH s'.vm := by rw [hvm]; exact State.WarmedH.refl s
  have hat' : ∀ w ∈ vx_atS own ic cls names, w.before args s' = true := fun w hw => vx_ot_at hW0 hvm.symm (hgood w (List.mem_cons_of_mem _ (List.mem_cons_of_mem _ hw))) (hat w hw)
  have hk' : (Cond.classLink own ik cls).before args s' = true := vx_ot_at hW0 hvm.symm (hgood _ List.mem_cons_self) hk
  have hini' : (Cond.initialized cls).before args s' = true := vx_ot_at hW0 hvm.symm (hgood _ (List.mem_cons_of_mem _ List.mem_cons_self)) hini
  have hU' : vx_Zq Bundle.tN "UNASSIGNED_STACK" Bundle.steD A s' s'.heap := by rw [hhp]; exact vx_Zq.moved hW0.alike (hU.kept hS.2.1)
  have hN' : vx_Zq Bundle.tN "SUPPRESSED_SENTINEL" Bundle.listD A s' s'.heap := by rw [hhp]; exact vx_Zq.moved hW0.alike (hN.kept hS.2.1)
  have h : ∀ w ∈ Bundle.ownAtoms own ic cls names, w.before args s' = true := vx_own hat' (vx_isRefq hU'.1) (vx_isRefq hN'.1) hU'.2.word hN'.2.word
  have hown' : s'.vm.findClass own = some m.cls := by rw [hvm]; exact hown
  have hins : (Cond.instantiable cls 6).before args s' = true := h _ (by simp [Bundle.ownAtoms])
  obtain ⟨vm₁, cX, kX, hfX, hkX, -, -, X₁, st1⟩ := Y.newCold hexec (own := own) (C := cls) (index := ik) (n := 6) hown' hk' hins hini'
    (g := F0 m pc ls rest) rfl (by rw [hb]; exact d0) (Nat.le_refl _) (Nat.le_refl _)
  generalize hT1 : (T.setVm vm₁).pushCell { cls := cX, slots := kX.instanceTypes.map defaultValue, vm := .none } = T1 at X₁ st1
  have hcat : (Value.ref T.heap.size).category = 1 := rfl
  have hcellA : T1.heap[T.heap.size]? = some (freshCell cX kX) := by rw [← hT1]; exact State.heap_pushCell_size _ _
  have d3' : decode c.code (pc + 3) = .ok (.dup, 1) := by rw [hb]; exact d3
  have d4' : decode c.code (pc + 4) = .ok (.ldc_w is, 3) := by rw [hb]; exact d4
  have hstr' : vk_R own is text sa s' := vk_R.warm hW0 hstr
  obtain ⟨U, hsteps, hrun, hend, hW, hsame, ce, hce, hO⟩ := X₁.ctorThrowS hexec htr (own := own) (cls := cls) (names := names) (ic := ic) hown' hcls hnames h (fun x hx => nomatch hx) hfX hkX hcellA (by rw [hhp, hT]; exact Nat.le_refl _) (msg := .ref sa) rfl
    (g := { method := m, pc := pc + 7, locals := ls, stack := .ref sa :: .ref T.heap.size :: .ref T.heap.size :: rest, locked := none }) rfl hsize rfl rfl (rest := rest) rfl
    (by rw [hb]; exact d7) (by rw [hb]; exact d10) hout hRframes (by simp only [List.map_cons, List.sum_cons, hcat]; omega) hlocks
  obtain ⟨f1, f2⟩ := vx_frame hsame
  rw [hhp] at f1 f2
  have hWs : s.WarmedH U.vm := State.WarmedH.trans hW0 hW
  have hcl : s.vm.findClass cls = some ce.cls := by
    have h9 := hO.cls
    rw [hvm] at h9
    exact h9
  have hall : s.sameButNew ({ U with vm := s.vm } : State) locs mc ms := by
    subst hA
    obtain ⟨e1, e2⟩ := hsame
    rw [State.setFrames_setFrames] at e1
    have h2 : (T.setVm s.vm).sameButNew ({ U with vm := s.vm } : State) [] (0 + 1) (0 + 6) := ⟨e1, e2⟩
    have h3 := X.same.trans h2
    rw [List.append_nil] at h3
    exact h3.mono hc hs
  refine ⟨U, ?_, .threw T.heap.size, hrun, hend, Or.inr ⟨T.heap.size, rfl, cls, ce, locs, hx U hWs.alike f1 (fun q hq => f2 q hq (fun z hz => nomatch hz)), hce, hO.vm, hcl, hWs, hall, hf⟩⟩
  refine st1 _ ?_
  show Steps p.tables e below (T1.setTop { method := m, pc := pc + 3, locals := ls, stack := .ref T.heap.size :: rest, locked := none }) _
  jvm_step X₁.here [X₁.here.top, hexec, d3', Value.category]
  exact X₁.ldcStringW hexec (own := own) (text := text) (index := is) (a := sa) hown' hstr'.1 hstr'.2
    (g := { method := m, pc := pc + 4, locals := ls, stack := .ref T.heap.size :: .ref T.heap.size :: rest, locked := none }) rfl d4' _ hsteps
end Ends
section Bodies
variable {l : Launch}
theorem vx_ofW {y : MethodName} {ws ws' : List Cond} {rm : Room} {Pc : Array Value → State → Prop} {Qc : Array Value → State → Outcome → State → Prop} {XC : String → State → State → Prop} {mc ms : Nat} {free : Addr → Prop} {cc : ByteArray} {maxL : Nat} {ret : Option FieldType}
    (hy : plainName y.cls = true) (hw : ws = Cond.code y cc maxL ret :: ws')
    (body : ∀ p e s m args below meth c s₁, BodyLoose p l y (headSpec ws rm) cc maxL ret e s m args below meth c s₁ → c.maxLocals = maxL → (∀ x ∈ c.exceptionTable.toList, False) → Pc args s →
      W p l e (headSpec ws rm).room s m args below meth c s.heap [] 0 0 (vx_MQ below Qc XC args s mc ms free) (entryFrame m args maxL)) : vx_Met l y ws rm Pc Qc XC mc ms free := by
  refine MetFree.of_bodyS (code := cc) (maxLocals := maxL) (ret := ret) hy ?_ ?_
  · intro args s m h hn
    obtain ⟨meth, c, h1, h2, h3, h4, h5, h6, -, -⟩ := Cond.code_spec hn (atoms_spec (ws := ws) h _ (by rw [hw]; exact List.mem_cons_self))
    exact ⟨meth, c, h1, h2, h3, h4, h5, h6⟩
  · intro p e s m args below meth c s₁ B hml hP _
    have hh0 : s₁.heap = s.heap := by rw [B.state]; rfl
    have ht : ∀ x ∈ c.exceptionTable.toList, False := by
      obtain ⟨meth9, c9, h1, h2, -, -, -, -, h7, -⟩ := Cond.code_spec B.named (atoms_spec (ws := ws) B.pre _ (by rw [hw]; exact List.mem_cons_self))
      cases Option.some.inj (h1.symm.trans B.method)
      cases Option.some.inj (h2.symm.trans (Stand.of_body B).code)
      intro x hx
      rw [Array.isEmpty_iff.mp h7] at hx
      cases hx
    obtain ⟨t, a1, o, b1, b2, b3⟩ := body p e s m args below meth c s₁ B hml ht hP s₁ hh0 (Stand.of_body B)
    exact ⟨t, o, a1, b1, b2, b3⟩
/-- the table of a body with handlers -/
theorem vx_table {p : Program} {x y : MethodName} {S : Spec} {cc bytes : ByteArray} {maxL maxL' : Nat} {ret ret' : Option FieldType} {e : Env} {s s₁ : State} {m : MethodId} {args : Array Value} {below : List Frame} {meth : Method} {c : Code} {hh : List (Nat × Nat × Nat × Nat)}
    (B : BodyLoose p l y S cc maxL ret e s m args below meth c s₁) (h : (Cond.codeWith y bytes maxL' ret' hh).before args s = true) : c.exceptionTable.toList = tableOf hh := by
  obtain ⟨m9, meth9, c9, hn9, h1, h2, -, -, h6, -⟩ := Cond.codeWith_spec h
  cases Option.some.inj (hn9.symm.trans B.named)
  cases Option.some.inj (h1.symm.trans B.method)
  cases Option.some.inj (h2.symm.trans (Stand.of_body B).code)
  rw [← h6, table_eq]
end Bodies
end VXA
/-! ===== END ===== -/
/-! ===== BEGIN a static call of a method with an exception table ===== -/
section VXS
variable {p : Program} {l : Launch} {e : Env} {R : Room} {s : State} {m : MethodId} {args : Array Value} {below : List Frame} {meth : Method} {c : Code} {T : State} {H : Heap} {locs : List Loc} {cells slots : Nat}
abbrev vx_CSW (R : Room) (s : State) (args : Array Value) (own : String) (index : Nat) (y : MethodName) (bytes : ByteArray) (maxL : Nat) (ret : Option FieldType) (hh : List (Nat × Nat × Nat × Nat)) (ws : List Cond) (rm : Room) (mc ms n : Nat) : Prop :=
  (rm.cells = mc ∧ rm.slots = ms ∧ rm.frames + 1 ≤ R.frames ∧ 8 + (maxL + 11) + rm.locals ≤ R.locals ∧ (∀ w ∈ ws, ∀ (a' : Array Value) (U : State), s.WarmedH U.vm → w.before a' U = true) ∧ Cond.codeWith y bytes maxL ret hh ∈ ws) ∧
  (Cond.codeWith y bytes maxL ret hh).before args s = true ∧ (Cond.initialized y.cls).before args s = true ∧ (y.cls ≠ "java/lang/invoke/MethodHandle" ∧ y.cls ≠ "java/lang/invoke/VarHandle") ∧
  (∀ sig, parseMethodDescriptor y.desc = some sig → n = sig.parameters.length) ∧ (Cond.methodLink own index y).before args s = true ∧ (Cond.static y).before args s = true
theorem vx_cwSW {own : String} {index maxL mc ms : Nat} {y : MethodName} {bytes : ByteArray} {ret : Option FieldType} {hh : List (Nat × Nat × Nat × Nat)} {Ts ws ws' : List Cond} {rm : Room} (n : Nat) (ht : ∀ w ∈ Ts, w.before args s = true) (hT : GoodIn Ts (va_wsS own index y ws)) (hw : ws = Cond.codeWith y bytes maxL ret hh :: ws') (hrc : rm.cells = mc) (hrs : rm.slots = ms)
    (hd : y.cls ≠ "java/lang/invoke/MethodHandle" ∧ y.cls ≠ "java/lang/invoke/VarHandle" ∧ (parseMethodDescriptor y.desc).map (fun d => d.parameters.length) = some n) (hR : rm.frames + 1 ≤ R.frames ∧ 8 + (maxL + 11) + rm.locals ≤ R.locals) :
    vx_CSW R s args own index y bytes maxL ret hh ws rm mc ms n := by
  have ok : ∀ w ∈ va_wsS own index y ws, w.before args s = true := fun w h => ht w (hT w h).1
  have hG : GoodIn Ts ws := fun w h => hT w (by unfold va_wsS; exact List.mem_append_right _ h)
  have hc : Cond.codeWith y bytes maxL ret hh ∈ ws := by rw [hw]; exact List.mem_cons_self
  refine ⟨⟨hrc, hrs, hR.1, hR.2, pay_in ht hG, hc⟩, ht _ (hG _ hc).1, ok _ (by simp [va_wsS]), ⟨hd.1, hd.2.1⟩, fun sig h => ?_, ok _ (by simp [va_wsS]), ok _ (by simp [va_wsS])⟩
  have h2 := hd.2.2
  rw [h] at h2
  exact (Option.some.inj h2).symm
theorem vx_callSW (X : Stand p l e R s m args below meth c T locs cells slots) (hexec : p.tables.exec = Jvm.exec) {own : String} {index : Nat} {y : MethodName} {bytes : ByteArray} {maxL : Nat} {ret : Option FieldType} {hh : List (Nat × Nat × Nat × Nat)}
    (hown : s.vm.findClass own = some m.cls) (hlink : (Cond.methodLink own index y).before args s = true) (hstat : (Cond.static y).before args s = true) (hinit : (Cond.initialized y.cls).before args s = true)
    (hcode : (Cond.codeWith y bytes maxL ret hh).before args s = true) (hy : y.cls ≠ "java/lang/invoke/MethodHandle" ∧ y.cls ≠ "java/lang/invoke/VarHandle")
    {W9 : Nat} {Pre : Pt → Array Value → Prop} {Post : Pt → Array Value → Option Value → Pt → Prop} (hK : Back l R p e below s args y 3 W9 Pre Post)
    {g : JFrame} (hg : g.method = m) (hsize : g.locals.size = c.maxLocals) {argsL rest : List Value} (hlen : ∀ sig, parseMethodDescriptor y.desc = some sig → argsL.length = sig.parameters.length)
    (hstack : g.stack = argsL.reverse ++ rest) (hW : 2 * g.monitorRoom + (rest.map fun v => v.category).sum ≤ W9) (hdg : decode c.code g.pc = .ok (.invokestatic index, 3))
    (hpre : ∀ vm₁, s.WarmedH vm₁ → Pre ⟨T.setVm vm₁, locs, cells, slots⟩ argsL.toArray) :
    ∃ (v : Option Value) (vm₁ : Vm) (B : Pt), s.WarmedH vm₁ ∧ Stand p l e R s m args below meth c B.U B.locs B.cells B.slots ∧ Post ⟨T.setVm vm₁, locs, cells, slots⟩ argsL.toArray v B ∧
      ∀ target, Steps p.tables e below (B.U.setTop { g with pc := g.pc + 3, stack := v.toList ++ rest }) target → Steps p.tables e below (T.setTop g) target := by
  obtain ⟨mk, methM, cM, hnamed, hmethM, -, -, -, -, -, -, hsigM⟩ := Cond.codeWith_spec hcode
  have hstatic : methM.isStatic = true := Cond.static_spec hnamed hmethM hstat
  obtain ⟨kP, hkP, -⟩ := className_of_methodNamed hnamed
  have hinitP : kP.init = .initialized := Cond.initialized_spec (findClass_of_methodNamed hnamed) hkP hinit
  obtain ⟨vm₁, X₁, hstep₁⟩ := X.invokestatic hexec hown hlink hnamed hmethM hstatic hkP hinitP hy (g := g) hg (argsL := argsL) (rest := rest) (hlen _ hsigM) hstack hdg
  obtain ⟨v, B, X', hpost, hsteps⟩ := hK m meth c ⟨T.setVm vm₁, locs, cells, slots⟩ { g with stack := rest } (.invokestatic index) mk argsL.toArray X₁ hg hsize hdg hW (X₁.named hnamed) (hpre vm₁ X₁.warmed)
  exact ⟨v, vm₁, B, X₁.warmed, X', hpost, fun target h => hstep₁ _ fun acts => by rw [doInvoke_state]; exact hsteps.trans h⟩
theorem vx_runSW {y : MethodName} {bytes cc : ByteArray} {maxL nL mc ms n index : Nat} {ret : Option FieldType} {hh : List (Nat × Nat × Nat × Nat)} {ws : List Cond} {rm : Room} {Pc : Array Value → State → Prop} {Qc : Array Value → State → Outcome → State → Prop} {free : Addr → Prop} {Ts : List Cond} {own : String} {As rest : List Value} {g : JFrame}
    (S : CallFix p m c cc nL s args Ts own) (hM : Met l y ws rm Pc Qc mc ms free) (cw : vx_CSW R s args own index y bytes maxL ret hh ws rm mc ms n) (hp : PreS s H Pc As)
    (hg : g.method = m) (hn : As.length = n) (hsize : g.locals.size = nL) (hstack : g.stack = As.reverse ++ rest) (hW : 2 * g.monitorRoom + (rest.map fun v => v.category).sum ≤ 8) (hdg : decode cc g.pc = .ok (.invokestatic index, 3)) (hf : cells + mc ≤ R.cells ∧ slots + ms ≤ R.slots) :
    va_Run p l e R s m args below meth c H locs cells slots mc ms g rest (Qc As.toArray) (free) := by
  obtain ⟨⟨hrc, hrs, hfr, hlo, hws, hcw⟩, hcode, hini, hy, hlen, hl, hstt⟩ := cw
  have hK : Back l R p e below s args y 3 8 (PreOf R mc ms Pc) (PostOf Qc mc ms free) := va_backW (hh := hh) (bytes := bytes) (maxL := maxL) (ret := ret) hM hp.1 hrc hrs hfr hlo hws hcw (fun a' U hW => word_at hW (Or.inl (by first | rfl | simp [Cond.onTables, Cond.keeps, Cond.steady])) hini)
  obtain ⟨hx, hb, hml, ho, -⟩ := S
  intro T hT X
  obtain ⟨v, vm₁, ⟨U', l2, c2, s2⟩, hW₁, X', ⟨g', mk, t, L, e1, e2, hq, h1, hL, h2, h3⟩, st⟩ := vx_callSW X hx (hh := hh) (bytes := bytes) (maxL := maxL) (ret := ret) ho hl hstt hini hcode hy hK hg (hsize.trans hml.symm) (argsL := As) (rest := rest) (fun sig h => hn.trans (hlen sig h)) hstack hW (by rw [hb]; exact hdg)
    (fun vm₁ hW₁ => ⟨hf.1, hf.2, hp.2 (T.setVm vm₁) hT hW₁⟩)
  dsimp only [Pt.U, Pt.locs, Pt.cells, Pt.slots] at X' e1 e2 h1 h2 h3 st
  subst h1; subst h2; subst h3
  exact ⟨v, (T.setVm vm₁).calling g' mk As.toArray, t, U', L, hT, X', hL, e1, e2, hq, st⟩
/-- not caught here, past rows that name other classes: it goes on to the caller -/
theorem vx_outP {p : Program} {l : Launch} {e : Env} {R : Room} {s : State} {m : MethodId} {args : Array Value} {below : List Frame} {meth : Method} {c : Code} {H : Heap} {locs : List Loc} {cells slots : Nat} {free : Addr → Prop} {ls : Array Slot} {rest : List Value} {Qc : Array Value → State → Outcome → State → Prop} {XC : String → State → State → Prop}
    {pc : Nat} {own E : String} {ce : Cell} {q : Addr} {mc ms : Nat} (hown : s.vm.findClass own = some m.cls) (hlocks : meth.locks = false)
    (hpass : ∀ z ∈ c.exceptionTable.toList, covers z pc = false ∨ (z.catchType ≠ 0 ∧ ∃ nm : String, (Cond.classLink own z.catchType nm).before args s = true ∧ va_Nc E nm s)) (hcell : H[q]? = some ce) (hv : ce.vm = .none) (hcl : s.vm.findClass E = some ce.cls)
    (hx : ∀ t : State, t.heap = H → s.vm.Alike t.vm → XC E s t) (hf : ∀ z ∈ locs, free z.base) (hc : cells ≤ mc) (hs : slots ≤ ms) :
    vx_W p l e R s m args below meth c H locs cells slots (vx_MQ below Qc XC args s mc ms free) (F0 m pc ls rest) q := by
  intro T hT X
  have hpl : e.platform.magicAccessors = ({} : Platform).magicAccessors := by rw [X.admits.platform]
  obtain ⟨vm', hW', X', st⟩ := X.outThrough hlocks q (g := F0 m pc ls rest) rfl rfl rfl (cell := ce) (by rw [hT]; exact hcell) (by rw [hv]; rfl)
    (by obtain ⟨k9, h9, -⟩ := Vm.findClass_spec hcl; exact ⟨k9, h9⟩) (fun z hz => by
      rcases hpass z hz with h | ⟨hz0, nm, hl1, hn1⟩
      · exact Or.inl h
      · obtain ⟨c6, hc6, hcl6⟩ := Cond.classLink_spec hown hl1 e.platform hpl
        obtain ⟨a8, b8, h1, h2, h3⟩ := hn1
        cases Option.some.inj (h1.symm.trans hcl)
        cases Option.some.inj (h2.symm.trans hc6)
        exact Or.inr ⟨hz0, _, hcl6, h3⟩)
  obtain ⟨g₀, hfr⟩ := X'.frames_eq
  have hcell9 : ((T.setVm vm').setFrames (.throwing q :: below)).heap[q]? = some ce := by
    show T.heap[q]? = some ce
    rw [hT]; exact hcell
  have hend : Ended ((T.setVm vm').setFrames (.throwing q :: below)) below (.threw q) := State.frames_setFrames _ (State.cur_lt_of_frames hfr)
  refine ⟨(T.setVm vm').setFrames (.throwing q :: below), ?_, .threw q, X'.here.running, hend, Or.inr ⟨q, rfl, E, ce, locs, hx _ hT (X'.ends _).1.alike, hcell9, hv, hcl, (X'.ends _).1, (X'.ends _).2.mono hc hs, hf⟩⟩
  rw [X.pushThrowing_eq]
  exact st
/-- a thing of a world lies in the heap -/
theorem vx_lt {D : va_G} {cl : List vw_C} {ws : va_W} {H1 : Heap} (h : va_P D cl ws H1) {k : Nat} {q : Nat × va_E} (hk : ws[k]? = some q) : q.1 < H1.size := (h k q hk).lt
end VXS
/-! ===== END ===== -/
/-! ===== BEGIN methods with a table of their own: called by a name, returning or throwing ===== -/
section VXH
/-! vx_backW, vx_callVX, vx_callSX, vx_callVW, vx_runVW, vx_runVX, vx_runSX, vx_ofWH follow the same proofs as their sisters above (Free/Laws.lean, Shelf42/LK1.lean); vx_outP calls Shelf42/NT130.lean (outThrough). -/
section
variable {l : Launch} {R : Room} {p : Program} {e : Env} {below : List Frame} {s : State} {sargs : Array Value} {y : MethodName} {len W9 : Nat}
theorem vx_backW {ws : List Cond} {rm : Room} {Pc : Array Value → State → Prop} {Qc : Array Value → State → Outcome → State → Prop} {XC : String → State → State → Prop} {mc ms : Nat} {free : Addr → Prop} {bytes : ByteArray} {maxL : Nat} {ret : Option FieldType} {hh : List (Nat × Nat × Nat × Nat)}
    (hM : vx_Met l y ws rm Pc Qc XC mc ms free) (hblind : FrameBlind Pc) (hrc : rm.cells = mc) (hrs : rm.slots = ms)
    (hframes : rm.frames + 1 ≤ R.frames) (hlocals : W9 + (maxL + 11) + rm.locals ≤ R.locals)
    (hws : ∀ w ∈ ws, ∀ a' U, s.WarmedH U.vm → w.before a' U = true) (hcode : Cond.codeWith y bytes maxL ret hh ∈ ws) (hinit : ∀ a' U, s.WarmedH U.vm → (Cond.initialized y.cls).before a' U = true) :
    vx_Back l R p e below s sargs y len W9 (PreOf R mc ms Pc) (PostOf Qc mc ms free) (vx_Post XC mc ms free) := by
  intro m meth c A g ig mk a X hg hsize hdg hW hn hp
  have h1 : (headSpec ws rm).pre.before a A.U = true := atoms_intro fun w hw => hws w hw _ _ X.warmed
  have h2 : (Cond.codeWith y bytes maxL ret hh).before a A.U = true := hws _ hcode _ _ X.warmed
  have h3 : (Cond.initialized y.cls).before a A.U = true := hinit _ _ X.warmed
  have h4 : A.cells + (headSpec ws rm).room.cells ≤ R.cells := by rw [show (headSpec ws rm).room.cells = mc from hrc]; exact hp.1
  have h5 : A.slots + (headSpec ws rm).room.slots ≤ R.slots := by rw [show (headSpec ws rm).room.slots = ms from hrs]; exact hp.2.1
  have hPc : Pc a (A.U.calling g mk a) := hblind _ _ _ _ hp.2.2
  obtain ⟨U, Ls, c0, s0⟩ := A
  dsimp only [Pt.U, Pt.locs, Pt.cells, Pt.slots] at h1 h2 h3 h4 h5 X hn hPc ⊢
  obtain ⟨m9, methY, cY, hn9, hmY, hcY, -, hlY, -⟩ := Cond.codeWith_spec h2
  cases Option.some.inj (hn9.symm.trans hn)
  obtain ⟨kY, hkY, -⟩ := className_of_methodNamed hn
  have hinitY : kY.init = .initialized := Cond.initialized_spec (findClass_of_methodNamed hn) hkY h3
  have h : At U g.method c below := by rw [hg]; exact X.here
  have hlocals9 : W9 + (maxL + 11) + (headSpec ws rm).room.locals ≤ R.locals := hlocals
  have happ : (headSpec ws rm).appliesLoose y e.platform (U.calling g mk a) = true :=
    Spec.appliesLoose_calling (g := g) h hdg hn hkY hinitY
      (X.room_calling (g := g) (R' := (headSpec ws rm).room) hsize hmY hcY hframes (by rw [hlY]; omega) h4 h5) h1
  obtain ⟨mid, hmid⟩ := h.above
  have hfr : (U.setTop g).frames = (.java g :: mid) ++ below := by rw [State.frames_setTop' g h.top, hmid]; rfl
  obtain ⟨o, s₂, hsteps, -, hend, hq⟩ := Steps.callFree hM p X.admits X.cas X.clock (acts := []) hfr happ hPc trivial
  have hq' : vx_Q Qc XC mc ms free a (U.calling g mk a) o s₂ := hq
  rw [State.frames_setTop' g h.top] at hend
  obtain ⟨g₀, hg0⟩ := Option.isSome_iff_exists.mp h.top
  obtain ⟨r, hr⟩ := State.topJava?_eq_some.mp hg0
  have hr' : (({ U with heap := s₂.heap, slotsUsed := s₂.slotsUsed } : State).setVm s₂.vm).frames = .java g₀ :: r := hr
  rcases hq' with ⟨hqc, L, hfe, hL⟩ | ⟨q, rfl, E, ce, L, hx, hce, hcv, hcl, hW₂, hsm, hL⟩
  · obtain ⟨⟨v, rfl⟩, hW₂, e2, q2, q3, q4, q5, q6⟩ := id hfe
    have e3 : s₂ = ({ (U.calling g mk a).setFrames s₂.frames with heap := s₂.heap, slotsUsed := s₂.slotsUsed } : State).setVm s₂.vm := by
      have : s₂ = ({ s₂ with vm := (U.calling g mk a).vm } : State).setVm s₂.vm := rfl
      rw [e2] at this
      exact this
    obtain ⟨c₂, i₂, len₂, hc₂, hd₂, hf₂⟩ := hend
    have hW' : U.WarmedH s₂.vm := hW₂
    have hcc : c₂ = c := by
      have h1 : s₂.code? g.method = U.code? g.method := by
        rw [State.code?_eq, State.code?_eq, hW'.alike.method?]
      exact Option.some.inj (hc₂.symm.trans (h1.trans h.code))
    subst hcc
    have hlen : len₂ = len := by rw [hdg] at hd₂; cases hd₂; rfl
    subst hlen
    have hs₂ : s₂ = (({ U with heap := s₂.heap, slotsUsed := s₂.slotsUsed } : State).setVm s₂.vm).setTop { g with pc := g.pc + len₂, stack := v.toList ++ g.stack } := by
      refine e3.trans ?_
      rw [hf₂, State.calling_eq h.top, State.setFrames_setFrames, State.setTop_of_frames _ hr', hr]
      rfl
    have hsame : U.sameButNew ({ U with heap := s₂.heap, slotsUsed := s₂.slotsUsed } : State) L mc ms := by
      refine ⟨?_, q2, q3, q4, q5, q6⟩
      obtain ⟨t, ht, -⟩ := State.frames_cons hr
      show ({ U with heap := s₂.heap, slotsUsed := s₂.slotsUsed } : State) = { U.setFrames U.frames with heap := s₂.heap, slotsUsed := s₂.slotsUsed }
      rw [State.setFrames_self ht]
    subst hg
    refine Or.inl ⟨v, ⟨(({ U with heap := s₂.heap, slotsUsed := s₂.slotsUsed } : State).setVm s₂.vm), Ls ++ L, c0 + mc, s0 + ms⟩,
      ⟨X.admits, X.cas, X.clock, X.frames, X.room, X.hears, X.method, X.code, (X.here.setHeapUsed s₂.heap s₂.slotsUsed).setVm hW'.alike, X.tail, State.WarmedH.trans X.warmed hW', X.limits, X.bytes, X.same.trans (hsame.setVm s.vm)⟩,
      ⟨g, mk, s₂, L, rfl, rfl, hqc, rfl, hL, rfl, rfl⟩, ?_⟩
    show Steps p.tables e below _ ((({ U with heap := s₂.heap, slotsUsed := s₂.slotsUsed } : State).setVm s₂.vm).setTop { g with pc := g.pc + len₂, stack := v.toList ++ g.stack })
    rw [← hs₂]
    exact hsteps
  · obtain ⟨e2, q2, q3, q4, q5, q6⟩ := id hsm
    have e3 : s₂ = ({ (U.calling g mk a).setFrames s₂.frames with heap := s₂.heap, slotsUsed := s₂.slotsUsed } : State).setVm s₂.vm := by
      have : s₂ = ({ s₂ with vm := (U.calling g mk a).vm } : State).setVm s₂.vm := rfl
      rw [e2] at this
      exact this
    have hf₂ : s₂.frames = .throwing q :: .java g :: U.frames.tail := hend
    have hW' : U.WarmedH s₂.vm := hW₂
    have hs₂ : s₂ = ((({ U with heap := s₂.heap, slotsUsed := s₂.slotsUsed } : State).setVm s₂.vm).setTop g).pushFrame (.throwing q) := by
      refine e3.trans ?_
      rw [hf₂, State.calling_eq h.top, State.setFrames_setFrames, State.pushFrame, State.frames_setTop _ hr', State.setTop_of_frames _ hr', State.setFrames_setFrames, hr]
      rfl
    have hsame : U.sameButNew ({ U with heap := s₂.heap, slotsUsed := s₂.slotsUsed } : State) L mc ms := by
      refine ⟨?_, q2, q3, q4, q5, q6⟩
      obtain ⟨t, ht, -⟩ := State.frames_cons hr
      show ({ U with heap := s₂.heap, slotsUsed := s₂.slotsUsed } : State) = { U.setFrames U.frames with heap := s₂.heap, slotsUsed := s₂.slotsUsed }
      rw [State.setFrames_self ht]
    subst hg
    refine Or.inr ⟨q, ⟨(({ U with heap := s₂.heap, slotsUsed := s₂.slotsUsed } : State).setVm s₂.vm), Ls ++ L, c0 + mc, s0 + ms⟩,
      ⟨X.admits, X.cas, X.clock, X.frames, X.room, X.hears, X.method, X.code, (X.here.setHeapUsed s₂.heap s₂.slotsUsed).setVm hW'.alike, X.tail, State.WarmedH.trans X.warmed hW', X.limits, X.bytes, X.same.trans (hsame.setVm s.vm)⟩,
      ⟨g, mk, s₂, L, E, ce, rfl, rfl, hx, hce, hcv, hcl, rfl, hL, rfl, rfl⟩, ?_⟩
    show Steps p.tables e below _ (((({ U with heap := s₂.heap, slotsUsed := s₂.slotsUsed } : State).setVm s₂.vm).setTop g).pushFrame (.throwing q))
    rw [← hs₂]
    exact hsteps
end
variable {p : Program} {l : Launch} {e : Env} {R : Room} {s : State} {m : MethodId} {args : Array Value} {below : List Frame} {meth : Method} {c : Code} {T : State} {H : Heap} {locs : List Loc} {cells slots : Nat}
theorem vx_callVX (X : Stand p l e R s m args below meth c T locs cells slots) (hexec : p.tables.exec = Jvm.exec) {own C : String} {index : Nat} {y : MethodName} {bytes : ByteArray} {maxL : Nat} {ret : Option FieldType} {hh : List (Nat × Nat × Nat × Nat)}
    (hown : s.vm.findClass own = some m.cls) (hlink : (Cond.methodLink own index y).before args s = true) (hinst : (Cond.instanceMethod y).before args s = true) (hsel : (Cond.selects C y y).before args s = true)
    (hcode : (Cond.codeWith y bytes maxL ret hh).before args s = true) (hy : y.cls ≠ "java/lang/invoke/MethodHandle" ∧ y.cls ≠ "java/lang/invoke/VarHandle")
    {W9 : Nat} {Pre : Pt → Array Value → Prop} {Post : Pt → Array Value → Option Value → Pt → Prop} {PostX : Pt → Array Value → Addr → Pt → Prop} (hK : vx_Back l R p e below s args y 3 W9 Pre Post PostX)
    {b : Addr} {cellB : Cell} (hcell : T.heap[b]? = some cellB) (hobj : cellB.vm.isStatics = false) (hcls : s.vm.findClass C = some cellB.cls)
    {g : JFrame} (hg : g.method = m) (hsize : g.locals.size = c.maxLocals) {argsL rest : List Value} (hlen : ∀ sig, parseMethodDescriptor y.desc = some sig → argsL.length = sig.parameters.length)
    (hstack : g.stack = argsL.reverse ++ .ref b :: rest) (hW : 2 * g.monitorRoom + (rest.map fun v => v.category).sum ≤ W9) (hdg : decode c.code g.pc = .ok (.invokevirtual index, 3))
    (hpre : ∀ vm₁, s.WarmedH vm₁ → Pre ⟨T.setVm vm₁, locs, cells, slots⟩ (Value.ref b :: argsL).toArray) :
    (∃ (v : Option Value) (vm₁ : Vm) (B : Pt), s.WarmedH vm₁ ∧ Stand p l e R s m args below meth c B.U B.locs B.cells B.slots ∧ Post ⟨T.setVm vm₁, locs, cells, slots⟩ (Value.ref b :: argsL).toArray v B ∧
      ∀ target, Steps p.tables e below (B.U.setTop { g with pc := g.pc + 3, stack := v.toList ++ rest }) target → Steps p.tables e below (T.setTop g) target) ∨
    (∃ (q : Addr) (vm₁ : Vm) (B : Pt), s.WarmedH vm₁ ∧ Stand p l e R s m args below meth c B.U B.locs B.cells B.slots ∧ PostX ⟨T.setVm vm₁, locs, cells, slots⟩ (Value.ref b :: argsL).toArray q B ∧
      Steps p.tables e below (T.setTop g) ((B.U.setTop { g with stack := rest }).pushFrame (.throwing q))) := by
  obtain ⟨mk, methM, hnamed, hmethM, hstM, habM⟩ := Cond.instanceMethod_spec hinst
  obtain ⟨m8, methM', cM, hn8, hmethM', -, -, -, -, -, -, hsigM⟩ := Cond.codeWith_spec hcode
  cases Option.some.inj (hn8.symm.trans hnamed)
  cases hmethM.symm.trans hmethM'
  obtain ⟨c2, r2, m2, q1, q2, q3, q4, kP, hkP, hkPi⟩ := Cond.selects_spec hsel
  cases hcls.symm.trans q1
  cases (State.methodFound?_of_named hnamed hy).symm.trans q2
  cases hnamed.symm.trans q3
  have hselP : selectMethod e.platform s.vm cellB.cls mk = .method mk := by rw [Launch.admits_selectMethod X.admits]; exact q4
  obtain ⟨vm₁, X₁, hstep₁⟩ := X.invokevirtual hexec hown hlink hnamed hmethM hstM hkP hkPi hy (a := b) (cell := cellB) hcell
    (fun z h => by rw [h] at hobj; cases hobj) hselP hmethM habM hkP hkPi (g := g) hg (argsL := argsL) (rest := rest) (hlen _ hsigM) hstack hdg
  rcases hK m meth c ⟨T.setVm vm₁, locs, cells, slots⟩ { g with stack := rest } (.invokevirtual index) mk (Value.ref b :: argsL).toArray X₁ hg hsize hdg hW (X₁.named hnamed) (hpre vm₁ X₁.warmed) with ⟨v, B, X', hpost, hsteps⟩ | ⟨q, B, X', hpost, hsteps⟩
  · exact Or.inl ⟨v, vm₁, B, X₁.warmed, X', hpost, fun target h => hstep₁ _ fun acts => by rw [doInvoke_state]; exact hsteps.trans h⟩
  · exact Or.inr ⟨q, vm₁, B, X₁.warmed, X', hpost, hstep₁ _ fun acts => by rw [doInvoke_state]; exact hsteps⟩
theorem vx_callSX (X : Stand p l e R s m args below meth c T locs cells slots) (hexec : p.tables.exec = Jvm.exec) {own : String} {index : Nat} {y : MethodName} {bytes : ByteArray} {maxL : Nat} {ret : Option FieldType} {hh : List (Nat × Nat × Nat × Nat)}
    (hown : s.vm.findClass own = some m.cls) (hlink : (Cond.methodLink own index y).before args s = true) (hstat : (Cond.static y).before args s = true) (hinit : (Cond.initialized y.cls).before args s = true)
    (hcode : (Cond.codeWith y bytes maxL ret hh).before args s = true) (hy : y.cls ≠ "java/lang/invoke/MethodHandle" ∧ y.cls ≠ "java/lang/invoke/VarHandle")
    {W9 : Nat} {Pre : Pt → Array Value → Prop} {Post : Pt → Array Value → Option Value → Pt → Prop} {PostX : Pt → Array Value → Addr → Pt → Prop} (hK : vx_Back l R p e below s args y 3 W9 Pre Post PostX)
    {g : JFrame} (hg : g.method = m) (hsize : g.locals.size = c.maxLocals) {argsL rest : List Value} (hlen : ∀ sig, parseMethodDescriptor y.desc = some sig → argsL.length = sig.parameters.length)
    (hstack : g.stack = argsL.reverse ++ rest) (hW : 2 * g.monitorRoom + (rest.map fun v => v.category).sum ≤ W9) (hdg : decode c.code g.pc = .ok (.invokestatic index, 3))
    (hpre : ∀ vm₁, s.WarmedH vm₁ → Pre ⟨T.setVm vm₁, locs, cells, slots⟩ argsL.toArray) :
    (∃ (v : Option Value) (vm₁ : Vm) (B : Pt), s.WarmedH vm₁ ∧ Stand p l e R s m args below meth c B.U B.locs B.cells B.slots ∧ Post ⟨T.setVm vm₁, locs, cells, slots⟩ argsL.toArray v B ∧
      ∀ target, Steps p.tables e below (B.U.setTop { g with pc := g.pc + 3, stack := v.toList ++ rest }) target → Steps p.tables e below (T.setTop g) target) ∨
    (∃ (q : Addr) (vm₁ : Vm) (B : Pt), s.WarmedH vm₁ ∧ Stand p l e R s m args below meth c B.U B.locs B.cells B.slots ∧ PostX ⟨T.setVm vm₁, locs, cells, slots⟩ argsL.toArray q B ∧
      Steps p.tables e below (T.setTop g) ((B.U.setTop { g with stack := rest }).pushFrame (.throwing q))) := by
  obtain ⟨mk, methM, cM, hnamed, hmethM, -, -, -, -, -, -, hsigM⟩ := Cond.codeWith_spec hcode
  have hstatic : methM.isStatic = true := Cond.static_spec hnamed hmethM hstat
  obtain ⟨kP, hkP, -⟩ := className_of_methodNamed hnamed
  have hinitP : kP.init = .initialized := Cond.initialized_spec (findClass_of_methodNamed hnamed) hkP hinit
  obtain ⟨vm₁, X₁, hstep₁⟩ := X.invokestatic hexec hown hlink hnamed hmethM hstatic hkP hinitP hy (g := g) hg (argsL := argsL) (rest := rest) (hlen _ hsigM) hstack hdg
  rcases hK m meth c ⟨T.setVm vm₁, locs, cells, slots⟩ { g with stack := rest } (.invokestatic index) mk argsL.toArray X₁ hg hsize hdg hW (X₁.named hnamed) (hpre vm₁ X₁.warmed) with ⟨v, B, X', hpost, hsteps⟩ | ⟨q, B, X', hpost, hsteps⟩
  · exact Or.inl ⟨v, vm₁, B, X₁.warmed, X', hpost, fun target h => hstep₁ _ fun acts => by rw [doInvoke_state]; exact hsteps.trans h⟩
  · exact Or.inr ⟨q, vm₁, B, X₁.warmed, X', hpost, hstep₁ _ fun acts => by rw [doInvoke_state]; exact hsteps⟩
theorem vx_callVW (X : Stand p l e R s m args below meth c T locs cells slots) (hexec : p.tables.exec = Jvm.exec) {own C : String} {index : Nat} {y : MethodName} {bytes : ByteArray} {maxL : Nat} {ret : Option FieldType} {hh : List (Nat × Nat × Nat × Nat)}
    (hown : s.vm.findClass own = some m.cls) (hlink : (Cond.methodLink own index y).before args s = true) (hinst : (Cond.instanceMethod y).before args s = true) (hsel : (Cond.selects C y y).before args s = true)
    (hcode : (Cond.codeWith y bytes maxL ret hh).before args s = true) (hy : y.cls ≠ "java/lang/invoke/MethodHandle" ∧ y.cls ≠ "java/lang/invoke/VarHandle")
    {W9 : Nat} {Pre : Pt → Array Value → Prop} {Post : Pt → Array Value → Option Value → Pt → Prop} (hK : Back l R p e below s args y 3 W9 Pre Post)
    {b : Addr} {cellB : Cell} (hcell : T.heap[b]? = some cellB) (hobj : cellB.vm.isStatics = false) (hcls : s.vm.findClass C = some cellB.cls)
    {g : JFrame} (hg : g.method = m) (hsize : g.locals.size = c.maxLocals) {argsL rest : List Value} (hlen : ∀ sig, parseMethodDescriptor y.desc = some sig → argsL.length = sig.parameters.length)
    (hstack : g.stack = argsL.reverse ++ .ref b :: rest) (hW : 2 * g.monitorRoom + (rest.map fun v => v.category).sum ≤ W9) (hdg : decode c.code g.pc = .ok (.invokevirtual index, 3))
    (hpre : ∀ vm₁, s.WarmedH vm₁ → Pre ⟨T.setVm vm₁, locs, cells, slots⟩ (Value.ref b :: argsL).toArray) :
    ∃ (v : Option Value) (vm₁ : Vm) (B : Pt), s.WarmedH vm₁ ∧ Stand p l e R s m args below meth c B.U B.locs B.cells B.slots ∧ Post ⟨T.setVm vm₁, locs, cells, slots⟩ (Value.ref b :: argsL).toArray v B ∧
      ∀ target, Steps p.tables e below (B.U.setTop { g with pc := g.pc + 3, stack := v.toList ++ rest }) target → Steps p.tables e below (T.setTop g) target := by
  obtain ⟨mk, methM, hnamed, hmethM, hstM, habM⟩ := Cond.instanceMethod_spec hinst
  obtain ⟨m8, methM', cM, hn8, hmethM', -, -, -, -, -, -, hsigM⟩ := Cond.codeWith_spec hcode
  cases Option.some.inj (hn8.symm.trans hnamed)
  cases hmethM.symm.trans hmethM'
  obtain ⟨c2, r2, m2, q1, q2, q3, q4, kP, hkP, hkPi⟩ := Cond.selects_spec hsel
  cases hcls.symm.trans q1
  cases (State.methodFound?_of_named hnamed hy).symm.trans q2
  cases hnamed.symm.trans q3
  have hselP : selectMethod e.platform s.vm cellB.cls mk = .method mk := by rw [Launch.admits_selectMethod X.admits]; exact q4
  obtain ⟨vm₁, X₁, hstep₁⟩ := X.invokevirtual hexec hown hlink hnamed hmethM hstM hkP hkPi hy (a := b) (cell := cellB) hcell
    (fun z h => by rw [h] at hobj; cases hobj) hselP hmethM habM hkP hkPi (g := g) hg (argsL := argsL) (rest := rest) (hlen _ hsigM) hstack hdg
  obtain ⟨v, B, X', hpost, hsteps⟩ := hK m meth c ⟨T.setVm vm₁, locs, cells, slots⟩ { g with stack := rest } (.invokevirtual index) mk (Value.ref b :: argsL).toArray X₁ hg hsize hdg hW (X₁.named hnamed) (hpre vm₁ X₁.warmed)
  exact ⟨v, vm₁, B, X₁.warmed, X', hpost, fun target h => hstep₁ _ fun acts => by rw [doInvoke_state]; exact hsteps.trans h⟩
abbrev vx_CVW (R : Room) (s : State) (args : Array Value) (own C : String) (index : Nat) (y : MethodName) (bytes : ByteArray) (maxL : Nat) (ret : Option FieldType) (hh : List (Nat × Nat × Nat × Nat)) (ws : List Cond) (rm : Room) (mc ms n : Nat) : Prop :=
  (rm.cells = mc ∧ rm.slots = ms ∧ rm.frames + 1 ≤ R.frames ∧ 8 + (maxL + 11) + rm.locals ≤ R.locals ∧ (∀ w ∈ ws, ∀ (a' : Array Value) (U : State), s.WarmedH U.vm → w.before a' U = true) ∧ Cond.codeWith y bytes maxL ret hh ∈ ws) ∧
  (Cond.codeWith y bytes maxL ret hh).before args s = true ∧ (Cond.initialized y.cls).before args s = true ∧ (y.cls ≠ "java/lang/invoke/MethodHandle" ∧ y.cls ≠ "java/lang/invoke/VarHandle") ∧
  (∀ sig, parseMethodDescriptor y.desc = some sig → n = sig.parameters.length) ∧ (Cond.methodLink own index y).before args s = true ∧ (Cond.instanceMethod y).before args s = true ∧ (Cond.selects C y y).before args s = true
theorem vx_cwVW {own C : String} {index maxL mc ms : Nat} {y : MethodName} {bytes : ByteArray} {ret : Option FieldType} {hh : List (Nat × Nat × Nat × Nat)} {Ts ws ws' : List Cond} {rm : Room} (n : Nat) (ht : ∀ w ∈ Ts, w.before args s = true) (hT : GoodIn Ts (wsV own index C y ws)) (hw : ws = Cond.codeWith y bytes maxL ret hh :: ws') (hrc : rm.cells = mc) (hrs : rm.slots = ms)
    (hd : y.cls = C ∧ y.cls ≠ "java/lang/invoke/MethodHandle" ∧ y.cls ≠ "java/lang/invoke/VarHandle" ∧ (parseMethodDescriptor y.desc).map (fun d => d.parameters.length) = some n) (hR : rm.frames + 1 ≤ R.frames ∧ 8 + (maxL + 11) + rm.locals ≤ R.locals) :
    vx_CVW R s args own C index y bytes maxL ret hh ws rm mc ms n := by
  obtain ⟨hC, hd⟩ := hd
  subst hC
  have ok : ∀ w ∈ wsV own index y.cls y ws, w.before args s = true := fun w h => ht w (hT w h).1
  have hG : GoodIn Ts ws := fun w h => hT w (by unfold wsV; exact List.mem_append_right _ h)
  have hc : Cond.codeWith y bytes maxL ret hh ∈ ws := by rw [hw]; exact List.mem_cons_self
  refine ⟨⟨hrc, hrs, hR.1, hR.2, pay_in ht hG, hc⟩, ht _ (hG _ hc).1, ok _ (by simp [wsV]), ⟨hd.1, hd.2.1⟩, fun sig h => ?_, ok _ (by simp [wsV]), ok _ (by simp [wsV]), ok _ (by simp [wsV])⟩
  have h2 := hd.2.2
  rw [h] at h2
  exact (Option.some.inj h2).symm
theorem vx_runVW {y : MethodName} {bytes cc : ByteArray} {maxL nL mc ms n index : Nat} {ret : Option FieldType} {hh : List (Nat × Nat × Nat × Nat)} {ws : List Cond} {rm : Room} {Pc : Array Value → State → Prop} {Qc : Array Value → State → Outcome → State → Prop} {free : Addr → Prop} {Ts : List Cond} {own C : String} {b : Addr} {As rest : List Value} {g : JFrame}
    (S : CallFix p m c cc nL s args Ts own) (hM : Met l y ws rm Pc Qc mc ms free) (cw : vx_CVW R s args own C index y bytes maxL ret hh ws rm mc ms n) (hp : PreV s H C b Pc As)
    (hg : g.method = m) (hn : As.length = n) (hsize : g.locals.size = nL) (hstack : g.stack = As.reverse ++ .ref b :: rest) (hW : 2 * g.monitorRoom + (rest.map fun v => v.category).sum ≤ 8) (hdg : decode cc g.pc = .ok (.invokevirtual index, 3)) (hf : cells + mc ≤ R.cells ∧ slots + ms ≤ R.slots) :
    va_Run p l e R s m args below meth c H locs cells slots mc ms g rest (Qc (Value.ref b :: As).toArray) free := by
  obtain ⟨⟨hrc, hrs, hfr, hlo, hws, hcw⟩, hcode, hini, hy, hlen, hl, hin, hse⟩ := cw
  have hK : Back l R p e below s args y 3 8 (PreOf R mc ms Pc) (PostOf Qc mc ms free) := va_backW (hh := hh) (bytes := bytes) (maxL := maxL) (ret := ret) hM hp.1 hrc hrs hfr hlo hws hcw (fun a' U hW => word_at hW (Or.inl (by first | rfl | simp [Cond.onTables, Cond.keeps, Cond.steady])) hini)
  obtain ⟨hx, hb, hml, ho, -⟩ := S
  obtain ⟨-, ⟨cellB, hcB, hoB, hclB⟩, hPc⟩ := hp
  intro T hT X
  obtain ⟨v, vm₁, ⟨U', l2, c2, s2⟩, hW₁, X', ⟨g', mk, t, L, e1, e2, hq, h1, hL, h2, h3⟩, st⟩ := vx_callVW X hx (C := C) (hh := hh) (bytes := bytes) (maxL := maxL) (ret := ret) ho hl hin hse hcode hy hK (by rw [hT]; exact hcB) hoB hclB hg (hsize.trans hml.symm) (argsL := As) (rest := rest) (fun sig h => hn.trans (hlen sig h)) hstack hW (by rw [hb]; exact hdg)
    (fun vm₁ hW₁ => ⟨hf.1, hf.2, hPc (T.setVm vm₁) hT hW₁⟩)
  dsimp only [Pt.U, Pt.locs, Pt.cells, Pt.slots] at X' e1 e2 h1 h2 h3 st
  subst h1; subst h2; subst h3
  exact ⟨v, (T.setVm vm₁).calling g' mk (Value.ref b :: As).toArray, t, U', L, hT, X', hL, e1, e2, hq, st⟩
section
variable {y : MethodName} {bytes cc : ByteArray} {maxL nL mc ms n index : Nat} {ret : Option FieldType} {ws : List Cond} {rm : Room} {Pc : Array Value → State → Prop} {Qc : Array Value → State → Outcome → State → Prop} {XC : String → State → State → Prop} {free : Addr → Prop} {Ts : List Cond} {own C : String} {b : Addr} {As rest : List Value} {g : JFrame}
theorem vx_runVX {hh : List (Nat × Nat × Nat × Nat)} (S : CallFix p m c cc nL s args Ts own) (hM : vx_Met l y ws rm Pc Qc XC mc ms free) (cw : vx_CVW R s args own C index y bytes maxL ret hh ws rm mc ms n) (hp : PreV s H C b Pc As)
    (hg : g.method = m) (hn : As.length = n) (hsize : g.locals.size = nL) (hstack : g.stack = As.reverse ++ .ref b :: rest) (hW : 2 * g.monitorRoom + (rest.map fun v => v.category).sum ≤ 8) (hdg : decode cc g.pc = .ok (.invokevirtual index, 3)) (hf : cells + mc ≤ R.cells ∧ slots + ms ≤ R.slots) :
    vx_Run p l e R s m args below meth c H locs cells slots mc ms g rest (Qc (Value.ref b :: As).toArray) XC free := by
  obtain ⟨⟨hrc, hrs, hfr, hlo, hws, hcw⟩, hcode, hini, hy, hlen, hl, hin, hse⟩ := cw
  have hK : vx_Back l R p e below s args y 3 8 (PreOf R mc ms Pc) (PostOf Qc mc ms free) (vx_Post XC mc ms free) := vx_backW (hh := hh) (bytes := bytes) (maxL := maxL) (ret := ret) hM hp.1 hrc hrs hfr hlo hws hcw (fun a' U hW => word_at hW (Or.inl (by first | rfl | simp [Cond.onTables, Cond.keeps, Cond.steady])) hini)
  obtain ⟨hx, hb, hml, ho, -⟩ := S
  obtain ⟨-, ⟨cellB, hcB, hoB, hclB⟩, hPc⟩ := hp
  intro T hT X
  rcases vx_callVX X hx (C := C) (hh := hh) (bytes := bytes) (maxL := maxL) (ret := ret) ho hl hin hse hcode hy hK (by rw [hT]; exact hcB) hoB hclB hg (hsize.trans hml.symm) (argsL := As) (rest := rest) (fun sig h => hn.trans (hlen sig h)) hstack hW (by rw [hb]; exact hdg)
    (fun vm₁ hW₁ => ⟨hf.1, hf.2, hPc (T.setVm vm₁) hT hW₁⟩) with ⟨v, vm₁, ⟨U', l2, c2, s2⟩, hW₁, X', ⟨g', mk, t, L, e1, e2, hq, h1, hL, h2, h3⟩, st⟩ | ⟨q, vm₁, ⟨U', l2, c2, s2⟩, hW₁, X', ⟨g', mk, t, L, E, ce, e1, e2, hq, hce, hcv, hcl, h1, hL, h2, h3⟩, st⟩
  · dsimp only [Pt.U, Pt.locs, Pt.cells, Pt.slots] at X' e1 e2 h1 h2 h3 st
    subst h1; subst h2; subst h3
    exact Or.inl ⟨v, (T.setVm vm₁).calling g' mk (Value.ref b :: As).toArray, t, U', L, hT, X', hL, e1, e2, hq, st⟩
  · dsimp only [Pt.U, Pt.locs, Pt.cells, Pt.slots] at X' e1 e2 h1 h2 h3 st hcl
    subst h1; subst h2; subst h3
    exact Or.inr ⟨q, (T.setVm vm₁).calling g' mk (Value.ref b :: As).toArray, t, U', L, E, ce, hT, X', hL, e1, e2, hq, hce, hcv, vx_cls hW₁ hcl, st⟩
theorem vx_runSX {hh : List (Nat × Nat × Nat × Nat)} (S : CallFix p m c cc nL s args Ts own) (hM : vx_Met l y ws rm Pc Qc XC mc ms free) (cw : vx_CSW R s args own index y bytes maxL ret hh ws rm mc ms n) (hp : PreS s H Pc As)
    (hg : g.method = m) (hn : As.length = n) (hsize : g.locals.size = nL) (hstack : g.stack = As.reverse ++ rest) (hW : 2 * g.monitorRoom + (rest.map fun v => v.category).sum ≤ 8) (hdg : decode cc g.pc = .ok (.invokestatic index, 3)) (hf : cells + mc ≤ R.cells ∧ slots + ms ≤ R.slots) :
    vx_Run p l e R s m args below meth c H locs cells slots mc ms g rest (Qc As.toArray) XC free := by
  obtain ⟨⟨hrc, hrs, hfr, hlo, hws, hcw⟩, hcode, hini, hy, hlen, hl, hstt⟩ := cw
  have hK : vx_Back l R p e below s args y 3 8 (PreOf R mc ms Pc) (PostOf Qc mc ms free) (vx_Post XC mc ms free) := vx_backW (hh := hh) (bytes := bytes) (maxL := maxL) (ret := ret) hM hp.1 hrc hrs hfr hlo hws hcw (fun a' U hW => word_at hW (Or.inl (by first | rfl | simp [Cond.onTables, Cond.keeps, Cond.steady])) hini)
  obtain ⟨hx, hb, hml, ho, -⟩ := S
  intro T hT X
  rcases vx_callSX X hx (hh := hh) (bytes := bytes) (maxL := maxL) (ret := ret) ho hl hstt hini hcode hy hK hg (hsize.trans hml.symm) (argsL := As) (rest := rest) (fun sig h => hn.trans (hlen sig h)) hstack hW (by rw [hb]; exact hdg)
    (fun vm₁ hW₁ => ⟨hf.1, hf.2, hp.2 (T.setVm vm₁) hT hW₁⟩) with ⟨v, vm₁, ⟨U', l2, c2, s2⟩, hW₁, X', ⟨g', mk, t, L, e1, e2, hq, h1, hL, h2, h3⟩, st⟩ | ⟨q, vm₁, ⟨U', l2, c2, s2⟩, hW₁, X', ⟨g', mk, t, L, E, ce, e1, e2, hq, hce, hcv, hcl, h1, hL, h2, h3⟩, st⟩
  · dsimp only [Pt.U, Pt.locs, Pt.cells, Pt.slots] at X' e1 e2 h1 h2 h3 st
    subst h1; subst h2; subst h3
    exact Or.inl ⟨v, (T.setVm vm₁).calling g' mk As.toArray, t, U', L, hT, X', hL, e1, e2, hq, st⟩
  · dsimp only [Pt.U, Pt.locs, Pt.cells, Pt.slots] at X' e1 e2 h1 h2 h3 st hcl
    subst h1; subst h2; subst h3
    exact Or.inr ⟨q, (T.setVm vm₁).calling g' mk As.toArray, t, U', L, E, ce, hT, X', hL, e1, e2, hq, hce, hcv, vx_cls hW₁ hcl, st⟩
end
end VXH
theorem vx_ofWH {l : Launch} {y : MethodName} {ws ws' : List Cond} {rm : Room} {Pc : Array Value → State → Prop} {Qc : Array Value → State → Outcome → State → Prop} {XC : String → State → State → Prop} {mc ms : Nat} {free : Addr → Prop} {cc : ByteArray} {maxL : Nat} {ret : Option FieldType} {hh : List (Nat × Nat × Nat × Nat)}
    (hy : plainName y.cls = true) (hw : ws = Cond.codeWith y cc maxL ret hh :: ws')
    (body : ∀ p e s m args below meth c s₁, BodyLoose p l y (headSpec ws rm) cc maxL ret e s m args below meth c s₁ → c.maxLocals = maxL → Pc args s →
      W p l e (headSpec ws rm).room s m args below meth c s.heap [] 0 0 (vx_MQ below Qc XC args s mc ms free) (entryFrame m args maxL)) : vx_Met l y ws rm Pc Qc XC mc ms free := by
  refine MetFree.of_bodyS (code := cc) (maxLocals := maxL) (ret := ret) hy ?_ ?_
  · intro args s m h hn
    obtain ⟨m9, meth, c, hn9, h1, h2, h3, h4, -, h5, h6, -⟩ := Cond.codeWith_spec (atoms_spec (ws := ws) h _ (by rw [hw]; exact List.mem_cons_self))
    cases hn.symm.trans hn9
    exact ⟨meth, c, h1, h2, h3, h4, h5, h6⟩
  · intro p e s m args below meth c s₁ B hml hP _
    have hh0 : s₁.heap = s.heap := by rw [B.state]; rfl
    obtain ⟨t, a1, o, b1, b2, b3⟩ := body p e s m args below meth c s₁ B hml hP s₁ hh0 (Stand.of_body B)
    exact ⟨t, o, a1, b1, b2, b3⟩
/-! ===== END ===== -/
end
section
def RX0 : String := "Fieldbook$Frame"
def TX0 : u_T := fun k => match k with
  | 0 => ("Fieldbook$Frame", "stratumOf", "[I", true)
  | 1 => ("Fieldbook$Frame", "languageOf", "[I", true)
  | 2 => ("Fieldbook$Frame", "stratumTargets", "[I", true)
  | 3 => ("Fieldbook$Frame", "languageTargets", "[I", true)
  | 4 => ("Fieldbook$Frame", "strata", "I", false)
  | _ => ("Fieldbook$Frame", "houses", "I", false)
def tyX0 : Nat → FieldType := fun k => match k with
  | 0 => .array .int
  | 1 => .array .int
  | 2 => .array .int
  | 3 => .array .int
  | 4 => .int
  | _ => .int
abbrev wsX00 : List Cond := u_ws RX0 TX0 6
theorem nmX0 : ∀ a, a < 6 → ∀ b, b < 6 → a ≠ b → (TX0 a).2.1 ≠ (TX0 b).2.1 := by decide +kernel
theorem tyX0_ok : ∀ k, k < 6 → parseFieldDescriptor (TX0 k).2.2.1 = some (tyX0 k) := by decide +kernel
abbrev cX0_init : ByteArray := prog_2_method_1_code
def yX0_init : MethodName := ⟨RX0, "<init>", "()V"⟩
abbrev cX0_raiseTargets : ByteArray := prog_2_method_2_code
def yX0_raiseTargets : MethodName := ⟨RX0, "raiseTargets", "(I)V"⟩
def RX1 : String := "Fieldbook$History"
def TX1 : u_T := fun k => match k with
  | 0 => ("Fieldbook$History", "events", "[I", true)
  | _ => ("Fieldbook$History", "size", "I", false)
def tyX1 : Nat → FieldType := fun k => match k with
  | 0 => .array .int
  | _ => .int
abbrev wsX10 : List Cond := u_ws RX1 TX1 2
theorem nmX1 : ∀ a, a < 2 → ∀ b, b < 2 → a ≠ b → (TX1 a).2.1 ≠ (TX1 b).2.1 := by decide +kernel
theorem tyX1_ok : ∀ k, k < 2 → parseFieldDescriptor (TX1 k).2.2.1 = some (tyX1 k) := by decide +kernel
abbrev cX1_init : ByteArray := prog_3_method_1_code
def yX1_init : MethodName := ⟨RX1, "<init>", "()V"⟩
abbrev cX1_append : ByteArray := prog_3_method_2_code
def yX1_append : MethodName := ⟨RX1, "append", "(CIII)V"⟩
abbrev cX1_retell : ByteArray := prog_3_method_3_code
def yX1_retell : MethodName := ⟨RX1, "retell", "(LFieldbook$Tally;)V"⟩
abbrev cX1_retellOne : ByteArray := prog_3_method_4_code
def yX1_retellOne : MethodName := ⟨RX1, "retellOne", "(ILFieldbook$Tally;)V"⟩
def RX2 : String := "Fieldbook$House"
def TX2 : u_T := fun k => match k with
  | 0 => ("Fieldbook$House", "place", "I", true)
  | 1 => ("Fieldbook$House", "state", "C", false)
  | 2 => ("Fieldbook$House", "wantedFromDay", "I", false)
  | 3 => ("Fieldbook$House", "visitsTold", "I", false)
  | 4 => ("Fieldbook$House", "visitsToNobody", "I", false)
  | 5 => ("Fieldbook$House", "refusals", "I", false)
  | 6 => ("Fieldbook$House", "refusedInterviewers", "I", false)
  | 7 => ("Fieldbook$House", "roundOf", "I", false)
  | 8 => ("Fieldbook$House", "toldToday", "Z", false)
  | 9 => ("Fieldbook$House", "lostToday", "Z", false)
  | _ => ("Fieldbook$House", "checked", "Z", false)
def tyX2 : Nat → FieldType := fun k => match k with
  | 0 => .int
  | 1 => .char
  | 2 => .int
  | 3 => .int
  | 4 => .int
  | 5 => .int
  | 6 => .int
  | 7 => .int
  | 8 => .boolean
  | 9 => .boolean
  | _ => .boolean
abbrev wsX20 : List Cond := u_ws RX2 TX2 11
theorem nmX2 : ∀ a, a < 11 → ∀ b, b < 11 → a ≠ b → (TX2 a).2.1 ≠ (TX2 b).2.1 := by decide +kernel
theorem tyX2_ok : ∀ k, k < 11 → parseFieldDescriptor (TX2 k).2.2.1 = some (tyX2 k) := by decide +kernel
abbrev cX2_init : ByteArray := prog_4_method_1_code
def yX2_init : MethodName := ⟨RX2, "<init>", "(I)V"⟩
abbrev cX2_beginDay : ByteArray := prog_4_method_2_code
def yX2_beginDay : MethodName := ⟨RX2, "beginDay", "()V"⟩
abbrev cX2_wantFrom : ByteArray := prog_4_method_3_code
def yX2_wantFrom : MethodName := ⟨RX2, "wantFrom", "(I)V"⟩
abbrev cX2_lose : ByteArray := prog_4_method_4_code
def yX2_lose : MethodName := ⟨RX2, "lose", "(C)V"⟩
abbrev cX2_meetNobody : ByteArray := prog_4_method_5_code
def yX2_meetNobody : MethodName := ⟨RX2, "meetNobody", "(I)V"⟩
abbrev cX2_refuse : ByteArray := prog_4_method_6_code
def yX2_refuse : MethodName := ⟨RX2, "refuse", "(II)V"⟩
abbrev cX2_hasRefused : ByteArray := prog_4_method_7_code
def yX2_hasRefused : MethodName := ⟨RX2, "hasRefused", "(I)Z"⟩
abbrev cX2_isFree : ByteArray := prog_4_method_8_code
def yX2_isFree : MethodName := ⟨RX2, "isFree", "(I)Z"⟩
def RX3 : String := "Fieldbook$Interviewer"
def TX3 : u_T := fun k => match k with
  | 0 => ("Fieldbook$Interviewer", "home", "I", true)
  | 1 => ("Fieldbook$Interviewer", "languages", "I", true)
  | 2 => ("Fieldbook$Interviewer", "minutes", "I", true)
  | 3 => ("Fieldbook$Interviewer", "round", "[I", true)
  | 4 => ("Fieldbook$Interviewer", "size", "I", false)
  | 5 => ("Fieldbook$Interviewer", "at", "I", false)
  | _ => ("Fieldbook$Interviewer", "minutesSoFar", "I", false)
def tyX3 : Nat → FieldType := fun k => match k with
  | 0 => .int
  | 1 => .int
  | 2 => .int
  | 3 => .array .int
  | 4 => .int
  | 5 => .int
  | _ => .int
abbrev wsX30 : List Cond := u_ws RX3 TX3 7
theorem nmX3 : ∀ a, a < 7 → ∀ b, b < 7 → a ≠ b → (TX3 a).2.1 ≠ (TX3 b).2.1 := by decide +kernel
theorem tyX3_ok : ∀ k, k < 7 → parseFieldDescriptor (TX3 k).2.2.1 = some (tyX3 k) := by decide +kernel
abbrev cX3_init : ByteArray := prog_5_method_1_code
def yX3_init : MethodName := ⟨RX3, "<init>", "(III)V"⟩
abbrev cX3_beginRound : ByteArray := prog_5_method_2_code
def yX3_beginRound : MethodName := ⟨RX3, "beginRound", "()V"⟩
abbrev cX3_speaks : ByteArray := prog_5_method_3_code
def yX3_speaks : MethodName := ⟨RX3, "speaks", "(I)Z"⟩
abbrev cX3_wayTo : ByteArray := prog_5_method_4_code
def yX3_wayTo : MethodName := ⟨RX3, "wayTo", "(I)I"⟩
abbrev cX3_hasTimeFor : ByteArray := prog_5_method_5_code
def yX3_hasTimeFor : MethodName := ⟨RX3, "hasTimeFor", "(I)Z"⟩
abbrev cX3_addToRound : ByteArray := prog_5_method_6_code
def yX3_addToRound : MethodName := ⟨RX3, "addToRound", "(II)V"⟩
abbrev cX3_minutesInAll : ByteArray := prog_5_method_7_code
def yX3_minutesInAll : MethodName := ⟨RX3, "minutesInAll", "()I"⟩
def RX4 : String := "Fieldbook$Tally"
def TX4 : u_T := fun k => match k with
  | 0 => ("Fieldbook$Tally", "answered", "[Z", true)
  | 1 => ("Fieldbook$Tally", "answers", "[I", true)
  | 2 => ("Fieldbook$Tally", "takenBy", "[I", true)
  | 3 => ("Fieldbook$Tally", "weights", "[I", true)
  | _ => ("Fieldbook$Tally", "faultsOf", "[I", true)
def tyX4 : Nat → FieldType := fun k => match k with
  | 0 => .array .boolean
  | 1 => .array .int
  | 2 => .array .int
  | 3 => .array .int
  | _ => .array .int
abbrev wsX40 : List Cond := u_ws RX4 TX4 5
theorem nmX4 : ∀ a, a < 5 → ∀ b, b < 5 → a ≠ b → (TX4 a).2.1 ≠ (TX4 b).2.1 := by decide +kernel
theorem tyX4_ok : ∀ k, k < 5 → parseFieldDescriptor (TX4 k).2.2.1 = some (tyX4 k) := by decide +kernel
abbrev cX4_init : ByteArray := prog_6_method_1_code
def yX4_init : MethodName := ⟨RX4, "<init>", "()V"⟩
abbrev cX4_clear : ByteArray := prog_6_method_2_code
def yX4_clear : MethodName := ⟨RX4, "clear", "()V"⟩
abbrev cX4_isBarred : ByteArray := prog_6_method_3_code
def yX4_isBarred : MethodName := ⟨RX4, "isBarred", "(I)Z"⟩
abbrev cX4_take : ByteArray := prog_6_method_4_code
def yX4_take : MethodName := ⟨RX4, "take", "(III)V"⟩
abbrev cX4_askAgain : ByteArray := prog_6_method_5_code
def yX4_askAgain : MethodName := ⟨RX4, "askAgain", "(II)Z"⟩
abbrev cX4_dropAnswersTo : ByteArray := prog_6_method_6_code
def yX4_dropAnswersTo : MethodName := ⟨RX4, "dropAnswersTo", "(I)V"⟩
abbrev cX4_fitTo : ByteArray := prog_6_method_7_code
def yX4_fitTo : MethodName := ⟨RX4, "fitTo", "(LFieldbook$Frame;)V"⟩
abbrev cX4_fitGroups : ByteArray := prog_6_method_8_code
def yX4_fitGroups : MethodName := ⟨RX4, "fitGroups", "([I[II)V"⟩
abbrev cX4_fitGroup : ByteArray := prog_6_method_9_code
def yX4_fitGroup : MethodName := ⟨RX4, "fitGroup", "([IIIII)V"⟩
abbrev cX4_spreadMissing : ByteArray := prog_6_method_10_code
def yX4_spreadMissing : MethodName := ⟨RX4, "spreadMissing", "([IIII)V"⟩
abbrev cX4_isInGroup : ByteArray := prog_6_method_11_code
def yX4_isInGroup : MethodName := ⟨RX4, "isInGroup", "([III)Z"⟩
abbrev cX4_membersOfGroup : ByteArray := prog_6_method_12_code
def yX4_membersOfGroup : MethodName := ⟨RX4, "membersOfGroup", "([III)I"⟩
abbrev cX4_sumOfGroup : ByteArray := prog_6_method_13_code
def yX4_sumOfGroup : MethodName := ⟨RX4, "sumOfGroup", "([III)I"⟩
abbrev cX4_meetsStratumTargets : ByteArray := prog_6_method_14_code
def yX4_meetsStratumTargets : MethodName := ⟨RX4, "meetsStratumTargets", "(LFieldbook$Frame;)Z"⟩
abbrev cX4_hasWeightsOf : ByteArray := prog_6_method_15_code
def yX4_hasWeightsOf : MethodName := ⟨RX4, "hasWeightsOf", "(LFieldbook$Tally;I)Z"⟩
def RX5 : String := "Fieldbook"
def TX5 : u_T := fun k => match k with
  | 0 => ("Fieldbook", "frame", "LFieldbook$Frame;", true)
  | 1 => ("Fieldbook", "houses", "[LFieldbook$House;", true)
  | 2 => ("Fieldbook", "interviewers", "[LFieldbook$Interviewer;", true)
  | 3 => ("Fieldbook", "kept", "LFieldbook$Tally;", true)
  | 4 => ("Fieldbook", "anew", "LFieldbook$Tally;", true)
  | 5 => ("Fieldbook", "history", "LFieldbook$History;", true)
  | 6 => ("Fieldbook", "interviewerCount", "I", false)
  | 7 => ("Fieldbook", "chanceNumber", "I", false)
  | _ => ("Fieldbook", "today", "I", false)
def tyX5 : Nat → FieldType := fun k => match k with
  | 0 => .object "Fieldbook$Frame"
  | 1 => .array (.object "Fieldbook$House")
  | 2 => .array (.object "Fieldbook$Interviewer")
  | 3 => .object "Fieldbook$Tally"
  | 4 => .object "Fieldbook$Tally"
  | 5 => .object "Fieldbook$History"
  | 6 => .int
  | 7 => .int
  | _ => .int
abbrev wsX50 : List Cond := u_ws RX5 TX5 9
theorem nmX5 : ∀ a, a < 9 → ∀ b, b < 9 → a ≠ b → (TX5 a).2.1 ≠ (TX5 b).2.1 := by decide +kernel
theorem tyX5_ok : ∀ k, k < 9 → parseFieldDescriptor (TX5 k).2.2.1 = some (tyX5 k) := by decide +kernel
abbrev cX5_init : ByteArray := prog_1_method_1_code
def yX5_init : MethodName := ⟨RX5, "<init>", "()V"⟩
abbrev cX5_setChance : ByteArray := prog_1_method_2_code
def yX5_setChance : MethodName := ⟨RX5, "setChance", "(I)I"⟩
abbrev cX5_addStratum : ByteArray := prog_1_method_3_code
def yX5_addStratum : MethodName := ⟨RX5, "addStratum", "()I"⟩
abbrev cX5_addHouse : ByteArray := prog_1_method_4_code
def yX5_addHouse : MethodName := ⟨RX5, "addHouse", "(III)I"⟩
abbrev cX5_addInterviewer : ByteArray := prog_1_method_5_code
def yX5_addInterviewer : MethodName := ⟨RX5, "addInterviewer", "(III)I"⟩
abbrev cX5_draw : ByteArray := prog_1_method_6_code
def yX5_draw : MethodName := ⟨RX5, "draw", "(II)I"⟩
abbrev cX5_day : ByteArray := prog_1_method_7_code
def yX5_day : MethodName := ⟨RX5, "day", "()I"⟩
abbrev cX5_roundSize : ByteArray := prog_1_method_8_code
def yX5_roundSize : MethodName := ⟨RX5, "roundSize", "(I)I"⟩
abbrev cX5_roundAt : ByteArray := prog_1_method_9_code
def yX5_roundAt : MethodName := ⟨RX5, "roundAt", "(II)I"⟩
abbrev cX5_roundMinutes : ByteArray := prog_1_method_10_code
def yX5_roundMinutes : MethodName := ⟨RX5, "roundMinutes", "(I)I"⟩
abbrev cX5_visit : ByteArray := prog_1_method_11_code
def yX5_visit : MethodName := ⟨RX5, "visit", "(ICI)I"⟩
abbrev cX5_check : ByteArray := prog_1_method_12_code
def yX5_check : MethodName := ⟨RX5, "check", "(II)Z"⟩
abbrev cX5_endDay : ByteArray := prog_1_method_13_code
def yX5_endDay : MethodName := ⟨RX5, "endDay", "()I"⟩
abbrev cX5_stateOf : ByteArray := prog_1_method_14_code
def yX5_stateOf : MethodName := ⟨RX5, "stateOf", "(I)C"⟩
abbrev cX5_wantedFrom : ByteArray := prog_1_method_15_code
def yX5_wantedFrom : MethodName := ⟨RX5, "wantedFrom", "(I)I"⟩
abbrev cX5_codeOf : ByteArray := prog_1_method_16_code
def yX5_codeOf : MethodName := ⟨RX5, "codeOf", "(I)I"⟩
abbrev cX5_answerOf : ByteArray := prog_1_method_17_code
def yX5_answerOf : MethodName := ⟨RX5, "answerOf", "(I)I"⟩
abbrev cX5_faults : ByteArray := prog_1_method_18_code
def yX5_faults : MethodName := ⟨RX5, "faults", "(I)I"⟩
abbrev cX5_answersTo : ByteArray := prog_1_method_19_code
def yX5_answersTo : MethodName := ⟨RX5, "answersTo", "(I)I"⟩
abbrev cX5_target : ByteArray := prog_1_method_20_code
def yX5_target : MethodName := ⟨RX5, "target", "(I)I"⟩
abbrev cX5_weight : ByteArray := prog_1_method_21_code
def yX5_weight : MethodName := ⟨RX5, "weight", "(I)I"⟩
abbrev cX5_weightAnew : ByteArray := prog_1_method_22_code
def yX5_weightAnew : MethodName := ⟨RX5, "weightAnew", "(I)I"⟩
abbrev cX5_weightOfLanguage : ByteArray := prog_1_method_23_code
def yX5_weightOfLanguage : MethodName := ⟨RX5, "weightOfLanguage", "(I)I"⟩
abbrev cX5_weightedSum : ByteArray := prog_1_method_24_code
def yX5_weightedSum : MethodName := ⟨RX5, "weightedSum", "()J"⟩
abbrev cX5_weightedMean : ByteArray := prog_1_method_25_code
def yX5_weightedMean : MethodName := ⟨RX5, "weightedMean", "()D"⟩
abbrev cX5_rate : ByteArray := prog_1_method_26_code
def yX5_rate : MethodName := ⟨RX5, "rate", "()F"⟩
abbrev cX5_isSound : ByteArray := prog_1_method_27_code
def yX5_isSound : MethodName := ⟨RX5, "isSound", "()Z"⟩
abbrev cX5_requireStratum : ByteArray := prog_1_method_28_code
def yX5_requireStratum : MethodName := ⟨RX5, "requireStratum", "(I)V"⟩
abbrev cX5_requireInterviewer : ByteArray := prog_1_method_29_code
def yX5_requireInterviewer : MethodName := ⟨RX5, "requireInterviewer", "(I)V"⟩
abbrev cX5_requirePlace : ByteArray := prog_1_method_30_code
def yX5_requirePlace : MethodName := ⟨RX5, "requirePlace", "(I)V"⟩
abbrev cX5_requireLanguage : ByteArray := prog_1_method_31_code
def yX5_requireLanguage : MethodName := ⟨RX5, "requireLanguage", "(I)V"⟩
abbrev cX5_requireOutcome : ByteArray := prog_1_method_32_code
def yX5_requireOutcome : MethodName := ⟨RX5, "requireOutcome", "(C)V"⟩
abbrev cX5_requireAnswer : ByteArray := prog_1_method_33_code
def yX5_requireAnswer : MethodName := ⟨RX5, "requireAnswer", "(I)V"⟩
abbrev cX5_requireOpenVisit : ByteArray := prog_1_method_34_code
def yX5_requireOpenVisit : MethodName := ⟨RX5, "requireOpenVisit", "(LFieldbook$House;)V"⟩
abbrev cX5_requireAnswered : ByteArray := prog_1_method_35_code
def yX5_requireAnswered : MethodName := ⟨RX5, "requireAnswered", "(I)V"⟩
abbrev cX5_houseNumbered : ByteArray := prog_1_method_36_code
def yX5_houseNumbered : MethodName := ⟨RX5, "houseNumbered", "(I)LFieldbook$House;"⟩
abbrev cX5_interviewerNumbered : ByteArray := prog_1_method_37_code
def yX5_interviewerNumbered : MethodName := ⟨RX5, "interviewerNumbered", "(I)LFieldbook$Interviewer;"⟩
abbrev cX5_isUndrawnIn : ByteArray := prog_1_method_38_code
def yX5_isUndrawnIn : MethodName := ⟨RX5, "isUndrawnIn", "(II)Z"⟩
abbrev cX5_undrawnIn : ByteArray := prog_1_method_39_code
def yX5_undrawnIn : MethodName := ⟨RX5, "undrawnIn", "(I)I"⟩
abbrev cX5_drawOne : ByteArray := prog_1_method_40_code
def yX5_drawOne : MethodName := ⟨RX5, "drawOne", "(I)I"⟩
abbrev cX5_replaceLostHouses : ByteArray := prog_1_method_41_code
def yX5_replaceLostHouses : MethodName := ⟨RX5, "replaceLostHouses", "()I"⟩
abbrev cX5_makeRounds : ByteArray := prog_1_method_42_code
def yX5_makeRounds : MethodName := ⟨RX5, "makeRounds", "()V"⟩
abbrev cX5_makeRound : ByteArray := prog_1_method_43_code
def yX5_makeRound : MethodName := ⟨RX5, "makeRound", "(I)V"⟩
abbrev cX5_nearestFor : ByteArray := prog_1_method_44_code
def yX5_nearestFor : MethodName := ⟨RX5, "nearestFor", "(I)I"⟩
abbrev cX5_canAdd : ByteArray := prog_1_method_45_code
def yX5_canAdd : MethodName := ⟨RX5, "canAdd", "(II)Z"⟩
abbrev cX5_takeAnswer : ByteArray := prog_1_method_46_code
def yX5_takeAnswer : MethodName := ⟨RX5, "takeAnswer", "(III)V"⟩
abbrev cX5_wantLostAnswersAgain : ByteArray := prog_1_method_47_code
def yX5_wantLostAnswersAgain : MethodName := ⟨RX5, "wantLostAnswersAgain", "()V"⟩
abbrev cX5_weighAnew : ByteArray := prog_1_method_48_code
def yX5_weighAnew : MethodName := ⟨RX5, "weighAnew", "()V"⟩
abbrev cX5_sumOfWeights : ByteArray := prog_1_method_49_code
def yX5_sumOfWeights : MethodName := ⟨RX5, "sumOfWeights", "()J"⟩
def RX6 : String := "FieldbookModel"
def TX6 : u_T := fun k => match k with
  | 0 => ("FieldbookModel", "thrown", "I", false)
  | 1 => ("FieldbookModel", "chance", "I", false)
  | 2 => ("FieldbookModel", "strata", "I", false)
  | 3 => ("FieldbookModel", "houses", "I", false)
  | 4 => ("FieldbookModel", "interviewers", "I", false)
  | 5 => ("FieldbookModel", "day", "I", false)
  | 6 => ("FieldbookModel", "stratum", "[I", true)
  | 7 => ("FieldbookModel", "place", "[I", true)
  | 8 => ("FieldbookModel", "language", "[I", true)
  | 9 => ("FieldbookModel", "state", "[I", true)
  | 10 => ("FieldbookModel", "from", "[I", true)
  | 11 => ("FieldbookModel", "told", "[I", true)
  | 12 => ("FieldbookModel", "absent", "[I", true)
  | 13 => ("FieldbookModel", "refusals", "[I", true)
  | 14 => ("FieldbookModel", "refused", "[I", true)
  | 15 => ("FieldbookModel", "answer", "[I", true)
  | 16 => ("FieldbookModel", "answeredTo", "[I", true)
  | 17 => ("FieldbookModel", "answeredIn", "[I", true)
  | 18 => ("FieldbookModel", "weight", "[I", true)
  | 19 => ("FieldbookModel", "isReplacing", "[Z", true)
  | 20 => ("FieldbookModel", "isChecked", "[Z", true)
  | 21 => ("FieldbookModel", "isLostToday", "[Z", true)
  | 22 => ("FieldbookModel", "isTold", "[Z", true)
  | 23 => ("FieldbookModel", "inRound", "[I", true)
  | 24 => ("FieldbookModel", "round", "[I", true)
  | 25 => ("FieldbookModel", "size", "[I", true)
  | 26 => ("FieldbookModel", "minutes", "[I", true)
  | 27 => ("FieldbookModel", "home", "[I", true)
  | 28 => ("FieldbookModel", "speaks", "[I", true)
  | 29 => ("FieldbookModel", "limit", "[I", true)
  | _ => ("FieldbookModel", "faults", "[I", true)
def tyX6 : Nat → FieldType := fun k => match k with
  | 0 => .int
  | 1 => .int
  | 2 => .int
  | 3 => .int
  | 4 => .int
  | 5 => .int
  | 6 => .array .int
  | 7 => .array .int
  | 8 => .array .int
  | 9 => .array .int
  | 10 => .array .int
  | 11 => .array .int
  | 12 => .array .int
  | 13 => .array .int
  | 14 => .array .int
  | 15 => .array .int
  | 16 => .array .int
  | 17 => .array .int
  | 18 => .array .int
  | 19 => .array .boolean
  | 20 => .array .boolean
  | 21 => .array .boolean
  | 22 => .array .boolean
  | 23 => .array .int
  | 24 => .array .int
  | 25 => .array .int
  | 26 => .array .int
  | 27 => .array .int
  | 28 => .array .int
  | 29 => .array .int
  | _ => .array .int
abbrev wsX60 : List Cond := u_ws RX6 TX6 31
theorem nmX6 : ∀ a, a < 31 → ∀ b, b < 31 → a ≠ b → (TX6 a).2.1 ≠ (TX6 b).2.1 := by decide +kernel
theorem tyX6_ok : ∀ k, k < 31 → parseFieldDescriptor (TX6 k).2.2.1 = some (tyX6 k) := by decide +kernel
abbrev cX6_init : ByteArray := prog_8_method_1_code
def yX6_init : MethodName := ⟨RX6, "<init>", "()V"⟩
abbrev cX6_thrown : ByteArray := prog_8_method_2_code
def yX6_thrown : MethodName := ⟨RX6, "thrown", "()I"⟩
abbrev cX6_fails : ByteArray := prog_8_method_3_code
def yX6_fails : MethodName := ⟨RX6, "fails", "(I)I"⟩
abbrev cX6_in : ByteArray := prog_8_method_4_code
def yX6_in : MethodName := ⟨RX6, "in", "(III)Z"⟩
abbrev cX6_isHouse : ByteArray := prog_8_method_5_code
def yX6_isHouse : MethodName := ⟨RX6, "isHouse", "(I)Z"⟩
abbrev cX6_isInterviewer : ByteArray := prog_8_method_6_code
def yX6_isInterviewer : MethodName := ⟨RX6, "isInterviewer", "(I)Z"⟩
abbrev cX6_setChance : ByteArray := prog_8_method_7_code
def yX6_setChance : MethodName := ⟨RX6, "setChance", "(I)I"⟩
abbrev cX6_addStratum : ByteArray := prog_8_method_8_code
def yX6_addStratum : MethodName := ⟨RX6, "addStratum", "()I"⟩
abbrev cX6_addHouse : ByteArray := prog_8_method_9_code
def yX6_addHouse : MethodName := ⟨RX6, "addHouse", "(III)I"⟩
abbrev cX6_addInterviewer : ByteArray := prog_8_method_10_code
def yX6_addInterviewer : MethodName := ⟨RX6, "addInterviewer", "(III)I"⟩
abbrev cX6_undrawn : ByteArray := prog_8_method_11_code
def yX6_undrawn : MethodName := ⟨RX6, "undrawn", "(I)I"⟩
abbrev cX6_draws : ByteArray := prog_8_method_12_code
def yX6_draws : MethodName := ⟨RX6, "draws", "(IZ)I"⟩
abbrev cX6_draw : ByteArray := prog_8_method_13_code
def yX6_draw : MethodName := ⟨RX6, "draw", "(II)I"⟩
abbrev cX6_day : ByteArray := prog_8_method_14_code
def yX6_day : MethodName := ⟨RX6, "day", "()I"⟩
abbrev cX6_way : ByteArray := prog_8_method_15_code
def yX6_way : MethodName := ⟨RX6, "way", "(II)I"⟩
abbrev cX6_next : ByteArray := prog_8_method_16_code
def yX6_next : MethodName := ⟨RX6, "next", "(II)I"⟩
abbrev cX6_rounds : ByteArray := prog_8_method_17_code
def yX6_rounds : MethodName := ⟨RX6, "rounds", "()V"⟩
abbrev cX6_roundSize : ByteArray := prog_8_method_18_code
def yX6_roundSize : MethodName := ⟨RX6, "roundSize", "(I)I"⟩
abbrev cX6_roundAt : ByteArray := prog_8_method_19_code
def yX6_roundAt : MethodName := ⟨RX6, "roundAt", "(II)I"⟩
abbrev cX6_roundMinutes : ByteArray := prog_8_method_20_code
def yX6_roundMinutes : MethodName := ⟨RX6, "roundMinutes", "(I)I"⟩
abbrev cX6_visit : ByteArray := prog_8_method_21_code
def yX6_visit : MethodName := ⟨RX6, "visit", "(ICI)I"⟩
abbrev cX6_check : ByteArray := prog_8_method_22_code
def yX6_check : MethodName := ⟨RX6, "check", "(II)Z"⟩
abbrev cX6_endDay : ByteArray := prog_8_method_23_code
def yX6_endDay : MethodName := ⟨RX6, "endDay", "()I"⟩
abbrev cX6_stateOf : ByteArray := prog_8_method_24_code
def yX6_stateOf : MethodName := ⟨RX6, "stateOf", "(I)C"⟩
abbrev cX6_wantedFrom : ByteArray := prog_8_method_25_code
def yX6_wantedFrom : MethodName := ⟨RX6, "wantedFrom", "(I)I"⟩
abbrev cX6_codeOf : ByteArray := prog_8_method_26_code
def yX6_codeOf : MethodName := ⟨RX6, "codeOf", "(I)I"⟩
abbrev cX6_answerOf : ByteArray := prog_8_method_27_code
def yX6_answerOf : MethodName := ⟨RX6, "answerOf", "(I)I"⟩
abbrev cX6_faults : ByteArray := prog_8_method_28_code
def yX6_faults : MethodName := ⟨RX6, "faults", "(I)I"⟩
abbrev cX6_answersTo : ByteArray := prog_8_method_29_code
def yX6_answersTo : MethodName := ⟨RX6, "answersTo", "(I)I"⟩
abbrev cX6_isOf : ByteArray := prog_8_method_30_code
def yX6_isOf : MethodName := ⟨RX6, "isOf", "(IIZ)Z"⟩
abbrev cX6_goal : ByteArray := prog_8_method_31_code
def yX6_goal : MethodName := ⟨RX6, "goal", "(IZ)I"⟩
abbrev cX6_fits : ByteArray := prog_8_method_32_code
def yX6_fits : MethodName := ⟨RX6, "fits", "(IZ)V"⟩
abbrev cX6_weighs : ByteArray := prog_8_method_33_code
def yX6_weighs : MethodName := ⟨RX6, "weighs", "()V"⟩
abbrev cX6_target : ByteArray := prog_8_method_34_code
def yX6_target : MethodName := ⟨RX6, "target", "(I)I"⟩
abbrev cX6_weight : ByteArray := prog_8_method_35_code
def yX6_weight : MethodName := ⟨RX6, "weight", "(I)I"⟩
abbrev cX6_weightAnew : ByteArray := prog_8_method_36_code
def yX6_weightAnew : MethodName := ⟨RX6, "weightAnew", "(I)I"⟩
abbrev cX6_weightOfLanguage : ByteArray := prog_8_method_37_code
def yX6_weightOfLanguage : MethodName := ⟨RX6, "weightOfLanguage", "(I)I"⟩
abbrev cX6_weightedSum : ByteArray := prog_8_method_38_code
def yX6_weightedSum : MethodName := ⟨RX6, "weightedSum", "()J"⟩
abbrev cX6_weightedMean : ByteArray := prog_8_method_39_code
def yX6_weightedMean : MethodName := ⟨RX6, "weightedMean", "()D"⟩
abbrev cX6_rate : ByteArray := prog_8_method_40_code
def yX6_rate : MethodName := ⟨RX6, "rate", "()F"⟩
abbrev cX6_isSound : ByteArray := prog_8_method_41_code
def yX6_isSound : MethodName := ⟨RX6, "isSound", "()Z"⟩
def RL : String := "FieldbookLaw"
abbrev cL_setChance : ByteArray := method_3_code
def yL_setChance : MethodName := ⟨RL, "setChance", "(LFieldbook;I[J)I"⟩
abbrev cL_addStratum : ByteArray := method_4_code
def yL_addStratum : MethodName := ⟨RL, "addStratum", "(LFieldbook;[J)I"⟩
abbrev cL_addHouse : ByteArray := method_5_code
def yL_addHouse : MethodName := ⟨RL, "addHouse", "(LFieldbook;III[J)I"⟩
abbrev cL_addInterviewer : ByteArray := method_6_code
def yL_addInterviewer : MethodName := ⟨RL, "addInterviewer", "(LFieldbook;III[J)I"⟩
abbrev cL_draw : ByteArray := method_7_code
def yL_draw : MethodName := ⟨RL, "draw", "(LFieldbook;II[J)I"⟩
abbrev cL_roundSize : ByteArray := method_8_code
def yL_roundSize : MethodName := ⟨RL, "roundSize", "(LFieldbook;I[J)I"⟩
abbrev cL_roundAt : ByteArray := method_9_code
def yL_roundAt : MethodName := ⟨RL, "roundAt", "(LFieldbook;II[J)I"⟩
abbrev cL_roundMinutes : ByteArray := method_10_code
def yL_roundMinutes : MethodName := ⟨RL, "roundMinutes", "(LFieldbook;I[J)I"⟩
abbrev cL_visit : ByteArray := method_11_code
def yL_visit : MethodName := ⟨RL, "visit", "(LFieldbook;ICI[J)I"⟩
abbrev cL_check : ByteArray := method_12_code
def yL_check : MethodName := ⟨RL, "check", "(LFieldbook;II[J)I"⟩
abbrev cL_endDay : ByteArray := method_13_code
def yL_endDay : MethodName := ⟨RL, "endDay", "(LFieldbook;[J)I"⟩
abbrev cL_stateOf : ByteArray := method_14_code
def yL_stateOf : MethodName := ⟨RL, "stateOf", "(LFieldbook;I[J)I"⟩
abbrev cL_wantedFrom : ByteArray := method_15_code
def yL_wantedFrom : MethodName := ⟨RL, "wantedFrom", "(LFieldbook;I[J)I"⟩
abbrev cL_codeOf : ByteArray := method_16_code
def yL_codeOf : MethodName := ⟨RL, "codeOf", "(LFieldbook;I[J)I"⟩
abbrev cL_answerOf : ByteArray := method_17_code
def yL_answerOf : MethodName := ⟨RL, "answerOf", "(LFieldbook;I[J)I"⟩
abbrev cL_faults : ByteArray := method_18_code
def yL_faults : MethodName := ⟨RL, "faults", "(LFieldbook;I[J)I"⟩
abbrev cL_answersTo : ByteArray := method_19_code
def yL_answersTo : MethodName := ⟨RL, "answersTo", "(LFieldbook;I[J)I"⟩
abbrev cL_target : ByteArray := method_20_code
def yL_target : MethodName := ⟨RL, "target", "(LFieldbook;I[J)I"⟩
abbrev cL_weight : ByteArray := method_21_code
def yL_weight : MethodName := ⟨RL, "weight", "(LFieldbook;I[J)I"⟩
abbrev cL_weightAnew : ByteArray := method_22_code
def yL_weightAnew : MethodName := ⟨RL, "weightAnew", "(LFieldbook;I[J)I"⟩
abbrev cL_weightOfLanguage : ByteArray := method_23_code
def yL_weightOfLanguage : MethodName := ⟨RL, "weightOfLanguage", "(LFieldbook;I[J)I"⟩
abbrev cL_weightedMean : ByteArray := method_24_code
def yL_weightedMean : MethodName := ⟨RL, "weightedMean", "(LFieldbook;[D)I"⟩
abbrev cL_rate : ByteArray := method_25_code
def yL_rate : MethodName := ⟨RL, "rate", "(LFieldbook;[D)I"⟩
abbrev cL_law : ByteArray := code
def yL_law : MethodName := ⟨RL, "law", "([I)Z"⟩
end
section
theorem dX6_init_0 : decode cX6_init 0 = .ok (.aload_n 0, 1) := by decide +kernel
theorem dX6_init_1 : decode cX6_init 1 = .ok (.invokespecial 1, 3) := by decide +kernel
theorem dX6_init_4 : decode cX6_init 4 = .ok (.aload_n 0, 1) := by decide +kernel
theorem dX6_init_5 : decode cX6_init 5 = .ok (.iconst 1, 1) := by decide +kernel
theorem dX6_init_6 : decode cX6_init 6 = .ok (.putfield 7, 3) := by decide +kernel
theorem dX6_init_9 : decode cX6_init 9 = .ok (.aload_n 0, 1) := by decide +kernel
theorem dX6_init_10 : decode cX6_init 10 = .ok (.bipush 24, 2) := by decide +kernel
theorem dX6_init_12 : decode cX6_init 12 = .ok (.newarray .int, 2) := by decide +kernel
theorem dX6_init_14 : decode cX6_init 14 = .ok (.putfield 13, 3) := by decide +kernel
theorem dX6_init_17 : decode cX6_init 17 = .ok (.aload_n 0, 1) := by decide +kernel
theorem dX6_init_18 : decode cX6_init 18 = .ok (.bipush 24, 2) := by decide +kernel
theorem dX6_init_20 : decode cX6_init 20 = .ok (.newarray .int, 2) := by decide +kernel
theorem dX6_init_22 : decode cX6_init 22 = .ok (.putfield 17, 3) := by decide +kernel
theorem dX6_init_25 : decode cX6_init 25 = .ok (.aload_n 0, 1) := by decide +kernel
theorem dX6_init_26 : decode cX6_init 26 = .ok (.bipush 24, 2) := by decide +kernel
theorem dX6_init_28 : decode cX6_init 28 = .ok (.newarray .int, 2) := by decide +kernel
theorem dX6_init_30 : decode cX6_init 30 = .ok (.putfield 20, 3) := by decide +kernel
theorem dX6_init_33 : decode cX6_init 33 = .ok (.aload_n 0, 1) := by decide +kernel
theorem dX6_init_34 : decode cX6_init 34 = .ok (.bipush 24, 2) := by decide +kernel
theorem dX6_init_36 : decode cX6_init 36 = .ok (.newarray .int, 2) := by decide +kernel
theorem dX6_init_38 : decode cX6_init 38 = .ok (.putfield 23, 3) := by decide +kernel
theorem dX6_init_41 : decode cX6_init 41 = .ok (.aload_n 0, 1) := by decide +kernel
theorem dX6_init_42 : decode cX6_init 42 = .ok (.bipush 24, 2) := by decide +kernel
theorem dX6_init_44 : decode cX6_init 44 = .ok (.newarray .int, 2) := by decide +kernel
theorem dX6_init_46 : decode cX6_init 46 = .ok (.putfield 26, 3) := by decide +kernel
theorem dX6_init_49 : decode cX6_init 49 = .ok (.aload_n 0, 1) := by decide +kernel
theorem dX6_init_50 : decode cX6_init 50 = .ok (.bipush 24, 2) := by decide +kernel
theorem dX6_init_52 : decode cX6_init 52 = .ok (.newarray .int, 2) := by decide +kernel
theorem dX6_init_54 : decode cX6_init 54 = .ok (.putfield 29, 3) := by decide +kernel
theorem dX6_init_57 : decode cX6_init 57 = .ok (.aload_n 0, 1) := by decide +kernel
theorem dX6_init_58 : decode cX6_init 58 = .ok (.bipush 24, 2) := by decide +kernel
theorem dX6_init_60 : decode cX6_init 60 = .ok (.newarray .int, 2) := by decide +kernel
theorem dX6_init_62 : decode cX6_init 62 = .ok (.putfield 32, 3) := by decide +kernel
theorem dX6_init_65 : decode cX6_init 65 = .ok (.aload_n 0, 1) := by decide +kernel
theorem dX6_init_66 : decode cX6_init 66 = .ok (.bipush 24, 2) := by decide +kernel
theorem dX6_init_68 : decode cX6_init 68 = .ok (.newarray .int, 2) := by decide +kernel
theorem dX6_init_70 : decode cX6_init 70 = .ok (.putfield 35, 3) := by decide +kernel
theorem dX6_init_73 : decode cX6_init 73 = .ok (.aload_n 0, 1) := by decide +kernel
theorem dX6_init_74 : decode cX6_init 74 = .ok (.bipush 24, 2) := by decide +kernel
theorem dX6_init_76 : decode cX6_init 76 = .ok (.newarray .int, 2) := by decide +kernel
theorem dX6_init_78 : decode cX6_init 78 = .ok (.putfield 38, 3) := by decide +kernel
theorem dX6_init_81 : decode cX6_init 81 = .ok (.aload_n 0, 1) := by decide +kernel
theorem dX6_init_82 : decode cX6_init 82 = .ok (.bipush 24, 2) := by decide +kernel
theorem dX6_init_84 : decode cX6_init 84 = .ok (.newarray .int, 2) := by decide +kernel
theorem dX6_init_86 : decode cX6_init 86 = .ok (.putfield 41, 3) := by decide +kernel
theorem dX6_init_89 : decode cX6_init 89 = .ok (.aload_n 0, 1) := by decide +kernel
theorem dX6_init_90 : decode cX6_init 90 = .ok (.bipush 24, 2) := by decide +kernel
theorem dX6_init_92 : decode cX6_init 92 = .ok (.newarray .int, 2) := by decide +kernel
theorem dX6_init_94 : decode cX6_init 94 = .ok (.putfield 44, 3) := by decide +kernel
theorem dX6_init_97 : decode cX6_init 97 = .ok (.aload_n 0, 1) := by decide +kernel
theorem dX6_init_98 : decode cX6_init 98 = .ok (.bipush 24, 2) := by decide +kernel
theorem dX6_init_100 : decode cX6_init 100 = .ok (.newarray .int, 2) := by decide +kernel
theorem dX6_init_102 : decode cX6_init 102 = .ok (.putfield 47, 3) := by decide +kernel
theorem dX6_init_105 : decode cX6_init 105 = .ok (.aload_n 0, 1) := by decide +kernel
theorem dX6_init_106 : decode cX6_init 106 = .ok (.bipush 24, 2) := by decide +kernel
theorem dX6_init_108 : decode cX6_init 108 = .ok (.newarray .int, 2) := by decide +kernel
theorem dX6_init_110 : decode cX6_init 110 = .ok (.putfield 50, 3) := by decide +kernel
theorem dX6_init_113 : decode cX6_init 113 = .ok (.aload_n 0, 1) := by decide +kernel
theorem dX6_init_114 : decode cX6_init 114 = .ok (.bipush 24, 2) := by decide +kernel
theorem dX6_init_116 : decode cX6_init 116 = .ok (.newarray .boolean, 2) := by decide +kernel
theorem dX6_init_118 : decode cX6_init 118 = .ok (.putfield 53, 3) := by decide +kernel
theorem dX6_init_121 : decode cX6_init 121 = .ok (.aload_n 0, 1) := by decide +kernel
theorem dX6_init_122 : decode cX6_init 122 = .ok (.bipush 24, 2) := by decide +kernel
theorem dX6_init_124 : decode cX6_init 124 = .ok (.newarray .boolean, 2) := by decide +kernel
theorem dX6_init_126 : decode cX6_init 126 = .ok (.putfield 57, 3) := by decide +kernel
theorem dX6_init_129 : decode cX6_init 129 = .ok (.aload_n 0, 1) := by decide +kernel
theorem dX6_init_130 : decode cX6_init 130 = .ok (.bipush 24, 2) := by decide +kernel
theorem dX6_init_132 : decode cX6_init 132 = .ok (.newarray .boolean, 2) := by decide +kernel
theorem dX6_init_134 : decode cX6_init 134 = .ok (.putfield 60, 3) := by decide +kernel
theorem dX6_init_137 : decode cX6_init 137 = .ok (.aload_n 0, 1) := by decide +kernel
theorem dX6_init_138 : decode cX6_init 138 = .ok (.bipush 24, 2) := by decide +kernel
theorem dX6_init_140 : decode cX6_init 140 = .ok (.newarray .boolean, 2) := by decide +kernel
theorem dX6_init_142 : decode cX6_init 142 = .ok (.putfield 63, 3) := by decide +kernel
theorem dX6_init_145 : decode cX6_init 145 = .ok (.aload_n 0, 1) := by decide +kernel
theorem dX6_init_146 : decode cX6_init 146 = .ok (.bipush 24, 2) := by decide +kernel
theorem dX6_init_148 : decode cX6_init 148 = .ok (.newarray .int, 2) := by decide +kernel
theorem dX6_init_150 : decode cX6_init 150 = .ok (.putfield 66, 3) := by decide +kernel
theorem dX6_init_153 : decode cX6_init 153 = .ok (.aload_n 0, 1) := by decide +kernel
theorem dX6_init_154 : decode cX6_init 154 = .ok (.bipush 96, 2) := by decide +kernel
theorem dX6_init_156 : decode cX6_init 156 = .ok (.newarray .int, 2) := by decide +kernel
theorem dX6_init_158 : decode cX6_init 158 = .ok (.putfield 69, 3) := by decide +kernel
theorem dX6_init_161 : decode cX6_init 161 = .ok (.aload_n 0, 1) := by decide +kernel
theorem dX6_init_162 : decode cX6_init 162 = .ok (.iconst 4, 1) := by decide +kernel
theorem dX6_init_163 : decode cX6_init 163 = .ok (.newarray .int, 2) := by decide +kernel
theorem dX6_init_165 : decode cX6_init 165 = .ok (.putfield 72, 3) := by decide +kernel
theorem dX6_init_168 : decode cX6_init 168 = .ok (.aload_n 0, 1) := by decide +kernel
theorem dX6_init_169 : decode cX6_init 169 = .ok (.iconst 4, 1) := by decide +kernel
theorem dX6_init_170 : decode cX6_init 170 = .ok (.newarray .int, 2) := by decide +kernel
theorem dX6_init_172 : decode cX6_init 172 = .ok (.putfield 75, 3) := by decide +kernel
theorem dX6_init_175 : decode cX6_init 175 = .ok (.aload_n 0, 1) := by decide +kernel
theorem dX6_init_176 : decode cX6_init 176 = .ok (.iconst 4, 1) := by decide +kernel
theorem dX6_init_177 : decode cX6_init 177 = .ok (.newarray .int, 2) := by decide +kernel
theorem dX6_init_179 : decode cX6_init 179 = .ok (.putfield 78, 3) := by decide +kernel
theorem dX6_init_182 : decode cX6_init 182 = .ok (.aload_n 0, 1) := by decide +kernel
theorem dX6_init_183 : decode cX6_init 183 = .ok (.iconst 4, 1) := by decide +kernel
theorem dX6_init_184 : decode cX6_init 184 = .ok (.newarray .int, 2) := by decide +kernel
theorem dX6_init_186 : decode cX6_init 186 = .ok (.putfield 81, 3) := by decide +kernel
theorem dX6_init_189 : decode cX6_init 189 = .ok (.aload_n 0, 1) := by decide +kernel
theorem dX6_init_190 : decode cX6_init 190 = .ok (.iconst 4, 1) := by decide +kernel
theorem dX6_init_191 : decode cX6_init 191 = .ok (.newarray .int, 2) := by decide +kernel
theorem dX6_init_193 : decode cX6_init 193 = .ok (.putfield 84, 3) := by decide +kernel
theorem dX6_init_196 : decode cX6_init 196 = .ok (.aload_n 0, 1) := by decide +kernel
theorem dX6_init_197 : decode cX6_init 197 = .ok (.iconst 4, 1) := by decide +kernel
theorem dX6_init_198 : decode cX6_init 198 = .ok (.newarray .int, 2) := by decide +kernel
theorem dX6_init_200 : decode cX6_init 200 = .ok (.putfield 87, 3) := by decide +kernel
theorem dX6_init_203 : decode cX6_init 203 = .ok (.return_, 1) := by decide +kernel
theorem dX6_thrown_0 : decode cX6_thrown 0 = .ok (.aload_n 0, 1) := by decide +kernel
theorem dX6_thrown_1 : decode cX6_thrown 1 = .ok (.getfield 90, 3) := by decide +kernel
theorem dX6_thrown_4 : decode cX6_thrown 4 = .ok (.ireturn, 1) := by decide +kernel
theorem dX6_fails_0 : decode cX6_fails 0 = .ok (.aload_n 0, 1) := by decide +kernel
theorem dX6_fails_1 : decode cX6_fails 1 = .ok (.iload_n 1, 1) := by decide +kernel
theorem dX6_fails_2 : decode cX6_fails 2 = .ok (.putfield 90, 3) := by decide +kernel
theorem dX6_fails_5 : decode cX6_fails 5 = .ok (.iconst 0, 1) := by decide +kernel
theorem dX6_fails_6 : decode cX6_fails 6 = .ok (.ireturn, 1) := by decide +kernel
theorem dX6_in_0 : decode cX6_in 0 = .ok (.iload_n 0, 1) := by decide +kernel
theorem dX6_in_1 : decode cX6_in 1 = .ok (.iload_n 1, 1) := by decide +kernel
theorem dX6_in_2 : decode cX6_in 2 = .ok (.if_icmp .lt 12, 3) := by decide +kernel
theorem dX6_in_5 : decode cX6_in 5 = .ok (.iload_n 0, 1) := by decide +kernel
theorem dX6_in_6 : decode cX6_in 6 = .ok (.iload_n 2, 1) := by decide +kernel
theorem dX6_in_7 : decode cX6_in 7 = .ok (.if_icmp .gt 7, 3) := by decide +kernel
theorem dX6_in_10 : decode cX6_in 10 = .ok (.iconst 1, 1) := by decide +kernel
theorem dX6_in_11 : decode cX6_in 11 = .ok (.goto 4, 3) := by decide +kernel
theorem dX6_in_14 : decode cX6_in 14 = .ok (.iconst 0, 1) := by decide +kernel
theorem dX6_in_15 : decode cX6_in 15 = .ok (.ireturn, 1) := by decide +kernel
theorem dX6_isHouse_0 : decode cX6_isHouse 0 = .ok (.aload_n 0, 1) := by decide +kernel
theorem dX6_isHouse_1 : decode cX6_isHouse 1 = .ok (.iload_n 1, 1) := by decide +kernel
theorem dX6_isHouse_2 : decode cX6_isHouse 2 = .ok (.iconst 0, 1) := by decide +kernel
theorem dX6_isHouse_3 : decode cX6_isHouse 3 = .ok (.aload_n 0, 1) := by decide +kernel
theorem dX6_isHouse_4 : decode cX6_isHouse 4 = .ok (.getfield 93, 3) := by decide +kernel
theorem dX6_isHouse_7 : decode cX6_isHouse 7 = .ok (.iconst 1, 1) := by decide +kernel
theorem dX6_isHouse_8 : decode cX6_isHouse 8 = .ok (.isub, 1) := by decide +kernel
theorem dX6_isHouse_9 : decode cX6_isHouse 9 = .ok (.invokestatic 96, 3) := by decide +kernel
theorem dX6_isHouse_12 : decode cX6_isHouse 12 = .ok (.ifCond .eq 7, 3) := by decide +kernel
theorem dX6_isHouse_15 : decode cX6_isHouse 15 = .ok (.iconst 0, 1) := by decide +kernel
theorem dX6_isHouse_16 : decode cX6_isHouse 16 = .ok (.goto 4, 3) := by decide +kernel
theorem dX6_isHouse_19 : decode cX6_isHouse 19 = .ok (.iconst 1, 1) := by decide +kernel
theorem dX6_isHouse_20 : decode cX6_isHouse 20 = .ok (.putfield 90, 3) := by decide +kernel
theorem dX6_isHouse_23 : decode cX6_isHouse 23 = .ok (.aload_n 0, 1) := by decide +kernel
theorem dX6_isHouse_24 : decode cX6_isHouse 24 = .ok (.getfield 90, 3) := by decide +kernel
theorem dX6_isHouse_27 : decode cX6_isHouse 27 = .ok (.ifCond .ne 7, 3) := by decide +kernel
theorem dX6_isHouse_30 : decode cX6_isHouse 30 = .ok (.iconst 1, 1) := by decide +kernel
theorem dX6_isHouse_31 : decode cX6_isHouse 31 = .ok (.goto 4, 3) := by decide +kernel
theorem dX6_isHouse_34 : decode cX6_isHouse 34 = .ok (.iconst 0, 1) := by decide +kernel
theorem dX6_isHouse_35 : decode cX6_isHouse 35 = .ok (.ireturn, 1) := by decide +kernel
theorem dX6_isInterviewer_0 : decode cX6_isInterviewer 0 = .ok (.aload_n 0, 1) := by decide +kernel
theorem dX6_isInterviewer_1 : decode cX6_isInterviewer 1 = .ok (.iload_n 1, 1) := by decide +kernel
theorem dX6_isInterviewer_2 : decode cX6_isInterviewer 2 = .ok (.iconst 0, 1) := by decide +kernel
theorem dX6_isInterviewer_3 : decode cX6_isInterviewer 3 = .ok (.aload_n 0, 1) := by decide +kernel
theorem dX6_isInterviewer_4 : decode cX6_isInterviewer 4 = .ok (.getfield 100, 3) := by decide +kernel
theorem dX6_isInterviewer_7 : decode cX6_isInterviewer 7 = .ok (.iconst 1, 1) := by decide +kernel
theorem dX6_isInterviewer_8 : decode cX6_isInterviewer 8 = .ok (.isub, 1) := by decide +kernel
theorem dX6_isInterviewer_9 : decode cX6_isInterviewer 9 = .ok (.invokestatic 96, 3) := by decide +kernel
theorem dX6_isInterviewer_12 : decode cX6_isInterviewer 12 = .ok (.ifCond .eq 7, 3) := by decide +kernel
theorem dX6_isInterviewer_15 : decode cX6_isInterviewer 15 = .ok (.iconst 0, 1) := by decide +kernel
theorem dX6_isInterviewer_16 : decode cX6_isInterviewer 16 = .ok (.goto 4, 3) := by decide +kernel
theorem dX6_isInterviewer_19 : decode cX6_isInterviewer 19 = .ok (.iconst 1, 1) := by decide +kernel
theorem dX6_isInterviewer_20 : decode cX6_isInterviewer 20 = .ok (.putfield 90, 3) := by decide +kernel
theorem dX6_isInterviewer_23 : decode cX6_isInterviewer 23 = .ok (.aload_n 0, 1) := by decide +kernel
theorem dX6_isInterviewer_24 : decode cX6_isInterviewer 24 = .ok (.getfield 90, 3) := by decide +kernel
theorem dX6_isInterviewer_27 : decode cX6_isInterviewer 27 = .ok (.ifCond .ne 7, 3) := by decide +kernel
theorem dX6_isInterviewer_30 : decode cX6_isInterviewer 30 = .ok (.iconst 1, 1) := by decide +kernel
theorem dX6_isInterviewer_31 : decode cX6_isInterviewer 31 = .ok (.goto 4, 3) := by decide +kernel
theorem dX6_isInterviewer_34 : decode cX6_isInterviewer 34 = .ok (.iconst 0, 1) := by decide +kernel
theorem dX6_isInterviewer_35 : decode cX6_isInterviewer 35 = .ok (.ireturn, 1) := by decide +kernel
theorem dX6_setChance_0 : decode cX6_setChance 0 = .ok (.iload_n 1, 1) := by decide +kernel
theorem dX6_setChance_1 : decode cX6_setChance 1 = .ok (.iconst 0, 1) := by decide +kernel
theorem dX6_setChance_2 : decode cX6_setChance 2 = .ok (.ldc 103, 2) := by decide +kernel
theorem dX6_setChance_4 : decode cX6_setChance 4 = .ok (.invokestatic 96, 3) := by decide +kernel
theorem dX6_setChance_7 : decode cX6_setChance 7 = .ok (.ifCond .ne 9, 3) := by decide +kernel
theorem dX6_setChance_10 : decode cX6_setChance 10 = .ok (.aload_n 0, 1) := by decide +kernel
theorem dX6_setChance_11 : decode cX6_setChance 11 = .ok (.iconst 1, 1) := by decide +kernel
theorem dX6_setChance_12 : decode cX6_setChance 12 = .ok (.invokevirtual 104, 3) := by decide +kernel
theorem dX6_setChance_15 : decode cX6_setChance 15 = .ok (.ireturn, 1) := by decide +kernel
theorem dX6_setChance_16 : decode cX6_setChance 16 = .ok (.aload_n 0, 1) := by decide +kernel
theorem dX6_setChance_17 : decode cX6_setChance 17 = .ok (.iconst 0, 1) := by decide +kernel
theorem dX6_setChance_18 : decode cX6_setChance 18 = .ok (.putfield 90, 3) := by decide +kernel
theorem dX6_setChance_21 : decode cX6_setChance 21 = .ok (.aload_n 0, 1) := by decide +kernel
theorem dX6_setChance_22 : decode cX6_setChance 22 = .ok (.getfield 7, 3) := by decide +kernel
theorem dX6_setChance_25 : decode cX6_setChance 25 = .ok (.istore_n 2, 1) := by decide +kernel
theorem dX6_setChance_26 : decode cX6_setChance 26 = .ok (.aload_n 0, 1) := by decide +kernel
theorem dX6_setChance_27 : decode cX6_setChance 27 = .ok (.iload_n 1, 1) := by decide +kernel
theorem dX6_setChance_28 : decode cX6_setChance 28 = .ok (.putfield 7, 3) := by decide +kernel
theorem dX6_setChance_31 : decode cX6_setChance 31 = .ok (.iload_n 2, 1) := by decide +kernel
theorem dX6_setChance_32 : decode cX6_setChance 32 = .ok (.ireturn, 1) := by decide +kernel
theorem dX6_addStratum_0 : decode cX6_addStratum 0 = .ok (.aload_n 0, 1) := by decide +kernel
theorem dX6_addStratum_1 : decode cX6_addStratum 1 = .ok (.getfield 108, 3) := by decide +kernel
theorem dX6_addStratum_4 : decode cX6_addStratum 4 = .ok (.iconst 4, 1) := by decide +kernel
theorem dX6_addStratum_5 : decode cX6_addStratum 5 = .ok (.if_icmp .ne 9, 3) := by decide +kernel
theorem dX6_addStratum_8 : decode cX6_addStratum 8 = .ok (.aload_n 0, 1) := by decide +kernel
theorem dX6_addStratum_9 : decode cX6_addStratum 9 = .ok (.iconst 1, 1) := by decide +kernel
theorem dX6_addStratum_10 : decode cX6_addStratum 10 = .ok (.invokevirtual 104, 3) := by decide +kernel
theorem dX6_addStratum_13 : decode cX6_addStratum 13 = .ok (.ireturn, 1) := by decide +kernel
theorem dX6_addStratum_14 : decode cX6_addStratum 14 = .ok (.aload_n 0, 1) := by decide +kernel
theorem dX6_addStratum_15 : decode cX6_addStratum 15 = .ok (.iconst 0, 1) := by decide +kernel
theorem dX6_addStratum_16 : decode cX6_addStratum 16 = .ok (.putfield 90, 3) := by decide +kernel
theorem dX6_addStratum_19 : decode cX6_addStratum 19 = .ok (.aload_n 0, 1) := by decide +kernel
theorem dX6_addStratum_20 : decode cX6_addStratum 20 = .ok (.dup, 1) := by decide +kernel
theorem dX6_addStratum_21 : decode cX6_addStratum 21 = .ok (.getfield 108, 3) := by decide +kernel
theorem dX6_addStratum_24 : decode cX6_addStratum 24 = .ok (.iconst 1, 1) := by decide +kernel
theorem dX6_addStratum_25 : decode cX6_addStratum 25 = .ok (.iadd, 1) := by decide +kernel
theorem dX6_addStratum_26 : decode cX6_addStratum 26 = .ok (.putfield 108, 3) := by decide +kernel
theorem dX6_addStratum_29 : decode cX6_addStratum 29 = .ok (.aload_n 0, 1) := by decide +kernel
theorem dX6_addStratum_30 : decode cX6_addStratum 30 = .ok (.getfield 108, 3) := by decide +kernel
theorem dX6_addStratum_33 : decode cX6_addStratum 33 = .ok (.iconst 1, 1) := by decide +kernel
theorem dX6_addStratum_34 : decode cX6_addStratum 34 = .ok (.isub, 1) := by decide +kernel
theorem dX6_addStratum_35 : decode cX6_addStratum 35 = .ok (.ireturn, 1) := by decide +kernel
theorem dX6_addHouse_0 : decode cX6_addHouse 0 = .ok (.iload_n 1, 1) := by decide +kernel
theorem dX6_addHouse_1 : decode cX6_addHouse 1 = .ok (.iconst 0, 1) := by decide +kernel
theorem dX6_addHouse_2 : decode cX6_addHouse 2 = .ok (.aload_n 0, 1) := by decide +kernel
theorem dX6_addHouse_3 : decode cX6_addHouse 3 = .ok (.getfield 108, 3) := by decide +kernel
theorem dX6_addHouse_6 : decode cX6_addHouse 6 = .ok (.iconst 1, 1) := by decide +kernel
theorem dX6_addHouse_7 : decode cX6_addHouse 7 = .ok (.isub, 1) := by decide +kernel
theorem dX6_addHouse_8 : decode cX6_addHouse 8 = .ok (.invokestatic 96, 3) := by decide +kernel
theorem dX6_addHouse_11 : decode cX6_addHouse 11 = .ok (.ifCond .ne 9, 3) := by decide +kernel
theorem dX6_addHouse_14 : decode cX6_addHouse 14 = .ok (.aload_n 0, 1) := by decide +kernel
theorem dX6_addHouse_15 : decode cX6_addHouse 15 = .ok (.iconst 1, 1) := by decide +kernel
theorem dX6_addHouse_16 : decode cX6_addHouse 16 = .ok (.invokevirtual 104, 3) := by decide +kernel
theorem dX6_addHouse_19 : decode cX6_addHouse 19 = .ok (.ireturn, 1) := by decide +kernel
theorem dX6_addHouse_20 : decode cX6_addHouse 20 = .ok (.iload_n 2, 1) := by decide +kernel
theorem dX6_addHouse_21 : decode cX6_addHouse 21 = .ok (.iconst 0, 1) := by decide +kernel
theorem dX6_addHouse_22 : decode cX6_addHouse 22 = .ok (.bipush 99, 2) := by decide +kernel
theorem dX6_addHouse_24 : decode cX6_addHouse 24 = .ok (.invokestatic 96, 3) := by decide +kernel
theorem dX6_addHouse_27 : decode cX6_addHouse 27 = .ok (.ifCond .eq 12, 3) := by decide +kernel
theorem dX6_addHouse_30 : decode cX6_addHouse 30 = .ok (.iload_n 3, 1) := by decide +kernel
theorem dX6_addHouse_31 : decode cX6_addHouse 31 = .ok (.iconst 0, 1) := by decide +kernel
theorem dX6_addHouse_32 : decode cX6_addHouse 32 = .ok (.iconst 2, 1) := by decide +kernel
theorem dX6_addHouse_33 : decode cX6_addHouse 33 = .ok (.invokestatic 96, 3) := by decide +kernel
theorem dX6_addHouse_36 : decode cX6_addHouse 36 = .ok (.ifCond .ne 9, 3) := by decide +kernel
theorem dX6_addHouse_39 : decode cX6_addHouse 39 = .ok (.aload_n 0, 1) := by decide +kernel
theorem dX6_addHouse_40 : decode cX6_addHouse 40 = .ok (.iconst 2, 1) := by decide +kernel
theorem dX6_addHouse_41 : decode cX6_addHouse 41 = .ok (.invokevirtual 104, 3) := by decide +kernel
theorem dX6_addHouse_44 : decode cX6_addHouse 44 = .ok (.ireturn, 1) := by decide +kernel
theorem dX6_addHouse_45 : decode cX6_addHouse 45 = .ok (.aload_n 0, 1) := by decide +kernel
theorem dX6_addHouse_46 : decode cX6_addHouse 46 = .ok (.getfield 93, 3) := by decide +kernel
theorem dX6_addHouse_49 : decode cX6_addHouse 49 = .ok (.bipush 24, 2) := by decide +kernel
theorem dX6_addHouse_51 : decode cX6_addHouse 51 = .ok (.if_icmp .ne 9, 3) := by decide +kernel
theorem dX6_addHouse_54 : decode cX6_addHouse 54 = .ok (.aload_n 0, 1) := by decide +kernel
theorem dX6_addHouse_55 : decode cX6_addHouse 55 = .ok (.iconst 3, 1) := by decide +kernel
theorem dX6_addHouse_56 : decode cX6_addHouse 56 = .ok (.invokevirtual 104, 3) := by decide +kernel
theorem dX6_addHouse_59 : decode cX6_addHouse 59 = .ok (.ireturn, 1) := by decide +kernel
theorem dX6_addHouse_60 : decode cX6_addHouse 60 = .ok (.aload_n 0, 1) := by decide +kernel
theorem dX6_addHouse_61 : decode cX6_addHouse 61 = .ok (.iconst 0, 1) := by decide +kernel
theorem dX6_addHouse_62 : decode cX6_addHouse 62 = .ok (.putfield 90, 3) := by decide +kernel
theorem dX6_addHouse_65 : decode cX6_addHouse 65 = .ok (.aload_n 0, 1) := by decide +kernel
theorem dX6_addHouse_66 : decode cX6_addHouse 66 = .ok (.getfield 13, 3) := by decide +kernel
theorem dX6_addHouse_69 : decode cX6_addHouse 69 = .ok (.aload_n 0, 1) := by decide +kernel
theorem dX6_addHouse_70 : decode cX6_addHouse 70 = .ok (.getfield 93, 3) := by decide +kernel
theorem dX6_addHouse_73 : decode cX6_addHouse 73 = .ok (.iload_n 1, 1) := by decide +kernel
theorem dX6_addHouse_74 : decode cX6_addHouse 74 = .ok (.iastore, 1) := by decide +kernel
theorem dX6_addHouse_75 : decode cX6_addHouse 75 = .ok (.aload_n 0, 1) := by decide +kernel
theorem dX6_addHouse_76 : decode cX6_addHouse 76 = .ok (.getfield 17, 3) := by decide +kernel
theorem dX6_addHouse_79 : decode cX6_addHouse 79 = .ok (.aload_n 0, 1) := by decide +kernel
theorem dX6_addHouse_80 : decode cX6_addHouse 80 = .ok (.getfield 93, 3) := by decide +kernel
theorem dX6_addHouse_83 : decode cX6_addHouse 83 = .ok (.iload_n 2, 1) := by decide +kernel
theorem dX6_addHouse_84 : decode cX6_addHouse 84 = .ok (.iastore, 1) := by decide +kernel
theorem dX6_addHouse_85 : decode cX6_addHouse 85 = .ok (.aload_n 0, 1) := by decide +kernel
theorem dX6_addHouse_86 : decode cX6_addHouse 86 = .ok (.getfield 20, 3) := by decide +kernel
theorem dX6_addHouse_89 : decode cX6_addHouse 89 = .ok (.aload_n 0, 1) := by decide +kernel
theorem dX6_addHouse_90 : decode cX6_addHouse 90 = .ok (.getfield 93, 3) := by decide +kernel
theorem dX6_addHouse_93 : decode cX6_addHouse 93 = .ok (.iload_n 3, 1) := by decide +kernel
theorem dX6_addHouse_94 : decode cX6_addHouse 94 = .ok (.iastore, 1) := by decide +kernel
theorem dX6_addHouse_95 : decode cX6_addHouse 95 = .ok (.aload_n 0, 1) := by decide +kernel
theorem dX6_addHouse_96 : decode cX6_addHouse 96 = .ok (.getfield 23, 3) := by decide +kernel
theorem dX6_addHouse_99 : decode cX6_addHouse 99 = .ok (.aload_n 0, 1) := by decide +kernel
theorem dX6_addHouse_100 : decode cX6_addHouse 100 = .ok (.getfield 93, 3) := by decide +kernel
theorem dX6_addHouse_103 : decode cX6_addHouse 103 = .ok (.bipush 117, 2) := by decide +kernel
theorem dX6_addHouse_105 : decode cX6_addHouse 105 = .ok (.iastore, 1) := by decide +kernel
theorem dX6_addHouse_106 : decode cX6_addHouse 106 = .ok (.aload_n 0, 1) := by decide +kernel
theorem dX6_addHouse_107 : decode cX6_addHouse 107 = .ok (.getfield 66, 3) := by decide +kernel
theorem dX6_addHouse_110 : decode cX6_addHouse 110 = .ok (.aload_n 0, 1) := by decide +kernel
theorem dX6_addHouse_111 : decode cX6_addHouse 111 = .ok (.getfield 93, 3) := by decide +kernel
theorem dX6_addHouse_114 : decode cX6_addHouse 114 = .ok (.iconst (-1), 1) := by decide +kernel
theorem dX6_addHouse_115 : decode cX6_addHouse 115 = .ok (.iastore, 1) := by decide +kernel
theorem dX6_addHouse_116 : decode cX6_addHouse 116 = .ok (.aload_n 0, 1) := by decide +kernel
theorem dX6_addHouse_117 : decode cX6_addHouse 117 = .ok (.dup, 1) := by decide +kernel
theorem dX6_addHouse_118 : decode cX6_addHouse 118 = .ok (.getfield 93, 3) := by decide +kernel
theorem dX6_addHouse_121 : decode cX6_addHouse 121 = .ok (.iconst 1, 1) := by decide +kernel
theorem dX6_addHouse_122 : decode cX6_addHouse 122 = .ok (.iadd, 1) := by decide +kernel
theorem dX6_addHouse_123 : decode cX6_addHouse 123 = .ok (.putfield 93, 3) := by decide +kernel
theorem dX6_addHouse_126 : decode cX6_addHouse 126 = .ok (.aload_n 0, 1) := by decide +kernel
theorem dX6_addHouse_127 : decode cX6_addHouse 127 = .ok (.getfield 93, 3) := by decide +kernel
theorem dX6_addHouse_130 : decode cX6_addHouse 130 = .ok (.iconst 1, 1) := by decide +kernel
theorem dX6_addHouse_131 : decode cX6_addHouse 131 = .ok (.isub, 1) := by decide +kernel
theorem dX6_addHouse_132 : decode cX6_addHouse 132 = .ok (.ireturn, 1) := by decide +kernel
theorem dX6_addInterviewer_0 : decode cX6_addInterviewer 0 = .ok (.iload_n 1, 1) := by decide +kernel
theorem dX6_addInterviewer_1 : decode cX6_addInterviewer 1 = .ok (.iconst 0, 1) := by decide +kernel
theorem dX6_addInterviewer_2 : decode cX6_addInterviewer 2 = .ok (.bipush 99, 2) := by decide +kernel
theorem dX6_addInterviewer_4 : decode cX6_addInterviewer 4 = .ok (.invokestatic 96, 3) := by decide +kernel
theorem dX6_addInterviewer_7 : decode cX6_addInterviewer 7 = .ok (.ifCond .eq 25, 3) := by decide +kernel
theorem dX6_addInterviewer_10 : decode cX6_addInterviewer 10 = .ok (.iload_n 2, 1) := by decide +kernel
theorem dX6_addInterviewer_11 : decode cX6_addInterviewer 11 = .ok (.iconst 1, 1) := by decide +kernel
theorem dX6_addInterviewer_12 : decode cX6_addInterviewer 12 = .ok (.bipush 7, 2) := by decide +kernel
theorem dX6_addInterviewer_14 : decode cX6_addInterviewer 14 = .ok (.invokestatic 96, 3) := by decide +kernel
theorem dX6_addInterviewer_17 : decode cX6_addInterviewer 17 = .ok (.ifCond .eq 15, 3) := by decide +kernel
theorem dX6_addInterviewer_20 : decode cX6_addInterviewer 20 = .ok (.iload_n 3, 1) := by decide +kernel
theorem dX6_addInterviewer_21 : decode cX6_addInterviewer 21 = .ok (.bipush 30, 2) := by decide +kernel
theorem dX6_addInterviewer_23 : decode cX6_addInterviewer 23 = .ok (.sipush 600, 3) := by decide +kernel
theorem dX6_addInterviewer_26 : decode cX6_addInterviewer 26 = .ok (.invokestatic 96, 3) := by decide +kernel
theorem dX6_addInterviewer_29 : decode cX6_addInterviewer 29 = .ok (.ifCond .ne 9, 3) := by decide +kernel
theorem dX6_addInterviewer_32 : decode cX6_addInterviewer 32 = .ok (.aload_n 0, 1) := by decide +kernel
theorem dX6_addInterviewer_33 : decode cX6_addInterviewer 33 = .ok (.iconst 1, 1) := by decide +kernel
theorem dX6_addInterviewer_34 : decode cX6_addInterviewer 34 = .ok (.invokevirtual 104, 3) := by decide +kernel
theorem dX6_addInterviewer_37 : decode cX6_addInterviewer 37 = .ok (.ireturn, 1) := by decide +kernel
theorem dX6_addInterviewer_38 : decode cX6_addInterviewer 38 = .ok (.aload_n 0, 1) := by decide +kernel
theorem dX6_addInterviewer_39 : decode cX6_addInterviewer 39 = .ok (.getfield 100, 3) := by decide +kernel
theorem dX6_addInterviewer_42 : decode cX6_addInterviewer 42 = .ok (.iconst 4, 1) := by decide +kernel
theorem dX6_addInterviewer_43 : decode cX6_addInterviewer 43 = .ok (.if_icmp .ne 9, 3) := by decide +kernel
theorem dX6_addInterviewer_46 : decode cX6_addInterviewer 46 = .ok (.aload_n 0, 1) := by decide +kernel
theorem dX6_addInterviewer_47 : decode cX6_addInterviewer 47 = .ok (.iconst 2, 1) := by decide +kernel
theorem dX6_addInterviewer_48 : decode cX6_addInterviewer 48 = .ok (.invokevirtual 104, 3) := by decide +kernel
theorem dX6_addInterviewer_51 : decode cX6_addInterviewer 51 = .ok (.ireturn, 1) := by decide +kernel
theorem dX6_addInterviewer_52 : decode cX6_addInterviewer 52 = .ok (.aload_n 0, 1) := by decide +kernel
theorem dX6_addInterviewer_53 : decode cX6_addInterviewer 53 = .ok (.iconst 0, 1) := by decide +kernel
theorem dX6_addInterviewer_54 : decode cX6_addInterviewer 54 = .ok (.putfield 90, 3) := by decide +kernel
theorem dX6_addInterviewer_57 : decode cX6_addInterviewer 57 = .ok (.aload_n 0, 1) := by decide +kernel
theorem dX6_addInterviewer_58 : decode cX6_addInterviewer 58 = .ok (.getfield 78, 3) := by decide +kernel
theorem dX6_addInterviewer_61 : decode cX6_addInterviewer 61 = .ok (.aload_n 0, 1) := by decide +kernel
theorem dX6_addInterviewer_62 : decode cX6_addInterviewer 62 = .ok (.getfield 100, 3) := by decide +kernel
theorem dX6_addInterviewer_65 : decode cX6_addInterviewer 65 = .ok (.iload_n 1, 1) := by decide +kernel
theorem dX6_addInterviewer_66 : decode cX6_addInterviewer 66 = .ok (.iastore, 1) := by decide +kernel
theorem dX6_addInterviewer_67 : decode cX6_addInterviewer 67 = .ok (.aload_n 0, 1) := by decide +kernel
theorem dX6_addInterviewer_68 : decode cX6_addInterviewer 68 = .ok (.getfield 81, 3) := by decide +kernel
theorem dX6_addInterviewer_71 : decode cX6_addInterviewer 71 = .ok (.aload_n 0, 1) := by decide +kernel
theorem dX6_addInterviewer_72 : decode cX6_addInterviewer 72 = .ok (.getfield 100, 3) := by decide +kernel
theorem dX6_addInterviewer_75 : decode cX6_addInterviewer 75 = .ok (.iload_n 2, 1) := by decide +kernel
theorem dX6_addInterviewer_76 : decode cX6_addInterviewer 76 = .ok (.iastore, 1) := by decide +kernel
theorem dX6_addInterviewer_77 : decode cX6_addInterviewer 77 = .ok (.aload_n 0, 1) := by decide +kernel
theorem dX6_addInterviewer_78 : decode cX6_addInterviewer 78 = .ok (.getfield 84, 3) := by decide +kernel
theorem dX6_addInterviewer_81 : decode cX6_addInterviewer 81 = .ok (.aload_n 0, 1) := by decide +kernel
theorem dX6_addInterviewer_82 : decode cX6_addInterviewer 82 = .ok (.getfield 100, 3) := by decide +kernel
theorem dX6_addInterviewer_85 : decode cX6_addInterviewer 85 = .ok (.iload_n 3, 1) := by decide +kernel
theorem dX6_addInterviewer_86 : decode cX6_addInterviewer 86 = .ok (.iastore, 1) := by decide +kernel
theorem dX6_addInterviewer_87 : decode cX6_addInterviewer 87 = .ok (.aload_n 0, 1) := by decide +kernel
theorem dX6_addInterviewer_88 : decode cX6_addInterviewer 88 = .ok (.dup, 1) := by decide +kernel
theorem dX6_addInterviewer_89 : decode cX6_addInterviewer 89 = .ok (.getfield 100, 3) := by decide +kernel
theorem dX6_addInterviewer_92 : decode cX6_addInterviewer 92 = .ok (.iconst 1, 1) := by decide +kernel
theorem dX6_addInterviewer_93 : decode cX6_addInterviewer 93 = .ok (.iadd, 1) := by decide +kernel
theorem dX6_addInterviewer_94 : decode cX6_addInterviewer 94 = .ok (.putfield 100, 3) := by decide +kernel
theorem dX6_addInterviewer_97 : decode cX6_addInterviewer 97 = .ok (.aload_n 0, 1) := by decide +kernel
theorem dX6_addInterviewer_98 : decode cX6_addInterviewer 98 = .ok (.getfield 100, 3) := by decide +kernel
theorem dX6_addInterviewer_101 : decode cX6_addInterviewer 101 = .ok (.iconst 1, 1) := by decide +kernel
theorem dX6_addInterviewer_102 : decode cX6_addInterviewer 102 = .ok (.isub, 1) := by decide +kernel
theorem dX6_addInterviewer_103 : decode cX6_addInterviewer 103 = .ok (.ireturn, 1) := by decide +kernel
theorem dX6_undrawn_0 : decode cX6_undrawn 0 = .ok (.iconst 0, 1) := by decide +kernel
theorem dX6_undrawn_1 : decode cX6_undrawn 1 = .ok (.istore_n 2, 1) := by decide +kernel
theorem dX6_undrawn_2 : decode cX6_undrawn 2 = .ok (.iconst 0, 1) := by decide +kernel
theorem dX6_undrawn_3 : decode cX6_undrawn 3 = .ok (.istore_n 3, 1) := by decide +kernel
theorem dX6_undrawn_4 : decode cX6_undrawn 4 = .ok (.iload_n 3, 1) := by decide +kernel
theorem dX6_undrawn_5 : decode cX6_undrawn 5 = .ok (.aload_n 0, 1) := by decide +kernel
theorem dX6_undrawn_6 : decode cX6_undrawn 6 = .ok (.getfield 93, 3) := by decide +kernel
theorem dX6_undrawn_9 : decode cX6_undrawn 9 = .ok (.if_icmp .ge 38, 3) := by decide +kernel
theorem dX6_undrawn_12 : decode cX6_undrawn 12 = .ok (.iload_n 2, 1) := by decide +kernel
theorem dX6_undrawn_13 : decode cX6_undrawn 13 = .ok (.aload_n 0, 1) := by decide +kernel
theorem dX6_undrawn_14 : decode cX6_undrawn 14 = .ok (.getfield 13, 3) := by decide +kernel
theorem dX6_undrawn_17 : decode cX6_undrawn 17 = .ok (.iload_n 3, 1) := by decide +kernel
theorem dX6_undrawn_18 : decode cX6_undrawn 18 = .ok (.iaload, 1) := by decide +kernel
theorem dX6_undrawn_19 : decode cX6_undrawn 19 = .ok (.iload_n 1, 1) := by decide +kernel
theorem dX6_undrawn_20 : decode cX6_undrawn 20 = .ok (.if_icmp .ne 18, 3) := by decide +kernel
theorem dX6_undrawn_23 : decode cX6_undrawn 23 = .ok (.aload_n 0, 1) := by decide +kernel
theorem dX6_undrawn_24 : decode cX6_undrawn 24 = .ok (.getfield 23, 3) := by decide +kernel
theorem dX6_undrawn_27 : decode cX6_undrawn 27 = .ok (.iload_n 3, 1) := by decide +kernel
theorem dX6_undrawn_28 : decode cX6_undrawn 28 = .ok (.iaload, 1) := by decide +kernel
theorem dX6_undrawn_29 : decode cX6_undrawn 29 = .ok (.bipush 117, 2) := by decide +kernel
theorem dX6_undrawn_31 : decode cX6_undrawn 31 = .ok (.if_icmp .ne 7, 3) := by decide +kernel
theorem dX6_undrawn_34 : decode cX6_undrawn 34 = .ok (.iconst 1, 1) := by decide +kernel
theorem dX6_undrawn_35 : decode cX6_undrawn 35 = .ok (.goto 4, 3) := by decide +kernel
theorem dX6_undrawn_38 : decode cX6_undrawn 38 = .ok (.iconst 0, 1) := by decide +kernel
theorem dX6_undrawn_39 : decode cX6_undrawn 39 = .ok (.iadd, 1) := by decide +kernel
theorem dX6_undrawn_40 : decode cX6_undrawn 40 = .ok (.istore_n 2, 1) := by decide +kernel
theorem dX6_undrawn_41 : decode cX6_undrawn 41 = .ok (.iinc 3 1, 3) := by decide +kernel
theorem dX6_undrawn_44 : decode cX6_undrawn 44 = .ok (.goto (-40), 3) := by decide +kernel
theorem dX6_undrawn_47 : decode cX6_undrawn 47 = .ok (.iload_n 2, 1) := by decide +kernel
theorem dX6_undrawn_48 : decode cX6_undrawn 48 = .ok (.ireturn, 1) := by decide +kernel
theorem dX6_draws_0 : decode cX6_draws 0 = .ok (.aload_n 0, 1) := by decide +kernel
theorem dX6_draws_1 : decode cX6_draws 1 = .ok (.aload_n 0, 1) := by decide +kernel
theorem dX6_draws_2 : decode cX6_draws 2 = .ok (.getfield 7, 3) := by decide +kernel
theorem dX6_draws_5 : decode cX6_draws 5 = .ok (.sipush 1103, 3) := by decide +kernel
theorem dX6_draws_8 : decode cX6_draws 8 = .ok (.imul, 1) := by decide +kernel
theorem dX6_draws_9 : decode cX6_draws 9 = .ok (.sipush 12345, 3) := by decide +kernel
theorem dX6_draws_12 : decode cX6_draws 12 = .ok (.iadd, 1) := by decide +kernel
theorem dX6_draws_13 : decode cX6_draws 13 = .ok (.ldc 111, 2) := by decide +kernel
theorem dX6_draws_15 : decode cX6_draws 15 = .ok (.irem, 1) := by decide +kernel
theorem dX6_draws_16 : decode cX6_draws 16 = .ok (.putfield 7, 3) := by decide +kernel
theorem dX6_draws_19 : decode cX6_draws 19 = .ok (.aload_n 0, 1) := by decide +kernel
theorem dX6_draws_20 : decode cX6_draws 20 = .ok (.getfield 7, 3) := by decide +kernel
theorem dX6_draws_23 : decode cX6_draws 23 = .ok (.aload_n 0, 1) := by decide +kernel
theorem dX6_draws_24 : decode cX6_draws 24 = .ok (.iload_n 1, 1) := by decide +kernel
theorem dX6_draws_25 : decode cX6_draws 25 = .ok (.invokevirtual 112, 3) := by decide +kernel
theorem dX6_draws_28 : decode cX6_draws 28 = .ok (.irem, 1) := by decide +kernel
theorem dX6_draws_29 : decode cX6_draws 29 = .ok (.istore_n 3, 1) := by decide +kernel
theorem dX6_draws_30 : decode cX6_draws 30 = .ok (.iconst 0, 1) := by decide +kernel
theorem dX6_draws_31 : decode cX6_draws 31 = .ok (.istore 4, 2) := by decide +kernel
theorem dX6_draws_33 : decode cX6_draws 33 = .ok (.aload_n 0, 1) := by decide +kernel
theorem dX6_draws_34 : decode cX6_draws 34 = .ok (.getfield 13, 3) := by decide +kernel
theorem dX6_draws_37 : decode cX6_draws 37 = .ok (.iload 4, 2) := by decide +kernel
theorem dX6_draws_39 : decode cX6_draws 39 = .ok (.iaload, 1) := by decide +kernel
theorem dX6_draws_40 : decode cX6_draws 40 = .ok (.iload_n 1, 1) := by decide +kernel
theorem dX6_draws_41 : decode cX6_draws 41 = .ok (.if_icmp .ne 19, 3) := by decide +kernel
theorem dX6_draws_44 : decode cX6_draws 44 = .ok (.aload_n 0, 1) := by decide +kernel
theorem dX6_draws_45 : decode cX6_draws 45 = .ok (.getfield 23, 3) := by decide +kernel
theorem dX6_draws_48 : decode cX6_draws 48 = .ok (.iload 4, 2) := by decide +kernel
theorem dX6_draws_50 : decode cX6_draws 50 = .ok (.iaload, 1) := by decide +kernel
theorem dX6_draws_51 : decode cX6_draws 51 = .ok (.bipush 117, 2) := by decide +kernel
theorem dX6_draws_53 : decode cX6_draws 53 = .ok (.if_icmp .ne 7, 3) := by decide +kernel
theorem dX6_draws_56 : decode cX6_draws 56 = .ok (.iload_n 3, 1) := by decide +kernel
theorem dX6_draws_57 : decode cX6_draws 57 = .ok (.ifCond .le 40, 3) := by decide +kernel
theorem dX6_draws_60 : decode cX6_draws 60 = .ok (.iload_n 3, 1) := by decide +kernel
theorem dX6_draws_61 : decode cX6_draws 61 = .ok (.aload_n 0, 1) := by decide +kernel
theorem dX6_draws_62 : decode cX6_draws 62 = .ok (.getfield 13, 3) := by decide +kernel
theorem dX6_draws_65 : decode cX6_draws 65 = .ok (.iload 4, 2) := by decide +kernel
theorem dX6_draws_67 : decode cX6_draws 67 = .ok (.iaload, 1) := by decide +kernel
theorem dX6_draws_68 : decode cX6_draws 68 = .ok (.iload_n 1, 1) := by decide +kernel
theorem dX6_draws_69 : decode cX6_draws 69 = .ok (.if_icmp .ne 19, 3) := by decide +kernel
theorem dX6_draws_72 : decode cX6_draws 72 = .ok (.aload_n 0, 1) := by decide +kernel
theorem dX6_draws_73 : decode cX6_draws 73 = .ok (.getfield 23, 3) := by decide +kernel
theorem dX6_draws_76 : decode cX6_draws 76 = .ok (.iload 4, 2) := by decide +kernel
theorem dX6_draws_78 : decode cX6_draws 78 = .ok (.iaload, 1) := by decide +kernel
theorem dX6_draws_79 : decode cX6_draws 79 = .ok (.bipush 117, 2) := by decide +kernel
theorem dX6_draws_81 : decode cX6_draws 81 = .ok (.if_icmp .ne 7, 3) := by decide +kernel
theorem dX6_draws_84 : decode cX6_draws 84 = .ok (.iconst 1, 1) := by decide +kernel
theorem dX6_draws_85 : decode cX6_draws 85 = .ok (.goto 4, 3) := by decide +kernel
theorem dX6_draws_88 : decode cX6_draws 88 = .ok (.iconst 0, 1) := by decide +kernel
theorem dX6_draws_89 : decode cX6_draws 89 = .ok (.isub, 1) := by decide +kernel
theorem dX6_draws_90 : decode cX6_draws 90 = .ok (.istore_n 3, 1) := by decide +kernel
theorem dX6_draws_91 : decode cX6_draws 91 = .ok (.iinc 4 1, 3) := by decide +kernel
theorem dX6_draws_94 : decode cX6_draws 94 = .ok (.goto (-61), 3) := by decide +kernel
theorem dX6_draws_97 : decode cX6_draws 97 = .ok (.aload_n 0, 1) := by decide +kernel
theorem dX6_draws_98 : decode cX6_draws 98 = .ok (.getfield 23, 3) := by decide +kernel
theorem dX6_draws_101 : decode cX6_draws 101 = .ok (.iload 4, 2) := by decide +kernel
theorem dX6_draws_103 : decode cX6_draws 103 = .ok (.bipush 119, 2) := by decide +kernel
theorem dX6_draws_105 : decode cX6_draws 105 = .ok (.iastore, 1) := by decide +kernel
theorem dX6_draws_106 : decode cX6_draws 106 = .ok (.aload_n 0, 1) := by decide +kernel
theorem dX6_draws_107 : decode cX6_draws 107 = .ok (.getfield 26, 3) := by decide +kernel
theorem dX6_draws_110 : decode cX6_draws 110 = .ok (.iload 4, 2) := by decide +kernel
theorem dX6_draws_112 : decode cX6_draws 112 = .ok (.aload_n 0, 1) := by decide +kernel
theorem dX6_draws_113 : decode cX6_draws 113 = .ok (.getfield 115, 3) := by decide +kernel
theorem dX6_draws_116 : decode cX6_draws 116 = .ok (.iconst 1, 1) := by decide +kernel
theorem dX6_draws_117 : decode cX6_draws 117 = .ok (.iadd, 1) := by decide +kernel
theorem dX6_draws_118 : decode cX6_draws 118 = .ok (.iastore, 1) := by decide +kernel
theorem dX6_draws_119 : decode cX6_draws 119 = .ok (.aload_n 0, 1) := by decide +kernel
theorem dX6_draws_120 : decode cX6_draws 120 = .ok (.getfield 53, 3) := by decide +kernel
theorem dX6_draws_123 : decode cX6_draws 123 = .ok (.iload 4, 2) := by decide +kernel
theorem dX6_draws_125 : decode cX6_draws 125 = .ok (.iload_n 2, 1) := by decide +kernel
theorem dX6_draws_126 : decode cX6_draws 126 = .ok (.bastore, 1) := by decide +kernel
theorem dX6_draws_127 : decode cX6_draws 127 = .ok (.iload 4, 2) := by decide +kernel
theorem dX6_draws_129 : decode cX6_draws 129 = .ok (.ireturn, 1) := by decide +kernel
theorem dX6_draw_0 : decode cX6_draw 0 = .ok (.iload_n 1, 1) := by decide +kernel
theorem dX6_draw_1 : decode cX6_draw 1 = .ok (.iconst 0, 1) := by decide +kernel
theorem dX6_draw_2 : decode cX6_draw 2 = .ok (.aload_n 0, 1) := by decide +kernel
theorem dX6_draw_3 : decode cX6_draw 3 = .ok (.getfield 108, 3) := by decide +kernel
theorem dX6_draw_6 : decode cX6_draw 6 = .ok (.iconst 1, 1) := by decide +kernel
theorem dX6_draw_7 : decode cX6_draw 7 = .ok (.isub, 1) := by decide +kernel
theorem dX6_draw_8 : decode cX6_draw 8 = .ok (.invokestatic 96, 3) := by decide +kernel
theorem dX6_draw_11 : decode cX6_draw 11 = .ok (.ifCond .ne 9, 3) := by decide +kernel
theorem dX6_draw_14 : decode cX6_draw 14 = .ok (.aload_n 0, 1) := by decide +kernel
theorem dX6_draw_15 : decode cX6_draw 15 = .ok (.iconst 1, 1) := by decide +kernel
theorem dX6_draw_16 : decode cX6_draw 16 = .ok (.invokevirtual 104, 3) := by decide +kernel
theorem dX6_draw_19 : decode cX6_draw 19 = .ok (.ireturn, 1) := by decide +kernel
theorem dX6_draw_20 : decode cX6_draw 20 = .ok (.iload_n 2, 1) := by decide +kernel
theorem dX6_draw_21 : decode cX6_draw 21 = .ok (.iconst 1, 1) := by decide +kernel
theorem dX6_draw_22 : decode cX6_draw 22 = .ok (.bipush 24, 2) := by decide +kernel
theorem dX6_draw_24 : decode cX6_draw 24 = .ok (.invokestatic 96, 3) := by decide +kernel
theorem dX6_draw_27 : decode cX6_draw 27 = .ok (.ifCond .ne 9, 3) := by decide +kernel
theorem dX6_draw_30 : decode cX6_draw 30 = .ok (.aload_n 0, 1) := by decide +kernel
theorem dX6_draw_31 : decode cX6_draw 31 = .ok (.iconst 2, 1) := by decide +kernel
theorem dX6_draw_32 : decode cX6_draw 32 = .ok (.invokevirtual 104, 3) := by decide +kernel
theorem dX6_draw_35 : decode cX6_draw 35 = .ok (.ireturn, 1) := by decide +kernel
theorem dX6_draw_36 : decode cX6_draw 36 = .ok (.aload_n 0, 1) := by decide +kernel
theorem dX6_draw_37 : decode cX6_draw 37 = .ok (.iload_n 1, 1) := by decide +kernel
theorem dX6_draw_38 : decode cX6_draw 38 = .ok (.invokevirtual 112, 3) := by decide +kernel
theorem dX6_draw_41 : decode cX6_draw 41 = .ok (.iload_n 2, 1) := by decide +kernel
theorem dX6_draw_42 : decode cX6_draw 42 = .ok (.if_icmp .ge 9, 3) := by decide +kernel
theorem dX6_draw_45 : decode cX6_draw 45 = .ok (.aload_n 0, 1) := by decide +kernel
theorem dX6_draw_46 : decode cX6_draw 46 = .ok (.iconst 3, 1) := by decide +kernel
theorem dX6_draw_47 : decode cX6_draw 47 = .ok (.invokevirtual 104, 3) := by decide +kernel
theorem dX6_draw_50 : decode cX6_draw 50 = .ok (.ireturn, 1) := by decide +kernel
theorem dX6_draw_51 : decode cX6_draw 51 = .ok (.aload_n 0, 1) := by decide +kernel
theorem dX6_draw_52 : decode cX6_draw 52 = .ok (.iconst 0, 1) := by decide +kernel
theorem dX6_draw_53 : decode cX6_draw 53 = .ok (.putfield 90, 3) := by decide +kernel
theorem dX6_draw_56 : decode cX6_draw 56 = .ok (.iconst (-1), 1) := by decide +kernel
theorem dX6_draw_57 : decode cX6_draw 57 = .ok (.istore_n 3, 1) := by decide +kernel
theorem dX6_draw_58 : decode cX6_draw 58 = .ok (.iconst 0, 1) := by decide +kernel
theorem dX6_draw_59 : decode cX6_draw 59 = .ok (.istore 4, 2) := by decide +kernel
theorem dX6_draw_61 : decode cX6_draw 61 = .ok (.iload 4, 2) := by decide +kernel
theorem dX6_draw_63 : decode cX6_draw 63 = .ok (.iload_n 2, 1) := by decide +kernel
theorem dX6_draw_64 : decode cX6_draw 64 = .ok (.if_icmp .ge 16, 3) := by decide +kernel
theorem dX6_draw_67 : decode cX6_draw 67 = .ok (.aload_n 0, 1) := by decide +kernel
theorem dX6_draw_68 : decode cX6_draw 68 = .ok (.iload_n 1, 1) := by decide +kernel
theorem dX6_draw_69 : decode cX6_draw 69 = .ok (.iconst 0, 1) := by decide +kernel
theorem dX6_draw_70 : decode cX6_draw 70 = .ok (.invokevirtual 118, 3) := by decide +kernel
theorem dX6_draw_73 : decode cX6_draw 73 = .ok (.istore_n 3, 1) := by decide +kernel
theorem dX6_draw_74 : decode cX6_draw 74 = .ok (.iinc 4 1, 3) := by decide +kernel
theorem dX6_draw_77 : decode cX6_draw 77 = .ok (.goto (-16), 3) := by decide +kernel
theorem dX6_draw_80 : decode cX6_draw 80 = .ok (.iload_n 3, 1) := by decide +kernel
theorem dX6_draw_81 : decode cX6_draw 81 = .ok (.ireturn, 1) := by decide +kernel
theorem dX6_day_0 : decode cX6_day 0 = .ok (.aload_n 0, 1) := by decide +kernel
theorem dX6_day_1 : decode cX6_day 1 = .ok (.iconst 0, 1) := by decide +kernel
theorem dX6_day_2 : decode cX6_day 2 = .ok (.putfield 90, 3) := by decide +kernel
theorem dX6_day_5 : decode cX6_day 5 = .ok (.aload_n 0, 1) := by decide +kernel
theorem dX6_day_6 : decode cX6_day 6 = .ok (.getfield 115, 3) := by decide +kernel
theorem dX6_day_9 : decode cX6_day 9 = .ok (.ireturn, 1) := by decide +kernel
theorem dX6_way_0 : decode cX6_way 0 = .ok (.iload_n 0, 1) := by decide +kernel
theorem dX6_way_1 : decode cX6_way 1 = .ok (.iload_n 1, 1) := by decide +kernel
theorem dX6_way_2 : decode cX6_way 2 = .ok (.if_icmp .ge 9, 3) := by decide +kernel
theorem dX6_way_5 : decode cX6_way 5 = .ok (.iload_n 1, 1) := by decide +kernel
theorem dX6_way_6 : decode cX6_way 6 = .ok (.iload_n 0, 1) := by decide +kernel
theorem dX6_way_7 : decode cX6_way 7 = .ok (.isub, 1) := by decide +kernel
theorem dX6_way_8 : decode cX6_way 8 = .ok (.goto 6, 3) := by decide +kernel
theorem dX6_way_11 : decode cX6_way 11 = .ok (.iload_n 0, 1) := by decide +kernel
theorem dX6_way_12 : decode cX6_way 12 = .ok (.iload_n 1, 1) := by decide +kernel
theorem dX6_way_13 : decode cX6_way 13 = .ok (.isub, 1) := by decide +kernel
theorem dX6_way_14 : decode cX6_way 14 = .ok (.ireturn, 1) := by decide +kernel
theorem dX6_next_0 : decode cX6_next 0 = .ok (.iconst (-1), 1) := by decide +kernel
theorem dX6_next_1 : decode cX6_next 1 = .ok (.istore_n 3, 1) := by decide +kernel
theorem dX6_next_2 : decode cX6_next 2 = .ok (.iconst 0, 1) := by decide +kernel
theorem dX6_next_3 : decode cX6_next 3 = .ok (.istore 4, 2) := by decide +kernel
theorem dX6_next_5 : decode cX6_next 5 = .ok (.iload 4, 2) := by decide +kernel
theorem dX6_next_7 : decode cX6_next 7 = .ok (.aload_n 0, 1) := by decide +kernel
theorem dX6_next_8 : decode cX6_next 8 = .ok (.getfield 93, 3) := by decide +kernel
theorem dX6_next_11 : decode cX6_next 11 = .ok (.if_icmp .ge 165, 3) := by decide +kernel
theorem dX6_next_14 : decode cX6_next 14 = .ok (.aload_n 0, 1) := by decide +kernel
theorem dX6_next_15 : decode cX6_next 15 = .ok (.getfield 23, 3) := by decide +kernel
theorem dX6_next_18 : decode cX6_next 18 = .ok (.iload 4, 2) := by decide +kernel
theorem dX6_next_20 : decode cX6_next 20 = .ok (.iaload, 1) := by decide +kernel
theorem dX6_next_21 : decode cX6_next 21 = .ok (.bipush 119, 2) := by decide +kernel
theorem dX6_next_23 : decode cX6_next 23 = .ok (.if_icmp .ne 147, 3) := by decide +kernel
theorem dX6_next_26 : decode cX6_next 26 = .ok (.aload_n 0, 1) := by decide +kernel
theorem dX6_next_27 : decode cX6_next 27 = .ok (.getfield 26, 3) := by decide +kernel
theorem dX6_next_30 : decode cX6_next 30 = .ok (.iload 4, 2) := by decide +kernel
theorem dX6_next_32 : decode cX6_next 32 = .ok (.iaload, 1) := by decide +kernel
theorem dX6_next_33 : decode cX6_next 33 = .ok (.aload_n 0, 1) := by decide +kernel
theorem dX6_next_34 : decode cX6_next 34 = .ok (.getfield 115, 3) := by decide +kernel
theorem dX6_next_37 : decode cX6_next 37 = .ok (.if_icmp .gt 133, 3) := by decide +kernel
theorem dX6_next_40 : decode cX6_next 40 = .ok (.aload_n 0, 1) := by decide +kernel
theorem dX6_next_41 : decode cX6_next 41 = .ok (.getfield 66, 3) := by decide +kernel
theorem dX6_next_44 : decode cX6_next 44 = .ok (.iload 4, 2) := by decide +kernel
theorem dX6_next_46 : decode cX6_next 46 = .ok (.iaload, 1) := by decide +kernel
theorem dX6_next_47 : decode cX6_next 47 = .ok (.iconst (-1), 1) := by decide +kernel
theorem dX6_next_48 : decode cX6_next 48 = .ok (.if_icmp .ne 122, 3) := by decide +kernel
theorem dX6_next_51 : decode cX6_next 51 = .ok (.aload_n 0, 1) := by decide +kernel
theorem dX6_next_52 : decode cX6_next 52 = .ok (.getfield 81, 3) := by decide +kernel
theorem dX6_next_55 : decode cX6_next 55 = .ok (.iload_n 1, 1) := by decide +kernel
theorem dX6_next_56 : decode cX6_next 56 = .ok (.iaload, 1) := by decide +kernel
theorem dX6_next_57 : decode cX6_next 57 = .ok (.aload_n 0, 1) := by decide +kernel
theorem dX6_next_58 : decode cX6_next 58 = .ok (.getfield 20, 3) := by decide +kernel
theorem dX6_next_61 : decode cX6_next 61 = .ok (.iload 4, 2) := by decide +kernel
theorem dX6_next_63 : decode cX6_next 63 = .ok (.iaload, 1) := by decide +kernel
theorem dX6_next_64 : decode cX6_next 64 = .ok (.ishr, 1) := by decide +kernel
theorem dX6_next_65 : decode cX6_next 65 = .ok (.iconst 1, 1) := by decide +kernel
theorem dX6_next_66 : decode cX6_next 66 = .ok (.iand, 1) := by decide +kernel
theorem dX6_next_67 : decode cX6_next 67 = .ok (.ifCond .eq 103, 3) := by decide +kernel
theorem dX6_next_70 : decode cX6_next 70 = .ok (.aload_n 0, 1) := by decide +kernel
theorem dX6_next_71 : decode cX6_next 71 = .ok (.getfield 38, 3) := by decide +kernel
theorem dX6_next_74 : decode cX6_next 74 = .ok (.iload 4, 2) := by decide +kernel
theorem dX6_next_76 : decode cX6_next 76 = .ok (.iaload, 1) := by decide +kernel
theorem dX6_next_77 : decode cX6_next 77 = .ok (.iload_n 1, 1) := by decide +kernel
theorem dX6_next_78 : decode cX6_next 78 = .ok (.ishr, 1) := by decide +kernel
theorem dX6_next_79 : decode cX6_next 79 = .ok (.iconst 1, 1) := by decide +kernel
theorem dX6_next_80 : decode cX6_next 80 = .ok (.iand, 1) := by decide +kernel
theorem dX6_next_81 : decode cX6_next 81 = .ok (.iconst 1, 1) := by decide +kernel
theorem dX6_next_82 : decode cX6_next 82 = .ok (.if_icmp .ne 6, 3) := by decide +kernel
theorem dX6_next_85 : decode cX6_next 85 = .ok (.goto 85, 3) := by decide +kernel
theorem dX6_next_88 : decode cX6_next 88 = .ok (.aload_n 0, 1) := by decide +kernel
theorem dX6_next_89 : decode cX6_next 89 = .ok (.getfield 75, 3) := by decide +kernel
theorem dX6_next_92 : decode cX6_next 92 = .ok (.iload_n 1, 1) := by decide +kernel
theorem dX6_next_93 : decode cX6_next 93 = .ok (.iaload, 1) := by decide +kernel
theorem dX6_next_94 : decode cX6_next 94 = .ok (.iload_n 2, 1) := by decide +kernel
theorem dX6_next_95 : decode cX6_next 95 = .ok (.aload_n 0, 1) := by decide +kernel
theorem dX6_next_96 : decode cX6_next 96 = .ok (.getfield 17, 3) := by decide +kernel
theorem dX6_next_99 : decode cX6_next 99 = .ok (.iload 4, 2) := by decide +kernel
theorem dX6_next_101 : decode cX6_next 101 = .ok (.iaload, 1) := by decide +kernel
theorem dX6_next_102 : decode cX6_next 102 = .ok (.invokestatic 122, 3) := by decide +kernel
theorem dX6_next_105 : decode cX6_next 105 = .ok (.iadd, 1) := by decide +kernel
theorem dX6_next_106 : decode cX6_next 106 = .ok (.bipush 30, 2) := by decide +kernel
theorem dX6_next_108 : decode cX6_next 108 = .ok (.iadd, 1) := by decide +kernel
theorem dX6_next_109 : decode cX6_next 109 = .ok (.aload_n 0, 1) := by decide +kernel
theorem dX6_next_110 : decode cX6_next 110 = .ok (.getfield 17, 3) := by decide +kernel
theorem dX6_next_113 : decode cX6_next 113 = .ok (.iload 4, 2) := by decide +kernel
theorem dX6_next_115 : decode cX6_next 115 = .ok (.iaload, 1) := by decide +kernel
theorem dX6_next_116 : decode cX6_next 116 = .ok (.aload_n 0, 1) := by decide +kernel
theorem dX6_next_117 : decode cX6_next 117 = .ok (.getfield 78, 3) := by decide +kernel
theorem dX6_next_120 : decode cX6_next 120 = .ok (.iload_n 1, 1) := by decide +kernel
theorem dX6_next_121 : decode cX6_next 121 = .ok (.iaload, 1) := by decide +kernel
theorem dX6_next_122 : decode cX6_next 122 = .ok (.invokestatic 122, 3) := by decide +kernel
theorem dX6_next_125 : decode cX6_next 125 = .ok (.iadd, 1) := by decide +kernel
theorem dX6_next_126 : decode cX6_next 126 = .ok (.aload_n 0, 1) := by decide +kernel
theorem dX6_next_127 : decode cX6_next 127 = .ok (.getfield 84, 3) := by decide +kernel
theorem dX6_next_130 : decode cX6_next 130 = .ok (.iload_n 1, 1) := by decide +kernel
theorem dX6_next_131 : decode cX6_next 131 = .ok (.iaload, 1) := by decide +kernel
theorem dX6_next_132 : decode cX6_next 132 = .ok (.if_icmp .le 6, 3) := by decide +kernel
theorem dX6_next_135 : decode cX6_next 135 = .ok (.goto 35, 3) := by decide +kernel
theorem dX6_next_138 : decode cX6_next 138 = .ok (.iload_n 3, 1) := by decide +kernel
theorem dX6_next_139 : decode cX6_next 139 = .ok (.iconst (-1), 1) := by decide +kernel
theorem dX6_next_140 : decode cX6_next 140 = .ok (.if_icmp .eq 27, 3) := by decide +kernel
theorem dX6_next_143 : decode cX6_next 143 = .ok (.iload_n 2, 1) := by decide +kernel
theorem dX6_next_144 : decode cX6_next 144 = .ok (.aload_n 0, 1) := by decide +kernel
theorem dX6_next_145 : decode cX6_next 145 = .ok (.getfield 17, 3) := by decide +kernel
theorem dX6_next_148 : decode cX6_next 148 = .ok (.iload 4, 2) := by decide +kernel
theorem dX6_next_150 : decode cX6_next 150 = .ok (.iaload, 1) := by decide +kernel
theorem dX6_next_151 : decode cX6_next 151 = .ok (.invokestatic 122, 3) := by decide +kernel
theorem dX6_next_154 : decode cX6_next 154 = .ok (.iload_n 2, 1) := by decide +kernel
theorem dX6_next_155 : decode cX6_next 155 = .ok (.aload_n 0, 1) := by decide +kernel
theorem dX6_next_156 : decode cX6_next 156 = .ok (.getfield 17, 3) := by decide +kernel
theorem dX6_next_159 : decode cX6_next 159 = .ok (.iload_n 3, 1) := by decide +kernel
theorem dX6_next_160 : decode cX6_next 160 = .ok (.iaload, 1) := by decide +kernel
theorem dX6_next_161 : decode cX6_next 161 = .ok (.invokestatic 122, 3) := by decide +kernel
theorem dX6_next_164 : decode cX6_next 164 = .ok (.if_icmp .ge 6, 3) := by decide +kernel
theorem dX6_next_167 : decode cX6_next 167 = .ok (.iload 4, 2) := by decide +kernel
theorem dX6_next_169 : decode cX6_next 169 = .ok (.istore_n 3, 1) := by decide +kernel
theorem dX6_next_170 : decode cX6_next 170 = .ok (.iinc 4 1, 3) := by decide +kernel
theorem dX6_next_173 : decode cX6_next 173 = .ok (.goto (-168), 3) := by decide +kernel
theorem dX6_next_176 : decode cX6_next 176 = .ok (.iload_n 3, 1) := by decide +kernel
theorem dX6_next_177 : decode cX6_next 177 = .ok (.ireturn, 1) := by decide +kernel
theorem dX6_rounds_0 : decode cX6_rounds 0 = .ok (.iconst 0, 1) := by decide +kernel
theorem dX6_rounds_1 : decode cX6_rounds 1 = .ok (.istore_n 1, 1) := by decide +kernel
theorem dX6_rounds_2 : decode cX6_rounds 2 = .ok (.iload_n 1, 1) := by decide +kernel
theorem dX6_rounds_3 : decode cX6_rounds 3 = .ok (.aload_n 0, 1) := by decide +kernel
theorem dX6_rounds_4 : decode cX6_rounds 4 = .ok (.getfield 93, 3) := by decide +kernel
theorem dX6_rounds_7 : decode cX6_rounds 7 = .ok (.if_icmp .ge 30, 3) := by decide +kernel
theorem dX6_rounds_10 : decode cX6_rounds 10 = .ok (.aload_n 0, 1) := by decide +kernel
theorem dX6_rounds_11 : decode cX6_rounds 11 = .ok (.getfield 66, 3) := by decide +kernel
theorem dX6_rounds_14 : decode cX6_rounds 14 = .ok (.iload_n 1, 1) := by decide +kernel
theorem dX6_rounds_15 : decode cX6_rounds 15 = .ok (.iconst (-1), 1) := by decide +kernel
theorem dX6_rounds_16 : decode cX6_rounds 16 = .ok (.iastore, 1) := by decide +kernel
theorem dX6_rounds_17 : decode cX6_rounds 17 = .ok (.aload_n 0, 1) := by decide +kernel
theorem dX6_rounds_18 : decode cX6_rounds 18 = .ok (.getfield 63, 3) := by decide +kernel
theorem dX6_rounds_21 : decode cX6_rounds 21 = .ok (.iload_n 1, 1) := by decide +kernel
theorem dX6_rounds_22 : decode cX6_rounds 22 = .ok (.iconst 0, 1) := by decide +kernel
theorem dX6_rounds_23 : decode cX6_rounds 23 = .ok (.bastore, 1) := by decide +kernel
theorem dX6_rounds_24 : decode cX6_rounds 24 = .ok (.aload_n 0, 1) := by decide +kernel
theorem dX6_rounds_25 : decode cX6_rounds 25 = .ok (.getfield 60, 3) := by decide +kernel
theorem dX6_rounds_28 : decode cX6_rounds 28 = .ok (.iload_n 1, 1) := by decide +kernel
theorem dX6_rounds_29 : decode cX6_rounds 29 = .ok (.iconst 0, 1) := by decide +kernel
theorem dX6_rounds_30 : decode cX6_rounds 30 = .ok (.bastore, 1) := by decide +kernel
theorem dX6_rounds_31 : decode cX6_rounds 31 = .ok (.iinc 1 1, 3) := by decide +kernel
theorem dX6_rounds_34 : decode cX6_rounds 34 = .ok (.goto (-32), 3) := by decide +kernel
theorem dX6_rounds_37 : decode cX6_rounds 37 = .ok (.iconst 0, 1) := by decide +kernel
theorem dX6_rounds_38 : decode cX6_rounds 38 = .ok (.istore_n 1, 1) := by decide +kernel
theorem dX6_rounds_39 : decode cX6_rounds 39 = .ok (.iload_n 1, 1) := by decide +kernel
theorem dX6_rounds_40 : decode cX6_rounds 40 = .ok (.aload_n 0, 1) := by decide +kernel
theorem dX6_rounds_41 : decode cX6_rounds 41 = .ok (.getfield 100, 3) := by decide +kernel
theorem dX6_rounds_44 : decode cX6_rounds 44 = .ok (.if_icmp .ge 148, 3) := by decide +kernel
theorem dX6_rounds_47 : decode cX6_rounds 47 = .ok (.aload_n 0, 1) := by decide +kernel
theorem dX6_rounds_48 : decode cX6_rounds 48 = .ok (.getfield 72, 3) := by decide +kernel
theorem dX6_rounds_51 : decode cX6_rounds 51 = .ok (.iload_n 1, 1) := by decide +kernel
theorem dX6_rounds_52 : decode cX6_rounds 52 = .ok (.iconst 0, 1) := by decide +kernel
theorem dX6_rounds_53 : decode cX6_rounds 53 = .ok (.iastore, 1) := by decide +kernel
theorem dX6_rounds_54 : decode cX6_rounds 54 = .ok (.aload_n 0, 1) := by decide +kernel
theorem dX6_rounds_55 : decode cX6_rounds 55 = .ok (.getfield 75, 3) := by decide +kernel
theorem dX6_rounds_58 : decode cX6_rounds 58 = .ok (.iload_n 1, 1) := by decide +kernel
theorem dX6_rounds_59 : decode cX6_rounds 59 = .ok (.iconst 0, 1) := by decide +kernel
theorem dX6_rounds_60 : decode cX6_rounds 60 = .ok (.iastore, 1) := by decide +kernel
theorem dX6_rounds_61 : decode cX6_rounds 61 = .ok (.aload_n 0, 1) := by decide +kernel
theorem dX6_rounds_62 : decode cX6_rounds 62 = .ok (.getfield 78, 3) := by decide +kernel
theorem dX6_rounds_65 : decode cX6_rounds 65 = .ok (.iload_n 1, 1) := by decide +kernel
theorem dX6_rounds_66 : decode cX6_rounds 66 = .ok (.iaload, 1) := by decide +kernel
theorem dX6_rounds_67 : decode cX6_rounds 67 = .ok (.istore_n 2, 1) := by decide +kernel
theorem dX6_rounds_68 : decode cX6_rounds 68 = .ok (.aload_n 0, 1) := by decide +kernel
theorem dX6_rounds_69 : decode cX6_rounds 69 = .ok (.getfield 87, 3) := by decide +kernel
theorem dX6_rounds_72 : decode cX6_rounds 72 = .ok (.iload_n 1, 1) := by decide +kernel
theorem dX6_rounds_73 : decode cX6_rounds 73 = .ok (.iaload, 1) := by decide +kernel
theorem dX6_rounds_74 : decode cX6_rounds 74 = .ok (.iconst 2, 1) := by decide +kernel
theorem dX6_rounds_75 : decode cX6_rounds 75 = .ok (.if_icmp .ne 7, 3) := by decide +kernel
theorem dX6_rounds_78 : decode cX6_rounds 78 = .ok (.iconst (-1), 1) := by decide +kernel
theorem dX6_rounds_79 : decode cX6_rounds 79 = .ok (.goto 9, 3) := by decide +kernel
theorem dX6_rounds_82 : decode cX6_rounds 82 = .ok (.aload_n 0, 1) := by decide +kernel
theorem dX6_rounds_83 : decode cX6_rounds 83 = .ok (.iload_n 1, 1) := by decide +kernel
theorem dX6_rounds_84 : decode cX6_rounds 84 = .ok (.iload_n 2, 1) := by decide +kernel
theorem dX6_rounds_85 : decode cX6_rounds 85 = .ok (.invokevirtual 126, 3) := by decide +kernel
theorem dX6_rounds_88 : decode cX6_rounds 88 = .ok (.istore_n 3, 1) := by decide +kernel
theorem dX6_rounds_89 : decode cX6_rounds 89 = .ok (.iload_n 3, 1) := by decide +kernel
theorem dX6_rounds_90 : decode cX6_rounds 90 = .ok (.iconst (-1), 1) := by decide +kernel
theorem dX6_rounds_91 : decode cX6_rounds 91 = .ok (.if_icmp .eq 76, 3) := by decide +kernel
theorem dX6_rounds_94 : decode cX6_rounds 94 = .ok (.aload_n 0, 1) := by decide +kernel
theorem dX6_rounds_95 : decode cX6_rounds 95 = .ok (.getfield 69, 3) := by decide +kernel
theorem dX6_rounds_98 : decode cX6_rounds 98 = .ok (.bipush 24, 2) := by decide +kernel
theorem dX6_rounds_100 : decode cX6_rounds 100 = .ok (.iload_n 1, 1) := by decide +kernel
theorem dX6_rounds_101 : decode cX6_rounds 101 = .ok (.imul, 1) := by decide +kernel
theorem dX6_rounds_102 : decode cX6_rounds 102 = .ok (.aload_n 0, 1) := by decide +kernel
theorem dX6_rounds_103 : decode cX6_rounds 103 = .ok (.getfield 72, 3) := by decide +kernel
theorem dX6_rounds_106 : decode cX6_rounds 106 = .ok (.iload_n 1, 1) := by decide +kernel
theorem dX6_rounds_107 : decode cX6_rounds 107 = .ok (.iaload, 1) := by decide +kernel
theorem dX6_rounds_108 : decode cX6_rounds 108 = .ok (.iadd, 1) := by decide +kernel
theorem dX6_rounds_109 : decode cX6_rounds 109 = .ok (.iload_n 3, 1) := by decide +kernel
theorem dX6_rounds_110 : decode cX6_rounds 110 = .ok (.iastore, 1) := by decide +kernel
theorem dX6_rounds_111 : decode cX6_rounds 111 = .ok (.aload_n 0, 1) := by decide +kernel
theorem dX6_rounds_112 : decode cX6_rounds 112 = .ok (.getfield 72, 3) := by decide +kernel
theorem dX6_rounds_115 : decode cX6_rounds 115 = .ok (.iload_n 1, 1) := by decide +kernel
theorem dX6_rounds_116 : decode cX6_rounds 116 = .ok (.dup2, 1) := by decide +kernel
theorem dX6_rounds_117 : decode cX6_rounds 117 = .ok (.iaload, 1) := by decide +kernel
theorem dX6_rounds_118 : decode cX6_rounds 118 = .ok (.iconst 1, 1) := by decide +kernel
theorem dX6_rounds_119 : decode cX6_rounds 119 = .ok (.iadd, 1) := by decide +kernel
theorem dX6_rounds_120 : decode cX6_rounds 120 = .ok (.iastore, 1) := by decide +kernel
theorem dX6_rounds_121 : decode cX6_rounds 121 = .ok (.aload_n 0, 1) := by decide +kernel
theorem dX6_rounds_122 : decode cX6_rounds 122 = .ok (.getfield 75, 3) := by decide +kernel
theorem dX6_rounds_125 : decode cX6_rounds 125 = .ok (.iload_n 1, 1) := by decide +kernel
theorem dX6_rounds_126 : decode cX6_rounds 126 = .ok (.dup2, 1) := by decide +kernel
theorem dX6_rounds_127 : decode cX6_rounds 127 = .ok (.iaload, 1) := by decide +kernel
theorem dX6_rounds_128 : decode cX6_rounds 128 = .ok (.iload_n 2, 1) := by decide +kernel
theorem dX6_rounds_129 : decode cX6_rounds 129 = .ok (.aload_n 0, 1) := by decide +kernel
theorem dX6_rounds_130 : decode cX6_rounds 130 = .ok (.getfield 17, 3) := by decide +kernel
theorem dX6_rounds_133 : decode cX6_rounds 133 = .ok (.iload_n 3, 1) := by decide +kernel
theorem dX6_rounds_134 : decode cX6_rounds 134 = .ok (.iaload, 1) := by decide +kernel
theorem dX6_rounds_135 : decode cX6_rounds 135 = .ok (.invokestatic 122, 3) := by decide +kernel
theorem dX6_rounds_138 : decode cX6_rounds 138 = .ok (.bipush 30, 2) := by decide +kernel
theorem dX6_rounds_140 : decode cX6_rounds 140 = .ok (.iadd, 1) := by decide +kernel
theorem dX6_rounds_141 : decode cX6_rounds 141 = .ok (.iadd, 1) := by decide +kernel
theorem dX6_rounds_142 : decode cX6_rounds 142 = .ok (.iastore, 1) := by decide +kernel
theorem dX6_rounds_143 : decode cX6_rounds 143 = .ok (.aload_n 0, 1) := by decide +kernel
theorem dX6_rounds_144 : decode cX6_rounds 144 = .ok (.getfield 66, 3) := by decide +kernel
theorem dX6_rounds_147 : decode cX6_rounds 147 = .ok (.iload_n 3, 1) := by decide +kernel
theorem dX6_rounds_148 : decode cX6_rounds 148 = .ok (.iload_n 1, 1) := by decide +kernel
theorem dX6_rounds_149 : decode cX6_rounds 149 = .ok (.iastore, 1) := by decide +kernel
theorem dX6_rounds_150 : decode cX6_rounds 150 = .ok (.aload_n 0, 1) := by decide +kernel
theorem dX6_rounds_151 : decode cX6_rounds 151 = .ok (.getfield 17, 3) := by decide +kernel
theorem dX6_rounds_154 : decode cX6_rounds 154 = .ok (.iload_n 3, 1) := by decide +kernel
theorem dX6_rounds_155 : decode cX6_rounds 155 = .ok (.iaload, 1) := by decide +kernel
theorem dX6_rounds_156 : decode cX6_rounds 156 = .ok (.istore_n 2, 1) := by decide +kernel
theorem dX6_rounds_157 : decode cX6_rounds 157 = .ok (.aload_n 0, 1) := by decide +kernel
theorem dX6_rounds_158 : decode cX6_rounds 158 = .ok (.iload_n 1, 1) := by decide +kernel
theorem dX6_rounds_159 : decode cX6_rounds 159 = .ok (.iload_n 2, 1) := by decide +kernel
theorem dX6_rounds_160 : decode cX6_rounds 160 = .ok (.invokevirtual 126, 3) := by decide +kernel
theorem dX6_rounds_163 : decode cX6_rounds 163 = .ok (.istore_n 3, 1) := by decide +kernel
theorem dX6_rounds_164 : decode cX6_rounds 164 = .ok (.goto (-75), 3) := by decide +kernel
theorem dX6_rounds_167 : decode cX6_rounds 167 = .ok (.aload_n 0, 1) := by decide +kernel
theorem dX6_rounds_168 : decode cX6_rounds 168 = .ok (.getfield 75, 3) := by decide +kernel
theorem dX6_rounds_171 : decode cX6_rounds 171 = .ok (.iload_n 1, 1) := by decide +kernel
theorem dX6_rounds_172 : decode cX6_rounds 172 = .ok (.dup2, 1) := by decide +kernel
theorem dX6_rounds_173 : decode cX6_rounds 173 = .ok (.iaload, 1) := by decide +kernel
theorem dX6_rounds_174 : decode cX6_rounds 174 = .ok (.iload_n 2, 1) := by decide +kernel
theorem dX6_rounds_175 : decode cX6_rounds 175 = .ok (.aload_n 0, 1) := by decide +kernel
theorem dX6_rounds_176 : decode cX6_rounds 176 = .ok (.getfield 78, 3) := by decide +kernel
theorem dX6_rounds_179 : decode cX6_rounds 179 = .ok (.iload_n 1, 1) := by decide +kernel
theorem dX6_rounds_180 : decode cX6_rounds 180 = .ok (.iaload, 1) := by decide +kernel
theorem dX6_rounds_181 : decode cX6_rounds 181 = .ok (.invokestatic 122, 3) := by decide +kernel
theorem dX6_rounds_184 : decode cX6_rounds 184 = .ok (.iadd, 1) := by decide +kernel
theorem dX6_rounds_185 : decode cX6_rounds 185 = .ok (.iastore, 1) := by decide +kernel
theorem dX6_rounds_186 : decode cX6_rounds 186 = .ok (.iinc 1 1, 3) := by decide +kernel
theorem dX6_rounds_189 : decode cX6_rounds 189 = .ok (.goto (-150), 3) := by decide +kernel
theorem dX6_rounds_192 : decode cX6_rounds 192 = .ok (.return_, 1) := by decide +kernel
theorem dX6_roundSize_0 : decode cX6_roundSize 0 = .ok (.aload_n 0, 1) := by decide +kernel
theorem dX6_roundSize_1 : decode cX6_roundSize 1 = .ok (.iload_n 1, 1) := by decide +kernel
theorem dX6_roundSize_2 : decode cX6_roundSize 2 = .ok (.invokevirtual 129, 3) := by decide +kernel
theorem dX6_roundSize_5 : decode cX6_roundSize 5 = .ok (.ifCond .eq 12, 3) := by decide +kernel
theorem dX6_roundSize_8 : decode cX6_roundSize 8 = .ok (.aload_n 0, 1) := by decide +kernel
theorem dX6_roundSize_9 : decode cX6_roundSize 9 = .ok (.getfield 72, 3) := by decide +kernel
theorem dX6_roundSize_12 : decode cX6_roundSize 12 = .ok (.iload_n 1, 1) := by decide +kernel
theorem dX6_roundSize_13 : decode cX6_roundSize 13 = .ok (.iaload, 1) := by decide +kernel
theorem dX6_roundSize_14 : decode cX6_roundSize 14 = .ok (.goto 4, 3) := by decide +kernel
theorem dX6_roundSize_17 : decode cX6_roundSize 17 = .ok (.iconst 0, 1) := by decide +kernel
theorem dX6_roundSize_18 : decode cX6_roundSize 18 = .ok (.ireturn, 1) := by decide +kernel
theorem dX6_roundAt_0 : decode cX6_roundAt 0 = .ok (.aload_n 0, 1) := by decide +kernel
theorem dX6_roundAt_1 : decode cX6_roundAt 1 = .ok (.iload_n 1, 1) := by decide +kernel
theorem dX6_roundAt_2 : decode cX6_roundAt 2 = .ok (.invokevirtual 129, 3) := by decide +kernel
theorem dX6_roundAt_5 : decode cX6_roundAt 5 = .ok (.ifCond .ne 5, 3) := by decide +kernel
theorem dX6_roundAt_8 : decode cX6_roundAt 8 = .ok (.iconst 0, 1) := by decide +kernel
theorem dX6_roundAt_9 : decode cX6_roundAt 9 = .ok (.ireturn, 1) := by decide +kernel
theorem dX6_roundAt_10 : decode cX6_roundAt 10 = .ok (.iload_n 2, 1) := by decide +kernel
theorem dX6_roundAt_11 : decode cX6_roundAt 11 = .ok (.iconst 0, 1) := by decide +kernel
theorem dX6_roundAt_12 : decode cX6_roundAt 12 = .ok (.aload_n 0, 1) := by decide +kernel
theorem dX6_roundAt_13 : decode cX6_roundAt 13 = .ok (.getfield 72, 3) := by decide +kernel
theorem dX6_roundAt_16 : decode cX6_roundAt 16 = .ok (.iload_n 1, 1) := by decide +kernel
theorem dX6_roundAt_17 : decode cX6_roundAt 17 = .ok (.iaload, 1) := by decide +kernel
theorem dX6_roundAt_18 : decode cX6_roundAt 18 = .ok (.iconst 1, 1) := by decide +kernel
theorem dX6_roundAt_19 : decode cX6_roundAt 19 = .ok (.isub, 1) := by decide +kernel
theorem dX6_roundAt_20 : decode cX6_roundAt 20 = .ok (.invokestatic 96, 3) := by decide +kernel
theorem dX6_roundAt_23 : decode cX6_roundAt 23 = .ok (.ifCond .eq 17, 3) := by decide +kernel
theorem dX6_roundAt_26 : decode cX6_roundAt 26 = .ok (.aload_n 0, 1) := by decide +kernel
theorem dX6_roundAt_27 : decode cX6_roundAt 27 = .ok (.getfield 69, 3) := by decide +kernel
theorem dX6_roundAt_30 : decode cX6_roundAt 30 = .ok (.bipush 24, 2) := by decide +kernel
theorem dX6_roundAt_32 : decode cX6_roundAt 32 = .ok (.iload_n 1, 1) := by decide +kernel
theorem dX6_roundAt_33 : decode cX6_roundAt 33 = .ok (.imul, 1) := by decide +kernel
theorem dX6_roundAt_34 : decode cX6_roundAt 34 = .ok (.iload_n 2, 1) := by decide +kernel
theorem dX6_roundAt_35 : decode cX6_roundAt 35 = .ok (.iadd, 1) := by decide +kernel
theorem dX6_roundAt_36 : decode cX6_roundAt 36 = .ok (.iaload, 1) := by decide +kernel
theorem dX6_roundAt_37 : decode cX6_roundAt 37 = .ok (.goto 8, 3) := by decide +kernel
theorem dX6_roundAt_40 : decode cX6_roundAt 40 = .ok (.aload_n 0, 1) := by decide +kernel
theorem dX6_roundAt_41 : decode cX6_roundAt 41 = .ok (.iconst 2, 1) := by decide +kernel
theorem dX6_roundAt_42 : decode cX6_roundAt 42 = .ok (.invokevirtual 104, 3) := by decide +kernel
theorem dX6_roundAt_45 : decode cX6_roundAt 45 = .ok (.ireturn, 1) := by decide +kernel
theorem dX6_roundMinutes_0 : decode cX6_roundMinutes 0 = .ok (.aload_n 0, 1) := by decide +kernel
theorem dX6_roundMinutes_1 : decode cX6_roundMinutes 1 = .ok (.iload_n 1, 1) := by decide +kernel
theorem dX6_roundMinutes_2 : decode cX6_roundMinutes 2 = .ok (.invokevirtual 129, 3) := by decide +kernel
theorem dX6_roundMinutes_5 : decode cX6_roundMinutes 5 = .ok (.ifCond .eq 12, 3) := by decide +kernel
theorem dX6_roundMinutes_8 : decode cX6_roundMinutes 8 = .ok (.aload_n 0, 1) := by decide +kernel
theorem dX6_roundMinutes_9 : decode cX6_roundMinutes 9 = .ok (.getfield 75, 3) := by decide +kernel
theorem dX6_roundMinutes_12 : decode cX6_roundMinutes 12 = .ok (.iload_n 1, 1) := by decide +kernel
theorem dX6_roundMinutes_13 : decode cX6_roundMinutes 13 = .ok (.iaload, 1) := by decide +kernel
theorem dX6_roundMinutes_14 : decode cX6_roundMinutes 14 = .ok (.goto 4, 3) := by decide +kernel
theorem dX6_roundMinutes_17 : decode cX6_roundMinutes 17 = .ok (.iconst 0, 1) := by decide +kernel
theorem dX6_roundMinutes_18 : decode cX6_roundMinutes 18 = .ok (.ireturn, 1) := by decide +kernel
theorem dX6_visit_0 : decode cX6_visit 0 = .ok (.aload_n 0, 1) := by decide +kernel
theorem dX6_visit_1 : decode cX6_visit 1 = .ok (.iload_n 1, 1) := by decide +kernel
theorem dX6_visit_2 : decode cX6_visit 2 = .ok (.invokevirtual 133, 3) := by decide +kernel
theorem dX6_visit_5 : decode cX6_visit 5 = .ok (.ifCond .ne 5, 3) := by decide +kernel
theorem dX6_visit_8 : decode cX6_visit 8 = .ok (.iconst 0, 1) := by decide +kernel
theorem dX6_visit_9 : decode cX6_visit 9 = .ok (.ireturn, 1) := by decide +kernel
theorem dX6_visit_10 : decode cX6_visit 10 = .ok (.iload_n 2, 1) := by decide +kernel
theorem dX6_visit_11 : decode cX6_visit 11 = .ok (.bipush 97, 2) := by decide +kernel
theorem dX6_visit_13 : decode cX6_visit 13 = .ok (.if_icmp .eq 21, 3) := by decide +kernel
theorem dX6_visit_16 : decode cX6_visit 16 = .ok (.iload_n 2, 1) := by decide +kernel
theorem dX6_visit_17 : decode cX6_visit 17 = .ok (.bipush 110, 2) := by decide +kernel
theorem dX6_visit_19 : decode cX6_visit 19 = .ok (.if_icmp .eq 15, 3) := by decide +kernel
theorem dX6_visit_22 : decode cX6_visit 22 = .ok (.iload_n 2, 1) := by decide +kernel
theorem dX6_visit_23 : decode cX6_visit 23 = .ok (.bipush 114, 2) := by decide +kernel
theorem dX6_visit_25 : decode cX6_visit 25 = .ok (.if_icmp .eq 9, 3) := by decide +kernel
theorem dX6_visit_28 : decode cX6_visit 28 = .ok (.iload_n 2, 1) := by decide +kernel
theorem dX6_visit_29 : decode cX6_visit 29 = .ok (.bipush 101, 2) := by decide +kernel
theorem dX6_visit_31 : decode cX6_visit 31 = .ok (.if_icmp .ne 13, 3) := by decide +kernel
theorem dX6_visit_34 : decode cX6_visit 34 = .ok (.iload_n 3, 1) := by decide +kernel
theorem dX6_visit_35 : decode cX6_visit 35 = .ok (.iconst 0, 1) := by decide +kernel
theorem dX6_visit_36 : decode cX6_visit 36 = .ok (.bipush 9, 2) := by decide +kernel
theorem dX6_visit_38 : decode cX6_visit 38 = .ok (.invokestatic 96, 3) := by decide +kernel
theorem dX6_visit_41 : decode cX6_visit 41 = .ok (.ifCond .ne 9, 3) := by decide +kernel
theorem dX6_visit_44 : decode cX6_visit 44 = .ok (.aload_n 0, 1) := by decide +kernel
theorem dX6_visit_45 : decode cX6_visit 45 = .ok (.iconst 2, 1) := by decide +kernel
theorem dX6_visit_46 : decode cX6_visit 46 = .ok (.invokevirtual 104, 3) := by decide +kernel
theorem dX6_visit_49 : decode cX6_visit 49 = .ok (.ireturn, 1) := by decide +kernel
theorem dX6_visit_50 : decode cX6_visit 50 = .ok (.aload_n 0, 1) := by decide +kernel
theorem dX6_visit_51 : decode cX6_visit 51 = .ok (.getfield 66, 3) := by decide +kernel
theorem dX6_visit_54 : decode cX6_visit 54 = .ok (.iload_n 1, 1) := by decide +kernel
theorem dX6_visit_55 : decode cX6_visit 55 = .ok (.iaload, 1) := by decide +kernel
theorem dX6_visit_56 : decode cX6_visit 56 = .ok (.istore 4, 2) := by decide +kernel
theorem dX6_visit_58 : decode cX6_visit 58 = .ok (.iload 4, 2) := by decide +kernel
theorem dX6_visit_60 : decode cX6_visit 60 = .ok (.iconst (-1), 1) := by decide +kernel
theorem dX6_visit_61 : decode cX6_visit 61 = .ok (.if_icmp .eq 23, 3) := by decide +kernel
theorem dX6_visit_64 : decode cX6_visit 64 = .ok (.aload_n 0, 1) := by decide +kernel
theorem dX6_visit_65 : decode cX6_visit 65 = .ok (.getfield 63, 3) := by decide +kernel
theorem dX6_visit_68 : decode cX6_visit 68 = .ok (.iload_n 1, 1) := by decide +kernel
theorem dX6_visit_69 : decode cX6_visit 69 = .ok (.baload, 1) := by decide +kernel
theorem dX6_visit_70 : decode cX6_visit 70 = .ok (.ifCond .ne 14, 3) := by decide +kernel
theorem dX6_visit_73 : decode cX6_visit 73 = .ok (.aload_n 0, 1) := by decide +kernel
theorem dX6_visit_74 : decode cX6_visit 74 = .ok (.getfield 87, 3) := by decide +kernel
theorem dX6_visit_77 : decode cX6_visit 77 = .ok (.iload 4, 2) := by decide +kernel
theorem dX6_visit_79 : decode cX6_visit 79 = .ok (.iaload, 1) := by decide +kernel
theorem dX6_visit_80 : decode cX6_visit 80 = .ok (.iconst 2, 1) := by decide +kernel
theorem dX6_visit_81 : decode cX6_visit 81 = .ok (.if_icmp .ne 9, 3) := by decide +kernel
theorem dX6_visit_84 : decode cX6_visit 84 = .ok (.aload_n 0, 1) := by decide +kernel
theorem dX6_visit_85 : decode cX6_visit 85 = .ok (.iconst 3, 1) := by decide +kernel
theorem dX6_visit_86 : decode cX6_visit 86 = .ok (.invokevirtual 104, 3) := by decide +kernel
theorem dX6_visit_89 : decode cX6_visit 89 = .ok (.ireturn, 1) := by decide +kernel
theorem dX6_visit_90 : decode cX6_visit 90 = .ok (.aload_n 0, 1) := by decide +kernel
theorem dX6_visit_91 : decode cX6_visit 91 = .ok (.getfield 63, 3) := by decide +kernel
theorem dX6_visit_94 : decode cX6_visit 94 = .ok (.iload_n 1, 1) := by decide +kernel
theorem dX6_visit_95 : decode cX6_visit 95 = .ok (.iconst 1, 1) := by decide +kernel
theorem dX6_visit_96 : decode cX6_visit 96 = .ok (.bastore, 1) := by decide +kernel
theorem dX6_visit_97 : decode cX6_visit 97 = .ok (.aload_n 0, 1) := by decide +kernel
theorem dX6_visit_98 : decode cX6_visit 98 = .ok (.getfield 29, 3) := by decide +kernel
theorem dX6_visit_101 : decode cX6_visit 101 = .ok (.iload_n 1, 1) := by decide +kernel
theorem dX6_visit_102 : decode cX6_visit 102 = .ok (.dup2, 1) := by decide +kernel
theorem dX6_visit_103 : decode cX6_visit 103 = .ok (.iaload, 1) := by decide +kernel
theorem dX6_visit_104 : decode cX6_visit 104 = .ok (.iconst 1, 1) := by decide +kernel
theorem dX6_visit_105 : decode cX6_visit 105 = .ok (.iadd, 1) := by decide +kernel
theorem dX6_visit_106 : decode cX6_visit 106 = .ok (.iastore, 1) := by decide +kernel
theorem dX6_visit_107 : decode cX6_visit 107 = .ok (.iload_n 2, 1) := by decide +kernel
theorem dX6_visit_108 : decode cX6_visit 108 = .ok (.bipush 97, 2) := by decide +kernel
theorem dX6_visit_110 : decode cX6_visit 110 = .ok (.if_icmp .ne 48, 3) := by decide +kernel
theorem dX6_visit_113 : decode cX6_visit 113 = .ok (.aload_n 0, 1) := by decide +kernel
theorem dX6_visit_114 : decode cX6_visit 114 = .ok (.getfield 23, 3) := by decide +kernel
theorem dX6_visit_117 : decode cX6_visit 117 = .ok (.iload_n 1, 1) := by decide +kernel
theorem dX6_visit_118 : decode cX6_visit 118 = .ok (.bipush 97, 2) := by decide +kernel
theorem dX6_visit_120 : decode cX6_visit 120 = .ok (.iastore, 1) := by decide +kernel
theorem dX6_visit_121 : decode cX6_visit 121 = .ok (.aload_n 0, 1) := by decide +kernel
theorem dX6_visit_122 : decode cX6_visit 122 = .ok (.getfield 41, 3) := by decide +kernel
theorem dX6_visit_125 : decode cX6_visit 125 = .ok (.iload_n 1, 1) := by decide +kernel
theorem dX6_visit_126 : decode cX6_visit 126 = .ok (.iload_n 3, 1) := by decide +kernel
theorem dX6_visit_127 : decode cX6_visit 127 = .ok (.iastore, 1) := by decide +kernel
theorem dX6_visit_128 : decode cX6_visit 128 = .ok (.aload_n 0, 1) := by decide +kernel
theorem dX6_visit_129 : decode cX6_visit 129 = .ok (.getfield 44, 3) := by decide +kernel
theorem dX6_visit_132 : decode cX6_visit 132 = .ok (.iload_n 1, 1) := by decide +kernel
theorem dX6_visit_133 : decode cX6_visit 133 = .ok (.iload 4, 2) := by decide +kernel
theorem dX6_visit_135 : decode cX6_visit 135 = .ok (.iastore, 1) := by decide +kernel
theorem dX6_visit_136 : decode cX6_visit 136 = .ok (.aload_n 0, 1) := by decide +kernel
theorem dX6_visit_137 : decode cX6_visit 137 = .ok (.getfield 47, 3) := by decide +kernel
theorem dX6_visit_140 : decode cX6_visit 140 = .ok (.iload_n 1, 1) := by decide +kernel
theorem dX6_visit_141 : decode cX6_visit 141 = .ok (.aload_n 0, 1) := by decide +kernel
theorem dX6_visit_142 : decode cX6_visit 142 = .ok (.getfield 29, 3) := by decide +kernel
theorem dX6_visit_145 : decode cX6_visit 145 = .ok (.iload_n 1, 1) := by decide +kernel
theorem dX6_visit_146 : decode cX6_visit 146 = .ok (.iaload, 1) := by decide +kernel
theorem dX6_visit_147 : decode cX6_visit 147 = .ok (.iastore, 1) := by decide +kernel
theorem dX6_visit_148 : decode cX6_visit 148 = .ok (.aload_n 0, 1) := by decide +kernel
theorem dX6_visit_149 : decode cX6_visit 149 = .ok (.getfield 57, 3) := by decide +kernel
theorem dX6_visit_152 : decode cX6_visit 152 = .ok (.iload_n 1, 1) := by decide +kernel
theorem dX6_visit_153 : decode cX6_visit 153 = .ok (.iconst 0, 1) := by decide +kernel
theorem dX6_visit_154 : decode cX6_visit 154 = .ok (.bastore, 1) := by decide +kernel
theorem dX6_visit_155 : decode cX6_visit 155 = .ok (.goto 137, 3) := by decide +kernel
theorem dX6_visit_158 : decode cX6_visit 158 = .ok (.iload_n 2, 1) := by decide +kernel
theorem dX6_visit_159 : decode cX6_visit 159 = .ok (.bipush 110, 2) := by decide +kernel
theorem dX6_visit_161 : decode cX6_visit 161 = .ok (.if_icmp .ne 56, 3) := by decide +kernel
theorem dX6_visit_164 : decode cX6_visit 164 = .ok (.aload_n 0, 1) := by decide +kernel
theorem dX6_visit_165 : decode cX6_visit 165 = .ok (.getfield 32, 3) := by decide +kernel
theorem dX6_visit_168 : decode cX6_visit 168 = .ok (.iload_n 1, 1) := by decide +kernel
theorem dX6_visit_169 : decode cX6_visit 169 = .ok (.dup2, 1) := by decide +kernel
theorem dX6_visit_170 : decode cX6_visit 170 = .ok (.iaload, 1) := by decide +kernel
theorem dX6_visit_171 : decode cX6_visit 171 = .ok (.iconst 1, 1) := by decide +kernel
theorem dX6_visit_172 : decode cX6_visit 172 = .ok (.iadd, 1) := by decide +kernel
theorem dX6_visit_173 : decode cX6_visit 173 = .ok (.iastore, 1) := by decide +kernel
theorem dX6_visit_174 : decode cX6_visit 174 = .ok (.aload_n 0, 1) := by decide +kernel
theorem dX6_visit_175 : decode cX6_visit 175 = .ok (.getfield 26, 3) := by decide +kernel
theorem dX6_visit_178 : decode cX6_visit 178 = .ok (.iload_n 1, 1) := by decide +kernel
theorem dX6_visit_179 : decode cX6_visit 179 = .ok (.aload_n 0, 1) := by decide +kernel
theorem dX6_visit_180 : decode cX6_visit 180 = .ok (.getfield 115, 3) := by decide +kernel
theorem dX6_visit_183 : decode cX6_visit 183 = .ok (.aload_n 0, 1) := by decide +kernel
theorem dX6_visit_184 : decode cX6_visit 184 = .ok (.getfield 32, 3) := by decide +kernel
theorem dX6_visit_187 : decode cX6_visit 187 = .ok (.iload_n 1, 1) := by decide +kernel
theorem dX6_visit_188 : decode cX6_visit 188 = .ok (.iaload, 1) := by decide +kernel
theorem dX6_visit_189 : decode cX6_visit 189 = .ok (.iadd, 1) := by decide +kernel
theorem dX6_visit_190 : decode cX6_visit 190 = .ok (.iastore, 1) := by decide +kernel
theorem dX6_visit_191 : decode cX6_visit 191 = .ok (.aload_n 0, 1) := by decide +kernel
theorem dX6_visit_192 : decode cX6_visit 192 = .ok (.getfield 23, 3) := by decide +kernel
theorem dX6_visit_195 : decode cX6_visit 195 = .ok (.iload_n 1, 1) := by decide +kernel
theorem dX6_visit_196 : decode cX6_visit 196 = .ok (.aload_n 0, 1) := by decide +kernel
theorem dX6_visit_197 : decode cX6_visit 197 = .ok (.getfield 32, 3) := by decide +kernel
theorem dX6_visit_200 : decode cX6_visit 200 = .ok (.iload_n 1, 1) := by decide +kernel
theorem dX6_visit_201 : decode cX6_visit 201 = .ok (.iaload, 1) := by decide +kernel
theorem dX6_visit_202 : decode cX6_visit 202 = .ok (.iconst 3, 1) := by decide +kernel
theorem dX6_visit_203 : decode cX6_visit 203 = .ok (.if_icmp .ne 8, 3) := by decide +kernel
theorem dX6_visit_206 : decode cX6_visit 206 = .ok (.bipush 103, 2) := by decide +kernel
theorem dX6_visit_208 : decode cX6_visit 208 = .ok (.goto 5, 3) := by decide +kernel
theorem dX6_visit_211 : decode cX6_visit 211 = .ok (.bipush 119, 2) := by decide +kernel
theorem dX6_visit_213 : decode cX6_visit 213 = .ok (.iastore, 1) := by decide +kernel
theorem dX6_visit_214 : decode cX6_visit 214 = .ok (.goto 78, 3) := by decide +kernel
theorem dX6_visit_217 : decode cX6_visit 217 = .ok (.iload_n 2, 1) := by decide +kernel
theorem dX6_visit_218 : decode cX6_visit 218 = .ok (.bipush 114, 2) := by decide +kernel
theorem dX6_visit_220 : decode cX6_visit 220 = .ok (.if_icmp .ne 64, 3) := by decide +kernel
theorem dX6_visit_223 : decode cX6_visit 223 = .ok (.aload_n 0, 1) := by decide +kernel
theorem dX6_visit_224 : decode cX6_visit 224 = .ok (.getfield 35, 3) := by decide +kernel
theorem dX6_visit_227 : decode cX6_visit 227 = .ok (.iload_n 1, 1) := by decide +kernel
theorem dX6_visit_228 : decode cX6_visit 228 = .ok (.dup2, 1) := by decide +kernel
theorem dX6_visit_229 : decode cX6_visit 229 = .ok (.iaload, 1) := by decide +kernel
theorem dX6_visit_230 : decode cX6_visit 230 = .ok (.iconst 1, 1) := by decide +kernel
theorem dX6_visit_231 : decode cX6_visit 231 = .ok (.iadd, 1) := by decide +kernel
theorem dX6_visit_232 : decode cX6_visit 232 = .ok (.iastore, 1) := by decide +kernel
theorem dX6_visit_233 : decode cX6_visit 233 = .ok (.aload_n 0, 1) := by decide +kernel
theorem dX6_visit_234 : decode cX6_visit 234 = .ok (.getfield 38, 3) := by decide +kernel
theorem dX6_visit_237 : decode cX6_visit 237 = .ok (.iload_n 1, 1) := by decide +kernel
theorem dX6_visit_238 : decode cX6_visit 238 = .ok (.dup2, 1) := by decide +kernel
theorem dX6_visit_239 : decode cX6_visit 239 = .ok (.iaload, 1) := by decide +kernel
theorem dX6_visit_240 : decode cX6_visit 240 = .ok (.iconst 1, 1) := by decide +kernel
theorem dX6_visit_241 : decode cX6_visit 241 = .ok (.iload 4, 2) := by decide +kernel
theorem dX6_visit_243 : decode cX6_visit 243 = .ok (.ishl, 1) := by decide +kernel
theorem dX6_visit_244 : decode cX6_visit 244 = .ok (.ior, 1) := by decide +kernel
theorem dX6_visit_245 : decode cX6_visit 245 = .ok (.iastore, 1) := by decide +kernel
theorem dX6_visit_246 : decode cX6_visit 246 = .ok (.aload_n 0, 1) := by decide +kernel
theorem dX6_visit_247 : decode cX6_visit 247 = .ok (.getfield 26, 3) := by decide +kernel
theorem dX6_visit_250 : decode cX6_visit 250 = .ok (.iload_n 1, 1) := by decide +kernel
theorem dX6_visit_251 : decode cX6_visit 251 = .ok (.aload_n 0, 1) := by decide +kernel
theorem dX6_visit_252 : decode cX6_visit 252 = .ok (.getfield 115, 3) := by decide +kernel
theorem dX6_visit_255 : decode cX6_visit 255 = .ok (.iconst 3, 1) := by decide +kernel
theorem dX6_visit_256 : decode cX6_visit 256 = .ok (.iadd, 1) := by decide +kernel
theorem dX6_visit_257 : decode cX6_visit 257 = .ok (.iastore, 1) := by decide +kernel
theorem dX6_visit_258 : decode cX6_visit 258 = .ok (.aload_n 0, 1) := by decide +kernel
theorem dX6_visit_259 : decode cX6_visit 259 = .ok (.getfield 23, 3) := by decide +kernel
theorem dX6_visit_262 : decode cX6_visit 262 = .ok (.iload_n 1, 1) := by decide +kernel
theorem dX6_visit_263 : decode cX6_visit 263 = .ok (.aload_n 0, 1) := by decide +kernel
theorem dX6_visit_264 : decode cX6_visit 264 = .ok (.getfield 35, 3) := by decide +kernel
theorem dX6_visit_267 : decode cX6_visit 267 = .ok (.iload_n 1, 1) := by decide +kernel
theorem dX6_visit_268 : decode cX6_visit 268 = .ok (.iaload, 1) := by decide +kernel
theorem dX6_visit_269 : decode cX6_visit 269 = .ok (.iconst 2, 1) := by decide +kernel
theorem dX6_visit_270 : decode cX6_visit 270 = .ok (.if_icmp .ne 8, 3) := by decide +kernel
theorem dX6_visit_273 : decode cX6_visit 273 = .ok (.bipush 114, 2) := by decide +kernel
theorem dX6_visit_275 : decode cX6_visit 275 = .ok (.goto 5, 3) := by decide +kernel
theorem dX6_visit_278 : decode cX6_visit 278 = .ok (.bipush 119, 2) := by decide +kernel
theorem dX6_visit_280 : decode cX6_visit 280 = .ok (.iastore, 1) := by decide +kernel
theorem dX6_visit_281 : decode cX6_visit 281 = .ok (.goto 11, 3) := by decide +kernel
theorem dX6_visit_284 : decode cX6_visit 284 = .ok (.aload_n 0, 1) := by decide +kernel
theorem dX6_visit_285 : decode cX6_visit 285 = .ok (.getfield 23, 3) := by decide +kernel
theorem dX6_visit_288 : decode cX6_visit 288 = .ok (.iload_n 1, 1) := by decide +kernel
theorem dX6_visit_289 : decode cX6_visit 289 = .ok (.bipush 101, 2) := by decide +kernel
theorem dX6_visit_291 : decode cX6_visit 291 = .ok (.iastore, 1) := by decide +kernel
theorem dX6_visit_292 : decode cX6_visit 292 = .ok (.aload_n 0, 1) := by decide +kernel
theorem dX6_visit_293 : decode cX6_visit 293 = .ok (.getfield 60, 3) := by decide +kernel
theorem dX6_visit_296 : decode cX6_visit 296 = .ok (.iload_n 1, 1) := by decide +kernel
theorem dX6_visit_297 : decode cX6_visit 297 = .ok (.aload_n 0, 1) := by decide +kernel
theorem dX6_visit_298 : decode cX6_visit 298 = .ok (.getfield 23, 3) := by decide +kernel
theorem dX6_visit_301 : decode cX6_visit 301 = .ok (.iload_n 1, 1) := by decide +kernel
theorem dX6_visit_302 : decode cX6_visit 302 = .ok (.iaload, 1) := by decide +kernel
theorem dX6_visit_303 : decode cX6_visit 303 = .ok (.bipush 97, 2) := by decide +kernel
theorem dX6_visit_305 : decode cX6_visit 305 = .ok (.if_icmp .eq 18, 3) := by decide +kernel
theorem dX6_visit_308 : decode cX6_visit 308 = .ok (.aload_n 0, 1) := by decide +kernel
theorem dX6_visit_309 : decode cX6_visit 309 = .ok (.getfield 23, 3) := by decide +kernel
theorem dX6_visit_312 : decode cX6_visit 312 = .ok (.iload_n 1, 1) := by decide +kernel
theorem dX6_visit_313 : decode cX6_visit 313 = .ok (.iaload, 1) := by decide +kernel
theorem dX6_visit_314 : decode cX6_visit 314 = .ok (.bipush 119, 2) := by decide +kernel
theorem dX6_visit_316 : decode cX6_visit 316 = .ok (.if_icmp .eq 7, 3) := by decide +kernel
theorem dX6_visit_319 : decode cX6_visit 319 = .ok (.iconst 1, 1) := by decide +kernel
theorem dX6_visit_320 : decode cX6_visit 320 = .ok (.goto 4, 3) := by decide +kernel
theorem dX6_visit_323 : decode cX6_visit 323 = .ok (.iconst 0, 1) := by decide +kernel
theorem dX6_visit_324 : decode cX6_visit 324 = .ok (.bastore, 1) := by decide +kernel
theorem dX6_visit_325 : decode cX6_visit 325 = .ok (.iload 4, 2) := by decide +kernel
theorem dX6_visit_327 : decode cX6_visit 327 = .ok (.ireturn, 1) := by decide +kernel
theorem dX6_check_0 : decode cX6_check 0 = .ok (.aload_n 0, 1) := by decide +kernel
theorem dX6_check_1 : decode cX6_check 1 = .ok (.iload_n 1, 1) := by decide +kernel
theorem dX6_check_2 : decode cX6_check 2 = .ok (.invokevirtual 133, 3) := by decide +kernel
theorem dX6_check_5 : decode cX6_check 5 = .ok (.ifCond .ne 5, 3) := by decide +kernel
theorem dX6_check_8 : decode cX6_check 8 = .ok (.iconst 0, 1) := by decide +kernel
theorem dX6_check_9 : decode cX6_check 9 = .ok (.ireturn, 1) := by decide +kernel
theorem dX6_check_10 : decode cX6_check 10 = .ok (.aload_n 0, 1) := by decide +kernel
theorem dX6_check_11 : decode cX6_check 11 = .ok (.iload_n 2, 1) := by decide +kernel
theorem dX6_check_12 : decode cX6_check 12 = .ok (.iconst 0, 1) := by decide +kernel
theorem dX6_check_13 : decode cX6_check 13 = .ok (.bipush 9, 2) := by decide +kernel
theorem dX6_check_15 : decode cX6_check 15 = .ok (.invokestatic 96, 3) := by decide +kernel
theorem dX6_check_18 : decode cX6_check 18 = .ok (.ifCond .ne 7, 3) := by decide +kernel
theorem dX6_check_21 : decode cX6_check 21 = .ok (.iconst 2, 1) := by decide +kernel
theorem dX6_check_22 : decode cX6_check 22 = .ok (.goto 28, 3) := by decide +kernel
theorem dX6_check_25 : decode cX6_check 25 = .ok (.aload_n 0, 1) := by decide +kernel
theorem dX6_check_26 : decode cX6_check 26 = .ok (.getfield 23, 3) := by decide +kernel
theorem dX6_check_29 : decode cX6_check 29 = .ok (.iload_n 1, 1) := by decide +kernel
theorem dX6_check_30 : decode cX6_check 30 = .ok (.iaload, 1) := by decide +kernel
theorem dX6_check_31 : decode cX6_check 31 = .ok (.bipush 97, 2) := by decide +kernel
theorem dX6_check_33 : decode cX6_check 33 = .ok (.if_icmp .ne 12, 3) := by decide +kernel
theorem dX6_check_36 : decode cX6_check 36 = .ok (.aload_n 0, 1) := by decide +kernel
theorem dX6_check_37 : decode cX6_check 37 = .ok (.getfield 57, 3) := by decide +kernel
theorem dX6_check_40 : decode cX6_check 40 = .ok (.iload_n 1, 1) := by decide +kernel
theorem dX6_check_41 : decode cX6_check 41 = .ok (.baload, 1) := by decide +kernel
theorem dX6_check_42 : decode cX6_check 42 = .ok (.ifCond .eq 7, 3) := by decide +kernel
theorem dX6_check_45 : decode cX6_check 45 = .ok (.iconst 3, 1) := by decide +kernel
theorem dX6_check_46 : decode cX6_check 46 = .ok (.goto 4, 3) := by decide +kernel
theorem dX6_check_49 : decode cX6_check 49 = .ok (.iconst 0, 1) := by decide +kernel
theorem dX6_check_50 : decode cX6_check 50 = .ok (.putfield 90, 3) := by decide +kernel
theorem dX6_check_53 : decode cX6_check 53 = .ok (.aload_n 0, 1) := by decide +kernel
theorem dX6_check_54 : decode cX6_check 54 = .ok (.getfield 90, 3) := by decide +kernel
theorem dX6_check_57 : decode cX6_check 57 = .ok (.ifCond .le 5, 3) := by decide +kernel
theorem dX6_check_60 : decode cX6_check 60 = .ok (.iconst 0, 1) := by decide +kernel
theorem dX6_check_61 : decode cX6_check 61 = .ok (.ireturn, 1) := by decide +kernel
theorem dX6_check_62 : decode cX6_check 62 = .ok (.aload_n 0, 1) := by decide +kernel
theorem dX6_check_63 : decode cX6_check 63 = .ok (.getfield 57, 3) := by decide +kernel
theorem dX6_check_66 : decode cX6_check 66 = .ok (.iload_n 1, 1) := by decide +kernel
theorem dX6_check_67 : decode cX6_check 67 = .ok (.iconst 1, 1) := by decide +kernel
theorem dX6_check_68 : decode cX6_check 68 = .ok (.bastore, 1) := by decide +kernel
theorem dX6_check_69 : decode cX6_check 69 = .ok (.aload_n 0, 1) := by decide +kernel
theorem dX6_check_70 : decode cX6_check 70 = .ok (.getfield 41, 3) := by decide +kernel
theorem dX6_check_73 : decode cX6_check 73 = .ok (.iload_n 1, 1) := by decide +kernel
theorem dX6_check_74 : decode cX6_check 74 = .ok (.iaload, 1) := by decide +kernel
theorem dX6_check_75 : decode cX6_check 75 = .ok (.iload_n 2, 1) := by decide +kernel
theorem dX6_check_76 : decode cX6_check 76 = .ok (.if_icmp .ne 5, 3) := by decide +kernel
theorem dX6_check_79 : decode cX6_check 79 = .ok (.iconst 1, 1) := by decide +kernel
theorem dX6_check_80 : decode cX6_check 80 = .ok (.ireturn, 1) := by decide +kernel
theorem dX6_check_81 : decode cX6_check 81 = .ok (.aload_n 0, 1) := by decide +kernel
theorem dX6_check_82 : decode cX6_check 82 = .ok (.getfield 44, 3) := by decide +kernel
theorem dX6_check_85 : decode cX6_check 85 = .ok (.iload_n 1, 1) := by decide +kernel
theorem dX6_check_86 : decode cX6_check 86 = .ok (.iaload, 1) := by decide +kernel
theorem dX6_check_87 : decode cX6_check 87 = .ok (.istore_n 3, 1) := by decide +kernel
theorem dX6_check_88 : decode cX6_check 88 = .ok (.aload_n 0, 1) := by decide +kernel
theorem dX6_check_89 : decode cX6_check 89 = .ok (.getfield 87, 3) := by decide +kernel
theorem dX6_check_92 : decode cX6_check 92 = .ok (.iload_n 3, 1) := by decide +kernel
theorem dX6_check_93 : decode cX6_check 93 = .ok (.dup2, 1) := by decide +kernel
theorem dX6_check_94 : decode cX6_check 94 = .ok (.iaload, 1) := by decide +kernel
theorem dX6_check_95 : decode cX6_check 95 = .ok (.iconst 1, 1) := by decide +kernel
theorem dX6_check_96 : decode cX6_check 96 = .ok (.iadd, 1) := by decide +kernel
theorem dX6_check_97 : decode cX6_check 97 = .ok (.iastore, 1) := by decide +kernel
theorem dX6_check_98 : decode cX6_check 98 = .ok (.iconst 0, 1) := by decide +kernel
theorem dX6_check_99 : decode cX6_check 99 = .ok (.istore 4, 2) := by decide +kernel
theorem dX6_check_101 : decode cX6_check 101 = .ok (.iload 4, 2) := by decide +kernel
theorem dX6_check_103 : decode cX6_check 103 = .ok (.aload_n 0, 1) := by decide +kernel
theorem dX6_check_104 : decode cX6_check 104 = .ok (.getfield 93, 3) := by decide +kernel
theorem dX6_check_107 : decode cX6_check 107 = .ok (.if_icmp .ge 67, 3) := by decide +kernel
theorem dX6_check_110 : decode cX6_check 110 = .ok (.aload_n 0, 1) := by decide +kernel
theorem dX6_check_111 : decode cX6_check 111 = .ok (.getfield 87, 3) := by decide +kernel
theorem dX6_check_114 : decode cX6_check 114 = .ok (.iload_n 3, 1) := by decide +kernel
theorem dX6_check_115 : decode cX6_check 115 = .ok (.iaload, 1) := by decide +kernel
theorem dX6_check_116 : decode cX6_check 116 = .ok (.iconst 2, 1) := by decide +kernel
theorem dX6_check_117 : decode cX6_check 117 = .ok (.if_icmp .ne 57, 3) := by decide +kernel
theorem dX6_check_120 : decode cX6_check 120 = .ok (.aload_n 0, 1) := by decide +kernel
theorem dX6_check_121 : decode cX6_check 121 = .ok (.getfield 23, 3) := by decide +kernel
theorem dX6_check_124 : decode cX6_check 124 = .ok (.iload 4, 2) := by decide +kernel
theorem dX6_check_126 : decode cX6_check 126 = .ok (.iaload, 1) := by decide +kernel
theorem dX6_check_127 : decode cX6_check 127 = .ok (.bipush 97, 2) := by decide +kernel
theorem dX6_check_129 : decode cX6_check 129 = .ok (.if_icmp .ne 39, 3) := by decide +kernel
theorem dX6_check_132 : decode cX6_check 132 = .ok (.aload_n 0, 1) := by decide +kernel
theorem dX6_check_133 : decode cX6_check 133 = .ok (.getfield 44, 3) := by decide +kernel
theorem dX6_check_136 : decode cX6_check 136 = .ok (.iload 4, 2) := by decide +kernel
theorem dX6_check_138 : decode cX6_check 138 = .ok (.iaload, 1) := by decide +kernel
theorem dX6_check_139 : decode cX6_check 139 = .ok (.iload_n 3, 1) := by decide +kernel
theorem dX6_check_140 : decode cX6_check 140 = .ok (.if_icmp .eq 6, 3) := by decide +kernel
theorem dX6_check_143 : decode cX6_check 143 = .ok (.goto 25, 3) := by decide +kernel
theorem dX6_check_146 : decode cX6_check 146 = .ok (.aload_n 0, 1) := by decide +kernel
theorem dX6_check_147 : decode cX6_check 147 = .ok (.getfield 23, 3) := by decide +kernel
theorem dX6_check_150 : decode cX6_check 150 = .ok (.iload 4, 2) := by decide +kernel
theorem dX6_check_152 : decode cX6_check 152 = .ok (.bipush 119, 2) := by decide +kernel
theorem dX6_check_154 : decode cX6_check 154 = .ok (.iastore, 1) := by decide +kernel
theorem dX6_check_155 : decode cX6_check 155 = .ok (.aload_n 0, 1) := by decide +kernel
theorem dX6_check_156 : decode cX6_check 156 = .ok (.getfield 26, 3) := by decide +kernel
theorem dX6_check_159 : decode cX6_check 159 = .ok (.iload 4, 2) := by decide +kernel
theorem dX6_check_161 : decode cX6_check 161 = .ok (.aload_n 0, 1) := by decide +kernel
theorem dX6_check_162 : decode cX6_check 162 = .ok (.getfield 115, 3) := by decide +kernel
theorem dX6_check_165 : decode cX6_check 165 = .ok (.iconst 1, 1) := by decide +kernel
theorem dX6_check_166 : decode cX6_check 166 = .ok (.iadd, 1) := by decide +kernel
theorem dX6_check_167 : decode cX6_check 167 = .ok (.iastore, 1) := by decide +kernel
theorem dX6_check_168 : decode cX6_check 168 = .ok (.iinc 4 1, 3) := by decide +kernel
theorem dX6_check_171 : decode cX6_check 171 = .ok (.goto (-70), 3) := by decide +kernel
theorem dX6_check_174 : decode cX6_check 174 = .ok (.iconst 0, 1) := by decide +kernel
theorem dX6_check_175 : decode cX6_check 175 = .ok (.ireturn, 1) := by decide +kernel
theorem dX6_endDay_0 : decode cX6_endDay 0 = .ok (.aload_n 0, 1) := by decide +kernel
theorem dX6_endDay_1 : decode cX6_endDay 1 = .ok (.getfield 115, 3) := by decide +kernel
theorem dX6_endDay_4 : decode cX6_endDay 4 = .ok (.bipush 99, 2) := by decide +kernel
theorem dX6_endDay_6 : decode cX6_endDay 6 = .ok (.if_icmp .ne 9, 3) := by decide +kernel
theorem dX6_endDay_9 : decode cX6_endDay 9 = .ok (.aload_n 0, 1) := by decide +kernel
theorem dX6_endDay_10 : decode cX6_endDay 10 = .ok (.iconst 1, 1) := by decide +kernel
theorem dX6_endDay_11 : decode cX6_endDay 11 = .ok (.invokevirtual 104, 3) := by decide +kernel
theorem dX6_endDay_14 : decode cX6_endDay 14 = .ok (.ireturn, 1) := by decide +kernel
theorem dX6_endDay_15 : decode cX6_endDay 15 = .ok (.aload_n 0, 1) := by decide +kernel
theorem dX6_endDay_16 : decode cX6_endDay 16 = .ok (.iconst 0, 1) := by decide +kernel
theorem dX6_endDay_17 : decode cX6_endDay 17 = .ok (.putfield 90, 3) := by decide +kernel
theorem dX6_endDay_20 : decode cX6_endDay 20 = .ok (.iconst 0, 1) := by decide +kernel
theorem dX6_endDay_21 : decode cX6_endDay 21 = .ok (.istore_n 1, 1) := by decide +kernel
theorem dX6_endDay_22 : decode cX6_endDay 22 = .ok (.iconst 0, 1) := by decide +kernel
theorem dX6_endDay_23 : decode cX6_endDay 23 = .ok (.istore_n 2, 1) := by decide +kernel
theorem dX6_endDay_24 : decode cX6_endDay 24 = .ok (.iload_n 2, 1) := by decide +kernel
theorem dX6_endDay_25 : decode cX6_endDay 25 = .ok (.aload_n 0, 1) := by decide +kernel
theorem dX6_endDay_26 : decode cX6_endDay 26 = .ok (.getfield 93, 3) := by decide +kernel
theorem dX6_endDay_29 : decode cX6_endDay 29 = .ok (.if_icmp .ge 58, 3) := by decide +kernel
theorem dX6_endDay_32 : decode cX6_endDay 32 = .ok (.aload_n 0, 1) := by decide +kernel
theorem dX6_endDay_33 : decode cX6_endDay 33 = .ok (.getfield 60, 3) := by decide +kernel
theorem dX6_endDay_36 : decode cX6_endDay 36 = .ok (.iload_n 2, 1) := by decide +kernel
theorem dX6_endDay_37 : decode cX6_endDay 37 = .ok (.baload, 1) := by decide +kernel
theorem dX6_endDay_38 : decode cX6_endDay 38 = .ok (.ifCond .eq 43, 3) := by decide +kernel
theorem dX6_endDay_41 : decode cX6_endDay 41 = .ok (.aload_n 0, 1) := by decide +kernel
theorem dX6_endDay_42 : decode cX6_endDay 42 = .ok (.aload_n 0, 1) := by decide +kernel
theorem dX6_endDay_43 : decode cX6_endDay 43 = .ok (.getfield 13, 3) := by decide +kernel
theorem dX6_endDay_46 : decode cX6_endDay 46 = .ok (.iload_n 2, 1) := by decide +kernel
theorem dX6_endDay_47 : decode cX6_endDay 47 = .ok (.iaload, 1) := by decide +kernel
theorem dX6_endDay_48 : decode cX6_endDay 48 = .ok (.invokevirtual 112, 3) := by decide +kernel
theorem dX6_endDay_51 : decode cX6_endDay 51 = .ok (.ifCond .ne 6, 3) := by decide +kernel
theorem dX6_endDay_54 : decode cX6_endDay 54 = .ok (.goto 27, 3) := by decide +kernel
theorem dX6_endDay_57 : decode cX6_endDay 57 = .ok (.aload_n 0, 1) := by decide +kernel
theorem dX6_endDay_58 : decode cX6_endDay 58 = .ok (.aload_n 0, 1) := by decide +kernel
theorem dX6_endDay_59 : decode cX6_endDay 59 = .ok (.getfield 13, 3) := by decide +kernel
theorem dX6_endDay_62 : decode cX6_endDay 62 = .ok (.iload_n 2, 1) := by decide +kernel
theorem dX6_endDay_63 : decode cX6_endDay 63 = .ok (.iaload, 1) := by decide +kernel
theorem dX6_endDay_64 : decode cX6_endDay 64 = .ok (.iconst 1, 1) := by decide +kernel
theorem dX6_endDay_65 : decode cX6_endDay 65 = .ok (.invokevirtual 118, 3) := by decide +kernel
theorem dX6_endDay_68 : decode cX6_endDay 68 = .ok (.istore_n 3, 1) := by decide +kernel
theorem dX6_endDay_69 : decode cX6_endDay 69 = .ok (.iload_n 1, 1) := by decide +kernel
theorem dX6_endDay_70 : decode cX6_endDay 70 = .ok (.iload_n 3, 1) := by decide +kernel
theorem dX6_endDay_71 : decode cX6_endDay 71 = .ok (.ifCond .lt 7, 3) := by decide +kernel
theorem dX6_endDay_74 : decode cX6_endDay 74 = .ok (.iconst 1, 1) := by decide +kernel
theorem dX6_endDay_75 : decode cX6_endDay 75 = .ok (.goto 4, 3) := by decide +kernel
theorem dX6_endDay_78 : decode cX6_endDay 78 = .ok (.iconst 0, 1) := by decide +kernel
theorem dX6_endDay_79 : decode cX6_endDay 79 = .ok (.iadd, 1) := by decide +kernel
theorem dX6_endDay_80 : decode cX6_endDay 80 = .ok (.istore_n 1, 1) := by decide +kernel
theorem dX6_endDay_81 : decode cX6_endDay 81 = .ok (.iinc 2 1, 3) := by decide +kernel
theorem dX6_endDay_84 : decode cX6_endDay 84 = .ok (.goto (-60), 3) := by decide +kernel
theorem dX6_endDay_87 : decode cX6_endDay 87 = .ok (.aload_n 0, 1) := by decide +kernel
theorem dX6_endDay_88 : decode cX6_endDay 88 = .ok (.dup, 1) := by decide +kernel
theorem dX6_endDay_89 : decode cX6_endDay 89 = .ok (.getfield 115, 3) := by decide +kernel
theorem dX6_endDay_92 : decode cX6_endDay 92 = .ok (.iconst 1, 1) := by decide +kernel
theorem dX6_endDay_93 : decode cX6_endDay 93 = .ok (.iadd, 1) := by decide +kernel
theorem dX6_endDay_94 : decode cX6_endDay 94 = .ok (.putfield 115, 3) := by decide +kernel
theorem dX6_endDay_97 : decode cX6_endDay 97 = .ok (.aload_n 0, 1) := by decide +kernel
theorem dX6_endDay_98 : decode cX6_endDay 98 = .ok (.invokevirtual 136, 3) := by decide +kernel
theorem dX6_endDay_101 : decode cX6_endDay 101 = .ok (.iload_n 1, 1) := by decide +kernel
theorem dX6_endDay_102 : decode cX6_endDay 102 = .ok (.ireturn, 1) := by decide +kernel
theorem dX6_stateOf_0 : decode cX6_stateOf 0 = .ok (.aload_n 0, 1) := by decide +kernel
theorem dX6_stateOf_1 : decode cX6_stateOf 1 = .ok (.iload_n 1, 1) := by decide +kernel
theorem dX6_stateOf_2 : decode cX6_stateOf 2 = .ok (.invokevirtual 133, 3) := by decide +kernel
theorem dX6_stateOf_5 : decode cX6_stateOf 5 = .ok (.ifCond .eq 12, 3) := by decide +kernel
theorem dX6_stateOf_8 : decode cX6_stateOf 8 = .ok (.aload_n 0, 1) := by decide +kernel
theorem dX6_stateOf_9 : decode cX6_stateOf 9 = .ok (.getfield 23, 3) := by decide +kernel
theorem dX6_stateOf_12 : decode cX6_stateOf 12 = .ok (.iload_n 1, 1) := by decide +kernel
theorem dX6_stateOf_13 : decode cX6_stateOf 13 = .ok (.iaload, 1) := by decide +kernel
theorem dX6_stateOf_14 : decode cX6_stateOf 14 = .ok (.goto 4, 3) := by decide +kernel
theorem dX6_stateOf_17 : decode cX6_stateOf 17 = .ok (.iconst 0, 1) := by decide +kernel
theorem dX6_stateOf_18 : decode cX6_stateOf 18 = .ok (.i2c, 1) := by decide +kernel
theorem dX6_stateOf_19 : decode cX6_stateOf 19 = .ok (.ireturn, 1) := by decide +kernel
theorem dX6_wantedFrom_0 : decode cX6_wantedFrom 0 = .ok (.aload_n 0, 1) := by decide +kernel
theorem dX6_wantedFrom_1 : decode cX6_wantedFrom 1 = .ok (.iload_n 1, 1) := by decide +kernel
theorem dX6_wantedFrom_2 : decode cX6_wantedFrom 2 = .ok (.invokevirtual 133, 3) := by decide +kernel
theorem dX6_wantedFrom_5 : decode cX6_wantedFrom 5 = .ok (.ifCond .ne 5, 3) := by decide +kernel
theorem dX6_wantedFrom_8 : decode cX6_wantedFrom 8 = .ok (.iconst 0, 1) := by decide +kernel
theorem dX6_wantedFrom_9 : decode cX6_wantedFrom 9 = .ok (.ireturn, 1) := by decide +kernel
theorem dX6_wantedFrom_10 : decode cX6_wantedFrom 10 = .ok (.aload_n 0, 1) := by decide +kernel
theorem dX6_wantedFrom_11 : decode cX6_wantedFrom 11 = .ok (.getfield 23, 3) := by decide +kernel
theorem dX6_wantedFrom_14 : decode cX6_wantedFrom 14 = .ok (.iload_n 1, 1) := by decide +kernel
theorem dX6_wantedFrom_15 : decode cX6_wantedFrom 15 = .ok (.iaload, 1) := by decide +kernel
theorem dX6_wantedFrom_16 : decode cX6_wantedFrom 16 = .ok (.bipush 119, 2) := by decide +kernel
theorem dX6_wantedFrom_18 : decode cX6_wantedFrom 18 = .ok (.if_icmp .ne 12, 3) := by decide +kernel
theorem dX6_wantedFrom_21 : decode cX6_wantedFrom 21 = .ok (.aload_n 0, 1) := by decide +kernel
theorem dX6_wantedFrom_22 : decode cX6_wantedFrom 22 = .ok (.getfield 26, 3) := by decide +kernel
theorem dX6_wantedFrom_25 : decode cX6_wantedFrom 25 = .ok (.iload_n 1, 1) := by decide +kernel
theorem dX6_wantedFrom_26 : decode cX6_wantedFrom 26 = .ok (.iaload, 1) := by decide +kernel
theorem dX6_wantedFrom_27 : decode cX6_wantedFrom 27 = .ok (.goto 8, 3) := by decide +kernel
theorem dX6_wantedFrom_30 : decode cX6_wantedFrom 30 = .ok (.aload_n 0, 1) := by decide +kernel
theorem dX6_wantedFrom_31 : decode cX6_wantedFrom 31 = .ok (.iconst 2, 1) := by decide +kernel
theorem dX6_wantedFrom_32 : decode cX6_wantedFrom 32 = .ok (.invokevirtual 104, 3) := by decide +kernel
theorem dX6_wantedFrom_35 : decode cX6_wantedFrom 35 = .ok (.ireturn, 1) := by decide +kernel
theorem dX6_codeOf_0 : decode cX6_codeOf 0 = .ok (.aload_n 0, 1) := by decide +kernel
theorem dX6_codeOf_1 : decode cX6_codeOf 1 = .ok (.iload_n 1, 1) := by decide +kernel
theorem dX6_codeOf_2 : decode cX6_codeOf 2 = .ok (.invokevirtual 133, 3) := by decide +kernel
theorem dX6_codeOf_5 : decode cX6_codeOf 5 = .ok (.ifCond .ne 5, 3) := by decide +kernel
theorem dX6_codeOf_8 : decode cX6_codeOf 8 = .ok (.iconst 0, 1) := by decide +kernel
theorem dX6_codeOf_9 : decode cX6_codeOf 9 = .ok (.ireturn, 1) := by decide +kernel
theorem dX6_codeOf_10 : decode cX6_codeOf 10 = .ok (.aload_n 0, 1) := by decide +kernel
theorem dX6_codeOf_11 : decode cX6_codeOf 11 = .ok (.getfield 23, 3) := by decide +kernel
theorem dX6_codeOf_14 : decode cX6_codeOf 14 = .ok (.iload_n 1, 1) := by decide +kernel
theorem dX6_codeOf_15 : decode cX6_codeOf 15 = .ok (.iaload, 1) := by decide +kernel
theorem dX6_codeOf_16 : decode cX6_codeOf 16 = .ok (.lookupswitch 91 #[(97, 65), (103, 87), (114, 83), (117, 52), (119, 54)], 52) := by decide +kernel
theorem dX6_codeOf_68 : decode cX6_codeOf 68 = .ok (.iconst 0, 1) := by decide +kernel
theorem dX6_codeOf_69 : decode cX6_codeOf 69 = .ok (.ireturn, 1) := by decide +kernel
theorem dX6_codeOf_70 : decode cX6_codeOf 70 = .ok (.sipush 300, 3) := by decide +kernel
theorem dX6_codeOf_73 : decode cX6_codeOf 73 = .ok (.aload_n 0, 1) := by decide +kernel
theorem dX6_codeOf_74 : decode cX6_codeOf 74 = .ok (.getfield 29, 3) := by decide +kernel
theorem dX6_codeOf_77 : decode cX6_codeOf 77 = .ok (.iload_n 1, 1) := by decide +kernel
theorem dX6_codeOf_78 : decode cX6_codeOf 78 = .ok (.iaload, 1) := by decide +kernel
theorem dX6_codeOf_79 : decode cX6_codeOf 79 = .ok (.iadd, 1) := by decide +kernel
theorem dX6_codeOf_80 : decode cX6_codeOf 80 = .ok (.ireturn, 1) := by decide +kernel
theorem dX6_codeOf_81 : decode cX6_codeOf 81 = .ok (.aload_n 0, 1) := by decide +kernel
theorem dX6_codeOf_82 : decode cX6_codeOf 82 = .ok (.getfield 47, 3) := by decide +kernel
theorem dX6_codeOf_85 : decode cX6_codeOf 85 = .ok (.iload_n 1, 1) := by decide +kernel
theorem dX6_codeOf_86 : decode cX6_codeOf 86 = .ok (.iaload, 1) := by decide +kernel
theorem dX6_codeOf_87 : decode cX6_codeOf 87 = .ok (.iconst 1, 1) := by decide +kernel
theorem dX6_codeOf_88 : decode cX6_codeOf 88 = .ok (.if_icmp .ne 8, 3) := by decide +kernel
theorem dX6_codeOf_91 : decode cX6_codeOf 91 = .ok (.bipush 110, 2) := by decide +kernel
theorem dX6_codeOf_93 : decode cX6_codeOf 93 = .ok (.goto 5, 3) := by decide +kernel
theorem dX6_codeOf_96 : decode cX6_codeOf 96 = .ok (.bipush 120, 2) := by decide +kernel
theorem dX6_codeOf_98 : decode cX6_codeOf 98 = .ok (.ireturn, 1) := by decide +kernel
theorem dX6_codeOf_99 : decode cX6_codeOf 99 = .ok (.sipush 210, 3) := by decide +kernel
theorem dX6_codeOf_102 : decode cX6_codeOf 102 = .ok (.ireturn, 1) := by decide +kernel
theorem dX6_codeOf_103 : decode cX6_codeOf 103 = .ok (.sipush 220, 3) := by decide +kernel
theorem dX6_codeOf_106 : decode cX6_codeOf 106 = .ok (.ireturn, 1) := by decide +kernel
theorem dX6_codeOf_107 : decode cX6_codeOf 107 = .ok (.sipush 400, 3) := by decide +kernel
theorem dX6_codeOf_110 : decode cX6_codeOf 110 = .ok (.ireturn, 1) := by decide +kernel
theorem dX6_answerOf_0 : decode cX6_answerOf 0 = .ok (.aload_n 0, 1) := by decide +kernel
theorem dX6_answerOf_1 : decode cX6_answerOf 1 = .ok (.iload_n 1, 1) := by decide +kernel
theorem dX6_answerOf_2 : decode cX6_answerOf 2 = .ok (.invokevirtual 133, 3) := by decide +kernel
theorem dX6_answerOf_5 : decode cX6_answerOf 5 = .ok (.ifCond .ne 5, 3) := by decide +kernel
theorem dX6_answerOf_8 : decode cX6_answerOf 8 = .ok (.iconst 0, 1) := by decide +kernel
theorem dX6_answerOf_9 : decode cX6_answerOf 9 = .ok (.ireturn, 1) := by decide +kernel
theorem dX6_answerOf_10 : decode cX6_answerOf 10 = .ok (.aload_n 0, 1) := by decide +kernel
theorem dX6_answerOf_11 : decode cX6_answerOf 11 = .ok (.getfield 23, 3) := by decide +kernel
theorem dX6_answerOf_14 : decode cX6_answerOf 14 = .ok (.iload_n 1, 1) := by decide +kernel
theorem dX6_answerOf_15 : decode cX6_answerOf 15 = .ok (.iaload, 1) := by decide +kernel
theorem dX6_answerOf_16 : decode cX6_answerOf 16 = .ok (.bipush 97, 2) := by decide +kernel
theorem dX6_answerOf_18 : decode cX6_answerOf 18 = .ok (.if_icmp .ne 12, 3) := by decide +kernel
theorem dX6_answerOf_21 : decode cX6_answerOf 21 = .ok (.aload_n 0, 1) := by decide +kernel
theorem dX6_answerOf_22 : decode cX6_answerOf 22 = .ok (.getfield 41, 3) := by decide +kernel
theorem dX6_answerOf_25 : decode cX6_answerOf 25 = .ok (.iload_n 1, 1) := by decide +kernel
theorem dX6_answerOf_26 : decode cX6_answerOf 26 = .ok (.iaload, 1) := by decide +kernel
theorem dX6_answerOf_27 : decode cX6_answerOf 27 = .ok (.goto 8, 3) := by decide +kernel
theorem dX6_answerOf_30 : decode cX6_answerOf 30 = .ok (.aload_n 0, 1) := by decide +kernel
theorem dX6_answerOf_31 : decode cX6_answerOf 31 = .ok (.iconst 2, 1) := by decide +kernel
theorem dX6_answerOf_32 : decode cX6_answerOf 32 = .ok (.invokevirtual 104, 3) := by decide +kernel
theorem dX6_answerOf_35 : decode cX6_answerOf 35 = .ok (.ireturn, 1) := by decide +kernel
theorem dX6_faults_0 : decode cX6_faults 0 = .ok (.aload_n 0, 1) := by decide +kernel
theorem dX6_faults_1 : decode cX6_faults 1 = .ok (.iload_n 1, 1) := by decide +kernel
theorem dX6_faults_2 : decode cX6_faults 2 = .ok (.invokevirtual 129, 3) := by decide +kernel
theorem dX6_faults_5 : decode cX6_faults 5 = .ok (.ifCond .eq 12, 3) := by decide +kernel
theorem dX6_faults_8 : decode cX6_faults 8 = .ok (.aload_n 0, 1) := by decide +kernel
theorem dX6_faults_9 : decode cX6_faults 9 = .ok (.getfield 87, 3) := by decide +kernel
theorem dX6_faults_12 : decode cX6_faults 12 = .ok (.iload_n 1, 1) := by decide +kernel
theorem dX6_faults_13 : decode cX6_faults 13 = .ok (.iaload, 1) := by decide +kernel
theorem dX6_faults_14 : decode cX6_faults 14 = .ok (.goto 4, 3) := by decide +kernel
theorem dX6_faults_17 : decode cX6_faults 17 = .ok (.iconst 0, 1) := by decide +kernel
theorem dX6_faults_18 : decode cX6_faults 18 = .ok (.ireturn, 1) := by decide +kernel
theorem dX6_answersTo_0 : decode cX6_answersTo 0 = .ok (.aload_n 0, 1) := by decide +kernel
theorem dX6_answersTo_1 : decode cX6_answersTo 1 = .ok (.iload_n 1, 1) := by decide +kernel
theorem dX6_answersTo_2 : decode cX6_answersTo 2 = .ok (.invokevirtual 129, 3) := by decide +kernel
theorem dX6_answersTo_5 : decode cX6_answersTo 5 = .ok (.ifCond .ne 5, 3) := by decide +kernel
theorem dX6_answersTo_8 : decode cX6_answersTo 8 = .ok (.iconst 0, 1) := by decide +kernel
theorem dX6_answersTo_9 : decode cX6_answersTo 9 = .ok (.ireturn, 1) := by decide +kernel
theorem dX6_answersTo_10 : decode cX6_answersTo 10 = .ok (.iconst 0, 1) := by decide +kernel
theorem dX6_answersTo_11 : decode cX6_answersTo 11 = .ok (.istore_n 2, 1) := by decide +kernel
theorem dX6_answersTo_12 : decode cX6_answersTo 12 = .ok (.iconst 0, 1) := by decide +kernel
theorem dX6_answersTo_13 : decode cX6_answersTo 13 = .ok (.istore_n 3, 1) := by decide +kernel
theorem dX6_answersTo_14 : decode cX6_answersTo 14 = .ok (.iload_n 3, 1) := by decide +kernel
theorem dX6_answersTo_15 : decode cX6_answersTo 15 = .ok (.aload_n 0, 1) := by decide +kernel
theorem dX6_answersTo_16 : decode cX6_answersTo 16 = .ok (.getfield 93, 3) := by decide +kernel
theorem dX6_answersTo_19 : decode cX6_answersTo 19 = .ok (.if_icmp .ge 38, 3) := by decide +kernel
theorem dX6_answersTo_22 : decode cX6_answersTo 22 = .ok (.iload_n 2, 1) := by decide +kernel
theorem dX6_answersTo_23 : decode cX6_answersTo 23 = .ok (.aload_n 0, 1) := by decide +kernel
theorem dX6_answersTo_24 : decode cX6_answersTo 24 = .ok (.getfield 23, 3) := by decide +kernel
theorem dX6_answersTo_27 : decode cX6_answersTo 27 = .ok (.iload_n 3, 1) := by decide +kernel
theorem dX6_answersTo_28 : decode cX6_answersTo 28 = .ok (.iaload, 1) := by decide +kernel
theorem dX6_answersTo_29 : decode cX6_answersTo 29 = .ok (.bipush 97, 2) := by decide +kernel
theorem dX6_answersTo_31 : decode cX6_answersTo 31 = .ok (.if_icmp .ne 17, 3) := by decide +kernel
theorem dX6_answersTo_34 : decode cX6_answersTo 34 = .ok (.aload_n 0, 1) := by decide +kernel
theorem dX6_answersTo_35 : decode cX6_answersTo 35 = .ok (.getfield 44, 3) := by decide +kernel
theorem dX6_answersTo_38 : decode cX6_answersTo 38 = .ok (.iload_n 3, 1) := by decide +kernel
theorem dX6_answersTo_39 : decode cX6_answersTo 39 = .ok (.iaload, 1) := by decide +kernel
theorem dX6_answersTo_40 : decode cX6_answersTo 40 = .ok (.iload_n 1, 1) := by decide +kernel
theorem dX6_answersTo_41 : decode cX6_answersTo 41 = .ok (.if_icmp .ne 7, 3) := by decide +kernel
theorem dX6_answersTo_44 : decode cX6_answersTo 44 = .ok (.iconst 1, 1) := by decide +kernel
theorem dX6_answersTo_45 : decode cX6_answersTo 45 = .ok (.goto 4, 3) := by decide +kernel
theorem dX6_answersTo_48 : decode cX6_answersTo 48 = .ok (.iconst 0, 1) := by decide +kernel
theorem dX6_answersTo_49 : decode cX6_answersTo 49 = .ok (.iadd, 1) := by decide +kernel
theorem dX6_answersTo_50 : decode cX6_answersTo 50 = .ok (.istore_n 2, 1) := by decide +kernel
theorem dX6_answersTo_51 : decode cX6_answersTo 51 = .ok (.iinc 3 1, 3) := by decide +kernel
theorem dX6_answersTo_54 : decode cX6_answersTo 54 = .ok (.goto (-40), 3) := by decide +kernel
theorem dX6_answersTo_57 : decode cX6_answersTo 57 = .ok (.iload_n 2, 1) := by decide +kernel
theorem dX6_answersTo_58 : decode cX6_answersTo 58 = .ok (.ireturn, 1) := by decide +kernel
theorem dX6_isOf_0 : decode cX6_isOf 0 = .ok (.iload_n 3, 1) := by decide +kernel
theorem dX6_isOf_1 : decode cX6_isOf 1 = .ok (.ifCond .eq 12, 3) := by decide +kernel
theorem dX6_isOf_4 : decode cX6_isOf 4 = .ok (.aload_n 0, 1) := by decide +kernel
theorem dX6_isOf_5 : decode cX6_isOf 5 = .ok (.getfield 13, 3) := by decide +kernel
theorem dX6_isOf_8 : decode cX6_isOf 8 = .ok (.iload_n 1, 1) := by decide +kernel
theorem dX6_isOf_9 : decode cX6_isOf 9 = .ok (.iaload, 1) := by decide +kernel
theorem dX6_isOf_10 : decode cX6_isOf 10 = .ok (.goto 9, 3) := by decide +kernel
theorem dX6_isOf_13 : decode cX6_isOf 13 = .ok (.aload_n 0, 1) := by decide +kernel
theorem dX6_isOf_14 : decode cX6_isOf 14 = .ok (.getfield 20, 3) := by decide +kernel
theorem dX6_isOf_17 : decode cX6_isOf 17 = .ok (.iload_n 1, 1) := by decide +kernel
theorem dX6_isOf_18 : decode cX6_isOf 18 = .ok (.iaload, 1) := by decide +kernel
theorem dX6_isOf_19 : decode cX6_isOf 19 = .ok (.iload_n 2, 1) := by decide +kernel
theorem dX6_isOf_20 : decode cX6_isOf 20 = .ok (.if_icmp .ne 7, 3) := by decide +kernel
theorem dX6_isOf_23 : decode cX6_isOf 23 = .ok (.iconst 1, 1) := by decide +kernel
theorem dX6_isOf_24 : decode cX6_isOf 24 = .ok (.goto 4, 3) := by decide +kernel
theorem dX6_isOf_27 : decode cX6_isOf 27 = .ok (.iconst 0, 1) := by decide +kernel
theorem dX6_isOf_28 : decode cX6_isOf 28 = .ok (.ireturn, 1) := by decide +kernel
theorem dX6_goal_0 : decode cX6_goal 0 = .ok (.iconst 0, 1) := by decide +kernel
theorem dX6_goal_1 : decode cX6_goal 1 = .ok (.istore_n 3, 1) := by decide +kernel
theorem dX6_goal_2 : decode cX6_goal 2 = .ok (.iconst 0, 1) := by decide +kernel
theorem dX6_goal_3 : decode cX6_goal 3 = .ok (.istore 4, 2) := by decide +kernel
theorem dX6_goal_5 : decode cX6_goal 5 = .ok (.iload 4, 2) := by decide +kernel
theorem dX6_goal_7 : decode cX6_goal 7 = .ok (.aload_n 0, 1) := by decide +kernel
theorem dX6_goal_8 : decode cX6_goal 8 = .ok (.getfield 93, 3) := by decide +kernel
theorem dX6_goal_11 : decode cX6_goal 11 = .ok (.if_icmp .ge 52, 3) := by decide +kernel
theorem dX6_goal_14 : decode cX6_goal 14 = .ok (.iload_n 3, 1) := by decide +kernel
theorem dX6_goal_15 : decode cX6_goal 15 = .ok (.aload_n 0, 1) := by decide +kernel
theorem dX6_goal_16 : decode cX6_goal 16 = .ok (.iload 4, 2) := by decide +kernel
theorem dX6_goal_18 : decode cX6_goal 18 = .ok (.iload_n 1, 1) := by decide +kernel
theorem dX6_goal_19 : decode cX6_goal 19 = .ok (.iload_n 2, 1) := by decide +kernel
theorem dX6_goal_20 : decode cX6_goal 20 = .ok (.invokevirtual 139, 3) := by decide +kernel
theorem dX6_goal_23 : decode cX6_goal 23 = .ok (.ifCond .eq 31, 3) := by decide +kernel
theorem dX6_goal_26 : decode cX6_goal 26 = .ok (.aload_n 0, 1) := by decide +kernel
theorem dX6_goal_27 : decode cX6_goal 27 = .ok (.getfield 23, 3) := by decide +kernel
theorem dX6_goal_30 : decode cX6_goal 30 = .ok (.iload 4, 2) := by decide +kernel
theorem dX6_goal_32 : decode cX6_goal 32 = .ok (.iaload, 1) := by decide +kernel
theorem dX6_goal_33 : decode cX6_goal 33 = .ok (.bipush 117, 2) := by decide +kernel
theorem dX6_goal_35 : decode cX6_goal 35 = .ok (.if_icmp .eq 19, 3) := by decide +kernel
theorem dX6_goal_38 : decode cX6_goal 38 = .ok (.aload_n 0, 1) := by decide +kernel
theorem dX6_goal_39 : decode cX6_goal 39 = .ok (.getfield 53, 3) := by decide +kernel
theorem dX6_goal_42 : decode cX6_goal 42 = .ok (.iload 4, 2) := by decide +kernel
theorem dX6_goal_44 : decode cX6_goal 44 = .ok (.baload, 1) := by decide +kernel
theorem dX6_goal_45 : decode cX6_goal 45 = .ok (.ifCond .ne 9, 3) := by decide +kernel
theorem dX6_goal_48 : decode cX6_goal 48 = .ok (.sipush 1000, 3) := by decide +kernel
theorem dX6_goal_51 : decode cX6_goal 51 = .ok (.goto 4, 3) := by decide +kernel
theorem dX6_goal_54 : decode cX6_goal 54 = .ok (.iconst 0, 1) := by decide +kernel
theorem dX6_goal_55 : decode cX6_goal 55 = .ok (.iadd, 1) := by decide +kernel
theorem dX6_goal_56 : decode cX6_goal 56 = .ok (.istore_n 3, 1) := by decide +kernel
theorem dX6_goal_57 : decode cX6_goal 57 = .ok (.iinc 4 1, 3) := by decide +kernel
theorem dX6_goal_60 : decode cX6_goal 60 = .ok (.goto (-55), 3) := by decide +kernel
theorem dX6_goal_63 : decode cX6_goal 63 = .ok (.iload_n 3, 1) := by decide +kernel
theorem dX6_goal_64 : decode cX6_goal 64 = .ok (.ireturn, 1) := by decide +kernel
theorem dX6_fits_0 : decode cX6_fits 0 = .ok (.iconst 0, 1) := by decide +kernel
theorem dX6_fits_1 : decode cX6_fits 1 = .ok (.istore_n 3, 1) := by decide +kernel
theorem dX6_fits_2 : decode cX6_fits 2 = .ok (.iconst 0, 1) := by decide +kernel
theorem dX6_fits_3 : decode cX6_fits 3 = .ok (.istore 4, 2) := by decide +kernel
theorem dX6_fits_5 : decode cX6_fits 5 = .ok (.iconst 0, 1) := by decide +kernel
theorem dX6_fits_6 : decode cX6_fits 6 = .ok (.istore 5, 2) := by decide +kernel
theorem dX6_fits_8 : decode cX6_fits 8 = .ok (.iload 5, 2) := by decide +kernel
theorem dX6_fits_10 : decode cX6_fits 10 = .ok (.aload_n 0, 1) := by decide +kernel
theorem dX6_fits_11 : decode cX6_fits 11 = .ok (.getfield 93, 3) := by decide +kernel
theorem dX6_fits_14 : decode cX6_fits 14 = .ok (.if_icmp .ge 48, 3) := by decide +kernel
theorem dX6_fits_17 : decode cX6_fits 17 = .ok (.aload_n 0, 1) := by decide +kernel
theorem dX6_fits_18 : decode cX6_fits 18 = .ok (.getfield 23, 3) := by decide +kernel
theorem dX6_fits_21 : decode cX6_fits 21 = .ok (.iload 5, 2) := by decide +kernel
theorem dX6_fits_23 : decode cX6_fits 23 = .ok (.iaload, 1) := by decide +kernel
theorem dX6_fits_24 : decode cX6_fits 24 = .ok (.bipush 97, 2) := by decide +kernel
theorem dX6_fits_26 : decode cX6_fits 26 = .ok (.if_icmp .ne 30, 3) := by decide +kernel
theorem dX6_fits_29 : decode cX6_fits 29 = .ok (.aload_n 0, 1) := by decide +kernel
theorem dX6_fits_30 : decode cX6_fits 30 = .ok (.iload 5, 2) := by decide +kernel
theorem dX6_fits_32 : decode cX6_fits 32 = .ok (.iload_n 1, 1) := by decide +kernel
theorem dX6_fits_33 : decode cX6_fits 33 = .ok (.iload_n 2, 1) := by decide +kernel
theorem dX6_fits_34 : decode cX6_fits 34 = .ok (.invokevirtual 139, 3) := by decide +kernel
theorem dX6_fits_37 : decode cX6_fits 37 = .ok (.ifCond .ne 6, 3) := by decide +kernel
theorem dX6_fits_40 : decode cX6_fits 40 = .ok (.goto 16, 3) := by decide +kernel
theorem dX6_fits_43 : decode cX6_fits 43 = .ok (.iload_n 3, 1) := by decide +kernel
theorem dX6_fits_44 : decode cX6_fits 44 = .ok (.aload_n 0, 1) := by decide +kernel
theorem dX6_fits_45 : decode cX6_fits 45 = .ok (.getfield 50, 3) := by decide +kernel
theorem dX6_fits_48 : decode cX6_fits 48 = .ok (.iload 5, 2) := by decide +kernel
theorem dX6_fits_50 : decode cX6_fits 50 = .ok (.iaload, 1) := by decide +kernel
theorem dX6_fits_51 : decode cX6_fits 51 = .ok (.iadd, 1) := by decide +kernel
theorem dX6_fits_52 : decode cX6_fits 52 = .ok (.istore_n 3, 1) := by decide +kernel
theorem dX6_fits_53 : decode cX6_fits 53 = .ok (.iinc 4 1, 3) := by decide +kernel
theorem dX6_fits_56 : decode cX6_fits 56 = .ok (.iinc 5 1, 3) := by decide +kernel
theorem dX6_fits_59 : decode cX6_fits 59 = .ok (.goto (-51), 3) := by decide +kernel
theorem dX6_fits_62 : decode cX6_fits 62 = .ok (.iload 4, 2) := by decide +kernel
theorem dX6_fits_64 : decode cX6_fits 64 = .ok (.ifCond .ne 4, 3) := by decide +kernel
theorem dX6_fits_67 : decode cX6_fits 67 = .ok (.return_, 1) := by decide +kernel
theorem dX6_fits_68 : decode cX6_fits 68 = .ok (.aload_n 0, 1) := by decide +kernel
theorem dX6_fits_69 : decode cX6_fits 69 = .ok (.iload_n 1, 1) := by decide +kernel
theorem dX6_fits_70 : decode cX6_fits 70 = .ok (.iload_n 2, 1) := by decide +kernel
theorem dX6_fits_71 : decode cX6_fits 71 = .ok (.invokevirtual 143, 3) := by decide +kernel
theorem dX6_fits_74 : decode cX6_fits 74 = .ok (.istore 5, 2) := by decide +kernel
theorem dX6_fits_76 : decode cX6_fits 76 = .ok (.iload 5, 2) := by decide +kernel
theorem dX6_fits_78 : decode cX6_fits 78 = .ok (.istore 6, 2) := by decide +kernel
theorem dX6_fits_80 : decode cX6_fits 80 = .ok (.iconst 0, 1) := by decide +kernel
theorem dX6_fits_81 : decode cX6_fits 81 = .ok (.istore 7, 2) := by decide +kernel
theorem dX6_fits_83 : decode cX6_fits 83 = .ok (.iload 7, 2) := by decide +kernel
theorem dX6_fits_85 : decode cX6_fits 85 = .ok (.aload_n 0, 1) := by decide +kernel
theorem dX6_fits_86 : decode cX6_fits 86 = .ok (.getfield 93, 3) := by decide +kernel
theorem dX6_fits_89 : decode cX6_fits 89 = .ok (.if_icmp .ge 78, 3) := by decide +kernel
theorem dX6_fits_92 : decode cX6_fits 92 = .ok (.aload_n 0, 1) := by decide +kernel
theorem dX6_fits_93 : decode cX6_fits 93 = .ok (.getfield 23, 3) := by decide +kernel
theorem dX6_fits_96 : decode cX6_fits 96 = .ok (.iload 7, 2) := by decide +kernel
theorem dX6_fits_98 : decode cX6_fits 98 = .ok (.iaload, 1) := by decide +kernel
theorem dX6_fits_99 : decode cX6_fits 99 = .ok (.bipush 97, 2) := by decide +kernel
theorem dX6_fits_101 : decode cX6_fits 101 = .ok (.if_icmp .ne 60, 3) := by decide +kernel
theorem dX6_fits_104 : decode cX6_fits 104 = .ok (.aload_n 0, 1) := by decide +kernel
theorem dX6_fits_105 : decode cX6_fits 105 = .ok (.iload 7, 2) := by decide +kernel
theorem dX6_fits_107 : decode cX6_fits 107 = .ok (.iload_n 1, 1) := by decide +kernel
theorem dX6_fits_108 : decode cX6_fits 108 = .ok (.iload_n 2, 1) := by decide +kernel
theorem dX6_fits_109 : decode cX6_fits 109 = .ok (.invokevirtual 139, 3) := by decide +kernel
theorem dX6_fits_112 : decode cX6_fits 112 = .ok (.ifCond .ne 6, 3) := by decide +kernel
theorem dX6_fits_115 : decode cX6_fits 115 = .ok (.goto 46, 3) := by decide +kernel
theorem dX6_fits_118 : decode cX6_fits 118 = .ok (.aload_n 0, 1) := by decide +kernel
theorem dX6_fits_119 : decode cX6_fits 119 = .ok (.getfield 50, 3) := by decide +kernel
theorem dX6_fits_122 : decode cX6_fits 122 = .ok (.iload 7, 2) := by decide +kernel
theorem dX6_fits_124 : decode cX6_fits 124 = .ok (.iload_n 3, 1) := by decide +kernel
theorem dX6_fits_125 : decode cX6_fits 125 = .ok (.ifCond .ne 11, 3) := by decide +kernel
theorem dX6_fits_128 : decode cX6_fits 128 = .ok (.iload 5, 2) := by decide +kernel
theorem dX6_fits_130 : decode cX6_fits 130 = .ok (.iload 4, 2) := by decide +kernel
theorem dX6_fits_132 : decode cX6_fits 132 = .ok (.idiv, 1) := by decide +kernel
theorem dX6_fits_133 : decode cX6_fits 133 = .ok (.goto 15, 3) := by decide +kernel
theorem dX6_fits_136 : decode cX6_fits 136 = .ok (.aload_n 0, 1) := by decide +kernel
theorem dX6_fits_137 : decode cX6_fits 137 = .ok (.getfield 50, 3) := by decide +kernel
theorem dX6_fits_140 : decode cX6_fits 140 = .ok (.iload 7, 2) := by decide +kernel
theorem dX6_fits_142 : decode cX6_fits 142 = .ok (.iaload, 1) := by decide +kernel
theorem dX6_fits_143 : decode cX6_fits 143 = .ok (.iload 5, 2) := by decide +kernel
theorem dX6_fits_145 : decode cX6_fits 145 = .ok (.imul, 1) := by decide +kernel
theorem dX6_fits_146 : decode cX6_fits 146 = .ok (.iload_n 3, 1) := by decide +kernel
theorem dX6_fits_147 : decode cX6_fits 147 = .ok (.idiv, 1) := by decide +kernel
theorem dX6_fits_148 : decode cX6_fits 148 = .ok (.iastore, 1) := by decide +kernel
theorem dX6_fits_149 : decode cX6_fits 149 = .ok (.iload 6, 2) := by decide +kernel
theorem dX6_fits_151 : decode cX6_fits 151 = .ok (.aload_n 0, 1) := by decide +kernel
theorem dX6_fits_152 : decode cX6_fits 152 = .ok (.getfield 50, 3) := by decide +kernel
theorem dX6_fits_155 : decode cX6_fits 155 = .ok (.iload 7, 2) := by decide +kernel
theorem dX6_fits_157 : decode cX6_fits 157 = .ok (.iaload, 1) := by decide +kernel
theorem dX6_fits_158 : decode cX6_fits 158 = .ok (.isub, 1) := by decide +kernel
theorem dX6_fits_159 : decode cX6_fits 159 = .ok (.istore 6, 2) := by decide +kernel
theorem dX6_fits_161 : decode cX6_fits 161 = .ok (.iinc 7 1, 3) := by decide +kernel
theorem dX6_fits_164 : decode cX6_fits 164 = .ok (.goto (-81), 3) := by decide +kernel
theorem dX6_fits_167 : decode cX6_fits 167 = .ok (.iconst 0, 1) := by decide +kernel
theorem dX6_fits_168 : decode cX6_fits 168 = .ok (.istore 7, 2) := by decide +kernel
theorem dX6_fits_170 : decode cX6_fits 170 = .ok (.iload 7, 2) := by decide +kernel
theorem dX6_fits_172 : decode cX6_fits 172 = .ok (.aload_n 0, 1) := by decide +kernel
theorem dX6_fits_173 : decode cX6_fits 173 = .ok (.getfield 93, 3) := by decide +kernel
theorem dX6_fits_176 : decode cX6_fits 176 = .ok (.if_icmp .ge 54, 3) := by decide +kernel
theorem dX6_fits_179 : decode cX6_fits 179 = .ok (.iload 6, 2) := by decide +kernel
theorem dX6_fits_181 : decode cX6_fits 181 = .ok (.ifCond .le 49, 3) := by decide +kernel
theorem dX6_fits_184 : decode cX6_fits 184 = .ok (.aload_n 0, 1) := by decide +kernel
theorem dX6_fits_185 : decode cX6_fits 185 = .ok (.getfield 23, 3) := by decide +kernel
theorem dX6_fits_188 : decode cX6_fits 188 = .ok (.iload 7, 2) := by decide +kernel
theorem dX6_fits_190 : decode cX6_fits 190 = .ok (.iaload, 1) := by decide +kernel
theorem dX6_fits_191 : decode cX6_fits 191 = .ok (.bipush 97, 2) := by decide +kernel
theorem dX6_fits_193 : decode cX6_fits 193 = .ok (.if_icmp .ne 31, 3) := by decide +kernel
theorem dX6_fits_196 : decode cX6_fits 196 = .ok (.aload_n 0, 1) := by decide +kernel
theorem dX6_fits_197 : decode cX6_fits 197 = .ok (.iload 7, 2) := by decide +kernel
theorem dX6_fits_199 : decode cX6_fits 199 = .ok (.iload_n 1, 1) := by decide +kernel
theorem dX6_fits_200 : decode cX6_fits 200 = .ok (.iload_n 2, 1) := by decide +kernel
theorem dX6_fits_201 : decode cX6_fits 201 = .ok (.invokevirtual 139, 3) := by decide +kernel
theorem dX6_fits_204 : decode cX6_fits 204 = .ok (.ifCond .ne 6, 3) := by decide +kernel
theorem dX6_fits_207 : decode cX6_fits 207 = .ok (.goto 17, 3) := by decide +kernel
theorem dX6_fits_210 : decode cX6_fits 210 = .ok (.aload_n 0, 1) := by decide +kernel
theorem dX6_fits_211 : decode cX6_fits 211 = .ok (.getfield 50, 3) := by decide +kernel
theorem dX6_fits_214 : decode cX6_fits 214 = .ok (.iload 7, 2) := by decide +kernel
theorem dX6_fits_216 : decode cX6_fits 216 = .ok (.dup2, 1) := by decide +kernel
theorem dX6_fits_217 : decode cX6_fits 217 = .ok (.iaload, 1) := by decide +kernel
theorem dX6_fits_218 : decode cX6_fits 218 = .ok (.iconst 1, 1) := by decide +kernel
theorem dX6_fits_219 : decode cX6_fits 219 = .ok (.iadd, 1) := by decide +kernel
theorem dX6_fits_220 : decode cX6_fits 220 = .ok (.iastore, 1) := by decide +kernel
theorem dX6_fits_221 : decode cX6_fits 221 = .ok (.iinc 6 (-1), 3) := by decide +kernel
theorem dX6_fits_224 : decode cX6_fits 224 = .ok (.iinc 7 1, 3) := by decide +kernel
theorem dX6_fits_227 : decode cX6_fits 227 = .ok (.goto (-57), 3) := by decide +kernel
theorem dX6_fits_230 : decode cX6_fits 230 = .ok (.return_, 1) := by decide +kernel
theorem dX6_weighs_0 : decode cX6_weighs 0 = .ok (.iconst 0, 1) := by decide +kernel
theorem dX6_weighs_1 : decode cX6_weighs 1 = .ok (.istore_n 1, 1) := by decide +kernel
theorem dX6_weighs_2 : decode cX6_weighs 2 = .ok (.iload_n 1, 1) := by decide +kernel
theorem dX6_weighs_3 : decode cX6_weighs 3 = .ok (.aload_n 0, 1) := by decide +kernel
theorem dX6_weighs_4 : decode cX6_weighs 4 = .ok (.getfield 93, 3) := by decide +kernel
theorem dX6_weighs_7 : decode cX6_weighs 7 = .ok (.if_icmp .ge 18, 3) := by decide +kernel
theorem dX6_weighs_10 : decode cX6_weighs 10 = .ok (.aload_n 0, 1) := by decide +kernel
theorem dX6_weighs_11 : decode cX6_weighs 11 = .ok (.getfield 50, 3) := by decide +kernel
theorem dX6_weighs_14 : decode cX6_weighs 14 = .ok (.iload_n 1, 1) := by decide +kernel
theorem dX6_weighs_15 : decode cX6_weighs 15 = .ok (.sipush 1000, 3) := by decide +kernel
theorem dX6_weighs_18 : decode cX6_weighs 18 = .ok (.iastore, 1) := by decide +kernel
theorem dX6_weighs_19 : decode cX6_weighs 19 = .ok (.iinc 1 1, 3) := by decide +kernel
theorem dX6_weighs_22 : decode cX6_weighs 22 = .ok (.goto (-20), 3) := by decide +kernel
theorem dX6_weighs_25 : decode cX6_weighs 25 = .ok (.iconst 0, 1) := by decide +kernel
theorem dX6_weighs_26 : decode cX6_weighs 26 = .ok (.istore_n 1, 1) := by decide +kernel
theorem dX6_weighs_27 : decode cX6_weighs 27 = .ok (.iload_n 1, 1) := by decide +kernel
theorem dX6_weighs_28 : decode cX6_weighs 28 = .ok (.bipush 7, 2) := by decide +kernel
theorem dX6_weighs_30 : decode cX6_weighs 30 = .ok (.if_icmp .ge 51, 3) := by decide +kernel
theorem dX6_weighs_33 : decode cX6_weighs 33 = .ok (.iconst 0, 1) := by decide +kernel
theorem dX6_weighs_34 : decode cX6_weighs 34 = .ok (.istore_n 2, 1) := by decide +kernel
theorem dX6_weighs_35 : decode cX6_weighs 35 = .ok (.iload_n 2, 1) := by decide +kernel
theorem dX6_weighs_36 : decode cX6_weighs 36 = .ok (.iload_n 1, 1) := by decide +kernel
theorem dX6_weighs_37 : decode cX6_weighs 37 = .ok (.iconst 2, 1) := by decide +kernel
theorem dX6_weighs_38 : decode cX6_weighs 38 = .ok (.irem, 1) := by decide +kernel
theorem dX6_weighs_39 : decode cX6_weighs 39 = .ok (.ifCond .ne 10, 3) := by decide +kernel
theorem dX6_weighs_42 : decode cX6_weighs 42 = .ok (.aload_n 0, 1) := by decide +kernel
theorem dX6_weighs_43 : decode cX6_weighs 43 = .ok (.getfield 108, 3) := by decide +kernel
theorem dX6_weighs_46 : decode cX6_weighs 46 = .ok (.goto 4, 3) := by decide +kernel
theorem dX6_weighs_49 : decode cX6_weighs 49 = .ok (.iconst 3, 1) := by decide +kernel
theorem dX6_weighs_50 : decode cX6_weighs 50 = .ok (.if_icmp .ge 25, 3) := by decide +kernel
theorem dX6_weighs_53 : decode cX6_weighs 53 = .ok (.aload_n 0, 1) := by decide +kernel
theorem dX6_weighs_54 : decode cX6_weighs 54 = .ok (.iload_n 2, 1) := by decide +kernel
theorem dX6_weighs_55 : decode cX6_weighs 55 = .ok (.iload_n 1, 1) := by decide +kernel
theorem dX6_weighs_56 : decode cX6_weighs 56 = .ok (.iconst 2, 1) := by decide +kernel
theorem dX6_weighs_57 : decode cX6_weighs 57 = .ok (.irem, 1) := by decide +kernel
theorem dX6_weighs_58 : decode cX6_weighs 58 = .ok (.ifCond .ne 7, 3) := by decide +kernel
theorem dX6_weighs_61 : decode cX6_weighs 61 = .ok (.iconst 1, 1) := by decide +kernel
theorem dX6_weighs_62 : decode cX6_weighs 62 = .ok (.goto 4, 3) := by decide +kernel
theorem dX6_weighs_65 : decode cX6_weighs 65 = .ok (.iconst 0, 1) := by decide +kernel
theorem dX6_weighs_66 : decode cX6_weighs 66 = .ok (.invokevirtual 146, 3) := by decide +kernel
theorem dX6_weighs_69 : decode cX6_weighs 69 = .ok (.iinc 2 1, 3) := by decide +kernel
theorem dX6_weighs_72 : decode cX6_weighs 72 = .ok (.goto (-37), 3) := by decide +kernel
theorem dX6_weighs_75 : decode cX6_weighs 75 = .ok (.iinc 1 1, 3) := by decide +kernel
theorem dX6_weighs_78 : decode cX6_weighs 78 = .ok (.goto (-51), 3) := by decide +kernel
theorem dX6_weighs_81 : decode cX6_weighs 81 = .ok (.return_, 1) := by decide +kernel
theorem dX6_target_0 : decode cX6_target 0 = .ok (.iload_n 1, 1) := by decide +kernel
theorem dX6_target_1 : decode cX6_target 1 = .ok (.iconst 0, 1) := by decide +kernel
theorem dX6_target_2 : decode cX6_target 2 = .ok (.aload_n 0, 1) := by decide +kernel
theorem dX6_target_3 : decode cX6_target 3 = .ok (.getfield 108, 3) := by decide +kernel
theorem dX6_target_6 : decode cX6_target 6 = .ok (.iconst 1, 1) := by decide +kernel
theorem dX6_target_7 : decode cX6_target 7 = .ok (.isub, 1) := by decide +kernel
theorem dX6_target_8 : decode cX6_target 8 = .ok (.invokestatic 96, 3) := by decide +kernel
theorem dX6_target_11 : decode cX6_target 11 = .ok (.ifCond .ne 9, 3) := by decide +kernel
theorem dX6_target_14 : decode cX6_target 14 = .ok (.aload_n 0, 1) := by decide +kernel
theorem dX6_target_15 : decode cX6_target 15 = .ok (.iconst 1, 1) := by decide +kernel
theorem dX6_target_16 : decode cX6_target 16 = .ok (.invokevirtual 104, 3) := by decide +kernel
theorem dX6_target_19 : decode cX6_target 19 = .ok (.ireturn, 1) := by decide +kernel
theorem dX6_target_20 : decode cX6_target 20 = .ok (.aload_n 0, 1) := by decide +kernel
theorem dX6_target_21 : decode cX6_target 21 = .ok (.iconst 0, 1) := by decide +kernel
theorem dX6_target_22 : decode cX6_target 22 = .ok (.putfield 90, 3) := by decide +kernel
theorem dX6_target_25 : decode cX6_target 25 = .ok (.aload_n 0, 1) := by decide +kernel
theorem dX6_target_26 : decode cX6_target 26 = .ok (.iload_n 1, 1) := by decide +kernel
theorem dX6_target_27 : decode cX6_target 27 = .ok (.iconst 1, 1) := by decide +kernel
theorem dX6_target_28 : decode cX6_target 28 = .ok (.invokevirtual 143, 3) := by decide +kernel
theorem dX6_target_31 : decode cX6_target 31 = .ok (.ireturn, 1) := by decide +kernel
theorem dX6_weight_0 : decode cX6_weight 0 = .ok (.aload_n 0, 1) := by decide +kernel
theorem dX6_weight_1 : decode cX6_weight 1 = .ok (.iload_n 1, 1) := by decide +kernel
theorem dX6_weight_2 : decode cX6_weight 2 = .ok (.invokevirtual 133, 3) := by decide +kernel
theorem dX6_weight_5 : decode cX6_weight 5 = .ok (.ifCond .ne 5, 3) := by decide +kernel
theorem dX6_weight_8 : decode cX6_weight 8 = .ok (.iconst 0, 1) := by decide +kernel
theorem dX6_weight_9 : decode cX6_weight 9 = .ok (.ireturn, 1) := by decide +kernel
theorem dX6_weight_10 : decode cX6_weight 10 = .ok (.aload_n 0, 1) := by decide +kernel
theorem dX6_weight_11 : decode cX6_weight 11 = .ok (.getfield 23, 3) := by decide +kernel
theorem dX6_weight_14 : decode cX6_weight 14 = .ok (.iload_n 1, 1) := by decide +kernel
theorem dX6_weight_15 : decode cX6_weight 15 = .ok (.iaload, 1) := by decide +kernel
theorem dX6_weight_16 : decode cX6_weight 16 = .ok (.bipush 97, 2) := by decide +kernel
theorem dX6_weight_18 : decode cX6_weight 18 = .ok (.if_icmp .eq 9, 3) := by decide +kernel
theorem dX6_weight_21 : decode cX6_weight 21 = .ok (.aload_n 0, 1) := by decide +kernel
theorem dX6_weight_22 : decode cX6_weight 22 = .ok (.iconst 2, 1) := by decide +kernel
theorem dX6_weight_23 : decode cX6_weight 23 = .ok (.invokevirtual 104, 3) := by decide +kernel
theorem dX6_weight_26 : decode cX6_weight 26 = .ok (.ireturn, 1) := by decide +kernel
theorem dX6_weight_27 : decode cX6_weight 27 = .ok (.aload_n 0, 1) := by decide +kernel
theorem dX6_weight_28 : decode cX6_weight 28 = .ok (.invokevirtual 150, 3) := by decide +kernel
theorem dX6_weight_31 : decode cX6_weight 31 = .ok (.aload_n 0, 1) := by decide +kernel
theorem dX6_weight_32 : decode cX6_weight 32 = .ok (.getfield 50, 3) := by decide +kernel
theorem dX6_weight_35 : decode cX6_weight 35 = .ok (.iload_n 1, 1) := by decide +kernel
theorem dX6_weight_36 : decode cX6_weight 36 = .ok (.iaload, 1) := by decide +kernel
theorem dX6_weight_37 : decode cX6_weight 37 = .ok (.ireturn, 1) := by decide +kernel
theorem dX6_weightAnew_0 : decode cX6_weightAnew 0 = .ok (.aload_n 0, 1) := by decide +kernel
theorem dX6_weightAnew_1 : decode cX6_weightAnew 1 = .ok (.iload_n 1, 1) := by decide +kernel
theorem dX6_weightAnew_2 : decode cX6_weightAnew 2 = .ok (.invokevirtual 153, 3) := by decide +kernel
theorem dX6_weightAnew_5 : decode cX6_weightAnew 5 = .ok (.ireturn, 1) := by decide +kernel
theorem dX6_weightOfLanguage_0 : decode cX6_weightOfLanguage 0 = .ok (.iload_n 1, 1) := by decide +kernel
theorem dX6_weightOfLanguage_1 : decode cX6_weightOfLanguage 1 = .ok (.iconst 0, 1) := by decide +kernel
theorem dX6_weightOfLanguage_2 : decode cX6_weightOfLanguage 2 = .ok (.iconst 2, 1) := by decide +kernel
theorem dX6_weightOfLanguage_3 : decode cX6_weightOfLanguage 3 = .ok (.invokestatic 96, 3) := by decide +kernel
theorem dX6_weightOfLanguage_6 : decode cX6_weightOfLanguage 6 = .ok (.ifCond .ne 9, 3) := by decide +kernel
theorem dX6_weightOfLanguage_9 : decode cX6_weightOfLanguage 9 = .ok (.aload_n 0, 1) := by decide +kernel
theorem dX6_weightOfLanguage_10 : decode cX6_weightOfLanguage 10 = .ok (.iconst 1, 1) := by decide +kernel
theorem dX6_weightOfLanguage_11 : decode cX6_weightOfLanguage 11 = .ok (.invokevirtual 104, 3) := by decide +kernel
theorem dX6_weightOfLanguage_14 : decode cX6_weightOfLanguage 14 = .ok (.ireturn, 1) := by decide +kernel
theorem dX6_weightOfLanguage_15 : decode cX6_weightOfLanguage 15 = .ok (.aload_n 0, 1) := by decide +kernel
theorem dX6_weightOfLanguage_16 : decode cX6_weightOfLanguage 16 = .ok (.iconst 0, 1) := by decide +kernel
theorem dX6_weightOfLanguage_17 : decode cX6_weightOfLanguage 17 = .ok (.putfield 90, 3) := by decide +kernel
theorem dX6_weightOfLanguage_20 : decode cX6_weightOfLanguage 20 = .ok (.aload_n 0, 1) := by decide +kernel
theorem dX6_weightOfLanguage_21 : decode cX6_weightOfLanguage 21 = .ok (.invokevirtual 150, 3) := by decide +kernel
theorem dX6_weightOfLanguage_24 : decode cX6_weightOfLanguage 24 = .ok (.iconst 0, 1) := by decide +kernel
theorem dX6_weightOfLanguage_25 : decode cX6_weightOfLanguage 25 = .ok (.istore_n 2, 1) := by decide +kernel
theorem dX6_weightOfLanguage_26 : decode cX6_weightOfLanguage 26 = .ok (.iconst 0, 1) := by decide +kernel
theorem dX6_weightOfLanguage_27 : decode cX6_weightOfLanguage 27 = .ok (.istore_n 3, 1) := by decide +kernel
theorem dX6_weightOfLanguage_28 : decode cX6_weightOfLanguage 28 = .ok (.iload_n 3, 1) := by decide +kernel
theorem dX6_weightOfLanguage_29 : decode cX6_weightOfLanguage 29 = .ok (.aload_n 0, 1) := by decide +kernel
theorem dX6_weightOfLanguage_30 : decode cX6_weightOfLanguage 30 = .ok (.getfield 93, 3) := by decide +kernel
theorem dX6_weightOfLanguage_33 : decode cX6_weightOfLanguage 33 = .ok (.if_icmp .ge 43, 3) := by decide +kernel
theorem dX6_weightOfLanguage_36 : decode cX6_weightOfLanguage 36 = .ok (.iload_n 2, 1) := by decide +kernel
theorem dX6_weightOfLanguage_37 : decode cX6_weightOfLanguage 37 = .ok (.aload_n 0, 1) := by decide +kernel
theorem dX6_weightOfLanguage_38 : decode cX6_weightOfLanguage 38 = .ok (.getfield 23, 3) := by decide +kernel
theorem dX6_weightOfLanguage_41 : decode cX6_weightOfLanguage 41 = .ok (.iload_n 3, 1) := by decide +kernel
theorem dX6_weightOfLanguage_42 : decode cX6_weightOfLanguage 42 = .ok (.iaload, 1) := by decide +kernel
theorem dX6_weightOfLanguage_43 : decode cX6_weightOfLanguage 43 = .ok (.bipush 97, 2) := by decide +kernel
theorem dX6_weightOfLanguage_45 : decode cX6_weightOfLanguage 45 = .ok (.if_icmp .ne 22, 3) := by decide +kernel
theorem dX6_weightOfLanguage_48 : decode cX6_weightOfLanguage 48 = .ok (.aload_n 0, 1) := by decide +kernel
theorem dX6_weightOfLanguage_49 : decode cX6_weightOfLanguage 49 = .ok (.getfield 20, 3) := by decide +kernel
theorem dX6_weightOfLanguage_52 : decode cX6_weightOfLanguage 52 = .ok (.iload_n 3, 1) := by decide +kernel
theorem dX6_weightOfLanguage_53 : decode cX6_weightOfLanguage 53 = .ok (.iaload, 1) := by decide +kernel
theorem dX6_weightOfLanguage_54 : decode cX6_weightOfLanguage 54 = .ok (.iload_n 1, 1) := by decide +kernel
theorem dX6_weightOfLanguage_55 : decode cX6_weightOfLanguage 55 = .ok (.if_icmp .ne 12, 3) := by decide +kernel
theorem dX6_weightOfLanguage_58 : decode cX6_weightOfLanguage 58 = .ok (.aload_n 0, 1) := by decide +kernel
theorem dX6_weightOfLanguage_59 : decode cX6_weightOfLanguage 59 = .ok (.getfield 50, 3) := by decide +kernel
theorem dX6_weightOfLanguage_62 : decode cX6_weightOfLanguage 62 = .ok (.iload_n 3, 1) := by decide +kernel
theorem dX6_weightOfLanguage_63 : decode cX6_weightOfLanguage 63 = .ok (.iaload, 1) := by decide +kernel
theorem dX6_weightOfLanguage_64 : decode cX6_weightOfLanguage 64 = .ok (.goto 4, 3) := by decide +kernel
theorem dX6_weightOfLanguage_67 : decode cX6_weightOfLanguage 67 = .ok (.iconst 0, 1) := by decide +kernel
theorem dX6_weightOfLanguage_68 : decode cX6_weightOfLanguage 68 = .ok (.iadd, 1) := by decide +kernel
theorem dX6_weightOfLanguage_69 : decode cX6_weightOfLanguage 69 = .ok (.istore_n 2, 1) := by decide +kernel
theorem dX6_weightOfLanguage_70 : decode cX6_weightOfLanguage 70 = .ok (.iinc 3 1, 3) := by decide +kernel
theorem dX6_weightOfLanguage_73 : decode cX6_weightOfLanguage 73 = .ok (.goto (-45), 3) := by decide +kernel
theorem dX6_weightOfLanguage_76 : decode cX6_weightOfLanguage 76 = .ok (.iload_n 2, 1) := by decide +kernel
theorem dX6_weightOfLanguage_77 : decode cX6_weightOfLanguage 77 = .ok (.ireturn, 1) := by decide +kernel
theorem dX6_weightedSum_0 : decode cX6_weightedSum 0 = .ok (.aload_n 0, 1) := by decide +kernel
theorem dX6_weightedSum_1 : decode cX6_weightedSum 1 = .ok (.iconst 0, 1) := by decide +kernel
theorem dX6_weightedSum_2 : decode cX6_weightedSum 2 = .ok (.putfield 90, 3) := by decide +kernel
theorem dX6_weightedSum_5 : decode cX6_weightedSum 5 = .ok (.aload_n 0, 1) := by decide +kernel
theorem dX6_weightedSum_6 : decode cX6_weightedSum 6 = .ok (.invokevirtual 150, 3) := by decide +kernel
theorem dX6_weightedSum_9 : decode cX6_weightedSum 9 = .ok (.lconst 0, 1) := by decide +kernel
theorem dX6_weightedSum_10 : decode cX6_weightedSum 10 = .ok (.lstore_n 1, 1) := by decide +kernel
theorem dX6_weightedSum_11 : decode cX6_weightedSum 11 = .ok (.iconst 0, 1) := by decide +kernel
theorem dX6_weightedSum_12 : decode cX6_weightedSum 12 = .ok (.istore_n 3, 1) := by decide +kernel
theorem dX6_weightedSum_13 : decode cX6_weightedSum 13 = .ok (.iload_n 3, 1) := by decide +kernel
theorem dX6_weightedSum_14 : decode cX6_weightedSum 14 = .ok (.aload_n 0, 1) := by decide +kernel
theorem dX6_weightedSum_15 : decode cX6_weightedSum 15 = .ok (.getfield 93, 3) := by decide +kernel
theorem dX6_weightedSum_18 : decode cX6_weightedSum 18 = .ok (.if_icmp .ge 41, 3) := by decide +kernel
theorem dX6_weightedSum_21 : decode cX6_weightedSum 21 = .ok (.lload_n 1, 1) := by decide +kernel
theorem dX6_weightedSum_22 : decode cX6_weightedSum 22 = .ok (.aload_n 0, 1) := by decide +kernel
theorem dX6_weightedSum_23 : decode cX6_weightedSum 23 = .ok (.getfield 23, 3) := by decide +kernel
theorem dX6_weightedSum_26 : decode cX6_weightedSum 26 = .ok (.iload_n 3, 1) := by decide +kernel
theorem dX6_weightedSum_27 : decode cX6_weightedSum 27 = .ok (.iaload, 1) := by decide +kernel
theorem dX6_weightedSum_28 : decode cX6_weightedSum 28 = .ok (.bipush 97, 2) := by decide +kernel
theorem dX6_weightedSum_30 : decode cX6_weightedSum 30 = .ok (.if_icmp .ne 20, 3) := by decide +kernel
theorem dX6_weightedSum_33 : decode cX6_weightedSum 33 = .ok (.aload_n 0, 1) := by decide +kernel
theorem dX6_weightedSum_34 : decode cX6_weightedSum 34 = .ok (.getfield 41, 3) := by decide +kernel
theorem dX6_weightedSum_37 : decode cX6_weightedSum 37 = .ok (.iload_n 3, 1) := by decide +kernel
theorem dX6_weightedSum_38 : decode cX6_weightedSum 38 = .ok (.iaload, 1) := by decide +kernel
theorem dX6_weightedSum_39 : decode cX6_weightedSum 39 = .ok (.aload_n 0, 1) := by decide +kernel
theorem dX6_weightedSum_40 : decode cX6_weightedSum 40 = .ok (.getfield 50, 3) := by decide +kernel
theorem dX6_weightedSum_43 : decode cX6_weightedSum 43 = .ok (.iload_n 3, 1) := by decide +kernel
theorem dX6_weightedSum_44 : decode cX6_weightedSum 44 = .ok (.iaload, 1) := by decide +kernel
theorem dX6_weightedSum_45 : decode cX6_weightedSum 45 = .ok (.imul, 1) := by decide +kernel
theorem dX6_weightedSum_46 : decode cX6_weightedSum 46 = .ok (.i2l, 1) := by decide +kernel
theorem dX6_weightedSum_47 : decode cX6_weightedSum 47 = .ok (.goto 4, 3) := by decide +kernel
theorem dX6_weightedSum_50 : decode cX6_weightedSum 50 = .ok (.lconst 0, 1) := by decide +kernel
theorem dX6_weightedSum_51 : decode cX6_weightedSum 51 = .ok (.ladd, 1) := by decide +kernel
theorem dX6_weightedSum_52 : decode cX6_weightedSum 52 = .ok (.lstore_n 1, 1) := by decide +kernel
theorem dX6_weightedSum_53 : decode cX6_weightedSum 53 = .ok (.iinc 3 1, 3) := by decide +kernel
theorem dX6_weightedSum_56 : decode cX6_weightedSum 56 = .ok (.goto (-43), 3) := by decide +kernel
theorem dX6_weightedSum_59 : decode cX6_weightedSum 59 = .ok (.lload_n 1, 1) := by decide +kernel
theorem dX6_weightedSum_60 : decode cX6_weightedSum 60 = .ok (.lreturn, 1) := by decide +kernel
theorem dX6_weightedMean_0 : decode cX6_weightedMean 0 = .ok (.aload_n 0, 1) := by decide +kernel
theorem dX6_weightedMean_1 : decode cX6_weightedMean 1 = .ok (.iconst 0, 1) := by decide +kernel
theorem dX6_weightedMean_2 : decode cX6_weightedMean 2 = .ok (.invokevirtual 155, 3) := by decide +kernel
theorem dX6_weightedMean_5 : decode cX6_weightedMean 5 = .ok (.aload_n 0, 1) := by decide +kernel
theorem dX6_weightedMean_6 : decode cX6_weightedMean 6 = .ok (.iconst 1, 1) := by decide +kernel
theorem dX6_weightedMean_7 : decode cX6_weightedMean 7 = .ok (.invokevirtual 155, 3) := by decide +kernel
theorem dX6_weightedMean_10 : decode cX6_weightedMean 10 = .ok (.iadd, 1) := by decide +kernel
theorem dX6_weightedMean_11 : decode cX6_weightedMean 11 = .ok (.aload_n 0, 1) := by decide +kernel
theorem dX6_weightedMean_12 : decode cX6_weightedMean 12 = .ok (.iconst 2, 1) := by decide +kernel
theorem dX6_weightedMean_13 : decode cX6_weightedMean 13 = .ok (.invokevirtual 155, 3) := by decide +kernel
theorem dX6_weightedMean_16 : decode cX6_weightedMean 16 = .ok (.iadd, 1) := by decide +kernel
theorem dX6_weightedMean_17 : decode cX6_weightedMean 17 = .ok (.istore_n 1, 1) := by decide +kernel
theorem dX6_weightedMean_18 : decode cX6_weightedMean 18 = .ok (.aload_n 0, 1) := by decide +kernel
theorem dX6_weightedMean_19 : decode cX6_weightedMean 19 = .ok (.invokevirtual 158, 3) := by decide +kernel
theorem dX6_weightedMean_22 : decode cX6_weightedMean 22 = .ok (.lstore_n 2, 1) := by decide +kernel
theorem dX6_weightedMean_23 : decode cX6_weightedMean 23 = .ok (.aload_n 0, 1) := by decide +kernel
theorem dX6_weightedMean_24 : decode cX6_weightedMean 24 = .ok (.iload_n 1, 1) := by decide +kernel
theorem dX6_weightedMean_25 : decode cX6_weightedMean 25 = .ok (.ifCond .ne 7, 3) := by decide +kernel
theorem dX6_weightedMean_28 : decode cX6_weightedMean 28 = .ok (.iconst 1, 1) := by decide +kernel
theorem dX6_weightedMean_29 : decode cX6_weightedMean 29 = .ok (.goto 4, 3) := by decide +kernel
theorem dX6_weightedMean_32 : decode cX6_weightedMean 32 = .ok (.iconst 0, 1) := by decide +kernel
theorem dX6_weightedMean_33 : decode cX6_weightedMean 33 = .ok (.putfield 90, 3) := by decide +kernel
theorem dX6_weightedMean_36 : decode cX6_weightedMean 36 = .ok (.iload_n 1, 1) := by decide +kernel
theorem dX6_weightedMean_37 : decode cX6_weightedMean 37 = .ok (.ifCond .ne 7, 3) := by decide +kernel
theorem dX6_weightedMean_40 : decode cX6_weightedMean 40 = .ok (.dconst 0, 1) := by decide +kernel
theorem dX6_weightedMean_41 : decode cX6_weightedMean 41 = .ok (.goto 8, 3) := by decide +kernel
theorem dX6_weightedMean_44 : decode cX6_weightedMean 44 = .ok (.lload_n 2, 1) := by decide +kernel
theorem dX6_weightedMean_45 : decode cX6_weightedMean 45 = .ok (.l2d, 1) := by decide +kernel
theorem dX6_weightedMean_46 : decode cX6_weightedMean 46 = .ok (.iload_n 1, 1) := by decide +kernel
theorem dX6_weightedMean_47 : decode cX6_weightedMean 47 = .ok (.i2d, 1) := by decide +kernel
theorem dX6_weightedMean_48 : decode cX6_weightedMean 48 = .ok (.ddiv, 1) := by decide +kernel
theorem dX6_weightedMean_49 : decode cX6_weightedMean 49 = .ok (.dreturn, 1) := by decide +kernel
theorem dX6_rate_0 : decode cX6_rate 0 = .ok (.iconst 0, 1) := by decide +kernel
theorem dX6_rate_1 : decode cX6_rate 1 = .ok (.istore_n 1, 1) := by decide +kernel
theorem dX6_rate_2 : decode cX6_rate 2 = .ok (.iconst 0, 1) := by decide +kernel
theorem dX6_rate_3 : decode cX6_rate 3 = .ok (.istore_n 2, 1) := by decide +kernel
theorem dX6_rate_4 : decode cX6_rate 4 = .ok (.iconst 0, 1) := by decide +kernel
theorem dX6_rate_5 : decode cX6_rate 5 = .ok (.istore_n 3, 1) := by decide +kernel
theorem dX6_rate_6 : decode cX6_rate 6 = .ok (.iload_n 3, 1) := by decide +kernel
theorem dX6_rate_7 : decode cX6_rate 7 = .ok (.aload_n 0, 1) := by decide +kernel
theorem dX6_rate_8 : decode cX6_rate 8 = .ok (.getfield 93, 3) := by decide +kernel
theorem dX6_rate_11 : decode cX6_rate 11 = .ok (.if_icmp .ge 58, 3) := by decide +kernel
theorem dX6_rate_14 : decode cX6_rate 14 = .ok (.iload_n 1, 1) := by decide +kernel
theorem dX6_rate_15 : decode cX6_rate 15 = .ok (.aload_n 0, 1) := by decide +kernel
theorem dX6_rate_16 : decode cX6_rate 16 = .ok (.getfield 23, 3) := by decide +kernel
theorem dX6_rate_19 : decode cX6_rate 19 = .ok (.iload_n 3, 1) := by decide +kernel
theorem dX6_rate_20 : decode cX6_rate 20 = .ok (.iaload, 1) := by decide +kernel
theorem dX6_rate_21 : decode cX6_rate 21 = .ok (.bipush 97, 2) := by decide +kernel
theorem dX6_rate_23 : decode cX6_rate 23 = .ok (.if_icmp .ne 7, 3) := by decide +kernel
theorem dX6_rate_26 : decode cX6_rate 26 = .ok (.iconst 1, 1) := by decide +kernel
theorem dX6_rate_27 : decode cX6_rate 27 = .ok (.goto 4, 3) := by decide +kernel
theorem dX6_rate_30 : decode cX6_rate 30 = .ok (.iconst 0, 1) := by decide +kernel
theorem dX6_rate_31 : decode cX6_rate 31 = .ok (.iadd, 1) := by decide +kernel
theorem dX6_rate_32 : decode cX6_rate 32 = .ok (.istore_n 1, 1) := by decide +kernel
theorem dX6_rate_33 : decode cX6_rate 33 = .ok (.iload_n 2, 1) := by decide +kernel
theorem dX6_rate_34 : decode cX6_rate 34 = .ok (.aload_n 0, 1) := by decide +kernel
theorem dX6_rate_35 : decode cX6_rate 35 = .ok (.getfield 23, 3) := by decide +kernel
theorem dX6_rate_38 : decode cX6_rate 38 = .ok (.iload_n 3, 1) := by decide +kernel
theorem dX6_rate_39 : decode cX6_rate 39 = .ok (.iaload, 1) := by decide +kernel
theorem dX6_rate_40 : decode cX6_rate 40 = .ok (.bipush 117, 2) := by decide +kernel
theorem dX6_rate_42 : decode cX6_rate 42 = .ok (.if_icmp .eq 18, 3) := by decide +kernel
theorem dX6_rate_45 : decode cX6_rate 45 = .ok (.aload_n 0, 1) := by decide +kernel
theorem dX6_rate_46 : decode cX6_rate 46 = .ok (.getfield 23, 3) := by decide +kernel
theorem dX6_rate_49 : decode cX6_rate 49 = .ok (.iload_n 3, 1) := by decide +kernel
theorem dX6_rate_50 : decode cX6_rate 50 = .ok (.iaload, 1) := by decide +kernel
theorem dX6_rate_51 : decode cX6_rate 51 = .ok (.bipush 101, 2) := by decide +kernel
theorem dX6_rate_53 : decode cX6_rate 53 = .ok (.if_icmp .eq 7, 3) := by decide +kernel
theorem dX6_rate_56 : decode cX6_rate 56 = .ok (.iconst 1, 1) := by decide +kernel
theorem dX6_rate_57 : decode cX6_rate 57 = .ok (.goto 4, 3) := by decide +kernel
theorem dX6_rate_60 : decode cX6_rate 60 = .ok (.iconst 0, 1) := by decide +kernel
theorem dX6_rate_61 : decode cX6_rate 61 = .ok (.iadd, 1) := by decide +kernel
theorem dX6_rate_62 : decode cX6_rate 62 = .ok (.istore_n 2, 1) := by decide +kernel
theorem dX6_rate_63 : decode cX6_rate 63 = .ok (.iinc 3 1, 3) := by decide +kernel
theorem dX6_rate_66 : decode cX6_rate 66 = .ok (.goto (-60), 3) := by decide +kernel
theorem dX6_rate_69 : decode cX6_rate 69 = .ok (.aload_n 0, 1) := by decide +kernel
theorem dX6_rate_70 : decode cX6_rate 70 = .ok (.iload_n 2, 1) := by decide +kernel
theorem dX6_rate_71 : decode cX6_rate 71 = .ok (.ifCond .ne 7, 3) := by decide +kernel
theorem dX6_rate_74 : decode cX6_rate 74 = .ok (.iconst 1, 1) := by decide +kernel
theorem dX6_rate_75 : decode cX6_rate 75 = .ok (.goto 4, 3) := by decide +kernel
theorem dX6_rate_78 : decode cX6_rate 78 = .ok (.iconst 0, 1) := by decide +kernel
theorem dX6_rate_79 : decode cX6_rate 79 = .ok (.putfield 90, 3) := by decide +kernel
theorem dX6_rate_82 : decode cX6_rate 82 = .ok (.iload_n 2, 1) := by decide +kernel
theorem dX6_rate_83 : decode cX6_rate 83 = .ok (.ifCond .ne 7, 3) := by decide +kernel
theorem dX6_rate_86 : decode cX6_rate 86 = .ok (.fconst 0, 1) := by decide +kernel
theorem dX6_rate_87 : decode cX6_rate 87 = .ok (.goto 8, 3) := by decide +kernel
theorem dX6_rate_90 : decode cX6_rate 90 = .ok (.iload_n 1, 1) := by decide +kernel
theorem dX6_rate_91 : decode cX6_rate 91 = .ok (.i2f, 1) := by decide +kernel
theorem dX6_rate_92 : decode cX6_rate 92 = .ok (.iload_n 2, 1) := by decide +kernel
theorem dX6_rate_93 : decode cX6_rate 93 = .ok (.i2f, 1) := by decide +kernel
theorem dX6_rate_94 : decode cX6_rate 94 = .ok (.fdiv, 1) := by decide +kernel
theorem dX6_rate_95 : decode cX6_rate 95 = .ok (.freturn, 1) := by decide +kernel
theorem dX6_isSound_0 : decode cX6_isSound 0 = .ok (.aload_n 0, 1) := by decide +kernel
theorem dX6_isSound_1 : decode cX6_isSound 1 = .ok (.iconst 0, 1) := by decide +kernel
theorem dX6_isSound_2 : decode cX6_isSound 2 = .ok (.putfield 90, 3) := by decide +kernel
theorem dX6_isSound_5 : decode cX6_isSound 5 = .ok (.iconst 1, 1) := by decide +kernel
theorem dX6_isSound_6 : decode cX6_isSound 6 = .ok (.ireturn, 1) := by decide +kernel
end
section
theorem dX0_init_0 : decode cX0_init 0 = .ok (.aload_n 0, 1) := by decide +kernel
theorem dX0_init_1 : decode cX0_init 1 = .ok (.invokespecial 3, 3) := by decide +kernel
theorem dX0_init_4 : decode cX0_init 4 = .ok (.aload_n 0, 1) := by decide +kernel
theorem dX0_init_5 : decode cX0_init 5 = .ok (.bipush 24, 2) := by decide +kernel
theorem dX0_init_7 : decode cX0_init 7 = .ok (.newarray .int, 2) := by decide +kernel
theorem dX0_init_9 : decode cX0_init 9 = .ok (.putfield 9, 3) := by decide +kernel
theorem dX0_init_12 : decode cX0_init 12 = .ok (.aload_n 0, 1) := by decide +kernel
theorem dX0_init_13 : decode cX0_init 13 = .ok (.bipush 24, 2) := by decide +kernel
theorem dX0_init_15 : decode cX0_init 15 = .ok (.newarray .int, 2) := by decide +kernel
theorem dX0_init_17 : decode cX0_init 17 = .ok (.putfield 15, 3) := by decide +kernel
theorem dX0_init_20 : decode cX0_init 20 = .ok (.aload_n 0, 1) := by decide +kernel
theorem dX0_init_21 : decode cX0_init 21 = .ok (.iconst 4, 1) := by decide +kernel
theorem dX0_init_22 : decode cX0_init 22 = .ok (.newarray .int, 2) := by decide +kernel
theorem dX0_init_24 : decode cX0_init 24 = .ok (.putfield 18, 3) := by decide +kernel
theorem dX0_init_27 : decode cX0_init 27 = .ok (.aload_n 0, 1) := by decide +kernel
theorem dX0_init_28 : decode cX0_init 28 = .ok (.iconst 3, 1) := by decide +kernel
theorem dX0_init_29 : decode cX0_init 29 = .ok (.newarray .int, 2) := by decide +kernel
theorem dX0_init_31 : decode cX0_init 31 = .ok (.putfield 21, 3) := by decide +kernel
theorem dX0_init_34 : decode cX0_init 34 = .ok (.aload_n 0, 1) := by decide +kernel
theorem dX0_init_35 : decode cX0_init 35 = .ok (.iconst 0, 1) := by decide +kernel
theorem dX0_init_36 : decode cX0_init 36 = .ok (.putfield 24, 3) := by decide +kernel
theorem dX0_init_39 : decode cX0_init 39 = .ok (.aload_n 0, 1) := by decide +kernel
theorem dX0_init_40 : decode cX0_init 40 = .ok (.iconst 0, 1) := by decide +kernel
theorem dX0_init_41 : decode cX0_init 41 = .ok (.putfield 28, 3) := by decide +kernel
theorem dX0_init_44 : decode cX0_init 44 = .ok (.return_, 1) := by decide +kernel
theorem dX0_raiseTargets_0 : decode cX0_raiseTargets 0 = .ok (.iload_n 1, 1) := by decide +kernel
theorem dX0_raiseTargets_1 : decode cX0_raiseTargets 1 = .ok (.ifCond .lt 11, 3) := by decide +kernel
theorem dX0_raiseTargets_4 : decode cX0_raiseTargets 4 = .ok (.iload_n 1, 1) := by decide +kernel
theorem dX0_raiseTargets_5 : decode cX0_raiseTargets 5 = .ok (.aload_n 0, 1) := by decide +kernel
theorem dX0_raiseTargets_6 : decode cX0_raiseTargets 6 = .ok (.getfield 28, 3) := by decide +kernel
theorem dX0_raiseTargets_9 : decode cX0_raiseTargets 9 = .ok (.if_icmp .lt 4, 3) := by decide +kernel
theorem dX0_raiseTargets_12 : decode cX0_raiseTargets 12 = .ok (.return_, 1) := by decide +kernel
theorem dX0_raiseTargets_13 : decode cX0_raiseTargets 13 = .ok (.aload_n 0, 1) := by decide +kernel
theorem dX0_raiseTargets_14 : decode cX0_raiseTargets 14 = .ok (.getfield 18, 3) := by decide +kernel
theorem dX0_raiseTargets_17 : decode cX0_raiseTargets 17 = .ok (.aload_n 0, 1) := by decide +kernel
theorem dX0_raiseTargets_18 : decode cX0_raiseTargets 18 = .ok (.getfield 9, 3) := by decide +kernel
theorem dX0_raiseTargets_21 : decode cX0_raiseTargets 21 = .ok (.iload_n 1, 1) := by decide +kernel
theorem dX0_raiseTargets_22 : decode cX0_raiseTargets 22 = .ok (.iaload, 1) := by decide +kernel
theorem dX0_raiseTargets_23 : decode cX0_raiseTargets 23 = .ok (.dup2, 1) := by decide +kernel
theorem dX0_raiseTargets_24 : decode cX0_raiseTargets 24 = .ok (.iaload, 1) := by decide +kernel
theorem dX0_raiseTargets_25 : decode cX0_raiseTargets 25 = .ok (.sipush 1000, 3) := by decide +kernel
theorem dX0_raiseTargets_28 : decode cX0_raiseTargets 28 = .ok (.iadd, 1) := by decide +kernel
theorem dX0_raiseTargets_29 : decode cX0_raiseTargets 29 = .ok (.iastore, 1) := by decide +kernel
theorem dX0_raiseTargets_30 : decode cX0_raiseTargets 30 = .ok (.aload_n 0, 1) := by decide +kernel
theorem dX0_raiseTargets_31 : decode cX0_raiseTargets 31 = .ok (.getfield 21, 3) := by decide +kernel
theorem dX0_raiseTargets_34 : decode cX0_raiseTargets 34 = .ok (.aload_n 0, 1) := by decide +kernel
theorem dX0_raiseTargets_35 : decode cX0_raiseTargets 35 = .ok (.getfield 15, 3) := by decide +kernel
theorem dX0_raiseTargets_38 : decode cX0_raiseTargets 38 = .ok (.iload_n 1, 1) := by decide +kernel
theorem dX0_raiseTargets_39 : decode cX0_raiseTargets 39 = .ok (.iaload, 1) := by decide +kernel
theorem dX0_raiseTargets_40 : decode cX0_raiseTargets 40 = .ok (.dup2, 1) := by decide +kernel
theorem dX0_raiseTargets_41 : decode cX0_raiseTargets 41 = .ok (.iaload, 1) := by decide +kernel
theorem dX0_raiseTargets_42 : decode cX0_raiseTargets 42 = .ok (.sipush 1000, 3) := by decide +kernel
theorem dX0_raiseTargets_45 : decode cX0_raiseTargets 45 = .ok (.iadd, 1) := by decide +kernel
theorem dX0_raiseTargets_46 : decode cX0_raiseTargets 46 = .ok (.iastore, 1) := by decide +kernel
theorem dX0_raiseTargets_47 : decode cX0_raiseTargets 47 = .ok (.return_, 1) := by decide +kernel
theorem dX1_init_0 : decode cX1_init 0 = .ok (.aload_n 0, 1) := by decide +kernel
theorem dX1_init_1 : decode cX1_init 1 = .ok (.invokespecial 3, 3) := by decide +kernel
theorem dX1_init_4 : decode cX1_init 4 = .ok (.aload_n 0, 1) := by decide +kernel
theorem dX1_init_5 : decode cX1_init 5 = .ok (.sipush 512, 3) := by decide +kernel
theorem dX1_init_8 : decode cX1_init 8 = .ok (.newarray .int, 2) := by decide +kernel
theorem dX1_init_10 : decode cX1_init 10 = .ok (.putfield 9, 3) := by decide +kernel
theorem dX1_init_13 : decode cX1_init 13 = .ok (.aload_n 0, 1) := by decide +kernel
theorem dX1_init_14 : decode cX1_init 14 = .ok (.iconst 0, 1) := by decide +kernel
theorem dX1_init_15 : decode cX1_init 15 = .ok (.putfield 15, 3) := by decide +kernel
theorem dX1_init_18 : decode cX1_init 18 = .ok (.return_, 1) := by decide +kernel
theorem dX1_append_0 : decode cX1_append 0 = .ok (.aload_n 0, 1) := by decide +kernel
theorem dX1_append_1 : decode cX1_append 1 = .ok (.getfield 15, 3) := by decide +kernel
theorem dX1_append_4 : decode cX1_append 4 = .ok (.aload_n 0, 1) := by decide +kernel
theorem dX1_append_5 : decode cX1_append 5 = .ok (.getfield 9, 3) := by decide +kernel
theorem dX1_append_8 : decode cX1_append 8 = .ok (.arraylength, 1) := by decide +kernel
theorem dX1_append_9 : decode cX1_append 9 = .ok (.if_icmp .lt 4, 3) := by decide +kernel
theorem dX1_append_12 : decode cX1_append 12 = .ok (.return_, 1) := by decide +kernel
theorem dX1_append_13 : decode cX1_append 13 = .ok (.aload_n 0, 1) := by decide +kernel
theorem dX1_append_14 : decode cX1_append 14 = .ok (.getfield 9, 3) := by decide +kernel
theorem dX1_append_17 : decode cX1_append 17 = .ok (.aload_n 0, 1) := by decide +kernel
theorem dX1_append_18 : decode cX1_append 18 = .ok (.getfield 15, 3) := by decide +kernel
theorem dX1_append_21 : decode cX1_append 21 = .ok (.iload_n 1, 1) := by decide +kernel
theorem dX1_append_22 : decode cX1_append 22 = .ok (.bipush 16, 2) := by decide +kernel
theorem dX1_append_24 : decode cX1_append 24 = .ok (.ishl, 1) := by decide +kernel
theorem dX1_append_25 : decode cX1_append 25 = .ok (.iload_n 3, 1) := by decide +kernel
theorem dX1_append_26 : decode cX1_append 26 = .ok (.bipush 12, 2) := by decide +kernel
theorem dX1_append_28 : decode cX1_append 28 = .ok (.ishl, 1) := by decide +kernel
theorem dX1_append_29 : decode cX1_append 29 = .ok (.ior, 1) := by decide +kernel
theorem dX1_append_30 : decode cX1_append 30 = .ok (.iload_n 2, 1) := by decide +kernel
theorem dX1_append_31 : decode cX1_append 31 = .ok (.iconst 4, 1) := by decide +kernel
theorem dX1_append_32 : decode cX1_append 32 = .ok (.ishl, 1) := by decide +kernel
theorem dX1_append_33 : decode cX1_append 33 = .ok (.ior, 1) := by decide +kernel
theorem dX1_append_34 : decode cX1_append 34 = .ok (.iload 4, 2) := by decide +kernel
theorem dX1_append_36 : decode cX1_append 36 = .ok (.ior, 1) := by decide +kernel
theorem dX1_append_37 : decode cX1_append 37 = .ok (.iastore, 1) := by decide +kernel
theorem dX1_append_38 : decode cX1_append 38 = .ok (.aload_n 0, 1) := by decide +kernel
theorem dX1_append_39 : decode cX1_append 39 = .ok (.dup, 1) := by decide +kernel
theorem dX1_append_40 : decode cX1_append 40 = .ok (.getfield 15, 3) := by decide +kernel
theorem dX1_append_43 : decode cX1_append 43 = .ok (.iconst 1, 1) := by decide +kernel
theorem dX1_append_44 : decode cX1_append 44 = .ok (.iadd, 1) := by decide +kernel
theorem dX1_append_45 : decode cX1_append 45 = .ok (.putfield 15, 3) := by decide +kernel
theorem dX1_append_48 : decode cX1_append 48 = .ok (.return_, 1) := by decide +kernel
theorem dX1_retell_0 : decode cX1_retell 0 = .ok (.aload_n 1, 1) := by decide +kernel
theorem dX1_retell_1 : decode cX1_retell 1 = .ok (.invokevirtual 19, 3) := by decide +kernel
theorem dX1_retell_4 : decode cX1_retell 4 = .ok (.iconst 0, 1) := by decide +kernel
theorem dX1_retell_5 : decode cX1_retell 5 = .ok (.istore_n 2, 1) := by decide +kernel
theorem dX1_retell_6 : decode cX1_retell 6 = .ok (.iload_n 2, 1) := by decide +kernel
theorem dX1_retell_7 : decode cX1_retell 7 = .ok (.aload_n 0, 1) := by decide +kernel
theorem dX1_retell_8 : decode cX1_retell 8 = .ok (.getfield 15, 3) := by decide +kernel
theorem dX1_retell_11 : decode cX1_retell 11 = .ok (.if_icmp .ge 20, 3) := by decide +kernel
theorem dX1_retell_14 : decode cX1_retell 14 = .ok (.aload_n 0, 1) := by decide +kernel
theorem dX1_retell_15 : decode cX1_retell 15 = .ok (.aload_n 0, 1) := by decide +kernel
theorem dX1_retell_16 : decode cX1_retell 16 = .ok (.getfield 9, 3) := by decide +kernel
theorem dX1_retell_19 : decode cX1_retell 19 = .ok (.iload_n 2, 1) := by decide +kernel
theorem dX1_retell_20 : decode cX1_retell 20 = .ok (.iaload, 1) := by decide +kernel
theorem dX1_retell_21 : decode cX1_retell 21 = .ok (.aload_n 1, 1) := by decide +kernel
theorem dX1_retell_22 : decode cX1_retell 22 = .ok (.invokevirtual 24, 3) := by decide +kernel
theorem dX1_retell_25 : decode cX1_retell 25 = .ok (.iinc 2 1, 3) := by decide +kernel
theorem dX1_retell_28 : decode cX1_retell 28 = .ok (.goto (-22), 3) := by decide +kernel
theorem dX1_retell_31 : decode cX1_retell 31 = .ok (.return_, 1) := by decide +kernel
theorem dX1_retellOne_0 : decode cX1_retellOne 0 = .ok (.iload_n 1, 1) := by decide +kernel
theorem dX1_retellOne_1 : decode cX1_retellOne 1 = .ok (.bipush 16, 2) := by decide +kernel
theorem dX1_retellOne_3 : decode cX1_retellOne 3 = .ok (.ishr, 1) := by decide +kernel
theorem dX1_retellOne_4 : decode cX1_retellOne 4 = .ok (.istore_n 3, 1) := by decide +kernel
theorem dX1_retellOne_5 : decode cX1_retellOne 5 = .ok (.iload_n 1, 1) := by decide +kernel
theorem dX1_retellOne_6 : decode cX1_retellOne 6 = .ok (.bipush 12, 2) := by decide +kernel
theorem dX1_retellOne_8 : decode cX1_retellOne 8 = .ok (.ishr, 1) := by decide +kernel
theorem dX1_retellOne_9 : decode cX1_retellOne 9 = .ok (.iconst 3, 1) := by decide +kernel
theorem dX1_retellOne_10 : decode cX1_retellOne 10 = .ok (.iand, 1) := by decide +kernel
theorem dX1_retellOne_11 : decode cX1_retellOne 11 = .ok (.istore 4, 2) := by decide +kernel
theorem dX1_retellOne_13 : decode cX1_retellOne 13 = .ok (.iload_n 1, 1) := by decide +kernel
theorem dX1_retellOne_14 : decode cX1_retellOne 14 = .ok (.iconst 4, 1) := by decide +kernel
theorem dX1_retellOne_15 : decode cX1_retellOne 15 = .ok (.ishr, 1) := by decide +kernel
theorem dX1_retellOne_16 : decode cX1_retellOne 16 = .ok (.bipush 31, 2) := by decide +kernel
theorem dX1_retellOne_18 : decode cX1_retellOne 18 = .ok (.iand, 1) := by decide +kernel
theorem dX1_retellOne_19 : decode cX1_retellOne 19 = .ok (.istore 5, 2) := by decide +kernel
theorem dX1_retellOne_21 : decode cX1_retellOne 21 = .ok (.iload_n 1, 1) := by decide +kernel
theorem dX1_retellOne_22 : decode cX1_retellOne 22 = .ok (.bipush 15, 2) := by decide +kernel
theorem dX1_retellOne_24 : decode cX1_retellOne 24 = .ok (.iand, 1) := by decide +kernel
theorem dX1_retellOne_25 : decode cX1_retellOne 25 = .ok (.istore 6, 2) := by decide +kernel
theorem dX1_retellOne_27 : decode cX1_retellOne 27 = .ok (.iload 5, 2) := by decide +kernel
theorem dX1_retellOne_29 : decode cX1_retellOne 29 = .ok (.bipush 24, 2) := by decide +kernel
theorem dX1_retellOne_31 : decode cX1_retellOne 31 = .ok (.if_icmp .lt 4, 3) := by decide +kernel
theorem dX1_retellOne_34 : decode cX1_retellOne 34 = .ok (.return_, 1) := by decide +kernel
theorem dX1_retellOne_35 : decode cX1_retellOne 35 = .ok (.iload_n 3, 1) := by decide +kernel
theorem dX1_retellOne_36 : decode cX1_retellOne 36 = .ok (.bipush 97, 2) := by decide +kernel
theorem dX1_retellOne_38 : decode cX1_retellOne 38 = .ok (.if_icmp .ne 16, 3) := by decide +kernel
theorem dX1_retellOne_41 : decode cX1_retellOne 41 = .ok (.aload_n 2, 1) := by decide +kernel
theorem dX1_retellOne_42 : decode cX1_retellOne 42 = .ok (.iload 5, 2) := by decide +kernel
theorem dX1_retellOne_44 : decode cX1_retellOne 44 = .ok (.iload 4, 2) := by decide +kernel
theorem dX1_retellOne_46 : decode cX1_retellOne 46 = .ok (.iload 6, 2) := by decide +kernel
theorem dX1_retellOne_48 : decode cX1_retellOne 48 = .ok (.invokevirtual 28, 3) := by decide +kernel
theorem dX1_retellOne_51 : decode cX1_retellOne 51 = .ok (.goto 18, 3) := by decide +kernel
theorem dX1_retellOne_54 : decode cX1_retellOne 54 = .ok (.iload_n 3, 1) := by decide +kernel
theorem dX1_retellOne_55 : decode cX1_retellOne 55 = .ok (.bipush 99, 2) := by decide +kernel
theorem dX1_retellOne_57 : decode cX1_retellOne 57 = .ok (.if_icmp .ne 12, 3) := by decide +kernel
theorem dX1_retellOne_60 : decode cX1_retellOne 60 = .ok (.aload_n 2, 1) := by decide +kernel
theorem dX1_retellOne_61 : decode cX1_retellOne 61 = .ok (.iload 5, 2) := by decide +kernel
theorem dX1_retellOne_63 : decode cX1_retellOne 63 = .ok (.iload 6, 2) := by decide +kernel
theorem dX1_retellOne_65 : decode cX1_retellOne 65 = .ok (.invokevirtual 32, 3) := by decide +kernel
theorem dX1_retellOne_68 : decode cX1_retellOne 68 = .ok (.pop, 1) := by decide +kernel
theorem dX1_retellOne_69 : decode cX1_retellOne 69 = .ok (.return_, 1) := by decide +kernel
theorem dX2_init_0 : decode cX2_init 0 = .ok (.aload_n 0, 1) := by decide +kernel
theorem dX2_init_1 : decode cX2_init 1 = .ok (.invokespecial 3, 3) := by decide +kernel
theorem dX2_init_4 : decode cX2_init 4 = .ok (.aload_n 0, 1) := by decide +kernel
theorem dX2_init_5 : decode cX2_init 5 = .ok (.bipush 117, 2) := by decide +kernel
theorem dX2_init_7 : decode cX2_init 7 = .ok (.putfield 9, 3) := by decide +kernel
theorem dX2_init_10 : decode cX2_init 10 = .ok (.aload_n 0, 1) := by decide +kernel
theorem dX2_init_11 : decode cX2_init 11 = .ok (.iconst 0, 1) := by decide +kernel
theorem dX2_init_12 : decode cX2_init 12 = .ok (.putfield 15, 3) := by decide +kernel
theorem dX2_init_15 : decode cX2_init 15 = .ok (.aload_n 0, 1) := by decide +kernel
theorem dX2_init_16 : decode cX2_init 16 = .ok (.iconst 0, 1) := by decide +kernel
theorem dX2_init_17 : decode cX2_init 17 = .ok (.putfield 19, 3) := by decide +kernel
theorem dX2_init_20 : decode cX2_init 20 = .ok (.aload_n 0, 1) := by decide +kernel
theorem dX2_init_21 : decode cX2_init 21 = .ok (.iconst 0, 1) := by decide +kernel
theorem dX2_init_22 : decode cX2_init 22 = .ok (.putfield 22, 3) := by decide +kernel
theorem dX2_init_25 : decode cX2_init 25 = .ok (.aload_n 0, 1) := by decide +kernel
theorem dX2_init_26 : decode cX2_init 26 = .ok (.iconst 0, 1) := by decide +kernel
theorem dX2_init_27 : decode cX2_init 27 = .ok (.putfield 25, 3) := by decide +kernel
theorem dX2_init_30 : decode cX2_init 30 = .ok (.aload_n 0, 1) := by decide +kernel
theorem dX2_init_31 : decode cX2_init 31 = .ok (.iconst 0, 1) := by decide +kernel
theorem dX2_init_32 : decode cX2_init 32 = .ok (.putfield 28, 3) := by decide +kernel
theorem dX2_init_35 : decode cX2_init 35 = .ok (.aload_n 0, 1) := by decide +kernel
theorem dX2_init_36 : decode cX2_init 36 = .ok (.iconst (-1), 1) := by decide +kernel
theorem dX2_init_37 : decode cX2_init 37 = .ok (.putfield 31, 3) := by decide +kernel
theorem dX2_init_40 : decode cX2_init 40 = .ok (.aload_n 0, 1) := by decide +kernel
theorem dX2_init_41 : decode cX2_init 41 = .ok (.iconst 0, 1) := by decide +kernel
theorem dX2_init_42 : decode cX2_init 42 = .ok (.putfield 34, 3) := by decide +kernel
theorem dX2_init_45 : decode cX2_init 45 = .ok (.aload_n 0, 1) := by decide +kernel
theorem dX2_init_46 : decode cX2_init 46 = .ok (.iconst 0, 1) := by decide +kernel
theorem dX2_init_47 : decode cX2_init 47 = .ok (.putfield 38, 3) := by decide +kernel
theorem dX2_init_50 : decode cX2_init 50 = .ok (.aload_n 0, 1) := by decide +kernel
theorem dX2_init_51 : decode cX2_init 51 = .ok (.iconst 0, 1) := by decide +kernel
theorem dX2_init_52 : decode cX2_init 52 = .ok (.putfield 41, 3) := by decide +kernel
theorem dX2_init_55 : decode cX2_init 55 = .ok (.aload_n 0, 1) := by decide +kernel
theorem dX2_init_56 : decode cX2_init 56 = .ok (.iload_n 1, 1) := by decide +kernel
theorem dX2_init_57 : decode cX2_init 57 = .ok (.putfield 44, 3) := by decide +kernel
theorem dX2_init_60 : decode cX2_init 60 = .ok (.return_, 1) := by decide +kernel
theorem dX2_beginDay_0 : decode cX2_beginDay 0 = .ok (.aload_n 0, 1) := by decide +kernel
theorem dX2_beginDay_1 : decode cX2_beginDay 1 = .ok (.iconst (-1), 1) := by decide +kernel
theorem dX2_beginDay_2 : decode cX2_beginDay 2 = .ok (.putfield 31, 3) := by decide +kernel
theorem dX2_beginDay_5 : decode cX2_beginDay 5 = .ok (.aload_n 0, 1) := by decide +kernel
theorem dX2_beginDay_6 : decode cX2_beginDay 6 = .ok (.iconst 0, 1) := by decide +kernel
theorem dX2_beginDay_7 : decode cX2_beginDay 7 = .ok (.putfield 34, 3) := by decide +kernel
theorem dX2_beginDay_10 : decode cX2_beginDay 10 = .ok (.aload_n 0, 1) := by decide +kernel
theorem dX2_beginDay_11 : decode cX2_beginDay 11 = .ok (.iconst 0, 1) := by decide +kernel
theorem dX2_beginDay_12 : decode cX2_beginDay 12 = .ok (.putfield 38, 3) := by decide +kernel
theorem dX2_beginDay_15 : decode cX2_beginDay 15 = .ok (.return_, 1) := by decide +kernel
theorem dX2_wantFrom_0 : decode cX2_wantFrom 0 = .ok (.aload_n 0, 1) := by decide +kernel
theorem dX2_wantFrom_1 : decode cX2_wantFrom 1 = .ok (.bipush 119, 2) := by decide +kernel
theorem dX2_wantFrom_3 : decode cX2_wantFrom 3 = .ok (.putfield 9, 3) := by decide +kernel
theorem dX2_wantFrom_6 : decode cX2_wantFrom 6 = .ok (.aload_n 0, 1) := by decide +kernel
theorem dX2_wantFrom_7 : decode cX2_wantFrom 7 = .ok (.iload_n 1, 1) := by decide +kernel
theorem dX2_wantFrom_8 : decode cX2_wantFrom 8 = .ok (.putfield 15, 3) := by decide +kernel
theorem dX2_wantFrom_11 : decode cX2_wantFrom 11 = .ok (.return_, 1) := by decide +kernel
theorem dX2_lose_0 : decode cX2_lose 0 = .ok (.aload_n 0, 1) := by decide +kernel
theorem dX2_lose_1 : decode cX2_lose 1 = .ok (.iload_n 1, 1) := by decide +kernel
theorem dX2_lose_2 : decode cX2_lose 2 = .ok (.putfield 9, 3) := by decide +kernel
theorem dX2_lose_5 : decode cX2_lose 5 = .ok (.aload_n 0, 1) := by decide +kernel
theorem dX2_lose_6 : decode cX2_lose 6 = .ok (.iconst 1, 1) := by decide +kernel
theorem dX2_lose_7 : decode cX2_lose 7 = .ok (.putfield 38, 3) := by decide +kernel
theorem dX2_lose_10 : decode cX2_lose 10 = .ok (.return_, 1) := by decide +kernel
theorem dX2_meetNobody_0 : decode cX2_meetNobody 0 = .ok (.aload_n 0, 1) := by decide +kernel
theorem dX2_meetNobody_1 : decode cX2_meetNobody 1 = .ok (.dup, 1) := by decide +kernel
theorem dX2_meetNobody_2 : decode cX2_meetNobody 2 = .ok (.getfield 22, 3) := by decide +kernel
theorem dX2_meetNobody_5 : decode cX2_meetNobody 5 = .ok (.iconst 1, 1) := by decide +kernel
theorem dX2_meetNobody_6 : decode cX2_meetNobody 6 = .ok (.iadd, 1) := by decide +kernel
theorem dX2_meetNobody_7 : decode cX2_meetNobody 7 = .ok (.putfield 22, 3) := by decide +kernel
theorem dX2_meetNobody_10 : decode cX2_meetNobody 10 = .ok (.aload_n 0, 1) := by decide +kernel
theorem dX2_meetNobody_11 : decode cX2_meetNobody 11 = .ok (.getfield 22, 3) := by decide +kernel
theorem dX2_meetNobody_14 : decode cX2_meetNobody 14 = .ok (.iconst 3, 1) := by decide +kernel
theorem dX2_meetNobody_15 : decode cX2_meetNobody 15 = .ok (.if_icmp .lt 12, 3) := by decide +kernel
theorem dX2_meetNobody_18 : decode cX2_meetNobody 18 = .ok (.aload_n 0, 1) := by decide +kernel
theorem dX2_meetNobody_19 : decode cX2_meetNobody 19 = .ok (.bipush 103, 2) := by decide +kernel
theorem dX2_meetNobody_21 : decode cX2_meetNobody 21 = .ok (.invokevirtual 47, 3) := by decide +kernel
theorem dX2_meetNobody_24 : decode cX2_meetNobody 24 = .ok (.goto 13, 3) := by decide +kernel
theorem dX2_meetNobody_27 : decode cX2_meetNobody 27 = .ok (.aload_n 0, 1) := by decide +kernel
theorem dX2_meetNobody_28 : decode cX2_meetNobody 28 = .ok (.iload_n 1, 1) := by decide +kernel
theorem dX2_meetNobody_29 : decode cX2_meetNobody 29 = .ok (.aload_n 0, 1) := by decide +kernel
theorem dX2_meetNobody_30 : decode cX2_meetNobody 30 = .ok (.getfield 22, 3) := by decide +kernel
theorem dX2_meetNobody_33 : decode cX2_meetNobody 33 = .ok (.iadd, 1) := by decide +kernel
theorem dX2_meetNobody_34 : decode cX2_meetNobody 34 = .ok (.invokevirtual 51, 3) := by decide +kernel
theorem dX2_meetNobody_37 : decode cX2_meetNobody 37 = .ok (.return_, 1) := by decide +kernel
theorem dX2_refuse_0 : decode cX2_refuse 0 = .ok (.aload_n 0, 1) := by decide +kernel
theorem dX2_refuse_1 : decode cX2_refuse 1 = .ok (.dup, 1) := by decide +kernel
theorem dX2_refuse_2 : decode cX2_refuse 2 = .ok (.getfield 25, 3) := by decide +kernel
theorem dX2_refuse_5 : decode cX2_refuse 5 = .ok (.iconst 1, 1) := by decide +kernel
theorem dX2_refuse_6 : decode cX2_refuse 6 = .ok (.iadd, 1) := by decide +kernel
theorem dX2_refuse_7 : decode cX2_refuse 7 = .ok (.putfield 25, 3) := by decide +kernel
theorem dX2_refuse_10 : decode cX2_refuse 10 = .ok (.aload_n 0, 1) := by decide +kernel
theorem dX2_refuse_11 : decode cX2_refuse 11 = .ok (.dup, 1) := by decide +kernel
theorem dX2_refuse_12 : decode cX2_refuse 12 = .ok (.getfield 28, 3) := by decide +kernel
theorem dX2_refuse_15 : decode cX2_refuse 15 = .ok (.iconst 1, 1) := by decide +kernel
theorem dX2_refuse_16 : decode cX2_refuse 16 = .ok (.iload_n 1, 1) := by decide +kernel
theorem dX2_refuse_17 : decode cX2_refuse 17 = .ok (.ishl, 1) := by decide +kernel
theorem dX2_refuse_18 : decode cX2_refuse 18 = .ok (.ior, 1) := by decide +kernel
theorem dX2_refuse_19 : decode cX2_refuse 19 = .ok (.putfield 28, 3) := by decide +kernel
theorem dX2_refuse_22 : decode cX2_refuse 22 = .ok (.aload_n 0, 1) := by decide +kernel
theorem dX2_refuse_23 : decode cX2_refuse 23 = .ok (.getfield 25, 3) := by decide +kernel
theorem dX2_refuse_26 : decode cX2_refuse 26 = .ok (.iconst 2, 1) := by decide +kernel
theorem dX2_refuse_27 : decode cX2_refuse 27 = .ok (.if_icmp .lt 12, 3) := by decide +kernel
theorem dX2_refuse_30 : decode cX2_refuse 30 = .ok (.aload_n 0, 1) := by decide +kernel
theorem dX2_refuse_31 : decode cX2_refuse 31 = .ok (.bipush 114, 2) := by decide +kernel
theorem dX2_refuse_33 : decode cX2_refuse 33 = .ok (.invokevirtual 47, 3) := by decide +kernel
theorem dX2_refuse_36 : decode cX2_refuse 36 = .ok (.goto 10, 3) := by decide +kernel
theorem dX2_refuse_39 : decode cX2_refuse 39 = .ok (.aload_n 0, 1) := by decide +kernel
theorem dX2_refuse_40 : decode cX2_refuse 40 = .ok (.iload_n 2, 1) := by decide +kernel
theorem dX2_refuse_41 : decode cX2_refuse 41 = .ok (.iconst 3, 1) := by decide +kernel
theorem dX2_refuse_42 : decode cX2_refuse 42 = .ok (.iadd, 1) := by decide +kernel
theorem dX2_refuse_43 : decode cX2_refuse 43 = .ok (.invokevirtual 51, 3) := by decide +kernel
theorem dX2_refuse_46 : decode cX2_refuse 46 = .ok (.return_, 1) := by decide +kernel
theorem dX2_hasRefused_0 : decode cX2_hasRefused 0 = .ok (.aload_n 0, 1) := by decide +kernel
theorem dX2_hasRefused_1 : decode cX2_hasRefused 1 = .ok (.getfield 28, 3) := by decide +kernel
theorem dX2_hasRefused_4 : decode cX2_hasRefused 4 = .ok (.iload_n 1, 1) := by decide +kernel
theorem dX2_hasRefused_5 : decode cX2_hasRefused 5 = .ok (.ishr, 1) := by decide +kernel
theorem dX2_hasRefused_6 : decode cX2_hasRefused 6 = .ok (.iconst 1, 1) := by decide +kernel
theorem dX2_hasRefused_7 : decode cX2_hasRefused 7 = .ok (.iand, 1) := by decide +kernel
theorem dX2_hasRefused_8 : decode cX2_hasRefused 8 = .ok (.iconst 1, 1) := by decide +kernel
theorem dX2_hasRefused_9 : decode cX2_hasRefused 9 = .ok (.if_icmp .ne 7, 3) := by decide +kernel
theorem dX2_hasRefused_12 : decode cX2_hasRefused 12 = .ok (.iconst 1, 1) := by decide +kernel
theorem dX2_hasRefused_13 : decode cX2_hasRefused 13 = .ok (.goto 4, 3) := by decide +kernel
theorem dX2_hasRefused_16 : decode cX2_hasRefused 16 = .ok (.iconst 0, 1) := by decide +kernel
theorem dX2_hasRefused_17 : decode cX2_hasRefused 17 = .ok (.ireturn, 1) := by decide +kernel
theorem dX2_isFree_0 : decode cX2_isFree 0 = .ok (.aload_n 0, 1) := by decide +kernel
theorem dX2_isFree_1 : decode cX2_isFree 1 = .ok (.getfield 9, 3) := by decide +kernel
theorem dX2_isFree_4 : decode cX2_isFree 4 = .ok (.bipush 119, 2) := by decide +kernel
theorem dX2_isFree_6 : decode cX2_isFree 6 = .ok (.if_icmp .ne 23, 3) := by decide +kernel
theorem dX2_isFree_9 : decode cX2_isFree 9 = .ok (.aload_n 0, 1) := by decide +kernel
theorem dX2_isFree_10 : decode cX2_isFree 10 = .ok (.getfield 15, 3) := by decide +kernel
theorem dX2_isFree_13 : decode cX2_isFree 13 = .ok (.iload_n 1, 1) := by decide +kernel
theorem dX2_isFree_14 : decode cX2_isFree 14 = .ok (.if_icmp .gt 15, 3) := by decide +kernel
theorem dX2_isFree_17 : decode cX2_isFree 17 = .ok (.aload_n 0, 1) := by decide +kernel
theorem dX2_isFree_18 : decode cX2_isFree 18 = .ok (.getfield 31, 3) := by decide +kernel
theorem dX2_isFree_21 : decode cX2_isFree 21 = .ok (.iconst (-1), 1) := by decide +kernel
theorem dX2_isFree_22 : decode cX2_isFree 22 = .ok (.if_icmp .ne 7, 3) := by decide +kernel
theorem dX2_isFree_25 : decode cX2_isFree 25 = .ok (.iconst 1, 1) := by decide +kernel
theorem dX2_isFree_26 : decode cX2_isFree 26 = .ok (.goto 4, 3) := by decide +kernel
theorem dX2_isFree_29 : decode cX2_isFree 29 = .ok (.iconst 0, 1) := by decide +kernel
theorem dX2_isFree_30 : decode cX2_isFree 30 = .ok (.ireturn, 1) := by decide +kernel
theorem dX3_init_0 : decode cX3_init 0 = .ok (.aload_n 0, 1) := by decide +kernel
theorem dX3_init_1 : decode cX3_init 1 = .ok (.invokespecial 3, 3) := by decide +kernel
theorem dX3_init_4 : decode cX3_init 4 = .ok (.aload_n 0, 1) := by decide +kernel
theorem dX3_init_5 : decode cX3_init 5 = .ok (.bipush 24, 2) := by decide +kernel
theorem dX3_init_7 : decode cX3_init 7 = .ok (.newarray .int, 2) := by decide +kernel
theorem dX3_init_9 : decode cX3_init 9 = .ok (.putfield 9, 3) := by decide +kernel
theorem dX3_init_12 : decode cX3_init 12 = .ok (.aload_n 0, 1) := by decide +kernel
theorem dX3_init_13 : decode cX3_init 13 = .ok (.iconst 0, 1) := by decide +kernel
theorem dX3_init_14 : decode cX3_init 14 = .ok (.putfield 15, 3) := by decide +kernel
theorem dX3_init_17 : decode cX3_init 17 = .ok (.aload_n 0, 1) := by decide +kernel
theorem dX3_init_18 : decode cX3_init 18 = .ok (.iconst 0, 1) := by decide +kernel
theorem dX3_init_19 : decode cX3_init 19 = .ok (.putfield 19, 3) := by decide +kernel
theorem dX3_init_22 : decode cX3_init 22 = .ok (.aload_n 0, 1) := by decide +kernel
theorem dX3_init_23 : decode cX3_init 23 = .ok (.iload_n 1, 1) := by decide +kernel
theorem dX3_init_24 : decode cX3_init 24 = .ok (.putfield 22, 3) := by decide +kernel
theorem dX3_init_27 : decode cX3_init 27 = .ok (.aload_n 0, 1) := by decide +kernel
theorem dX3_init_28 : decode cX3_init 28 = .ok (.iload_n 2, 1) := by decide +kernel
theorem dX3_init_29 : decode cX3_init 29 = .ok (.putfield 25, 3) := by decide +kernel
theorem dX3_init_32 : decode cX3_init 32 = .ok (.aload_n 0, 1) := by decide +kernel
theorem dX3_init_33 : decode cX3_init 33 = .ok (.iload_n 3, 1) := by decide +kernel
theorem dX3_init_34 : decode cX3_init 34 = .ok (.putfield 28, 3) := by decide +kernel
theorem dX3_init_37 : decode cX3_init 37 = .ok (.aload_n 0, 1) := by decide +kernel
theorem dX3_init_38 : decode cX3_init 38 = .ok (.iload_n 1, 1) := by decide +kernel
theorem dX3_init_39 : decode cX3_init 39 = .ok (.putfield 31, 3) := by decide +kernel
theorem dX3_init_42 : decode cX3_init 42 = .ok (.return_, 1) := by decide +kernel
theorem dX3_beginRound_0 : decode cX3_beginRound 0 = .ok (.aload_n 0, 1) := by decide +kernel
theorem dX3_beginRound_1 : decode cX3_beginRound 1 = .ok (.iconst 0, 1) := by decide +kernel
theorem dX3_beginRound_2 : decode cX3_beginRound 2 = .ok (.putfield 15, 3) := by decide +kernel
theorem dX3_beginRound_5 : decode cX3_beginRound 5 = .ok (.aload_n 0, 1) := by decide +kernel
theorem dX3_beginRound_6 : decode cX3_beginRound 6 = .ok (.aload_n 0, 1) := by decide +kernel
theorem dX3_beginRound_7 : decode cX3_beginRound 7 = .ok (.getfield 22, 3) := by decide +kernel
theorem dX3_beginRound_10 : decode cX3_beginRound 10 = .ok (.putfield 31, 3) := by decide +kernel
theorem dX3_beginRound_13 : decode cX3_beginRound 13 = .ok (.aload_n 0, 1) := by decide +kernel
theorem dX3_beginRound_14 : decode cX3_beginRound 14 = .ok (.iconst 0, 1) := by decide +kernel
theorem dX3_beginRound_15 : decode cX3_beginRound 15 = .ok (.putfield 19, 3) := by decide +kernel
theorem dX3_beginRound_18 : decode cX3_beginRound 18 = .ok (.return_, 1) := by decide +kernel
theorem dX3_speaks_0 : decode cX3_speaks 0 = .ok (.aload_n 0, 1) := by decide +kernel
theorem dX3_speaks_1 : decode cX3_speaks 1 = .ok (.getfield 25, 3) := by decide +kernel
theorem dX3_speaks_4 : decode cX3_speaks 4 = .ok (.iload_n 1, 1) := by decide +kernel
theorem dX3_speaks_5 : decode cX3_speaks 5 = .ok (.ishr, 1) := by decide +kernel
theorem dX3_speaks_6 : decode cX3_speaks 6 = .ok (.iconst 1, 1) := by decide +kernel
theorem dX3_speaks_7 : decode cX3_speaks 7 = .ok (.iand, 1) := by decide +kernel
theorem dX3_speaks_8 : decode cX3_speaks 8 = .ok (.iconst 1, 1) := by decide +kernel
theorem dX3_speaks_9 : decode cX3_speaks 9 = .ok (.if_icmp .ne 7, 3) := by decide +kernel
theorem dX3_speaks_12 : decode cX3_speaks 12 = .ok (.iconst 1, 1) := by decide +kernel
theorem dX3_speaks_13 : decode cX3_speaks 13 = .ok (.goto 4, 3) := by decide +kernel
theorem dX3_speaks_16 : decode cX3_speaks 16 = .ok (.iconst 0, 1) := by decide +kernel
theorem dX3_speaks_17 : decode cX3_speaks 17 = .ok (.ireturn, 1) := by decide +kernel
theorem dX3_wayTo_0 : decode cX3_wayTo 0 = .ok (.iload_n 1, 1) := by decide +kernel
theorem dX3_wayTo_1 : decode cX3_wayTo 1 = .ok (.aload_n 0, 1) := by decide +kernel
theorem dX3_wayTo_2 : decode cX3_wayTo 2 = .ok (.getfield 31, 3) := by decide +kernel
theorem dX3_wayTo_5 : decode cX3_wayTo 5 = .ok (.isub, 1) := by decide +kernel
theorem dX3_wayTo_6 : decode cX3_wayTo 6 = .ok (.invokestatic 34, 3) := by decide +kernel
theorem dX3_wayTo_9 : decode cX3_wayTo 9 = .ok (.ireturn, 1) := by decide +kernel
theorem dX3_hasTimeFor_0 : decode cX3_hasTimeFor 0 = .ok (.aload_n 0, 1) := by decide +kernel
theorem dX3_hasTimeFor_1 : decode cX3_hasTimeFor 1 = .ok (.getfield 19, 3) := by decide +kernel
theorem dX3_hasTimeFor_4 : decode cX3_hasTimeFor 4 = .ok (.iload_n 1, 1) := by decide +kernel
theorem dX3_hasTimeFor_5 : decode cX3_hasTimeFor 5 = .ok (.aload_n 0, 1) := by decide +kernel
theorem dX3_hasTimeFor_6 : decode cX3_hasTimeFor 6 = .ok (.getfield 31, 3) := by decide +kernel
theorem dX3_hasTimeFor_9 : decode cX3_hasTimeFor 9 = .ok (.isub, 1) := by decide +kernel
theorem dX3_hasTimeFor_10 : decode cX3_hasTimeFor 10 = .ok (.invokestatic 34, 3) := by decide +kernel
theorem dX3_hasTimeFor_13 : decode cX3_hasTimeFor 13 = .ok (.iadd, 1) := by decide +kernel
theorem dX3_hasTimeFor_14 : decode cX3_hasTimeFor 14 = .ok (.bipush 30, 2) := by decide +kernel
theorem dX3_hasTimeFor_16 : decode cX3_hasTimeFor 16 = .ok (.iadd, 1) := by decide +kernel
theorem dX3_hasTimeFor_17 : decode cX3_hasTimeFor 17 = .ok (.iload_n 1, 1) := by decide +kernel
theorem dX3_hasTimeFor_18 : decode cX3_hasTimeFor 18 = .ok (.aload_n 0, 1) := by decide +kernel
theorem dX3_hasTimeFor_19 : decode cX3_hasTimeFor 19 = .ok (.getfield 22, 3) := by decide +kernel
theorem dX3_hasTimeFor_22 : decode cX3_hasTimeFor 22 = .ok (.isub, 1) := by decide +kernel
theorem dX3_hasTimeFor_23 : decode cX3_hasTimeFor 23 = .ok (.invokestatic 34, 3) := by decide +kernel
theorem dX3_hasTimeFor_26 : decode cX3_hasTimeFor 26 = .ok (.iadd, 1) := by decide +kernel
theorem dX3_hasTimeFor_27 : decode cX3_hasTimeFor 27 = .ok (.aload_n 0, 1) := by decide +kernel
theorem dX3_hasTimeFor_28 : decode cX3_hasTimeFor 28 = .ok (.getfield 28, 3) := by decide +kernel
theorem dX3_hasTimeFor_31 : decode cX3_hasTimeFor 31 = .ok (.if_icmp .gt 7, 3) := by decide +kernel
theorem dX3_hasTimeFor_34 : decode cX3_hasTimeFor 34 = .ok (.iconst 1, 1) := by decide +kernel
theorem dX3_hasTimeFor_35 : decode cX3_hasTimeFor 35 = .ok (.goto 4, 3) := by decide +kernel
theorem dX3_hasTimeFor_38 : decode cX3_hasTimeFor 38 = .ok (.iconst 0, 1) := by decide +kernel
theorem dX3_hasTimeFor_39 : decode cX3_hasTimeFor 39 = .ok (.ireturn, 1) := by decide +kernel
theorem dX3_addToRound_0 : decode cX3_addToRound 0 = .ok (.aload_n 0, 1) := by decide +kernel
theorem dX3_addToRound_1 : decode cX3_addToRound 1 = .ok (.getfield 15, 3) := by decide +kernel
theorem dX3_addToRound_4 : decode cX3_addToRound 4 = .ok (.aload_n 0, 1) := by decide +kernel
theorem dX3_addToRound_5 : decode cX3_addToRound 5 = .ok (.getfield 9, 3) := by decide +kernel
theorem dX3_addToRound_8 : decode cX3_addToRound 8 = .ok (.arraylength, 1) := by decide +kernel
theorem dX3_addToRound_9 : decode cX3_addToRound 9 = .ok (.if_icmp .lt 4, 3) := by decide +kernel
theorem dX3_addToRound_12 : decode cX3_addToRound 12 = .ok (.return_, 1) := by decide +kernel
theorem dX3_addToRound_13 : decode cX3_addToRound 13 = .ok (.aload_n 0, 1) := by decide +kernel
theorem dX3_addToRound_14 : decode cX3_addToRound 14 = .ok (.getfield 9, 3) := by decide +kernel
theorem dX3_addToRound_17 : decode cX3_addToRound 17 = .ok (.aload_n 0, 1) := by decide +kernel
theorem dX3_addToRound_18 : decode cX3_addToRound 18 = .ok (.getfield 15, 3) := by decide +kernel
theorem dX3_addToRound_21 : decode cX3_addToRound 21 = .ok (.iload_n 1, 1) := by decide +kernel
theorem dX3_addToRound_22 : decode cX3_addToRound 22 = .ok (.iastore, 1) := by decide +kernel
theorem dX3_addToRound_23 : decode cX3_addToRound 23 = .ok (.aload_n 0, 1) := by decide +kernel
theorem dX3_addToRound_24 : decode cX3_addToRound 24 = .ok (.dup, 1) := by decide +kernel
theorem dX3_addToRound_25 : decode cX3_addToRound 25 = .ok (.getfield 15, 3) := by decide +kernel
theorem dX3_addToRound_28 : decode cX3_addToRound 28 = .ok (.iconst 1, 1) := by decide +kernel
theorem dX3_addToRound_29 : decode cX3_addToRound 29 = .ok (.iadd, 1) := by decide +kernel
theorem dX3_addToRound_30 : decode cX3_addToRound 30 = .ok (.putfield 15, 3) := by decide +kernel
theorem dX3_addToRound_33 : decode cX3_addToRound 33 = .ok (.aload_n 0, 1) := by decide +kernel
theorem dX3_addToRound_34 : decode cX3_addToRound 34 = .ok (.dup, 1) := by decide +kernel
theorem dX3_addToRound_35 : decode cX3_addToRound 35 = .ok (.getfield 19, 3) := by decide +kernel
theorem dX3_addToRound_38 : decode cX3_addToRound 38 = .ok (.aload_n 0, 1) := by decide +kernel
theorem dX3_addToRound_39 : decode cX3_addToRound 39 = .ok (.iload_n 2, 1) := by decide +kernel
theorem dX3_addToRound_40 : decode cX3_addToRound 40 = .ok (.invokevirtual 40, 3) := by decide +kernel
theorem dX3_addToRound_43 : decode cX3_addToRound 43 = .ok (.bipush 30, 2) := by decide +kernel
theorem dX3_addToRound_45 : decode cX3_addToRound 45 = .ok (.iadd, 1) := by decide +kernel
theorem dX3_addToRound_46 : decode cX3_addToRound 46 = .ok (.iadd, 1) := by decide +kernel
theorem dX3_addToRound_47 : decode cX3_addToRound 47 = .ok (.putfield 19, 3) := by decide +kernel
theorem dX3_addToRound_50 : decode cX3_addToRound 50 = .ok (.aload_n 0, 1) := by decide +kernel
theorem dX3_addToRound_51 : decode cX3_addToRound 51 = .ok (.iload_n 2, 1) := by decide +kernel
theorem dX3_addToRound_52 : decode cX3_addToRound 52 = .ok (.putfield 31, 3) := by decide +kernel
theorem dX3_addToRound_55 : decode cX3_addToRound 55 = .ok (.return_, 1) := by decide +kernel
theorem dX3_minutesInAll_0 : decode cX3_minutesInAll 0 = .ok (.aload_n 0, 1) := by decide +kernel
theorem dX3_minutesInAll_1 : decode cX3_minutesInAll 1 = .ok (.getfield 19, 3) := by decide +kernel
theorem dX3_minutesInAll_4 : decode cX3_minutesInAll 4 = .ok (.aload_n 0, 1) := by decide +kernel
theorem dX3_minutesInAll_5 : decode cX3_minutesInAll 5 = .ok (.getfield 31, 3) := by decide +kernel
theorem dX3_minutesInAll_8 : decode cX3_minutesInAll 8 = .ok (.aload_n 0, 1) := by decide +kernel
theorem dX3_minutesInAll_9 : decode cX3_minutesInAll 9 = .ok (.getfield 22, 3) := by decide +kernel
theorem dX3_minutesInAll_12 : decode cX3_minutesInAll 12 = .ok (.isub, 1) := by decide +kernel
theorem dX3_minutesInAll_13 : decode cX3_minutesInAll 13 = .ok (.invokestatic 34, 3) := by decide +kernel
theorem dX3_minutesInAll_16 : decode cX3_minutesInAll 16 = .ok (.iadd, 1) := by decide +kernel
theorem dX3_minutesInAll_17 : decode cX3_minutesInAll 17 = .ok (.ireturn, 1) := by decide +kernel
theorem dX4_init_0 : decode cX4_init 0 = .ok (.aload_n 0, 1) := by decide +kernel
theorem dX4_init_1 : decode cX4_init 1 = .ok (.invokespecial 3, 3) := by decide +kernel
theorem dX4_init_4 : decode cX4_init 4 = .ok (.aload_n 0, 1) := by decide +kernel
theorem dX4_init_5 : decode cX4_init 5 = .ok (.bipush 24, 2) := by decide +kernel
theorem dX4_init_7 : decode cX4_init 7 = .ok (.newarray .boolean, 2) := by decide +kernel
theorem dX4_init_9 : decode cX4_init 9 = .ok (.putfield 9, 3) := by decide +kernel
theorem dX4_init_12 : decode cX4_init 12 = .ok (.aload_n 0, 1) := by decide +kernel
theorem dX4_init_13 : decode cX4_init 13 = .ok (.bipush 24, 2) := by decide +kernel
theorem dX4_init_15 : decode cX4_init 15 = .ok (.newarray .int, 2) := by decide +kernel
theorem dX4_init_17 : decode cX4_init 17 = .ok (.putfield 15, 3) := by decide +kernel
theorem dX4_init_20 : decode cX4_init 20 = .ok (.aload_n 0, 1) := by decide +kernel
theorem dX4_init_21 : decode cX4_init 21 = .ok (.bipush 24, 2) := by decide +kernel
theorem dX4_init_23 : decode cX4_init 23 = .ok (.newarray .int, 2) := by decide +kernel
theorem dX4_init_25 : decode cX4_init 25 = .ok (.putfield 19, 3) := by decide +kernel
theorem dX4_init_28 : decode cX4_init 28 = .ok (.aload_n 0, 1) := by decide +kernel
theorem dX4_init_29 : decode cX4_init 29 = .ok (.bipush 24, 2) := by decide +kernel
theorem dX4_init_31 : decode cX4_init 31 = .ok (.newarray .int, 2) := by decide +kernel
theorem dX4_init_33 : decode cX4_init 33 = .ok (.putfield 22, 3) := by decide +kernel
theorem dX4_init_36 : decode cX4_init 36 = .ok (.aload_n 0, 1) := by decide +kernel
theorem dX4_init_37 : decode cX4_init 37 = .ok (.iconst 4, 1) := by decide +kernel
theorem dX4_init_38 : decode cX4_init 38 = .ok (.newarray .int, 2) := by decide +kernel
theorem dX4_init_40 : decode cX4_init 40 = .ok (.putfield 25, 3) := by decide +kernel
theorem dX4_init_43 : decode cX4_init 43 = .ok (.return_, 1) := by decide +kernel
theorem dX4_clear_0 : decode cX4_clear 0 = .ok (.iconst 0, 1) := by decide +kernel
theorem dX4_clear_1 : decode cX4_clear 1 = .ok (.istore_n 1, 1) := by decide +kernel
theorem dX4_clear_2 : decode cX4_clear 2 = .ok (.iload_n 1, 1) := by decide +kernel
theorem dX4_clear_3 : decode cX4_clear 3 = .ok (.aload_n 0, 1) := by decide +kernel
theorem dX4_clear_4 : decode cX4_clear 4 = .ok (.getfield 9, 3) := by decide +kernel
theorem dX4_clear_7 : decode cX4_clear 7 = .ok (.arraylength, 1) := by decide +kernel
theorem dX4_clear_8 : decode cX4_clear 8 = .ok (.if_icmp .ge 16, 3) := by decide +kernel
theorem dX4_clear_11 : decode cX4_clear 11 = .ok (.aload_n 0, 1) := by decide +kernel
theorem dX4_clear_12 : decode cX4_clear 12 = .ok (.getfield 9, 3) := by decide +kernel
theorem dX4_clear_15 : decode cX4_clear 15 = .ok (.iload_n 1, 1) := by decide +kernel
theorem dX4_clear_16 : decode cX4_clear 16 = .ok (.iconst 0, 1) := by decide +kernel
theorem dX4_clear_17 : decode cX4_clear 17 = .ok (.bastore, 1) := by decide +kernel
theorem dX4_clear_18 : decode cX4_clear 18 = .ok (.iinc 1 1, 3) := by decide +kernel
theorem dX4_clear_21 : decode cX4_clear 21 = .ok (.goto (-19), 3) := by decide +kernel
theorem dX4_clear_24 : decode cX4_clear 24 = .ok (.iconst 0, 1) := by decide +kernel
theorem dX4_clear_25 : decode cX4_clear 25 = .ok (.istore_n 1, 1) := by decide +kernel
theorem dX4_clear_26 : decode cX4_clear 26 = .ok (.iload_n 1, 1) := by decide +kernel
theorem dX4_clear_27 : decode cX4_clear 27 = .ok (.aload_n 0, 1) := by decide +kernel
theorem dX4_clear_28 : decode cX4_clear 28 = .ok (.getfield 25, 3) := by decide +kernel
theorem dX4_clear_31 : decode cX4_clear 31 = .ok (.arraylength, 1) := by decide +kernel
theorem dX4_clear_32 : decode cX4_clear 32 = .ok (.if_icmp .ge 16, 3) := by decide +kernel
theorem dX4_clear_35 : decode cX4_clear 35 = .ok (.aload_n 0, 1) := by decide +kernel
theorem dX4_clear_36 : decode cX4_clear 36 = .ok (.getfield 25, 3) := by decide +kernel
theorem dX4_clear_39 : decode cX4_clear 39 = .ok (.iload_n 1, 1) := by decide +kernel
theorem dX4_clear_40 : decode cX4_clear 40 = .ok (.iconst 0, 1) := by decide +kernel
theorem dX4_clear_41 : decode cX4_clear 41 = .ok (.iastore, 1) := by decide +kernel
theorem dX4_clear_42 : decode cX4_clear 42 = .ok (.iinc 1 1, 3) := by decide +kernel
theorem dX4_clear_45 : decode cX4_clear 45 = .ok (.goto (-19), 3) := by decide +kernel
theorem dX4_clear_48 : decode cX4_clear 48 = .ok (.return_, 1) := by decide +kernel
theorem dX4_isBarred_0 : decode cX4_isBarred 0 = .ok (.aload_n 0, 1) := by decide +kernel
theorem dX4_isBarred_1 : decode cX4_isBarred 1 = .ok (.getfield 25, 3) := by decide +kernel
theorem dX4_isBarred_4 : decode cX4_isBarred 4 = .ok (.iload_n 1, 1) := by decide +kernel
theorem dX4_isBarred_5 : decode cX4_isBarred 5 = .ok (.iaload, 1) := by decide +kernel
theorem dX4_isBarred_6 : decode cX4_isBarred 6 = .ok (.iconst 2, 1) := by decide +kernel
theorem dX4_isBarred_7 : decode cX4_isBarred 7 = .ok (.if_icmp .lt 7, 3) := by decide +kernel
theorem dX4_isBarred_10 : decode cX4_isBarred 10 = .ok (.iconst 1, 1) := by decide +kernel
theorem dX4_isBarred_11 : decode cX4_isBarred 11 = .ok (.goto 4, 3) := by decide +kernel
theorem dX4_isBarred_14 : decode cX4_isBarred 14 = .ok (.iconst 0, 1) := by decide +kernel
theorem dX4_isBarred_15 : decode cX4_isBarred 15 = .ok (.ireturn, 1) := by decide +kernel
theorem dX4_take_0 : decode cX4_take 0 = .ok (.aload_n 0, 1) := by decide +kernel
theorem dX4_take_1 : decode cX4_take 1 = .ok (.getfield 9, 3) := by decide +kernel
theorem dX4_take_4 : decode cX4_take 4 = .ok (.iload_n 1, 1) := by decide +kernel
theorem dX4_take_5 : decode cX4_take 5 = .ok (.iconst 1, 1) := by decide +kernel
theorem dX4_take_6 : decode cX4_take 6 = .ok (.bastore, 1) := by decide +kernel
theorem dX4_take_7 : decode cX4_take 7 = .ok (.aload_n 0, 1) := by decide +kernel
theorem dX4_take_8 : decode cX4_take 8 = .ok (.getfield 15, 3) := by decide +kernel
theorem dX4_take_11 : decode cX4_take 11 = .ok (.iload_n 1, 1) := by decide +kernel
theorem dX4_take_12 : decode cX4_take 12 = .ok (.iload_n 3, 1) := by decide +kernel
theorem dX4_take_13 : decode cX4_take 13 = .ok (.iastore, 1) := by decide +kernel
theorem dX4_take_14 : decode cX4_take 14 = .ok (.aload_n 0, 1) := by decide +kernel
theorem dX4_take_15 : decode cX4_take 15 = .ok (.getfield 19, 3) := by decide +kernel
theorem dX4_take_18 : decode cX4_take 18 = .ok (.iload_n 1, 1) := by decide +kernel
theorem dX4_take_19 : decode cX4_take 19 = .ok (.iload_n 2, 1) := by decide +kernel
theorem dX4_take_20 : decode cX4_take 20 = .ok (.iastore, 1) := by decide +kernel
theorem dX4_take_21 : decode cX4_take 21 = .ok (.return_, 1) := by decide +kernel
theorem dX4_askAgain_0 : decode cX4_askAgain 0 = .ok (.aload_n 0, 1) := by decide +kernel
theorem dX4_askAgain_1 : decode cX4_askAgain 1 = .ok (.getfield 9, 3) := by decide +kernel
theorem dX4_askAgain_4 : decode cX4_askAgain 4 = .ok (.iload_n 1, 1) := by decide +kernel
theorem dX4_askAgain_5 : decode cX4_askAgain 5 = .ok (.baload, 1) := by decide +kernel
theorem dX4_askAgain_6 : decode cX4_askAgain 6 = .ok (.ifCond .eq 13, 3) := by decide +kernel
theorem dX4_askAgain_9 : decode cX4_askAgain 9 = .ok (.aload_n 0, 1) := by decide +kernel
theorem dX4_askAgain_10 : decode cX4_askAgain 10 = .ok (.getfield 15, 3) := by decide +kernel
theorem dX4_askAgain_13 : decode cX4_askAgain 13 = .ok (.iload_n 1, 1) := by decide +kernel
theorem dX4_askAgain_14 : decode cX4_askAgain 14 = .ok (.iaload, 1) := by decide +kernel
theorem dX4_askAgain_15 : decode cX4_askAgain 15 = .ok (.iload_n 2, 1) := by decide +kernel
theorem dX4_askAgain_16 : decode cX4_askAgain 16 = .ok (.if_icmp .ne 5, 3) := by decide +kernel
theorem dX4_askAgain_19 : decode cX4_askAgain 19 = .ok (.iconst 0, 1) := by decide +kernel
theorem dX4_askAgain_20 : decode cX4_askAgain 20 = .ok (.ireturn, 1) := by decide +kernel
theorem dX4_askAgain_21 : decode cX4_askAgain 21 = .ok (.aload_n 0, 1) := by decide +kernel
theorem dX4_askAgain_22 : decode cX4_askAgain 22 = .ok (.getfield 19, 3) := by decide +kernel
theorem dX4_askAgain_25 : decode cX4_askAgain 25 = .ok (.iload_n 1, 1) := by decide +kernel
theorem dX4_askAgain_26 : decode cX4_askAgain 26 = .ok (.iaload, 1) := by decide +kernel
theorem dX4_askAgain_27 : decode cX4_askAgain 27 = .ok (.istore_n 3, 1) := by decide +kernel
theorem dX4_askAgain_28 : decode cX4_askAgain 28 = .ok (.aload_n 0, 1) := by decide +kernel
theorem dX4_askAgain_29 : decode cX4_askAgain 29 = .ok (.getfield 25, 3) := by decide +kernel
theorem dX4_askAgain_32 : decode cX4_askAgain 32 = .ok (.iload_n 3, 1) := by decide +kernel
theorem dX4_askAgain_33 : decode cX4_askAgain 33 = .ok (.dup2, 1) := by decide +kernel
theorem dX4_askAgain_34 : decode cX4_askAgain 34 = .ok (.iaload, 1) := by decide +kernel
theorem dX4_askAgain_35 : decode cX4_askAgain 35 = .ok (.iconst 1, 1) := by decide +kernel
theorem dX4_askAgain_36 : decode cX4_askAgain 36 = .ok (.iadd, 1) := by decide +kernel
theorem dX4_askAgain_37 : decode cX4_askAgain 37 = .ok (.iastore, 1) := by decide +kernel
theorem dX4_askAgain_38 : decode cX4_askAgain 38 = .ok (.aload_n 0, 1) := by decide +kernel
theorem dX4_askAgain_39 : decode cX4_askAgain 39 = .ok (.iload_n 3, 1) := by decide +kernel
theorem dX4_askAgain_40 : decode cX4_askAgain 40 = .ok (.invokevirtual 28, 3) := by decide +kernel
theorem dX4_askAgain_43 : decode cX4_askAgain 43 = .ok (.ifCond .ne 5, 3) := by decide +kernel
theorem dX4_askAgain_46 : decode cX4_askAgain 46 = .ok (.iconst 0, 1) := by decide +kernel
theorem dX4_askAgain_47 : decode cX4_askAgain 47 = .ok (.ireturn, 1) := by decide +kernel
theorem dX4_askAgain_48 : decode cX4_askAgain 48 = .ok (.aload_n 0, 1) := by decide +kernel
theorem dX4_askAgain_49 : decode cX4_askAgain 49 = .ok (.iload_n 3, 1) := by decide +kernel
theorem dX4_askAgain_50 : decode cX4_askAgain 50 = .ok (.invokevirtual 32, 3) := by decide +kernel
theorem dX4_askAgain_53 : decode cX4_askAgain 53 = .ok (.iconst 1, 1) := by decide +kernel
theorem dX4_askAgain_54 : decode cX4_askAgain 54 = .ok (.ireturn, 1) := by decide +kernel
theorem dX4_dropAnswersTo_0 : decode cX4_dropAnswersTo 0 = .ok (.iconst 0, 1) := by decide +kernel
theorem dX4_dropAnswersTo_1 : decode cX4_dropAnswersTo 1 = .ok (.istore_n 2, 1) := by decide +kernel
theorem dX4_dropAnswersTo_2 : decode cX4_dropAnswersTo 2 = .ok (.iload_n 2, 1) := by decide +kernel
theorem dX4_dropAnswersTo_3 : decode cX4_dropAnswersTo 3 = .ok (.aload_n 0, 1) := by decide +kernel
theorem dX4_dropAnswersTo_4 : decode cX4_dropAnswersTo 4 = .ok (.getfield 9, 3) := by decide +kernel
theorem dX4_dropAnswersTo_7 : decode cX4_dropAnswersTo 7 = .ok (.arraylength, 1) := by decide +kernel
theorem dX4_dropAnswersTo_8 : decode cX4_dropAnswersTo 8 = .ok (.if_icmp .ge 26, 3) := by decide +kernel
theorem dX4_dropAnswersTo_11 : decode cX4_dropAnswersTo 11 = .ok (.aload_n 0, 1) := by decide +kernel
theorem dX4_dropAnswersTo_12 : decode cX4_dropAnswersTo 12 = .ok (.getfield 19, 3) := by decide +kernel
theorem dX4_dropAnswersTo_15 : decode cX4_dropAnswersTo 15 = .ok (.iload_n 2, 1) := by decide +kernel
theorem dX4_dropAnswersTo_16 : decode cX4_dropAnswersTo 16 = .ok (.iaload, 1) := by decide +kernel
theorem dX4_dropAnswersTo_17 : decode cX4_dropAnswersTo 17 = .ok (.iload_n 1, 1) := by decide +kernel
theorem dX4_dropAnswersTo_18 : decode cX4_dropAnswersTo 18 = .ok (.if_icmp .ne 10, 3) := by decide +kernel
theorem dX4_dropAnswersTo_21 : decode cX4_dropAnswersTo 21 = .ok (.aload_n 0, 1) := by decide +kernel
theorem dX4_dropAnswersTo_22 : decode cX4_dropAnswersTo 22 = .ok (.getfield 9, 3) := by decide +kernel
theorem dX4_dropAnswersTo_25 : decode cX4_dropAnswersTo 25 = .ok (.iload_n 2, 1) := by decide +kernel
theorem dX4_dropAnswersTo_26 : decode cX4_dropAnswersTo 26 = .ok (.iconst 0, 1) := by decide +kernel
theorem dX4_dropAnswersTo_27 : decode cX4_dropAnswersTo 27 = .ok (.bastore, 1) := by decide +kernel
theorem dX4_dropAnswersTo_28 : decode cX4_dropAnswersTo 28 = .ok (.iinc 2 1, 3) := by decide +kernel
theorem dX4_dropAnswersTo_31 : decode cX4_dropAnswersTo 31 = .ok (.goto (-29), 3) := by decide +kernel
theorem dX4_dropAnswersTo_34 : decode cX4_dropAnswersTo 34 = .ok (.return_, 1) := by decide +kernel
theorem dX4_fitTo_0 : decode cX4_fitTo 0 = .ok (.iconst 0, 1) := by decide +kernel
theorem dX4_fitTo_1 : decode cX4_fitTo 1 = .ok (.istore_n 2, 1) := by decide +kernel
theorem dX4_fitTo_2 : decode cX4_fitTo 2 = .ok (.iload_n 2, 1) := by decide +kernel
theorem dX4_fitTo_3 : decode cX4_fitTo 3 = .ok (.aload_n 0, 1) := by decide +kernel
theorem dX4_fitTo_4 : decode cX4_fitTo 4 = .ok (.getfield 22, 3) := by decide +kernel
theorem dX4_fitTo_7 : decode cX4_fitTo 7 = .ok (.arraylength, 1) := by decide +kernel
theorem dX4_fitTo_8 : decode cX4_fitTo 8 = .ok (.if_icmp .ge 31, 3) := by decide +kernel
theorem dX4_fitTo_11 : decode cX4_fitTo 11 = .ok (.aload_n 0, 1) := by decide +kernel
theorem dX4_fitTo_12 : decode cX4_fitTo 12 = .ok (.getfield 22, 3) := by decide +kernel
theorem dX4_fitTo_15 : decode cX4_fitTo 15 = .ok (.iload_n 2, 1) := by decide +kernel
theorem dX4_fitTo_16 : decode cX4_fitTo 16 = .ok (.aload_n 0, 1) := by decide +kernel
theorem dX4_fitTo_17 : decode cX4_fitTo 17 = .ok (.getfield 9, 3) := by decide +kernel
theorem dX4_fitTo_20 : decode cX4_fitTo 20 = .ok (.iload_n 2, 1) := by decide +kernel
theorem dX4_fitTo_21 : decode cX4_fitTo 21 = .ok (.baload, 1) := by decide +kernel
theorem dX4_fitTo_22 : decode cX4_fitTo 22 = .ok (.ifCond .eq 9, 3) := by decide +kernel
theorem dX4_fitTo_25 : decode cX4_fitTo 25 = .ok (.sipush 1000, 3) := by decide +kernel
theorem dX4_fitTo_28 : decode cX4_fitTo 28 = .ok (.goto 4, 3) := by decide +kernel
theorem dX4_fitTo_31 : decode cX4_fitTo 31 = .ok (.iconst 0, 1) := by decide +kernel
theorem dX4_fitTo_32 : decode cX4_fitTo 32 = .ok (.iastore, 1) := by decide +kernel
theorem dX4_fitTo_33 : decode cX4_fitTo 33 = .ok (.iinc 2 1, 3) := by decide +kernel
theorem dX4_fitTo_36 : decode cX4_fitTo 36 = .ok (.goto (-34), 3) := by decide +kernel
theorem dX4_fitTo_39 : decode cX4_fitTo 39 = .ok (.iconst 0, 1) := by decide +kernel
theorem dX4_fitTo_40 : decode cX4_fitTo 40 = .ok (.istore_n 2, 1) := by decide +kernel
theorem dX4_fitTo_41 : decode cX4_fitTo 41 = .ok (.iload_n 2, 1) := by decide +kernel
theorem dX4_fitTo_42 : decode cX4_fitTo 42 = .ok (.iconst 3, 1) := by decide +kernel
theorem dX4_fitTo_43 : decode cX4_fitTo 43 = .ok (.if_icmp .ge 41, 3) := by decide +kernel
theorem dX4_fitTo_46 : decode cX4_fitTo 46 = .ok (.aload_n 0, 1) := by decide +kernel
theorem dX4_fitTo_47 : decode cX4_fitTo 47 = .ok (.aload_n 1, 1) := by decide +kernel
theorem dX4_fitTo_48 : decode cX4_fitTo 48 = .ok (.getfield 36, 3) := by decide +kernel
theorem dX4_fitTo_51 : decode cX4_fitTo 51 = .ok (.aload_n 1, 1) := by decide +kernel
theorem dX4_fitTo_52 : decode cX4_fitTo 52 = .ok (.getfield 41, 3) := by decide +kernel
theorem dX4_fitTo_55 : decode cX4_fitTo 55 = .ok (.aload_n 1, 1) := by decide +kernel
theorem dX4_fitTo_56 : decode cX4_fitTo 56 = .ok (.getfield 44, 3) := by decide +kernel
theorem dX4_fitTo_59 : decode cX4_fitTo 59 = .ok (.invokevirtual 48, 3) := by decide +kernel
theorem dX4_fitTo_62 : decode cX4_fitTo 62 = .ok (.aload_n 0, 1) := by decide +kernel
theorem dX4_fitTo_63 : decode cX4_fitTo 63 = .ok (.aload_n 1, 1) := by decide +kernel
theorem dX4_fitTo_64 : decode cX4_fitTo 64 = .ok (.getfield 52, 3) := by decide +kernel
theorem dX4_fitTo_67 : decode cX4_fitTo 67 = .ok (.aload_n 1, 1) := by decide +kernel
theorem dX4_fitTo_68 : decode cX4_fitTo 68 = .ok (.getfield 55, 3) := by decide +kernel
theorem dX4_fitTo_71 : decode cX4_fitTo 71 = .ok (.aload_n 1, 1) := by decide +kernel
theorem dX4_fitTo_72 : decode cX4_fitTo 72 = .ok (.getfield 44, 3) := by decide +kernel
theorem dX4_fitTo_75 : decode cX4_fitTo 75 = .ok (.invokevirtual 48, 3) := by decide +kernel
theorem dX4_fitTo_78 : decode cX4_fitTo 78 = .ok (.iinc 2 1, 3) := by decide +kernel
theorem dX4_fitTo_81 : decode cX4_fitTo 81 = .ok (.goto (-40), 3) := by decide +kernel
theorem dX4_fitTo_84 : decode cX4_fitTo 84 = .ok (.aload_n 0, 1) := by decide +kernel
theorem dX4_fitTo_85 : decode cX4_fitTo 85 = .ok (.aload_n 1, 1) := by decide +kernel
theorem dX4_fitTo_86 : decode cX4_fitTo 86 = .ok (.getfield 36, 3) := by decide +kernel
theorem dX4_fitTo_89 : decode cX4_fitTo 89 = .ok (.aload_n 1, 1) := by decide +kernel
theorem dX4_fitTo_90 : decode cX4_fitTo 90 = .ok (.getfield 41, 3) := by decide +kernel
theorem dX4_fitTo_93 : decode cX4_fitTo 93 = .ok (.aload_n 1, 1) := by decide +kernel
theorem dX4_fitTo_94 : decode cX4_fitTo 94 = .ok (.getfield 44, 3) := by decide +kernel
theorem dX4_fitTo_97 : decode cX4_fitTo 97 = .ok (.invokevirtual 48, 3) := by decide +kernel
theorem dX4_fitTo_100 : decode cX4_fitTo 100 = .ok (.return_, 1) := by decide +kernel
theorem dX4_fitGroups_0 : decode cX4_fitGroups 0 = .ok (.iconst 0, 1) := by decide +kernel
theorem dX4_fitGroups_1 : decode cX4_fitGroups 1 = .ok (.istore 4, 2) := by decide +kernel
theorem dX4_fitGroups_3 : decode cX4_fitGroups 3 = .ok (.iload 4, 2) := by decide +kernel
theorem dX4_fitGroups_5 : decode cX4_fitGroups 5 = .ok (.aload_n 2, 1) := by decide +kernel
theorem dX4_fitGroups_6 : decode cX4_fitGroups 6 = .ok (.arraylength, 1) := by decide +kernel
theorem dX4_fitGroups_7 : decode cX4_fitGroups 7 = .ok (.if_icmp .ge 38, 3) := by decide +kernel
theorem dX4_fitGroups_10 : decode cX4_fitGroups 10 = .ok (.aload_n 0, 1) := by decide +kernel
theorem dX4_fitGroups_11 : decode cX4_fitGroups 11 = .ok (.aload_n 1, 1) := by decide +kernel
theorem dX4_fitGroups_12 : decode cX4_fitGroups 12 = .ok (.iload 4, 2) := by decide +kernel
theorem dX4_fitGroups_14 : decode cX4_fitGroups 14 = .ok (.iload_n 3, 1) := by decide +kernel
theorem dX4_fitGroups_15 : decode cX4_fitGroups 15 = .ok (.invokevirtual 58, 3) := by decide +kernel
theorem dX4_fitGroups_18 : decode cX4_fitGroups 18 = .ok (.istore 5, 2) := by decide +kernel
theorem dX4_fitGroups_20 : decode cX4_fitGroups 20 = .ok (.iload 5, 2) := by decide +kernel
theorem dX4_fitGroups_22 : decode cX4_fitGroups 22 = .ok (.ifCond .le 17, 3) := by decide +kernel
theorem dX4_fitGroups_25 : decode cX4_fitGroups 25 = .ok (.aload_n 0, 1) := by decide +kernel
theorem dX4_fitGroups_26 : decode cX4_fitGroups 26 = .ok (.aload_n 1, 1) := by decide +kernel
theorem dX4_fitGroups_27 : decode cX4_fitGroups 27 = .ok (.iload 4, 2) := by decide +kernel
theorem dX4_fitGroups_29 : decode cX4_fitGroups 29 = .ok (.aload_n 2, 1) := by decide +kernel
theorem dX4_fitGroups_30 : decode cX4_fitGroups 30 = .ok (.iload 4, 2) := by decide +kernel
theorem dX4_fitGroups_32 : decode cX4_fitGroups 32 = .ok (.iaload, 1) := by decide +kernel
theorem dX4_fitGroups_33 : decode cX4_fitGroups 33 = .ok (.iload_n 3, 1) := by decide +kernel
theorem dX4_fitGroups_34 : decode cX4_fitGroups 34 = .ok (.iload 5, 2) := by decide +kernel
theorem dX4_fitGroups_36 : decode cX4_fitGroups 36 = .ok (.invokevirtual 62, 3) := by decide +kernel
theorem dX4_fitGroups_39 : decode cX4_fitGroups 39 = .ok (.iinc 4 1, 3) := by decide +kernel
theorem dX4_fitGroups_42 : decode cX4_fitGroups 42 = .ok (.goto (-39), 3) := by decide +kernel
theorem dX4_fitGroups_45 : decode cX4_fitGroups 45 = .ok (.return_, 1) := by decide +kernel
theorem dX4_fitGroup_0 : decode cX4_fitGroup 0 = .ok (.aload_n 0, 1) := by decide +kernel
theorem dX4_fitGroup_1 : decode cX4_fitGroup 1 = .ok (.aload_n 1, 1) := by decide +kernel
theorem dX4_fitGroup_2 : decode cX4_fitGroup 2 = .ok (.iload_n 2, 1) := by decide +kernel
theorem dX4_fitGroup_3 : decode cX4_fitGroup 3 = .ok (.iload 4, 2) := by decide +kernel
theorem dX4_fitGroup_5 : decode cX4_fitGroup 5 = .ok (.invokevirtual 66, 3) := by decide +kernel
theorem dX4_fitGroup_8 : decode cX4_fitGroup 8 = .ok (.istore 6, 2) := by decide +kernel
theorem dX4_fitGroup_10 : decode cX4_fitGroup 10 = .ok (.iload 6, 2) := by decide +kernel
theorem dX4_fitGroup_12 : decode cX4_fitGroup 12 = .ok (.ifCond .gt 7, 3) := by decide +kernel
theorem dX4_fitGroup_15 : decode cX4_fitGroup 15 = .ok (.iconst 1, 1) := by decide +kernel
theorem dX4_fitGroup_16 : decode cX4_fitGroup 16 = .ok (.goto 4, 3) := by decide +kernel
theorem dX4_fitGroup_19 : decode cX4_fitGroup 19 = .ok (.iconst 0, 1) := by decide +kernel
theorem dX4_fitGroup_20 : decode cX4_fitGroup 20 = .ok (.istore 7, 2) := by decide +kernel
theorem dX4_fitGroup_22 : decode cX4_fitGroup 22 = .ok (.iload 7, 2) := by decide +kernel
theorem dX4_fitGroup_24 : decode cX4_fitGroup 24 = .ok (.ifCond .eq 8, 3) := by decide +kernel
theorem dX4_fitGroup_27 : decode cX4_fitGroup 27 = .ok (.iload 5, 2) := by decide +kernel
theorem dX4_fitGroup_29 : decode cX4_fitGroup 29 = .ok (.goto 5, 3) := by decide +kernel
theorem dX4_fitGroup_32 : decode cX4_fitGroup 32 = .ok (.iload 6, 2) := by decide +kernel
theorem dX4_fitGroup_34 : decode cX4_fitGroup 34 = .ok (.istore 8, 2) := by decide +kernel
theorem dX4_fitGroup_36 : decode cX4_fitGroup 36 = .ok (.iload 8, 2) := by decide +kernel
theorem dX4_fitGroup_38 : decode cX4_fitGroup 38 = .ok (.ifCond .gt 4, 3) := by decide +kernel
theorem dX4_fitGroup_41 : decode cX4_fitGroup 41 = .ok (.return_, 1) := by decide +kernel
theorem dX4_fitGroup_42 : decode cX4_fitGroup 42 = .ok (.iload_n 3, 1) := by decide +kernel
theorem dX4_fitGroup_43 : decode cX4_fitGroup 43 = .ok (.istore 9, 2) := by decide +kernel
theorem dX4_fitGroup_45 : decode cX4_fitGroup 45 = .ok (.iconst 0, 1) := by decide +kernel
theorem dX4_fitGroup_46 : decode cX4_fitGroup 46 = .ok (.istore 10, 2) := by decide +kernel
theorem dX4_fitGroup_48 : decode cX4_fitGroup 48 = .ok (.iload 10, 2) := by decide +kernel
theorem dX4_fitGroup_50 : decode cX4_fitGroup 50 = .ok (.iload 4, 2) := by decide +kernel
theorem dX4_fitGroup_52 : decode cX4_fitGroup 52 = .ok (.if_icmp .ge 60, 3) := by decide +kernel
theorem dX4_fitGroup_55 : decode cX4_fitGroup 55 = .ok (.aload_n 0, 1) := by decide +kernel
theorem dX4_fitGroup_56 : decode cX4_fitGroup 56 = .ok (.aload_n 1, 1) := by decide +kernel
theorem dX4_fitGroup_57 : decode cX4_fitGroup 57 = .ok (.iload_n 2, 1) := by decide +kernel
theorem dX4_fitGroup_58 : decode cX4_fitGroup 58 = .ok (.iload 10, 2) := by decide +kernel
theorem dX4_fitGroup_60 : decode cX4_fitGroup 60 = .ok (.invokevirtual 69, 3) := by decide +kernel
theorem dX4_fitGroup_63 : decode cX4_fitGroup 63 = .ok (.ifCond .eq 43, 3) := by decide +kernel
theorem dX4_fitGroup_66 : decode cX4_fitGroup 66 = .ok (.aload_n 0, 1) := by decide +kernel
theorem dX4_fitGroup_67 : decode cX4_fitGroup 67 = .ok (.getfield 22, 3) := by decide +kernel
theorem dX4_fitGroup_70 : decode cX4_fitGroup 70 = .ok (.iload 10, 2) := by decide +kernel
theorem dX4_fitGroup_72 : decode cX4_fitGroup 72 = .ok (.iload 7, 2) := by decide +kernel
theorem dX4_fitGroup_74 : decode cX4_fitGroup 74 = .ok (.ifCond .eq 7, 3) := by decide +kernel
theorem dX4_fitGroup_77 : decode cX4_fitGroup 77 = .ok (.iconst 1, 1) := by decide +kernel
theorem dX4_fitGroup_78 : decode cX4_fitGroup 78 = .ok (.goto 10, 3) := by decide +kernel
theorem dX4_fitGroup_81 : decode cX4_fitGroup 81 = .ok (.aload_n 0, 1) := by decide +kernel
theorem dX4_fitGroup_82 : decode cX4_fitGroup 82 = .ok (.getfield 22, 3) := by decide +kernel
theorem dX4_fitGroup_85 : decode cX4_fitGroup 85 = .ok (.iload 10, 2) := by decide +kernel
theorem dX4_fitGroup_87 : decode cX4_fitGroup 87 = .ok (.iaload, 1) := by decide +kernel
theorem dX4_fitGroup_88 : decode cX4_fitGroup 88 = .ok (.iload_n 3, 1) := by decide +kernel
theorem dX4_fitGroup_89 : decode cX4_fitGroup 89 = .ok (.imul, 1) := by decide +kernel
theorem dX4_fitGroup_90 : decode cX4_fitGroup 90 = .ok (.iload 8, 2) := by decide +kernel
theorem dX4_fitGroup_92 : decode cX4_fitGroup 92 = .ok (.idiv, 1) := by decide +kernel
theorem dX4_fitGroup_93 : decode cX4_fitGroup 93 = .ok (.iastore, 1) := by decide +kernel
theorem dX4_fitGroup_94 : decode cX4_fitGroup 94 = .ok (.iload 9, 2) := by decide +kernel
theorem dX4_fitGroup_96 : decode cX4_fitGroup 96 = .ok (.aload_n 0, 1) := by decide +kernel
theorem dX4_fitGroup_97 : decode cX4_fitGroup 97 = .ok (.getfield 22, 3) := by decide +kernel
theorem dX4_fitGroup_100 : decode cX4_fitGroup 100 = .ok (.iload 10, 2) := by decide +kernel
theorem dX4_fitGroup_102 : decode cX4_fitGroup 102 = .ok (.iaload, 1) := by decide +kernel
theorem dX4_fitGroup_103 : decode cX4_fitGroup 103 = .ok (.isub, 1) := by decide +kernel
theorem dX4_fitGroup_104 : decode cX4_fitGroup 104 = .ok (.istore 9, 2) := by decide +kernel
theorem dX4_fitGroup_106 : decode cX4_fitGroup 106 = .ok (.iinc 10 1, 3) := by decide +kernel
theorem dX4_fitGroup_109 : decode cX4_fitGroup 109 = .ok (.goto (-61), 3) := by decide +kernel
theorem dX4_fitGroup_112 : decode cX4_fitGroup 112 = .ok (.aload_n 0, 1) := by decide +kernel
theorem dX4_fitGroup_113 : decode cX4_fitGroup 113 = .ok (.aload_n 1, 1) := by decide +kernel
theorem dX4_fitGroup_114 : decode cX4_fitGroup 114 = .ok (.iload_n 2, 1) := by decide +kernel
theorem dX4_fitGroup_115 : decode cX4_fitGroup 115 = .ok (.iload 4, 2) := by decide +kernel
theorem dX4_fitGroup_117 : decode cX4_fitGroup 117 = .ok (.iload 9, 2) := by decide +kernel
theorem dX4_fitGroup_119 : decode cX4_fitGroup 119 = .ok (.invokevirtual 73, 3) := by decide +kernel
theorem dX4_fitGroup_122 : decode cX4_fitGroup 122 = .ok (.return_, 1) := by decide +kernel
theorem dX4_spreadMissing_0 : decode cX4_spreadMissing 0 = .ok (.iload 4, 2) := by decide +kernel
theorem dX4_spreadMissing_2 : decode cX4_spreadMissing 2 = .ok (.istore 5, 2) := by decide +kernel
theorem dX4_spreadMissing_4 : decode cX4_spreadMissing 4 = .ok (.iconst 0, 1) := by decide +kernel
theorem dX4_spreadMissing_5 : decode cX4_spreadMissing 5 = .ok (.istore 6, 2) := by decide +kernel
theorem dX4_spreadMissing_7 : decode cX4_spreadMissing 7 = .ok (.iload 6, 2) := by decide +kernel
theorem dX4_spreadMissing_9 : decode cX4_spreadMissing 9 = .ok (.iload_n 3, 1) := by decide +kernel
theorem dX4_spreadMissing_10 : decode cX4_spreadMissing 10 = .ok (.if_icmp .ge 39, 3) := by decide +kernel
theorem dX4_spreadMissing_13 : decode cX4_spreadMissing 13 = .ok (.iload 5, 2) := by decide +kernel
theorem dX4_spreadMissing_15 : decode cX4_spreadMissing 15 = .ok (.ifCond .le 34, 3) := by decide +kernel
theorem dX4_spreadMissing_18 : decode cX4_spreadMissing 18 = .ok (.aload_n 0, 1) := by decide +kernel
theorem dX4_spreadMissing_19 : decode cX4_spreadMissing 19 = .ok (.aload_n 1, 1) := by decide +kernel
theorem dX4_spreadMissing_20 : decode cX4_spreadMissing 20 = .ok (.iload_n 2, 1) := by decide +kernel
theorem dX4_spreadMissing_21 : decode cX4_spreadMissing 21 = .ok (.iload 6, 2) := by decide +kernel
theorem dX4_spreadMissing_23 : decode cX4_spreadMissing 23 = .ok (.invokevirtual 69, 3) := by decide +kernel
theorem dX4_spreadMissing_26 : decode cX4_spreadMissing 26 = .ok (.ifCond .eq 17, 3) := by decide +kernel
theorem dX4_spreadMissing_29 : decode cX4_spreadMissing 29 = .ok (.aload_n 0, 1) := by decide +kernel
theorem dX4_spreadMissing_30 : decode cX4_spreadMissing 30 = .ok (.getfield 22, 3) := by decide +kernel
theorem dX4_spreadMissing_33 : decode cX4_spreadMissing 33 = .ok (.iload 6, 2) := by decide +kernel
theorem dX4_spreadMissing_35 : decode cX4_spreadMissing 35 = .ok (.dup2, 1) := by decide +kernel
theorem dX4_spreadMissing_36 : decode cX4_spreadMissing 36 = .ok (.iaload, 1) := by decide +kernel
theorem dX4_spreadMissing_37 : decode cX4_spreadMissing 37 = .ok (.iconst 1, 1) := by decide +kernel
theorem dX4_spreadMissing_38 : decode cX4_spreadMissing 38 = .ok (.iadd, 1) := by decide +kernel
theorem dX4_spreadMissing_39 : decode cX4_spreadMissing 39 = .ok (.iastore, 1) := by decide +kernel
theorem dX4_spreadMissing_40 : decode cX4_spreadMissing 40 = .ok (.iinc 5 (-1), 3) := by decide +kernel
theorem dX4_spreadMissing_43 : decode cX4_spreadMissing 43 = .ok (.iinc 6 1, 3) := by decide +kernel
theorem dX4_spreadMissing_46 : decode cX4_spreadMissing 46 = .ok (.goto (-39), 3) := by decide +kernel
theorem dX4_spreadMissing_49 : decode cX4_spreadMissing 49 = .ok (.return_, 1) := by decide +kernel
theorem dX4_isInGroup_0 : decode cX4_isInGroup 0 = .ok (.aload_n 0, 1) := by decide +kernel
theorem dX4_isInGroup_1 : decode cX4_isInGroup 1 = .ok (.getfield 9, 3) := by decide +kernel
theorem dX4_isInGroup_4 : decode cX4_isInGroup 4 = .ok (.iload_n 3, 1) := by decide +kernel
theorem dX4_isInGroup_5 : decode cX4_isInGroup 5 = .ok (.baload, 1) := by decide +kernel
theorem dX4_isInGroup_6 : decode cX4_isInGroup 6 = .ok (.ifCond .eq 14, 3) := by decide +kernel
theorem dX4_isInGroup_9 : decode cX4_isInGroup 9 = .ok (.aload_n 1, 1) := by decide +kernel
theorem dX4_isInGroup_10 : decode cX4_isInGroup 10 = .ok (.iload_n 3, 1) := by decide +kernel
theorem dX4_isInGroup_11 : decode cX4_isInGroup 11 = .ok (.iaload, 1) := by decide +kernel
theorem dX4_isInGroup_12 : decode cX4_isInGroup 12 = .ok (.iload_n 2, 1) := by decide +kernel
theorem dX4_isInGroup_13 : decode cX4_isInGroup 13 = .ok (.if_icmp .ne 7, 3) := by decide +kernel
theorem dX4_isInGroup_16 : decode cX4_isInGroup 16 = .ok (.iconst 1, 1) := by decide +kernel
theorem dX4_isInGroup_17 : decode cX4_isInGroup 17 = .ok (.goto 4, 3) := by decide +kernel
theorem dX4_isInGroup_20 : decode cX4_isInGroup 20 = .ok (.iconst 0, 1) := by decide +kernel
theorem dX4_isInGroup_21 : decode cX4_isInGroup 21 = .ok (.ireturn, 1) := by decide +kernel
theorem dX4_membersOfGroup_0 : decode cX4_membersOfGroup 0 = .ok (.iconst 0, 1) := by decide +kernel
theorem dX4_membersOfGroup_1 : decode cX4_membersOfGroup 1 = .ok (.istore 4, 2) := by decide +kernel
theorem dX4_membersOfGroup_3 : decode cX4_membersOfGroup 3 = .ok (.iconst 0, 1) := by decide +kernel
theorem dX4_membersOfGroup_4 : decode cX4_membersOfGroup 4 = .ok (.istore 5, 2) := by decide +kernel
theorem dX4_membersOfGroup_6 : decode cX4_membersOfGroup 6 = .ok (.iload 5, 2) := by decide +kernel
theorem dX4_membersOfGroup_8 : decode cX4_membersOfGroup 8 = .ok (.iload_n 3, 1) := by decide +kernel
theorem dX4_membersOfGroup_9 : decode cX4_membersOfGroup 9 = .ok (.if_icmp .ge 23, 3) := by decide +kernel
theorem dX4_membersOfGroup_12 : decode cX4_membersOfGroup 12 = .ok (.aload_n 0, 1) := by decide +kernel
theorem dX4_membersOfGroup_13 : decode cX4_membersOfGroup 13 = .ok (.aload_n 1, 1) := by decide +kernel
theorem dX4_membersOfGroup_14 : decode cX4_membersOfGroup 14 = .ok (.iload_n 2, 1) := by decide +kernel
theorem dX4_membersOfGroup_15 : decode cX4_membersOfGroup 15 = .ok (.iload 5, 2) := by decide +kernel
theorem dX4_membersOfGroup_17 : decode cX4_membersOfGroup 17 = .ok (.invokevirtual 69, 3) := by decide +kernel
theorem dX4_membersOfGroup_20 : decode cX4_membersOfGroup 20 = .ok (.ifCond .eq 6, 3) := by decide +kernel
theorem dX4_membersOfGroup_23 : decode cX4_membersOfGroup 23 = .ok (.iinc 4 1, 3) := by decide +kernel
theorem dX4_membersOfGroup_26 : decode cX4_membersOfGroup 26 = .ok (.iinc 5 1, 3) := by decide +kernel
theorem dX4_membersOfGroup_29 : decode cX4_membersOfGroup 29 = .ok (.goto (-23), 3) := by decide +kernel
theorem dX4_membersOfGroup_32 : decode cX4_membersOfGroup 32 = .ok (.iload 4, 2) := by decide +kernel
theorem dX4_membersOfGroup_34 : decode cX4_membersOfGroup 34 = .ok (.ireturn, 1) := by decide +kernel
theorem dX4_sumOfGroup_0 : decode cX4_sumOfGroup 0 = .ok (.iconst 0, 1) := by decide +kernel
theorem dX4_sumOfGroup_1 : decode cX4_sumOfGroup 1 = .ok (.istore 4, 2) := by decide +kernel
theorem dX4_sumOfGroup_3 : decode cX4_sumOfGroup 3 = .ok (.iconst 0, 1) := by decide +kernel
theorem dX4_sumOfGroup_4 : decode cX4_sumOfGroup 4 = .ok (.istore 5, 2) := by decide +kernel
theorem dX4_sumOfGroup_6 : decode cX4_sumOfGroup 6 = .ok (.iload 5, 2) := by decide +kernel
theorem dX4_sumOfGroup_8 : decode cX4_sumOfGroup 8 = .ok (.iload_n 3, 1) := by decide +kernel
theorem dX4_sumOfGroup_9 : decode cX4_sumOfGroup 9 = .ok (.if_icmp .ge 32, 3) := by decide +kernel
theorem dX4_sumOfGroup_12 : decode cX4_sumOfGroup 12 = .ok (.aload_n 0, 1) := by decide +kernel
theorem dX4_sumOfGroup_13 : decode cX4_sumOfGroup 13 = .ok (.aload_n 1, 1) := by decide +kernel
theorem dX4_sumOfGroup_14 : decode cX4_sumOfGroup 14 = .ok (.iload_n 2, 1) := by decide +kernel
theorem dX4_sumOfGroup_15 : decode cX4_sumOfGroup 15 = .ok (.iload 5, 2) := by decide +kernel
theorem dX4_sumOfGroup_17 : decode cX4_sumOfGroup 17 = .ok (.invokevirtual 69, 3) := by decide +kernel
theorem dX4_sumOfGroup_20 : decode cX4_sumOfGroup 20 = .ok (.ifCond .eq 15, 3) := by decide +kernel
theorem dX4_sumOfGroup_23 : decode cX4_sumOfGroup 23 = .ok (.iload 4, 2) := by decide +kernel
theorem dX4_sumOfGroup_25 : decode cX4_sumOfGroup 25 = .ok (.aload_n 0, 1) := by decide +kernel
theorem dX4_sumOfGroup_26 : decode cX4_sumOfGroup 26 = .ok (.getfield 22, 3) := by decide +kernel
theorem dX4_sumOfGroup_29 : decode cX4_sumOfGroup 29 = .ok (.iload 5, 2) := by decide +kernel
theorem dX4_sumOfGroup_31 : decode cX4_sumOfGroup 31 = .ok (.iaload, 1) := by decide +kernel
theorem dX4_sumOfGroup_32 : decode cX4_sumOfGroup 32 = .ok (.iadd, 1) := by decide +kernel
theorem dX4_sumOfGroup_33 : decode cX4_sumOfGroup 33 = .ok (.istore 4, 2) := by decide +kernel
theorem dX4_sumOfGroup_35 : decode cX4_sumOfGroup 35 = .ok (.iinc 5 1, 3) := by decide +kernel
theorem dX4_sumOfGroup_38 : decode cX4_sumOfGroup 38 = .ok (.goto (-32), 3) := by decide +kernel
theorem dX4_sumOfGroup_41 : decode cX4_sumOfGroup 41 = .ok (.iload 4, 2) := by decide +kernel
theorem dX4_sumOfGroup_43 : decode cX4_sumOfGroup 43 = .ok (.ireturn, 1) := by decide +kernel
theorem dX4_meetsStratumTargets_0 : decode cX4_meetsStratumTargets 0 = .ok (.iconst 0, 1) := by decide +kernel
theorem dX4_meetsStratumTargets_1 : decode cX4_meetsStratumTargets 1 = .ok (.istore_n 2, 1) := by decide +kernel
theorem dX4_meetsStratumTargets_2 : decode cX4_meetsStratumTargets 2 = .ok (.iload_n 2, 1) := by decide +kernel
theorem dX4_meetsStratumTargets_3 : decode cX4_meetsStratumTargets 3 = .ok (.aload_n 1, 1) := by decide +kernel
theorem dX4_meetsStratumTargets_4 : decode cX4_meetsStratumTargets 4 = .ok (.getfield 77, 3) := by decide +kernel
theorem dX4_meetsStratumTargets_7 : decode cX4_meetsStratumTargets 7 = .ok (.if_icmp .ge 49, 3) := by decide +kernel
theorem dX4_meetsStratumTargets_10 : decode cX4_meetsStratumTargets 10 = .ok (.aload_n 0, 1) := by decide +kernel
theorem dX4_meetsStratumTargets_11 : decode cX4_meetsStratumTargets 11 = .ok (.aload_n 1, 1) := by decide +kernel
theorem dX4_meetsStratumTargets_12 : decode cX4_meetsStratumTargets 12 = .ok (.getfield 36, 3) := by decide +kernel
theorem dX4_meetsStratumTargets_15 : decode cX4_meetsStratumTargets 15 = .ok (.iload_n 2, 1) := by decide +kernel
theorem dX4_meetsStratumTargets_16 : decode cX4_meetsStratumTargets 16 = .ok (.aload_n 1, 1) := by decide +kernel
theorem dX4_meetsStratumTargets_17 : decode cX4_meetsStratumTargets 17 = .ok (.getfield 44, 3) := by decide +kernel
theorem dX4_meetsStratumTargets_20 : decode cX4_meetsStratumTargets 20 = .ok (.invokevirtual 58, 3) := by decide +kernel
theorem dX4_meetsStratumTargets_23 : decode cX4_meetsStratumTargets 23 = .ok (.ifCond .le 27, 3) := by decide +kernel
theorem dX4_meetsStratumTargets_26 : decode cX4_meetsStratumTargets 26 = .ok (.aload_n 0, 1) := by decide +kernel
theorem dX4_meetsStratumTargets_27 : decode cX4_meetsStratumTargets 27 = .ok (.aload_n 1, 1) := by decide +kernel
theorem dX4_meetsStratumTargets_28 : decode cX4_meetsStratumTargets 28 = .ok (.getfield 36, 3) := by decide +kernel
theorem dX4_meetsStratumTargets_31 : decode cX4_meetsStratumTargets 31 = .ok (.iload_n 2, 1) := by decide +kernel
theorem dX4_meetsStratumTargets_32 : decode cX4_meetsStratumTargets 32 = .ok (.aload_n 1, 1) := by decide +kernel
theorem dX4_meetsStratumTargets_33 : decode cX4_meetsStratumTargets 33 = .ok (.getfield 44, 3) := by decide +kernel
theorem dX4_meetsStratumTargets_36 : decode cX4_meetsStratumTargets 36 = .ok (.invokevirtual 66, 3) := by decide +kernel
theorem dX4_meetsStratumTargets_39 : decode cX4_meetsStratumTargets 39 = .ok (.aload_n 1, 1) := by decide +kernel
theorem dX4_meetsStratumTargets_40 : decode cX4_meetsStratumTargets 40 = .ok (.getfield 41, 3) := by decide +kernel
theorem dX4_meetsStratumTargets_43 : decode cX4_meetsStratumTargets 43 = .ok (.iload_n 2, 1) := by decide +kernel
theorem dX4_meetsStratumTargets_44 : decode cX4_meetsStratumTargets 44 = .ok (.iaload, 1) := by decide +kernel
theorem dX4_meetsStratumTargets_45 : decode cX4_meetsStratumTargets 45 = .ok (.if_icmp .eq 5, 3) := by decide +kernel
theorem dX4_meetsStratumTargets_48 : decode cX4_meetsStratumTargets 48 = .ok (.iconst 0, 1) := by decide +kernel
theorem dX4_meetsStratumTargets_49 : decode cX4_meetsStratumTargets 49 = .ok (.ireturn, 1) := by decide +kernel
theorem dX4_meetsStratumTargets_50 : decode cX4_meetsStratumTargets 50 = .ok (.iinc 2 1, 3) := by decide +kernel
theorem dX4_meetsStratumTargets_53 : decode cX4_meetsStratumTargets 53 = .ok (.goto (-51), 3) := by decide +kernel
theorem dX4_meetsStratumTargets_56 : decode cX4_meetsStratumTargets 56 = .ok (.iconst 1, 1) := by decide +kernel
theorem dX4_meetsStratumTargets_57 : decode cX4_meetsStratumTargets 57 = .ok (.ireturn, 1) := by decide +kernel
theorem dX4_hasWeightsOf_0 : decode cX4_hasWeightsOf 0 = .ok (.iconst 0, 1) := by decide +kernel
theorem dX4_hasWeightsOf_1 : decode cX4_hasWeightsOf 1 = .ok (.istore_n 3, 1) := by decide +kernel
theorem dX4_hasWeightsOf_2 : decode cX4_hasWeightsOf 2 = .ok (.iload_n 3, 1) := by decide +kernel
theorem dX4_hasWeightsOf_3 : decode cX4_hasWeightsOf 3 = .ok (.iload_n 2, 1) := by decide +kernel
theorem dX4_hasWeightsOf_4 : decode cX4_hasWeightsOf 4 = .ok (.if_icmp .ge 35, 3) := by decide +kernel
theorem dX4_hasWeightsOf_7 : decode cX4_hasWeightsOf 7 = .ok (.aload_n 0, 1) := by decide +kernel
theorem dX4_hasWeightsOf_8 : decode cX4_hasWeightsOf 8 = .ok (.getfield 9, 3) := by decide +kernel
theorem dX4_hasWeightsOf_11 : decode cX4_hasWeightsOf 11 = .ok (.iload_n 3, 1) := by decide +kernel
theorem dX4_hasWeightsOf_12 : decode cX4_hasWeightsOf 12 = .ok (.baload, 1) := by decide +kernel
theorem dX4_hasWeightsOf_13 : decode cX4_hasWeightsOf 13 = .ok (.ifCond .eq 20, 3) := by decide +kernel
theorem dX4_hasWeightsOf_16 : decode cX4_hasWeightsOf 16 = .ok (.aload_n 0, 1) := by decide +kernel
theorem dX4_hasWeightsOf_17 : decode cX4_hasWeightsOf 17 = .ok (.getfield 22, 3) := by decide +kernel
theorem dX4_hasWeightsOf_20 : decode cX4_hasWeightsOf 20 = .ok (.iload_n 3, 1) := by decide +kernel
theorem dX4_hasWeightsOf_21 : decode cX4_hasWeightsOf 21 = .ok (.iaload, 1) := by decide +kernel
theorem dX4_hasWeightsOf_22 : decode cX4_hasWeightsOf 22 = .ok (.aload_n 1, 1) := by decide +kernel
theorem dX4_hasWeightsOf_23 : decode cX4_hasWeightsOf 23 = .ok (.getfield 22, 3) := by decide +kernel
theorem dX4_hasWeightsOf_26 : decode cX4_hasWeightsOf 26 = .ok (.iload_n 3, 1) := by decide +kernel
theorem dX4_hasWeightsOf_27 : decode cX4_hasWeightsOf 27 = .ok (.iaload, 1) := by decide +kernel
theorem dX4_hasWeightsOf_28 : decode cX4_hasWeightsOf 28 = .ok (.if_icmp .eq 5, 3) := by decide +kernel
theorem dX4_hasWeightsOf_31 : decode cX4_hasWeightsOf 31 = .ok (.iconst 0, 1) := by decide +kernel
theorem dX4_hasWeightsOf_32 : decode cX4_hasWeightsOf 32 = .ok (.ireturn, 1) := by decide +kernel
theorem dX4_hasWeightsOf_33 : decode cX4_hasWeightsOf 33 = .ok (.iinc 3 1, 3) := by decide +kernel
theorem dX4_hasWeightsOf_36 : decode cX4_hasWeightsOf 36 = .ok (.goto (-34), 3) := by decide +kernel
theorem dX4_hasWeightsOf_39 : decode cX4_hasWeightsOf 39 = .ok (.iconst 1, 1) := by decide +kernel
theorem dX4_hasWeightsOf_40 : decode cX4_hasWeightsOf 40 = .ok (.ireturn, 1) := by decide +kernel
theorem dX5_init_0 : decode cX5_init 0 = .ok (.aload_n 0, 1) := by decide +kernel
theorem dX5_init_1 : decode cX5_init 1 = .ok (.invokespecial 1, 3) := by decide +kernel
theorem dX5_init_4 : decode cX5_init 4 = .ok (.aload_n 0, 1) := by decide +kernel
theorem dX5_init_5 : decode cX5_init 5 = .ok (.new 7, 3) := by decide +kernel
theorem dX5_init_8 : decode cX5_init 8 = .ok (.dup, 1) := by decide +kernel
theorem dX5_init_9 : decode cX5_init 9 = .ok (.invokespecial 9, 3) := by decide +kernel
theorem dX5_init_12 : decode cX5_init 12 = .ok (.putfield 10, 3) := by decide +kernel
theorem dX5_init_15 : decode cX5_init 15 = .ok (.aload_n 0, 1) := by decide +kernel
theorem dX5_init_16 : decode cX5_init 16 = .ok (.bipush 24, 2) := by decide +kernel
theorem dX5_init_18 : decode cX5_init 18 = .ok (.anewarray 16, 3) := by decide +kernel
theorem dX5_init_21 : decode cX5_init 21 = .ok (.putfield 18, 3) := by decide +kernel
theorem dX5_init_24 : decode cX5_init 24 = .ok (.aload_n 0, 1) := by decide +kernel
theorem dX5_init_25 : decode cX5_init 25 = .ok (.iconst 4, 1) := by decide +kernel
theorem dX5_init_26 : decode cX5_init 26 = .ok (.anewarray 22, 3) := by decide +kernel
theorem dX5_init_29 : decode cX5_init 29 = .ok (.putfield 24, 3) := by decide +kernel
theorem dX5_init_32 : decode cX5_init 32 = .ok (.aload_n 0, 1) := by decide +kernel
theorem dX5_init_33 : decode cX5_init 33 = .ok (.new 28, 3) := by decide +kernel
theorem dX5_init_36 : decode cX5_init 36 = .ok (.dup, 1) := by decide +kernel
theorem dX5_init_37 : decode cX5_init 37 = .ok (.invokespecial 30, 3) := by decide +kernel
theorem dX5_init_40 : decode cX5_init 40 = .ok (.putfield 31, 3) := by decide +kernel
theorem dX5_init_43 : decode cX5_init 43 = .ok (.aload_n 0, 1) := by decide +kernel
theorem dX5_init_44 : decode cX5_init 44 = .ok (.new 28, 3) := by decide +kernel
theorem dX5_init_47 : decode cX5_init 47 = .ok (.dup, 1) := by decide +kernel
theorem dX5_init_48 : decode cX5_init 48 = .ok (.invokespecial 30, 3) := by decide +kernel
theorem dX5_init_51 : decode cX5_init 51 = .ok (.putfield 35, 3) := by decide +kernel
theorem dX5_init_54 : decode cX5_init 54 = .ok (.aload_n 0, 1) := by decide +kernel
theorem dX5_init_55 : decode cX5_init 55 = .ok (.new 38, 3) := by decide +kernel
theorem dX5_init_58 : decode cX5_init 58 = .ok (.dup, 1) := by decide +kernel
theorem dX5_init_59 : decode cX5_init 59 = .ok (.invokespecial 40, 3) := by decide +kernel
theorem dX5_init_62 : decode cX5_init 62 = .ok (.putfield 41, 3) := by decide +kernel
theorem dX5_init_65 : decode cX5_init 65 = .ok (.aload_n 0, 1) := by decide +kernel
theorem dX5_init_66 : decode cX5_init 66 = .ok (.iconst 0, 1) := by decide +kernel
theorem dX5_init_67 : decode cX5_init 67 = .ok (.putfield 45, 3) := by decide +kernel
theorem dX5_init_70 : decode cX5_init 70 = .ok (.aload_n 0, 1) := by decide +kernel
theorem dX5_init_71 : decode cX5_init 71 = .ok (.iconst 1, 1) := by decide +kernel
theorem dX5_init_72 : decode cX5_init 72 = .ok (.putfield 49, 3) := by decide +kernel
theorem dX5_init_75 : decode cX5_init 75 = .ok (.aload_n 0, 1) := by decide +kernel
theorem dX5_init_76 : decode cX5_init 76 = .ok (.iconst 0, 1) := by decide +kernel
theorem dX5_init_77 : decode cX5_init 77 = .ok (.putfield 52, 3) := by decide +kernel
theorem dX5_init_80 : decode cX5_init 80 = .ok (.return_, 1) := by decide +kernel
theorem dX5_setChance_0 : decode cX5_setChance 0 = .ok (.iload_n 1, 1) := by decide +kernel
theorem dX5_setChance_1 : decode cX5_setChance 1 = .ok (.ifCond .lt 9, 3) := by decide +kernel
theorem dX5_setChance_4 : decode cX5_setChance 4 = .ok (.iload_n 1, 1) := by decide +kernel
theorem dX5_setChance_5 : decode cX5_setChance 5 = .ok (.ldc 55, 2) := by decide +kernel
theorem dX5_setChance_7 : decode cX5_setChance 7 = .ok (.if_icmp .lt 13, 3) := by decide +kernel
theorem dX5_setChance_10 : decode cX5_setChance 10 = .ok (.new 56, 3) := by decide +kernel
theorem dX5_setChance_13 : decode cX5_setChance 13 = .ok (.dup, 1) := by decide +kernel
theorem dX5_setChance_14 : decode cX5_setChance 14 = .ok (.ldc 58, 2) := by decide +kernel
theorem dX5_setChance_16 : decode cX5_setChance 16 = .ok (.invokespecial 60, 3) := by decide +kernel
theorem dX5_setChance_19 : decode cX5_setChance 19 = .ok (.athrow, 1) := by decide +kernel
theorem dX5_setChance_20 : decode cX5_setChance 20 = .ok (.aload_n 0, 1) := by decide +kernel
theorem dX5_setChance_21 : decode cX5_setChance 21 = .ok (.getfield 49, 3) := by decide +kernel
theorem dX5_setChance_24 : decode cX5_setChance 24 = .ok (.istore_n 2, 1) := by decide +kernel
theorem dX5_setChance_25 : decode cX5_setChance 25 = .ok (.aload_n 0, 1) := by decide +kernel
theorem dX5_setChance_26 : decode cX5_setChance 26 = .ok (.iload_n 1, 1) := by decide +kernel
theorem dX5_setChance_27 : decode cX5_setChance 27 = .ok (.putfield 49, 3) := by decide +kernel
theorem dX5_setChance_30 : decode cX5_setChance 30 = .ok (.iload_n 2, 1) := by decide +kernel
theorem dX5_setChance_31 : decode cX5_setChance 31 = .ok (.ireturn, 1) := by decide +kernel
theorem dX5_addStratum_0 : decode cX5_addStratum 0 = .ok (.aload_n 0, 1) := by decide +kernel
theorem dX5_addStratum_1 : decode cX5_addStratum 1 = .ok (.getfield 10, 3) := by decide +kernel
theorem dX5_addStratum_4 : decode cX5_addStratum 4 = .ok (.getfield 63, 3) := by decide +kernel
theorem dX5_addStratum_7 : decode cX5_addStratum 7 = .ok (.iconst 4, 1) := by decide +kernel
theorem dX5_addStratum_8 : decode cX5_addStratum 8 = .ok (.if_icmp .lt 13, 3) := by decide +kernel
theorem dX5_addStratum_11 : decode cX5_addStratum 11 = .ok (.new 66, 3) := by decide +kernel
theorem dX5_addStratum_14 : decode cX5_addStratum 14 = .ok (.dup, 1) := by decide +kernel
theorem dX5_addStratum_15 : decode cX5_addStratum 15 = .ok (.ldc 68, 2) := by decide +kernel
theorem dX5_addStratum_17 : decode cX5_addStratum 17 = .ok (.invokespecial 70, 3) := by decide +kernel
theorem dX5_addStratum_20 : decode cX5_addStratum 20 = .ok (.athrow, 1) := by decide +kernel
theorem dX5_addStratum_21 : decode cX5_addStratum 21 = .ok (.aload_n 0, 1) := by decide +kernel
theorem dX5_addStratum_22 : decode cX5_addStratum 22 = .ok (.getfield 10, 3) := by decide +kernel
theorem dX5_addStratum_25 : decode cX5_addStratum 25 = .ok (.getfield 63, 3) := by decide +kernel
theorem dX5_addStratum_28 : decode cX5_addStratum 28 = .ok (.istore_n 1, 1) := by decide +kernel
theorem dX5_addStratum_29 : decode cX5_addStratum 29 = .ok (.aload_n 0, 1) := by decide +kernel
theorem dX5_addStratum_30 : decode cX5_addStratum 30 = .ok (.getfield 10, 3) := by decide +kernel
theorem dX5_addStratum_33 : decode cX5_addStratum 33 = .ok (.dup, 1) := by decide +kernel
theorem dX5_addStratum_34 : decode cX5_addStratum 34 = .ok (.getfield 63, 3) := by decide +kernel
theorem dX5_addStratum_37 : decode cX5_addStratum 37 = .ok (.iconst 1, 1) := by decide +kernel
theorem dX5_addStratum_38 : decode cX5_addStratum 38 = .ok (.iadd, 1) := by decide +kernel
theorem dX5_addStratum_39 : decode cX5_addStratum 39 = .ok (.putfield 63, 3) := by decide +kernel
theorem dX5_addStratum_42 : decode cX5_addStratum 42 = .ok (.iload_n 1, 1) := by decide +kernel
theorem dX5_addStratum_43 : decode cX5_addStratum 43 = .ok (.ireturn, 1) := by decide +kernel
theorem dX5_addHouse_0 : decode cX5_addHouse 0 = .ok (.aload_n 0, 1) := by decide +kernel
theorem dX5_addHouse_1 : decode cX5_addHouse 1 = .ok (.iload_n 1, 1) := by decide +kernel
theorem dX5_addHouse_2 : decode cX5_addHouse 2 = .ok (.invokevirtual 71, 3) := by decide +kernel
theorem dX5_addHouse_5 : decode cX5_addHouse 5 = .ok (.aload_n 0, 1) := by decide +kernel
theorem dX5_addHouse_6 : decode cX5_addHouse 6 = .ok (.iload_n 2, 1) := by decide +kernel
theorem dX5_addHouse_7 : decode cX5_addHouse 7 = .ok (.invokevirtual 75, 3) := by decide +kernel
theorem dX5_addHouse_10 : decode cX5_addHouse 10 = .ok (.aload_n 0, 1) := by decide +kernel
theorem dX5_addHouse_11 : decode cX5_addHouse 11 = .ok (.iload_n 3, 1) := by decide +kernel
theorem dX5_addHouse_12 : decode cX5_addHouse 12 = .ok (.invokevirtual 78, 3) := by decide +kernel
theorem dX5_addHouse_15 : decode cX5_addHouse 15 = .ok (.aload_n 0, 1) := by decide +kernel
theorem dX5_addHouse_16 : decode cX5_addHouse 16 = .ok (.getfield 10, 3) := by decide +kernel
theorem dX5_addHouse_19 : decode cX5_addHouse 19 = .ok (.getfield 81, 3) := by decide +kernel
theorem dX5_addHouse_22 : decode cX5_addHouse 22 = .ok (.bipush 24, 2) := by decide +kernel
theorem dX5_addHouse_24 : decode cX5_addHouse 24 = .ok (.if_icmp .lt 13, 3) := by decide +kernel
theorem dX5_addHouse_27 : decode cX5_addHouse 27 = .ok (.new 66, 3) := by decide +kernel
theorem dX5_addHouse_30 : decode cX5_addHouse 30 = .ok (.dup, 1) := by decide +kernel
theorem dX5_addHouse_31 : decode cX5_addHouse 31 = .ok (.ldc 83, 2) := by decide +kernel
theorem dX5_addHouse_33 : decode cX5_addHouse 33 = .ok (.invokespecial 70, 3) := by decide +kernel
theorem dX5_addHouse_36 : decode cX5_addHouse 36 = .ok (.athrow, 1) := by decide +kernel
theorem dX5_addHouse_37 : decode cX5_addHouse 37 = .ok (.aload_n 0, 1) := by decide +kernel
theorem dX5_addHouse_38 : decode cX5_addHouse 38 = .ok (.getfield 10, 3) := by decide +kernel
theorem dX5_addHouse_41 : decode cX5_addHouse 41 = .ok (.getfield 81, 3) := by decide +kernel
theorem dX5_addHouse_44 : decode cX5_addHouse 44 = .ok (.istore 4, 2) := by decide +kernel
theorem dX5_addHouse_46 : decode cX5_addHouse 46 = .ok (.aload_n 0, 1) := by decide +kernel
theorem dX5_addHouse_47 : decode cX5_addHouse 47 = .ok (.getfield 18, 3) := by decide +kernel
theorem dX5_addHouse_50 : decode cX5_addHouse 50 = .ok (.iload 4, 2) := by decide +kernel
theorem dX5_addHouse_52 : decode cX5_addHouse 52 = .ok (.new 16, 3) := by decide +kernel
theorem dX5_addHouse_55 : decode cX5_addHouse 55 = .ok (.dup, 1) := by decide +kernel
theorem dX5_addHouse_56 : decode cX5_addHouse 56 = .ok (.iload_n 2, 1) := by decide +kernel
theorem dX5_addHouse_57 : decode cX5_addHouse 57 = .ok (.invokespecial 85, 3) := by decide +kernel
theorem dX5_addHouse_60 : decode cX5_addHouse 60 = .ok (.aastore, 1) := by decide +kernel
theorem dX5_addHouse_61 : decode cX5_addHouse 61 = .ok (.aload_n 0, 1) := by decide +kernel
theorem dX5_addHouse_62 : decode cX5_addHouse 62 = .ok (.getfield 10, 3) := by decide +kernel
theorem dX5_addHouse_65 : decode cX5_addHouse 65 = .ok (.getfield 87, 3) := by decide +kernel
theorem dX5_addHouse_68 : decode cX5_addHouse 68 = .ok (.iload 4, 2) := by decide +kernel
theorem dX5_addHouse_70 : decode cX5_addHouse 70 = .ok (.iload_n 1, 1) := by decide +kernel
theorem dX5_addHouse_71 : decode cX5_addHouse 71 = .ok (.iastore, 1) := by decide +kernel
theorem dX5_addHouse_72 : decode cX5_addHouse 72 = .ok (.aload_n 0, 1) := by decide +kernel
theorem dX5_addHouse_73 : decode cX5_addHouse 73 = .ok (.getfield 10, 3) := by decide +kernel
theorem dX5_addHouse_76 : decode cX5_addHouse 76 = .ok (.getfield 91, 3) := by decide +kernel
theorem dX5_addHouse_79 : decode cX5_addHouse 79 = .ok (.iload 4, 2) := by decide +kernel
theorem dX5_addHouse_81 : decode cX5_addHouse 81 = .ok (.iload_n 3, 1) := by decide +kernel
theorem dX5_addHouse_82 : decode cX5_addHouse 82 = .ok (.iastore, 1) := by decide +kernel
theorem dX5_addHouse_83 : decode cX5_addHouse 83 = .ok (.aload_n 0, 1) := by decide +kernel
theorem dX5_addHouse_84 : decode cX5_addHouse 84 = .ok (.getfield 10, 3) := by decide +kernel
theorem dX5_addHouse_87 : decode cX5_addHouse 87 = .ok (.dup, 1) := by decide +kernel
theorem dX5_addHouse_88 : decode cX5_addHouse 88 = .ok (.getfield 81, 3) := by decide +kernel
theorem dX5_addHouse_91 : decode cX5_addHouse 91 = .ok (.iconst 1, 1) := by decide +kernel
theorem dX5_addHouse_92 : decode cX5_addHouse 92 = .ok (.iadd, 1) := by decide +kernel
theorem dX5_addHouse_93 : decode cX5_addHouse 93 = .ok (.putfield 81, 3) := by decide +kernel
theorem dX5_addHouse_96 : decode cX5_addHouse 96 = .ok (.iload 4, 2) := by decide +kernel
theorem dX5_addHouse_98 : decode cX5_addHouse 98 = .ok (.ireturn, 1) := by decide +kernel
theorem dX5_addInterviewer_0 : decode cX5_addInterviewer 0 = .ok (.aload_n 0, 1) := by decide +kernel
theorem dX5_addInterviewer_1 : decode cX5_addInterviewer 1 = .ok (.iload_n 1, 1) := by decide +kernel
theorem dX5_addInterviewer_2 : decode cX5_addInterviewer 2 = .ok (.invokevirtual 75, 3) := by decide +kernel
theorem dX5_addInterviewer_5 : decode cX5_addInterviewer 5 = .ok (.iload_n 2, 1) := by decide +kernel
theorem dX5_addInterviewer_6 : decode cX5_addInterviewer 6 = .ok (.iconst 1, 1) := by decide +kernel
theorem dX5_addInterviewer_7 : decode cX5_addInterviewer 7 = .ok (.if_icmp .lt 9, 3) := by decide +kernel
theorem dX5_addInterviewer_10 : decode cX5_addInterviewer 10 = .ok (.iload_n 2, 1) := by decide +kernel
theorem dX5_addInterviewer_11 : decode cX5_addInterviewer 11 = .ok (.bipush 7, 2) := by decide +kernel
theorem dX5_addInterviewer_13 : decode cX5_addInterviewer 13 = .ok (.if_icmp .le 13, 3) := by decide +kernel
theorem dX5_addInterviewer_16 : decode cX5_addInterviewer 16 = .ok (.new 56, 3) := by decide +kernel
theorem dX5_addInterviewer_19 : decode cX5_addInterviewer 19 = .ok (.dup, 1) := by decide +kernel
theorem dX5_addInterviewer_20 : decode cX5_addInterviewer 20 = .ok (.ldc 94, 2) := by decide +kernel
theorem dX5_addInterviewer_22 : decode cX5_addInterviewer 22 = .ok (.invokespecial 60, 3) := by decide +kernel
theorem dX5_addInterviewer_25 : decode cX5_addInterviewer 25 = .ok (.athrow, 1) := by decide +kernel
theorem dX5_addInterviewer_26 : decode cX5_addInterviewer 26 = .ok (.iload_n 3, 1) := by decide +kernel
theorem dX5_addInterviewer_27 : decode cX5_addInterviewer 27 = .ok (.bipush 30, 2) := by decide +kernel
theorem dX5_addInterviewer_29 : decode cX5_addInterviewer 29 = .ok (.if_icmp .lt 10, 3) := by decide +kernel
theorem dX5_addInterviewer_32 : decode cX5_addInterviewer 32 = .ok (.iload_n 3, 1) := by decide +kernel
theorem dX5_addInterviewer_33 : decode cX5_addInterviewer 33 = .ok (.sipush 600, 3) := by decide +kernel
theorem dX5_addInterviewer_36 : decode cX5_addInterviewer 36 = .ok (.if_icmp .le 13, 3) := by decide +kernel
theorem dX5_addInterviewer_39 : decode cX5_addInterviewer 39 = .ok (.new 56, 3) := by decide +kernel
theorem dX5_addInterviewer_42 : decode cX5_addInterviewer 42 = .ok (.dup, 1) := by decide +kernel
theorem dX5_addInterviewer_43 : decode cX5_addInterviewer 43 = .ok (.ldc 96, 2) := by decide +kernel
theorem dX5_addInterviewer_45 : decode cX5_addInterviewer 45 = .ok (.invokespecial 60, 3) := by decide +kernel
theorem dX5_addInterviewer_48 : decode cX5_addInterviewer 48 = .ok (.athrow, 1) := by decide +kernel
theorem dX5_addInterviewer_49 : decode cX5_addInterviewer 49 = .ok (.aload_n 0, 1) := by decide +kernel
theorem dX5_addInterviewer_50 : decode cX5_addInterviewer 50 = .ok (.getfield 45, 3) := by decide +kernel
theorem dX5_addInterviewer_53 : decode cX5_addInterviewer 53 = .ok (.iconst 4, 1) := by decide +kernel
theorem dX5_addInterviewer_54 : decode cX5_addInterviewer 54 = .ok (.if_icmp .lt 13, 3) := by decide +kernel
theorem dX5_addInterviewer_57 : decode cX5_addInterviewer 57 = .ok (.new 66, 3) := by decide +kernel
theorem dX5_addInterviewer_60 : decode cX5_addInterviewer 60 = .ok (.dup, 1) := by decide +kernel
theorem dX5_addInterviewer_61 : decode cX5_addInterviewer 61 = .ok (.ldc 98, 2) := by decide +kernel
theorem dX5_addInterviewer_63 : decode cX5_addInterviewer 63 = .ok (.invokespecial 70, 3) := by decide +kernel
theorem dX5_addInterviewer_66 : decode cX5_addInterviewer 66 = .ok (.athrow, 1) := by decide +kernel
theorem dX5_addInterviewer_67 : decode cX5_addInterviewer 67 = .ok (.aload_n 0, 1) := by decide +kernel
theorem dX5_addInterviewer_68 : decode cX5_addInterviewer 68 = .ok (.getfield 45, 3) := by decide +kernel
theorem dX5_addInterviewer_71 : decode cX5_addInterviewer 71 = .ok (.istore 4, 2) := by decide +kernel
theorem dX5_addInterviewer_73 : decode cX5_addInterviewer 73 = .ok (.aload_n 0, 1) := by decide +kernel
theorem dX5_addInterviewer_74 : decode cX5_addInterviewer 74 = .ok (.getfield 24, 3) := by decide +kernel
theorem dX5_addInterviewer_77 : decode cX5_addInterviewer 77 = .ok (.iload 4, 2) := by decide +kernel
theorem dX5_addInterviewer_79 : decode cX5_addInterviewer 79 = .ok (.new 22, 3) := by decide +kernel
theorem dX5_addInterviewer_82 : decode cX5_addInterviewer 82 = .ok (.dup, 1) := by decide +kernel
theorem dX5_addInterviewer_83 : decode cX5_addInterviewer 83 = .ok (.iload_n 1, 1) := by decide +kernel
theorem dX5_addInterviewer_84 : decode cX5_addInterviewer 84 = .ok (.iload_n 2, 1) := by decide +kernel
theorem dX5_addInterviewer_85 : decode cX5_addInterviewer 85 = .ok (.iload_n 3, 1) := by decide +kernel
theorem dX5_addInterviewer_86 : decode cX5_addInterviewer 86 = .ok (.invokespecial 100, 3) := by decide +kernel
theorem dX5_addInterviewer_89 : decode cX5_addInterviewer 89 = .ok (.aastore, 1) := by decide +kernel
theorem dX5_addInterviewer_90 : decode cX5_addInterviewer 90 = .ok (.aload_n 0, 1) := by decide +kernel
theorem dX5_addInterviewer_91 : decode cX5_addInterviewer 91 = .ok (.dup, 1) := by decide +kernel
theorem dX5_addInterviewer_92 : decode cX5_addInterviewer 92 = .ok (.getfield 45, 3) := by decide +kernel
theorem dX5_addInterviewer_95 : decode cX5_addInterviewer 95 = .ok (.iconst 1, 1) := by decide +kernel
theorem dX5_addInterviewer_96 : decode cX5_addInterviewer 96 = .ok (.iadd, 1) := by decide +kernel
theorem dX5_addInterviewer_97 : decode cX5_addInterviewer 97 = .ok (.putfield 45, 3) := by decide +kernel
theorem dX5_addInterviewer_100 : decode cX5_addInterviewer 100 = .ok (.iload 4, 2) := by decide +kernel
theorem dX5_addInterviewer_102 : decode cX5_addInterviewer 102 = .ok (.ireturn, 1) := by decide +kernel
theorem dX5_draw_0 : decode cX5_draw 0 = .ok (.aload_n 0, 1) := by decide +kernel
theorem dX5_draw_1 : decode cX5_draw 1 = .ok (.iload_n 1, 1) := by decide +kernel
theorem dX5_draw_2 : decode cX5_draw 2 = .ok (.invokevirtual 71, 3) := by decide +kernel
theorem dX5_draw_5 : decode cX5_draw 5 = .ok (.iload_n 2, 1) := by decide +kernel
theorem dX5_draw_6 : decode cX5_draw 6 = .ok (.iconst 1, 1) := by decide +kernel
theorem dX5_draw_7 : decode cX5_draw 7 = .ok (.if_icmp .lt 9, 3) := by decide +kernel
theorem dX5_draw_10 : decode cX5_draw 10 = .ok (.iload_n 2, 1) := by decide +kernel
theorem dX5_draw_11 : decode cX5_draw 11 = .ok (.bipush 24, 2) := by decide +kernel
theorem dX5_draw_13 : decode cX5_draw 13 = .ok (.if_icmp .le 13, 3) := by decide +kernel
theorem dX5_draw_16 : decode cX5_draw 16 = .ok (.new 56, 3) := by decide +kernel
theorem dX5_draw_19 : decode cX5_draw 19 = .ok (.dup, 1) := by decide +kernel
theorem dX5_draw_20 : decode cX5_draw 20 = .ok (.ldc 103, 2) := by decide +kernel
theorem dX5_draw_22 : decode cX5_draw 22 = .ok (.invokespecial 60, 3) := by decide +kernel
theorem dX5_draw_25 : decode cX5_draw 25 = .ok (.athrow, 1) := by decide +kernel
theorem dX5_draw_26 : decode cX5_draw 26 = .ok (.aload_n 0, 1) := by decide +kernel
theorem dX5_draw_27 : decode cX5_draw 27 = .ok (.iload_n 1, 1) := by decide +kernel
theorem dX5_draw_28 : decode cX5_draw 28 = .ok (.invokevirtual 105, 3) := by decide +kernel
theorem dX5_draw_31 : decode cX5_draw 31 = .ok (.iload_n 2, 1) := by decide +kernel
theorem dX5_draw_32 : decode cX5_draw 32 = .ok (.if_icmp .ge 13, 3) := by decide +kernel
theorem dX5_draw_35 : decode cX5_draw 35 = .ok (.new 66, 3) := by decide +kernel
theorem dX5_draw_38 : decode cX5_draw 38 = .ok (.dup, 1) := by decide +kernel
theorem dX5_draw_39 : decode cX5_draw 39 = .ok (.ldc 109, 2) := by decide +kernel
theorem dX5_draw_41 : decode cX5_draw 41 = .ok (.invokespecial 70, 3) := by decide +kernel
theorem dX5_draw_44 : decode cX5_draw 44 = .ok (.athrow, 1) := by decide +kernel
theorem dX5_draw_45 : decode cX5_draw 45 = .ok (.iconst (-1), 1) := by decide +kernel
theorem dX5_draw_46 : decode cX5_draw 46 = .ok (.istore_n 3, 1) := by decide +kernel
theorem dX5_draw_47 : decode cX5_draw 47 = .ok (.iconst 0, 1) := by decide +kernel
theorem dX5_draw_48 : decode cX5_draw 48 = .ok (.istore 4, 2) := by decide +kernel
theorem dX5_draw_50 : decode cX5_draw 50 = .ok (.iload 4, 2) := by decide +kernel
theorem dX5_draw_52 : decode cX5_draw 52 = .ok (.iload_n 2, 1) := by decide +kernel
theorem dX5_draw_53 : decode cX5_draw 53 = .ok (.if_icmp .ge 23, 3) := by decide +kernel
theorem dX5_draw_56 : decode cX5_draw 56 = .ok (.aload_n 0, 1) := by decide +kernel
theorem dX5_draw_57 : decode cX5_draw 57 = .ok (.iload_n 1, 1) := by decide +kernel
theorem dX5_draw_58 : decode cX5_draw 58 = .ok (.invokevirtual 111, 3) := by decide +kernel
theorem dX5_draw_61 : decode cX5_draw 61 = .ok (.istore_n 3, 1) := by decide +kernel
theorem dX5_draw_62 : decode cX5_draw 62 = .ok (.aload_n 0, 1) := by decide +kernel
theorem dX5_draw_63 : decode cX5_draw 63 = .ok (.getfield 10, 3) := by decide +kernel
theorem dX5_draw_66 : decode cX5_draw 66 = .ok (.iload_n 3, 1) := by decide +kernel
theorem dX5_draw_67 : decode cX5_draw 67 = .ok (.invokevirtual 114, 3) := by decide +kernel
theorem dX5_draw_70 : decode cX5_draw 70 = .ok (.iinc 4 1, 3) := by decide +kernel
theorem dX5_draw_73 : decode cX5_draw 73 = .ok (.goto (-23), 3) := by decide +kernel
theorem dX5_draw_76 : decode cX5_draw 76 = .ok (.aload_n 0, 1) := by decide +kernel
theorem dX5_draw_77 : decode cX5_draw 77 = .ok (.getfield 31, 3) := by decide +kernel
theorem dX5_draw_80 : decode cX5_draw 80 = .ok (.aload_n 0, 1) := by decide +kernel
theorem dX5_draw_81 : decode cX5_draw 81 = .ok (.getfield 10, 3) := by decide +kernel
theorem dX5_draw_84 : decode cX5_draw 84 = .ok (.invokevirtual 117, 3) := by decide +kernel
theorem dX5_draw_87 : decode cX5_draw 87 = .ok (.iload_n 3, 1) := by decide +kernel
theorem dX5_draw_88 : decode cX5_draw 88 = .ok (.ireturn, 1) := by decide +kernel
theorem dX5_day_0 : decode cX5_day 0 = .ok (.aload_n 0, 1) := by decide +kernel
theorem dX5_day_1 : decode cX5_day 1 = .ok (.getfield 52, 3) := by decide +kernel
theorem dX5_day_4 : decode cX5_day 4 = .ok (.ireturn, 1) := by decide +kernel
theorem dX5_roundSize_0 : decode cX5_roundSize 0 = .ok (.aload_n 0, 1) := by decide +kernel
theorem dX5_roundSize_1 : decode cX5_roundSize 1 = .ok (.iload_n 1, 1) := by decide +kernel
theorem dX5_roundSize_2 : decode cX5_roundSize 2 = .ok (.invokevirtual 121, 3) := by decide +kernel
theorem dX5_roundSize_5 : decode cX5_roundSize 5 = .ok (.getfield 125, 3) := by decide +kernel
theorem dX5_roundSize_8 : decode cX5_roundSize 8 = .ok (.ireturn, 1) := by decide +kernel
theorem dX5_roundAt_0 : decode cX5_roundAt 0 = .ok (.aload_n 0, 1) := by decide +kernel
theorem dX5_roundAt_1 : decode cX5_roundAt 1 = .ok (.iload_n 1, 1) := by decide +kernel
theorem dX5_roundAt_2 : decode cX5_roundAt 2 = .ok (.invokevirtual 121, 3) := by decide +kernel
theorem dX5_roundAt_5 : decode cX5_roundAt 5 = .ok (.astore_n 3, 1) := by decide +kernel
theorem dX5_roundAt_6 : decode cX5_roundAt 6 = .ok (.iload_n 2, 1) := by decide +kernel
theorem dX5_roundAt_7 : decode cX5_roundAt 7 = .ok (.ifCond .lt 11, 3) := by decide +kernel
theorem dX5_roundAt_10 : decode cX5_roundAt 10 = .ok (.iload_n 2, 1) := by decide +kernel
theorem dX5_roundAt_11 : decode cX5_roundAt 11 = .ok (.aload_n 3, 1) := by decide +kernel
theorem dX5_roundAt_12 : decode cX5_roundAt 12 = .ok (.getfield 125, 3) := by decide +kernel
theorem dX5_roundAt_15 : decode cX5_roundAt 15 = .ok (.if_icmp .lt 13, 3) := by decide +kernel
theorem dX5_roundAt_18 : decode cX5_roundAt 18 = .ok (.new 128, 3) := by decide +kernel
theorem dX5_roundAt_21 : decode cX5_roundAt 21 = .ok (.dup, 1) := by decide +kernel
theorem dX5_roundAt_22 : decode cX5_roundAt 22 = .ok (.ldc 130, 2) := by decide +kernel
theorem dX5_roundAt_24 : decode cX5_roundAt 24 = .ok (.invokespecial 132, 3) := by decide +kernel
theorem dX5_roundAt_27 : decode cX5_roundAt 27 = .ok (.athrow, 1) := by decide +kernel
theorem dX5_roundAt_28 : decode cX5_roundAt 28 = .ok (.aload_n 3, 1) := by decide +kernel
theorem dX5_roundAt_29 : decode cX5_roundAt 29 = .ok (.getfield 133, 3) := by decide +kernel
theorem dX5_roundAt_32 : decode cX5_roundAt 32 = .ok (.iload_n 2, 1) := by decide +kernel
theorem dX5_roundAt_33 : decode cX5_roundAt 33 = .ok (.iaload, 1) := by decide +kernel
theorem dX5_roundAt_34 : decode cX5_roundAt 34 = .ok (.ireturn, 1) := by decide +kernel
theorem dX5_roundMinutes_0 : decode cX5_roundMinutes 0 = .ok (.aload_n 0, 1) := by decide +kernel
theorem dX5_roundMinutes_1 : decode cX5_roundMinutes 1 = .ok (.iload_n 1, 1) := by decide +kernel
theorem dX5_roundMinutes_2 : decode cX5_roundMinutes 2 = .ok (.invokevirtual 121, 3) := by decide +kernel
theorem dX5_roundMinutes_5 : decode cX5_roundMinutes 5 = .ok (.invokevirtual 136, 3) := by decide +kernel
theorem dX5_roundMinutes_8 : decode cX5_roundMinutes 8 = .ok (.ireturn, 1) := by decide +kernel
theorem dX5_visit_0 : decode cX5_visit 0 = .ok (.aload_n 0, 1) := by decide +kernel
theorem dX5_visit_1 : decode cX5_visit 1 = .ok (.iload_n 1, 1) := by decide +kernel
theorem dX5_visit_2 : decode cX5_visit 2 = .ok (.invokevirtual 140, 3) := by decide +kernel
theorem dX5_visit_5 : decode cX5_visit 5 = .ok (.astore 4, 2) := by decide +kernel
theorem dX5_visit_7 : decode cX5_visit 7 = .ok (.aload_n 0, 1) := by decide +kernel
theorem dX5_visit_8 : decode cX5_visit 8 = .ok (.iload_n 2, 1) := by decide +kernel
theorem dX5_visit_9 : decode cX5_visit 9 = .ok (.invokevirtual 144, 3) := by decide +kernel
theorem dX5_visit_12 : decode cX5_visit 12 = .ok (.aload_n 0, 1) := by decide +kernel
theorem dX5_visit_13 : decode cX5_visit 13 = .ok (.iload_n 3, 1) := by decide +kernel
theorem dX5_visit_14 : decode cX5_visit 14 = .ok (.invokevirtual 148, 3) := by decide +kernel
theorem dX5_visit_17 : decode cX5_visit 17 = .ok (.aload_n 0, 1) := by decide +kernel
theorem dX5_visit_18 : decode cX5_visit 18 = .ok (.aload 4, 2) := by decide +kernel
theorem dX5_visit_20 : decode cX5_visit 20 = .ok (.invokevirtual 151, 3) := by decide +kernel
theorem dX5_visit_23 : decode cX5_visit 23 = .ok (.aload 4, 2) := by decide +kernel
theorem dX5_visit_25 : decode cX5_visit 25 = .ok (.getfield 155, 3) := by decide +kernel
theorem dX5_visit_28 : decode cX5_visit 28 = .ok (.istore 5, 2) := by decide +kernel
theorem dX5_visit_30 : decode cX5_visit 30 = .ok (.aload_n 0, 1) := by decide +kernel
theorem dX5_visit_31 : decode cX5_visit 31 = .ok (.getfield 41, 3) := by decide +kernel
theorem dX5_visit_34 : decode cX5_visit 34 = .ok (.iload_n 2, 1) := by decide +kernel
theorem dX5_visit_35 : decode cX5_visit 35 = .ok (.iload_n 1, 1) := by decide +kernel
theorem dX5_visit_36 : decode cX5_visit 36 = .ok (.iload 5, 2) := by decide +kernel
theorem dX5_visit_38 : decode cX5_visit 38 = .ok (.iload_n 3, 1) := by decide +kernel
theorem dX5_visit_39 : decode cX5_visit 39 = .ok (.invokevirtual 158, 3) := by decide +kernel
theorem dX5_visit_42 : decode cX5_visit 42 = .ok (.aload 4, 2) := by decide +kernel
theorem dX5_visit_44 : decode cX5_visit 44 = .ok (.iconst 1, 1) := by decide +kernel
theorem dX5_visit_45 : decode cX5_visit 45 = .ok (.putfield 162, 3) := by decide +kernel
theorem dX5_visit_48 : decode cX5_visit 48 = .ok (.aload 4, 2) := by decide +kernel
theorem dX5_visit_50 : decode cX5_visit 50 = .ok (.dup, 1) := by decide +kernel
theorem dX5_visit_51 : decode cX5_visit 51 = .ok (.getfield 166, 3) := by decide +kernel
theorem dX5_visit_54 : decode cX5_visit 54 = .ok (.iconst 1, 1) := by decide +kernel
theorem dX5_visit_55 : decode cX5_visit 55 = .ok (.iadd, 1) := by decide +kernel
theorem dX5_visit_56 : decode cX5_visit 56 = .ok (.putfield 166, 3) := by decide +kernel
theorem dX5_visit_59 : decode cX5_visit 59 = .ok (.iload_n 2, 1) := by decide +kernel
theorem dX5_visit_60 : decode cX5_visit 60 = .ok (.lookupswitch 73 #[(97, 36), (110, 47), (114, 59)], 36) := by decide +kernel
theorem dX5_visit_96 : decode cX5_visit 96 = .ok (.aload_n 0, 1) := by decide +kernel
theorem dX5_visit_97 : decode cX5_visit 97 = .ok (.iload_n 1, 1) := by decide +kernel
theorem dX5_visit_98 : decode cX5_visit 98 = .ok (.iload 5, 2) := by decide +kernel
theorem dX5_visit_100 : decode cX5_visit 100 = .ok (.iload_n 3, 1) := by decide +kernel
theorem dX5_visit_101 : decode cX5_visit 101 = .ok (.invokevirtual 169, 3) := by decide +kernel
theorem dX5_visit_104 : decode cX5_visit 104 = .ok (.goto 36, 3) := by decide +kernel
theorem dX5_visit_107 : decode cX5_visit 107 = .ok (.aload 4, 2) := by decide +kernel
theorem dX5_visit_109 : decode cX5_visit 109 = .ok (.aload_n 0, 1) := by decide +kernel
theorem dX5_visit_110 : decode cX5_visit 110 = .ok (.getfield 52, 3) := by decide +kernel
theorem dX5_visit_113 : decode cX5_visit 113 = .ok (.invokevirtual 172, 3) := by decide +kernel
theorem dX5_visit_116 : decode cX5_visit 116 = .ok (.goto 24, 3) := by decide +kernel
theorem dX5_visit_119 : decode cX5_visit 119 = .ok (.aload 4, 2) := by decide +kernel
theorem dX5_visit_121 : decode cX5_visit 121 = .ok (.iload 5, 2) := by decide +kernel
theorem dX5_visit_123 : decode cX5_visit 123 = .ok (.aload_n 0, 1) := by decide +kernel
theorem dX5_visit_124 : decode cX5_visit 124 = .ok (.getfield 52, 3) := by decide +kernel
theorem dX5_visit_127 : decode cX5_visit 127 = .ok (.invokevirtual 175, 3) := by decide +kernel
theorem dX5_visit_130 : decode cX5_visit 130 = .ok (.goto 10, 3) := by decide +kernel
theorem dX5_visit_133 : decode cX5_visit 133 = .ok (.aload 4, 2) := by decide +kernel
theorem dX5_visit_135 : decode cX5_visit 135 = .ok (.bipush 101, 2) := by decide +kernel
theorem dX5_visit_137 : decode cX5_visit 137 = .ok (.invokevirtual 179, 3) := by decide +kernel
theorem dX5_visit_140 : decode cX5_visit 140 = .ok (.iload 5, 2) := by decide +kernel
theorem dX5_visit_142 : decode cX5_visit 142 = .ok (.ireturn, 1) := by decide +kernel
theorem dX5_check_0 : decode cX5_check 0 = .ok (.aload_n 0, 1) := by decide +kernel
theorem dX5_check_1 : decode cX5_check 1 = .ok (.iload_n 1, 1) := by decide +kernel
theorem dX5_check_2 : decode cX5_check 2 = .ok (.invokevirtual 140, 3) := by decide +kernel
theorem dX5_check_5 : decode cX5_check 5 = .ok (.astore_n 3, 1) := by decide +kernel
theorem dX5_check_6 : decode cX5_check 6 = .ok (.aload_n 0, 1) := by decide +kernel
theorem dX5_check_7 : decode cX5_check 7 = .ok (.iload_n 2, 1) := by decide +kernel
theorem dX5_check_8 : decode cX5_check 8 = .ok (.invokevirtual 148, 3) := by decide +kernel
theorem dX5_check_11 : decode cX5_check 11 = .ok (.aload_n 3, 1) := by decide +kernel
theorem dX5_check_12 : decode cX5_check 12 = .ok (.getfield 182, 3) := by decide +kernel
theorem dX5_check_15 : decode cX5_check 15 = .ok (.bipush 97, 2) := by decide +kernel
theorem dX5_check_17 : decode cX5_check 17 = .ok (.if_icmp .ne 10, 3) := by decide +kernel
theorem dX5_check_20 : decode cX5_check 20 = .ok (.aload_n 3, 1) := by decide +kernel
theorem dX5_check_21 : decode cX5_check 21 = .ok (.getfield 186, 3) := by decide +kernel
theorem dX5_check_24 : decode cX5_check 24 = .ok (.ifCond .eq 13, 3) := by decide +kernel
theorem dX5_check_27 : decode cX5_check 27 = .ok (.new 66, 3) := by decide +kernel
theorem dX5_check_30 : decode cX5_check 30 = .ok (.dup, 1) := by decide +kernel
theorem dX5_check_31 : decode cX5_check 31 = .ok (.ldc 189, 2) := by decide +kernel
theorem dX5_check_33 : decode cX5_check 33 = .ok (.invokespecial 70, 3) := by decide +kernel
theorem dX5_check_36 : decode cX5_check 36 = .ok (.athrow, 1) := by decide +kernel
theorem dX5_check_37 : decode cX5_check 37 = .ok (.aload_n 0, 1) := by decide +kernel
theorem dX5_check_38 : decode cX5_check 38 = .ok (.getfield 41, 3) := by decide +kernel
theorem dX5_check_41 : decode cX5_check 41 = .ok (.bipush 99, 2) := by decide +kernel
theorem dX5_check_43 : decode cX5_check 43 = .ok (.iload_n 1, 1) := by decide +kernel
theorem dX5_check_44 : decode cX5_check 44 = .ok (.iconst 0, 1) := by decide +kernel
theorem dX5_check_45 : decode cX5_check 45 = .ok (.iload_n 2, 1) := by decide +kernel
theorem dX5_check_46 : decode cX5_check 46 = .ok (.invokevirtual 158, 3) := by decide +kernel
theorem dX5_check_49 : decode cX5_check 49 = .ok (.aload_n 3, 1) := by decide +kernel
theorem dX5_check_50 : decode cX5_check 50 = .ok (.iconst 1, 1) := by decide +kernel
theorem dX5_check_51 : decode cX5_check 51 = .ok (.putfield 186, 3) := by decide +kernel
theorem dX5_check_54 : decode cX5_check 54 = .ok (.aload_n 0, 1) := by decide +kernel
theorem dX5_check_55 : decode cX5_check 55 = .ok (.getfield 31, 3) := by decide +kernel
theorem dX5_check_58 : decode cX5_check 58 = .ok (.getfield 191, 3) := by decide +kernel
theorem dX5_check_61 : decode cX5_check 61 = .ok (.iload_n 1, 1) := by decide +kernel
theorem dX5_check_62 : decode cX5_check 62 = .ok (.iaload, 1) := by decide +kernel
theorem dX5_check_63 : decode cX5_check 63 = .ok (.iload_n 2, 1) := by decide +kernel
theorem dX5_check_64 : decode cX5_check 64 = .ok (.if_icmp .ne 7, 3) := by decide +kernel
theorem dX5_check_67 : decode cX5_check 67 = .ok (.iconst 1, 1) := by decide +kernel
theorem dX5_check_68 : decode cX5_check 68 = .ok (.goto 4, 3) := by decide +kernel
theorem dX5_check_71 : decode cX5_check 71 = .ok (.iconst 0, 1) := by decide +kernel
theorem dX5_check_72 : decode cX5_check 72 = .ok (.istore 4, 2) := by decide +kernel
theorem dX5_check_74 : decode cX5_check 74 = .ok (.aload_n 0, 1) := by decide +kernel
theorem dX5_check_75 : decode cX5_check 75 = .ok (.getfield 31, 3) := by decide +kernel
theorem dX5_check_78 : decode cX5_check 78 = .ok (.iload_n 1, 1) := by decide +kernel
theorem dX5_check_79 : decode cX5_check 79 = .ok (.iload_n 2, 1) := by decide +kernel
theorem dX5_check_80 : decode cX5_check 80 = .ok (.invokevirtual 194, 3) := by decide +kernel
theorem dX5_check_83 : decode cX5_check 83 = .ok (.ifCond .eq 18, 3) := by decide +kernel
theorem dX5_check_86 : decode cX5_check 86 = .ok (.aload_n 0, 1) := by decide +kernel
theorem dX5_check_87 : decode cX5_check 87 = .ok (.invokevirtual 198, 3) := by decide +kernel
theorem dX5_check_90 : decode cX5_check 90 = .ok (.aload_n 0, 1) := by decide +kernel
theorem dX5_check_91 : decode cX5_check 91 = .ok (.getfield 31, 3) := by decide +kernel
theorem dX5_check_94 : decode cX5_check 94 = .ok (.aload_n 0, 1) := by decide +kernel
theorem dX5_check_95 : decode cX5_check 95 = .ok (.getfield 10, 3) := by decide +kernel
theorem dX5_check_98 : decode cX5_check 98 = .ok (.invokevirtual 117, 3) := by decide +kernel
theorem dX5_check_101 : decode cX5_check 101 = .ok (.iload 4, 2) := by decide +kernel
theorem dX5_check_103 : decode cX5_check 103 = .ok (.ireturn, 1) := by decide +kernel
theorem dX5_endDay_0 : decode cX5_endDay 0 = .ok (.aload_n 0, 1) := by decide +kernel
theorem dX5_endDay_1 : decode cX5_endDay 1 = .ok (.getfield 52, 3) := by decide +kernel
theorem dX5_endDay_4 : decode cX5_endDay 4 = .ok (.bipush 99, 2) := by decide +kernel
theorem dX5_endDay_6 : decode cX5_endDay 6 = .ok (.if_icmp .lt 13, 3) := by decide +kernel
theorem dX5_endDay_9 : decode cX5_endDay 9 = .ok (.new 66, 3) := by decide +kernel
theorem dX5_endDay_12 : decode cX5_endDay 12 = .ok (.dup, 1) := by decide +kernel
theorem dX5_endDay_13 : decode cX5_endDay 13 = .ok (.ldc 201, 2) := by decide +kernel
theorem dX5_endDay_15 : decode cX5_endDay 15 = .ok (.invokespecial 70, 3) := by decide +kernel
theorem dX5_endDay_18 : decode cX5_endDay 18 = .ok (.athrow, 1) := by decide +kernel
theorem dX5_endDay_19 : decode cX5_endDay 19 = .ok (.aload_n 0, 1) := by decide +kernel
theorem dX5_endDay_20 : decode cX5_endDay 20 = .ok (.invokevirtual 203, 3) := by decide +kernel
theorem dX5_endDay_23 : decode cX5_endDay 23 = .ok (.istore_n 1, 1) := by decide +kernel
theorem dX5_endDay_24 : decode cX5_endDay 24 = .ok (.aload_n 0, 1) := by decide +kernel
theorem dX5_endDay_25 : decode cX5_endDay 25 = .ok (.dup, 1) := by decide +kernel
theorem dX5_endDay_26 : decode cX5_endDay 26 = .ok (.getfield 52, 3) := by decide +kernel
theorem dX5_endDay_29 : decode cX5_endDay 29 = .ok (.iconst 1, 1) := by decide +kernel
theorem dX5_endDay_30 : decode cX5_endDay 30 = .ok (.iadd, 1) := by decide +kernel
theorem dX5_endDay_31 : decode cX5_endDay 31 = .ok (.putfield 52, 3) := by decide +kernel
theorem dX5_endDay_34 : decode cX5_endDay 34 = .ok (.aload_n 0, 1) := by decide +kernel
theorem dX5_endDay_35 : decode cX5_endDay 35 = .ok (.invokevirtual 206, 3) := by decide +kernel
theorem dX5_endDay_38 : decode cX5_endDay 38 = .ok (.iload_n 1, 1) := by decide +kernel
theorem dX5_endDay_39 : decode cX5_endDay 39 = .ok (.ireturn, 1) := by decide +kernel
theorem dX5_stateOf_0 : decode cX5_stateOf 0 = .ok (.aload_n 0, 1) := by decide +kernel
theorem dX5_stateOf_1 : decode cX5_stateOf 1 = .ok (.iload_n 1, 1) := by decide +kernel
theorem dX5_stateOf_2 : decode cX5_stateOf 2 = .ok (.invokevirtual 140, 3) := by decide +kernel
theorem dX5_stateOf_5 : decode cX5_stateOf 5 = .ok (.getfield 182, 3) := by decide +kernel
theorem dX5_stateOf_8 : decode cX5_stateOf 8 = .ok (.ireturn, 1) := by decide +kernel
theorem dX5_wantedFrom_0 : decode cX5_wantedFrom 0 = .ok (.aload_n 0, 1) := by decide +kernel
theorem dX5_wantedFrom_1 : decode cX5_wantedFrom 1 = .ok (.iload_n 1, 1) := by decide +kernel
theorem dX5_wantedFrom_2 : decode cX5_wantedFrom 2 = .ok (.invokevirtual 140, 3) := by decide +kernel
theorem dX5_wantedFrom_5 : decode cX5_wantedFrom 5 = .ok (.astore_n 2, 1) := by decide +kernel
theorem dX5_wantedFrom_6 : decode cX5_wantedFrom 6 = .ok (.aload_n 2, 1) := by decide +kernel
theorem dX5_wantedFrom_7 : decode cX5_wantedFrom 7 = .ok (.getfield 182, 3) := by decide +kernel
theorem dX5_wantedFrom_10 : decode cX5_wantedFrom 10 = .ok (.bipush 119, 2) := by decide +kernel
theorem dX5_wantedFrom_12 : decode cX5_wantedFrom 12 = .ok (.if_icmp .eq 13, 3) := by decide +kernel
theorem dX5_wantedFrom_15 : decode cX5_wantedFrom 15 = .ok (.new 66, 3) := by decide +kernel
theorem dX5_wantedFrom_18 : decode cX5_wantedFrom 18 = .ok (.dup, 1) := by decide +kernel
theorem dX5_wantedFrom_19 : decode cX5_wantedFrom 19 = .ok (.ldc 209, 2) := by decide +kernel
theorem dX5_wantedFrom_21 : decode cX5_wantedFrom 21 = .ok (.invokespecial 70, 3) := by decide +kernel
theorem dX5_wantedFrom_24 : decode cX5_wantedFrom 24 = .ok (.athrow, 1) := by decide +kernel
theorem dX5_wantedFrom_25 : decode cX5_wantedFrom 25 = .ok (.aload_n 2, 1) := by decide +kernel
theorem dX5_wantedFrom_26 : decode cX5_wantedFrom 26 = .ok (.getfield 211, 3) := by decide +kernel
theorem dX5_wantedFrom_29 : decode cX5_wantedFrom 29 = .ok (.ireturn, 1) := by decide +kernel
theorem dX5_codeOf_0 : decode cX5_codeOf 0 = .ok (.aload_n 0, 1) := by decide +kernel
theorem dX5_codeOf_1 : decode cX5_codeOf 1 = .ok (.iload_n 1, 1) := by decide +kernel
theorem dX5_codeOf_2 : decode cX5_codeOf 2 = .ok (.invokevirtual 140, 3) := by decide +kernel
theorem dX5_codeOf_5 : decode cX5_codeOf 5 = .ok (.astore_n 2, 1) := by decide +kernel
theorem dX5_codeOf_6 : decode cX5_codeOf 6 = .ok (.aload_n 2, 1) := by decide +kernel
theorem dX5_codeOf_7 : decode cX5_codeOf 7 = .ok (.getfield 182, 3) := by decide +kernel
theorem dX5_codeOf_10 : decode cX5_codeOf 10 = .ok (.lookupswitch 85 #[(97, 61), (103, 81), (114, 77), (117, 50), (119, 52)], 50) := by decide +kernel
theorem dX5_codeOf_60 : decode cX5_codeOf 60 = .ok (.iconst 0, 1) := by decide +kernel
theorem dX5_codeOf_61 : decode cX5_codeOf 61 = .ok (.ireturn, 1) := by decide +kernel
theorem dX5_codeOf_62 : decode cX5_codeOf 62 = .ok (.sipush 300, 3) := by decide +kernel
theorem dX5_codeOf_65 : decode cX5_codeOf 65 = .ok (.aload_n 2, 1) := by decide +kernel
theorem dX5_codeOf_66 : decode cX5_codeOf 66 = .ok (.getfield 166, 3) := by decide +kernel
theorem dX5_codeOf_69 : decode cX5_codeOf 69 = .ok (.iadd, 1) := by decide +kernel
theorem dX5_codeOf_70 : decode cX5_codeOf 70 = .ok (.ireturn, 1) := by decide +kernel
theorem dX5_codeOf_71 : decode cX5_codeOf 71 = .ok (.aload_n 2, 1) := by decide +kernel
theorem dX5_codeOf_72 : decode cX5_codeOf 72 = .ok (.getfield 166, 3) := by decide +kernel
theorem dX5_codeOf_75 : decode cX5_codeOf 75 = .ok (.iconst 1, 1) := by decide +kernel
theorem dX5_codeOf_76 : decode cX5_codeOf 76 = .ok (.if_icmp .ne 8, 3) := by decide +kernel
theorem dX5_codeOf_79 : decode cX5_codeOf 79 = .ok (.bipush 110, 2) := by decide +kernel
theorem dX5_codeOf_81 : decode cX5_codeOf 81 = .ok (.goto 5, 3) := by decide +kernel
theorem dX5_codeOf_84 : decode cX5_codeOf 84 = .ok (.bipush 120, 2) := by decide +kernel
theorem dX5_codeOf_86 : decode cX5_codeOf 86 = .ok (.ireturn, 1) := by decide +kernel
theorem dX5_codeOf_87 : decode cX5_codeOf 87 = .ok (.sipush 210, 3) := by decide +kernel
theorem dX5_codeOf_90 : decode cX5_codeOf 90 = .ok (.ireturn, 1) := by decide +kernel
theorem dX5_codeOf_91 : decode cX5_codeOf 91 = .ok (.sipush 220, 3) := by decide +kernel
theorem dX5_codeOf_94 : decode cX5_codeOf 94 = .ok (.ireturn, 1) := by decide +kernel
theorem dX5_codeOf_95 : decode cX5_codeOf 95 = .ok (.sipush 400, 3) := by decide +kernel
theorem dX5_codeOf_98 : decode cX5_codeOf 98 = .ok (.ireturn, 1) := by decide +kernel
theorem dX5_answerOf_0 : decode cX5_answerOf 0 = .ok (.aload_n 0, 1) := by decide +kernel
theorem dX5_answerOf_1 : decode cX5_answerOf 1 = .ok (.iload_n 1, 1) := by decide +kernel
theorem dX5_answerOf_2 : decode cX5_answerOf 2 = .ok (.invokevirtual 214, 3) := by decide +kernel
theorem dX5_answerOf_5 : decode cX5_answerOf 5 = .ok (.aload_n 0, 1) := by decide +kernel
theorem dX5_answerOf_6 : decode cX5_answerOf 6 = .ok (.getfield 31, 3) := by decide +kernel
theorem dX5_answerOf_9 : decode cX5_answerOf 9 = .ok (.getfield 191, 3) := by decide +kernel
theorem dX5_answerOf_12 : decode cX5_answerOf 12 = .ok (.iload_n 1, 1) := by decide +kernel
theorem dX5_answerOf_13 : decode cX5_answerOf 13 = .ok (.iaload, 1) := by decide +kernel
theorem dX5_answerOf_14 : decode cX5_answerOf 14 = .ok (.ireturn, 1) := by decide +kernel
theorem dX5_faults_0 : decode cX5_faults 0 = .ok (.aload_n 0, 1) := by decide +kernel
theorem dX5_faults_1 : decode cX5_faults 1 = .ok (.iload_n 1, 1) := by decide +kernel
theorem dX5_faults_2 : decode cX5_faults 2 = .ok (.invokevirtual 217, 3) := by decide +kernel
theorem dX5_faults_5 : decode cX5_faults 5 = .ok (.aload_n 0, 1) := by decide +kernel
theorem dX5_faults_6 : decode cX5_faults 6 = .ok (.getfield 31, 3) := by decide +kernel
theorem dX5_faults_9 : decode cX5_faults 9 = .ok (.getfield 220, 3) := by decide +kernel
theorem dX5_faults_12 : decode cX5_faults 12 = .ok (.iload_n 1, 1) := by decide +kernel
theorem dX5_faults_13 : decode cX5_faults 13 = .ok (.iaload, 1) := by decide +kernel
theorem dX5_faults_14 : decode cX5_faults 14 = .ok (.ireturn, 1) := by decide +kernel
theorem dX5_answersTo_0 : decode cX5_answersTo 0 = .ok (.aload_n 0, 1) := by decide +kernel
theorem dX5_answersTo_1 : decode cX5_answersTo 1 = .ok (.iload_n 1, 1) := by decide +kernel
theorem dX5_answersTo_2 : decode cX5_answersTo 2 = .ok (.invokevirtual 217, 3) := by decide +kernel
theorem dX5_answersTo_5 : decode cX5_answersTo 5 = .ok (.iconst 0, 1) := by decide +kernel
theorem dX5_answersTo_6 : decode cX5_answersTo 6 = .ok (.istore_n 2, 1) := by decide +kernel
theorem dX5_answersTo_7 : decode cX5_answersTo 7 = .ok (.iconst 0, 1) := by decide +kernel
theorem dX5_answersTo_8 : decode cX5_answersTo 8 = .ok (.istore_n 3, 1) := by decide +kernel
theorem dX5_answersTo_9 : decode cX5_answersTo 9 = .ok (.iload_n 3, 1) := by decide +kernel
theorem dX5_answersTo_10 : decode cX5_answersTo 10 = .ok (.aload_n 0, 1) := by decide +kernel
theorem dX5_answersTo_11 : decode cX5_answersTo 11 = .ok (.getfield 10, 3) := by decide +kernel
theorem dX5_answersTo_14 : decode cX5_answersTo 14 = .ok (.getfield 81, 3) := by decide +kernel
theorem dX5_answersTo_17 : decode cX5_answersTo 17 = .ok (.if_icmp .ge 37, 3) := by decide +kernel
theorem dX5_answersTo_20 : decode cX5_answersTo 20 = .ok (.aload_n 0, 1) := by decide +kernel
theorem dX5_answersTo_21 : decode cX5_answersTo 21 = .ok (.getfield 31, 3) := by decide +kernel
theorem dX5_answersTo_24 : decode cX5_answersTo 24 = .ok (.getfield 223, 3) := by decide +kernel
theorem dX5_answersTo_27 : decode cX5_answersTo 27 = .ok (.iload_n 3, 1) := by decide +kernel
theorem dX5_answersTo_28 : decode cX5_answersTo 28 = .ok (.baload, 1) := by decide +kernel
theorem dX5_answersTo_29 : decode cX5_answersTo 29 = .ok (.ifCond .eq 19, 3) := by decide +kernel
theorem dX5_answersTo_32 : decode cX5_answersTo 32 = .ok (.aload_n 0, 1) := by decide +kernel
theorem dX5_answersTo_33 : decode cX5_answersTo 33 = .ok (.getfield 31, 3) := by decide +kernel
theorem dX5_answersTo_36 : decode cX5_answersTo 36 = .ok (.getfield 227, 3) := by decide +kernel
theorem dX5_answersTo_39 : decode cX5_answersTo 39 = .ok (.iload_n 3, 1) := by decide +kernel
theorem dX5_answersTo_40 : decode cX5_answersTo 40 = .ok (.iaload, 1) := by decide +kernel
theorem dX5_answersTo_41 : decode cX5_answersTo 41 = .ok (.iload_n 1, 1) := by decide +kernel
theorem dX5_answersTo_42 : decode cX5_answersTo 42 = .ok (.if_icmp .ne 6, 3) := by decide +kernel
theorem dX5_answersTo_45 : decode cX5_answersTo 45 = .ok (.iinc 2 1, 3) := by decide +kernel
theorem dX5_answersTo_48 : decode cX5_answersTo 48 = .ok (.iinc 3 1, 3) := by decide +kernel
theorem dX5_answersTo_51 : decode cX5_answersTo 51 = .ok (.goto (-42), 3) := by decide +kernel
theorem dX5_answersTo_54 : decode cX5_answersTo 54 = .ok (.iload_n 2, 1) := by decide +kernel
theorem dX5_answersTo_55 : decode cX5_answersTo 55 = .ok (.ireturn, 1) := by decide +kernel
theorem dX5_target_0 : decode cX5_target 0 = .ok (.aload_n 0, 1) := by decide +kernel
theorem dX5_target_1 : decode cX5_target 1 = .ok (.iload_n 1, 1) := by decide +kernel
theorem dX5_target_2 : decode cX5_target 2 = .ok (.invokevirtual 71, 3) := by decide +kernel
theorem dX5_target_5 : decode cX5_target 5 = .ok (.aload_n 0, 1) := by decide +kernel
theorem dX5_target_6 : decode cX5_target 6 = .ok (.getfield 10, 3) := by decide +kernel
theorem dX5_target_9 : decode cX5_target 9 = .ok (.getfield 230, 3) := by decide +kernel
theorem dX5_target_12 : decode cX5_target 12 = .ok (.iload_n 1, 1) := by decide +kernel
theorem dX5_target_13 : decode cX5_target 13 = .ok (.iaload, 1) := by decide +kernel
theorem dX5_target_14 : decode cX5_target 14 = .ok (.ireturn, 1) := by decide +kernel
theorem dX5_weight_0 : decode cX5_weight 0 = .ok (.aload_n 0, 1) := by decide +kernel
theorem dX5_weight_1 : decode cX5_weight 1 = .ok (.iload_n 1, 1) := by decide +kernel
theorem dX5_weight_2 : decode cX5_weight 2 = .ok (.invokevirtual 214, 3) := by decide +kernel
theorem dX5_weight_5 : decode cX5_weight 5 = .ok (.aload_n 0, 1) := by decide +kernel
theorem dX5_weight_6 : decode cX5_weight 6 = .ok (.getfield 31, 3) := by decide +kernel
theorem dX5_weight_9 : decode cX5_weight 9 = .ok (.getfield 233, 3) := by decide +kernel
theorem dX5_weight_12 : decode cX5_weight 12 = .ok (.iload_n 1, 1) := by decide +kernel
theorem dX5_weight_13 : decode cX5_weight 13 = .ok (.iaload, 1) := by decide +kernel
theorem dX5_weight_14 : decode cX5_weight 14 = .ok (.ireturn, 1) := by decide +kernel
theorem dX5_weightAnew_0 : decode cX5_weightAnew 0 = .ok (.aload_n 0, 1) := by decide +kernel
theorem dX5_weightAnew_1 : decode cX5_weightAnew 1 = .ok (.iload_n 1, 1) := by decide +kernel
theorem dX5_weightAnew_2 : decode cX5_weightAnew 2 = .ok (.invokevirtual 214, 3) := by decide +kernel
theorem dX5_weightAnew_5 : decode cX5_weightAnew 5 = .ok (.aload_n 0, 1) := by decide +kernel
theorem dX5_weightAnew_6 : decode cX5_weightAnew 6 = .ok (.invokevirtual 236, 3) := by decide +kernel
theorem dX5_weightAnew_9 : decode cX5_weightAnew 9 = .ok (.aload_n 0, 1) := by decide +kernel
theorem dX5_weightAnew_10 : decode cX5_weightAnew 10 = .ok (.getfield 35, 3) := by decide +kernel
theorem dX5_weightAnew_13 : decode cX5_weightAnew 13 = .ok (.getfield 233, 3) := by decide +kernel
theorem dX5_weightAnew_16 : decode cX5_weightAnew 16 = .ok (.iload_n 1, 1) := by decide +kernel
theorem dX5_weightAnew_17 : decode cX5_weightAnew 17 = .ok (.iaload, 1) := by decide +kernel
theorem dX5_weightAnew_18 : decode cX5_weightAnew 18 = .ok (.ireturn, 1) := by decide +kernel
theorem dX5_weightOfLanguage_0 : decode cX5_weightOfLanguage 0 = .ok (.aload_n 0, 1) := by decide +kernel
theorem dX5_weightOfLanguage_1 : decode cX5_weightOfLanguage 1 = .ok (.iload_n 1, 1) := by decide +kernel
theorem dX5_weightOfLanguage_2 : decode cX5_weightOfLanguage 2 = .ok (.invokevirtual 78, 3) := by decide +kernel
theorem dX5_weightOfLanguage_5 : decode cX5_weightOfLanguage 5 = .ok (.aload_n 0, 1) := by decide +kernel
theorem dX5_weightOfLanguage_6 : decode cX5_weightOfLanguage 6 = .ok (.getfield 31, 3) := by decide +kernel
theorem dX5_weightOfLanguage_9 : decode cX5_weightOfLanguage 9 = .ok (.aload_n 0, 1) := by decide +kernel
theorem dX5_weightOfLanguage_10 : decode cX5_weightOfLanguage 10 = .ok (.getfield 10, 3) := by decide +kernel
theorem dX5_weightOfLanguage_13 : decode cX5_weightOfLanguage 13 = .ok (.getfield 91, 3) := by decide +kernel
theorem dX5_weightOfLanguage_16 : decode cX5_weightOfLanguage 16 = .ok (.iload_n 1, 1) := by decide +kernel
theorem dX5_weightOfLanguage_17 : decode cX5_weightOfLanguage 17 = .ok (.aload_n 0, 1) := by decide +kernel
theorem dX5_weightOfLanguage_18 : decode cX5_weightOfLanguage 18 = .ok (.getfield 10, 3) := by decide +kernel
theorem dX5_weightOfLanguage_21 : decode cX5_weightOfLanguage 21 = .ok (.getfield 81, 3) := by decide +kernel
theorem dX5_weightOfLanguage_24 : decode cX5_weightOfLanguage 24 = .ok (.invokevirtual 239, 3) := by decide +kernel
theorem dX5_weightOfLanguage_27 : decode cX5_weightOfLanguage 27 = .ok (.ireturn, 1) := by decide +kernel
theorem dX5_weightedSum_0 : decode cX5_weightedSum 0 = .ok (.lconst 0, 1) := by decide +kernel
theorem dX5_weightedSum_1 : decode cX5_weightedSum 1 = .ok (.lstore_n 1, 1) := by decide +kernel
theorem dX5_weightedSum_2 : decode cX5_weightedSum 2 = .ok (.iconst 0, 1) := by decide +kernel
theorem dX5_weightedSum_3 : decode cX5_weightedSum 3 = .ok (.istore_n 3, 1) := by decide +kernel
theorem dX5_weightedSum_4 : decode cX5_weightedSum 4 = .ok (.iload_n 3, 1) := by decide +kernel
theorem dX5_weightedSum_5 : decode cX5_weightedSum 5 = .ok (.aload_n 0, 1) := by decide +kernel
theorem dX5_weightedSum_6 : decode cX5_weightedSum 6 = .ok (.getfield 10, 3) := by decide +kernel
theorem dX5_weightedSum_9 : decode cX5_weightedSum 9 = .ok (.getfield 81, 3) := by decide +kernel
theorem dX5_weightedSum_12 : decode cX5_weightedSum 12 = .ok (.if_icmp .ge 45, 3) := by decide +kernel
theorem dX5_weightedSum_15 : decode cX5_weightedSum 15 = .ok (.aload_n 0, 1) := by decide +kernel
theorem dX5_weightedSum_16 : decode cX5_weightedSum 16 = .ok (.getfield 31, 3) := by decide +kernel
theorem dX5_weightedSum_19 : decode cX5_weightedSum 19 = .ok (.getfield 223, 3) := by decide +kernel
theorem dX5_weightedSum_22 : decode cX5_weightedSum 22 = .ok (.iload_n 3, 1) := by decide +kernel
theorem dX5_weightedSum_23 : decode cX5_weightedSum 23 = .ok (.baload, 1) := by decide +kernel
theorem dX5_weightedSum_24 : decode cX5_weightedSum 24 = .ok (.ifCond .eq 27, 3) := by decide +kernel
theorem dX5_weightedSum_27 : decode cX5_weightedSum 27 = .ok (.lload_n 1, 1) := by decide +kernel
theorem dX5_weightedSum_28 : decode cX5_weightedSum 28 = .ok (.aload_n 0, 1) := by decide +kernel
theorem dX5_weightedSum_29 : decode cX5_weightedSum 29 = .ok (.getfield 31, 3) := by decide +kernel
theorem dX5_weightedSum_32 : decode cX5_weightedSum 32 = .ok (.getfield 191, 3) := by decide +kernel
theorem dX5_weightedSum_35 : decode cX5_weightedSum 35 = .ok (.iload_n 3, 1) := by decide +kernel
theorem dX5_weightedSum_36 : decode cX5_weightedSum 36 = .ok (.iaload, 1) := by decide +kernel
theorem dX5_weightedSum_37 : decode cX5_weightedSum 37 = .ok (.i2l, 1) := by decide +kernel
theorem dX5_weightedSum_38 : decode cX5_weightedSum 38 = .ok (.aload_n 0, 1) := by decide +kernel
theorem dX5_weightedSum_39 : decode cX5_weightedSum 39 = .ok (.getfield 31, 3) := by decide +kernel
theorem dX5_weightedSum_42 : decode cX5_weightedSum 42 = .ok (.getfield 233, 3) := by decide +kernel
theorem dX5_weightedSum_45 : decode cX5_weightedSum 45 = .ok (.iload_n 3, 1) := by decide +kernel
theorem dX5_weightedSum_46 : decode cX5_weightedSum 46 = .ok (.iaload, 1) := by decide +kernel
theorem dX5_weightedSum_47 : decode cX5_weightedSum 47 = .ok (.i2l, 1) := by decide +kernel
theorem dX5_weightedSum_48 : decode cX5_weightedSum 48 = .ok (.lmul, 1) := by decide +kernel
theorem dX5_weightedSum_49 : decode cX5_weightedSum 49 = .ok (.ladd, 1) := by decide +kernel
theorem dX5_weightedSum_50 : decode cX5_weightedSum 50 = .ok (.lstore_n 1, 1) := by decide +kernel
theorem dX5_weightedSum_51 : decode cX5_weightedSum 51 = .ok (.iinc 3 1, 3) := by decide +kernel
theorem dX5_weightedSum_54 : decode cX5_weightedSum 54 = .ok (.goto (-50), 3) := by decide +kernel
theorem dX5_weightedSum_57 : decode cX5_weightedSum 57 = .ok (.lload_n 1, 1) := by decide +kernel
theorem dX5_weightedSum_58 : decode cX5_weightedSum 58 = .ok (.lreturn, 1) := by decide +kernel
theorem dX5_weightedMean_0 : decode cX5_weightedMean 0 = .ok (.aload_n 0, 1) := by decide +kernel
theorem dX5_weightedMean_1 : decode cX5_weightedMean 1 = .ok (.invokevirtual 243, 3) := by decide +kernel
theorem dX5_weightedMean_4 : decode cX5_weightedMean 4 = .ok (.lstore_n 1, 1) := by decide +kernel
theorem dX5_weightedMean_5 : decode cX5_weightedMean 5 = .ok (.lload_n 1, 1) := by decide +kernel
theorem dX5_weightedMean_6 : decode cX5_weightedMean 6 = .ok (.lconst 0, 1) := by decide +kernel
theorem dX5_weightedMean_7 : decode cX5_weightedMean 7 = .ok (.lcmp, 1) := by decide +kernel
theorem dX5_weightedMean_8 : decode cX5_weightedMean 8 = .ok (.ifCond .ne 13, 3) := by decide +kernel
theorem dX5_weightedMean_11 : decode cX5_weightedMean 11 = .ok (.new 247, 3) := by decide +kernel
theorem dX5_weightedMean_14 : decode cX5_weightedMean 14 = .ok (.dup, 1) := by decide +kernel
theorem dX5_weightedMean_15 : decode cX5_weightedMean 15 = .ok (.ldc 249, 2) := by decide +kernel
theorem dX5_weightedMean_17 : decode cX5_weightedMean 17 = .ok (.invokespecial 251, 3) := by decide +kernel
theorem dX5_weightedMean_20 : decode cX5_weightedMean 20 = .ok (.athrow, 1) := by decide +kernel
theorem dX5_weightedMean_21 : decode cX5_weightedMean 21 = .ok (.aload_n 0, 1) := by decide +kernel
theorem dX5_weightedMean_22 : decode cX5_weightedMean 22 = .ok (.invokevirtual 252, 3) := by decide +kernel
theorem dX5_weightedMean_25 : decode cX5_weightedMean 25 = .ok (.l2d, 1) := by decide +kernel
theorem dX5_weightedMean_26 : decode cX5_weightedMean 26 = .ok (.lload_n 1, 1) := by decide +kernel
theorem dX5_weightedMean_27 : decode cX5_weightedMean 27 = .ok (.l2d, 1) := by decide +kernel
theorem dX5_weightedMean_28 : decode cX5_weightedMean 28 = .ok (.ddiv, 1) := by decide +kernel
theorem dX5_weightedMean_29 : decode cX5_weightedMean 29 = .ok (.dreturn, 1) := by decide +kernel
theorem dX5_rate_0 : decode cX5_rate 0 = .ok (.iconst 0, 1) := by decide +kernel
theorem dX5_rate_1 : decode cX5_rate 1 = .ok (.istore_n 1, 1) := by decide +kernel
theorem dX5_rate_2 : decode cX5_rate 2 = .ok (.iconst 0, 1) := by decide +kernel
theorem dX5_rate_3 : decode cX5_rate 3 = .ok (.istore_n 2, 1) := by decide +kernel
theorem dX5_rate_4 : decode cX5_rate 4 = .ok (.iconst 0, 1) := by decide +kernel
theorem dX5_rate_5 : decode cX5_rate 5 = .ok (.istore_n 3, 1) := by decide +kernel
theorem dX5_rate_6 : decode cX5_rate 6 = .ok (.iload_n 3, 1) := by decide +kernel
theorem dX5_rate_7 : decode cX5_rate 7 = .ok (.aload_n 0, 1) := by decide +kernel
theorem dX5_rate_8 : decode cX5_rate 8 = .ok (.getfield 10, 3) := by decide +kernel
theorem dX5_rate_11 : decode cX5_rate 11 = .ok (.getfield 81, 3) := by decide +kernel
theorem dX5_rate_14 : decode cX5_rate 14 = .ok (.if_icmp .ge 47, 3) := by decide +kernel
theorem dX5_rate_17 : decode cX5_rate 17 = .ok (.aload_n 0, 1) := by decide +kernel
theorem dX5_rate_18 : decode cX5_rate 18 = .ok (.getfield 18, 3) := by decide +kernel
theorem dX5_rate_21 : decode cX5_rate 21 = .ok (.iload_n 3, 1) := by decide +kernel
theorem dX5_rate_22 : decode cX5_rate 22 = .ok (.aaload, 1) := by decide +kernel
theorem dX5_rate_23 : decode cX5_rate 23 = .ok (.getfield 182, 3) := by decide +kernel
theorem dX5_rate_26 : decode cX5_rate 26 = .ok (.istore 4, 2) := by decide +kernel
theorem dX5_rate_28 : decode cX5_rate 28 = .ok (.iload 4, 2) := by decide +kernel
theorem dX5_rate_30 : decode cX5_rate 30 = .ok (.bipush 97, 2) := by decide +kernel
theorem dX5_rate_32 : decode cX5_rate 32 = .ok (.if_icmp .ne 6, 3) := by decide +kernel
theorem dX5_rate_35 : decode cX5_rate 35 = .ok (.iinc 1 1, 3) := by decide +kernel
theorem dX5_rate_38 : decode cX5_rate 38 = .ok (.iload 4, 2) := by decide +kernel
theorem dX5_rate_40 : decode cX5_rate 40 = .ok (.bipush 117, 2) := by decide +kernel
theorem dX5_rate_42 : decode cX5_rate 42 = .ok (.if_icmp .eq 13, 3) := by decide +kernel
theorem dX5_rate_45 : decode cX5_rate 45 = .ok (.iload 4, 2) := by decide +kernel
theorem dX5_rate_47 : decode cX5_rate 47 = .ok (.bipush 101, 2) := by decide +kernel
theorem dX5_rate_49 : decode cX5_rate 49 = .ok (.if_icmp .eq 6, 3) := by decide +kernel
theorem dX5_rate_52 : decode cX5_rate 52 = .ok (.iinc 2 1, 3) := by decide +kernel
theorem dX5_rate_55 : decode cX5_rate 55 = .ok (.iinc 3 1, 3) := by decide +kernel
theorem dX5_rate_58 : decode cX5_rate 58 = .ok (.goto (-52), 3) := by decide +kernel
theorem dX5_rate_61 : decode cX5_rate 61 = .ok (.iload_n 2, 1) := by decide +kernel
theorem dX5_rate_62 : decode cX5_rate 62 = .ok (.ifCond .ne 13, 3) := by decide +kernel
theorem dX5_rate_65 : decode cX5_rate 65 = .ok (.new 247, 3) := by decide +kernel
theorem dX5_rate_68 : decode cX5_rate 68 = .ok (.dup, 1) := by decide +kernel
theorem dX5_rate_69 : decode cX5_rate 69 = .ok (.ldc 255, 2) := by decide +kernel
theorem dX5_rate_71 : decode cX5_rate 71 = .ok (.invokespecial 251, 3) := by decide +kernel
theorem dX5_rate_74 : decode cX5_rate 74 = .ok (.athrow, 1) := by decide +kernel
theorem dX5_rate_75 : decode cX5_rate 75 = .ok (.iload_n 1, 1) := by decide +kernel
theorem dX5_rate_76 : decode cX5_rate 76 = .ok (.i2f, 1) := by decide +kernel
theorem dX5_rate_77 : decode cX5_rate 77 = .ok (.iload_n 2, 1) := by decide +kernel
theorem dX5_rate_78 : decode cX5_rate 78 = .ok (.i2f, 1) := by decide +kernel
theorem dX5_rate_79 : decode cX5_rate 79 = .ok (.fdiv, 1) := by decide +kernel
theorem dX5_rate_80 : decode cX5_rate 80 = .ok (.freturn, 1) := by decide +kernel
theorem dX5_isSound_0 : decode cX5_isSound 0 = .ok (.aload_n 0, 1) := by decide +kernel
theorem dX5_isSound_1 : decode cX5_isSound 1 = .ok (.invokevirtual 236, 3) := by decide +kernel
theorem dX5_isSound_4 : decode cX5_isSound 4 = .ok (.aload_n 0, 1) := by decide +kernel
theorem dX5_isSound_5 : decode cX5_isSound 5 = .ok (.getfield 31, 3) := by decide +kernel
theorem dX5_isSound_8 : decode cX5_isSound 8 = .ok (.aload_n 0, 1) := by decide +kernel
theorem dX5_isSound_9 : decode cX5_isSound 9 = .ok (.getfield 10, 3) := by decide +kernel
theorem dX5_isSound_12 : decode cX5_isSound 12 = .ok (.invokevirtual 257, 3) := by decide +kernel
theorem dX5_isSound_15 : decode cX5_isSound 15 = .ok (.ifCond .eq 28, 3) := by decide +kernel
theorem dX5_isSound_18 : decode cX5_isSound 18 = .ok (.aload_n 0, 1) := by decide +kernel
theorem dX5_isSound_19 : decode cX5_isSound 19 = .ok (.getfield 31, 3) := by decide +kernel
theorem dX5_isSound_22 : decode cX5_isSound 22 = .ok (.aload_n 0, 1) := by decide +kernel
theorem dX5_isSound_23 : decode cX5_isSound 23 = .ok (.getfield 35, 3) := by decide +kernel
theorem dX5_isSound_26 : decode cX5_isSound 26 = .ok (.aload_n 0, 1) := by decide +kernel
theorem dX5_isSound_27 : decode cX5_isSound 27 = .ok (.getfield 10, 3) := by decide +kernel
theorem dX5_isSound_30 : decode cX5_isSound 30 = .ok (.getfield 81, 3) := by decide +kernel
theorem dX5_isSound_33 : decode cX5_isSound 33 = .ok (.invokevirtual 261, 3) := by decide +kernel
theorem dX5_isSound_36 : decode cX5_isSound 36 = .ok (.ifCond .eq 7, 3) := by decide +kernel
theorem dX5_isSound_39 : decode cX5_isSound 39 = .ok (.iconst 1, 1) := by decide +kernel
theorem dX5_isSound_40 : decode cX5_isSound 40 = .ok (.goto 4, 3) := by decide +kernel
theorem dX5_isSound_43 : decode cX5_isSound 43 = .ok (.iconst 0, 1) := by decide +kernel
theorem dX5_isSound_44 : decode cX5_isSound 44 = .ok (.ireturn, 1) := by decide +kernel
theorem dX5_requireStratum_0 : decode cX5_requireStratum 0 = .ok (.iload_n 1, 1) := by decide +kernel
theorem dX5_requireStratum_1 : decode cX5_requireStratum 1 = .ok (.ifCond .lt 14, 3) := by decide +kernel
theorem dX5_requireStratum_4 : decode cX5_requireStratum 4 = .ok (.iload_n 1, 1) := by decide +kernel
theorem dX5_requireStratum_5 : decode cX5_requireStratum 5 = .ok (.aload_n 0, 1) := by decide +kernel
theorem dX5_requireStratum_6 : decode cX5_requireStratum 6 = .ok (.getfield 10, 3) := by decide +kernel
theorem dX5_requireStratum_9 : decode cX5_requireStratum 9 = .ok (.getfield 63, 3) := by decide +kernel
theorem dX5_requireStratum_12 : decode cX5_requireStratum 12 = .ok (.if_icmp .lt 14, 3) := by decide +kernel
theorem dX5_requireStratum_15 : decode cX5_requireStratum 15 = .ok (.new 265, 3) := by decide +kernel
theorem dX5_requireStratum_18 : decode cX5_requireStratum 18 = .ok (.dup, 1) := by decide +kernel
theorem dX5_requireStratum_19 : decode cX5_requireStratum 19 = .ok (.ldc_w 267, 3) := by decide +kernel
theorem dX5_requireStratum_22 : decode cX5_requireStratum 22 = .ok (.invokespecial 269, 3) := by decide +kernel
theorem dX5_requireStratum_25 : decode cX5_requireStratum 25 = .ok (.athrow, 1) := by decide +kernel
theorem dX5_requireStratum_26 : decode cX5_requireStratum 26 = .ok (.return_, 1) := by decide +kernel
theorem dX5_requireInterviewer_0 : decode cX5_requireInterviewer 0 = .ok (.iload_n 1, 1) := by decide +kernel
theorem dX5_requireInterviewer_1 : decode cX5_requireInterviewer 1 = .ok (.ifCond .lt 11, 3) := by decide +kernel
theorem dX5_requireInterviewer_4 : decode cX5_requireInterviewer 4 = .ok (.iload_n 1, 1) := by decide +kernel
theorem dX5_requireInterviewer_5 : decode cX5_requireInterviewer 5 = .ok (.aload_n 0, 1) := by decide +kernel
theorem dX5_requireInterviewer_6 : decode cX5_requireInterviewer 6 = .ok (.getfield 45, 3) := by decide +kernel
theorem dX5_requireInterviewer_9 : decode cX5_requireInterviewer 9 = .ok (.if_icmp .lt 14, 3) := by decide +kernel
theorem dX5_requireInterviewer_12 : decode cX5_requireInterviewer 12 = .ok (.new 265, 3) := by decide +kernel
theorem dX5_requireInterviewer_15 : decode cX5_requireInterviewer 15 = .ok (.dup, 1) := by decide +kernel
theorem dX5_requireInterviewer_16 : decode cX5_requireInterviewer 16 = .ok (.ldc_w 270, 3) := by decide +kernel
theorem dX5_requireInterviewer_19 : decode cX5_requireInterviewer 19 = .ok (.invokespecial 269, 3) := by decide +kernel
theorem dX5_requireInterviewer_22 : decode cX5_requireInterviewer 22 = .ok (.athrow, 1) := by decide +kernel
theorem dX5_requireInterviewer_23 : decode cX5_requireInterviewer 23 = .ok (.return_, 1) := by decide +kernel
theorem dX5_requirePlace_0 : decode cX5_requirePlace 0 = .ok (.iload_n 1, 1) := by decide +kernel
theorem dX5_requirePlace_1 : decode cX5_requirePlace 1 = .ok (.ifCond .lt 9, 3) := by decide +kernel
theorem dX5_requirePlace_4 : decode cX5_requirePlace 4 = .ok (.iload_n 1, 1) := by decide +kernel
theorem dX5_requirePlace_5 : decode cX5_requirePlace 5 = .ok (.bipush 99, 2) := by decide +kernel
theorem dX5_requirePlace_7 : decode cX5_requirePlace 7 = .ok (.if_icmp .le 14, 3) := by decide +kernel
theorem dX5_requirePlace_10 : decode cX5_requirePlace 10 = .ok (.new 56, 3) := by decide +kernel
theorem dX5_requirePlace_13 : decode cX5_requirePlace 13 = .ok (.dup, 1) := by decide +kernel
theorem dX5_requirePlace_14 : decode cX5_requirePlace 14 = .ok (.ldc_w 272, 3) := by decide +kernel
theorem dX5_requirePlace_17 : decode cX5_requirePlace 17 = .ok (.invokespecial 60, 3) := by decide +kernel
theorem dX5_requirePlace_20 : decode cX5_requirePlace 20 = .ok (.athrow, 1) := by decide +kernel
theorem dX5_requirePlace_21 : decode cX5_requirePlace 21 = .ok (.return_, 1) := by decide +kernel
theorem dX5_requireLanguage_0 : decode cX5_requireLanguage 0 = .ok (.iload_n 1, 1) := by decide +kernel
theorem dX5_requireLanguage_1 : decode cX5_requireLanguage 1 = .ok (.ifCond .lt 8, 3) := by decide +kernel
theorem dX5_requireLanguage_4 : decode cX5_requireLanguage 4 = .ok (.iload_n 1, 1) := by decide +kernel
theorem dX5_requireLanguage_5 : decode cX5_requireLanguage 5 = .ok (.iconst 3, 1) := by decide +kernel
theorem dX5_requireLanguage_6 : decode cX5_requireLanguage 6 = .ok (.if_icmp .lt 14, 3) := by decide +kernel
theorem dX5_requireLanguage_9 : decode cX5_requireLanguage 9 = .ok (.new 56, 3) := by decide +kernel
theorem dX5_requireLanguage_12 : decode cX5_requireLanguage 12 = .ok (.dup, 1) := by decide +kernel
theorem dX5_requireLanguage_13 : decode cX5_requireLanguage 13 = .ok (.ldc_w 274, 3) := by decide +kernel
theorem dX5_requireLanguage_16 : decode cX5_requireLanguage 16 = .ok (.invokespecial 60, 3) := by decide +kernel
theorem dX5_requireLanguage_19 : decode cX5_requireLanguage 19 = .ok (.athrow, 1) := by decide +kernel
theorem dX5_requireLanguage_20 : decode cX5_requireLanguage 20 = .ok (.return_, 1) := by decide +kernel
theorem dX5_requireOutcome_0 : decode cX5_requireOutcome 0 = .ok (.iload_n 1, 1) := by decide +kernel
theorem dX5_requireOutcome_1 : decode cX5_requireOutcome 1 = .ok (.bipush 97, 2) := by decide +kernel
theorem dX5_requireOutcome_3 : decode cX5_requireOutcome 3 = .ok (.if_icmp .eq 32, 3) := by decide +kernel
theorem dX5_requireOutcome_6 : decode cX5_requireOutcome 6 = .ok (.iload_n 1, 1) := by decide +kernel
theorem dX5_requireOutcome_7 : decode cX5_requireOutcome 7 = .ok (.bipush 110, 2) := by decide +kernel
theorem dX5_requireOutcome_9 : decode cX5_requireOutcome 9 = .ok (.if_icmp .eq 26, 3) := by decide +kernel
theorem dX5_requireOutcome_12 : decode cX5_requireOutcome 12 = .ok (.iload_n 1, 1) := by decide +kernel
theorem dX5_requireOutcome_13 : decode cX5_requireOutcome 13 = .ok (.bipush 114, 2) := by decide +kernel
theorem dX5_requireOutcome_15 : decode cX5_requireOutcome 15 = .ok (.if_icmp .eq 20, 3) := by decide +kernel
theorem dX5_requireOutcome_18 : decode cX5_requireOutcome 18 = .ok (.iload_n 1, 1) := by decide +kernel
theorem dX5_requireOutcome_19 : decode cX5_requireOutcome 19 = .ok (.bipush 101, 2) := by decide +kernel
theorem dX5_requireOutcome_21 : decode cX5_requireOutcome 21 = .ok (.if_icmp .eq 14, 3) := by decide +kernel
theorem dX5_requireOutcome_24 : decode cX5_requireOutcome 24 = .ok (.new 56, 3) := by decide +kernel
theorem dX5_requireOutcome_27 : decode cX5_requireOutcome 27 = .ok (.dup, 1) := by decide +kernel
theorem dX5_requireOutcome_28 : decode cX5_requireOutcome 28 = .ok (.ldc_w 276, 3) := by decide +kernel
theorem dX5_requireOutcome_31 : decode cX5_requireOutcome 31 = .ok (.invokespecial 60, 3) := by decide +kernel
theorem dX5_requireOutcome_34 : decode cX5_requireOutcome 34 = .ok (.athrow, 1) := by decide +kernel
theorem dX5_requireOutcome_35 : decode cX5_requireOutcome 35 = .ok (.return_, 1) := by decide +kernel
theorem dX5_requireAnswer_0 : decode cX5_requireAnswer 0 = .ok (.iload_n 1, 1) := by decide +kernel
theorem dX5_requireAnswer_1 : decode cX5_requireAnswer 1 = .ok (.ifCond .lt 9, 3) := by decide +kernel
theorem dX5_requireAnswer_4 : decode cX5_requireAnswer 4 = .ok (.iload_n 1, 1) := by decide +kernel
theorem dX5_requireAnswer_5 : decode cX5_requireAnswer 5 = .ok (.bipush 9, 2) := by decide +kernel
theorem dX5_requireAnswer_7 : decode cX5_requireAnswer 7 = .ok (.if_icmp .le 14, 3) := by decide +kernel
theorem dX5_requireAnswer_10 : decode cX5_requireAnswer 10 = .ok (.new 56, 3) := by decide +kernel
theorem dX5_requireAnswer_13 : decode cX5_requireAnswer 13 = .ok (.dup, 1) := by decide +kernel
theorem dX5_requireAnswer_14 : decode cX5_requireAnswer 14 = .ok (.ldc_w 278, 3) := by decide +kernel
theorem dX5_requireAnswer_17 : decode cX5_requireAnswer 17 = .ok (.invokespecial 60, 3) := by decide +kernel
theorem dX5_requireAnswer_20 : decode cX5_requireAnswer 20 = .ok (.athrow, 1) := by decide +kernel
theorem dX5_requireAnswer_21 : decode cX5_requireAnswer 21 = .ok (.return_, 1) := by decide +kernel
theorem dX5_requireOpenVisit_0 : decode cX5_requireOpenVisit 0 = .ok (.aload_n 1, 1) := by decide +kernel
theorem dX5_requireOpenVisit_1 : decode cX5_requireOpenVisit 1 = .ok (.getfield 155, 3) := by decide +kernel
theorem dX5_requireOpenVisit_4 : decode cX5_requireOpenVisit 4 = .ok (.iconst (-1), 1) := by decide +kernel
theorem dX5_requireOpenVisit_5 : decode cX5_requireOpenVisit 5 = .ok (.if_icmp .ne 14, 3) := by decide +kernel
theorem dX5_requireOpenVisit_8 : decode cX5_requireOpenVisit 8 = .ok (.new 66, 3) := by decide +kernel
theorem dX5_requireOpenVisit_11 : decode cX5_requireOpenVisit 11 = .ok (.dup, 1) := by decide +kernel
theorem dX5_requireOpenVisit_12 : decode cX5_requireOpenVisit 12 = .ok (.ldc_w 280, 3) := by decide +kernel
theorem dX5_requireOpenVisit_15 : decode cX5_requireOpenVisit 15 = .ok (.invokespecial 70, 3) := by decide +kernel
theorem dX5_requireOpenVisit_18 : decode cX5_requireOpenVisit 18 = .ok (.athrow, 1) := by decide +kernel
theorem dX5_requireOpenVisit_19 : decode cX5_requireOpenVisit 19 = .ok (.aload_n 1, 1) := by decide +kernel
theorem dX5_requireOpenVisit_20 : decode cX5_requireOpenVisit 20 = .ok (.getfield 162, 3) := by decide +kernel
theorem dX5_requireOpenVisit_23 : decode cX5_requireOpenVisit 23 = .ok (.ifCond .eq 14, 3) := by decide +kernel
theorem dX5_requireOpenVisit_26 : decode cX5_requireOpenVisit 26 = .ok (.new 66, 3) := by decide +kernel
theorem dX5_requireOpenVisit_29 : decode cX5_requireOpenVisit 29 = .ok (.dup, 1) := by decide +kernel
theorem dX5_requireOpenVisit_30 : decode cX5_requireOpenVisit 30 = .ok (.ldc_w 282, 3) := by decide +kernel
theorem dX5_requireOpenVisit_33 : decode cX5_requireOpenVisit 33 = .ok (.invokespecial 70, 3) := by decide +kernel
theorem dX5_requireOpenVisit_36 : decode cX5_requireOpenVisit 36 = .ok (.athrow, 1) := by decide +kernel
theorem dX5_requireOpenVisit_37 : decode cX5_requireOpenVisit 37 = .ok (.aload_n 0, 1) := by decide +kernel
theorem dX5_requireOpenVisit_38 : decode cX5_requireOpenVisit 38 = .ok (.getfield 31, 3) := by decide +kernel
theorem dX5_requireOpenVisit_41 : decode cX5_requireOpenVisit 41 = .ok (.aload_n 1, 1) := by decide +kernel
theorem dX5_requireOpenVisit_42 : decode cX5_requireOpenVisit 42 = .ok (.getfield 155, 3) := by decide +kernel
theorem dX5_requireOpenVisit_45 : decode cX5_requireOpenVisit 45 = .ok (.invokevirtual 284, 3) := by decide +kernel
theorem dX5_requireOpenVisit_48 : decode cX5_requireOpenVisit 48 = .ok (.ifCond .eq 14, 3) := by decide +kernel
theorem dX5_requireOpenVisit_51 : decode cX5_requireOpenVisit 51 = .ok (.new 66, 3) := by decide +kernel
theorem dX5_requireOpenVisit_54 : decode cX5_requireOpenVisit 54 = .ok (.dup, 1) := by decide +kernel
theorem dX5_requireOpenVisit_55 : decode cX5_requireOpenVisit 55 = .ok (.ldc_w 288, 3) := by decide +kernel
theorem dX5_requireOpenVisit_58 : decode cX5_requireOpenVisit 58 = .ok (.invokespecial 70, 3) := by decide +kernel
theorem dX5_requireOpenVisit_61 : decode cX5_requireOpenVisit 61 = .ok (.athrow, 1) := by decide +kernel
theorem dX5_requireOpenVisit_62 : decode cX5_requireOpenVisit 62 = .ok (.return_, 1) := by decide +kernel
theorem dX5_requireAnswered_0 : decode cX5_requireAnswered 0 = .ok (.aload_n 0, 1) := by decide +kernel
theorem dX5_requireAnswered_1 : decode cX5_requireAnswered 1 = .ok (.iload_n 1, 1) := by decide +kernel
theorem dX5_requireAnswered_2 : decode cX5_requireAnswered 2 = .ok (.invokevirtual 140, 3) := by decide +kernel
theorem dX5_requireAnswered_5 : decode cX5_requireAnswered 5 = .ok (.getfield 182, 3) := by decide +kernel
theorem dX5_requireAnswered_8 : decode cX5_requireAnswered 8 = .ok (.bipush 97, 2) := by decide +kernel
theorem dX5_requireAnswered_10 : decode cX5_requireAnswered 10 = .ok (.if_icmp .eq 14, 3) := by decide +kernel
theorem dX5_requireAnswered_13 : decode cX5_requireAnswered 13 = .ok (.new 128, 3) := by decide +kernel
theorem dX5_requireAnswered_16 : decode cX5_requireAnswered 16 = .ok (.dup, 1) := by decide +kernel
theorem dX5_requireAnswered_17 : decode cX5_requireAnswered 17 = .ok (.ldc_w 290, 3) := by decide +kernel
theorem dX5_requireAnswered_20 : decode cX5_requireAnswered 20 = .ok (.invokespecial 132, 3) := by decide +kernel
theorem dX5_requireAnswered_23 : decode cX5_requireAnswered 23 = .ok (.athrow, 1) := by decide +kernel
theorem dX5_requireAnswered_24 : decode cX5_requireAnswered 24 = .ok (.return_, 1) := by decide +kernel
theorem dX5_houseNumbered_0 : decode cX5_houseNumbered 0 = .ok (.iload_n 1, 1) := by decide +kernel
theorem dX5_houseNumbered_1 : decode cX5_houseNumbered 1 = .ok (.ifCond .lt 14, 3) := by decide +kernel
theorem dX5_houseNumbered_4 : decode cX5_houseNumbered 4 = .ok (.iload_n 1, 1) := by decide +kernel
theorem dX5_houseNumbered_5 : decode cX5_houseNumbered 5 = .ok (.aload_n 0, 1) := by decide +kernel
theorem dX5_houseNumbered_6 : decode cX5_houseNumbered 6 = .ok (.getfield 10, 3) := by decide +kernel
theorem dX5_houseNumbered_9 : decode cX5_houseNumbered 9 = .ok (.getfield 81, 3) := by decide +kernel
theorem dX5_houseNumbered_12 : decode cX5_houseNumbered 12 = .ok (.if_icmp .lt 14, 3) := by decide +kernel
theorem dX5_houseNumbered_15 : decode cX5_houseNumbered 15 = .ok (.new 265, 3) := by decide +kernel
theorem dX5_houseNumbered_18 : decode cX5_houseNumbered 18 = .ok (.dup, 1) := by decide +kernel
theorem dX5_houseNumbered_19 : decode cX5_houseNumbered 19 = .ok (.ldc_w 292, 3) := by decide +kernel
theorem dX5_houseNumbered_22 : decode cX5_houseNumbered 22 = .ok (.invokespecial 269, 3) := by decide +kernel
theorem dX5_houseNumbered_25 : decode cX5_houseNumbered 25 = .ok (.athrow, 1) := by decide +kernel
theorem dX5_houseNumbered_26 : decode cX5_houseNumbered 26 = .ok (.aload_n 0, 1) := by decide +kernel
theorem dX5_houseNumbered_27 : decode cX5_houseNumbered 27 = .ok (.getfield 18, 3) := by decide +kernel
theorem dX5_houseNumbered_30 : decode cX5_houseNumbered 30 = .ok (.iload_n 1, 1) := by decide +kernel
theorem dX5_houseNumbered_31 : decode cX5_houseNumbered 31 = .ok (.aaload, 1) := by decide +kernel
theorem dX5_houseNumbered_32 : decode cX5_houseNumbered 32 = .ok (.areturn, 1) := by decide +kernel
theorem dX5_interviewerNumbered_0 : decode cX5_interviewerNumbered 0 = .ok (.aload_n 0, 1) := by decide +kernel
theorem dX5_interviewerNumbered_1 : decode cX5_interviewerNumbered 1 = .ok (.iload_n 1, 1) := by decide +kernel
theorem dX5_interviewerNumbered_2 : decode cX5_interviewerNumbered 2 = .ok (.invokevirtual 217, 3) := by decide +kernel
theorem dX5_interviewerNumbered_5 : decode cX5_interviewerNumbered 5 = .ok (.aload_n 0, 1) := by decide +kernel
theorem dX5_interviewerNumbered_6 : decode cX5_interviewerNumbered 6 = .ok (.getfield 24, 3) := by decide +kernel
theorem dX5_interviewerNumbered_9 : decode cX5_interviewerNumbered 9 = .ok (.iload_n 1, 1) := by decide +kernel
theorem dX5_interviewerNumbered_10 : decode cX5_interviewerNumbered 10 = .ok (.aaload, 1) := by decide +kernel
theorem dX5_interviewerNumbered_11 : decode cX5_interviewerNumbered 11 = .ok (.areturn, 1) := by decide +kernel
theorem dX5_isUndrawnIn_0 : decode cX5_isUndrawnIn 0 = .ok (.aload_n 0, 1) := by decide +kernel
theorem dX5_isUndrawnIn_1 : decode cX5_isUndrawnIn 1 = .ok (.getfield 10, 3) := by decide +kernel
theorem dX5_isUndrawnIn_4 : decode cX5_isUndrawnIn 4 = .ok (.getfield 87, 3) := by decide +kernel
theorem dX5_isUndrawnIn_7 : decode cX5_isUndrawnIn 7 = .ok (.iload_n 1, 1) := by decide +kernel
theorem dX5_isUndrawnIn_8 : decode cX5_isUndrawnIn 8 = .ok (.iaload, 1) := by decide +kernel
theorem dX5_isUndrawnIn_9 : decode cX5_isUndrawnIn 9 = .ok (.iload_n 2, 1) := by decide +kernel
theorem dX5_isUndrawnIn_10 : decode cX5_isUndrawnIn 10 = .ok (.if_icmp .ne 21, 3) := by decide +kernel
theorem dX5_isUndrawnIn_13 : decode cX5_isUndrawnIn 13 = .ok (.aload_n 0, 1) := by decide +kernel
theorem dX5_isUndrawnIn_14 : decode cX5_isUndrawnIn 14 = .ok (.getfield 18, 3) := by decide +kernel
theorem dX5_isUndrawnIn_17 : decode cX5_isUndrawnIn 17 = .ok (.iload_n 1, 1) := by decide +kernel
theorem dX5_isUndrawnIn_18 : decode cX5_isUndrawnIn 18 = .ok (.aaload, 1) := by decide +kernel
theorem dX5_isUndrawnIn_19 : decode cX5_isUndrawnIn 19 = .ok (.getfield 182, 3) := by decide +kernel
theorem dX5_isUndrawnIn_22 : decode cX5_isUndrawnIn 22 = .ok (.bipush 117, 2) := by decide +kernel
theorem dX5_isUndrawnIn_24 : decode cX5_isUndrawnIn 24 = .ok (.if_icmp .ne 7, 3) := by decide +kernel
theorem dX5_isUndrawnIn_27 : decode cX5_isUndrawnIn 27 = .ok (.iconst 1, 1) := by decide +kernel
theorem dX5_isUndrawnIn_28 : decode cX5_isUndrawnIn 28 = .ok (.goto 4, 3) := by decide +kernel
theorem dX5_isUndrawnIn_31 : decode cX5_isUndrawnIn 31 = .ok (.iconst 0, 1) := by decide +kernel
theorem dX5_isUndrawnIn_32 : decode cX5_isUndrawnIn 32 = .ok (.ireturn, 1) := by decide +kernel
theorem dX5_undrawnIn_0 : decode cX5_undrawnIn 0 = .ok (.iconst 0, 1) := by decide +kernel
theorem dX5_undrawnIn_1 : decode cX5_undrawnIn 1 = .ok (.istore_n 2, 1) := by decide +kernel
theorem dX5_undrawnIn_2 : decode cX5_undrawnIn 2 = .ok (.iconst 0, 1) := by decide +kernel
theorem dX5_undrawnIn_3 : decode cX5_undrawnIn 3 = .ok (.istore_n 3, 1) := by decide +kernel
theorem dX5_undrawnIn_4 : decode cX5_undrawnIn 4 = .ok (.iload_n 3, 1) := by decide +kernel
theorem dX5_undrawnIn_5 : decode cX5_undrawnIn 5 = .ok (.aload_n 0, 1) := by decide +kernel
theorem dX5_undrawnIn_6 : decode cX5_undrawnIn 6 = .ok (.getfield 10, 3) := by decide +kernel
theorem dX5_undrawnIn_9 : decode cX5_undrawnIn 9 = .ok (.getfield 81, 3) := by decide +kernel
theorem dX5_undrawnIn_12 : decode cX5_undrawnIn 12 = .ok (.if_icmp .ge 21, 3) := by decide +kernel
theorem dX5_undrawnIn_15 : decode cX5_undrawnIn 15 = .ok (.aload_n 0, 1) := by decide +kernel
theorem dX5_undrawnIn_16 : decode cX5_undrawnIn 16 = .ok (.iload_n 3, 1) := by decide +kernel
theorem dX5_undrawnIn_17 : decode cX5_undrawnIn 17 = .ok (.iload_n 1, 1) := by decide +kernel
theorem dX5_undrawnIn_18 : decode cX5_undrawnIn 18 = .ok (.invokevirtual 294, 3) := by decide +kernel
theorem dX5_undrawnIn_21 : decode cX5_undrawnIn 21 = .ok (.ifCond .eq 6, 3) := by decide +kernel
theorem dX5_undrawnIn_24 : decode cX5_undrawnIn 24 = .ok (.iinc 2 1, 3) := by decide +kernel
theorem dX5_undrawnIn_27 : decode cX5_undrawnIn 27 = .ok (.iinc 3 1, 3) := by decide +kernel
theorem dX5_undrawnIn_30 : decode cX5_undrawnIn 30 = .ok (.goto (-26), 3) := by decide +kernel
theorem dX5_undrawnIn_33 : decode cX5_undrawnIn 33 = .ok (.iload_n 2, 1) := by decide +kernel
theorem dX5_undrawnIn_34 : decode cX5_undrawnIn 34 = .ok (.ireturn, 1) := by decide +kernel
theorem dX5_drawOne_0 : decode cX5_drawOne 0 = .ok (.aload_n 0, 1) := by decide +kernel
theorem dX5_drawOne_1 : decode cX5_drawOne 1 = .ok (.iload_n 1, 1) := by decide +kernel
theorem dX5_drawOne_2 : decode cX5_drawOne 2 = .ok (.invokevirtual 105, 3) := by decide +kernel
theorem dX5_drawOne_5 : decode cX5_drawOne 5 = .ok (.istore_n 2, 1) := by decide +kernel
theorem dX5_drawOne_6 : decode cX5_drawOne 6 = .ok (.iload_n 2, 1) := by decide +kernel
theorem dX5_drawOne_7 : decode cX5_drawOne 7 = .ok (.ifCond .ne 5, 3) := by decide +kernel
theorem dX5_drawOne_10 : decode cX5_drawOne 10 = .ok (.iconst (-1), 1) := by decide +kernel
theorem dX5_drawOne_11 : decode cX5_drawOne 11 = .ok (.ireturn, 1) := by decide +kernel
theorem dX5_drawOne_12 : decode cX5_drawOne 12 = .ok (.aload_n 0, 1) := by decide +kernel
theorem dX5_drawOne_13 : decode cX5_drawOne 13 = .ok (.aload_n 0, 1) := by decide +kernel
theorem dX5_drawOne_14 : decode cX5_drawOne 14 = .ok (.getfield 49, 3) := by decide +kernel
theorem dX5_drawOne_17 : decode cX5_drawOne 17 = .ok (.sipush 1103, 3) := by decide +kernel
theorem dX5_drawOne_20 : decode cX5_drawOne 20 = .ok (.imul, 1) := by decide +kernel
theorem dX5_drawOne_21 : decode cX5_drawOne 21 = .ok (.sipush 12345, 3) := by decide +kernel
theorem dX5_drawOne_24 : decode cX5_drawOne 24 = .ok (.iadd, 1) := by decide +kernel
theorem dX5_drawOne_25 : decode cX5_drawOne 25 = .ok (.ldc 55, 2) := by decide +kernel
theorem dX5_drawOne_27 : decode cX5_drawOne 27 = .ok (.irem, 1) := by decide +kernel
theorem dX5_drawOne_28 : decode cX5_drawOne 28 = .ok (.putfield 49, 3) := by decide +kernel
theorem dX5_drawOne_31 : decode cX5_drawOne 31 = .ok (.aload_n 0, 1) := by decide +kernel
theorem dX5_drawOne_32 : decode cX5_drawOne 32 = .ok (.getfield 49, 3) := by decide +kernel
theorem dX5_drawOne_35 : decode cX5_drawOne 35 = .ok (.iload_n 2, 1) := by decide +kernel
theorem dX5_drawOne_36 : decode cX5_drawOne 36 = .ok (.irem, 1) := by decide +kernel
theorem dX5_drawOne_37 : decode cX5_drawOne 37 = .ok (.istore_n 3, 1) := by decide +kernel
theorem dX5_drawOne_38 : decode cX5_drawOne 38 = .ok (.iconst 0, 1) := by decide +kernel
theorem dX5_drawOne_39 : decode cX5_drawOne 39 = .ok (.istore 4, 2) := by decide +kernel
theorem dX5_drawOne_41 : decode cX5_drawOne 41 = .ok (.iload 4, 2) := by decide +kernel
theorem dX5_drawOne_43 : decode cX5_drawOne 43 = .ok (.aload_n 0, 1) := by decide +kernel
theorem dX5_drawOne_44 : decode cX5_drawOne 44 = .ok (.getfield 10, 3) := by decide +kernel
theorem dX5_drawOne_47 : decode cX5_drawOne 47 = .ok (.getfield 81, 3) := by decide +kernel
theorem dX5_drawOne_50 : decode cX5_drawOne 50 = .ok (.if_icmp .ge 45, 3) := by decide +kernel
theorem dX5_drawOne_53 : decode cX5_drawOne 53 = .ok (.aload_n 0, 1) := by decide +kernel
theorem dX5_drawOne_54 : decode cX5_drawOne 54 = .ok (.iload 4, 2) := by decide +kernel
theorem dX5_drawOne_56 : decode cX5_drawOne 56 = .ok (.iload_n 1, 1) := by decide +kernel
theorem dX5_drawOne_57 : decode cX5_drawOne 57 = .ok (.invokevirtual 294, 3) := by decide +kernel
theorem dX5_drawOne_60 : decode cX5_drawOne 60 = .ok (.ifCond .eq 29, 3) := by decide +kernel
theorem dX5_drawOne_63 : decode cX5_drawOne 63 = .ok (.iload_n 3, 1) := by decide +kernel
theorem dX5_drawOne_64 : decode cX5_drawOne 64 = .ok (.ifCond .ne 22, 3) := by decide +kernel
theorem dX5_drawOne_67 : decode cX5_drawOne 67 = .ok (.aload_n 0, 1) := by decide +kernel
theorem dX5_drawOne_68 : decode cX5_drawOne 68 = .ok (.getfield 18, 3) := by decide +kernel
theorem dX5_drawOne_71 : decode cX5_drawOne 71 = .ok (.iload 4, 2) := by decide +kernel
theorem dX5_drawOne_73 : decode cX5_drawOne 73 = .ok (.aaload, 1) := by decide +kernel
theorem dX5_drawOne_74 : decode cX5_drawOne 74 = .ok (.aload_n 0, 1) := by decide +kernel
theorem dX5_drawOne_75 : decode cX5_drawOne 75 = .ok (.getfield 52, 3) := by decide +kernel
theorem dX5_drawOne_78 : decode cX5_drawOne 78 = .ok (.iconst 1, 1) := by decide +kernel
theorem dX5_drawOne_79 : decode cX5_drawOne 79 = .ok (.iadd, 1) := by decide +kernel
theorem dX5_drawOne_80 : decode cX5_drawOne 80 = .ok (.invokevirtual 297, 3) := by decide +kernel
theorem dX5_drawOne_83 : decode cX5_drawOne 83 = .ok (.iload 4, 2) := by decide +kernel
theorem dX5_drawOne_85 : decode cX5_drawOne 85 = .ok (.ireturn, 1) := by decide +kernel
theorem dX5_drawOne_86 : decode cX5_drawOne 86 = .ok (.iinc 3 (-1), 3) := by decide +kernel
theorem dX5_drawOne_89 : decode cX5_drawOne 89 = .ok (.iinc 4 1, 3) := by decide +kernel
theorem dX5_drawOne_92 : decode cX5_drawOne 92 = .ok (.goto (-51), 3) := by decide +kernel
theorem dX5_drawOne_95 : decode cX5_drawOne 95 = .ok (.iconst (-1), 1) := by decide +kernel
theorem dX5_drawOne_96 : decode cX5_drawOne 96 = .ok (.ireturn, 1) := by decide +kernel
theorem dX5_replaceLostHouses_0 : decode cX5_replaceLostHouses 0 = .ok (.iconst 0, 1) := by decide +kernel
theorem dX5_replaceLostHouses_1 : decode cX5_replaceLostHouses 1 = .ok (.istore_n 1, 1) := by decide +kernel
theorem dX5_replaceLostHouses_2 : decode cX5_replaceLostHouses 2 = .ok (.iconst 0, 1) := by decide +kernel
theorem dX5_replaceLostHouses_3 : decode cX5_replaceLostHouses 3 = .ok (.istore_n 2, 1) := by decide +kernel
theorem dX5_replaceLostHouses_4 : decode cX5_replaceLostHouses 4 = .ok (.iload_n 2, 1) := by decide +kernel
theorem dX5_replaceLostHouses_5 : decode cX5_replaceLostHouses 5 = .ok (.aload_n 0, 1) := by decide +kernel
theorem dX5_replaceLostHouses_6 : decode cX5_replaceLostHouses 6 = .ok (.getfield 10, 3) := by decide +kernel
theorem dX5_replaceLostHouses_9 : decode cX5_replaceLostHouses 9 = .ok (.getfield 81, 3) := by decide +kernel
theorem dX5_replaceLostHouses_12 : decode cX5_replaceLostHouses 12 = .ok (.if_icmp .ge 41, 3) := by decide +kernel
theorem dX5_replaceLostHouses_15 : decode cX5_replaceLostHouses 15 = .ok (.aload_n 0, 1) := by decide +kernel
theorem dX5_replaceLostHouses_16 : decode cX5_replaceLostHouses 16 = .ok (.getfield 18, 3) := by decide +kernel
theorem dX5_replaceLostHouses_19 : decode cX5_replaceLostHouses 19 = .ok (.iload_n 2, 1) := by decide +kernel
theorem dX5_replaceLostHouses_20 : decode cX5_replaceLostHouses 20 = .ok (.aaload, 1) := by decide +kernel
theorem dX5_replaceLostHouses_21 : decode cX5_replaceLostHouses 21 = .ok (.getfield 300, 3) := by decide +kernel
theorem dX5_replaceLostHouses_24 : decode cX5_replaceLostHouses 24 = .ok (.ifCond .eq 23, 3) := by decide +kernel
theorem dX5_replaceLostHouses_27 : decode cX5_replaceLostHouses 27 = .ok (.aload_n 0, 1) := by decide +kernel
theorem dX5_replaceLostHouses_28 : decode cX5_replaceLostHouses 28 = .ok (.aload_n 0, 1) := by decide +kernel
theorem dX5_replaceLostHouses_29 : decode cX5_replaceLostHouses 29 = .ok (.getfield 10, 3) := by decide +kernel
theorem dX5_replaceLostHouses_32 : decode cX5_replaceLostHouses 32 = .ok (.getfield 87, 3) := by decide +kernel
theorem dX5_replaceLostHouses_35 : decode cX5_replaceLostHouses 35 = .ok (.iload_n 2, 1) := by decide +kernel
theorem dX5_replaceLostHouses_36 : decode cX5_replaceLostHouses 36 = .ok (.iaload, 1) := by decide +kernel
theorem dX5_replaceLostHouses_37 : decode cX5_replaceLostHouses 37 = .ok (.invokevirtual 111, 3) := by decide +kernel
theorem dX5_replaceLostHouses_40 : decode cX5_replaceLostHouses 40 = .ok (.iconst (-1), 1) := by decide +kernel
theorem dX5_replaceLostHouses_41 : decode cX5_replaceLostHouses 41 = .ok (.if_icmp .eq 6, 3) := by decide +kernel
theorem dX5_replaceLostHouses_44 : decode cX5_replaceLostHouses 44 = .ok (.iinc 1 1, 3) := by decide +kernel
theorem dX5_replaceLostHouses_47 : decode cX5_replaceLostHouses 47 = .ok (.iinc 2 1, 3) := by decide +kernel
theorem dX5_replaceLostHouses_50 : decode cX5_replaceLostHouses 50 = .ok (.goto (-46), 3) := by decide +kernel
theorem dX5_replaceLostHouses_53 : decode cX5_replaceLostHouses 53 = .ok (.iload_n 1, 1) := by decide +kernel
theorem dX5_replaceLostHouses_54 : decode cX5_replaceLostHouses 54 = .ok (.ireturn, 1) := by decide +kernel
theorem dX5_makeRounds_0 : decode cX5_makeRounds 0 = .ok (.iconst 0, 1) := by decide +kernel
theorem dX5_makeRounds_1 : decode cX5_makeRounds 1 = .ok (.istore_n 1, 1) := by decide +kernel
theorem dX5_makeRounds_2 : decode cX5_makeRounds 2 = .ok (.iload_n 1, 1) := by decide +kernel
theorem dX5_makeRounds_3 : decode cX5_makeRounds 3 = .ok (.aload_n 0, 1) := by decide +kernel
theorem dX5_makeRounds_4 : decode cX5_makeRounds 4 = .ok (.getfield 10, 3) := by decide +kernel
theorem dX5_makeRounds_7 : decode cX5_makeRounds 7 = .ok (.getfield 81, 3) := by decide +kernel
theorem dX5_makeRounds_10 : decode cX5_makeRounds 10 = .ok (.if_icmp .ge 18, 3) := by decide +kernel
theorem dX5_makeRounds_13 : decode cX5_makeRounds 13 = .ok (.aload_n 0, 1) := by decide +kernel
theorem dX5_makeRounds_14 : decode cX5_makeRounds 14 = .ok (.getfield 18, 3) := by decide +kernel
theorem dX5_makeRounds_17 : decode cX5_makeRounds 17 = .ok (.iload_n 1, 1) := by decide +kernel
theorem dX5_makeRounds_18 : decode cX5_makeRounds 18 = .ok (.aaload, 1) := by decide +kernel
theorem dX5_makeRounds_19 : decode cX5_makeRounds 19 = .ok (.invokevirtual 303, 3) := by decide +kernel
theorem dX5_makeRounds_22 : decode cX5_makeRounds 22 = .ok (.iinc 1 1, 3) := by decide +kernel
theorem dX5_makeRounds_25 : decode cX5_makeRounds 25 = .ok (.goto (-23), 3) := by decide +kernel
theorem dX5_makeRounds_28 : decode cX5_makeRounds 28 = .ok (.iconst 0, 1) := by decide +kernel
theorem dX5_makeRounds_29 : decode cX5_makeRounds 29 = .ok (.istore_n 1, 1) := by decide +kernel
theorem dX5_makeRounds_30 : decode cX5_makeRounds 30 = .ok (.iload_n 1, 1) := by decide +kernel
theorem dX5_makeRounds_31 : decode cX5_makeRounds 31 = .ok (.aload_n 0, 1) := by decide +kernel
theorem dX5_makeRounds_32 : decode cX5_makeRounds 32 = .ok (.getfield 45, 3) := by decide +kernel
theorem dX5_makeRounds_35 : decode cX5_makeRounds 35 = .ok (.if_icmp .ge 34, 3) := by decide +kernel
theorem dX5_makeRounds_38 : decode cX5_makeRounds 38 = .ok (.aload_n 0, 1) := by decide +kernel
theorem dX5_makeRounds_39 : decode cX5_makeRounds 39 = .ok (.getfield 24, 3) := by decide +kernel
theorem dX5_makeRounds_42 : decode cX5_makeRounds 42 = .ok (.iload_n 1, 1) := by decide +kernel
theorem dX5_makeRounds_43 : decode cX5_makeRounds 43 = .ok (.aaload, 1) := by decide +kernel
theorem dX5_makeRounds_44 : decode cX5_makeRounds 44 = .ok (.invokevirtual 306, 3) := by decide +kernel
theorem dX5_makeRounds_47 : decode cX5_makeRounds 47 = .ok (.aload_n 0, 1) := by decide +kernel
theorem dX5_makeRounds_48 : decode cX5_makeRounds 48 = .ok (.getfield 31, 3) := by decide +kernel
theorem dX5_makeRounds_51 : decode cX5_makeRounds 51 = .ok (.iload_n 1, 1) := by decide +kernel
theorem dX5_makeRounds_52 : decode cX5_makeRounds 52 = .ok (.invokevirtual 284, 3) := by decide +kernel
theorem dX5_makeRounds_55 : decode cX5_makeRounds 55 = .ok (.ifCond .ne 8, 3) := by decide +kernel
theorem dX5_makeRounds_58 : decode cX5_makeRounds 58 = .ok (.aload_n 0, 1) := by decide +kernel
theorem dX5_makeRounds_59 : decode cX5_makeRounds 59 = .ok (.iload_n 1, 1) := by decide +kernel
theorem dX5_makeRounds_60 : decode cX5_makeRounds 60 = .ok (.invokevirtual 309, 3) := by decide +kernel
theorem dX5_makeRounds_63 : decode cX5_makeRounds 63 = .ok (.iinc 1 1, 3) := by decide +kernel
theorem dX5_makeRounds_66 : decode cX5_makeRounds 66 = .ok (.goto (-36), 3) := by decide +kernel
theorem dX5_makeRounds_69 : decode cX5_makeRounds 69 = .ok (.return_, 1) := by decide +kernel
theorem dX5_makeRound_0 : decode cX5_makeRound 0 = .ok (.aload_n 0, 1) := by decide +kernel
theorem dX5_makeRound_1 : decode cX5_makeRound 1 = .ok (.getfield 24, 3) := by decide +kernel
theorem dX5_makeRound_4 : decode cX5_makeRound 4 = .ok (.iload_n 1, 1) := by decide +kernel
theorem dX5_makeRound_5 : decode cX5_makeRound 5 = .ok (.aaload, 1) := by decide +kernel
theorem dX5_makeRound_6 : decode cX5_makeRound 6 = .ok (.astore_n 2, 1) := by decide +kernel
theorem dX5_makeRound_7 : decode cX5_makeRound 7 = .ok (.iconst 0, 1) := by decide +kernel
theorem dX5_makeRound_8 : decode cX5_makeRound 8 = .ok (.istore_n 3, 1) := by decide +kernel
theorem dX5_makeRound_9 : decode cX5_makeRound 9 = .ok (.iload_n 3, 1) := by decide +kernel
theorem dX5_makeRound_10 : decode cX5_makeRound 10 = .ok (.aload_n 0, 1) := by decide +kernel
theorem dX5_makeRound_11 : decode cX5_makeRound 11 = .ok (.getfield 10, 3) := by decide +kernel
theorem dX5_makeRound_14 : decode cX5_makeRound 14 = .ok (.getfield 81, 3) := by decide +kernel
theorem dX5_makeRound_17 : decode cX5_makeRound 17 = .ok (.if_icmp .ge 50, 3) := by decide +kernel
theorem dX5_makeRound_20 : decode cX5_makeRound 20 = .ok (.aload_n 0, 1) := by decide +kernel
theorem dX5_makeRound_21 : decode cX5_makeRound 21 = .ok (.iload_n 1, 1) := by decide +kernel
theorem dX5_makeRound_22 : decode cX5_makeRound 22 = .ok (.invokevirtual 312, 3) := by decide +kernel
theorem dX5_makeRound_25 : decode cX5_makeRound 25 = .ok (.istore 4, 2) := by decide +kernel
theorem dX5_makeRound_27 : decode cX5_makeRound 27 = .ok (.iload 4, 2) := by decide +kernel
theorem dX5_makeRound_29 : decode cX5_makeRound 29 = .ok (.iconst (-1), 1) := by decide +kernel
theorem dX5_makeRound_30 : decode cX5_makeRound 30 = .ok (.if_icmp .ne 4, 3) := by decide +kernel
theorem dX5_makeRound_33 : decode cX5_makeRound 33 = .ok (.return_, 1) := by decide +kernel
theorem dX5_makeRound_34 : decode cX5_makeRound 34 = .ok (.aload_n 2, 1) := by decide +kernel
theorem dX5_makeRound_35 : decode cX5_makeRound 35 = .ok (.iload 4, 2) := by decide +kernel
theorem dX5_makeRound_37 : decode cX5_makeRound 37 = .ok (.aload_n 0, 1) := by decide +kernel
theorem dX5_makeRound_38 : decode cX5_makeRound 38 = .ok (.getfield 18, 3) := by decide +kernel
theorem dX5_makeRound_41 : decode cX5_makeRound 41 = .ok (.iload 4, 2) := by decide +kernel
theorem dX5_makeRound_43 : decode cX5_makeRound 43 = .ok (.aaload, 1) := by decide +kernel
theorem dX5_makeRound_44 : decode cX5_makeRound 44 = .ok (.getfield 315, 3) := by decide +kernel
theorem dX5_makeRound_47 : decode cX5_makeRound 47 = .ok (.invokevirtual 318, 3) := by decide +kernel
theorem dX5_makeRound_50 : decode cX5_makeRound 50 = .ok (.aload_n 0, 1) := by decide +kernel
theorem dX5_makeRound_51 : decode cX5_makeRound 51 = .ok (.getfield 18, 3) := by decide +kernel
theorem dX5_makeRound_54 : decode cX5_makeRound 54 = .ok (.iload 4, 2) := by decide +kernel
theorem dX5_makeRound_56 : decode cX5_makeRound 56 = .ok (.aaload, 1) := by decide +kernel
theorem dX5_makeRound_57 : decode cX5_makeRound 57 = .ok (.iload_n 1, 1) := by decide +kernel
theorem dX5_makeRound_58 : decode cX5_makeRound 58 = .ok (.putfield 155, 3) := by decide +kernel
theorem dX5_makeRound_61 : decode cX5_makeRound 61 = .ok (.iinc 3 1, 3) := by decide +kernel
theorem dX5_makeRound_64 : decode cX5_makeRound 64 = .ok (.goto (-55), 3) := by decide +kernel
theorem dX5_makeRound_67 : decode cX5_makeRound 67 = .ok (.return_, 1) := by decide +kernel
theorem dX5_nearestFor_0 : decode cX5_nearestFor 0 = .ok (.aload_n 0, 1) := by decide +kernel
theorem dX5_nearestFor_1 : decode cX5_nearestFor 1 = .ok (.getfield 24, 3) := by decide +kernel
theorem dX5_nearestFor_4 : decode cX5_nearestFor 4 = .ok (.iload_n 1, 1) := by decide +kernel
theorem dX5_nearestFor_5 : decode cX5_nearestFor 5 = .ok (.aaload, 1) := by decide +kernel
theorem dX5_nearestFor_6 : decode cX5_nearestFor 6 = .ok (.astore_n 2, 1) := by decide +kernel
theorem dX5_nearestFor_7 : decode cX5_nearestFor 7 = .ok (.iconst (-1), 1) := by decide +kernel
theorem dX5_nearestFor_8 : decode cX5_nearestFor 8 = .ok (.istore_n 3, 1) := by decide +kernel
theorem dX5_nearestFor_9 : decode cX5_nearestFor 9 = .ok (.iconst 0, 1) := by decide +kernel
theorem dX5_nearestFor_10 : decode cX5_nearestFor 10 = .ok (.istore 4, 2) := by decide +kernel
theorem dX5_nearestFor_12 : decode cX5_nearestFor 12 = .ok (.iconst 0, 1) := by decide +kernel
theorem dX5_nearestFor_13 : decode cX5_nearestFor 13 = .ok (.istore 5, 2) := by decide +kernel
theorem dX5_nearestFor_15 : decode cX5_nearestFor 15 = .ok (.iload 5, 2) := by decide +kernel
theorem dX5_nearestFor_17 : decode cX5_nearestFor 17 = .ok (.aload_n 0, 1) := by decide +kernel
theorem dX5_nearestFor_18 : decode cX5_nearestFor 18 = .ok (.getfield 10, 3) := by decide +kernel
theorem dX5_nearestFor_21 : decode cX5_nearestFor 21 = .ok (.getfield 81, 3) := by decide +kernel
theorem dX5_nearestFor_24 : decode cX5_nearestFor 24 = .ok (.if_icmp .ge 54, 3) := by decide +kernel
theorem dX5_nearestFor_27 : decode cX5_nearestFor 27 = .ok (.aload_n 0, 1) := by decide +kernel
theorem dX5_nearestFor_28 : decode cX5_nearestFor 28 = .ok (.iload 5, 2) := by decide +kernel
theorem dX5_nearestFor_30 : decode cX5_nearestFor 30 = .ok (.iload_n 1, 1) := by decide +kernel
theorem dX5_nearestFor_31 : decode cX5_nearestFor 31 = .ok (.invokevirtual 321, 3) := by decide +kernel
theorem dX5_nearestFor_34 : decode cX5_nearestFor 34 = .ok (.ifCond .eq 38, 3) := by decide +kernel
theorem dX5_nearestFor_37 : decode cX5_nearestFor 37 = .ok (.aload_n 2, 1) := by decide +kernel
theorem dX5_nearestFor_38 : decode cX5_nearestFor 38 = .ok (.aload_n 0, 1) := by decide +kernel
theorem dX5_nearestFor_39 : decode cX5_nearestFor 39 = .ok (.getfield 18, 3) := by decide +kernel
theorem dX5_nearestFor_42 : decode cX5_nearestFor 42 = .ok (.iload 5, 2) := by decide +kernel
theorem dX5_nearestFor_44 : decode cX5_nearestFor 44 = .ok (.aaload, 1) := by decide +kernel
theorem dX5_nearestFor_45 : decode cX5_nearestFor 45 = .ok (.getfield 315, 3) := by decide +kernel
theorem dX5_nearestFor_48 : decode cX5_nearestFor 48 = .ok (.invokevirtual 324, 3) := by decide +kernel
theorem dX5_nearestFor_51 : decode cX5_nearestFor 51 = .ok (.istore 6, 2) := by decide +kernel
theorem dX5_nearestFor_53 : decode cX5_nearestFor 53 = .ok (.iload_n 3, 1) := by decide +kernel
theorem dX5_nearestFor_54 : decode cX5_nearestFor 54 = .ok (.iconst (-1), 1) := by decide +kernel
theorem dX5_nearestFor_55 : decode cX5_nearestFor 55 = .ok (.if_icmp .eq 10, 3) := by decide +kernel
theorem dX5_nearestFor_58 : decode cX5_nearestFor 58 = .ok (.iload 6, 2) := by decide +kernel
theorem dX5_nearestFor_60 : decode cX5_nearestFor 60 = .ok (.iload 4, 2) := by decide +kernel
theorem dX5_nearestFor_62 : decode cX5_nearestFor 62 = .ok (.if_icmp .ge 10, 3) := by decide +kernel
theorem dX5_nearestFor_65 : decode cX5_nearestFor 65 = .ok (.iload 5, 2) := by decide +kernel
theorem dX5_nearestFor_67 : decode cX5_nearestFor 67 = .ok (.istore_n 3, 1) := by decide +kernel
theorem dX5_nearestFor_68 : decode cX5_nearestFor 68 = .ok (.iload 6, 2) := by decide +kernel
theorem dX5_nearestFor_70 : decode cX5_nearestFor 70 = .ok (.istore 4, 2) := by decide +kernel
theorem dX5_nearestFor_72 : decode cX5_nearestFor 72 = .ok (.iinc 5 1, 3) := by decide +kernel
theorem dX5_nearestFor_75 : decode cX5_nearestFor 75 = .ok (.goto (-60), 3) := by decide +kernel
theorem dX5_nearestFor_78 : decode cX5_nearestFor 78 = .ok (.iload_n 3, 1) := by decide +kernel
theorem dX5_nearestFor_79 : decode cX5_nearestFor 79 = .ok (.ireturn, 1) := by decide +kernel
theorem dX5_canAdd_0 : decode cX5_canAdd 0 = .ok (.aload_n 0, 1) := by decide +kernel
theorem dX5_canAdd_1 : decode cX5_canAdd 1 = .ok (.getfield 18, 3) := by decide +kernel
theorem dX5_canAdd_4 : decode cX5_canAdd 4 = .ok (.iload_n 1, 1) := by decide +kernel
theorem dX5_canAdd_5 : decode cX5_canAdd 5 = .ok (.aaload, 1) := by decide +kernel
theorem dX5_canAdd_6 : decode cX5_canAdd 6 = .ok (.astore_n 3, 1) := by decide +kernel
theorem dX5_canAdd_7 : decode cX5_canAdd 7 = .ok (.aload_n 0, 1) := by decide +kernel
theorem dX5_canAdd_8 : decode cX5_canAdd 8 = .ok (.getfield 24, 3) := by decide +kernel
theorem dX5_canAdd_11 : decode cX5_canAdd 11 = .ok (.iload_n 2, 1) := by decide +kernel
theorem dX5_canAdd_12 : decode cX5_canAdd 12 = .ok (.aaload, 1) := by decide +kernel
theorem dX5_canAdd_13 : decode cX5_canAdd 13 = .ok (.astore 4, 2) := by decide +kernel
theorem dX5_canAdd_15 : decode cX5_canAdd 15 = .ok (.aload_n 3, 1) := by decide +kernel
theorem dX5_canAdd_16 : decode cX5_canAdd 16 = .ok (.aload_n 0, 1) := by decide +kernel
theorem dX5_canAdd_17 : decode cX5_canAdd 17 = .ok (.getfield 52, 3) := by decide +kernel
theorem dX5_canAdd_20 : decode cX5_canAdd 20 = .ok (.invokevirtual 327, 3) := by decide +kernel
theorem dX5_canAdd_23 : decode cX5_canAdd 23 = .ok (.ifCond .eq 44, 3) := by decide +kernel
theorem dX5_canAdd_26 : decode cX5_canAdd 26 = .ok (.aload_n 3, 1) := by decide +kernel
theorem dX5_canAdd_27 : decode cX5_canAdd 27 = .ok (.iload_n 2, 1) := by decide +kernel
theorem dX5_canAdd_28 : decode cX5_canAdd 28 = .ok (.invokevirtual 330, 3) := by decide +kernel
theorem dX5_canAdd_31 : decode cX5_canAdd 31 = .ok (.ifCond .ne 36, 3) := by decide +kernel
theorem dX5_canAdd_34 : decode cX5_canAdd 34 = .ok (.aload 4, 2) := by decide +kernel
theorem dX5_canAdd_36 : decode cX5_canAdd 36 = .ok (.aload_n 0, 1) := by decide +kernel
theorem dX5_canAdd_37 : decode cX5_canAdd 37 = .ok (.getfield 10, 3) := by decide +kernel
theorem dX5_canAdd_40 : decode cX5_canAdd 40 = .ok (.getfield 91, 3) := by decide +kernel
theorem dX5_canAdd_43 : decode cX5_canAdd 43 = .ok (.iload_n 1, 1) := by decide +kernel
theorem dX5_canAdd_44 : decode cX5_canAdd 44 = .ok (.iaload, 1) := by decide +kernel
theorem dX5_canAdd_45 : decode cX5_canAdd 45 = .ok (.invokevirtual 333, 3) := by decide +kernel
theorem dX5_canAdd_48 : decode cX5_canAdd 48 = .ok (.ifCond .eq 19, 3) := by decide +kernel
theorem dX5_canAdd_51 : decode cX5_canAdd 51 = .ok (.aload 4, 2) := by decide +kernel
theorem dX5_canAdd_53 : decode cX5_canAdd 53 = .ok (.aload_n 3, 1) := by decide +kernel
theorem dX5_canAdd_54 : decode cX5_canAdd 54 = .ok (.getfield 315, 3) := by decide +kernel
theorem dX5_canAdd_57 : decode cX5_canAdd 57 = .ok (.invokevirtual 336, 3) := by decide +kernel
theorem dX5_canAdd_60 : decode cX5_canAdd 60 = .ok (.ifCond .eq 7, 3) := by decide +kernel
theorem dX5_canAdd_63 : decode cX5_canAdd 63 = .ok (.iconst 1, 1) := by decide +kernel
theorem dX5_canAdd_64 : decode cX5_canAdd 64 = .ok (.goto 4, 3) := by decide +kernel
theorem dX5_canAdd_67 : decode cX5_canAdd 67 = .ok (.iconst 0, 1) := by decide +kernel
theorem dX5_canAdd_68 : decode cX5_canAdd 68 = .ok (.ireturn, 1) := by decide +kernel
theorem dX5_takeAnswer_0 : decode cX5_takeAnswer 0 = .ok (.aload_n 0, 1) := by decide +kernel
theorem dX5_takeAnswer_1 : decode cX5_takeAnswer 1 = .ok (.getfield 18, 3) := by decide +kernel
theorem dX5_takeAnswer_4 : decode cX5_takeAnswer 4 = .ok (.iload_n 1, 1) := by decide +kernel
theorem dX5_takeAnswer_5 : decode cX5_takeAnswer 5 = .ok (.aaload, 1) := by decide +kernel
theorem dX5_takeAnswer_6 : decode cX5_takeAnswer 6 = .ok (.bipush 97, 2) := by decide +kernel
theorem dX5_takeAnswer_8 : decode cX5_takeAnswer 8 = .ok (.putfield 182, 3) := by decide +kernel
theorem dX5_takeAnswer_11 : decode cX5_takeAnswer 11 = .ok (.aload_n 0, 1) := by decide +kernel
theorem dX5_takeAnswer_12 : decode cX5_takeAnswer 12 = .ok (.getfield 18, 3) := by decide +kernel
theorem dX5_takeAnswer_15 : decode cX5_takeAnswer 15 = .ok (.iload_n 1, 1) := by decide +kernel
theorem dX5_takeAnswer_16 : decode cX5_takeAnswer 16 = .ok (.aaload, 1) := by decide +kernel
theorem dX5_takeAnswer_17 : decode cX5_takeAnswer 17 = .ok (.iconst 0, 1) := by decide +kernel
theorem dX5_takeAnswer_18 : decode cX5_takeAnswer 18 = .ok (.putfield 186, 3) := by decide +kernel
theorem dX5_takeAnswer_21 : decode cX5_takeAnswer 21 = .ok (.aload_n 0, 1) := by decide +kernel
theorem dX5_takeAnswer_22 : decode cX5_takeAnswer 22 = .ok (.getfield 31, 3) := by decide +kernel
theorem dX5_takeAnswer_25 : decode cX5_takeAnswer 25 = .ok (.iload_n 1, 1) := by decide +kernel
theorem dX5_takeAnswer_26 : decode cX5_takeAnswer 26 = .ok (.iload_n 2, 1) := by decide +kernel
theorem dX5_takeAnswer_27 : decode cX5_takeAnswer 27 = .ok (.iload_n 3, 1) := by decide +kernel
theorem dX5_takeAnswer_28 : decode cX5_takeAnswer 28 = .ok (.invokevirtual 339, 3) := by decide +kernel
theorem dX5_takeAnswer_31 : decode cX5_takeAnswer 31 = .ok (.aload_n 0, 1) := by decide +kernel
theorem dX5_takeAnswer_32 : decode cX5_takeAnswer 32 = .ok (.getfield 31, 3) := by decide +kernel
theorem dX5_takeAnswer_35 : decode cX5_takeAnswer 35 = .ok (.aload_n 0, 1) := by decide +kernel
theorem dX5_takeAnswer_36 : decode cX5_takeAnswer 36 = .ok (.getfield 10, 3) := by decide +kernel
theorem dX5_takeAnswer_39 : decode cX5_takeAnswer 39 = .ok (.invokevirtual 117, 3) := by decide +kernel
theorem dX5_takeAnswer_42 : decode cX5_takeAnswer 42 = .ok (.return_, 1) := by decide +kernel
theorem dX5_wantLostAnswersAgain_0 : decode cX5_wantLostAnswersAgain 0 = .ok (.iconst 0, 1) := by decide +kernel
theorem dX5_wantLostAnswersAgain_1 : decode cX5_wantLostAnswersAgain 1 = .ok (.istore_n 1, 1) := by decide +kernel
theorem dX5_wantLostAnswersAgain_2 : decode cX5_wantLostAnswersAgain 2 = .ok (.iload_n 1, 1) := by decide +kernel
theorem dX5_wantLostAnswersAgain_3 : decode cX5_wantLostAnswersAgain 3 = .ok (.aload_n 0, 1) := by decide +kernel
theorem dX5_wantLostAnswersAgain_4 : decode cX5_wantLostAnswersAgain 4 = .ok (.getfield 10, 3) := by decide +kernel
theorem dX5_wantLostAnswersAgain_7 : decode cX5_wantLostAnswersAgain 7 = .ok (.getfield 81, 3) := by decide +kernel
theorem dX5_wantLostAnswersAgain_10 : decode cX5_wantLostAnswersAgain 10 = .ok (.if_icmp .ge 50, 3) := by decide +kernel
theorem dX5_wantLostAnswersAgain_13 : decode cX5_wantLostAnswersAgain 13 = .ok (.aload_n 0, 1) := by decide +kernel
theorem dX5_wantLostAnswersAgain_14 : decode cX5_wantLostAnswersAgain 14 = .ok (.getfield 18, 3) := by decide +kernel
theorem dX5_wantLostAnswersAgain_17 : decode cX5_wantLostAnswersAgain 17 = .ok (.iload_n 1, 1) := by decide +kernel
theorem dX5_wantLostAnswersAgain_18 : decode cX5_wantLostAnswersAgain 18 = .ok (.aaload, 1) := by decide +kernel
theorem dX5_wantLostAnswersAgain_19 : decode cX5_wantLostAnswersAgain 19 = .ok (.getfield 182, 3) := by decide +kernel
theorem dX5_wantLostAnswersAgain_22 : decode cX5_wantLostAnswersAgain 22 = .ok (.bipush 97, 2) := by decide +kernel
theorem dX5_wantLostAnswersAgain_24 : decode cX5_wantLostAnswersAgain 24 = .ok (.if_icmp .ne 30, 3) := by decide +kernel
theorem dX5_wantLostAnswersAgain_27 : decode cX5_wantLostAnswersAgain 27 = .ok (.aload_n 0, 1) := by decide +kernel
theorem dX5_wantLostAnswersAgain_28 : decode cX5_wantLostAnswersAgain 28 = .ok (.getfield 31, 3) := by decide +kernel
theorem dX5_wantLostAnswersAgain_31 : decode cX5_wantLostAnswersAgain 31 = .ok (.getfield 223, 3) := by decide +kernel
theorem dX5_wantLostAnswersAgain_34 : decode cX5_wantLostAnswersAgain 34 = .ok (.iload_n 1, 1) := by decide +kernel
theorem dX5_wantLostAnswersAgain_35 : decode cX5_wantLostAnswersAgain 35 = .ok (.baload, 1) := by decide +kernel
theorem dX5_wantLostAnswersAgain_36 : decode cX5_wantLostAnswersAgain 36 = .ok (.ifCond .ne 18, 3) := by decide +kernel
theorem dX5_wantLostAnswersAgain_39 : decode cX5_wantLostAnswersAgain 39 = .ok (.aload_n 0, 1) := by decide +kernel
theorem dX5_wantLostAnswersAgain_40 : decode cX5_wantLostAnswersAgain 40 = .ok (.getfield 18, 3) := by decide +kernel
theorem dX5_wantLostAnswersAgain_43 : decode cX5_wantLostAnswersAgain 43 = .ok (.iload_n 1, 1) := by decide +kernel
theorem dX5_wantLostAnswersAgain_44 : decode cX5_wantLostAnswersAgain 44 = .ok (.aaload, 1) := by decide +kernel
theorem dX5_wantLostAnswersAgain_45 : decode cX5_wantLostAnswersAgain 45 = .ok (.aload_n 0, 1) := by decide +kernel
theorem dX5_wantLostAnswersAgain_46 : decode cX5_wantLostAnswersAgain 46 = .ok (.getfield 52, 3) := by decide +kernel
theorem dX5_wantLostAnswersAgain_49 : decode cX5_wantLostAnswersAgain 49 = .ok (.iconst 1, 1) := by decide +kernel
theorem dX5_wantLostAnswersAgain_50 : decode cX5_wantLostAnswersAgain 50 = .ok (.iadd, 1) := by decide +kernel
theorem dX5_wantLostAnswersAgain_51 : decode cX5_wantLostAnswersAgain 51 = .ok (.invokevirtual 297, 3) := by decide +kernel
theorem dX5_wantLostAnswersAgain_54 : decode cX5_wantLostAnswersAgain 54 = .ok (.iinc 1 1, 3) := by decide +kernel
theorem dX5_wantLostAnswersAgain_57 : decode cX5_wantLostAnswersAgain 57 = .ok (.goto (-55), 3) := by decide +kernel
theorem dX5_wantLostAnswersAgain_60 : decode cX5_wantLostAnswersAgain 60 = .ok (.return_, 1) := by decide +kernel
theorem dX5_weighAnew_0 : decode cX5_weighAnew 0 = .ok (.aload_n 0, 1) := by decide +kernel
theorem dX5_weighAnew_1 : decode cX5_weighAnew 1 = .ok (.getfield 41, 3) := by decide +kernel
theorem dX5_weighAnew_4 : decode cX5_weighAnew 4 = .ok (.aload_n 0, 1) := by decide +kernel
theorem dX5_weighAnew_5 : decode cX5_weighAnew 5 = .ok (.getfield 35, 3) := by decide +kernel
theorem dX5_weighAnew_8 : decode cX5_weighAnew 8 = .ok (.invokevirtual 342, 3) := by decide +kernel
theorem dX5_weighAnew_11 : decode cX5_weighAnew 11 = .ok (.aload_n 0, 1) := by decide +kernel
theorem dX5_weighAnew_12 : decode cX5_weighAnew 12 = .ok (.getfield 35, 3) := by decide +kernel
theorem dX5_weighAnew_15 : decode cX5_weighAnew 15 = .ok (.aload_n 0, 1) := by decide +kernel
theorem dX5_weighAnew_16 : decode cX5_weighAnew 16 = .ok (.getfield 10, 3) := by decide +kernel
theorem dX5_weighAnew_19 : decode cX5_weighAnew 19 = .ok (.invokevirtual 117, 3) := by decide +kernel
theorem dX5_weighAnew_22 : decode cX5_weighAnew 22 = .ok (.return_, 1) := by decide +kernel
theorem dX5_sumOfWeights_0 : decode cX5_sumOfWeights 0 = .ok (.lconst 0, 1) := by decide +kernel
theorem dX5_sumOfWeights_1 : decode cX5_sumOfWeights 1 = .ok (.lstore_n 1, 1) := by decide +kernel
theorem dX5_sumOfWeights_2 : decode cX5_sumOfWeights 2 = .ok (.iconst 0, 1) := by decide +kernel
theorem dX5_sumOfWeights_3 : decode cX5_sumOfWeights 3 = .ok (.istore_n 3, 1) := by decide +kernel
theorem dX5_sumOfWeights_4 : decode cX5_sumOfWeights 4 = .ok (.iload_n 3, 1) := by decide +kernel
theorem dX5_sumOfWeights_5 : decode cX5_sumOfWeights 5 = .ok (.aload_n 0, 1) := by decide +kernel
theorem dX5_sumOfWeights_6 : decode cX5_sumOfWeights 6 = .ok (.getfield 10, 3) := by decide +kernel
theorem dX5_sumOfWeights_9 : decode cX5_sumOfWeights 9 = .ok (.getfield 81, 3) := by decide +kernel
theorem dX5_sumOfWeights_12 : decode cX5_sumOfWeights 12 = .ok (.if_icmp .ge 22, 3) := by decide +kernel
theorem dX5_sumOfWeights_15 : decode cX5_sumOfWeights 15 = .ok (.lload_n 1, 1) := by decide +kernel
theorem dX5_sumOfWeights_16 : decode cX5_sumOfWeights 16 = .ok (.aload_n 0, 1) := by decide +kernel
theorem dX5_sumOfWeights_17 : decode cX5_sumOfWeights 17 = .ok (.getfield 31, 3) := by decide +kernel
theorem dX5_sumOfWeights_20 : decode cX5_sumOfWeights 20 = .ok (.getfield 233, 3) := by decide +kernel
theorem dX5_sumOfWeights_23 : decode cX5_sumOfWeights 23 = .ok (.iload_n 3, 1) := by decide +kernel
theorem dX5_sumOfWeights_24 : decode cX5_sumOfWeights 24 = .ok (.iaload, 1) := by decide +kernel
theorem dX5_sumOfWeights_25 : decode cX5_sumOfWeights 25 = .ok (.i2l, 1) := by decide +kernel
theorem dX5_sumOfWeights_26 : decode cX5_sumOfWeights 26 = .ok (.ladd, 1) := by decide +kernel
theorem dX5_sumOfWeights_27 : decode cX5_sumOfWeights 27 = .ok (.lstore_n 1, 1) := by decide +kernel
theorem dX5_sumOfWeights_28 : decode cX5_sumOfWeights 28 = .ok (.iinc 3 1, 3) := by decide +kernel
theorem dX5_sumOfWeights_31 : decode cX5_sumOfWeights 31 = .ok (.goto (-27), 3) := by decide +kernel
theorem dX5_sumOfWeights_34 : decode cX5_sumOfWeights 34 = .ok (.lload_n 1, 1) := by decide +kernel
theorem dX5_sumOfWeights_35 : decode cX5_sumOfWeights 35 = .ok (.lreturn, 1) := by decide +kernel
end
section
/-! one list of words for every method, rows for its worlds -/
def gW : List Cond := lw_tbl.filter goodWord
theorem gW_good : ∀ w ∈ gW, goodWord w = true := fun _ h => (List.mem_filter.mp h).2
theorem gW_mem {w : Cond} (i : Nat) (h : lw_tbl[i]? = some w) (g : goodWord w = true) : w ∈ gW := List.mem_filter.mpr ⟨List.mem_of_getElem? h, g⟩
abbrev wg (y : MethodName) (c : ByteArray) (n : Nat) (ret : Option FieldType) : List Cond := Cond.code y c n ret :: gW
theorem gI_all {w : Cond} (h : w ∈ gW) : GoodIn gW (w :: gW) := fun v hv => by
  rcases List.mem_cons.mp hv with rfl | hv
  · exact ⟨h, good_of_word (gW_good _ h)⟩
  · exact ⟨hv, good_of_word (gW_good _ hv)⟩
theorem gI_one {w : Cond} (h : w ∈ gW) : w ∈ gW ∧ ((w.onTables && w.keeps) = true ∨ ∃ ty, w = .arrayClass ty) := ⟨h, good_of_word (gW_good _ h)⟩
def gcl : List vw_C := [(RX0, TX0, 6), (RX1, TX1, 2), (RX2, TX2, 11), (RX3, TX3, 7), (RX4, TX4, 5), (RX5, TX5, 9), (RX6, TX6, 31)]
abbrev gty (cA : Nat → ClassId) : List (ClassId × FieldType) := [(cA 0, .int), (cA 1, .boolean), (cA 2, .object RX2), (cA 3, .object RX3), (cA 4, .long), (cA 5, .double)]
def KK (dg : va_G) (cA : Nat → ClassId) (U : State) : Prop := va_K dg gcl (gty cA) U
theorem KK.moved {dg : va_G} {cA : Nat → ClassId} {u U : State} (hvm : u.vm.Alike U.vm) (h : KK dg cA u) : KK dg cA U := va_K.moved hvm h
abbrev PP (dg : va_G) (ws : va_W) (H : Heap) : Prop := va_P dg gcl ws H
/-- a field by its entry in a class's pool -/
def FI (own : String) (idx ci k : Nat) (C : String) (T : u_T) (N : Nat) : Prop := gcl[ci]? = some (C, T, N) ∧ k < N ∧ (∀ w ∈ u_ws C T N, w ∈ gW) ∧ Cond.fieldLink own idx (T k).1 (T k).2.1 (T k).2.2.1 ∈ gW
def FP (ci : Nat) (C : String) (T : u_T) (N : Nat) (ty0 : Nat → FieldType) : Prop := (∀ k, k < N → parseFieldDescriptor (T k).2.2.1 = some (ty0 k)) ∧ (∀ a, a < N → ∀ b, b < N → a ≠ b → (T a).2.1 ≠ (T b).2.1)
/-- a call's entry: virtual, static, constructor -/
def CV (own : String) (idx : Nat) (C : String) (y : MethodName) (bytes : ByteArray) (maxL : Nat) (ret : Option FieldType) (n : Nat) : Prop :=
  Cond.methodLink own idx y ∈ gW ∧ Cond.instanceMethod y ∈ gW ∧ Cond.selects C y y ∈ gW ∧ Cond.initialized C ∈ gW ∧ Cond.code y bytes maxL ret ∈ gW ∧ y.cls = C ∧ y.cls ≠ "java/lang/invoke/MethodHandle" ∧ y.cls ≠ "java/lang/invoke/VarHandle" ∧ (parseMethodDescriptor y.desc).map (fun d => d.parameters.length) = some n
def CS (own : String) (idx : Nat) (y : MethodName) (bytes : ByteArray) (maxL : Nat) (ret : Option FieldType) (n : Nat) : Prop :=
  Cond.methodLink own idx y ∈ gW ∧ Cond.static y ∈ gW ∧ Cond.initialized own ∈ gW ∧ Cond.code y bytes maxL ret ∈ gW ∧ y.cls = own ∧ y.cls ≠ "java/lang/invoke/MethodHandle" ∧ y.cls ≠ "java/lang/invoke/VarHandle" ∧ (parseMethodDescriptor y.desc).map (fun d => d.parameters.length) = some n
def CI (own : String) (idx : Nat) (y : MethodName) (bytes : ByteArray) (maxL : Nat) (n : Nat) : Prop :=
  Cond.methodLink own idx y ∈ gW ∧ Cond.instanceMethod y ∈ gW ∧ Cond.initialized y.cls ∈ gW ∧ Cond.code y bytes maxL none ∈ gW ∧ y.name = "<init>" ∧ y.cls ≠ "java/lang/invoke/MethodHandle" ∧ y.cls ≠ "java/lang/invoke/VarHandle" ∧ (parseMethodDescriptor y.desc).map (fun d => d.parameters.length) = some n
section GV
variable {p : Program} {l : Launch} {e : Env} {R : Room} {s : State} {m : MethodId} {args : Array Value} {below : List Frame} {meth : Method} {c : Code} {H : Heap} {locs : List Loc} {cells slots : Nat} {Q : State → Prop}
variable {cc : ByteArray} {pc nL : Nat} {ls : Array Slot} {rest st : List Value} {dg : va_G} {cA : Nat → ClassId} {A : Nat → Prop} {a : Nat} {ws : va_W} {H0 : Heap} {own : String}
theorem cv_w {idx n : Nat} {C : String} {y : MethodName} {bytes : ByteArray} {maxL : Nat} {ret : Option FieldType} {rm : Room} {mc ms : Nat} (hts : ∀ w ∈ gW, w.before args s = true) (F : CV own idx C y bytes maxL ret n) (hR : rm.cells = mc ∧ rm.slots = ms ∧ rm.frames + 1 ≤ R.frames ∧ 8 + (maxL + 11) + rm.locals ≤ R.locals) : CallW R s args own C idx y bytes maxL ret (wg y bytes maxL ret) rm mc ms n := by
  obtain ⟨h1, h2, h3, h4, h5, h6⟩ := F
  refine cwV n hts (fun w hw => ?_) rfl hR.1 hR.2.1 h6 hR.2.2
  rcases List.mem_append.mp (show w ∈ [Cond.methodLink own idx y, .instanceMethod y, .selects C y y, .initialized C] ++ wg y bytes maxL ret from hw) with hw | hw
  · simp only [List.mem_cons, List.not_mem_nil, or_false] at hw
    rcases hw with rfl | rfl | rfl | rfl
    · exact gI_one h1
    · exact gI_one h2
    · exact gI_one h3
    · exact gI_one h4
  · exact gI_all h5 w hw
theorem cs_w {idx n : Nat} {y : MethodName} {bytes : ByteArray} {maxL : Nat} {ret : Option FieldType} {rm : Room} {mc ms : Nat} (hts : ∀ w ∈ gW, w.before args s = true) (F : CS own idx y bytes maxL ret n) (hR : rm.cells = mc ∧ rm.slots = ms ∧ rm.frames + 1 ≤ R.frames ∧ 8 + (maxL + 11) + rm.locals ≤ R.locals) : CallB R s args own idx y bytes maxL ret (wg y bytes maxL ret) rm mc ms n ∧ (Cond.static y).before args s = true := by
  obtain ⟨h1, h2, h4, h5, h6⟩ := F
  refine cwS n hts (fun w hw => ?_) rfl hR.1 hR.2.1 h6 hR.2.2
  rcases List.mem_append.mp (show w ∈ [Cond.methodLink own idx y, .static y, .initialized own] ++ wg y bytes maxL ret from hw) with hw | hw
  · simp only [List.mem_cons, List.not_mem_nil, or_false] at hw
    rcases hw with rfl | rfl | rfl
    · exact gI_one h1
    · exact gI_one h2
    · exact gI_one h4
  · exact gI_all h5 w hw
theorem ci_w {idx n : Nat} {y : MethodName} {bytes : ByteArray} {maxL : Nat} {rm : Room} {mc ms : Nat} (hts : ∀ w ∈ gW, w.before args s = true) (F : CI own idx y bytes maxL n) (hR : rm.cells = mc ∧ rm.slots = ms ∧ rm.frames + 1 ≤ R.frames ∧ 8 + (maxL + 11) + rm.locals ≤ R.locals) : CallB R s args own idx y bytes maxL none (wg y bytes maxL none) rm mc ms n ∧ y.name = "<init>" ∧ (Cond.instanceMethod y).before args s = true := by
  obtain ⟨h1, h2, h4, h5, h6, h7⟩ := F
  exact cwI n hts (gI_all h5) rfl hR.1 hR.2.1 (hts _ h4) (hts _ h1) (hts _ h2) h6 h7 hR.2.2
theorem lv_as {x y : Int32} (h : x = y) (k : W p l e R s m args below meth c H locs cells slots Q (F0 m pc ls (.int y :: rest))) : W p l e R s m args below meth c H locs cells slots Q (F0 m pc ls (.int x :: rest)) := h ▸ k
/-- a field's value -/
theorem gf (S : CallFix p m c cc nL s args gW own) (hK : KK dg cA s) (hP : PP dg ws H) (q0 : Nat) {ci : Nat} {fs : List Value} (he : ws[q0]? = some (a, .inr (ci, fs))) {idx k N : Nat} {C : String} {T : u_T} (F : FI own idx ci k C T N) {v : Value} (hv : fs[k]? = some v) (hdg : decode cc pc = .ok (.getfield idx, 3))
    (kk : W p l e R s m args below meth c H locs cells slots Q (F0 m (pc + 3) ls (v :: rest))) : W p l e R s m args below meth c H locs cells slots Q (F0 m pc ls (.ref a :: rest)) := by
  obtain ⟨f1, f2, f3, f4⟩ := F
  exact va_get S.1 S.2.1 S.2.2.2.2 f3 S.2.2.2.1 hK hP q0 he f1 k f2 (S.2.2.2.2 _ f4) (fun _ h => h) hv hdg kk
/-- a field is written -/
theorem pf (S : CallFix p m c cc nL s args gW own) (hK : KK dg cA s) (hP : PP dg ws H) (hD : va_D A ws) (hS : va_S A H0 H locs) (q0 : Nat) {ci : Nat} {fs : List Value} (he : ws[q0]? = some (a, .inr (ci, fs))) {idx k N : Nat} {C : String} {T : u_T} (F : FI own idx ci k C T N) {ty0 : Nat → FieldType} (F2 : FP ci C T N ty0) (hfin : (T k).2.2.2 = false) {v : Value} (hn : narrow (ty0 k) v = v) (hfit : fits (ty0 k) v = true) (hl : k < fs.length) {ws1 : va_W} (hset : ws.set q0 (a, .inr (ci, fs.set k v)) = ws1) (hdg : decode cc pc = .ok (.putfield idx, 3))
    (kk : ∀ (H1 : Heap) (locs1 : List Loc), PP dg ws1 H1 → va_D A ws1 → va_S A H0 H1 locs1 → W p l e R s m args below meth c H1 locs1 cells slots Q (F0 m (pc + 3) ls rest)) : W p l e R s m args below meth c H locs cells slots Q (F0 m pc ls (v :: .ref a :: rest)) := by
  obtain ⟨f1, f2, f3, f4⟩ := F
  subst hset
  exact va_put S.1 S.2.1 S.2.2.2.2 f3 ty0 F2.1 F2.2 S.2.2.2.1 hK hP hD hS q0 he f1 k f2 (S.2.2.2.2 _ f4) (fun _ h => h) hfin (F2.1 k f2) hn hfit hl hdg kk
/-- a final field is written in a constructor -/
theorem pfF (S : CallFix p m c cc nL s args gW own) (hK : KK dg cA s) (hP : PP dg ws H) (hD : va_D A ws) (hS : va_S A H0 H locs) (q0 : Nat) {ci : Nat} {fs : List Value} (he : ws[q0]? = some (a, .inr (ci, fs))) {idx k N : Nat} {C : String} {T : u_T} (F : FI own idx ci k C T N) {ty0 : Nat → FieldType} (F2 : FP ci C T N ty0) (hfin : (T k).2.2.2 = true) (hin2 : meth.name = "<init>") (hdecl : (T k).1 = own) {v : Value} (hn : narrow (ty0 k) v = v) (hfit : fits (ty0 k) v = true) (hl : k < fs.length) {ws1 : va_W} (hset : ws.set q0 (a, .inr (ci, fs.set k v)) = ws1) (hdg : decode cc pc = .ok (.putfield idx, 3))
    (kk : ∀ (H1 : Heap) (locs1 : List Loc), PP dg ws1 H1 → va_D A ws1 → va_S A H0 H1 locs1 → W p l e R s m args below meth c H1 locs1 cells slots Q (F0 m (pc + 3) ls rest)) : W p l e R s m args below meth c H locs cells slots Q (F0 m pc ls (v :: .ref a :: rest)) := by
  obtain ⟨f1, f2, f3, f4⟩ := F
  subst hset
  exact va_putF S.1 S.2.1 S.2.2.2.2 f3 ty0 F2.1 F2.2 S.2.2.2.1 hK hP hD hS q0 he f1 k f2 (S.2.2.2.2 _ f4) (fun _ h => h) hfin hin2 hdecl (F2.1 k f2) hn hfit hl hdg kk
theorem ild (S : CallFix p m c cc nL s args gW own) (hK : KK dg cA s) (hP : PP dg ws H) (q0 : Nat) {n : Nat} {f : Nat → Int32} (ha : ws[q0]? = some (a, .inl (cA 0, n, .inl f))) {j : Nat} (hj : j < n) (hn : n ≤ 1000) (hdg : decode cc pc = .ok (.iaload, 1))
    (kk : W p l e R s m args below meth c H locs cells slots Q (F0 m (pc + 1) ls (.int (f j) :: rest))) : W p l e R s m args below meth c H locs cells slots Q (F0 m pc ls (.int (nI j) :: .ref a :: rest)) := by
  refine va_iald S.1 S.2.1 hK hP q0 0 ha rfl (vp_in_nI hj (by omega)) hdg ?_
  rw [nI_clamp (by omega)]
  exact kk
theorem zld (S : CallFix p m c cc nL s args gW own) (hK : KK dg cA s) (hP : PP dg ws H) (q0 : Nat) {n : Nat} {f : Nat → Int32} (ha : ws[q0]? = some (a, .inl (cA 1, n, .inl f))) {j : Nat} (hj : j < n) (hn : n ≤ 1000) (hdg : decode cc pc = .ok (.baload, 1))
    (kk : W p l e R s m args below meth c H locs cells slots Q (F0 m (pc + 1) ls (.int (f j) :: rest))) : W p l e R s m args below meth c H locs cells slots Q (F0 m pc ls (.int (nI j) :: .ref a :: rest)) := by
  refine va_zald S.1 S.2.1 hK hP q0 1 ha rfl (vp_in_nI hj (by omega)) hdg ?_
  rw [nI_clamp (by omega)]
  exact kk
theorem ist (S : CallFix p m c cc nL s args gW own) (hK : KK dg cA s) (hP : PP dg ws H) (hD : va_D A ws) (hS : va_S A H0 H locs) (q0 : Nat) {n : Nat} {f : Nat → Int32} (ha : ws[q0]? = some (a, .inl (cA 0, n, .inl f))) {j : Nat} {x : Int32} (hj : j < n) (hn : n ≤ 1000) {ws1 : va_W} (hset : ws.set q0 (a, .inl (cA 0, n, .inl (upd f j x))) = ws1) (hdg : decode cc pc = .ok (.iastore, 1))
    (kk : ∀ (H1 : Heap) (locs1 : List Loc), PP dg ws1 H1 → va_D A ws1 → va_S A H0 H1 locs1 → W p l e R s m args below meth c H1 locs1 cells slots Q (F0 m (pc + 1) ls rest)) : W p l e R s m args below meth c H locs cells slots Q (F0 m pc ls (.int x :: .int (nI j) :: .ref a :: rest)) := by
  subst hset
  refine va_iast S.1 S.2.1 hK hP hD hS q0 0 ha rfl (vp_in_nI hj (by omega)) hdg ?_
  rw [nI_clamp (by omega)]
  exact kk
theorem zst (S : CallFix p m c cc nL s args gW own) (hK : KK dg cA s) (hP : PP dg ws H) (hD : va_D A ws) (hS : va_S A H0 H locs) (q0 : Nat) {n : Nat} {f : Nat → Int32} (ha : ws[q0]? = some (a, .inl (cA 1, n, .inl f))) {j : Nat} {x : Int32} (hj : j < n) (hn : n ≤ 1000) (hx : vp_nar .boolean x = x) {ws1 : va_W} (hset : ws.set q0 (a, .inl (cA 1, n, .inl (upd f j x))) = ws1) (hdg : decode cc pc = .ok (.bastore, 1))
    (kk : ∀ (H1 : Heap) (locs1 : List Loc), PP dg ws1 H1 → va_D A ws1 → va_S A H0 H1 locs1 → W p l e R s m args below meth c H1 locs1 cells slots Q (F0 m (pc + 1) ls rest)) : W p l e R s m args below meth c H locs cells slots Q (F0 m pc ls (.int x :: .int (nI j) :: .ref a :: rest)) := by
  subst hset
  refine va_zast S.1 S.2.1 hK hP hD hS q0 1 ha rfl (vp_in_nI hj (by omega)) hdg ?_
  rw [nI_clamp (by omega), hx]
  exact kk
/-- a reference out of an array of references; t: 2 houses, 3 interviewers -/
theorem qld (S : CallFix p m c cc nL s args gW own) (hK : KK dg cA s) (hP : PP dg ws H) (q0 t : Nat) {C : String} {n : Nat} {f : Nat → Option Nat} (ha : ws[q0]? = some (a, .inl (cA t, n, .inr (.inr (.inr (.inr f)))))) (ht : (gty cA)[t]? = some (cA t, .object C)) {j b : Nat} (hj : j < n) (hn : n ≤ 1000) (hf : f j = some b) (hdg : decode cc pc = .ok (.aaload, 1))
    (kk : W p l e R s m args below meth c H locs cells slots Q (F0 m (pc + 1) ls (.ref b :: rest))) : W p l e R s m args below meth c H locs cells slots Q (F0 m pc ls (.int (nI j) :: .ref a :: rest)) := by
  refine va_aldq S.1 S.2.1 hK hP q0 t ha ht (vp_in_nI hj (by omega)) hdg ?_
  rw [nI_clamp (by omega), hf]
  exact kk
end GV
/-! contracts: R reads alone; M moves the world; X may throw, the world as it was -/
def PcR (dg : va_G) (cA : Nat → ClassId) (ws : va_W) (av : List Value) : Array Value → State → Prop := va_Pc av (fun U => PP dg ws U.heap ∧ KK dg cA U)
def PcM (dg : va_G) (cA : Nat → ClassId) (ws : va_W) (sz : Nat) (av : List Value) : Array Value → State → Prop := va_Pc av (fun U => U.heap.size = sz ∧ PP dg ws U.heap ∧ KK dg cA U ∧ va_D (fun _ => True) ws)
def QcR (v : Option Value) : Array Value → State → Outcome → State → Prop := fun _ st o t => o = .returned v ∧ t.heap = st.heap
def QcM (dg : va_G) (ws1 : va_W) (v : Option Value) (A : Nat → Prop) : Array Value → State → Outcome → State → Prop := fun _ st o t => (o = .returned v ∧ PP dg ws1 t.heap ∧ va_D A ws1) ∧ va_F A st t
theorem PcR.blind {dg : va_G} {cA : Nat → ClassId} {ws : va_W} {av : List Value} : FrameBlind (PcR dg cA ws av) := fun a U g mk q => ⟨q.1, q.2.1, KK.moved (u := U) (U := U.calling g mk a) (Vm.Alike.refl U.vm) q.2.2⟩
theorem PcM.blind {dg : va_G} {cA : Nat → ClassId} {ws : va_W} {sz : Nat} {av : List Value} : FrameBlind (PcM dg cA ws sz av) := fun a U g mk q => ⟨q.1, q.2.1, q.2.2.1, KK.moved (u := U) (U := U.calling g mk a) (Vm.Alike.refl U.vm) q.2.2.2.1, q.2.2.2.2⟩
abbrev MetR (l : Launch) (dg : va_G) (cA : Nat → ClassId) (y : MethodName) (bytes : ByteArray) (maxL : Nat) (ret : Option FieldType) (rm : Room) (ws : va_W) (av : List Value) (v : Option Value) : Prop := Met l y (wg y bytes maxL ret) rm (PcR dg cA ws av) (QcR v) 0 0 (fun _ => False)
abbrev MetM (l : Launch) (dg : va_G) (cA : Nat → ClassId) (y : MethodName) (bytes : ByteArray) (maxL : Nat) (ret : Option FieldType) (rm : Room) (mc ms : Nat) (ws : va_W) (sz : Nat) (av : List Value) (ws1 : va_W) (v : Option Value) : Prop := Met l y (wg y bytes maxL ret) rm (PcM dg cA ws sz av) (QcM dg ws1 v (va_A ws sz)) mc ms (va_A ws sz)
theorem va_A.sub {A0 : Nat → Prop} {ws : va_W} {H0 H : Heap} {locs : List Loc} (hD : va_D A0 ws) (hS : va_S A0 H0 H locs) (hA : ∀ q, H0.size ≤ q → A0 q) : ∀ q, va_A ws H.size q → A0 q := by
  intro q h
  rcases h with ⟨k, e, h⟩ | h
  · exact hD.2 k (q, e) h
  · exact hA q (Nat.le_trans hS.1 h)
section GC
variable {p : Program} {l : Launch} {e : Env} {R : Room} {s : State} {m : MethodId} {args : Array Value} {below : List Frame} {meth : Method} {c : Code} {H : Heap} {locs : List Loc} {cells slots : Nat} {Q : State → Prop}
variable {cc : ByteArray} {pc nL : Nat} {ls : Array Slot} {rest st st1 : List Value} {dg : va_G} {cA : Nat → ClassId} {A : Nat → Prop} {b : Nat} {ws ws1 : va_W} {H0 : Heap} {own : String}
variable {idx n maxL mc ms : Nat} {C : String} {y : MethodName} {bytes : ByteArray} {ret : Option FieldType} {rm : Room} {As : List Value} {v : Option Value}
theorem runR (hr : va_Run p l e R s m args below meth c H locs cells slots 0 0 (F0 m pc ls st) rest (QcR v (Value.ref b :: As).toArray) (fun _ => False)) (hst1 : v.toList ++ rest = st1)
    (kk : W p l e R s m args below meth c H locs cells slots Q (F0 m (pc + 3) ls st1)) : W p l e R s m args below meth c H locs cells slots Q (F0 m pc ls st) := by
  intro T hT X
  obtain ⟨v', st₀, t, T', L, h0, X', hL, e1, e2, ⟨hv, hh⟩, st⟩ := hr T hT X
  cases hv
  subst hst1
  obtain ⟨t2, a1, b1⟩ := kk T' (by rw [e1, hh, h0]) (Stand.forget X' (fun q h => (hL q h).elim))
  exact ⟨t2, st t2 a1, b1⟩
theorem runRS (hr : va_Run p l e R s m args below meth c H locs cells slots 0 0 (F0 m pc ls st) rest (QcR v As.toArray) (fun _ => False)) (hst1 : v.toList ++ rest = st1)
    (kk : W p l e R s m args below meth c H locs cells slots Q (F0 m (pc + 3) ls st1)) : W p l e R s m args below meth c H locs cells slots Q (F0 m pc ls st) := by
  intro T hT X
  obtain ⟨v', st₀, t, T', L, h0, X', hL, e1, e2, ⟨hv, hh⟩, st⟩ := hr T hT X
  cases hv
  subst hst1
  obtain ⟨t2, a1, b1⟩ := kk T' (by rw [e1, hh, h0]) (Stand.forget X' (fun q h => (hL q h).elim))
  exact ⟨t2, st t2 a1, b1⟩
theorem runM {A1 : Nat → Prop} {aa : Array Value} (hr : va_Run p l e R s m args below meth c H locs cells slots mc ms (F0 m pc ls st) rest (QcM dg ws1 v A1 aa) A1) (hS : va_S A H0 H locs) (hA1 : ∀ q, A1 q → A q) (hst1 : v.toList ++ rest = st1)
    (kk : ∀ (H1 : Heap) (locs1 : List Loc), PP dg ws1 H1 → va_D A ws1 → va_S A H0 H1 locs1 → W p l e R s m args below meth c H1 locs1 (cells + mc) (slots + ms) Q (F0 m (pc + 3) ls st1)) : W p l e R s m args below meth c H locs cells slots Q (F0 m pc ls st) := by
  intro T hT X
  obtain ⟨v', st₀, t, T', L, h0, X', hL, e1, e2, ⟨⟨hv, hp, hd⟩, hF⟩, st⟩ := hr T hT X
  cases hv
  subst hst1
  obtain ⟨k1, k2, k3⟩ := vx_keep h0 e1 hS (fun q _ h => hA1 q h) hA1 hL hF
  obtain ⟨t2, a1, b1⟩ := kk T'.heap (locs ++ L) (by rw [e1]; exact hp) (hd.weaken (fun _ q _ h => hA1 q.1 h)) k3 T' rfl X'
  exact ⟨t2, st t2 a1, b1⟩
/-- a call that reads -/
theorem cR (S : CallFix p m c cc nL s args gW own) (hM : MetR l dg cA y bytes maxL ret rm ws (.ref b :: As) v) (F : CV own idx C y bytes maxL ret n) (hR : rm.cells = 0 ∧ rm.slots = 0 ∧ rm.frames + 1 ≤ R.frames ∧ 8 + (maxL + 11) + rm.locals ≤ R.locals) (hK : KK dg cA s) (hP : PP dg ws H) (q0 : Nat) {ci : Nat} {fs : List Value} (he : ws[q0]? = some (b, .inr (ci, fs))) {q : vw_C} (hc : gcl[ci]? = some q) (hC : q.1 = C) (hn : As.length = n) (hls : ls.size = nL) (hst : st = As.reverse ++ .ref b :: rest) (hW : (rest.map fun v => v.category).sum ≤ 8) (hdg : decode cc pc = .ok (.invokevirtual idx, 3)) (hf : cells + 0 ≤ R.cells ∧ slots + 0 ≤ R.slots) (hst1 : v.toList ++ rest = st1)
    (kk : W p l e R s m args below meth c H locs cells slots Q (F0 m (pc + 3) ls st1)) : W p l e R s m args below meth c H locs cells slots Q (F0 m pc ls st) :=
  runR (va_runV S hM (cv_w S.2.2.2.2 F hR) ⟨PcR.blind, by subst hC; exact va_recv hK hP hc he, fun U hU hW => ⟨rfl, by rw [hU]; exact hP, KK.moved hW.alike hK⟩⟩ rfl hn hls hst (lv_room (ls := ls) (pc := pc) (m := m) (rest := rest) hW) hdg hf) hst1 kk
theorem cRS (S : CallFix p m c cc nL s args gW own) (hM : MetR l dg cA y bytes maxL ret rm ws As v) (F : CS own idx y bytes maxL ret n) (hR : rm.cells = 0 ∧ rm.slots = 0 ∧ rm.frames + 1 ≤ R.frames ∧ 8 + (maxL + 11) + rm.locals ≤ R.locals) (hK : KK dg cA s) (hP : PP dg ws H) (hn : As.length = n) (hls : ls.size = nL) (hst : st = As.reverse ++ rest) (hW : (rest.map fun v => v.category).sum ≤ 8) (hdg : decode cc pc = .ok (.invokestatic idx, 3)) (hf : cells + 0 ≤ R.cells ∧ slots + 0 ≤ R.slots) (hst1 : v.toList ++ rest = st1)
    (kk : W p l e R s m args below meth c H locs cells slots Q (F0 m (pc + 3) ls st1)) : W p l e R s m args below meth c H locs cells slots Q (F0 m pc ls st) :=
  runRS (va_runS S hM (cs_w S.2.2.2.2 F hR) ⟨PcR.blind, fun U hU hW => ⟨rfl, by rw [hU]; exact hP, KK.moved hW.alike hK⟩⟩ rfl hn hls hst (lv_room (ls := ls) (pc := pc) (m := m) (rest := rest) hW) hdg hf) hst1 kk
/-- a call that moves the world -/
theorem cM (S : CallFix p m c cc nL s args gW own) (hM : MetM l dg cA y bytes maxL ret rm mc ms ws H.size (.ref b :: As) ws1 v) (F : CV own idx C y bytes maxL ret n) (hR : rm.cells = mc ∧ rm.slots = ms ∧ rm.frames + 1 ≤ R.frames ∧ 8 + (maxL + 11) + rm.locals ≤ R.locals) (hK : KK dg cA s) (hP : PP dg ws H) (hD : va_D A ws) (hS : va_S A H0 H locs) (hA : ∀ q, H0.size ≤ q → A q) (q0 : Nat) {ci : Nat} {fs : List Value} (he : ws[q0]? = some (b, .inr (ci, fs))) {q : vw_C} (hc : gcl[ci]? = some q) (hC : q.1 = C) (hn : As.length = n) (hls : ls.size = nL) (hst : st = As.reverse ++ .ref b :: rest) (hW : (rest.map fun v => v.category).sum ≤ 8) (hdg : decode cc pc = .ok (.invokevirtual idx, 3)) (hf : cells + mc ≤ R.cells ∧ slots + ms ≤ R.slots) (hst1 : v.toList ++ rest = st1)
    (kk : ∀ (H1 : Heap) (locs1 : List Loc), PP dg ws1 H1 → va_D A ws1 → va_S A H0 H1 locs1 → W p l e R s m args below meth c H1 locs1 (cells + mc) (slots + ms) Q (F0 m (pc + 3) ls st1)) : W p l e R s m args below meth c H locs cells slots Q (F0 m pc ls st) :=
  runM (va_runV S hM (cv_w S.2.2.2.2 F hR) ⟨PcM.blind, by subst hC; exact va_recv hK hP hc he, fun U hU hW => ⟨rfl, by rw [hU], by rw [hU]; exact hP, KK.moved hW.alike hK, hD.weaken (fun _ _ _ _ => trivial)⟩⟩ rfl hn hls hst (lv_room (ls := ls) (pc := pc) (m := m) (rest := rest) hW) hdg hf) hS (va_A.sub hD hS hA) hst1 kk
/-- a constructor is called -/
theorem cI (S : CallFix p m c cc nL s args gW own) (hM : MetM l dg cA y bytes maxL none rm mc ms ws H.size (.ref b :: As) ws1 none) (F : CI own idx y bytes maxL n) (hR : rm.cells = mc ∧ rm.slots = ms ∧ rm.frames + 1 ≤ R.frames ∧ 8 + (maxL + 11) + rm.locals ≤ R.locals) (hK : KK dg cA s) (hP : PP dg ws H) (hD : va_D A ws) (hS : va_S A H0 H locs) (hA : ∀ q, H0.size ≤ q → A q) (hn : As.length = n) (hls : ls.size = nL) (hst : st = As.reverse ++ .ref b :: rest) (hW : (rest.map fun v => v.category).sum ≤ 8) (hdg : decode cc pc = .ok (.invokespecial idx, 3)) (hf : cells + mc ≤ R.cells ∧ slots + ms ≤ R.slots)
    (kk : ∀ (H1 : Heap) (locs1 : List Loc), PP dg ws1 H1 → va_D A ws1 → va_S A H0 H1 locs1 → W p l e R s m args below meth c H1 locs1 (cells + mc) (slots + ms) Q (F0 m (pc + 3) ls rest)) : W p l e R s m args below meth c H locs cells slots Q (F0 m pc ls st) :=
  runM (va_runI S hM (ci_w S.2.2.2.2 F hR) ⟨PcM.blind, fun U hU hW => ⟨rfl, by rw [hU], by rw [hU]; exact hP, KK.moved hW.alike hK, hD.weaken (fun _ _ _ _ => trivial)⟩⟩ rfl hn hls hst (lv_room (ls := ls) (pc := pc) (m := m) (rest := rest) hW) hdg hf) hS (va_A.sub hD hS hA) rfl kk
end GC
/-! a body's start -/
section GB
variable {l : Launch} {dg : va_G} {cA : Nat → ClassId} {y : MethodName} {bytes : ByteArray} {maxL : Nat} {ret : Option FieldType} {rm : Room} {ws ws1 : va_W} {av : List Value} {v : Option Value} {sz mc ms : Nat}
theorem ofR (hy : plainName y.cls = true) (hn : (lg_sl av).length ≤ maxL) {own : String} (ho : y.cls = own)
    (body : ∀ (p : Program) (e : Env) (s : State) (m : MethodId) (args : Array Value) (below : List Frame) (meth : Method) (c : Code) (ls : Array Slot), CallFix p m c bytes maxL s args gW own → meth.sig.returnType = ret → meth.locks = false → args = av.toArray → KK dg cA s → PP dg ws s.heap → lv_has ls maxL (lv_args 0 av) →
      W p l e rm s m args below meth c s.heap [] 0 0 (MQ below (QcR v) args s 0 0 (fun _ => False)) (F0 m 0 ls [])) : MetR l dg cA y bytes maxL ret rm ws av v := by
  refine Met.ofW hy rfl ?_
  intro p e s m args below meth c s₁ B hml hv
  obtain ⟨rfl, hP, hK⟩ := hv
  have hts : ∀ w ∈ gW, w.before av.toArray s = true := fun w h => atoms_spec (ws := wg y bytes maxL ret) B.pre w (List.mem_cons_of_mem _ h)
  rw [lg_entry_eq]
  exact body p e s m av.toArray below meth c _ ⟨B.exec, B.bytes, hml, ho ▸ findClass_of_methodNamed B.named, hts⟩ B.returns B.notSynchronized rfl hK hP (lv_entry av hn)
theorem ofM (hy : plainName y.cls = true) (hn : (lg_sl av).length ≤ maxL) {own : String} (ho : y.cls = own)
    (body : ∀ (p : Program) (e : Env) (s : State) (m : MethodId) (args : Array Value) (below : List Frame) (meth : Method) (c : Code) (ls : Array Slot) (A : Nat → Prop), va_A ws s.heap.size = A → CallFix p m c bytes maxL s args gW own → meth.sig.returnType = ret → meth.locks = false → meth.name = y.name → args = av.toArray → KK dg cA s → PP dg ws s.heap → va_D A ws → va_S A s.heap s.heap [] → (∀ q : Nat, s.heap.size ≤ q → A q) → s.heap.size = sz → lv_has ls maxL (lv_args 0 av) →
      W p l e rm s m args below meth c s.heap [] 0 0 (MQ below (QcM dg ws1 v A) args s mc ms A) (F0 m 0 ls [])) : MetM l dg cA y bytes maxL ret rm mc ms ws sz av ws1 v := by
  refine Met.ofW hy rfl ?_
  intro p e s m args below meth c s₁ B hml hv
  obtain ⟨rfl, hsz, hP, hK, hD0⟩ := hv
  have hts : ∀ w ∈ gW, w.before av.toArray s = true := fun w h => atoms_spec (ws := wg y bytes maxL ret) B.pre w (List.mem_cons_of_mem _ h)
  subst hsz
  rw [lg_entry_eq]
  exact body p e s m av.toArray below meth c _ _ rfl ⟨B.exec, B.bytes, hml, ho ▸ findClass_of_methodNamed B.named, hts⟩ B.returns B.notSynchronized (name_of_methodNamed B.named B.method).1 rfl hK hP (hD0.self (sz := s.heap.size)) va_S.rf (fun q h => Or.inr h) rfl (lv_entry av hn)
end GB
/-! ends of bodies -/
section GE
variable {p : Program} {l : Launch} {e : Env} {R : Room} {s : State} {m : MethodId} {args : Array Value} {below : List Frame} {meth : Method} {c : Code} {H : Heap} {locs : List Loc} {cells slots : Nat} {cc : ByteArray} {pc nL : Nat} {ls : Array Slot} {dg : va_G} {A : Nat → Prop} {ws ws1 : va_W} {own : String}
theorem eRi (S : CallFix p m c cc nL s args gW own) (hr : meth.sig.returnType = some .int) (hlk : meth.locks = false) (hdg : decode cc pc = .ok (.ireturn, 1)) {v x : Int32} (hv : x = v) : W p l e R s m args below meth c s.heap [] 0 0 (MQ below (QcR (some (.int v))) args s 0 0 (fun _ => False)) (F0 m pc ls [.int x]) := by
  subst hv
  exact W.iret S.1 S.2.1 hr (fun t ht _ => ⟨rfl, ht⟩) (fun q h => by cases h) hdg hlk
theorem eRz (S : CallFix p m c cc nL s args gW own) {ty : FieldType} (hr : meth.sig.returnType = some ty) (hlk : meth.locks = false) (hdg : decode cc pc = .ok (.ireturn, 1)) {v x : Int32} (hv : x = v) (hn : narrow ty (.int v) = .int v) : W p l e R s m args below meth c s.heap [] 0 0 (MQ below (QcR (some (.int v))) args s 0 0 (fun _ => False)) (F0 m pc ls [.int x]) := by
  subst hv
  exact W.zret S.1 S.2.1 hr hn (fun t ht _ => ⟨rfl, ht⟩) (fun q h => by cases h) hdg hlk
theorem eRl (S : CallFix p m c cc nL s args gW own) (hr : meth.sig.returnType = some .long) (hlk : meth.locks = false) (hdg : decode cc pc = .ok (.lreturn, 1)) {v x : Int64} (hv : x = v) : W p l e R s m args below meth c s.heap [] 0 0 (MQ below (QcR (some (.long v))) args s 0 0 (fun _ => False)) (F0 m pc ls [.long x]) := by
  subst hv
  exact W.lret S.1 S.2.1 hr (fun t ht _ => ⟨rfl, ht⟩) (fun q h => by cases h) hdg hlk
theorem eMi (S : CallFix p m c cc nL s args gW own) (hr : meth.sig.returnType = some .int) (hlk : meth.locks = false) (hP : PP dg ws H) (hD : va_D A ws) (hS : va_S A s.heap H locs) (hdg : decode cc pc = .ok (.ireturn, 1)) {v x : Int32} (hv : x = v) (hw : ws = ws1) : W p l e R s m args below meth c H locs cells slots (MQ below (QcM dg ws1 (some (.int v)) A) args s cells slots A) (F0 m pc ls [.int x]) := by
  subst hv hw
  exact W.iret S.1 S.2.1 hr (fun t ht _ => ⟨⟨rfl, by rw [ht]; exact hP, hD⟩, hS.F ht⟩) hS.2.2 hdg hlk
theorem eMz (S : CallFix p m c cc nL s args gW own) {ty : FieldType} (hr : meth.sig.returnType = some ty) (hlk : meth.locks = false) (hP : PP dg ws H) (hD : va_D A ws) (hS : va_S A s.heap H locs) (hdg : decode cc pc = .ok (.ireturn, 1)) {v x : Int32} (hv : x = v) (hw : ws = ws1) (hn : narrow ty (.int v) = .int v) : W p l e R s m args below meth c H locs cells slots (MQ below (QcM dg ws1 (some (.int v)) A) args s cells slots A) (F0 m pc ls [.int x]) := by
  subst hv hw
  exact W.zret S.1 S.2.1 hr hn (fun t ht _ => ⟨⟨rfl, by rw [ht]; exact hP, hD⟩, hS.F ht⟩) hS.2.2 hdg hlk
theorem eMl (S : CallFix p m c cc nL s args gW own) (hr : meth.sig.returnType = some .long) (hlk : meth.locks = false) (hP : PP dg ws H) (hD : va_D A ws) (hS : va_S A s.heap H locs) (hdg : decode cc pc = .ok (.lreturn, 1)) {v x : Int64} (hv : x = v) (hw : ws = ws1) : W p l e R s m args below meth c H locs cells slots (MQ below (QcM dg ws1 (some (.long v)) A) args s cells slots A) (F0 m pc ls [.long x]) := by
  subst hv hw
  exact W.lret S.1 S.2.1 hr (fun t ht _ => ⟨⟨rfl, by rw [ht]; exact hP, hD⟩, hS.F ht⟩) hS.2.2 hdg hlk
theorem eMv (S : CallFix p m c cc nL s args gW own) (hr : meth.sig.returnType = none) (hlk : meth.locks = false) (hP : PP dg ws H) (hD : va_D A ws) (hS : va_S A s.heap H locs) (hdg : decode cc pc = .ok (.return_, 1)) (hw : ws = ws1) : W p l e R s m args below meth c H locs cells slots (MQ below (QcM dg ws1 none A) args s cells slots A) (F0 m pc ls []) := by
  subst hw
  exact W.vret S.1 S.2.1 hr (fun t ht _ => ⟨⟨rfl, by rw [ht]; exact hP, hD⟩, hS.F ht⟩) hS.2.2 hdg hlk
end GE
end
section
theorem uX0 : ∀ w ∈ u_ws RX0 TX0 6, w ∈ gW := fun w h => List.mem_filter.mpr ⟨(by decide +kernel : ∀ w ∈ u_ws RX0 TX0 6, w ∈ lw_tbl) w h, List.all_eq_true.mp (by decide +kernel : (u_ws RX0 TX0 6).all goodWord = true) w h⟩
theorem fpX0 : FP 0 RX0 TX0 6 tyX0 := ⟨tyX0_ok, nmX0⟩
theorem uX1 : ∀ w ∈ u_ws RX1 TX1 2, w ∈ gW := fun w h => List.mem_filter.mpr ⟨(by decide +kernel : ∀ w ∈ u_ws RX1 TX1 2, w ∈ lw_tbl) w h, List.all_eq_true.mp (by decide +kernel : (u_ws RX1 TX1 2).all goodWord = true) w h⟩
theorem fpX1 : FP 1 RX1 TX1 2 tyX1 := ⟨tyX1_ok, nmX1⟩
theorem uX2 : ∀ w ∈ u_ws RX2 TX2 11, w ∈ gW := fun w h => List.mem_filter.mpr ⟨(by decide +kernel : ∀ w ∈ u_ws RX2 TX2 11, w ∈ lw_tbl) w h, List.all_eq_true.mp (by decide +kernel : (u_ws RX2 TX2 11).all goodWord = true) w h⟩
theorem fpX2 : FP 2 RX2 TX2 11 tyX2 := ⟨tyX2_ok, nmX2⟩
theorem uX3 : ∀ w ∈ u_ws RX3 TX3 7, w ∈ gW := fun w h => List.mem_filter.mpr ⟨(by decide +kernel : ∀ w ∈ u_ws RX3 TX3 7, w ∈ lw_tbl) w h, List.all_eq_true.mp (by decide +kernel : (u_ws RX3 TX3 7).all goodWord = true) w h⟩
theorem fpX3 : FP 3 RX3 TX3 7 tyX3 := ⟨tyX3_ok, nmX3⟩
theorem uX4 : ∀ w ∈ u_ws RX4 TX4 5, w ∈ gW := fun w h => List.mem_filter.mpr ⟨(by decide +kernel : ∀ w ∈ u_ws RX4 TX4 5, w ∈ lw_tbl) w h, List.all_eq_true.mp (by decide +kernel : (u_ws RX4 TX4 5).all goodWord = true) w h⟩
theorem fpX4 : FP 4 RX4 TX4 5 tyX4 := ⟨tyX4_ok, nmX4⟩
theorem uX5 : ∀ w ∈ u_ws RX5 TX5 9, w ∈ gW := fun w h => List.mem_filter.mpr ⟨(by decide +kernel : ∀ w ∈ u_ws RX5 TX5 9, w ∈ lw_tbl) w h, List.all_eq_true.mp (by decide +kernel : (u_ws RX5 TX5 9).all goodWord = true) w h⟩
theorem fpX5 : FP 5 RX5 TX5 9 tyX5 := ⟨tyX5_ok, nmX5⟩
theorem uX6 : ∀ w ∈ u_ws RX6 TX6 31, w ∈ gW := fun w h => List.mem_filter.mpr ⟨(by decide +kernel : ∀ w ∈ u_ws RX6 TX6 31, w ∈ lw_tbl) w h, List.all_eq_true.mp (by decide +kernel : (u_ws RX6 TX6 31).all goodWord = true) w h⟩
theorem fpX6 : FP 6 RX6 TX6 31 tyX6 := ⟨tyX6_ok, nmX6⟩
theorem fX5_10 : FI RX5 10 5 0 RX5 TX5 9 := ⟨rfl, by decide, uX5, gW_mem 150 (by decide +kernel) (by decide +kernel)⟩
theorem fX5_18 : FI RX5 18 5 1 RX5 TX5 9 := ⟨rfl, by decide, uX5, gW_mem 151 (by decide +kernel) (by decide +kernel)⟩
theorem fX5_24 : FI RX5 24 5 2 RX5 TX5 9 := ⟨rfl, by decide, uX5, gW_mem 152 (by decide +kernel) (by decide +kernel)⟩
theorem fX5_31 : FI RX5 31 5 3 RX5 TX5 9 := ⟨rfl, by decide, uX5, gW_mem 153 (by decide +kernel) (by decide +kernel)⟩
theorem fX5_35 : FI RX5 35 5 4 RX5 TX5 9 := ⟨rfl, by decide, uX5, gW_mem 154 (by decide +kernel) (by decide +kernel)⟩
theorem fX5_41 : FI RX5 41 5 5 RX5 TX5 9 := ⟨rfl, by decide, uX5, gW_mem 155 (by decide +kernel) (by decide +kernel)⟩
theorem fX5_45 : FI RX5 45 5 6 RX5 TX5 9 := ⟨rfl, by decide, uX5, gW_mem 156 (by decide +kernel) (by decide +kernel)⟩
theorem fX5_49 : FI RX5 49 5 7 RX5 TX5 9 := ⟨rfl, by decide, uX5, gW_mem 157 (by decide +kernel) (by decide +kernel)⟩
theorem fX5_52 : FI RX5 52 5 8 RX5 TX5 9 := ⟨rfl, by decide, uX5, gW_mem 158 (by decide +kernel) (by decide +kernel)⟩
theorem fX5_63 : FI RX5 63 0 4 RX0 TX0 6 := ⟨rfl, by decide, uX0, gW_mem 86 (by decide +kernel) (by decide +kernel)⟩
theorem fX5_81 : FI RX5 81 0 5 RX0 TX0 6 := ⟨rfl, by decide, uX0, gW_mem 89 (by decide +kernel) (by decide +kernel)⟩
theorem fX5_87 : FI RX5 87 0 0 RX0 TX0 6 := ⟨rfl, by decide, uX0, gW_mem 75 (by decide +kernel) (by decide +kernel)⟩
theorem fX5_91 : FI RX5 91 0 1 RX0 TX0 6 := ⟨rfl, by decide, uX0, gW_mem 78 (by decide +kernel) (by decide +kernel)⟩
theorem fX5_125 : FI RX5 125 3 4 RX3 TX3 7 := ⟨rfl, by decide, uX3, gW_mem 489 (by decide +kernel) (by decide +kernel)⟩
theorem fX5_133 : FI RX5 133 3 3 RX3 TX3 7 := ⟨rfl, by decide, uX3, gW_mem 487 (by decide +kernel) (by decide +kernel)⟩
theorem fX5_155 : FI RX5 155 2 7 RX2 TX2 11 := ⟨rfl, by decide, uX2, gW_mem 438 (by decide +kernel) (by decide +kernel)⟩
theorem fX5_162 : FI RX5 162 2 8 RX2 TX2 11 := ⟨rfl, by decide, uX2, gW_mem 440 (by decide +kernel) (by decide +kernel)⟩
theorem fX5_166 : FI RX5 166 2 3 RX2 TX2 11 := ⟨rfl, by decide, uX2, gW_mem 433 (by decide +kernel) (by decide +kernel)⟩
theorem fX5_182 : FI RX5 182 2 1 RX2 TX2 11 := ⟨rfl, by decide, uX2, gW_mem 429 (by decide +kernel) (by decide +kernel)⟩
theorem fX5_186 : FI RX5 186 2 10 RX2 TX2 11 := ⟨rfl, by decide, uX2, gW_mem 444 (by decide +kernel) (by decide +kernel)⟩
theorem fX5_191 : FI RX5 191 4 1 RX4 TX4 5 := ⟨rfl, by decide, uX4, gW_mem 118 (by decide +kernel) (by decide +kernel)⟩
theorem fX5_211 : FI RX5 211 2 2 RX2 TX2 11 := ⟨rfl, by decide, uX2, gW_mem 431 (by decide +kernel) (by decide +kernel)⟩
theorem fX5_220 : FI RX5 220 4 4 RX4 TX4 5 := ⟨rfl, by decide, uX4, gW_mem 124 (by decide +kernel) (by decide +kernel)⟩
theorem fX5_223 : FI RX5 223 4 0 RX4 TX4 5 := ⟨rfl, by decide, uX4, gW_mem 116 (by decide +kernel) (by decide +kernel)⟩
theorem fX5_227 : FI RX5 227 4 2 RX4 TX4 5 := ⟨rfl, by decide, uX4, gW_mem 120 (by decide +kernel) (by decide +kernel)⟩
theorem fX5_230 : FI RX5 230 0 2 RX0 TX0 6 := ⟨rfl, by decide, uX0, gW_mem 82 (by decide +kernel) (by decide +kernel)⟩
theorem fX5_233 : FI RX5 233 4 3 RX4 TX4 5 := ⟨rfl, by decide, uX4, gW_mem 122 (by decide +kernel) (by decide +kernel)⟩
theorem fX5_300 : FI RX5 300 2 9 RX2 TX2 11 := ⟨rfl, by decide, uX2, gW_mem 442 (by decide +kernel) (by decide +kernel)⟩
theorem fX5_315 : FI RX5 315 2 0 RX2 TX2 11 := ⟨rfl, by decide, uX2, gW_mem 427 (by decide +kernel) (by decide +kernel)⟩
theorem fX0_9 : FI RX0 9 0 0 RX0 TX0 6 := ⟨rfl, by decide, uX0, gW_mem 74 (by decide +kernel) (by decide +kernel)⟩
theorem fX0_15 : FI RX0 15 0 1 RX0 TX0 6 := ⟨rfl, by decide, uX0, gW_mem 77 (by decide +kernel) (by decide +kernel)⟩
theorem fX0_18 : FI RX0 18 0 2 RX0 TX0 6 := ⟨rfl, by decide, uX0, gW_mem 80 (by decide +kernel) (by decide +kernel)⟩
theorem fX0_21 : FI RX0 21 0 3 RX0 TX0 6 := ⟨rfl, by decide, uX0, gW_mem 83 (by decide +kernel) (by decide +kernel)⟩
theorem fX0_24 : FI RX0 24 0 4 RX0 TX0 6 := ⟨rfl, by decide, uX0, gW_mem 85 (by decide +kernel) (by decide +kernel)⟩
theorem fX0_28 : FI RX0 28 0 5 RX0 TX0 6 := ⟨rfl, by decide, uX0, gW_mem 88 (by decide +kernel) (by decide +kernel)⟩
theorem fX1_9 : FI RX1 9 1 0 RX1 TX1 2 := ⟨rfl, by decide, uX1, gW_mem 143 (by decide +kernel) (by decide +kernel)⟩
theorem fX1_15 : FI RX1 15 1 1 RX1 TX1 2 := ⟨rfl, by decide, uX1, gW_mem 144 (by decide +kernel) (by decide +kernel)⟩
theorem fX2_9 : FI RX2 9 2 1 RX2 TX2 11 := ⟨rfl, by decide, uX2, gW_mem 428 (by decide +kernel) (by decide +kernel)⟩
theorem fX2_15 : FI RX2 15 2 2 RX2 TX2 11 := ⟨rfl, by decide, uX2, gW_mem 430 (by decide +kernel) (by decide +kernel)⟩
theorem fX2_19 : FI RX2 19 2 3 RX2 TX2 11 := ⟨rfl, by decide, uX2, gW_mem 432 (by decide +kernel) (by decide +kernel)⟩
theorem fX2_22 : FI RX2 22 2 4 RX2 TX2 11 := ⟨rfl, by decide, uX2, gW_mem 434 (by decide +kernel) (by decide +kernel)⟩
theorem fX2_25 : FI RX2 25 2 5 RX2 TX2 11 := ⟨rfl, by decide, uX2, gW_mem 435 (by decide +kernel) (by decide +kernel)⟩
theorem fX2_28 : FI RX2 28 2 6 RX2 TX2 11 := ⟨rfl, by decide, uX2, gW_mem 436 (by decide +kernel) (by decide +kernel)⟩
theorem fX2_31 : FI RX2 31 2 7 RX2 TX2 11 := ⟨rfl, by decide, uX2, gW_mem 437 (by decide +kernel) (by decide +kernel)⟩
theorem fX2_34 : FI RX2 34 2 8 RX2 TX2 11 := ⟨rfl, by decide, uX2, gW_mem 439 (by decide +kernel) (by decide +kernel)⟩
theorem fX2_38 : FI RX2 38 2 9 RX2 TX2 11 := ⟨rfl, by decide, uX2, gW_mem 441 (by decide +kernel) (by decide +kernel)⟩
theorem fX2_41 : FI RX2 41 2 10 RX2 TX2 11 := ⟨rfl, by decide, uX2, gW_mem 443 (by decide +kernel) (by decide +kernel)⟩
theorem fX2_44 : FI RX2 44 2 0 RX2 TX2 11 := ⟨rfl, by decide, uX2, gW_mem 426 (by decide +kernel) (by decide +kernel)⟩
theorem fX3_9 : FI RX3 9 3 3 RX3 TX3 7 := ⟨rfl, by decide, uX3, gW_mem 486 (by decide +kernel) (by decide +kernel)⟩
theorem fX3_15 : FI RX3 15 3 4 RX3 TX3 7 := ⟨rfl, by decide, uX3, gW_mem 488 (by decide +kernel) (by decide +kernel)⟩
theorem fX3_19 : FI RX3 19 3 6 RX3 TX3 7 := ⟨rfl, by decide, uX3, gW_mem 491 (by decide +kernel) (by decide +kernel)⟩
theorem fX3_22 : FI RX3 22 3 0 RX3 TX3 7 := ⟨rfl, by decide, uX3, gW_mem 483 (by decide +kernel) (by decide +kernel)⟩
theorem fX3_25 : FI RX3 25 3 1 RX3 TX3 7 := ⟨rfl, by decide, uX3, gW_mem 484 (by decide +kernel) (by decide +kernel)⟩
theorem fX3_28 : FI RX3 28 3 2 RX3 TX3 7 := ⟨rfl, by decide, uX3, gW_mem 485 (by decide +kernel) (by decide +kernel)⟩
theorem fX3_31 : FI RX3 31 3 5 RX3 TX3 7 := ⟨rfl, by decide, uX3, gW_mem 490 (by decide +kernel) (by decide +kernel)⟩
theorem fX4_9 : FI RX4 9 4 0 RX4 TX4 5 := ⟨rfl, by decide, uX4, gW_mem 115 (by decide +kernel) (by decide +kernel)⟩
theorem fX4_15 : FI RX4 15 4 1 RX4 TX4 5 := ⟨rfl, by decide, uX4, gW_mem 117 (by decide +kernel) (by decide +kernel)⟩
theorem fX4_19 : FI RX4 19 4 2 RX4 TX4 5 := ⟨rfl, by decide, uX4, gW_mem 119 (by decide +kernel) (by decide +kernel)⟩
theorem fX4_22 : FI RX4 22 4 3 RX4 TX4 5 := ⟨rfl, by decide, uX4, gW_mem 121 (by decide +kernel) (by decide +kernel)⟩
theorem fX4_25 : FI RX4 25 4 4 RX4 TX4 5 := ⟨rfl, by decide, uX4, gW_mem 123 (by decide +kernel) (by decide +kernel)⟩
theorem fX4_36 : FI RX4 36 0 0 RX0 TX0 6 := ⟨rfl, by decide, uX0, gW_mem 76 (by decide +kernel) (by decide +kernel)⟩
theorem fX4_41 : FI RX4 41 0 2 RX0 TX0 6 := ⟨rfl, by decide, uX0, gW_mem 81 (by decide +kernel) (by decide +kernel)⟩
theorem fX4_44 : FI RX4 44 0 5 RX0 TX0 6 := ⟨rfl, by decide, uX0, gW_mem 90 (by decide +kernel) (by decide +kernel)⟩
theorem fX4_52 : FI RX4 52 0 1 RX0 TX0 6 := ⟨rfl, by decide, uX0, gW_mem 79 (by decide +kernel) (by decide +kernel)⟩
theorem fX4_55 : FI RX4 55 0 3 RX0 TX0 6 := ⟨rfl, by decide, uX0, gW_mem 84 (by decide +kernel) (by decide +kernel)⟩
theorem fX4_77 : FI RX4 77 0 4 RX0 TX0 6 := ⟨rfl, by decide, uX0, gW_mem 87 (by decide +kernel) (by decide +kernel)⟩
theorem fX6_7 : FI RX6 7 6 1 RX6 TX6 31 := ⟨rfl, by decide, uX6, gW_mem 838 (by decide +kernel) (by decide +kernel)⟩
theorem fX6_13 : FI RX6 13 6 6 RX6 TX6 31 := ⟨rfl, by decide, uX6, gW_mem 843 (by decide +kernel) (by decide +kernel)⟩
theorem fX6_17 : FI RX6 17 6 7 RX6 TX6 31 := ⟨rfl, by decide, uX6, gW_mem 844 (by decide +kernel) (by decide +kernel)⟩
theorem fX6_20 : FI RX6 20 6 8 RX6 TX6 31 := ⟨rfl, by decide, uX6, gW_mem 845 (by decide +kernel) (by decide +kernel)⟩
theorem fX6_23 : FI RX6 23 6 9 RX6 TX6 31 := ⟨rfl, by decide, uX6, gW_mem 846 (by decide +kernel) (by decide +kernel)⟩
theorem fX6_26 : FI RX6 26 6 10 RX6 TX6 31 := ⟨rfl, by decide, uX6, gW_mem 847 (by decide +kernel) (by decide +kernel)⟩
theorem fX6_29 : FI RX6 29 6 11 RX6 TX6 31 := ⟨rfl, by decide, uX6, gW_mem 848 (by decide +kernel) (by decide +kernel)⟩
theorem fX6_32 : FI RX6 32 6 12 RX6 TX6 31 := ⟨rfl, by decide, uX6, gW_mem 849 (by decide +kernel) (by decide +kernel)⟩
theorem fX6_35 : FI RX6 35 6 13 RX6 TX6 31 := ⟨rfl, by decide, uX6, gW_mem 850 (by decide +kernel) (by decide +kernel)⟩
theorem fX6_38 : FI RX6 38 6 14 RX6 TX6 31 := ⟨rfl, by decide, uX6, gW_mem 851 (by decide +kernel) (by decide +kernel)⟩
theorem fX6_41 : FI RX6 41 6 15 RX6 TX6 31 := ⟨rfl, by decide, uX6, gW_mem 852 (by decide +kernel) (by decide +kernel)⟩
theorem fX6_44 : FI RX6 44 6 16 RX6 TX6 31 := ⟨rfl, by decide, uX6, gW_mem 853 (by decide +kernel) (by decide +kernel)⟩
theorem fX6_47 : FI RX6 47 6 17 RX6 TX6 31 := ⟨rfl, by decide, uX6, gW_mem 854 (by decide +kernel) (by decide +kernel)⟩
theorem fX6_50 : FI RX6 50 6 18 RX6 TX6 31 := ⟨rfl, by decide, uX6, gW_mem 855 (by decide +kernel) (by decide +kernel)⟩
theorem fX6_53 : FI RX6 53 6 19 RX6 TX6 31 := ⟨rfl, by decide, uX6, gW_mem 856 (by decide +kernel) (by decide +kernel)⟩
theorem fX6_57 : FI RX6 57 6 20 RX6 TX6 31 := ⟨rfl, by decide, uX6, gW_mem 857 (by decide +kernel) (by decide +kernel)⟩
theorem fX6_60 : FI RX6 60 6 21 RX6 TX6 31 := ⟨rfl, by decide, uX6, gW_mem 858 (by decide +kernel) (by decide +kernel)⟩
theorem fX6_63 : FI RX6 63 6 22 RX6 TX6 31 := ⟨rfl, by decide, uX6, gW_mem 859 (by decide +kernel) (by decide +kernel)⟩
theorem fX6_66 : FI RX6 66 6 23 RX6 TX6 31 := ⟨rfl, by decide, uX6, gW_mem 860 (by decide +kernel) (by decide +kernel)⟩
theorem fX6_69 : FI RX6 69 6 24 RX6 TX6 31 := ⟨rfl, by decide, uX6, gW_mem 861 (by decide +kernel) (by decide +kernel)⟩
theorem fX6_72 : FI RX6 72 6 25 RX6 TX6 31 := ⟨rfl, by decide, uX6, gW_mem 862 (by decide +kernel) (by decide +kernel)⟩
theorem fX6_75 : FI RX6 75 6 26 RX6 TX6 31 := ⟨rfl, by decide, uX6, gW_mem 863 (by decide +kernel) (by decide +kernel)⟩
theorem fX6_78 : FI RX6 78 6 27 RX6 TX6 31 := ⟨rfl, by decide, uX6, gW_mem 864 (by decide +kernel) (by decide +kernel)⟩
theorem fX6_81 : FI RX6 81 6 28 RX6 TX6 31 := ⟨rfl, by decide, uX6, gW_mem 865 (by decide +kernel) (by decide +kernel)⟩
theorem fX6_84 : FI RX6 84 6 29 RX6 TX6 31 := ⟨rfl, by decide, uX6, gW_mem 866 (by decide +kernel) (by decide +kernel)⟩
theorem fX6_87 : FI RX6 87 6 30 RX6 TX6 31 := ⟨rfl, by decide, uX6, gW_mem 867 (by decide +kernel) (by decide +kernel)⟩
theorem fX6_90 : FI RX6 90 6 0 RX6 TX6 31 := ⟨rfl, by decide, uX6, gW_mem 837 (by decide +kernel) (by decide +kernel)⟩
theorem fX6_93 : FI RX6 93 6 3 RX6 TX6 31 := ⟨rfl, by decide, uX6, gW_mem 840 (by decide +kernel) (by decide +kernel)⟩
theorem fX6_100 : FI RX6 100 6 4 RX6 TX6 31 := ⟨rfl, by decide, uX6, gW_mem 841 (by decide +kernel) (by decide +kernel)⟩
theorem fX6_108 : FI RX6 108 6 2 RX6 TX6 31 := ⟨rfl, by decide, uX6, gW_mem 839 (by decide +kernel) (by decide +kernel)⟩
theorem fX6_115 : FI RX6 115 6 5 RX6 TX6 31 := ⟨rfl, by decide, uX6, gW_mem 842 (by decide +kernel) (by decide +kernel)⟩
theorem kX5_71 : CV RX5 71 RX5 yX5_requireStratum cX5_requireStratum 2 none 1 := ⟨gW_mem 393 (by decide +kernel) (by decide +kernel), gW_mem 395 (by decide +kernel) (by decide +kernel), gW_mem 9 (by decide +kernel) (by decide +kernel), gW_mem 42 (by decide +kernel) (by decide +kernel), gW_mem 396 (by decide +kernel) (by decide +kernel), rfl, by decide, by decide, by decide +kernel⟩
theorem kX5_75 : CV RX5 75 RX5 yX5_requirePlace cX5_requirePlace 2 none 1 := ⟨gW_mem 410 (by decide +kernel) (by decide +kernel), gW_mem 412 (by decide +kernel) (by decide +kernel), gW_mem 10 (by decide +kernel) (by decide +kernel), gW_mem 42 (by decide +kernel) (by decide +kernel), gW_mem 413 (by decide +kernel) (by decide +kernel), rfl, by decide, by decide, by decide +kernel⟩
theorem kX5_78 : CV RX5 78 RX5 yX5_requireLanguage cX5_requireLanguage 2 none 1 := ⟨gW_mem 415 (by decide +kernel) (by decide +kernel), gW_mem 417 (by decide +kernel) (by decide +kernel), gW_mem 11 (by decide +kernel) (by decide +kernel), gW_mem 42 (by decide +kernel) (by decide +kernel), gW_mem 418 (by decide +kernel) (by decide +kernel), rfl, by decide, by decide, by decide +kernel⟩
theorem kX5_85 : CI RX5 85 yX2_init cX2_init 2 1 := ⟨gW_mem 422 (by decide +kernel) (by decide +kernel), gW_mem 423 (by decide +kernel) (by decide +kernel), gW_mem 55 (by decide +kernel) (by decide +kernel), gW_mem 424 (by decide +kernel) (by decide +kernel), rfl, by decide, by decide, by decide +kernel⟩
theorem kX5_100 : CI RX5 100 yX3_init cX3_init 4 3 := ⟨gW_mem 479 (by decide +kernel) (by decide +kernel), gW_mem 480 (by decide +kernel) (by decide +kernel), gW_mem 56 (by decide +kernel) (by decide +kernel), gW_mem 481 (by decide +kernel) (by decide +kernel), rfl, by decide, by decide, by decide +kernel⟩
theorem kX5_105 : CV RX5 105 RX5 yX5_undrawnIn cX5_undrawnIn 4 (some .int) 1 := ⟨gW_mem 515 (by decide +kernel) (by decide +kernel), gW_mem 517 (by decide +kernel) (by decide +kernel), gW_mem 12 (by decide +kernel) (by decide +kernel), gW_mem 42 (by decide +kernel) (by decide +kernel), gW_mem 518 (by decide +kernel) (by decide +kernel), rfl, by decide, by decide, by decide +kernel⟩
theorem kX5_111 : CV RX5 111 RX5 yX5_drawOne cX5_drawOne 5 (some .int) 1 := ⟨gW_mem 524 (by decide +kernel) (by decide +kernel), gW_mem 526 (by decide +kernel) (by decide +kernel), gW_mem 14 (by decide +kernel) (by decide +kernel), gW_mem 42 (by decide +kernel) (by decide +kernel), gW_mem 527 (by decide +kernel) (by decide +kernel), rfl, by decide, by decide, by decide +kernel⟩
theorem kX5_114 : CV RX5 114 RX0 yX0_raiseTargets cX0_raiseTargets 2 none 1 := ⟨gW_mem 532 (by decide +kernel) (by decide +kernel), gW_mem 533 (by decide +kernel) (by decide +kernel), gW_mem 534 (by decide +kernel) (by decide +kernel), gW_mem 43 (by decide +kernel) (by decide +kernel), gW_mem 535 (by decide +kernel) (by decide +kernel), rfl, by decide, by decide, by decide +kernel⟩
theorem kX5_117 : CV RX5 117 RX4 yX4_fitTo cX4_fitTo 3 none 1 := ⟨gW_mem 222 (by decide +kernel) (by decide +kernel), gW_mem 223 (by decide +kernel) (by decide +kernel), gW_mem 224 (by decide +kernel) (by decide +kernel), gW_mem 44 (by decide +kernel) (by decide +kernel), gW_mem 225 (by decide +kernel) (by decide +kernel), rfl, by decide, by decide, by decide +kernel⟩
theorem kX5_121 : CV RX5 121 RX5 yX5_interviewerNumbered cX5_interviewerNumbered 2 (some (.object "Fieldbook$Interviewer")) 1 := ⟨gW_mem 543 (by decide +kernel) (by decide +kernel), gW_mem 545 (by decide +kernel) (by decide +kernel), gW_mem 15 (by decide +kernel) (by decide +kernel), gW_mem 42 (by decide +kernel) (by decide +kernel), gW_mem 546 (by decide +kernel) (by decide +kernel), rfl, by decide, by decide, by decide +kernel⟩
theorem kX5_136 : CV RX5 136 RX3 yX3_minutesInAll cX3_minutesInAll 1 (some .int) 0 := ⟨gW_mem 583 (by decide +kernel) (by decide +kernel), gW_mem 584 (by decide +kernel) (by decide +kernel), gW_mem 585 (by decide +kernel) (by decide +kernel), gW_mem 56 (by decide +kernel) (by decide +kernel), gW_mem 586 (by decide +kernel) (by decide +kernel), rfl, by decide, by decide, by decide +kernel⟩
theorem kX5_140 : CV RX5 140 RX5 yX5_houseNumbered cX5_houseNumbered 2 (some (.object "Fieldbook$House")) 1 := ⟨gW_mem 597 (by decide +kernel) (by decide +kernel), gW_mem 599 (by decide +kernel) (by decide +kernel), gW_mem 17 (by decide +kernel) (by decide +kernel), gW_mem 42 (by decide +kernel) (by decide +kernel), gW_mem 600 (by decide +kernel) (by decide +kernel), rfl, by decide, by decide, by decide +kernel⟩
theorem kX5_144 : CV RX5 144 RX5 yX5_requireOutcome cX5_requireOutcome 2 none 1 := ⟨gW_mem 602 (by decide +kernel) (by decide +kernel), gW_mem 604 (by decide +kernel) (by decide +kernel), gW_mem 18 (by decide +kernel) (by decide +kernel), gW_mem 42 (by decide +kernel) (by decide +kernel), gW_mem 605 (by decide +kernel) (by decide +kernel), rfl, by decide, by decide, by decide +kernel⟩
theorem kX5_148 : CV RX5 148 RX5 yX5_requireAnswer cX5_requireAnswer 2 none 1 := ⟨gW_mem 607 (by decide +kernel) (by decide +kernel), gW_mem 609 (by decide +kernel) (by decide +kernel), gW_mem 19 (by decide +kernel) (by decide +kernel), gW_mem 42 (by decide +kernel) (by decide +kernel), gW_mem 610 (by decide +kernel) (by decide +kernel), rfl, by decide, by decide, by decide +kernel⟩
theorem kX5_151 : CV RX5 151 RX5 yX5_requireOpenVisit cX5_requireOpenVisit 2 none 1 := ⟨gW_mem 612 (by decide +kernel) (by decide +kernel), gW_mem 614 (by decide +kernel) (by decide +kernel), gW_mem 20 (by decide +kernel) (by decide +kernel), gW_mem 42 (by decide +kernel) (by decide +kernel), gW_mem 615 (by decide +kernel) (by decide +kernel), rfl, by decide, by decide, by decide +kernel⟩
theorem kX5_158 : CV RX5 158 RX1 yX1_append cX1_append 5 none 4 := ⟨gW_mem 620 (by decide +kernel) (by decide +kernel), gW_mem 621 (by decide +kernel) (by decide +kernel), gW_mem 622 (by decide +kernel) (by decide +kernel), gW_mem 45 (by decide +kernel) (by decide +kernel), gW_mem 623 (by decide +kernel) (by decide +kernel), rfl, by decide, by decide, by decide +kernel⟩
theorem kX5_169 : CV RX5 169 RX5 yX5_takeAnswer cX5_takeAnswer 4 none 3 := ⟨gW_mem 624 (by decide +kernel) (by decide +kernel), gW_mem 626 (by decide +kernel) (by decide +kernel), gW_mem 21 (by decide +kernel) (by decide +kernel), gW_mem 42 (by decide +kernel) (by decide +kernel), gW_mem 627 (by decide +kernel) (by decide +kernel), rfl, by decide, by decide, by decide +kernel⟩
theorem kX5_172 : CV RX5 172 RX2 yX2_meetNobody cX2_meetNobody 2 none 1 := ⟨gW_mem 629 (by decide +kernel) (by decide +kernel), gW_mem 630 (by decide +kernel) (by decide +kernel), gW_mem 631 (by decide +kernel) (by decide +kernel), gW_mem 55 (by decide +kernel) (by decide +kernel), gW_mem 632 (by decide +kernel) (by decide +kernel), rfl, by decide, by decide, by decide +kernel⟩
theorem kX5_175 : CV RX5 175 RX2 yX2_refuse cX2_refuse 3 none 2 := ⟨gW_mem 638 (by decide +kernel) (by decide +kernel), gW_mem 639 (by decide +kernel) (by decide +kernel), gW_mem 640 (by decide +kernel) (by decide +kernel), gW_mem 55 (by decide +kernel) (by decide +kernel), gW_mem 641 (by decide +kernel) (by decide +kernel), rfl, by decide, by decide, by decide +kernel⟩
theorem kX5_179 : CV RX5 179 RX2 yX2_lose cX2_lose 2 none 1 := ⟨gW_mem 642 (by decide +kernel) (by decide +kernel), gW_mem 634 (by decide +kernel) (by decide +kernel), gW_mem 635 (by decide +kernel) (by decide +kernel), gW_mem 55 (by decide +kernel) (by decide +kernel), gW_mem 636 (by decide +kernel) (by decide +kernel), rfl, by decide, by decide, by decide +kernel⟩
theorem kX5_194 : CV RX5 194 RX4 yX4_askAgain cX4_askAgain 4 (some .boolean) 2 := ⟨gW_mem 651 (by decide +kernel) (by decide +kernel), gW_mem 211 (by decide +kernel) (by decide +kernel), gW_mem 212 (by decide +kernel) (by decide +kernel), gW_mem 44 (by decide +kernel) (by decide +kernel), gW_mem 213 (by decide +kernel) (by decide +kernel), rfl, by decide, by decide, by decide +kernel⟩
theorem kX5_198 : CV RX5 198 RX5 yX5_wantLostAnswersAgain cX5_wantLostAnswersAgain 2 none 0 := ⟨gW_mem 652 (by decide +kernel) (by decide +kernel), gW_mem 654 (by decide +kernel) (by decide +kernel), gW_mem 22 (by decide +kernel) (by decide +kernel), gW_mem 42 (by decide +kernel) (by decide +kernel), gW_mem 655 (by decide +kernel) (by decide +kernel), rfl, by decide, by decide, by decide +kernel⟩
theorem kX5_203 : CV RX5 203 RX5 yX5_replaceLostHouses cX5_replaceLostHouses 3 (some .int) 0 := ⟨gW_mem 664 (by decide +kernel) (by decide +kernel), gW_mem 666 (by decide +kernel) (by decide +kernel), gW_mem 23 (by decide +kernel) (by decide +kernel), gW_mem 42 (by decide +kernel) (by decide +kernel), gW_mem 667 (by decide +kernel) (by decide +kernel), rfl, by decide, by decide, by decide +kernel⟩
theorem kX5_206 : CV RX5 206 RX5 yX5_makeRounds cX5_makeRounds 2 none 0 := ⟨gW_mem 668 (by decide +kernel) (by decide +kernel), gW_mem 670 (by decide +kernel) (by decide +kernel), gW_mem 24 (by decide +kernel) (by decide +kernel), gW_mem 42 (by decide +kernel) (by decide +kernel), gW_mem 671 (by decide +kernel) (by decide +kernel), rfl, by decide, by decide, by decide +kernel⟩
theorem kX5_214 : CV RX5 214 RX5 yX5_requireAnswered cX5_requireAnswered 2 none 1 := ⟨gW_mem 746 (by decide +kernel) (by decide +kernel), gW_mem 748 (by decide +kernel) (by decide +kernel), gW_mem 28 (by decide +kernel) (by decide +kernel), gW_mem 42 (by decide +kernel) (by decide +kernel), gW_mem 749 (by decide +kernel) (by decide +kernel), rfl, by decide, by decide, by decide +kernel⟩
theorem kX5_217 : CV RX5 217 RX5 yX5_requireInterviewer cX5_requireInterviewer 2 none 1 := ⟨gW_mem 547 (by decide +kernel) (by decide +kernel), gW_mem 549 (by decide +kernel) (by decide +kernel), gW_mem 16 (by decide +kernel) (by decide +kernel), gW_mem 42 (by decide +kernel) (by decide +kernel), gW_mem 550 (by decide +kernel) (by decide +kernel), rfl, by decide, by decide, by decide +kernel⟩
theorem kX5_236 : CV RX5 236 RX5 yX5_weighAnew cX5_weighAnew 1 none 0 := ⟨gW_mem 190 (by decide +kernel) (by decide +kernel), gW_mem 192 (by decide +kernel) (by decide +kernel), gW_mem 0 (by decide +kernel) (by decide +kernel), gW_mem 42 (by decide +kernel) (by decide +kernel), gW_mem 193 (by decide +kernel) (by decide +kernel), rfl, by decide, by decide, by decide +kernel⟩
theorem kX5_239 : CV RX5 239 RX4 yX4_sumOfGroup cX4_sumOfGroup 6 (some .int) 3 := ⟨gW_mem 793 (by decide +kernel) (by decide +kernel), gW_mem 243 (by decide +kernel) (by decide +kernel), gW_mem 244 (by decide +kernel) (by decide +kernel), gW_mem 44 (by decide +kernel) (by decide +kernel), gW_mem 245 (by decide +kernel) (by decide +kernel), rfl, by decide, by decide, by decide +kernel⟩
theorem kX5_243 : CV RX5 243 RX5 yX5_sumOfWeights cX5_sumOfWeights 4 (some .long) 0 := ⟨gW_mem 815 (by decide +kernel) (by decide +kernel), gW_mem 817 (by decide +kernel) (by decide +kernel), gW_mem 29 (by decide +kernel) (by decide +kernel), gW_mem 42 (by decide +kernel) (by decide +kernel), gW_mem 818 (by decide +kernel) (by decide +kernel), rfl, by decide, by decide, by decide +kernel⟩
theorem kX5_252 : CV RX5 252 RX5 yX5_weightedSum cX5_weightedSum 4 (some .long) 0 := ⟨gW_mem 822 (by decide +kernel) (by decide +kernel), gW_mem 183 (by decide +kernel) (by decide +kernel), gW_mem 184 (by decide +kernel) (by decide +kernel), gW_mem 42 (by decide +kernel) (by decide +kernel), gW_mem 185 (by decide +kernel) (by decide +kernel), rfl, by decide, by decide, by decide +kernel⟩
theorem kX5_257 : CV RX5 257 RX4 yX4_meetsStratumTargets cX4_meetsStratumTargets 3 (some .boolean) 1 := ⟨gW_mem 250 (by decide +kernel) (by decide +kernel), gW_mem 251 (by decide +kernel) (by decide +kernel), gW_mem 252 (by decide +kernel) (by decide +kernel), gW_mem 44 (by decide +kernel) (by decide +kernel), gW_mem 253 (by decide +kernel) (by decide +kernel), rfl, by decide, by decide, by decide +kernel⟩
theorem kX5_261 : CV RX5 261 RX4 yX4_hasWeightsOf cX4_hasWeightsOf 4 (some .boolean) 2 := ⟨gW_mem 254 (by decide +kernel) (by decide +kernel), gW_mem 255 (by decide +kernel) (by decide +kernel), gW_mem 256 (by decide +kernel) (by decide +kernel), gW_mem 44 (by decide +kernel) (by decide +kernel), gW_mem 257 (by decide +kernel) (by decide +kernel), rfl, by decide, by decide, by decide +kernel⟩
theorem kX5_284 : CV RX5 284 RX4 yX4_isBarred cX4_isBarred 2 (some .boolean) 1 := ⟨gW_mem 618 (by decide +kernel) (by decide +kernel), gW_mem 215 (by decide +kernel) (by decide +kernel), gW_mem 216 (by decide +kernel) (by decide +kernel), gW_mem 44 (by decide +kernel) (by decide +kernel), gW_mem 217 (by decide +kernel) (by decide +kernel), rfl, by decide, by decide, by decide +kernel⟩
theorem kX5_294 : CV RX5 294 RX5 yX5_isUndrawnIn cX5_isUndrawnIn 3 (some .boolean) 2 := ⟨gW_mem 519 (by decide +kernel) (by decide +kernel), gW_mem 521 (by decide +kernel) (by decide +kernel), gW_mem 13 (by decide +kernel) (by decide +kernel), gW_mem 42 (by decide +kernel) (by decide +kernel), gW_mem 522 (by decide +kernel) (by decide +kernel), rfl, by decide, by decide, by decide +kernel⟩
theorem kX5_297 : CV RX5 297 RX2 yX2_wantFrom cX2_wantFrom 2 none 1 := ⟨gW_mem 528 (by decide +kernel) (by decide +kernel), gW_mem 529 (by decide +kernel) (by decide +kernel), gW_mem 530 (by decide +kernel) (by decide +kernel), gW_mem 55 (by decide +kernel) (by decide +kernel), gW_mem 531 (by decide +kernel) (by decide +kernel), rfl, by decide, by decide, by decide +kernel⟩
theorem kX5_303 : CV RX5 303 RX2 yX2_beginDay cX2_beginDay 1 none 0 := ⟨gW_mem 672 (by decide +kernel) (by decide +kernel), gW_mem 673 (by decide +kernel) (by decide +kernel), gW_mem 674 (by decide +kernel) (by decide +kernel), gW_mem 55 (by decide +kernel) (by decide +kernel), gW_mem 675 (by decide +kernel) (by decide +kernel), rfl, by decide, by decide, by decide +kernel⟩
theorem kX5_306 : CV RX5 306 RX3 yX3_beginRound cX3_beginRound 1 none 0 := ⟨gW_mem 676 (by decide +kernel) (by decide +kernel), gW_mem 677 (by decide +kernel) (by decide +kernel), gW_mem 678 (by decide +kernel) (by decide +kernel), gW_mem 56 (by decide +kernel) (by decide +kernel), gW_mem 679 (by decide +kernel) (by decide +kernel), rfl, by decide, by decide, by decide +kernel⟩
theorem kX5_309 : CV RX5 309 RX5 yX5_makeRound cX5_makeRound 5 none 1 := ⟨gW_mem 680 (by decide +kernel) (by decide +kernel), gW_mem 682 (by decide +kernel) (by decide +kernel), gW_mem 25 (by decide +kernel) (by decide +kernel), gW_mem 42 (by decide +kernel) (by decide +kernel), gW_mem 683 (by decide +kernel) (by decide +kernel), rfl, by decide, by decide, by decide +kernel⟩
theorem kX5_312 : CV RX5 312 RX5 yX5_nearestFor cX5_nearestFor 7 (some .int) 1 := ⟨gW_mem 684 (by decide +kernel) (by decide +kernel), gW_mem 686 (by decide +kernel) (by decide +kernel), gW_mem 26 (by decide +kernel) (by decide +kernel), gW_mem 42 (by decide +kernel) (by decide +kernel), gW_mem 687 (by decide +kernel) (by decide +kernel), rfl, by decide, by decide, by decide +kernel⟩
theorem kX5_318 : CV RX5 318 RX3 yX3_addToRound cX3_addToRound 3 none 2 := ⟨gW_mem 712 (by decide +kernel) (by decide +kernel), gW_mem 713 (by decide +kernel) (by decide +kernel), gW_mem 714 (by decide +kernel) (by decide +kernel), gW_mem 56 (by decide +kernel) (by decide +kernel), gW_mem 715 (by decide +kernel) (by decide +kernel), rfl, by decide, by decide, by decide +kernel⟩
theorem kX5_321 : CV RX5 321 RX5 yX5_canAdd cX5_canAdd 5 (some .boolean) 2 := ⟨gW_mem 688 (by decide +kernel) (by decide +kernel), gW_mem 690 (by decide +kernel) (by decide +kernel), gW_mem 27 (by decide +kernel) (by decide +kernel), gW_mem 42 (by decide +kernel) (by decide +kernel), gW_mem 691 (by decide +kernel) (by decide +kernel), rfl, by decide, by decide, by decide +kernel⟩
theorem kX5_324 : CV RX5 324 RX3 yX3_wayTo cX3_wayTo 2 (some .int) 1 := ⟨gW_mem 708 (by decide +kernel) (by decide +kernel), gW_mem 709 (by decide +kernel) (by decide +kernel), gW_mem 710 (by decide +kernel) (by decide +kernel), gW_mem 56 (by decide +kernel) (by decide +kernel), gW_mem 711 (by decide +kernel) (by decide +kernel), rfl, by decide, by decide, by decide +kernel⟩
theorem kX5_327 : CV RX5 327 RX2 yX2_isFree cX2_isFree 2 (some .boolean) 1 := ⟨gW_mem 692 (by decide +kernel) (by decide +kernel), gW_mem 693 (by decide +kernel) (by decide +kernel), gW_mem 694 (by decide +kernel) (by decide +kernel), gW_mem 55 (by decide +kernel) (by decide +kernel), gW_mem 695 (by decide +kernel) (by decide +kernel), rfl, by decide, by decide, by decide +kernel⟩
theorem kX5_330 : CV RX5 330 RX2 yX2_hasRefused cX2_hasRefused 2 (some .boolean) 1 := ⟨gW_mem 696 (by decide +kernel) (by decide +kernel), gW_mem 697 (by decide +kernel) (by decide +kernel), gW_mem 698 (by decide +kernel) (by decide +kernel), gW_mem 55 (by decide +kernel) (by decide +kernel), gW_mem 699 (by decide +kernel) (by decide +kernel), rfl, by decide, by decide, by decide +kernel⟩
theorem kX5_333 : CV RX5 333 RX3 yX3_speaks cX3_speaks 2 (some .boolean) 1 := ⟨gW_mem 700 (by decide +kernel) (by decide +kernel), gW_mem 701 (by decide +kernel) (by decide +kernel), gW_mem 702 (by decide +kernel) (by decide +kernel), gW_mem 56 (by decide +kernel) (by decide +kernel), gW_mem 703 (by decide +kernel) (by decide +kernel), rfl, by decide, by decide, by decide +kernel⟩
theorem kX5_336 : CV RX5 336 RX3 yX3_hasTimeFor cX3_hasTimeFor 2 (some .boolean) 1 := ⟨gW_mem 704 (by decide +kernel) (by decide +kernel), gW_mem 705 (by decide +kernel) (by decide +kernel), gW_mem 706 (by decide +kernel) (by decide +kernel), gW_mem 56 (by decide +kernel) (by decide +kernel), gW_mem 707 (by decide +kernel) (by decide +kernel), rfl, by decide, by decide, by decide +kernel⟩
theorem kX5_339 : CV RX5 339 RX4 yX4_take cX4_take 4 none 3 := ⟨gW_mem 628 (by decide +kernel) (by decide +kernel), gW_mem 207 (by decide +kernel) (by decide +kernel), gW_mem 208 (by decide +kernel) (by decide +kernel), gW_mem 44 (by decide +kernel) (by decide +kernel), gW_mem 209 (by decide +kernel) (by decide +kernel), rfl, by decide, by decide, by decide +kernel⟩
theorem kX5_342 : CV RX5 342 RX1 yX1_retell cX1_retell 3 none 1 := ⟨gW_mem 194 (by decide +kernel) (by decide +kernel), gW_mem 195 (by decide +kernel) (by decide +kernel), gW_mem 196 (by decide +kernel) (by decide +kernel), gW_mem 45 (by decide +kernel) (by decide +kernel), gW_mem 197 (by decide +kernel) (by decide +kernel), rfl, by decide, by decide, by decide +kernel⟩
theorem kX1_19 : CV RX1 19 RX4 yX4_clear cX4_clear 2 none 0 := ⟨gW_mem 198 (by decide +kernel) (by decide +kernel), gW_mem 199 (by decide +kernel) (by decide +kernel), gW_mem 200 (by decide +kernel) (by decide +kernel), gW_mem 44 (by decide +kernel) (by decide +kernel), gW_mem 201 (by decide +kernel) (by decide +kernel), rfl, by decide, by decide, by decide +kernel⟩
theorem kX1_24 : CV RX1 24 RX1 yX1_retellOne cX1_retellOne 7 none 2 := ⟨gW_mem 202 (by decide +kernel) (by decide +kernel), gW_mem 204 (by decide +kernel) (by decide +kernel), gW_mem 1 (by decide +kernel) (by decide +kernel), gW_mem 45 (by decide +kernel) (by decide +kernel), gW_mem 205 (by decide +kernel) (by decide +kernel), rfl, by decide, by decide, by decide +kernel⟩
theorem kX1_28 : CV RX1 28 RX4 yX4_take cX4_take 4 none 3 := ⟨gW_mem 206 (by decide +kernel) (by decide +kernel), gW_mem 207 (by decide +kernel) (by decide +kernel), gW_mem 208 (by decide +kernel) (by decide +kernel), gW_mem 44 (by decide +kernel) (by decide +kernel), gW_mem 209 (by decide +kernel) (by decide +kernel), rfl, by decide, by decide, by decide +kernel⟩
theorem kX1_32 : CV RX1 32 RX4 yX4_askAgain cX4_askAgain 4 (some .boolean) 2 := ⟨gW_mem 210 (by decide +kernel) (by decide +kernel), gW_mem 211 (by decide +kernel) (by decide +kernel), gW_mem 212 (by decide +kernel) (by decide +kernel), gW_mem 44 (by decide +kernel) (by decide +kernel), gW_mem 213 (by decide +kernel) (by decide +kernel), rfl, by decide, by decide, by decide +kernel⟩
theorem kX2_47 : CV RX2 47 RX2 yX2_lose cX2_lose 2 none 1 := ⟨gW_mem 633 (by decide +kernel) (by decide +kernel), gW_mem 634 (by decide +kernel) (by decide +kernel), gW_mem 635 (by decide +kernel) (by decide +kernel), gW_mem 55 (by decide +kernel) (by decide +kernel), gW_mem 636 (by decide +kernel) (by decide +kernel), rfl, by decide, by decide, by decide +kernel⟩
theorem kX2_51 : CV RX2 51 RX2 yX2_wantFrom cX2_wantFrom 2 none 1 := ⟨gW_mem 637 (by decide +kernel) (by decide +kernel), gW_mem 529 (by decide +kernel) (by decide +kernel), gW_mem 530 (by decide +kernel) (by decide +kernel), gW_mem 55 (by decide +kernel) (by decide +kernel), gW_mem 531 (by decide +kernel) (by decide +kernel), rfl, by decide, by decide, by decide +kernel⟩
theorem kX3_40 : CV RX3 40 RX3 yX3_wayTo cX3_wayTo 2 (some .int) 1 := ⟨gW_mem 716 (by decide +kernel) (by decide +kernel), gW_mem 709 (by decide +kernel) (by decide +kernel), gW_mem 710 (by decide +kernel) (by decide +kernel), gW_mem 56 (by decide +kernel) (by decide +kernel), gW_mem 711 (by decide +kernel) (by decide +kernel), rfl, by decide, by decide, by decide +kernel⟩
theorem kX4_28 : CV RX4 28 RX4 yX4_isBarred cX4_isBarred 2 (some .boolean) 1 := ⟨gW_mem 214 (by decide +kernel) (by decide +kernel), gW_mem 215 (by decide +kernel) (by decide +kernel), gW_mem 216 (by decide +kernel) (by decide +kernel), gW_mem 44 (by decide +kernel) (by decide +kernel), gW_mem 217 (by decide +kernel) (by decide +kernel), rfl, by decide, by decide, by decide +kernel⟩
theorem kX4_32 : CV RX4 32 RX4 yX4_dropAnswersTo cX4_dropAnswersTo 3 none 1 := ⟨gW_mem 218 (by decide +kernel) (by decide +kernel), gW_mem 220 (by decide +kernel) (by decide +kernel), gW_mem 2 (by decide +kernel) (by decide +kernel), gW_mem 44 (by decide +kernel) (by decide +kernel), gW_mem 221 (by decide +kernel) (by decide +kernel), rfl, by decide, by decide, by decide +kernel⟩
theorem kX4_48 : CV RX4 48 RX4 yX4_fitGroups cX4_fitGroups 6 none 3 := ⟨gW_mem 226 (by decide +kernel) (by decide +kernel), gW_mem 228 (by decide +kernel) (by decide +kernel), gW_mem 3 (by decide +kernel) (by decide +kernel), gW_mem 44 (by decide +kernel) (by decide +kernel), gW_mem 229 (by decide +kernel) (by decide +kernel), rfl, by decide, by decide, by decide +kernel⟩
theorem kX4_58 : CV RX4 58 RX4 yX4_membersOfGroup cX4_membersOfGroup 6 (some .int) 3 := ⟨gW_mem 230 (by decide +kernel) (by decide +kernel), gW_mem 232 (by decide +kernel) (by decide +kernel), gW_mem 4 (by decide +kernel) (by decide +kernel), gW_mem 44 (by decide +kernel) (by decide +kernel), gW_mem 233 (by decide +kernel) (by decide +kernel), rfl, by decide, by decide, by decide +kernel⟩
theorem kX4_62 : CV RX4 62 RX4 yX4_fitGroup cX4_fitGroup 11 none 5 := ⟨gW_mem 238 (by decide +kernel) (by decide +kernel), gW_mem 240 (by decide +kernel) (by decide +kernel), gW_mem 6 (by decide +kernel) (by decide +kernel), gW_mem 44 (by decide +kernel) (by decide +kernel), gW_mem 241 (by decide +kernel) (by decide +kernel), rfl, by decide, by decide, by decide +kernel⟩
theorem kX4_66 : CV RX4 66 RX4 yX4_sumOfGroup cX4_sumOfGroup 6 (some .int) 3 := ⟨gW_mem 242 (by decide +kernel) (by decide +kernel), gW_mem 243 (by decide +kernel) (by decide +kernel), gW_mem 244 (by decide +kernel) (by decide +kernel), gW_mem 44 (by decide +kernel) (by decide +kernel), gW_mem 245 (by decide +kernel) (by decide +kernel), rfl, by decide, by decide, by decide +kernel⟩
theorem kX4_69 : CV RX4 69 RX4 yX4_isInGroup cX4_isInGroup 4 (some .boolean) 3 := ⟨gW_mem 234 (by decide +kernel) (by decide +kernel), gW_mem 236 (by decide +kernel) (by decide +kernel), gW_mem 5 (by decide +kernel) (by decide +kernel), gW_mem 44 (by decide +kernel) (by decide +kernel), gW_mem 237 (by decide +kernel) (by decide +kernel), rfl, by decide, by decide, by decide +kernel⟩
theorem kX4_73 : CV RX4 73 RX4 yX4_spreadMissing cX4_spreadMissing 7 none 4 := ⟨gW_mem 246 (by decide +kernel) (by decide +kernel), gW_mem 248 (by decide +kernel) (by decide +kernel), gW_mem 7 (by decide +kernel) (by decide +kernel), gW_mem 44 (by decide +kernel) (by decide +kernel), gW_mem 249 (by decide +kernel) (by decide +kernel), rfl, by decide, by decide, by decide +kernel⟩
theorem kL_7 : CV RL 7 RX5 yX5_setChance cX5_setChance 3 (some .int) 1 := ⟨gW_mem 262 (by decide +kernel) (by decide +kernel), gW_mem 263 (by decide +kernel) (by decide +kernel), gW_mem 264 (by decide +kernel) (by decide +kernel), gW_mem 42 (by decide +kernel) (by decide +kernel), gW_mem 265 (by decide +kernel) (by decide +kernel), rfl, by decide, by decide, by decide +kernel⟩
theorem kL_15 : CV RL 15 RX5 yX5_addStratum cX5_addStratum 2 (some .int) 0 := ⟨gW_mem 342 (by decide +kernel) (by decide +kernel), gW_mem 343 (by decide +kernel) (by decide +kernel), gW_mem 344 (by decide +kernel) (by decide +kernel), gW_mem 42 (by decide +kernel) (by decide +kernel), gW_mem 345 (by decide +kernel) (by decide +kernel), rfl, by decide, by decide, by decide +kernel⟩
theorem kL_21 : CV RL 21 RX5 yX5_addHouse cX5_addHouse 5 (some .int) 3 := ⟨gW_mem 389 (by decide +kernel) (by decide +kernel), gW_mem 390 (by decide +kernel) (by decide +kernel), gW_mem 391 (by decide +kernel) (by decide +kernel), gW_mem 42 (by decide +kernel) (by decide +kernel), gW_mem 392 (by decide +kernel) (by decide +kernel), rfl, by decide, by decide, by decide +kernel⟩
theorem kL_27 : CV RL 27 RX5 yX5_addInterviewer cX5_addInterviewer 5 (some .int) 3 := ⟨gW_mem 471 (by decide +kernel) (by decide +kernel), gW_mem 472 (by decide +kernel) (by decide +kernel), gW_mem 473 (by decide +kernel) (by decide +kernel), gW_mem 42 (by decide +kernel) (by decide +kernel), gW_mem 474 (by decide +kernel) (by decide +kernel), rfl, by decide, by decide, by decide +kernel⟩
theorem kL_30 : CV RL 30 RX5 yX5_draw cX5_draw 5 (some .int) 2 := ⟨gW_mem 510 (by decide +kernel) (by decide +kernel), gW_mem 511 (by decide +kernel) (by decide +kernel), gW_mem 512 (by decide +kernel) (by decide +kernel), gW_mem 42 (by decide +kernel) (by decide +kernel), gW_mem 513 (by decide +kernel) (by decide +kernel), rfl, by decide, by decide, by decide +kernel⟩
theorem kL_34 : CV RL 34 RX5 yX5_roundSize cX5_roundSize 2 (some .int) 1 := ⟨gW_mem 539 (by decide +kernel) (by decide +kernel), gW_mem 540 (by decide +kernel) (by decide +kernel), gW_mem 541 (by decide +kernel) (by decide +kernel), gW_mem 42 (by decide +kernel) (by decide +kernel), gW_mem 542 (by decide +kernel) (by decide +kernel), rfl, by decide, by decide, by decide +kernel⟩
theorem kL_37 : CV RL 37 RX5 yX5_roundAt cX5_roundAt 4 (some .int) 2 := ⟨gW_mem 556 (by decide +kernel) (by decide +kernel), gW_mem 557 (by decide +kernel) (by decide +kernel), gW_mem 558 (by decide +kernel) (by decide +kernel), gW_mem 42 (by decide +kernel) (by decide +kernel), gW_mem 559 (by decide +kernel) (by decide +kernel), rfl, by decide, by decide, by decide +kernel⟩
theorem kL_42 : CV RL 42 RX5 yX5_roundMinutes cX5_roundMinutes 2 (some .int) 1 := ⟨gW_mem 579 (by decide +kernel) (by decide +kernel), gW_mem 580 (by decide +kernel) (by decide +kernel), gW_mem 581 (by decide +kernel) (by decide +kernel), gW_mem 42 (by decide +kernel) (by decide +kernel), gW_mem 582 (by decide +kernel) (by decide +kernel), rfl, by decide, by decide, by decide +kernel⟩
theorem kL_45 : CV RL 45 RX5 yX5_visit cX5_visit 6 (some .int) 3 := ⟨gW_mem 593 (by decide +kernel) (by decide +kernel), gW_mem 594 (by decide +kernel) (by decide +kernel), gW_mem 595 (by decide +kernel) (by decide +kernel), gW_mem 42 (by decide +kernel) (by decide +kernel), gW_mem 596 (by decide +kernel) (by decide +kernel), rfl, by decide, by decide, by decide +kernel⟩
theorem kL_49 : CV RL 49 RX5 yX5_check cX5_check 5 (some .boolean) 2 := ⟨gW_mem 646 (by decide +kernel) (by decide +kernel), gW_mem 647 (by decide +kernel) (by decide +kernel), gW_mem 648 (by decide +kernel) (by decide +kernel), gW_mem 42 (by decide +kernel) (by decide +kernel), gW_mem 649 (by decide +kernel) (by decide +kernel), rfl, by decide, by decide, by decide +kernel⟩
theorem kL_53 : CV RL 53 RX5 yX5_endDay cX5_endDay 2 (some .int) 0 := ⟨gW_mem 659 (by decide +kernel) (by decide +kernel), gW_mem 660 (by decide +kernel) (by decide +kernel), gW_mem 661 (by decide +kernel) (by decide +kernel), gW_mem 42 (by decide +kernel) (by decide +kernel), gW_mem 662 (by decide +kernel) (by decide +kernel), rfl, by decide, by decide, by decide +kernel⟩
theorem kL_56 : CV RL 56 RX5 yX5_stateOf cX5_stateOf 2 (some .char) 1 := ⟨gW_mem 720 (by decide +kernel) (by decide +kernel), gW_mem 721 (by decide +kernel) (by decide +kernel), gW_mem 722 (by decide +kernel) (by decide +kernel), gW_mem 42 (by decide +kernel) (by decide +kernel), gW_mem 723 (by decide +kernel) (by decide +kernel), rfl, by decide, by decide, by decide +kernel⟩
theorem kL_60 : CV RL 60 RX5 yX5_wantedFrom cX5_wantedFrom 3 (some .int) 1 := ⟨gW_mem 727 (by decide +kernel) (by decide +kernel), gW_mem 728 (by decide +kernel) (by decide +kernel), gW_mem 729 (by decide +kernel) (by decide +kernel), gW_mem 42 (by decide +kernel) (by decide +kernel), gW_mem 730 (by decide +kernel) (by decide +kernel), rfl, by decide, by decide, by decide +kernel⟩
theorem kL_63 : CV RL 63 RX5 yX5_codeOf cX5_codeOf 3 (some .int) 1 := ⟨gW_mem 735 (by decide +kernel) (by decide +kernel), gW_mem 736 (by decide +kernel) (by decide +kernel), gW_mem 737 (by decide +kernel) (by decide +kernel), gW_mem 42 (by decide +kernel) (by decide +kernel), gW_mem 738 (by decide +kernel) (by decide +kernel), rfl, by decide, by decide, by decide +kernel⟩
theorem kL_66 : CV RL 66 RX5 yX5_answerOf cX5_answerOf 2 (some .int) 1 := ⟨gW_mem 742 (by decide +kernel) (by decide +kernel), gW_mem 743 (by decide +kernel) (by decide +kernel), gW_mem 744 (by decide +kernel) (by decide +kernel), gW_mem 42 (by decide +kernel) (by decide +kernel), gW_mem 745 (by decide +kernel) (by decide +kernel), rfl, by decide, by decide, by decide +kernel⟩
theorem kL_69 : CV RL 69 RX5 yX5_faults cX5_faults 2 (some .int) 1 := ⟨gW_mem 754 (by decide +kernel) (by decide +kernel), gW_mem 755 (by decide +kernel) (by decide +kernel), gW_mem 756 (by decide +kernel) (by decide +kernel), gW_mem 42 (by decide +kernel) (by decide +kernel), gW_mem 757 (by decide +kernel) (by decide +kernel), rfl, by decide, by decide, by decide +kernel⟩
theorem kL_72 : CV RL 72 RX5 yX5_answersTo cX5_answersTo 4 (some .int) 1 := ⟨gW_mem 761 (by decide +kernel) (by decide +kernel), gW_mem 762 (by decide +kernel) (by decide +kernel), gW_mem 763 (by decide +kernel) (by decide +kernel), gW_mem 42 (by decide +kernel) (by decide +kernel), gW_mem 764 (by decide +kernel) (by decide +kernel), rfl, by decide, by decide, by decide +kernel⟩
theorem kL_75 : CV RL 75 RX5 yX5_target cX5_target 2 (some .int) 1 := ⟨gW_mem 768 (by decide +kernel) (by decide +kernel), gW_mem 769 (by decide +kernel) (by decide +kernel), gW_mem 770 (by decide +kernel) (by decide +kernel), gW_mem 42 (by decide +kernel) (by decide +kernel), gW_mem 771 (by decide +kernel) (by decide +kernel), rfl, by decide, by decide, by decide +kernel⟩
theorem kL_78 : CV RL 78 RX5 yX5_weight cX5_weight 2 (some .int) 1 := ⟨gW_mem 775 (by decide +kernel) (by decide +kernel), gW_mem 776 (by decide +kernel) (by decide +kernel), gW_mem 777 (by decide +kernel) (by decide +kernel), gW_mem 42 (by decide +kernel) (by decide +kernel), gW_mem 778 (by decide +kernel) (by decide +kernel), rfl, by decide, by decide, by decide +kernel⟩
theorem kL_81 : CV RL 81 RX5 yX5_weightAnew cX5_weightAnew 2 (some .int) 1 := ⟨gW_mem 782 (by decide +kernel) (by decide +kernel), gW_mem 783 (by decide +kernel) (by decide +kernel), gW_mem 784 (by decide +kernel) (by decide +kernel), gW_mem 42 (by decide +kernel) (by decide +kernel), gW_mem 785 (by decide +kernel) (by decide +kernel), rfl, by decide, by decide, by decide +kernel⟩
theorem kL_84 : CV RL 84 RX5 yX5_weightOfLanguage cX5_weightOfLanguage 2 (some .int) 1 := ⟨gW_mem 789 (by decide +kernel) (by decide +kernel), gW_mem 790 (by decide +kernel) (by decide +kernel), gW_mem 791 (by decide +kernel) (by decide +kernel), gW_mem 42 (by decide +kernel) (by decide +kernel), gW_mem 792 (by decide +kernel) (by decide +kernel), rfl, by decide, by decide, by decide +kernel⟩
theorem kL_87 : CV RL 87 RX5 yX5_weightedMean cX5_weightedMean 3 (some .double) 0 := ⟨gW_mem 811 (by decide +kernel) (by decide +kernel), gW_mem 812 (by decide +kernel) (by decide +kernel), gW_mem 813 (by decide +kernel) (by decide +kernel), gW_mem 42 (by decide +kernel) (by decide +kernel), gW_mem 814 (by decide +kernel) (by decide +kernel), rfl, by decide, by decide, by decide +kernel⟩
theorem kL_93 : CV RL 93 RX5 yX5_rate cX5_rate 5 (some .float) 0 := ⟨gW_mem 826 (by decide +kernel) (by decide +kernel), gW_mem 827 (by decide +kernel) (by decide +kernel), gW_mem 828 (by decide +kernel) (by decide +kernel), gW_mem 42 (by decide +kernel) (by decide +kernel), gW_mem 829 (by decide +kernel) (by decide +kernel), rfl, by decide, by decide, by decide +kernel⟩
theorem kL_97 : CI RL 97 yX5_init cX5_init 1 0 := ⟨gW_mem 62 (by decide +kernel) (by decide +kernel), gW_mem 63 (by decide +kernel) (by decide +kernel), gW_mem 42 (by decide +kernel) (by decide +kernel), gW_mem 64 (by decide +kernel) (by decide +kernel), rfl, by decide, by decide, by decide +kernel⟩
theorem kL_100 : CI RL 100 yX6_init cX6_init 1 0 := ⟨gW_mem 833 (by decide +kernel) (by decide +kernel), gW_mem 834 (by decide +kernel) (by decide +kernel), gW_mem 46 (by decide +kernel) (by decide +kernel), gW_mem 835 (by decide +kernel) (by decide +kernel), rfl, by decide, by decide, by decide +kernel⟩
theorem kL_106 : CV RL 106 RX6 yX6_setChance cX6_setChance 3 (some .int) 1 := ⟨gW_mem 935 (by decide +kernel) (by decide +kernel), gW_mem 936 (by decide +kernel) (by decide +kernel), gW_mem 937 (by decide +kernel) (by decide +kernel), gW_mem 46 (by decide +kernel) (by decide +kernel), gW_mem 938 (by decide +kernel) (by decide +kernel), rfl, by decide, by decide, by decide +kernel⟩
theorem kL_107 : CV RL 107 RX6 yX6_thrown cX6_thrown 1 (some .int) 0 := ⟨gW_mem 931 (by decide +kernel) (by decide +kernel), gW_mem 932 (by decide +kernel) (by decide +kernel), gW_mem 933 (by decide +kernel) (by decide +kernel), gW_mem 46 (by decide +kernel) (by decide +kernel), gW_mem 934 (by decide +kernel) (by decide +kernel), rfl, by decide, by decide, by decide +kernel⟩
theorem kL_113 : CV RL 113 RX6 yX6_addStratum cX6_addStratum 1 (some .int) 0 := ⟨gW_mem 947 (by decide +kernel) (by decide +kernel), gW_mem 948 (by decide +kernel) (by decide +kernel), gW_mem 949 (by decide +kernel) (by decide +kernel), gW_mem 46 (by decide +kernel) (by decide +kernel), gW_mem 950 (by decide +kernel) (by decide +kernel), rfl, by decide, by decide, by decide +kernel⟩
theorem kL_117 : CV RL 117 RX6 yX6_addHouse cX6_addHouse 4 (some .int) 3 := ⟨gW_mem 951 (by decide +kernel) (by decide +kernel), gW_mem 952 (by decide +kernel) (by decide +kernel), gW_mem 953 (by decide +kernel) (by decide +kernel), gW_mem 46 (by decide +kernel) (by decide +kernel), gW_mem 954 (by decide +kernel) (by decide +kernel), rfl, by decide, by decide, by decide +kernel⟩
theorem kL_120 : CV RL 120 RX6 yX6_addInterviewer cX6_addInterviewer 4 (some .int) 3 := ⟨gW_mem 955 (by decide +kernel) (by decide +kernel), gW_mem 956 (by decide +kernel) (by decide +kernel), gW_mem 957 (by decide +kernel) (by decide +kernel), gW_mem 46 (by decide +kernel) (by decide +kernel), gW_mem 958 (by decide +kernel) (by decide +kernel), rfl, by decide, by decide, by decide +kernel⟩
theorem kL_124 : CV RL 124 RX6 yX6_draw cX6_draw 5 (some .int) 2 := ⟨gW_mem 959 (by decide +kernel) (by decide +kernel), gW_mem 960 (by decide +kernel) (by decide +kernel), gW_mem 961 (by decide +kernel) (by decide +kernel), gW_mem 46 (by decide +kernel) (by decide +kernel), gW_mem 962 (by decide +kernel) (by decide +kernel), rfl, by decide, by decide, by decide +kernel⟩
theorem kL_125 : CV RL 125 RX5 yX5_day cX5_day 1 (some .int) 0 := ⟨gW_mem 178 (by decide +kernel) (by decide +kernel), gW_mem 179 (by decide +kernel) (by decide +kernel), gW_mem 180 (by decide +kernel) (by decide +kernel), gW_mem 42 (by decide +kernel) (by decide +kernel), gW_mem 181 (by decide +kernel) (by decide +kernel), rfl, by decide, by decide, by decide +kernel⟩
theorem kL_128 : CV RL 128 RX6 yX6_day cX6_day 1 (some .int) 0 := ⟨gW_mem 972 (by decide +kernel) (by decide +kernel), gW_mem 973 (by decide +kernel) (by decide +kernel), gW_mem 974 (by decide +kernel) (by decide +kernel), gW_mem 46 (by decide +kernel) (by decide +kernel), gW_mem 975 (by decide +kernel) (by decide +kernel), rfl, by decide, by decide, by decide +kernel⟩
theorem kL_131 : CV RL 131 RX6 yX6_roundSize cX6_roundSize 2 (some .int) 1 := ⟨gW_mem 976 (by decide +kernel) (by decide +kernel), gW_mem 977 (by decide +kernel) (by decide +kernel), gW_mem 978 (by decide +kernel) (by decide +kernel), gW_mem 46 (by decide +kernel) (by decide +kernel), gW_mem 979 (by decide +kernel) (by decide +kernel), rfl, by decide, by decide, by decide +kernel⟩
theorem kL_134 : CV RL 134 RX6 yX6_roundAt cX6_roundAt 3 (some .int) 2 := ⟨gW_mem 984 (by decide +kernel) (by decide +kernel), gW_mem 985 (by decide +kernel) (by decide +kernel), gW_mem 986 (by decide +kernel) (by decide +kernel), gW_mem 46 (by decide +kernel) (by decide +kernel), gW_mem 987 (by decide +kernel) (by decide +kernel), rfl, by decide, by decide, by decide +kernel⟩
theorem kL_137 : CV RL 137 RX6 yX6_roundMinutes cX6_roundMinutes 2 (some .int) 1 := ⟨gW_mem 988 (by decide +kernel) (by decide +kernel), gW_mem 989 (by decide +kernel) (by decide +kernel), gW_mem 990 (by decide +kernel) (by decide +kernel), gW_mem 46 (by decide +kernel) (by decide +kernel), gW_mem 991 (by decide +kernel) (by decide +kernel), rfl, by decide, by decide, by decide +kernel⟩
theorem kL_141 : CV RL 141 RX6 yX6_visit cX6_visit 5 (some .int) 3 := ⟨gW_mem 992 (by decide +kernel) (by decide +kernel), gW_mem 993 (by decide +kernel) (by decide +kernel), gW_mem 994 (by decide +kernel) (by decide +kernel), gW_mem 46 (by decide +kernel) (by decide +kernel), gW_mem 995 (by decide +kernel) (by decide +kernel), rfl, by decide, by decide, by decide +kernel⟩
theorem kL_144 : CV RL 144 RX6 yX6_check cX6_check 5 (some .boolean) 2 := ⟨gW_mem 1000 (by decide +kernel) (by decide +kernel), gW_mem 1001 (by decide +kernel) (by decide +kernel), gW_mem 1002 (by decide +kernel) (by decide +kernel), gW_mem 46 (by decide +kernel) (by decide +kernel), gW_mem 1003 (by decide +kernel) (by decide +kernel), rfl, by decide, by decide, by decide +kernel⟩
theorem kL_147 : CV RL 147 RX6 yX6_endDay cX6_endDay 4 (some .int) 0 := ⟨gW_mem 1004 (by decide +kernel) (by decide +kernel), gW_mem 1005 (by decide +kernel) (by decide +kernel), gW_mem 1006 (by decide +kernel) (by decide +kernel), gW_mem 46 (by decide +kernel) (by decide +kernel), gW_mem 1007 (by decide +kernel) (by decide +kernel), rfl, by decide, by decide, by decide +kernel⟩
theorem kL_150 : CV RL 150 RX6 yX6_stateOf cX6_stateOf 2 (some .char) 1 := ⟨gW_mem 1019 (by decide +kernel) (by decide +kernel), gW_mem 1020 (by decide +kernel) (by decide +kernel), gW_mem 1021 (by decide +kernel) (by decide +kernel), gW_mem 46 (by decide +kernel) (by decide +kernel), gW_mem 1022 (by decide +kernel) (by decide +kernel), rfl, by decide, by decide, by decide +kernel⟩
theorem kL_153 : CV RL 153 RX6 yX6_wantedFrom cX6_wantedFrom 2 (some .int) 1 := ⟨gW_mem 1023 (by decide +kernel) (by decide +kernel), gW_mem 1024 (by decide +kernel) (by decide +kernel), gW_mem 1025 (by decide +kernel) (by decide +kernel), gW_mem 46 (by decide +kernel) (by decide +kernel), gW_mem 1026 (by decide +kernel) (by decide +kernel), rfl, by decide, by decide, by decide +kernel⟩
theorem kL_156 : CV RL 156 RX6 yX6_codeOf cX6_codeOf 2 (some .int) 1 := ⟨gW_mem 1027 (by decide +kernel) (by decide +kernel), gW_mem 1028 (by decide +kernel) (by decide +kernel), gW_mem 1029 (by decide +kernel) (by decide +kernel), gW_mem 46 (by decide +kernel) (by decide +kernel), gW_mem 1030 (by decide +kernel) (by decide +kernel), rfl, by decide, by decide, by decide +kernel⟩
theorem kL_159 : CV RL 159 RX6 yX6_answerOf cX6_answerOf 2 (some .int) 1 := ⟨gW_mem 1031 (by decide +kernel) (by decide +kernel), gW_mem 1032 (by decide +kernel) (by decide +kernel), gW_mem 1033 (by decide +kernel) (by decide +kernel), gW_mem 46 (by decide +kernel) (by decide +kernel), gW_mem 1034 (by decide +kernel) (by decide +kernel), rfl, by decide, by decide, by decide +kernel⟩
theorem kL_162 : CV RL 162 RX6 yX6_faults cX6_faults 2 (some .int) 1 := ⟨gW_mem 1035 (by decide +kernel) (by decide +kernel), gW_mem 1036 (by decide +kernel) (by decide +kernel), gW_mem 1037 (by decide +kernel) (by decide +kernel), gW_mem 46 (by decide +kernel) (by decide +kernel), gW_mem 1038 (by decide +kernel) (by decide +kernel), rfl, by decide, by decide, by decide +kernel⟩
theorem kL_165 : CV RL 165 RX6 yX6_answersTo cX6_answersTo 4 (some .int) 1 := ⟨gW_mem 1039 (by decide +kernel) (by decide +kernel), gW_mem 1040 (by decide +kernel) (by decide +kernel), gW_mem 1041 (by decide +kernel) (by decide +kernel), gW_mem 46 (by decide +kernel) (by decide +kernel), gW_mem 1042 (by decide +kernel) (by decide +kernel), rfl, by decide, by decide, by decide +kernel⟩
theorem kL_168 : CV RL 168 RX6 yX6_target cX6_target 2 (some .int) 1 := ⟨gW_mem 1043 (by decide +kernel) (by decide +kernel), gW_mem 1044 (by decide +kernel) (by decide +kernel), gW_mem 1045 (by decide +kernel) (by decide +kernel), gW_mem 46 (by decide +kernel) (by decide +kernel), gW_mem 1046 (by decide +kernel) (by decide +kernel), rfl, by decide, by decide, by decide +kernel⟩
theorem kL_171 : CV RL 171 RX6 yX6_weight cX6_weight 2 (some .int) 1 := ⟨gW_mem 1055 (by decide +kernel) (by decide +kernel), gW_mem 1056 (by decide +kernel) (by decide +kernel), gW_mem 1057 (by decide +kernel) (by decide +kernel), gW_mem 46 (by decide +kernel) (by decide +kernel), gW_mem 1058 (by decide +kernel) (by decide +kernel), rfl, by decide, by decide, by decide +kernel⟩
theorem kL_174 : CV RL 174 RX6 yX6_weightAnew cX6_weightAnew 2 (some .int) 1 := ⟨gW_mem 1067 (by decide +kernel) (by decide +kernel), gW_mem 1068 (by decide +kernel) (by decide +kernel), gW_mem 1069 (by decide +kernel) (by decide +kernel), gW_mem 46 (by decide +kernel) (by decide +kernel), gW_mem 1070 (by decide +kernel) (by decide +kernel), rfl, by decide, by decide, by decide +kernel⟩
theorem kL_177 : CV RL 177 RX6 yX6_weightOfLanguage cX6_weightOfLanguage 4 (some .int) 1 := ⟨gW_mem 1072 (by decide +kernel) (by decide +kernel), gW_mem 1073 (by decide +kernel) (by decide +kernel), gW_mem 1074 (by decide +kernel) (by decide +kernel), gW_mem 46 (by decide +kernel) (by decide +kernel), gW_mem 1075 (by decide +kernel) (by decide +kernel), rfl, by decide, by decide, by decide +kernel⟩
theorem kL_178 : CV RL 178 RX5 yX5_weightedSum cX5_weightedSum 4 (some .long) 0 := ⟨gW_mem 182 (by decide +kernel) (by decide +kernel), gW_mem 183 (by decide +kernel) (by decide +kernel), gW_mem 184 (by decide +kernel) (by decide +kernel), gW_mem 42 (by decide +kernel) (by decide +kernel), gW_mem 185 (by decide +kernel) (by decide +kernel), rfl, by decide, by decide, by decide +kernel⟩
theorem kL_182 : CV RL 182 RX6 yX6_weightedSum cX6_weightedSum 4 (some .long) 0 := ⟨gW_mem 1076 (by decide +kernel) (by decide +kernel), gW_mem 1077 (by decide +kernel) (by decide +kernel), gW_mem 1078 (by decide +kernel) (by decide +kernel), gW_mem 46 (by decide +kernel) (by decide +kernel), gW_mem 1079 (by decide +kernel) (by decide +kernel), rfl, by decide, by decide, by decide +kernel⟩
theorem kL_186 : CV RL 186 RX6 yX6_weightedMean cX6_weightedMean 4 (some .double) 0 := ⟨gW_mem 1080 (by decide +kernel) (by decide +kernel), gW_mem 1081 (by decide +kernel) (by decide +kernel), gW_mem 1082 (by decide +kernel) (by decide +kernel), gW_mem 46 (by decide +kernel) (by decide +kernel), gW_mem 1083 (by decide +kernel) (by decide +kernel), rfl, by decide, by decide, by decide +kernel⟩
theorem kL_189 : CV RL 189 RX6 yX6_rate cX6_rate 4 (some .float) 0 := ⟨gW_mem 1086 (by decide +kernel) (by decide +kernel), gW_mem 1087 (by decide +kernel) (by decide +kernel), gW_mem 1088 (by decide +kernel) (by decide +kernel), gW_mem 46 (by decide +kernel) (by decide +kernel), gW_mem 1089 (by decide +kernel) (by decide +kernel), rfl, by decide, by decide, by decide +kernel⟩
theorem kL_190 : CV RL 190 RX5 yX5_isSound cX5_isSound 1 (some .boolean) 0 := ⟨gW_mem 186 (by decide +kernel) (by decide +kernel), gW_mem 187 (by decide +kernel) (by decide +kernel), gW_mem 188 (by decide +kernel) (by decide +kernel), gW_mem 42 (by decide +kernel) (by decide +kernel), gW_mem 189 (by decide +kernel) (by decide +kernel), rfl, by decide, by decide, by decide +kernel⟩
theorem kL_194 : CV RL 194 RX6 yX6_isSound cX6_isSound 1 (some .boolean) 0 := ⟨gW_mem 1090 (by decide +kernel) (by decide +kernel), gW_mem 1091 (by decide +kernel) (by decide +kernel), gW_mem 1092 (by decide +kernel) (by decide +kernel), gW_mem 46 (by decide +kernel) (by decide +kernel), gW_mem 1093 (by decide +kernel) (by decide +kernel), rfl, by decide, by decide, by decide +kernel⟩
theorem kX6_96 : CS RX6 96 yX6_in cX6_in 3 (some .boolean) 3 := ⟨gW_mem 940 (by decide +kernel) (by decide +kernel), gW_mem 941 (by decide +kernel) (by decide +kernel), gW_mem 46 (by decide +kernel) (by decide +kernel), gW_mem 942 (by decide +kernel) (by decide +kernel), rfl, by decide, by decide, by decide +kernel⟩
theorem kX6_104 : CV RX6 104 RX6 yX6_fails cX6_fails 2 (some .int) 1 := ⟨gW_mem 943 (by decide +kernel) (by decide +kernel), gW_mem 945 (by decide +kernel) (by decide +kernel), gW_mem 30 (by decide +kernel) (by decide +kernel), gW_mem 46 (by decide +kernel) (by decide +kernel), gW_mem 946 (by decide +kernel) (by decide +kernel), rfl, by decide, by decide, by decide +kernel⟩
theorem kX6_112 : CV RX6 112 RX6 yX6_undrawn cX6_undrawn 4 (some .int) 1 := ⟨gW_mem 963 (by decide +kernel) (by decide +kernel), gW_mem 965 (by decide +kernel) (by decide +kernel), gW_mem 31 (by decide +kernel) (by decide +kernel), gW_mem 46 (by decide +kernel) (by decide +kernel), gW_mem 966 (by decide +kernel) (by decide +kernel), rfl, by decide, by decide, by decide +kernel⟩
theorem kX6_118 : CV RX6 118 RX6 yX6_draws cX6_draws 5 (some .int) 2 := ⟨gW_mem 967 (by decide +kernel) (by decide +kernel), gW_mem 969 (by decide +kernel) (by decide +kernel), gW_mem 32 (by decide +kernel) (by decide +kernel), gW_mem 46 (by decide +kernel) (by decide +kernel), gW_mem 970 (by decide +kernel) (by decide +kernel), rfl, by decide, by decide, by decide +kernel⟩
theorem kX6_122 : CS RX6 122 yX6_way cX6_way 2 (some .int) 2 := ⟨gW_mem 1016 (by decide +kernel) (by decide +kernel), gW_mem 1017 (by decide +kernel) (by decide +kernel), gW_mem 46 (by decide +kernel) (by decide +kernel), gW_mem 1018 (by decide +kernel) (by decide +kernel), rfl, by decide, by decide, by decide +kernel⟩
theorem kX6_126 : CV RX6 126 RX6 yX6_next cX6_next 5 (some .int) 2 := ⟨gW_mem 1012 (by decide +kernel) (by decide +kernel), gW_mem 1014 (by decide +kernel) (by decide +kernel), gW_mem 36 (by decide +kernel) (by decide +kernel), gW_mem 46 (by decide +kernel) (by decide +kernel), gW_mem 1015 (by decide +kernel) (by decide +kernel), rfl, by decide, by decide, by decide +kernel⟩
theorem kX6_129 : CV RX6 129 RX6 yX6_isInterviewer cX6_isInterviewer 2 (some .boolean) 1 := ⟨gW_mem 980 (by decide +kernel) (by decide +kernel), gW_mem 982 (by decide +kernel) (by decide +kernel), gW_mem 33 (by decide +kernel) (by decide +kernel), gW_mem 46 (by decide +kernel) (by decide +kernel), gW_mem 983 (by decide +kernel) (by decide +kernel), rfl, by decide, by decide, by decide +kernel⟩
theorem kX6_133 : CV RX6 133 RX6 yX6_isHouse cX6_isHouse 2 (some .boolean) 1 := ⟨gW_mem 996 (by decide +kernel) (by decide +kernel), gW_mem 998 (by decide +kernel) (by decide +kernel), gW_mem 34 (by decide +kernel) (by decide +kernel), gW_mem 46 (by decide +kernel) (by decide +kernel), gW_mem 999 (by decide +kernel) (by decide +kernel), rfl, by decide, by decide, by decide +kernel⟩
theorem kX6_136 : CV RX6 136 RX6 yX6_rounds cX6_rounds 4 none 0 := ⟨gW_mem 1008 (by decide +kernel) (by decide +kernel), gW_mem 1010 (by decide +kernel) (by decide +kernel), gW_mem 35 (by decide +kernel) (by decide +kernel), gW_mem 46 (by decide +kernel) (by decide +kernel), gW_mem 1011 (by decide +kernel) (by decide +kernel), rfl, by decide, by decide, by decide +kernel⟩
theorem kX6_139 : CV RX6 139 RX6 yX6_isOf cX6_isOf 4 (some .boolean) 3 := ⟨gW_mem 1051 (by decide +kernel) (by decide +kernel), gW_mem 1053 (by decide +kernel) (by decide +kernel), gW_mem 38 (by decide +kernel) (by decide +kernel), gW_mem 46 (by decide +kernel) (by decide +kernel), gW_mem 1054 (by decide +kernel) (by decide +kernel), rfl, by decide, by decide, by decide +kernel⟩
theorem kX6_143 : CV RX6 143 RX6 yX6_goal cX6_goal 5 (some .int) 2 := ⟨gW_mem 1047 (by decide +kernel) (by decide +kernel), gW_mem 1049 (by decide +kernel) (by decide +kernel), gW_mem 37 (by decide +kernel) (by decide +kernel), gW_mem 46 (by decide +kernel) (by decide +kernel), gW_mem 1050 (by decide +kernel) (by decide +kernel), rfl, by decide, by decide, by decide +kernel⟩
theorem kX6_146 : CV RX6 146 RX6 yX6_fits cX6_fits 8 none 2 := ⟨gW_mem 1063 (by decide +kernel) (by decide +kernel), gW_mem 1065 (by decide +kernel) (by decide +kernel), gW_mem 40 (by decide +kernel) (by decide +kernel), gW_mem 46 (by decide +kernel) (by decide +kernel), gW_mem 1066 (by decide +kernel) (by decide +kernel), rfl, by decide, by decide, by decide +kernel⟩
theorem kX6_150 : CV RX6 150 RX6 yX6_weighs cX6_weighs 3 none 0 := ⟨gW_mem 1059 (by decide +kernel) (by decide +kernel), gW_mem 1061 (by decide +kernel) (by decide +kernel), gW_mem 39 (by decide +kernel) (by decide +kernel), gW_mem 46 (by decide +kernel) (by decide +kernel), gW_mem 1062 (by decide +kernel) (by decide +kernel), rfl, by decide, by decide, by decide +kernel⟩
theorem kX6_153 : CV RX6 153 RX6 yX6_weight cX6_weight 2 (some .int) 1 := ⟨gW_mem 1071 (by decide +kernel) (by decide +kernel), gW_mem 1056 (by decide +kernel) (by decide +kernel), gW_mem 1057 (by decide +kernel) (by decide +kernel), gW_mem 46 (by decide +kernel) (by decide +kernel), gW_mem 1058 (by decide +kernel) (by decide +kernel), rfl, by decide, by decide, by decide +kernel⟩
theorem kX6_155 : CV RX6 155 RX6 yX6_weightOfLanguage cX6_weightOfLanguage 4 (some .int) 1 := ⟨gW_mem 1084 (by decide +kernel) (by decide +kernel), gW_mem 1073 (by decide +kernel) (by decide +kernel), gW_mem 1074 (by decide +kernel) (by decide +kernel), gW_mem 46 (by decide +kernel) (by decide +kernel), gW_mem 1075 (by decide +kernel) (by decide +kernel), rfl, by decide, by decide, by decide +kernel⟩
theorem kX6_158 : CV RX6 158 RX6 yX6_weightedSum cX6_weightedSum 4 (some .long) 0 := ⟨gW_mem 1085 (by decide +kernel) (by decide +kernel), gW_mem 1077 (by decide +kernel) (by decide +kernel), gW_mem 1078 (by decide +kernel) (by decide +kernel), gW_mem 46 (by decide +kernel) (by decide +kernel), gW_mem 1079 (by decide +kernel) (by decide +kernel), rfl, by decide, by decide, by decide +kernel⟩
end
section
section MW
/-! the state as rows of numbers; the model's world -/
abbrev St : Type := Nat → Nat → Int32
def up (c : St) (k i : Nat) (v : Int32) : St := fun k' => if k' = k then upd (c k') i v else c k'
theorem up_eq {c : St} {k i : Nat} {v : Int32} : up c k i v k = upd (c k) i v := by simp [up]
theorem up_at {c : St} {k i : Nat} {v : Int32} : up c k i v k i = v := by simp [up, upd]
theorem up_row {c : St} {k k' i : Nat} {v : Int32} (h : k' ≠ k) : up c k i v k' = c k' := by simp [up, h]
theorem up_off {c : St} {k i j : Nat} {v : Int32} (h : j ≠ i) : up c k i v k j = c k j := by simp [up, upd, h]
theorem up_app {c : St} {k i k' j : Nat} {v : Int32} : up c k i v k' j = if k' = k ∧ j = i then v else c k' j := by
  by_cases h : k' = k
  · subst h; by_cases h2 : j = i <;> simp [up, upd, h2]
  · simp [up, h]
theorem lv_cast {ls : Array Slot} {nL : Nat} {l1 l2 : List (Nat × Value)} (h : lv_has ls nL l1) (e : l1 = l2) : lv_has ls nL l2 := e ▸ h
def mobj (ad : Nat → Nat) (r : St) : List Value := [.int (r 0 0), .int (r 0 1), .int (r 0 2), .int (r 0 3), .int (r 0 4), .int (r 0 5), .ref (ad 1), .ref (ad 2), .ref (ad 3), .ref (ad 4), .ref (ad 5), .ref (ad 6), .ref (ad 7), .ref (ad 8), .ref (ad 9), .ref (ad 10), .ref (ad 11), .ref (ad 12), .ref (ad 13), .ref (ad 14), .ref (ad 15), .ref (ad 16), .ref (ad 17), .ref (ad 18), .ref (ad 19), .ref (ad 20), .ref (ad 21), .ref (ad 22), .ref (ad 23), .ref (ad 24), .ref (ad 25)]
def mw (cA : Nat → ClassId) (ad : Nat → Nat) (r : St) : va_W := [(ad 0, .inr (6, mobj ad r)), (ad 1, .inl (cA 0, 24, .inl (r 1))), (ad 2, .inl (cA 0, 24, .inl (r 2))), (ad 3, .inl (cA 0, 24, .inl (r 3))), (ad 4, .inl (cA 0, 24, .inl (r 4))), (ad 5, .inl (cA 0, 24, .inl (r 5))), (ad 6, .inl (cA 0, 24, .inl (r 6))), (ad 7, .inl (cA 0, 24, .inl (r 7))), (ad 8, .inl (cA 0, 24, .inl (r 8))), (ad 9, .inl (cA 0, 24, .inl (r 9))), (ad 10, .inl (cA 0, 24, .inl (r 10))), (ad 11, .inl (cA 0, 24, .inl (r 11))), (ad 12, .inl (cA 0, 24, .inl (r 12))), (ad 13, .inl (cA 0, 24, .inl (r 13))), (ad 14, .inl (cA 1, 24, .inl (r 14))), (ad 15, .inl (cA 1, 24, .inl (r 15))), (ad 16, .inl (cA 1, 24, .inl (r 16))), (ad 17, .inl (cA 1, 24, .inl (r 17))), (ad 18, .inl (cA 0, 24, .inl (r 18))), (ad 19, .inl (cA 0, 96, .inl (r 19))), (ad 20, .inl (cA 0, 4, .inl (r 20))), (ad 21, .inl (cA 0, 4, .inl (r 21))), (ad 22, .inl (cA 0, 4, .inl (r 22))), (ad 23, .inl (cA 0, 4, .inl (r 23))), (ad 24, .inl (cA 0, 4, .inl (r 24))), (ad 25, .inl (cA 0, 4, .inl (r 25)))]
variable {cA : Nat → ClassId} {ad : Nat → Nat} {r : St}
theorem ml_0 : (mw cA ad r)[0]? = some (ad 0, .inr (6, mobj ad r)) := rfl
theorem mv_0 {x : Int32} (h : r 0 0 = x) : (mobj ad r)[0]? = some (.int x) := h ▸ rfl
theorem mv_1 {x : Int32} (h : r 0 1 = x) : (mobj ad r)[1]? = some (.int x) := h ▸ rfl
theorem mv_2 {x : Int32} (h : r 0 2 = x) : (mobj ad r)[2]? = some (.int x) := h ▸ rfl
theorem mv_3 {x : Int32} (h : r 0 3 = x) : (mobj ad r)[3]? = some (.int x) := h ▸ rfl
theorem mv_4 {x : Int32} (h : r 0 4 = x) : (mobj ad r)[4]? = some (.int x) := h ▸ rfl
theorem mv_5 {x : Int32} (h : r 0 5 = x) : (mobj ad r)[5]? = some (.int x) := h ▸ rfl
theorem ml_1 : (mw cA ad r)[1]? = some (ad 1, .inl (cA 0, 24, .inl (r 1))) := rfl
theorem mr_1 : (mobj ad r)[6]? = some (.ref (ad 1)) := rfl
theorem ml_2 : (mw cA ad r)[2]? = some (ad 2, .inl (cA 0, 24, .inl (r 2))) := rfl
theorem mr_2 : (mobj ad r)[7]? = some (.ref (ad 2)) := rfl
theorem ml_3 : (mw cA ad r)[3]? = some (ad 3, .inl (cA 0, 24, .inl (r 3))) := rfl
theorem mr_3 : (mobj ad r)[8]? = some (.ref (ad 3)) := rfl
theorem ml_4 : (mw cA ad r)[4]? = some (ad 4, .inl (cA 0, 24, .inl (r 4))) := rfl
theorem mr_4 : (mobj ad r)[9]? = some (.ref (ad 4)) := rfl
theorem ml_5 : (mw cA ad r)[5]? = some (ad 5, .inl (cA 0, 24, .inl (r 5))) := rfl
theorem mr_5 : (mobj ad r)[10]? = some (.ref (ad 5)) := rfl
theorem ml_6 : (mw cA ad r)[6]? = some (ad 6, .inl (cA 0, 24, .inl (r 6))) := rfl
theorem mr_6 : (mobj ad r)[11]? = some (.ref (ad 6)) := rfl
theorem ml_7 : (mw cA ad r)[7]? = some (ad 7, .inl (cA 0, 24, .inl (r 7))) := rfl
theorem mr_7 : (mobj ad r)[12]? = some (.ref (ad 7)) := rfl
theorem ml_8 : (mw cA ad r)[8]? = some (ad 8, .inl (cA 0, 24, .inl (r 8))) := rfl
theorem mr_8 : (mobj ad r)[13]? = some (.ref (ad 8)) := rfl
theorem ml_9 : (mw cA ad r)[9]? = some (ad 9, .inl (cA 0, 24, .inl (r 9))) := rfl
theorem mr_9 : (mobj ad r)[14]? = some (.ref (ad 9)) := rfl
theorem ml_10 : (mw cA ad r)[10]? = some (ad 10, .inl (cA 0, 24, .inl (r 10))) := rfl
theorem mr_10 : (mobj ad r)[15]? = some (.ref (ad 10)) := rfl
theorem ml_11 : (mw cA ad r)[11]? = some (ad 11, .inl (cA 0, 24, .inl (r 11))) := rfl
theorem mr_11 : (mobj ad r)[16]? = some (.ref (ad 11)) := rfl
theorem ml_12 : (mw cA ad r)[12]? = some (ad 12, .inl (cA 0, 24, .inl (r 12))) := rfl
theorem mr_12 : (mobj ad r)[17]? = some (.ref (ad 12)) := rfl
theorem ml_13 : (mw cA ad r)[13]? = some (ad 13, .inl (cA 0, 24, .inl (r 13))) := rfl
theorem mr_13 : (mobj ad r)[18]? = some (.ref (ad 13)) := rfl
theorem ml_14 : (mw cA ad r)[14]? = some (ad 14, .inl (cA 1, 24, .inl (r 14))) := rfl
theorem mr_14 : (mobj ad r)[19]? = some (.ref (ad 14)) := rfl
theorem ml_15 : (mw cA ad r)[15]? = some (ad 15, .inl (cA 1, 24, .inl (r 15))) := rfl
theorem mr_15 : (mobj ad r)[20]? = some (.ref (ad 15)) := rfl
theorem ml_16 : (mw cA ad r)[16]? = some (ad 16, .inl (cA 1, 24, .inl (r 16))) := rfl
theorem mr_16 : (mobj ad r)[21]? = some (.ref (ad 16)) := rfl
theorem ml_17 : (mw cA ad r)[17]? = some (ad 17, .inl (cA 1, 24, .inl (r 17))) := rfl
theorem mr_17 : (mobj ad r)[22]? = some (.ref (ad 17)) := rfl
theorem ml_18 : (mw cA ad r)[18]? = some (ad 18, .inl (cA 0, 24, .inl (r 18))) := rfl
theorem mr_18 : (mobj ad r)[23]? = some (.ref (ad 18)) := rfl
theorem ml_19 : (mw cA ad r)[19]? = some (ad 19, .inl (cA 0, 96, .inl (r 19))) := rfl
theorem mr_19 : (mobj ad r)[24]? = some (.ref (ad 19)) := rfl
theorem ml_20 : (mw cA ad r)[20]? = some (ad 20, .inl (cA 0, 4, .inl (r 20))) := rfl
theorem mr_20 : (mobj ad r)[25]? = some (.ref (ad 20)) := rfl
theorem ml_21 : (mw cA ad r)[21]? = some (ad 21, .inl (cA 0, 4, .inl (r 21))) := rfl
theorem mr_21 : (mobj ad r)[26]? = some (.ref (ad 21)) := rfl
theorem ml_22 : (mw cA ad r)[22]? = some (ad 22, .inl (cA 0, 4, .inl (r 22))) := rfl
theorem mr_22 : (mobj ad r)[27]? = some (.ref (ad 22)) := rfl
theorem ml_23 : (mw cA ad r)[23]? = some (ad 23, .inl (cA 0, 4, .inl (r 23))) := rfl
theorem mr_23 : (mobj ad r)[28]? = some (.ref (ad 23)) := rfl
theorem ml_24 : (mw cA ad r)[24]? = some (ad 24, .inl (cA 0, 4, .inl (r 24))) := rfl
theorem mr_24 : (mobj ad r)[29]? = some (.ref (ad 24)) := rfl
theorem ml_25 : (mw cA ad r)[25]? = some (ad 25, .inl (cA 0, 4, .inl (r 25))) := rfl
theorem mr_25 : (mobj ad r)[30]? = some (.ref (ad 25)) := rfl
theorem ms_0_0 {v : Int32} : (mw cA ad r).set 0 (ad 0, .inr (6, (mobj ad r).set 0 (.int v))) = mw cA ad (up r 0 0 v) := rfl
theorem ms_0_1 {v : Int32} : (mw cA ad r).set 0 (ad 0, .inr (6, (mobj ad r).set 1 (.int v))) = mw cA ad (up r 0 1 v) := rfl
theorem ms_0_2 {v : Int32} : (mw cA ad r).set 0 (ad 0, .inr (6, (mobj ad r).set 2 (.int v))) = mw cA ad (up r 0 2 v) := rfl
theorem ms_0_3 {v : Int32} : (mw cA ad r).set 0 (ad 0, .inr (6, (mobj ad r).set 3 (.int v))) = mw cA ad (up r 0 3 v) := rfl
theorem ms_0_4 {v : Int32} : (mw cA ad r).set 0 (ad 0, .inr (6, (mobj ad r).set 4 (.int v))) = mw cA ad (up r 0 4 v) := rfl
theorem ms_0_5 {v : Int32} : (mw cA ad r).set 0 (ad 0, .inr (6, (mobj ad r).set 5 (.int v))) = mw cA ad (up r 0 5 v) := rfl
theorem ms_1 {j : Nat} {x : Int32} : (mw cA ad r).set 1 (ad 1, .inl (cA 0, 24, .inl (upd (r 1) j x))) = mw cA ad (up r 1 j x) := rfl
theorem ms_2 {j : Nat} {x : Int32} : (mw cA ad r).set 2 (ad 2, .inl (cA 0, 24, .inl (upd (r 2) j x))) = mw cA ad (up r 2 j x) := rfl
theorem ms_3 {j : Nat} {x : Int32} : (mw cA ad r).set 3 (ad 3, .inl (cA 0, 24, .inl (upd (r 3) j x))) = mw cA ad (up r 3 j x) := rfl
theorem ms_4 {j : Nat} {x : Int32} : (mw cA ad r).set 4 (ad 4, .inl (cA 0, 24, .inl (upd (r 4) j x))) = mw cA ad (up r 4 j x) := rfl
theorem ms_5 {j : Nat} {x : Int32} : (mw cA ad r).set 5 (ad 5, .inl (cA 0, 24, .inl (upd (r 5) j x))) = mw cA ad (up r 5 j x) := rfl
theorem ms_6 {j : Nat} {x : Int32} : (mw cA ad r).set 6 (ad 6, .inl (cA 0, 24, .inl (upd (r 6) j x))) = mw cA ad (up r 6 j x) := rfl
theorem ms_7 {j : Nat} {x : Int32} : (mw cA ad r).set 7 (ad 7, .inl (cA 0, 24, .inl (upd (r 7) j x))) = mw cA ad (up r 7 j x) := rfl
theorem ms_8 {j : Nat} {x : Int32} : (mw cA ad r).set 8 (ad 8, .inl (cA 0, 24, .inl (upd (r 8) j x))) = mw cA ad (up r 8 j x) := rfl
theorem ms_9 {j : Nat} {x : Int32} : (mw cA ad r).set 9 (ad 9, .inl (cA 0, 24, .inl (upd (r 9) j x))) = mw cA ad (up r 9 j x) := rfl
theorem ms_10 {j : Nat} {x : Int32} : (mw cA ad r).set 10 (ad 10, .inl (cA 0, 24, .inl (upd (r 10) j x))) = mw cA ad (up r 10 j x) := rfl
theorem ms_11 {j : Nat} {x : Int32} : (mw cA ad r).set 11 (ad 11, .inl (cA 0, 24, .inl (upd (r 11) j x))) = mw cA ad (up r 11 j x) := rfl
theorem ms_12 {j : Nat} {x : Int32} : (mw cA ad r).set 12 (ad 12, .inl (cA 0, 24, .inl (upd (r 12) j x))) = mw cA ad (up r 12 j x) := rfl
theorem ms_13 {j : Nat} {x : Int32} : (mw cA ad r).set 13 (ad 13, .inl (cA 0, 24, .inl (upd (r 13) j x))) = mw cA ad (up r 13 j x) := rfl
theorem ms_14 {j : Nat} {x : Int32} : (mw cA ad r).set 14 (ad 14, .inl (cA 1, 24, .inl (upd (r 14) j x))) = mw cA ad (up r 14 j x) := rfl
theorem ms_15 {j : Nat} {x : Int32} : (mw cA ad r).set 15 (ad 15, .inl (cA 1, 24, .inl (upd (r 15) j x))) = mw cA ad (up r 15 j x) := rfl
theorem ms_16 {j : Nat} {x : Int32} : (mw cA ad r).set 16 (ad 16, .inl (cA 1, 24, .inl (upd (r 16) j x))) = mw cA ad (up r 16 j x) := rfl
theorem ms_17 {j : Nat} {x : Int32} : (mw cA ad r).set 17 (ad 17, .inl (cA 1, 24, .inl (upd (r 17) j x))) = mw cA ad (up r 17 j x) := rfl
theorem ms_18 {j : Nat} {x : Int32} : (mw cA ad r).set 18 (ad 18, .inl (cA 0, 24, .inl (upd (r 18) j x))) = mw cA ad (up r 18 j x) := rfl
theorem ms_19 {j : Nat} {x : Int32} : (mw cA ad r).set 19 (ad 19, .inl (cA 0, 96, .inl (upd (r 19) j x))) = mw cA ad (up r 19 j x) := rfl
theorem ms_20 {j : Nat} {x : Int32} : (mw cA ad r).set 20 (ad 20, .inl (cA 0, 4, .inl (upd (r 20) j x))) = mw cA ad (up r 20 j x) := rfl
theorem ms_21 {j : Nat} {x : Int32} : (mw cA ad r).set 21 (ad 21, .inl (cA 0, 4, .inl (upd (r 21) j x))) = mw cA ad (up r 21 j x) := rfl
theorem ms_22 {j : Nat} {x : Int32} : (mw cA ad r).set 22 (ad 22, .inl (cA 0, 4, .inl (upd (r 22) j x))) = mw cA ad (up r 22 j x) := rfl
theorem ms_23 {j : Nat} {x : Int32} : (mw cA ad r).set 23 (ad 23, .inl (cA 0, 4, .inl (upd (r 23) j x))) = mw cA ad (up r 23 j x) := rfl
theorem ms_24 {j : Nat} {x : Int32} : (mw cA ad r).set 24 (ad 24, .inl (cA 0, 4, .inl (upd (r 24) j x))) = mw cA ad (up r 24 j x) := rfl
theorem ms_25 {j : Nat} {x : Int32} : (mw cA ad r).set 25 (ad 25, .inl (cA 0, 4, .inl (upd (r 25) j x))) = mw cA ad (up r 25 j x) := rfl
end MW
end
section
/-- a fact that the number tactics don't read -/
def Hid (p : Prop) : Prop := p
/-! pure words of both sides -/
def m_way (a b : Int32) : Int32 := if b ≤ a then a - b else b - a
theorem idx_hi {j n : Nat} (hj : j < n) (hn : n ≤ 1000) : ¬ nI n - 1 < nI j := by
  obtain ⟨k, rfl⟩ : ∃ k, n = k + 1 := ⟨n - 1, by omega⟩
  rw [nI_pred]
  exact nI_nlt (by omega) (by omega)
theorem idx_bad {n : Nat} {v : Int32} (hv : v < 0 ∨ nI n ≤ v) (hn : n ≤ 1000) : ¬ (¬ v < 0 ∧ ¬ nI n - 1 < v) := by
  rintro ⟨h1, h2⟩
  rcases hv with hv | hv
  · exact h1 hv
  · obtain ⟨j, hj, rfl⟩ := nI_of h1
    rcases Nat.eq_zero_or_pos n with rfl | hp
    · refine h2 ?_
      show nI 0 - 1 < nI j
      have : nI 0 - 1 < 0 := by decide
      exact Int32.lt_of_lt_of_le this (nI_pos' hj)
    · obtain ⟨k, rfl⟩ : ∃ k, n = k + 1 := ⟨n - 1, by omega⟩
      rw [nI_pred] at h2
      have h3 := (nI_leI (by omega) hj).mp hv
      exact h2 (nI_lt (by omega) hj)
def ct (p : Nat → Bool) : Nat → Nat
  | 0 => 0
  | n + 1 => ct p n + (if p n then 1 else 0)
theorem ct_s {p : Nat → Bool} {n : Nat} : ct p (n + 1) = ct p n + (if p n then 1 else 0) := rfl
theorem ct_t {p : Nat → Bool} {n : Nat} (h : p n = true) : ct p (n + 1) = ct p n + 1 := by rw [ct_s, if_pos h]
theorem ct_f {p : Nat → Bool} {n : Nat} (h : p n = false) : ct p (n + 1) = ct p n := by rw [ct_s, h]; rfl
theorem ct_le (p : Nat → Bool) : ∀ n, ct p n ≤ n
  | 0 => Nat.le_refl _
  | n + 1 => by
    have := ct_le p n
    rw [ct_s]
    split <;> omega
theorem ct_mono (p : Nat → Bool) {a b : Nat} (h : a ≤ b) : ct p a ≤ ct p b := by
  induction b with
  | zero => have : a = 0 := by omega
            subst this; exact Nat.le_refl _
  | succ b ih =>
    rcases Nat.lt_or_ge a (b + 1) with q | q
    · have := ih (by omega)
      rw [ct_s]
      omega
    · have : a = b + 1 := by omega
      subst this; exact Nat.le_refl _
theorem ct_cong {p q : Nat → Bool} : ∀ {n : Nat}, (∀ j, j < n → p j = q j) → ct p n = ct q n
  | 0, _ => rfl
  | n + 1, h => by rw [ct_s, ct_s, ct_cong (fun j hj => h j (by omega)), h n (by omega)]
/-- the place of the q-th one among the first n -/
def sel (p : Nat → Bool) (q : Nat) : Nat → Nat
  | 0 => 0
  | n + 1 => if ct p n ≤ q ∧ p n = true then n else sel p q n
theorem sel_ok (p : Nat → Bool) (q : Nat) : ∀ n, q < ct p n → sel p q n < n ∧ p (sel p q n) = true ∧ ct p (sel p q n) = q
  | 0, h => absurd h (Nat.not_lt_zero _)
  | n + 1, h => by
    rw [ct_s] at h
    unfold sel
    by_cases c : ct p n ≤ q ∧ p n = true
    · rw [if_pos c]
      rw [if_pos c.2] at h
      exact ⟨by omega, c.2, by omega⟩
    · rw [if_neg c]
      have h2 : q < ct p n := by
        by_cases c2 : p n = true
        · rw [if_pos c2] at h
          exact Nat.lt_of_not_le (fun z => c ⟨z, c2⟩)
        · rw [if_neg c2] at h
          exact h
      obtain ⟨a, b, c⟩ := sel_ok p q n h2
      exact ⟨by omega, b, c⟩
theorem ct_one {p : Nat → Bool} {i j : Nat} (hi : p i = true) (hj : p j = true) (e : ct p i = ct p j) : i = j := by
  rcases Nat.lt_trichotomy i j with h | h | h
  · have := ct_mono p (show i + 1 ≤ j from h)
    rw [ct_t hi] at this
    omega
  · exact h
  · have := ct_mono p (show j + 1 ≤ i from h)
    rw [ct_t hj] at this
    omega
/-- undrawn houses of a stratum -/
def isU (str stt : Nat → Int32) (s : Int32) : Nat → Bool := fun j => decide (str j = s) && decide (stt j = 117)
theorem isU_t {str stt : Nat → Int32} {s : Int32} {j : Nat} : isU str stt s j = true ↔ str j = s ∧ stt j = 117 := by simp [isU]
/-- the chance number's next -/
def m_ch (c : Int32) : Int32 := c * 1103 + 12345 - (c * 1103 + 12345) / 65536 * 65536
theorem m_ch_ok {c : Nat} (h : c < 65536) : ∃ d, d < 65536 ∧ m_ch (nI c) = nI d := by
  refine ⟨(c * 1103 + 12345) % 65536, Nat.mod_lt _ (by omega), ?_⟩
  have e : nI c * 1103 + 12345 = nI (c * 1103 + 12345) := by
    rw [show (1103 : Int32) = nI 1103 from rfl, show (12345 : Int32) = nI 12345 from rfl, pk_mul, nI_add]
  unfold m_ch
  rw [e, show (65536 : Int32) = nI 65536 from rfl]
  exact pk_rem (by omega) (by omega) (by omega)
/-- which of the u undrawn ones is drawn -/
def m_q (c : Int32) (u : Nat) : Nat := (m_ch c - m_ch c / nI u * nI u).toNatClampNeg
theorem m_q_ok {c : Int32} {u : Nat} (hc : ∃ k, k < 65536 ∧ c = nI k) (hu : 0 < u) (hu2 : u < 2 ^ 31) : m_q c u < u ∧ m_ch c - m_ch c / nI u * nI u = nI (m_q c u) := by
  obtain ⟨k, hk, rfl⟩ := hc
  obtain ⟨d, hd, e⟩ := m_ch_ok hk
  have h := pk_rem (a := d) (d := u) (by omega) hu hu2
  unfold m_q
  rw [e, h]
  have h2 : d % u < u := Nat.mod_lt _ hu
  rw [nI_clamp (by omega)]
  exact ⟨h2, rfl⟩
def b2 (b : Bool) : Int32 := if b then 1 else 0
theorem b2_t : b2 true = 1 := rfl
theorem b2_f : b2 false = 0 := rfl
theorem b2_nar (b : Bool) : vp_nar .boolean (b2 b) = b2 b := by cases b <;> rfl
theorem i32_sub0 (x : Int32) : x - 0 = x := by simp
theorem i32_add0 (x : Int32) : x + 0 = x := by simp
/-! the model's pure words -/
def m_und (r : St) (n : Nat) (s : Int32) : Nat := ct (isU (r 1) (r 4) s) n
def m_h (r : St) (n : Nat) (s : Int32) : Nat := sel (isU (r 1) (r 4) s) (m_q (r 0 1) (m_und r n s)) n
def m_d1 (r : St) (n : Nat) (s : Int32) (inst : Int32) : St := up (up (up (up r 0 1 (m_ch (r 0 1))) 4 (m_h r n s) 119) 5 (m_h r n s) (r 0 5 + 1)) 14 (m_h r n s) inst
theorem m_d1_chance {r : St} {n : Nat} {s inst : Int32} (hc : ∃ k, k < 65536 ∧ r 0 1 = nI k) : ∃ k, k < 65536 ∧ m_d1 r n s inst 0 1 = nI k := by
  obtain ⟨k, hk, e⟩ := hc
  obtain ⟨d, hd, e2⟩ := m_ch_ok hk
  exact ⟨d, hd, by rw [← e2, ← e]; rfl⟩
def m_dk (r : St) (n : Nat) (s : Int32) : Nat → St
  | 0 => r
  | k + 1 => m_d1 (m_dk r n s k) n s 0
theorem m_dk_chance {r : St} {n : Nat} {s : Int32} (hc : ∃ k, k < 65536 ∧ r 0 1 = nI k) : ∀ k, ∃ q, q < 65536 ∧ m_dk r n s k 0 1 = nI q
  | 0 => hc
  | k + 1 => m_d1_chance (m_dk_chance hc k)
theorem m_dk_sc {r : St} {n : Nat} {s : Int32} : ∀ k i, i ≠ 1 → m_dk r n s k 0 i = r 0 i
  | 0, _, _ => rfl
  | k + 1, i, h => by
    show up (m_dk r n s k) 0 1 _ 0 i = _
    rw [up_off h]
    exact m_dk_sc k i h
theorem m_dk_row {r : St} {n : Nat} {s : Int32} : ∀ k q, q ≠ 0 → q ≠ 4 → q ≠ 5 → q ≠ 14 → m_dk r n s k q = r q
  | 0, _, _, _, _, _ => rfl
  | k + 1, q, h0, h4, h5, h14 => by
    show up (up (up (up (m_dk r n s k) 0 1 _) 4 _ _) 5 _ _) 14 _ _ q = _
    rw [up_row h14, up_row h5, up_row h4, up_row h0]
    exact m_dk_row k q h0 h4 h5 h14
theorem ct_less {p q : Nat → Bool} {h : Nat} : ∀ {n : Nat}, h < n → p h = true → q h = false → (∀ j, j ≠ h → q j = p j) → ct q n + 1 = ct p n
  | 0, hh, _, _, _ => absurd hh (Nat.not_lt_zero _)
  | n + 1, hh, hp, hq, ho => by
    rw [ct_s, ct_s]
    by_cases e : n = h
    · subst e
      rw [hp, hq, ct_cong (fun j hj => ho j (by omega))]
      simp
    · have ih := ct_less (n := n) (by omega) hp hq ho
      rw [ho n e]
      omega
theorem m_und_d1 {r : St} {n : Nat} {s inst : Int32} (hc : ∃ k, k < 65536 ∧ r 0 1 = nI k) (hn : n ≤ 24) (hu : 0 < m_und r n s) : m_und (m_d1 r n s inst) n s + 1 = m_und r n s := by
  have hu2 := ct_le (isU (r 1) (r 4) s) n
  obtain ⟨h1, -⟩ := m_q_ok (u := m_und r n s) hc hu (by unfold m_und; omega)
  obtain ⟨a, b, -⟩ := sel_ok (isU (r 1) (r 4) s) (m_q (r 0 1) (m_und r n s)) n h1
  refine ct_less (p := isU (r 1) (r 4) s) (h := m_h r n s) a b ?_ (fun j hj => ?_)
  · have : m_d1 r n s inst 4 (m_h r n s) = 119 := up_at (c := up r 0 1 _) (k := 4)
    simp [isU, this]
  · have : m_d1 r n s inst 4 j = r 4 j := up_off (c := up r 0 1 _) (k := 4) hj
    simp only [isU, this]
    rfl
theorem m_und_dk {r : St} {n : Nat} {s : Int32} (hc : ∃ k, k < 65536 ∧ r 0 1 = nI k) (hn : n ≤ 24) : ∀ k, k ≤ m_und r n s → m_und (m_dk r n s k) n s + k = m_und r n s
  | 0, _ => rfl
  | k + 1, h => by
    have ih := m_und_dk (s := s) hc hn k (by omega)
    have := m_und_d1 (inst := 0) (m_dk_chance hc k) hn (show 0 < m_und (m_dk r n s k) n s by omega)
    show m_und (m_d1 (m_dk r n s k) n s 0) n s + (k + 1) = _
    omega
def m_last (r : St) (n : Nat) (s : Int32) : Nat → Int32
  | 0 => -1
  | k + 1 => nI (m_h (m_dk r n s k) n s)
theorem up_twice {c : St} {k i : Nat} {v w : Int32} : up (up c k i v) k i w = up c k i w := by
  funext k' j
  simp only [up_app]
  split <;> simp_all
theorem up_twice_mw {cA : Nat → ClassId} {ad : Nat → Nat} {c : St} {k i : Nat} {v w : Int32} : mw cA ad (up (up c k i v) k i w) = mw cA ad (up c k i w) := by rw [up_twice]
theorem b2_nr (b : Bool) : narrow .boolean (.int (b2 b)) = .int (b2 b) := by cases b <;> rfl
theorem b2d0 {p : Prop} [Decidable p] (h : b2 (decide p) = 0) : ¬ p := fun hp => by rw [decide_eq_true hp] at h; exact absurd h (by decide)
theorem b2d1 {p : Prop} [Decidable p] (h : ¬ b2 (decide p) = 0) : p := Decidable.byContradiction fun hp => by rw [decide_eq_false hp] at h; exact h rfl
/-- 1000 for each house of the group that was drawn, but not to replace -/
def m_gl (g stt rep : Nat → Int32) (k : Int32) : Nat → Int32
  | 0 => 0
  | j + 1 => m_gl g stt rep k j + (if g j = k ∧ ¬ stt j = 117 ∧ rep j = 0 then 1000 else 0)
def m_addH (r : St) (n : Nat) (s pl lg : Int32) : St := up (up (up (up (up (up (up r 0 0 0) 1 n s) 2 n pl) 3 n lg) 4 n 117) 18 n (-1)) 0 3 (nI (n + 1))
def m_addI (r : St) (n : Nat) (ho lg mi : Int32) : St := up (up (up (up (up r 0 0 0) 22 n ho) 23 n lg) 24 n mi) 0 4 (nI (n + 1))
end
section
/-! the nearest one that fits -/
def nxt (fit : Nat → Bool) (d : Nat → Int32) : Nat → Option Nat
  | 0 => none
  | j + 1 => if fit j = true then (match nxt fit d j with
    | none => some j
    | some b => if d b ≤ d j then some b else some j) else nxt fit d j
theorem nxt_f {fit : Nat → Bool} {d : Nat → Int32} {j : Nat} (h : fit j = false) : nxt fit d (j + 1) = nxt fit d j := by simp [nxt, h]
theorem nxt_n {fit : Nat → Bool} {d : Nat → Int32} {j : Nat} (h : fit j = true) (hb : nxt fit d j = none) : nxt fit d (j + 1) = some j := by simp [nxt, h, hb]
theorem nxt_b {fit : Nat → Bool} {d : Nat → Int32} {j b : Nat} (h : fit j = true) (hb : nxt fit d j = some b) (hd : d b ≤ d j) : nxt fit d (j + 1) = some b := by simp [nxt, h, hb, hd]
theorem nxt_j {fit : Nat → Bool} {d : Nat → Int32} {j b : Nat} (h : fit j = true) (hb : nxt fit d j = some b) (hd : ¬ d b ≤ d j) : nxt fit d (j + 1) = some j := by simp [nxt, h, hb, hd]
theorem nxt_some {fit : Nat → Bool} {d : Nat → Int32} : ∀ {j b : Nat}, nxt fit d j = some b → b < j ∧ fit b = true
  | 0, b, h => by simp [nxt] at h
  | j + 1, b, h => by
    by_cases hf : fit j = true
    · cases hb : nxt fit d j with
      | none =>
        rw [nxt_n hf hb] at h
        cases h
        exact ⟨by omega, hf⟩
      | some c =>
        obtain ⟨h1, h2⟩ := nxt_some hb
        by_cases hd : d c ≤ d j
        · rw [nxt_b hf hb hd] at h
          cases h
          exact ⟨by omega, h2⟩
        · rw [nxt_j hf hb hd] at h
          cases h
          exact ⟨by omega, hf⟩
    · rw [nxt_f (by simpa using hf)] at h
      obtain ⟨h1, h2⟩ := nxt_some h
      exact ⟨by omega, h2⟩
theorem nxt_none {fit : Nat → Bool} {d : Nat → Int32} : ∀ {j : Nat}, nxt fit d j = none → ∀ b, b < j → fit b = false
  | 0, _, b, hb => absurd hb (Nat.not_lt_zero _)
  | j + 1, h, b, hb => by
    by_cases hf : fit j = true
    · cases hc : nxt fit d j with
      | none => rw [nxt_n hf hc] at h; cases h
      | some c =>
        by_cases hd : d c ≤ d j
        · rw [nxt_b hf hc hd] at h; cases h
        · rw [nxt_j hf hc hd] at h; cases h
    · have hf2 : fit j = false := by simpa using hf
      rw [nxt_f hf2] at h
      rcases Nat.lt_or_ge b j with z | z
      · exact nxt_none h b z
      · have : b = j := by omega
        rw [this]; exact hf2
theorem nxt_cong {f1 f2 : Nat → Bool} {d1 d2 : Nat → Int32} : ∀ {n : Nat}, (∀ j, j < n → f1 j = f2 j) → (∀ j, j < n → d1 j = d2 j) → nxt f1 d1 n = nxt f2 d2 n
  | 0, _, _ => rfl
  | n + 1, hf, hd => by
    have ih := nxt_cong (n := n) (fun j hj => hf j (by omega)) (fun j hj => hd j (by omega))
    unfold nxt
    rw [ih, hf n (by omega)]
    split
    · cases hb : nxt f2 d2 n with
      | none => rfl
      | some b =>
        have := (nxt_some hb).1
        simp only [hd b (by omega), hd n (by omega)]
    · rfl
def oI : Option Nat → Int32
  | none => -1
  | some b => nI b
theorem nI_m1 {b : Nat} (h : b < 2 ^ 31) : ¬ nI b = -1 := fun e => by
  have := nI_toInt h
  rw [e] at this
  have h2 : (-1 : Int32).toInt = -1 := by decide
  omega
def m_fit (r : St) (i : Nat) (at_ : Int32) (h : Nat) : Bool := decide (r 4 h = 119) && (decide (¬ r 0 5 < r 5 h) && (decide (r 18 h = -1) && (decide (¬ (r 23 i >>> (r 3 h &&& 31)) &&& 1 = 0) && (decide (¬ (r 9 h >>> (nI i &&& 31)) &&& 1 = 1) && decide (r 21 i + m_way at_ (r 2 h) + 30 + m_way (r 2 h) (r 22 i) ≤ r 24 i)))))
def m_dist (r : St) (at_ : Int32) (h : Nat) : Int32 := m_way at_ (r 2 h)
def m_nx (r : St) (i : Nat) (at_ : Int32) (n : Nat) : Option Nat := nxt (m_fit r i at_) (m_dist r at_) n
/-! a day's rounds in the model -/
def m_rst (r : St) : Nat → St
  | 0 => r
  | j + 1 => up (up (up (m_rst r j) 18 j (-1)) 17 j 0) 16 j 0
theorem m_rst_row {r : St} : ∀ j q, q ≠ 16 → q ≠ 17 → q ≠ 18 → m_rst r j q = r q
  | 0, _, _, _, _ => rfl
  | j + 1, q, h1, h2, h3 => by
    show up (up (up (m_rst r j) 18 j (-1)) 17 j 0) 16 j 0 q = _
    rw [up_row h1, up_row h2, up_row h3]
    exact m_rst_row j q h1 h2 h3
def m_ws (r : St) (i : Nat) (at_ : Int32) (h k : Nat) : St := up (up (up (up r 19 (24 * i + k) (nI h)) 20 i (nI (k + 1))) 21 i (r 21 i + (m_way at_ (r 2 h) + 30))) 18 h (nI i)
theorem m_ws_row {r : St} {i h k : Nat} {at_ : Int32} (q : Nat) (h1 : q ≠ 18) (h2 : q ≠ 19) (h3 : q ≠ 20) (h4 : q ≠ 21) : m_ws r i at_ h k q = r q := by
  unfold m_ws
  rw [up_row h1, up_row h4, up_row h3, up_row h2]
/-- the walk of interviewer i from a place, k houses told already; the fuel f -/
def m_wl (n i : Nat) : Nat → St → Int32 → Nat → St × Int32
  | 0, r, a, _ => (r, a)
  | f + 1, r, a, k => match m_nx r i a n with
    | none => (r, a)
    | some h => m_wl n i f (m_ws r i a h k) (r 2 h) (k + 1)
theorem m_wl_n {n i f k : Nat} {r : St} {a : Int32} (h : m_nx r i a n = none) : m_wl n i f r a k = (r, a) := by
  cases f with
  | zero => rfl
  | succ f => unfold m_wl; rw [h]
theorem m_wl_s {n i f k h : Nat} {r : St} {a : Int32} (e : m_nx r i a n = some h) : m_wl n i (f + 1) r a k = m_wl n i f (m_ws r i a h k) (r 2 h) (k + 1) := by
  conv => lhs; unfold m_wl
  rw [e]
def m_fr (r : St) (n : Nat) : Nat := ct (fun h => decide (r 18 h = -1)) n
theorem m_fit_fr {r : St} {i h : Nat} {a : Int32} (e : m_fit r i a h = true) : r 18 h = -1 := by
  simp only [m_fit, Bool.and_eq_true, decide_eq_true_eq] at e
  exact e.2.2.1
theorem m_ws_18 {r : St} {i h k : Nat} {a : Int32} (j : Nat) : m_ws r i a h k 18 j = if j = h then nI i else r 18 j := by
  unfold m_ws
  rw [up_app]
  simp only [true_and]
  split
  · rfl
  · rw [up_row (by decide), up_row (by decide), up_row (by decide)]
theorem m_fr_ws {r : St} {n i h k : Nat} {a : Int32} (hi : i < 100) (e : m_nx r i a n = some h) : m_fr (m_ws r i a h k) n + 1 = m_fr r n := by
  obtain ⟨h1, h2⟩ := nxt_some e
  refine ct_less h1 (by simpa using m_fit_fr h2) ?_ (fun j hj => ?_)
  · simp only [m_ws_18, if_true, decide_eq_false_iff_not]
    exact nI_m1 (by omega)
  · simp only [m_ws_18, if_neg hj]
theorem m_fr0 {r : St} {n i : Nat} {a : Int32} (h : m_fr r n = 0) : m_nx r i a n = none := by
  cases e : m_nx r i a n with
  | none => rfl
  | some b =>
    obtain ⟨h1, h2⟩ := nxt_some e
    have h3 := m_fit_fr h2
    have h4 := ct_mono (fun h => decide (r 18 h = -1)) (show b + 1 ≤ n from h1)
    rw [ct_t (by simpa using h3)] at h4
    unfold m_fr at h
    omega
/-- interviewer i's round -/
def m_r1 (r : St) (i : Nat) : St := up (up r 20 i 0) 21 i 0
def m_rq (r : St) (n i : Nat) : St × Int32 := if r 25 i = 2 then (m_r1 r i, r 22 i) else m_wl n i n (m_r1 r i) (r 22 i) 0
def m_rd (r : St) (n i : Nat) : St := up (m_rq r n i).1 21 i ((m_rq r n i).1 21 i + m_way (m_rq r n i).2 (r 22 i))
def m_rds (r : St) (n : Nat) : Nat → St
  | 0 => r
  | i + 1 => m_rd (m_rds r n i) n i
def m_rounds (r : St) (n ni : Nat) : St := m_rds (m_rst r n) n ni
theorem m_wl_row {n i : Nat} : ∀ (f : Nat) (r : St) (a : Int32) (k q : Nat), q ≠ 18 → q ≠ 19 → q ≠ 20 → q ≠ 21 → (m_wl n i f r a k).1 q = r q
  | 0, _, _, _, _, _, _, _, _ => rfl
  | f + 1, r, a, k, q, h1, h2, h3, h4 => by
    cases e : m_nx r i a n with
    | none => rw [m_wl_n e]
    | some h =>
      rw [m_wl_s e, m_wl_row f _ _ _ q h1 h2 h3 h4]
      exact m_ws_row q h1 h2 h3 h4
theorem m_rq_row {r : St} {n i q : Nat} (h1 : q ≠ 18) (h2 : q ≠ 19) (h3 : q ≠ 20) (h4 : q ≠ 21) : (m_rq r n i).1 q = r q := by
  unfold m_rq
  split
  · show m_r1 r i q = _
    unfold m_r1
    rw [up_row h4, up_row h3]
  · rw [m_wl_row _ _ _ _ _ h1 h2 h3 h4]
    unfold m_r1
    rw [up_row h4, up_row h3]
theorem m_rd_row {r : St} {n i q : Nat} (h1 : q ≠ 18) (h2 : q ≠ 19) (h3 : q ≠ 20) (h4 : q ≠ 21) : m_rd r n i q = r q := by
  unfold m_rd
  rw [up_row h4]
  exact m_rq_row h1 h2 h3 h4
theorem m_rds_row {r : St} {n q : Nat} (h1 : q ≠ 18) (h2 : q ≠ 19) (h3 : q ≠ 20) (h4 : q ≠ 21) : ∀ i, m_rds r n i q = r q
  | 0 => rfl
  | i + 1 => by
    show m_rd (m_rds r n i) n i q = _
    rw [m_rd_row h1 h2 h3 h4]
    exact m_rds_row h1 h2 h3 h4 i
/-! a barred interviewer's houses -/
def m_bar (r : St) (i : Nat) : Nat → St
  | 0 => r
  | j + 1 => if m_bar r i j 4 j = 97 ∧ m_bar r i j 11 j = nI i then up (up (m_bar r i j) 4 j 119) 5 j (r 0 5 + 1) else m_bar r i j
theorem m_bar_row {r : St} {i : Nat} : ∀ j q, q ≠ 4 → q ≠ 5 → m_bar r i j q = r q
  | 0, _, _, _ => rfl
  | j + 1, q, h1, h2 => by
    unfold m_bar
    split
    · rw [up_row h2, up_row h1]
      exact m_bar_row j q h1 h2
    · exact m_bar_row j q h1 h2
/-! a day's end -/
def m_rep (r : St) (n : Nat) : Nat → St
  | 0 => r
  | j + 1 => if m_rep r n j 16 j = 0 ∨ m_und (m_rep r n j) n (m_rep r n j 1 j) = 0 then m_rep r n j else m_d1 (m_rep r n j) n (m_rep r n j 1 j) 1
def m_repc (r : St) (n : Nat) : Nat → Nat
  | 0 => 0
  | j + 1 => if m_rep r n j 16 j = 0 ∨ m_und (m_rep r n j) n (m_rep r n j 1 j) = 0 then m_repc r n j else m_repc r n j + 1
theorem m_repc_le (r : St) (n : Nat) : ∀ j, m_repc r n j ≤ j
  | 0 => Nat.le_refl _
  | j + 1 => by
    have := m_repc_le r n j
    unfold m_repc
    split <;> omega
theorem m_d1_sc {r : St} {n : Nat} {s inst : Int32} {i : Nat} (h : i ≠ 1) : m_d1 r n s inst 0 i = r 0 i := by
  show up r 0 1 _ 0 i = _
  rw [up_off h]
theorem m_d1_row {r : St} {n : Nat} {s inst : Int32} {q : Nat} (h0 : q ≠ 0) (h4 : q ≠ 4) (h5 : q ≠ 5) (h14 : q ≠ 14) : m_d1 r n s inst q = r q := by
  show up (up (up (up r 0 1 _) 4 _ _) 5 _ _) 14 _ _ q = _
  rw [up_row h14, up_row h5, up_row h4, up_row h0]
theorem m_rep_sc {r : St} {n : Nat} : ∀ j i, i ≠ 1 → m_rep r n j 0 i = r 0 i
  | 0, _, _ => rfl
  | j + 1, i, h => by
    unfold m_rep
    split
    · exact m_rep_sc j i h
    · rw [m_d1_sc h]; exact m_rep_sc j i h
theorem m_rep_row {r : St} {n q : Nat} (h0 : q ≠ 0) (h4 : q ≠ 4) (h5 : q ≠ 5) (h14 : q ≠ 14) : ∀ j, m_rep r n j q = r q
  | 0 => rfl
  | j + 1 => by
    unfold m_rep
    split
    · exact m_rep_row h0 h4 h5 h14 j
    · rw [m_d1_row h0 h4 h5 h14]; exact m_rep_row h0 h4 h5 h14 j
theorem m_rep_chance {r : St} {n : Nat} (hc : ∃ k, k < 65536 ∧ r 0 1 = nI k) : ∀ j, ∃ k, k < 65536 ∧ m_rep r n j 0 1 = nI k
  | 0 => hc
  | j + 1 => by
    unfold m_rep
    split
    · exact m_rep_chance hc j
    · exact m_d1_chance (m_rep_chance hc j)
def m_endDay (r : St) (n ni : Nat) : St := m_rounds (up (m_rep (up r 0 0 0) n n) 0 5 (r 0 5 + 1)) n ni
end
section
set_option maxHeartbeats 4000000 in
set_option maxRecDepth 100000 in
theorem rr_in1 (l : Launch) (dg : va_G) (cA : Nat → ClassId) (ws : va_W) (v lo hi : Int32) (h1 : ¬ v < lo) (h2 : ¬ hi < v) : MetR l dg cA yX6_in cX6_in 3 (some .boolean) ({ frames := 0, cells := 0, slots := 0, locals := 0 } : Room) ws [.int v, .int lo, .int hi] (some (.int 1)) := by
  refine ofR (by decide) (Nat.le_of_ble_eq_true rfl) (own := RX6) rfl (fun p e s0 m args below meth c ls S hr hlk hargs hK hP hl => ?_)
  have hx := S.1
  have hb := S.2.1
  have hl : lv_has ls 3 [(0, .int v), (1, .int lo), (2, .int hi)] := hl
  refine lv_iload_n hx hb dX6_in_0 rfl (lv_at hl 0 rfl) ?_
  refine lv_iload_n hx hb dX6_in_1 rfl (lv_at hl 1 rfl) ?_
  refine lv_icmp_lt (tgt := 14) hx hb dX6_in_2 (by decide) (fun b2 => ?_) (fun b2 => ?_)
  · skip
    exact absurd b2 h1
  · skip
    refine lv_iload_n hx hb dX6_in_5 rfl (lv_at hl 0 rfl) ?_
    refine lv_iload_n hx hb dX6_in_6 rfl (lv_at hl 2 rfl) ?_
    refine lv_icmp_gt (tgt := 14) hx hb dX6_in_7 (by decide) (fun b7 => ?_) (fun b7 => ?_)
    · skip
      exact absurd b7 h2
    · skip
      refine lv_iconst (v := 1) hx hb dX6_in_10 (by decide) ?_
      refine lv_goto (tgt := 15) hx hb dX6_in_11 (by decide) ?_
      exact eRz S hr hlk dX6_in_15 rfl rfl

set_option maxHeartbeats 4000000 in
set_option maxRecDepth 100000 in
theorem rr_in0 (l : Launch) (dg : va_G) (cA : Nat → ClassId) (ws : va_W) (v lo hi : Int32) (h1 : ¬ (¬ v < lo ∧ ¬ hi < v)) : MetR l dg cA yX6_in cX6_in 3 (some .boolean) ({ frames := 0, cells := 0, slots := 0, locals := 0 } : Room) ws [.int v, .int lo, .int hi] (some (.int 0)) := by
  refine ofR (by decide) (Nat.le_of_ble_eq_true rfl) (own := RX6) rfl (fun p e s0 m args below meth c ls S hr hlk hargs hK hP hl => ?_)
  have hx := S.1
  have hb := S.2.1
  have hl : lv_has ls 3 [(0, .int v), (1, .int lo), (2, .int hi)] := hl
  refine lv_iload_n hx hb dX6_in_0 rfl (lv_at hl 0 rfl) ?_
  refine lv_iload_n hx hb dX6_in_1 rfl (lv_at hl 1 rfl) ?_
  refine lv_icmp_lt (tgt := 14) hx hb dX6_in_2 (by decide) (fun b2 => ?_) (fun b2 => ?_)
  · skip
    refine lv_iconst (v := 0) hx hb dX6_in_14 (by decide) ?_
    exact eRz S hr hlk dX6_in_15 rfl rfl
  · skip
    refine lv_iload_n hx hb dX6_in_5 rfl (lv_at hl 0 rfl) ?_
    refine lv_iload_n hx hb dX6_in_6 rfl (lv_at hl 2 rfl) ?_
    refine lv_icmp_gt (tgt := 14) hx hb dX6_in_7 (by decide) (fun b7 => ?_) (fun b7 => ?_)
    · skip
      refine lv_iconst (v := 0) hx hb dX6_in_14 (by decide) ?_
      exact eRz S hr hlk dX6_in_15 rfl rfl
    · skip
      exact absurd ⟨b2, b7⟩ h1

set_option maxHeartbeats 4000000 in
set_option maxRecDepth 100000 in
theorem rr_thrown (l : Launch) (dg : va_G) (cA : Nat → ClassId) (ad : Nat → Nat) (r : St) : MetR l dg cA yX6_thrown cX6_thrown 1 (some .int) ({ frames := 0, cells := 0, slots := 0, locals := 0 } : Room) (mw cA ad r) [.ref (ad 0)] (some (.int (r 0 0))) := by
  refine ofR (by decide) (Nat.le_of_ble_eq_true rfl) (own := RX6) rfl (fun p e s0 m args below meth c ls S hr hlk hargs hK hP hl => ?_)
  have hx := S.1
  have hb := S.2.1
  have hl : lv_has ls 1 [(0, .ref (ad 0))] := hl
  refine lv_aload_n hx hb dX6_thrown_0 rfl (lv_at hl 0 rfl) ?_
  refine gf S hK hP 0 ml_0 fX6_90 (v := .int (r 0 0)) (mv_0 rfl) dX6_thrown_1 ?_
  exact eRi S hr hlk dX6_thrown_4 rfl

set_option maxHeartbeats 4000000 in
set_option maxRecDepth 100000 in
theorem rr_day (l : Launch) (dg : va_G) (cA : Nat → ClassId) (ad : Nat → Nat) (r : St) (sz : Nat) : MetM l dg cA yX6_day cX6_day 1 (some .int) ({ frames := 0, cells := 0, slots := 0, locals := 0 } : Room) 0 0 (mw cA ad r) sz [.ref (ad 0)] (mw cA ad (up r 0 0 0)) (some (.int (r 0 5))) := by
  refine ofM (by decide) (Nat.le_of_ble_eq_true rfl) (own := RX6) rfl (fun p e s0 m args below meth c ls A hAe S hr hlk hname hargs hK hP hD hS hA hsz hl => ?_)
  have hx := S.1
  have hb := S.2.1
  have hl : lv_has ls 1 [(0, .ref (ad 0))] := hl
  refine lv_aload_n hx hb dX6_day_0 rfl (lv_at hl 0 rfl) ?_
  refine lv_iconst (v := 0) hx hb dX6_day_1 (by decide) ?_
  refine pf S hK hP hD hS 0 ml_0 fX6_90 fpX6 rfl (v := .int 0) rfl rfl (Nat.le_of_ble_eq_true rfl) ms_0_0 dX6_day_2 (fun H locs hP hD hS => ?_)
  refine lv_aload_n hx hb dX6_day_5 rfl (lv_at hl 0 rfl) ?_
  refine gf S hK hP 0 ml_0 fX6_115 (v := .int (r 0 5)) (mv_5 rfl) dX6_day_6 ?_
  exact eMi S hr hlk hP hD hS dX6_day_9 rfl rfl

set_option maxHeartbeats 4000000 in
set_option maxRecDepth 100000 in
theorem rr_fails (l : Launch) (dg : va_G) (cA : Nat → ClassId) (ad : Nat → Nat) (r : St) (code : Int32) (sz : Nat) : MetM l dg cA yX6_fails cX6_fails 2 (some .int) ({ frames := 0, cells := 0, slots := 0, locals := 0 } : Room) 0 0 (mw cA ad r) sz [.ref (ad 0), .int code] (mw cA ad (up r 0 0 code)) (some (.int 0)) := by
  refine ofM (by decide) (Nat.le_of_ble_eq_true rfl) (own := RX6) rfl (fun p e s0 m args below meth c ls A hAe S hr hlk hname hargs hK hP hD hS hA hsz hl => ?_)
  have hx := S.1
  have hb := S.2.1
  have hl : lv_has ls 2 [(0, .ref (ad 0)), (1, .int code)] := hl
  refine lv_aload_n hx hb dX6_fails_0 rfl (lv_at hl 0 rfl) ?_
  refine lv_iload_n hx hb dX6_fails_1 rfl (lv_at hl 1 rfl) ?_
  refine pf S hK hP hD hS 0 ml_0 fX6_90 fpX6 rfl (v := .int code) rfl rfl (Nat.le_of_ble_eq_true rfl) ms_0_0 dX6_fails_2 (fun H locs hP hD hS => ?_)
  refine lv_iconst (v := 0) hx hb dX6_fails_5 (by decide) ?_
  exact eMi S hr hlk hP hD hS dX6_fails_6 rfl rfl

set_option maxHeartbeats 4000000 in
set_option maxRecDepth 100000 in
theorem rr_isHouse1 (l : Launch) (dg : va_G) (cA : Nat → ClassId) (ad : Nat → Nat) (r : St) (n : Nat) (hn : r 0 3 = nI n) (hn24 : n ≤ 24) (j : Nat) (hj : j < n) (sz : Nat) : MetM l dg cA yX6_isHouse cX6_isHouse 2 (some .boolean) ({ frames := 1, cells := 0, slots := 0, locals := 22 } : Room) 0 0 (mw cA ad r) sz [.ref (ad 0), .int (nI j)] (mw cA ad (up r 0 0 0)) (some (.int 1)) := by
  refine ofM (by decide) (Nat.le_of_ble_eq_true rfl) (own := RX6) rfl (fun p e s0 m args below meth c ls A hAe S hr hlk hname hargs hK hP hD hS hA hsz hl => ?_)
  have hx := S.1
  have hb := S.2.1
  have hl : lv_has ls 2 [(0, .ref (ad 0)), (1, .int (nI j))] := hl
  refine lv_aload_n hx hb dX6_isHouse_0 rfl (lv_at hl 0 rfl) ?_
  refine lv_iload_n hx hb dX6_isHouse_1 rfl (lv_at hl 1 rfl) ?_
  refine lv_iconst (v := 0) hx hb dX6_isHouse_2 (by decide) ?_
  refine lv_aload_n hx hb dX6_isHouse_3 rfl (lv_at hl 0 rfl) ?_
  refine gf S hK hP 0 ml_0 fX6_93 (v := .int (nI n)) (mv_3 hn) dX6_isHouse_4 ?_
  refine lv_iconst (v := 1) hx hb dX6_isHouse_7 (by decide) ?_
  refine lv_isub hx hb dX6_isHouse_8 ?_
  refine cRS S (rr_in1 l dg cA (mw cA ad r) (nI j) 0 ((nI n) - 1) (nI_pos (by omega)) (idx_hi hj (by omega))) kX6_96 ⟨rfl, rfl, Nat.le_of_ble_eq_true rfl, Nat.le_of_ble_eq_true rfl⟩ hK hP (As := [.int (nI j), .int 0, .int ((nI n) - 1)]) rfl hl.1 (rest := [.ref (ad 0)]) rfl (Nat.le_of_ble_eq_true rfl) dX6_isHouse_9 ⟨Nat.le_of_ble_eq_true rfl, Nat.le_of_ble_eq_true rfl⟩ (st1 := [.int 1, .ref (ad 0)]) rfl ?_
  refine lv_if_eq (tgt := 19) hx hb dX6_isHouse_12 (by decide) (fun b12 => ?_) (fun b12 => ?_)
  · skip
    exact False.elim (by revert b12; decide)
  · skip
    refine lv_iconst (v := 0) hx hb dX6_isHouse_15 (by decide) ?_
    refine lv_goto (tgt := 20) hx hb dX6_isHouse_16 (by decide) ?_
    refine pf S hK hP hD hS 0 ml_0 fX6_90 fpX6 rfl (v := .int 0) rfl rfl (Nat.le_of_ble_eq_true rfl) ms_0_0 dX6_isHouse_20 (fun H locs hP hD hS => ?_)
    refine lv_aload_n hx hb dX6_isHouse_23 rfl (lv_at hl 0 rfl) ?_
    refine gf S hK hP 0 ml_0 fX6_90 (v := .int 0) (mv_0 up_at) dX6_isHouse_24 ?_
    refine lv_if_ne (tgt := 34) hx hb dX6_isHouse_27 (by decide) (fun b27 => ?_) (fun b27 => ?_)
    · skip
      exact False.elim (by revert b27; decide)
    · skip
      refine lv_iconst (v := 1) hx hb dX6_isHouse_30 (by decide) ?_
      refine lv_goto (tgt := 35) hx hb dX6_isHouse_31 (by decide) ?_
      exact eMz S hr hlk hP hD hS dX6_isHouse_35 rfl rfl rfl

set_option maxHeartbeats 4000000 in
set_option maxRecDepth 100000 in
theorem rr_isHouse0 (l : Launch) (dg : va_G) (cA : Nat → ClassId) (ad : Nat → Nat) (r : St) (n : Nat) (hn : r 0 3 = nI n) (hn24 : n ≤ 24) (v : Int32) (hv : v < 0 ∨ nI n ≤ v) (sz : Nat) : MetM l dg cA yX6_isHouse cX6_isHouse 2 (some .boolean) ({ frames := 1, cells := 0, slots := 0, locals := 22 } : Room) 0 0 (mw cA ad r) sz [.ref (ad 0), .int v] (mw cA ad (up r 0 0 1)) (some (.int 0)) := by
  refine ofM (by decide) (Nat.le_of_ble_eq_true rfl) (own := RX6) rfl (fun p e s0 m args below meth c ls A hAe S hr hlk hname hargs hK hP hD hS hA hsz hl => ?_)
  have hx := S.1
  have hb := S.2.1
  have hl : lv_has ls 2 [(0, .ref (ad 0)), (1, .int v)] := hl
  refine lv_aload_n hx hb dX6_isHouse_0 rfl (lv_at hl 0 rfl) ?_
  refine lv_iload_n hx hb dX6_isHouse_1 rfl (lv_at hl 1 rfl) ?_
  refine lv_iconst (v := 0) hx hb dX6_isHouse_2 (by decide) ?_
  refine lv_aload_n hx hb dX6_isHouse_3 rfl (lv_at hl 0 rfl) ?_
  refine gf S hK hP 0 ml_0 fX6_93 (v := .int (nI n)) (mv_3 hn) dX6_isHouse_4 ?_
  refine lv_iconst (v := 1) hx hb dX6_isHouse_7 (by decide) ?_
  refine lv_isub hx hb dX6_isHouse_8 ?_
  refine cRS S (rr_in0 l dg cA (mw cA ad r) v 0 ((nI n) - 1) (idx_bad hv (by omega))) kX6_96 ⟨rfl, rfl, Nat.le_of_ble_eq_true rfl, Nat.le_of_ble_eq_true rfl⟩ hK hP (As := [.int v, .int 0, .int ((nI n) - 1)]) rfl hl.1 (rest := [.ref (ad 0)]) rfl (Nat.le_of_ble_eq_true rfl) dX6_isHouse_9 ⟨Nat.le_of_ble_eq_true rfl, Nat.le_of_ble_eq_true rfl⟩ (st1 := [.int 0, .ref (ad 0)]) rfl ?_
  refine lv_if_eq (tgt := 19) hx hb dX6_isHouse_12 (by decide) (fun b12 => ?_) (fun b12 => ?_)
  · skip
    refine lv_iconst (v := 1) hx hb dX6_isHouse_19 (by decide) ?_
    refine pf S hK hP hD hS 0 ml_0 fX6_90 fpX6 rfl (v := .int 1) rfl rfl (Nat.le_of_ble_eq_true rfl) ms_0_0 dX6_isHouse_20 (fun H locs hP hD hS => ?_)
    refine lv_aload_n hx hb dX6_isHouse_23 rfl (lv_at hl 0 rfl) ?_
    refine gf S hK hP 0 ml_0 fX6_90 (v := .int 1) (mv_0 up_at) dX6_isHouse_24 ?_
    refine lv_if_ne (tgt := 34) hx hb dX6_isHouse_27 (by decide) (fun b27 => ?_) (fun b27 => ?_)
    · skip
      refine lv_iconst (v := 0) hx hb dX6_isHouse_34 (by decide) ?_
      exact eMz S hr hlk hP hD hS dX6_isHouse_35 rfl rfl rfl
    · skip
      exact False.elim (by revert b27; decide)
  · skip
    exact False.elim (by revert b12; decide)

set_option maxHeartbeats 4000000 in
set_option maxRecDepth 100000 in
theorem rr_isInt1 (l : Launch) (dg : va_G) (cA : Nat → ClassId) (ad : Nat → Nat) (r : St) (ni : Nat) (hni : r 0 4 = nI ni) (hni4 : ni ≤ 4) (j : Nat) (hj : j < ni) (sz : Nat) : MetM l dg cA yX6_isInterviewer cX6_isInterviewer 2 (some .boolean) ({ frames := 1, cells := 0, slots := 0, locals := 22 } : Room) 0 0 (mw cA ad r) sz [.ref (ad 0), .int (nI j)] (mw cA ad (up r 0 0 0)) (some (.int 1)) := by
  refine ofM (by decide) (Nat.le_of_ble_eq_true rfl) (own := RX6) rfl (fun p e s0 m args below meth c ls A hAe S hr hlk hname hargs hK hP hD hS hA hsz hl => ?_)
  have hx := S.1
  have hb := S.2.1
  have hl : lv_has ls 2 [(0, .ref (ad 0)), (1, .int (nI j))] := hl
  refine lv_aload_n hx hb dX6_isInterviewer_0 rfl (lv_at hl 0 rfl) ?_
  refine lv_iload_n hx hb dX6_isInterviewer_1 rfl (lv_at hl 1 rfl) ?_
  refine lv_iconst (v := 0) hx hb dX6_isInterviewer_2 (by decide) ?_
  refine lv_aload_n hx hb dX6_isInterviewer_3 rfl (lv_at hl 0 rfl) ?_
  refine gf S hK hP 0 ml_0 fX6_100 (v := .int (nI ni)) (mv_4 hni) dX6_isInterviewer_4 ?_
  refine lv_iconst (v := 1) hx hb dX6_isInterviewer_7 (by decide) ?_
  refine lv_isub hx hb dX6_isInterviewer_8 ?_
  refine cRS S (rr_in1 l dg cA (mw cA ad r) (nI j) 0 ((nI ni) - 1) (nI_pos (by omega)) (idx_hi hj (by omega))) kX6_96 ⟨rfl, rfl, Nat.le_of_ble_eq_true rfl, Nat.le_of_ble_eq_true rfl⟩ hK hP (As := [.int (nI j), .int 0, .int ((nI ni) - 1)]) rfl hl.1 (rest := [.ref (ad 0)]) rfl (Nat.le_of_ble_eq_true rfl) dX6_isInterviewer_9 ⟨Nat.le_of_ble_eq_true rfl, Nat.le_of_ble_eq_true rfl⟩ (st1 := [.int 1, .ref (ad 0)]) rfl ?_
  refine lv_if_eq (tgt := 19) hx hb dX6_isInterviewer_12 (by decide) (fun b12 => ?_) (fun b12 => ?_)
  · skip
    exact False.elim (by revert b12; decide)
  · skip
    refine lv_iconst (v := 0) hx hb dX6_isInterviewer_15 (by decide) ?_
    refine lv_goto (tgt := 20) hx hb dX6_isInterviewer_16 (by decide) ?_
    refine pf S hK hP hD hS 0 ml_0 fX6_90 fpX6 rfl (v := .int 0) rfl rfl (Nat.le_of_ble_eq_true rfl) ms_0_0 dX6_isInterviewer_20 (fun H locs hP hD hS => ?_)
    refine lv_aload_n hx hb dX6_isInterviewer_23 rfl (lv_at hl 0 rfl) ?_
    refine gf S hK hP 0 ml_0 fX6_90 (v := .int 0) (mv_0 up_at) dX6_isInterviewer_24 ?_
    refine lv_if_ne (tgt := 34) hx hb dX6_isInterviewer_27 (by decide) (fun b27 => ?_) (fun b27 => ?_)
    · skip
      exact False.elim (by revert b27; decide)
    · skip
      refine lv_iconst (v := 1) hx hb dX6_isInterviewer_30 (by decide) ?_
      refine lv_goto (tgt := 35) hx hb dX6_isInterviewer_31 (by decide) ?_
      exact eMz S hr hlk hP hD hS dX6_isInterviewer_35 rfl rfl rfl

set_option maxHeartbeats 4000000 in
set_option maxRecDepth 100000 in
theorem rr_isInt0 (l : Launch) (dg : va_G) (cA : Nat → ClassId) (ad : Nat → Nat) (r : St) (ni : Nat) (hni : r 0 4 = nI ni) (hni4 : ni ≤ 4) (v : Int32) (hv : v < 0 ∨ nI ni ≤ v) (sz : Nat) : MetM l dg cA yX6_isInterviewer cX6_isInterviewer 2 (some .boolean) ({ frames := 1, cells := 0, slots := 0, locals := 22 } : Room) 0 0 (mw cA ad r) sz [.ref (ad 0), .int v] (mw cA ad (up r 0 0 1)) (some (.int 0)) := by
  refine ofM (by decide) (Nat.le_of_ble_eq_true rfl) (own := RX6) rfl (fun p e s0 m args below meth c ls A hAe S hr hlk hname hargs hK hP hD hS hA hsz hl => ?_)
  have hx := S.1
  have hb := S.2.1
  have hl : lv_has ls 2 [(0, .ref (ad 0)), (1, .int v)] := hl
  refine lv_aload_n hx hb dX6_isInterviewer_0 rfl (lv_at hl 0 rfl) ?_
  refine lv_iload_n hx hb dX6_isInterviewer_1 rfl (lv_at hl 1 rfl) ?_
  refine lv_iconst (v := 0) hx hb dX6_isInterviewer_2 (by decide) ?_
  refine lv_aload_n hx hb dX6_isInterviewer_3 rfl (lv_at hl 0 rfl) ?_
  refine gf S hK hP 0 ml_0 fX6_100 (v := .int (nI ni)) (mv_4 hni) dX6_isInterviewer_4 ?_
  refine lv_iconst (v := 1) hx hb dX6_isInterviewer_7 (by decide) ?_
  refine lv_isub hx hb dX6_isInterviewer_8 ?_
  refine cRS S (rr_in0 l dg cA (mw cA ad r) v 0 ((nI ni) - 1) (idx_bad hv (by omega))) kX6_96 ⟨rfl, rfl, Nat.le_of_ble_eq_true rfl, Nat.le_of_ble_eq_true rfl⟩ hK hP (As := [.int v, .int 0, .int ((nI ni) - 1)]) rfl hl.1 (rest := [.ref (ad 0)]) rfl (Nat.le_of_ble_eq_true rfl) dX6_isInterviewer_9 ⟨Nat.le_of_ble_eq_true rfl, Nat.le_of_ble_eq_true rfl⟩ (st1 := [.int 0, .ref (ad 0)]) rfl ?_
  refine lv_if_eq (tgt := 19) hx hb dX6_isInterviewer_12 (by decide) (fun b12 => ?_) (fun b12 => ?_)
  · skip
    refine lv_iconst (v := 1) hx hb dX6_isInterviewer_19 (by decide) ?_
    refine pf S hK hP hD hS 0 ml_0 fX6_90 fpX6 rfl (v := .int 1) rfl rfl (Nat.le_of_ble_eq_true rfl) ms_0_0 dX6_isInterviewer_20 (fun H locs hP hD hS => ?_)
    refine lv_aload_n hx hb dX6_isInterviewer_23 rfl (lv_at hl 0 rfl) ?_
    refine gf S hK hP 0 ml_0 fX6_90 (v := .int 1) (mv_0 up_at) dX6_isInterviewer_24 ?_
    refine lv_if_ne (tgt := 34) hx hb dX6_isInterviewer_27 (by decide) (fun b27 => ?_) (fun b27 => ?_)
    · skip
      refine lv_iconst (v := 0) hx hb dX6_isInterviewer_34 (by decide) ?_
      exact eMz S hr hlk hP hD hS dX6_isInterviewer_35 rfl rfl rfl
    · skip
      exact False.elim (by revert b27; decide)
  · skip
    exact False.elim (by revert b12; decide)

set_option maxHeartbeats 4000000 in
set_option maxRecDepth 100000 in
theorem rr_setChance1 (l : Launch) (dg : va_G) (cA : Nat → ClassId) (ad : Nat → Nat) (r : St) (v : Int32) (h1 : ¬ v < 0) (h2 : ¬ 65535 < v) (sz : Nat) : MetM l dg cA yX6_setChance cX6_setChance 3 (some .int) ({ frames := 1, cells := 0, slots := 0, locals := 22 } : Room) 0 0 (mw cA ad r) sz [.ref (ad 0), .int v] (mw cA ad (up (up r 0 0 0) 0 1 v)) (some (.int (r 0 1))) := by
  refine ofM (by decide) (Nat.le_of_ble_eq_true rfl) (own := RX6) rfl (fun p e s0 m args below meth c ls A hAe S hr hlk hname hargs hK hP hD hS hA hsz hl => ?_)
  have hx := S.1
  have hb := S.2.1
  have hl : lv_has ls 3 [(0, .ref (ad 0)), (1, .int v)] := hl
  refine lv_iload_n hx hb dX6_setChance_0 rfl (lv_at hl 1 rfl) ?_
  refine lv_iconst (v := 0) hx hb dX6_setChance_1 (by decide) ?_
  refine lv_ldc (v := 65535) hx hb S.2.2.2.1 (S.2.2.2.2 _ (gW_mem 939 (by decide +kernel) (by decide +kernel))) dX6_setChance_2 ?_
  refine cRS S (rr_in1 l dg cA (mw cA ad r) v 0 65535 h1 h2) kX6_96 ⟨rfl, rfl, Nat.le_of_ble_eq_true rfl, Nat.le_of_ble_eq_true rfl⟩ hK hP (As := [.int v, .int 0, .int 65535]) rfl hl.1 (rest := []) rfl (Nat.le_of_ble_eq_true rfl) dX6_setChance_4 ⟨Nat.le_of_ble_eq_true rfl, Nat.le_of_ble_eq_true rfl⟩ (st1 := [.int 1]) rfl ?_
  refine lv_if_ne (tgt := 16) hx hb dX6_setChance_7 (by decide) (fun b7 => ?_) (fun b7 => ?_)
  · skip
    refine lv_aload_n hx hb dX6_setChance_16 rfl (lv_at hl 0 rfl) ?_
    refine lv_iconst (v := 0) hx hb dX6_setChance_17 (by decide) ?_
    refine pf S hK hP hD hS 0 ml_0 fX6_90 fpX6 rfl (v := .int 0) rfl rfl (Nat.le_of_ble_eq_true rfl) ms_0_0 dX6_setChance_18 (fun H locs hP hD hS => ?_)
    refine lv_aload_n hx hb dX6_setChance_21 rfl (lv_at hl 0 rfl) ?_
    refine gf S hK hP 0 ml_0 fX6_7 (v := .int (r 0 1)) (mv_1 rfl) dX6_setChance_22 ?_
    refine lv_istore_n (lv' := [(2, .int (r 0 1)), (0, .ref (ad 0)), (1, .int v)]) hx hb dX6_setChance_25 rfl hl (by decide) rfl (fun ls hl => ?_)
    refine lv_aload_n hx hb dX6_setChance_26 rfl (lv_at hl 1 rfl) ?_
    refine lv_iload_n hx hb dX6_setChance_27 rfl (lv_at hl 2 rfl) ?_
    refine pf S hK hP hD hS 0 ml_0 fX6_7 fpX6 rfl (v := .int v) rfl rfl (Nat.le_of_ble_eq_true rfl) ms_0_1 dX6_setChance_28 (fun H locs hP hD hS => ?_)
    refine lv_iload_n hx hb dX6_setChance_31 rfl (lv_at hl 0 rfl) ?_
    exact eMi S hr hlk hP hD hS dX6_setChance_32 rfl rfl
  · skip
    exact False.elim (by revert b7; decide)

set_option maxHeartbeats 4000000 in
set_option maxRecDepth 100000 in
theorem rr_setChance0 (l : Launch) (dg : va_G) (cA : Nat → ClassId) (ad : Nat → Nat) (r : St) (v : Int32) (h1 : ¬ (¬ v < 0 ∧ ¬ 65535 < v)) (sz : Nat) : MetM l dg cA yX6_setChance cX6_setChance 3 (some .int) ({ frames := 1, cells := 0, slots := 0, locals := 22 } : Room) 0 0 (mw cA ad r) sz [.ref (ad 0), .int v] (mw cA ad (up r 0 0 1)) (some (.int 0)) := by
  refine ofM (by decide) (Nat.le_of_ble_eq_true rfl) (own := RX6) rfl (fun p e s0 m args below meth c ls A hAe S hr hlk hname hargs hK hP hD hS hA hsz hl => ?_)
  have hx := S.1
  have hb := S.2.1
  have hl : lv_has ls 3 [(0, .ref (ad 0)), (1, .int v)] := hl
  refine lv_iload_n hx hb dX6_setChance_0 rfl (lv_at hl 1 rfl) ?_
  refine lv_iconst (v := 0) hx hb dX6_setChance_1 (by decide) ?_
  refine lv_ldc (v := 65535) hx hb S.2.2.2.1 (S.2.2.2.2 _ (gW_mem 939 (by decide +kernel) (by decide +kernel))) dX6_setChance_2 ?_
  refine cRS S (rr_in0 l dg cA (mw cA ad r) v 0 65535 h1) kX6_96 ⟨rfl, rfl, Nat.le_of_ble_eq_true rfl, Nat.le_of_ble_eq_true rfl⟩ hK hP (As := [.int v, .int 0, .int 65535]) rfl hl.1 (rest := []) rfl (Nat.le_of_ble_eq_true rfl) dX6_setChance_4 ⟨Nat.le_of_ble_eq_true rfl, Nat.le_of_ble_eq_true rfl⟩ (st1 := [.int 0]) rfl ?_
  refine lv_if_ne (tgt := 16) hx hb dX6_setChance_7 (by decide) (fun b7 => ?_) (fun b7 => ?_)
  · skip
    exact False.elim (by revert b7; decide)
  · skip
    refine lv_aload_n hx hb dX6_setChance_10 rfl (lv_at hl 0 rfl) ?_
    refine lv_iconst (v := 1) hx hb dX6_setChance_11 (by decide) ?_
    refine cM S (rr_fails l dg cA ad r 1 _) kX6_104 ⟨rfl, rfl, Nat.le_of_ble_eq_true rfl, Nat.le_of_ble_eq_true rfl⟩ hK hP hD hS hA 0 ml_0 (q := (RX6, TX6, 31)) rfl rfl (As := [.int 1]) rfl hl.1 (rest := []) rfl (Nat.le_of_ble_eq_true rfl) dX6_setChance_12 ⟨Nat.le_of_ble_eq_true rfl, Nat.le_of_ble_eq_true rfl⟩ (st1 := [.int 0]) rfl (fun H locs hP hD hS => ?_)
    exact eMi S hr hlk hP hD hS dX6_setChance_15 rfl rfl

set_option maxHeartbeats 4000000 in
set_option maxRecDepth 100000 in
theorem rr_addStratum1 (l : Launch) (dg : va_G) (cA : Nat → ClassId) (ad : Nat → Nat) (r : St) (ns : Nat) (hns : r 0 2 = nI ns) (hns4 : ns < 4) (sz : Nat) : MetM l dg cA yX6_addStratum cX6_addStratum 1 (some .int) ({ frames := 0, cells := 0, slots := 0, locals := 0 } : Room) 0 0 (mw cA ad r) sz [.ref (ad 0)] (mw cA ad (up (up r 0 0 0) 0 2 (nI (ns + 1)))) (some (.int (nI ns))) := by
  refine ofM (by decide) (Nat.le_of_ble_eq_true rfl) (own := RX6) rfl (fun p e s0 m args below meth c ls A hAe S hr hlk hname hargs hK hP hD hS hA hsz hl => ?_)
  have hx := S.1
  have hb := S.2.1
  have hl : lv_has ls 1 [(0, .ref (ad 0))] := hl
  refine lv_aload_n hx hb dX6_addStratum_0 rfl (lv_at hl 0 rfl) ?_
  refine gf S hK hP 0 ml_0 fX6_108 (v := .int (nI ns)) (mv_2 hns) dX6_addStratum_1 ?_
  refine lv_iconst (v := 4) hx hb dX6_addStratum_4 (by decide) ?_
  refine lv_icmp_ne (tgt := 14) hx hb dX6_addStratum_5 (by decide) (fun b5 => ?_) (fun b5 => ?_)
  · skip
    have g5 : ¬ ns = 4 := fun zz => b5 ((nI_eq (a := ns) (b := 4) (by omega) (by omega)).mpr zz)
    refine lv_aload_n hx hb dX6_addStratum_14 rfl (lv_at hl 0 rfl) ?_
    refine lv_iconst (v := 0) hx hb dX6_addStratum_15 (by decide) ?_
    refine pf S hK hP hD hS 0 ml_0 fX6_90 fpX6 rfl (v := .int 0) rfl rfl (Nat.le_of_ble_eq_true rfl) ms_0_0 dX6_addStratum_16 (fun H locs hP hD hS => ?_)
    refine lv_aload_n hx hb dX6_addStratum_19 rfl (lv_at hl 0 rfl) ?_
    refine lv_dup hx hb dX6_addStratum_20 rfl ?_
    refine gf S hK hP 0 ml_0 fX6_108 (v := .int (nI ns)) (mv_2 hns) dX6_addStratum_21 ?_
    refine lv_iconst (v := 1) hx hb dX6_addStratum_24 (by decide) ?_
    refine lv_iadd hx hb dX6_addStratum_25 ?_
    refine lv_as (y := nI (ns + 1)) (nI_1 ns) ?_
    refine pf S hK hP hD hS 0 ml_0 fX6_108 fpX6 rfl (v := .int (nI (ns + 1))) rfl rfl (Nat.le_of_ble_eq_true rfl) ms_0_2 dX6_addStratum_26 (fun H locs hP hD hS => ?_)
    refine lv_aload_n hx hb dX6_addStratum_29 rfl (lv_at hl 0 rfl) ?_
    refine gf S hK hP 0 ml_0 fX6_108 (v := .int (nI (ns + 1))) (mv_2 up_at) dX6_addStratum_30 ?_
    refine lv_iconst (v := 1) hx hb dX6_addStratum_33 (by decide) ?_
    refine lv_isub hx hb dX6_addStratum_34 ?_
    refine lv_as (y := nI ns) (nI_pred ns) ?_
    exact eMi S hr hlk hP hD hS dX6_addStratum_35 rfl rfl
  · skip
    have g5 : ns = 4 := (nI_eq (a := ns) (b := 4) (by omega) (by omega)).mp b5
    exact absurd g5 (by omega)

set_option maxHeartbeats 4000000 in
set_option maxRecDepth 100000 in
theorem rr_addStratum0 (l : Launch) (dg : va_G) (cA : Nat → ClassId) (ad : Nat → Nat) (r : St) (hns : r 0 2 = 4) (sz : Nat) : MetM l dg cA yX6_addStratum cX6_addStratum 1 (some .int) ({ frames := 1, cells := 0, slots := 0, locals := 21 } : Room) 0 0 (mw cA ad r) sz [.ref (ad 0)] (mw cA ad (up r 0 0 1)) (some (.int 0)) := by
  refine ofM (by decide) (Nat.le_of_ble_eq_true rfl) (own := RX6) rfl (fun p e s0 m args below meth c ls A hAe S hr hlk hname hargs hK hP hD hS hA hsz hl => ?_)
  have hx := S.1
  have hb := S.2.1
  have hl : lv_has ls 1 [(0, .ref (ad 0))] := hl
  refine lv_aload_n hx hb dX6_addStratum_0 rfl (lv_at hl 0 rfl) ?_
  refine gf S hK hP 0 ml_0 fX6_108 (v := .int 4) (mv_2 hns) dX6_addStratum_1 ?_
  refine lv_iconst (v := 4) hx hb dX6_addStratum_4 (by decide) ?_
  refine lv_icmp_ne (tgt := 14) hx hb dX6_addStratum_5 (by decide) (fun b5 => ?_) (fun b5 => ?_)
  · skip
    exact False.elim (by revert b5; decide)
  · skip
    refine lv_aload_n hx hb dX6_addStratum_8 rfl (lv_at hl 0 rfl) ?_
    refine lv_iconst (v := 1) hx hb dX6_addStratum_9 (by decide) ?_
    refine cM S (rr_fails l dg cA ad r 1 _) kX6_104 ⟨rfl, rfl, Nat.le_of_ble_eq_true rfl, Nat.le_of_ble_eq_true rfl⟩ hK hP hD hS hA 0 ml_0 (q := (RX6, TX6, 31)) rfl rfl (As := [.int 1]) rfl hl.1 (rest := []) rfl (Nat.le_of_ble_eq_true rfl) dX6_addStratum_10 ⟨Nat.le_of_ble_eq_true rfl, Nat.le_of_ble_eq_true rfl⟩ (st1 := [.int 0]) rfl (fun H locs hP hD hS => ?_)
    exact eMi S hr hlk hP hD hS dX6_addStratum_13 rfl rfl

set_option maxHeartbeats 4000000 in
set_option maxRecDepth 100000 in
theorem rr_way (l : Launch) (dg : va_G) (cA : Nat → ClassId) (ws : va_W) (a b : Int32) : MetR l dg cA yX6_way cX6_way 2 (some .int) ({ frames := 0, cells := 0, slots := 0, locals := 0 } : Room) ws [.int a, .int b] (some (.int (m_way a b))) := by
  refine ofR (by decide) (Nat.le_of_ble_eq_true rfl) (own := RX6) rfl (fun p e s0 m args below meth c ls S hr hlk hargs hK hP hl => ?_)
  have hx := S.1
  have hb := S.2.1
  have hl : lv_has ls 2 [(0, .int a), (1, .int b)] := hl
  refine lv_iload_n hx hb dX6_way_0 rfl (lv_at hl 0 rfl) ?_
  refine lv_iload_n hx hb dX6_way_1 rfl (lv_at hl 1 rfl) ?_
  refine lv_icmp_ge (tgt := 11) hx hb dX6_way_2 (by decide) (fun b2 => ?_) (fun b2 => ?_)
  · skip
    refine lv_iload_n hx hb dX6_way_11 rfl (lv_at hl 0 rfl) ?_
    refine lv_iload_n hx hb dX6_way_12 rfl (lv_at hl 1 rfl) ?_
    refine lv_isub hx hb dX6_way_13 ?_
    exact eRi S hr hlk dX6_way_14 (by simp [m_way, b2])
  · skip
    refine lv_iload_n hx hb dX6_way_5 rfl (lv_at hl 1 rfl) ?_
    refine lv_iload_n hx hb dX6_way_6 rfl (lv_at hl 0 rfl) ?_
    refine lv_isub hx hb dX6_way_7 ?_
    refine lv_goto (tgt := 14) hx hb dX6_way_8 (by decide) ?_
    exact eRi S hr hlk dX6_way_14 (by simp [m_way, b2])

set_option maxHeartbeats 4000000 in
set_option maxRecDepth 100000 in
theorem rr_undrawn (l : Launch) (dg : va_G) (cA : Nat → ClassId) (ad : Nat → Nat) (r : St) (n : Nat) (hn : r 0 3 = nI n) (hn24 : n ≤ 24) (s : Int32) : MetR l dg cA yX6_undrawn cX6_undrawn 4 (some .int) ({ frames := 0, cells := 0, slots := 0, locals := 0 } : Room) (mw cA ad r) [.ref (ad 0), .int s] (some (.int (nI (m_und r n s)))) := by
  refine ofR (by decide) (Nat.le_of_ble_eq_true rfl) (own := RX6) rfl (fun p e s0 m args below meth c ls S hr hlk hargs hK hP hl => ?_)
  have hx := S.1
  have hb := S.2.1
  have hl : lv_has ls 4 [(0, .ref (ad 0)), (1, .int s)] := hl
  refine lv_iconst (v := 0) hx hb dX6_undrawn_0 (by decide) ?_
  refine lv_istore_n (lv' := [(2, .int 0), (0, .ref (ad 0)), (1, .int s)]) hx hb dX6_undrawn_1 rfl hl (by decide) rfl (fun ls hl => ?_)
  refine lv_iconst (v := 0) hx hb dX6_undrawn_2 (by decide) ?_
  refine lv_istore_n (lv' := [(3, .int 0), (2, .int 0), (0, .ref (ad 0)), (1, .int s)]) hx hb dX6_undrawn_3 rfl hl (by decide) rfl (fun ls hl => ?_)
  have hL4 : ∀ (f : Nat) (j : Nat), n - j < f → (j ≤ n) → ∀ ls, lv_has ls 4 [(0, .ref (ad 0)), (1, .int s), (2, .int (nI (ct (isU (r 1) (r 4) s) j))), (3, .int (nI j))] → W p l e ({ frames := 0, cells := 0, slots := 0, locals := 0 } : Room) s0 m args below meth c s0.heap [] 0 0 (MQ below (QcR (some (.int (nI (m_und r n s))))) args s0 0 0 (fun _ => False)) (F0 m 4 ls []) := by
    intro f
    induction f with
    | zero => intro j hm; exact absurd hm (Nat.not_lt_zero _)
    | succ f ih4 =>
      intro j hm4 hj ls hl
      refine lv_iload_n hx hb dX6_undrawn_4 rfl (lv_at hl 3 rfl) ?_
      refine lv_aload_n hx hb dX6_undrawn_5 rfl (lv_at hl 0 rfl) ?_
      refine gf S hK hP 0 ml_0 fX6_93 (v := .int (nI n)) (mv_3 hn) dX6_undrawn_6 ?_
      refine lv_icmp_ge (tgt := 47) hx hb dX6_undrawn_9 (by decide) (fun b9 => ?_) (fun b9 => ?_)
      · skip
        have g9 : n ≤ j := (nI_leI (a := n) (b := j) (by omega) (by omega)).mp b9
        refine lv_iload_n hx hb dX6_undrawn_47 rfl (lv_at hl 2 rfl) ?_
        exact eRi S hr hlk dX6_undrawn_48 (by rw [show j = n by omega]; rfl)
      · skip
        have g9 : ¬ n ≤ j := fun zz => b9 ((nI_leI (a := n) (b := j) (by omega) (by omega)).mpr zz)
        refine lv_iload_n hx hb dX6_undrawn_12 rfl (lv_at hl 2 rfl) ?_
        refine lv_aload_n hx hb dX6_undrawn_13 rfl (lv_at hl 0 rfl) ?_
        refine gf S hK hP 0 ml_0 fX6_13 (v := .ref (ad 1)) mr_1 dX6_undrawn_14 ?_
        refine lv_iload_n hx hb dX6_undrawn_17 rfl (lv_at hl 3 rfl) ?_
        refine ild S hK hP 1 ml_1 (j := j) (by omega) (Nat.le_of_ble_eq_true rfl) dX6_undrawn_18 ?_
        refine lv_as (y := r 1 j) rfl ?_
        refine lv_iload_n hx hb dX6_undrawn_19 rfl (lv_at hl 1 rfl) ?_
        refine lv_icmp_ne (tgt := 38) hx hb dX6_undrawn_20 (by decide) (fun b20 => ?_) (fun b20 => ?_)
        · skip
          refine lv_iconst (v := 0) hx hb dX6_undrawn_38 (by decide) ?_
          refine lv_iadd hx hb dX6_undrawn_39 ?_
          refine lv_istore_n (lv' := [(2, .int ((nI (ct (isU (r 1) (r 4) s) j)) + 0)), (0, .ref (ad 0)), (1, .int s), (3, .int (nI j))]) hx hb dX6_undrawn_40 rfl hl (by decide) rfl (fun ls hl => ?_)
          refine lv_iinc (v := nI (j + 1)) (lv' := [(3, .int (nI (j + 1))), (2, .int ((nI (ct (isU (r 1) (r 4) s) j)) + 0)), (0, .ref (ad 0)), (1, .int s)]) hx hb dX6_undrawn_41 hl (k := 3) rfl (nI_1 j) (by decide) rfl (fun ls hl => ?_)
          refine lv_goto (tgt := 4) hx hb dX6_undrawn_44 (by decide) ?_
          exact ih4 (j + 1) (by omega) (by omega) ls (lv_cast (lv_sub (l' := [(0, .ref (ad 0)), (1, .int s), (2, .int ((nI (ct (isU (r 1) (r 4) s) j)) + 0)), (3, .int (nI (j + 1)))]) hl [2, 3, 1, 0] rfl) (by simp [ct, isU, nI_1, b9, b20]))
        · skip
          refine lv_aload_n hx hb dX6_undrawn_23 rfl (lv_at hl 0 rfl) ?_
          refine gf S hK hP 0 ml_0 fX6_23 (v := .ref (ad 4)) mr_4 dX6_undrawn_24 ?_
          refine lv_iload_n hx hb dX6_undrawn_27 rfl (lv_at hl 3 rfl) ?_
          refine ild S hK hP 4 ml_4 (j := j) (by omega) (Nat.le_of_ble_eq_true rfl) dX6_undrawn_28 ?_
          refine lv_as (y := r 4 j) rfl ?_
          refine lv_bipush (v := 117) hx hb dX6_undrawn_29 (by decide) ?_
          refine lv_icmp_ne (tgt := 38) hx hb dX6_undrawn_31 (by decide) (fun b31 => ?_) (fun b31 => ?_)
          · skip
            refine lv_iconst (v := 0) hx hb dX6_undrawn_38 (by decide) ?_
            refine lv_iadd hx hb dX6_undrawn_39 ?_
            refine lv_istore_n (lv' := [(2, .int ((nI (ct (isU (r 1) (r 4) s) j)) + 0)), (0, .ref (ad 0)), (1, .int s), (3, .int (nI j))]) hx hb dX6_undrawn_40 rfl hl (by decide) rfl (fun ls hl => ?_)
            refine lv_iinc (v := nI (j + 1)) (lv' := [(3, .int (nI (j + 1))), (2, .int ((nI (ct (isU (r 1) (r 4) s) j)) + 0)), (0, .ref (ad 0)), (1, .int s)]) hx hb dX6_undrawn_41 hl (k := 3) rfl (nI_1 j) (by decide) rfl (fun ls hl => ?_)
            refine lv_goto (tgt := 4) hx hb dX6_undrawn_44 (by decide) ?_
            exact ih4 (j + 1) (by omega) (by omega) ls (lv_cast (lv_sub (l' := [(0, .ref (ad 0)), (1, .int s), (2, .int ((nI (ct (isU (r 1) (r 4) s) j)) + 0)), (3, .int (nI (j + 1)))]) hl [2, 3, 1, 0] rfl) (by simp [ct, isU, nI_1, b9, b20, b31]))
          · skip
            refine lv_iconst (v := 1) hx hb dX6_undrawn_34 (by decide) ?_
            refine lv_goto (tgt := 39) hx hb dX6_undrawn_35 (by decide) ?_
            refine lv_iadd hx hb dX6_undrawn_39 ?_
            refine lv_as (y := nI (ct (isU (r 1) (r 4) s) j + 1)) (nI_1 (ct (isU (r 1) (r 4) s) j)) ?_
            refine lv_istore_n (lv' := [(2, .int (nI (ct (isU (r 1) (r 4) s) j + 1))), (0, .ref (ad 0)), (1, .int s), (3, .int (nI j))]) hx hb dX6_undrawn_40 rfl hl (by decide) rfl (fun ls hl => ?_)
            refine lv_iinc (v := nI (j + 1)) (lv' := [(3, .int (nI (j + 1))), (2, .int (nI (ct (isU (r 1) (r 4) s) j + 1))), (0, .ref (ad 0)), (1, .int s)]) hx hb dX6_undrawn_41 hl (k := 3) rfl (nI_1 j) (by decide) rfl (fun ls hl => ?_)
            refine lv_goto (tgt := 4) hx hb dX6_undrawn_44 (by decide) ?_
            exact ih4 (j + 1) (by omega) (by omega) ls (lv_cast (lv_sub (l' := [(0, .ref (ad 0)), (1, .int s), (2, .int (nI (ct (isU (r 1) (r 4) s) j + 1))), (3, .int (nI (j + 1)))]) hl [2, 3, 1, 0] rfl) (by simp [ct, isU, nI_1, b9, b20, b31]))
  exact hL4 _ 0 (Nat.lt_succ_self _) (Nat.zero_le _) ls (lv_cast (lv_sub (l' := [(0, .ref (ad 0)), (1, .int s), (2, .int 0), (3, .int 0)]) hl [2, 3, 1, 0] rfl) (by rfl))

set_option maxHeartbeats 4000000 in
set_option maxRecDepth 100000 in
theorem rr_draws (l : Launch) (dg : va_G) (cA : Nat → ClassId) (ad : Nat → Nat) (r : St) (n : Nat) (hn : r 0 3 = nI n) (hn24 : n ≤ 24) (s inst : Int32) (hinst : vp_nar .boolean inst = inst) (hc : ∃ k, k < 65536 ∧ r 0 1 = nI k) (hu : 0 < m_und r n s) (sz : Nat) : MetM l dg cA yX6_draws cX6_draws 5 (some .int) ({ frames := 1, cells := 0, slots := 0, locals := 23 } : Room) 0 0 (mw cA ad r) sz [.ref (ad 0), .int s, .int inst] (mw cA ad (m_d1 r n s inst)) (some (.int (nI (m_h r n s)))) := by
  refine ofM (by decide) (Nat.le_of_ble_eq_true rfl) (own := RX6) rfl (fun p e s0 m args below meth c ls A hAe S hr hlk hname hargs hK hP hD hS hA hsz hl => ?_)
  have hx := S.1
  have hb := S.2.1
  have hl : lv_has ls 5 [(0, .ref (ad 0)), (1, .int s), (2, .int inst)] := hl
  have hu2 := ct_le (isU (r 1) (r 4) s) n
  obtain ⟨hq1, hq2⟩ := m_q_ok (u := m_und r n s) hc hu (by unfold m_und; omega)
  obtain ⟨hh, hhp, hhq⟩ := sel_ok (isU (r 1) (r 4) s) (m_q (r 0 1) (m_und r n s)) n hq1
  obtain ⟨h, hhe⟩ : ∃ z, z = m_h r n s := ⟨_, rfl⟩
  obtain ⟨q, hqe⟩ : ∃ z, z = m_q (r 0 1) (m_und r n s) := ⟨_, rfl⟩
  change m_h r n s < n at hh
  change isU (r 1) (r 4) s (m_h r n s) = true at hhp
  change ct (isU (r 1) (r 4) s) (m_h r n s) = _ at hhq
  rw [← hhe] at hh hhp hhq
  rw [← hqe] at hq1 hq2 hhq
  unfold m_und at hu hq1 hq2
  have hhe : Hid (h = m_h r n s) := hhe
  clear hqe
  refine lv_aload_n hx hb dX6_draws_0 rfl (lv_at hl 0 rfl) ?_
  refine lv_aload_n hx hb dX6_draws_1 rfl (lv_at hl 0 rfl) ?_
  refine gf S hK hP 0 ml_0 fX6_7 (v := .int (r 0 1)) (mv_1 rfl) dX6_draws_2 ?_
  refine lv_sipush (v := 1103) hx hb dX6_draws_5 (by decide) ?_
  refine lv_imul hx hb dX6_draws_8 ?_
  refine lv_sipush (v := 12345) hx hb dX6_draws_9 (by decide) ?_
  refine lv_iadd hx hb dX6_draws_12 ?_
  refine lv_ldc (v := 65536) hx hb S.2.2.2.1 (S.2.2.2.2 _ (gW_mem 971 (by decide +kernel) (by decide +kernel))) dX6_draws_13 ?_
  refine lv_irem hx hb dX6_draws_15 (by decide) ?_
  refine lv_as (y := m_ch (r 0 1)) rfl ?_
  refine pf S hK hP hD hS 0 ml_0 fX6_7 fpX6 rfl (v := .int (m_ch (r 0 1))) rfl rfl (Nat.le_of_ble_eq_true rfl) ms_0_1 dX6_draws_16 (fun H locs hP hD hS => ?_)
  refine lv_aload_n hx hb dX6_draws_19 rfl (lv_at hl 0 rfl) ?_
  refine gf S hK hP 0 ml_0 fX6_7 (v := .int (m_ch (r 0 1))) (mv_1 up_at) dX6_draws_20 ?_
  refine lv_aload_n hx hb dX6_draws_23 rfl (lv_at hl 0 rfl) ?_
  refine lv_iload_n hx hb dX6_draws_24 rfl (lv_at hl 1 rfl) ?_
  refine cR S (rr_undrawn l dg cA ad (up r 0 1 (m_ch (r 0 1))) n hn hn24 s) kX6_112 ⟨rfl, rfl, Nat.le_of_ble_eq_true rfl, Nat.le_of_ble_eq_true rfl⟩ hK hP 0 ml_0 (q := (RX6, TX6, 31)) rfl rfl (As := [.int s]) rfl hl.1 (rest := [.int (m_ch (r 0 1))]) rfl (Nat.le_of_ble_eq_true rfl) dX6_draws_25 ⟨Nat.le_of_ble_eq_true rfl, Nat.le_of_ble_eq_true rfl⟩ (st1 := [.int (nI (ct (isU (r 1) (r 4) s) n)), .int (m_ch (r 0 1))]) rfl ?_
  refine lv_irem hx hb dX6_draws_28 (nI_ne0 hu (by omega)) ?_
  refine lv_as (y := nI q) hq2 ?_
  refine lv_istore_n (lv' := [(3, .int (nI q)), (0, .ref (ad 0)), (1, .int s), (2, .int inst)]) hx hb dX6_draws_29 rfl hl (by decide) rfl (fun ls hl => ?_)
  refine lv_iconst (v := 0) hx hb dX6_draws_30 (by decide) ?_
  refine lv_istore (lv' := [(4, .int 0), (3, .int (nI q)), (0, .ref (ad 0)), (1, .int s), (2, .int inst)]) hx hb dX6_draws_31 hl (by decide) rfl (fun ls hl => ?_)
  have hL33 : ∀ (f : Nat) (j : Nat), h - j < f → (j ≤ h) → (ct (isU (r 1) (r 4) s) j ≤ q) → ∀ ls, lv_has ls 5 [(0, .ref (ad 0)), (1, .int s), (2, .int inst), (3, .int (nI (q - ct (isU (r 1) (r 4) s) j))), (4, .int (nI j))] → ∀ (H : Heap) (locs : List Loc), PP dg (mw cA ad (up r 0 1 (m_ch (r 0 1)))) H → va_D A (mw cA ad (up r 0 1 (m_ch (r 0 1)))) → va_S A s0.heap H locs → W p l e ({ frames := 1, cells := 0, slots := 0, locals := 23 } : Room) s0 m args below meth c H locs 0 0 (MQ below (QcM dg (mw cA ad (m_d1 r n s inst)) (some (.int (nI (m_h r n s)))) A) args s0 0 0 A) (F0 m 33 ls []) := by
    intro f
    induction f with
    | zero => intro j hm; exact absurd hm (Nat.not_lt_zero _)
    | succ f ih33 =>
      intro j hm33 hj hjq ls hl H locs hP hD hS
      refine lv_aload_n hx hb dX6_draws_33 rfl (lv_at hl 0 rfl) ?_
      refine gf S hK hP 0 ml_0 fX6_13 (v := .ref (ad 1)) mr_1 dX6_draws_34 ?_
      refine lv_iload hx hb dX6_draws_37 (lv_at hl 4 rfl) ?_
      refine ild S hK hP 1 ml_1 (j := j) (by omega) (Nat.le_of_ble_eq_true rfl) dX6_draws_39 ?_
      refine lv_as (y := r 1 j) rfl ?_
      refine lv_iload_n hx hb dX6_draws_40 rfl (lv_at hl 1 rfl) ?_
      refine lv_icmp_ne (tgt := 60) hx hb dX6_draws_41 (by decide) (fun b41 => ?_) (fun b41 => ?_)
      · skip
        refine lv_iload_n hx hb dX6_draws_60 rfl (lv_at hl 3 rfl) ?_
        refine lv_aload_n hx hb dX6_draws_61 rfl (lv_at hl 0 rfl) ?_
        refine gf S hK hP 0 ml_0 fX6_13 (v := .ref (ad 1)) mr_1 dX6_draws_62 ?_
        refine lv_iload hx hb dX6_draws_65 (lv_at hl 4 rfl) ?_
        refine ild S hK hP 1 ml_1 (j := j) (by omega) (Nat.le_of_ble_eq_true rfl) dX6_draws_67 ?_
        refine lv_as (y := r 1 j) rfl ?_
        refine lv_iload_n hx hb dX6_draws_68 rfl (lv_at hl 1 rfl) ?_
        refine lv_icmp_ne (tgt := 88) hx hb dX6_draws_69 (by decide) (fun b69 => ?_) (fun b69 => ?_)
        · skip
          refine lv_iconst (v := 0) hx hb dX6_draws_88 (by decide) ?_
          refine lv_isub hx hb dX6_draws_89 ?_
          refine lv_istore_n (lv' := [(3, .int ((nI (q - ct (isU (r 1) (r 4) s) j)) - 0)), (0, .ref (ad 0)), (1, .int s), (2, .int inst), (4, .int (nI j))]) hx hb dX6_draws_90 rfl hl (by decide) rfl (fun ls hl => ?_)
          refine lv_iinc (v := nI (j + 1)) (lv' := [(4, .int (nI (j + 1))), (3, .int ((nI (q - ct (isU (r 1) (r 4) s) j)) - 0)), (0, .ref (ad 0)), (1, .int s), (2, .int inst)]) hx hb dX6_draws_91 hl (k := 4) rfl (nI_1 j) (by decide) rfl (fun ls hl => ?_)
          refine lv_goto (tgt := 33) hx hb dX6_draws_94 (by decide) ?_
          have e9 : isU (r 1) (r 4) s j = false := by simp [isU, b41]
          have j9 : j < h := by
            rcases Nat.lt_or_ge j h with z | z
            · exact z
            · have z2 : j = h := by omega
              rw [z2, hhp] at e9
              cases e9
          exact ih33 (j + 1) (by omega) (by omega) (by rw [ct_f e9]; exact hjq) ls (lv_cast (lv_sub (l' := [(0, .ref (ad 0)), (1, .int s), (2, .int inst), (3, .int ((nI (q - ct (isU (r 1) (r 4) s) j)) - 0)), (4, .int (nI (j + 1)))]) hl [2, 3, 4, 1, 0] rfl) (by rw [ct_f e9, i32_sub0])) _ _ hP hD hS
        · skip
          exact absurd b69 b41
      · skip
        refine lv_aload_n hx hb dX6_draws_44 rfl (lv_at hl 0 rfl) ?_
        refine gf S hK hP 0 ml_0 fX6_23 (v := .ref (ad 4)) mr_4 dX6_draws_45 ?_
        refine lv_iload hx hb dX6_draws_48 (lv_at hl 4 rfl) ?_
        refine ild S hK hP 4 ml_4 (j := j) (by omega) (Nat.le_of_ble_eq_true rfl) dX6_draws_50 ?_
        refine lv_as (y := r 4 j) rfl ?_
        refine lv_bipush (v := 117) hx hb dX6_draws_51 (by decide) ?_
        refine lv_icmp_ne (tgt := 60) hx hb dX6_draws_53 (by decide) (fun b53 => ?_) (fun b53 => ?_)
        · skip
          refine lv_iload_n hx hb dX6_draws_60 rfl (lv_at hl 3 rfl) ?_
          refine lv_aload_n hx hb dX6_draws_61 rfl (lv_at hl 0 rfl) ?_
          refine gf S hK hP 0 ml_0 fX6_13 (v := .ref (ad 1)) mr_1 dX6_draws_62 ?_
          refine lv_iload hx hb dX6_draws_65 (lv_at hl 4 rfl) ?_
          refine ild S hK hP 1 ml_1 (j := j) (by omega) (Nat.le_of_ble_eq_true rfl) dX6_draws_67 ?_
          refine lv_as (y := r 1 j) rfl ?_
          refine lv_iload_n hx hb dX6_draws_68 rfl (lv_at hl 1 rfl) ?_
          refine lv_icmp_ne (tgt := 88) hx hb dX6_draws_69 (by decide) (fun b69 => ?_) (fun b69 => ?_)
          · skip
            exact absurd b41 b69
          · skip
            refine lv_aload_n hx hb dX6_draws_72 rfl (lv_at hl 0 rfl) ?_
            refine gf S hK hP 0 ml_0 fX6_23 (v := .ref (ad 4)) mr_4 dX6_draws_73 ?_
            refine lv_iload hx hb dX6_draws_76 (lv_at hl 4 rfl) ?_
            refine ild S hK hP 4 ml_4 (j := j) (by omega) (Nat.le_of_ble_eq_true rfl) dX6_draws_78 ?_
            refine lv_as (y := r 4 j) rfl ?_
            refine lv_bipush (v := 117) hx hb dX6_draws_79 (by decide) ?_
            refine lv_icmp_ne (tgt := 88) hx hb dX6_draws_81 (by decide) (fun b81 => ?_) (fun b81 => ?_)
            · skip
              refine lv_iconst (v := 0) hx hb dX6_draws_88 (by decide) ?_
              refine lv_isub hx hb dX6_draws_89 ?_
              refine lv_istore_n (lv' := [(3, .int ((nI (q - ct (isU (r 1) (r 4) s) j)) - 0)), (0, .ref (ad 0)), (1, .int s), (2, .int inst), (4, .int (nI j))]) hx hb dX6_draws_90 rfl hl (by decide) rfl (fun ls hl => ?_)
              refine lv_iinc (v := nI (j + 1)) (lv' := [(4, .int (nI (j + 1))), (3, .int ((nI (q - ct (isU (r 1) (r 4) s) j)) - 0)), (0, .ref (ad 0)), (1, .int s), (2, .int inst)]) hx hb dX6_draws_91 hl (k := 4) rfl (nI_1 j) (by decide) rfl (fun ls hl => ?_)
              refine lv_goto (tgt := 33) hx hb dX6_draws_94 (by decide) ?_
              have e9 : isU (r 1) (r 4) s j = false := by simp [isU, b41, b53]
              have j9 : j < h := by
                rcases Nat.lt_or_ge j h with z | z
                · exact z
                · have z2 : j = h := by omega
                  rw [z2, hhp] at e9
                  cases e9
              exact ih33 (j + 1) (by omega) (by omega) (by rw [ct_f e9]; exact hjq) ls (lv_cast (lv_sub (l' := [(0, .ref (ad 0)), (1, .int s), (2, .int inst), (3, .int ((nI (q - ct (isU (r 1) (r 4) s) j)) - 0)), (4, .int (nI (j + 1)))]) hl [2, 3, 4, 1, 0] rfl) (by rw [ct_f e9, i32_sub0])) _ _ hP hD hS
            · skip
              exact absurd b81 b53
        · skip
          refine lv_iload_n hx hb dX6_draws_56 rfl (lv_at hl 3 rfl) ?_
          refine lv_if_le (tgt := 97) hx hb dX6_draws_57 (by decide) (fun b57 => ?_) (fun b57 => ?_)
          · skip
            have g57 : q - ct (isU (r 1) (r 4) s) j ≤ 0 := (nI_leI (a := q - ct (isU (r 1) (r 4) s) j) (b := 0) (by omega) (by omega)).mp b57
            have e9 : isU (r 1) (r 4) s j = true := by simp [isU, b41, b53]
            have j9 : j = h := ct_one e9 hhp (by omega)
            refine lv_aload_n hx hb dX6_draws_97 rfl (lv_at hl 0 rfl) ?_
            refine gf S hK hP 0 ml_0 fX6_23 (v := .ref (ad 4)) mr_4 dX6_draws_98 ?_
            refine lv_iload hx hb dX6_draws_101 (lv_at hl 4 rfl) ?_
            refine lv_bipush (v := 119) hx hb dX6_draws_103 (by decide) ?_
            refine ist S hK hP hD hS 4 ml_4 (j := j) (x := 119) (by omega) (Nat.le_of_ble_eq_true rfl) ms_4 dX6_draws_105 (fun H locs hP hD hS => ?_)
            refine lv_aload_n hx hb dX6_draws_106 rfl (lv_at hl 0 rfl) ?_
            refine gf S hK hP 0 ml_0 fX6_26 (v := .ref (ad 5)) mr_5 dX6_draws_107 ?_
            refine lv_iload hx hb dX6_draws_110 (lv_at hl 4 rfl) ?_
            refine lv_aload_n hx hb dX6_draws_112 rfl (lv_at hl 0 rfl) ?_
            refine gf S hK hP 0 ml_0 fX6_115 (v := .int (r 0 5)) (mv_5 rfl) dX6_draws_113 ?_
            refine lv_iconst (v := 1) hx hb dX6_draws_116 (by decide) ?_
            refine lv_iadd hx hb dX6_draws_117 ?_
            refine ist S hK hP hD hS 5 ml_5 (j := j) (x := (r 0 5) + 1) (by omega) (Nat.le_of_ble_eq_true rfl) ms_5 dX6_draws_118 (fun H locs hP hD hS => ?_)
            refine lv_aload_n hx hb dX6_draws_119 rfl (lv_at hl 0 rfl) ?_
            refine gf S hK hP 0 ml_0 fX6_53 (v := .ref (ad 14)) mr_14 dX6_draws_120 ?_
            refine lv_iload hx hb dX6_draws_123 (lv_at hl 4 rfl) ?_
            refine lv_iload_n hx hb dX6_draws_125 rfl (lv_at hl 2 rfl) ?_
            refine zst S hK hP hD hS 14 ml_14 (j := j) (x := inst) (by omega) (Nat.le_of_ble_eq_true rfl) hinst ms_14 dX6_draws_126 (fun H locs hP hD hS => ?_)
            refine lv_iload hx hb dX6_draws_127 (lv_at hl 4 rfl) ?_
            exact eMi S hr hlk hP hD hS dX6_draws_129 (by rw [j9, show h = m_h r n s from hhe]) (by rw [j9, show h = m_h r n s from hhe]; rfl)
          · skip
            have g57 : ¬ q - ct (isU (r 1) (r 4) s) j ≤ 0 := fun zz => b57 ((nI_leI (a := q - ct (isU (r 1) (r 4) s) j) (b := 0) (by omega) (by omega)).mpr zz)
            refine lv_iload_n hx hb dX6_draws_60 rfl (lv_at hl 3 rfl) ?_
            refine lv_aload_n hx hb dX6_draws_61 rfl (lv_at hl 0 rfl) ?_
            refine gf S hK hP 0 ml_0 fX6_13 (v := .ref (ad 1)) mr_1 dX6_draws_62 ?_
            refine lv_iload hx hb dX6_draws_65 (lv_at hl 4 rfl) ?_
            refine ild S hK hP 1 ml_1 (j := j) (by omega) (Nat.le_of_ble_eq_true rfl) dX6_draws_67 ?_
            refine lv_as (y := r 1 j) rfl ?_
            refine lv_iload_n hx hb dX6_draws_68 rfl (lv_at hl 1 rfl) ?_
            refine lv_icmp_ne (tgt := 88) hx hb dX6_draws_69 (by decide) (fun b69 => ?_) (fun b69 => ?_)
            · skip
              exact absurd b41 b69
            · skip
              refine lv_aload_n hx hb dX6_draws_72 rfl (lv_at hl 0 rfl) ?_
              refine gf S hK hP 0 ml_0 fX6_23 (v := .ref (ad 4)) mr_4 dX6_draws_73 ?_
              refine lv_iload hx hb dX6_draws_76 (lv_at hl 4 rfl) ?_
              refine ild S hK hP 4 ml_4 (j := j) (by omega) (Nat.le_of_ble_eq_true rfl) dX6_draws_78 ?_
              refine lv_as (y := r 4 j) rfl ?_
              refine lv_bipush (v := 117) hx hb dX6_draws_79 (by decide) ?_
              refine lv_icmp_ne (tgt := 88) hx hb dX6_draws_81 (by decide) (fun b81 => ?_) (fun b81 => ?_)
              · skip
                exact absurd b53 b81
              · skip
                refine lv_iconst (v := 1) hx hb dX6_draws_84 (by decide) ?_
                refine lv_goto (tgt := 89) hx hb dX6_draws_85 (by decide) ?_
                refine lv_isub hx hb dX6_draws_89 ?_
                refine lv_istore_n (lv' := [(3, .int ((nI (q - ct (isU (r 1) (r 4) s) j)) - 1)), (0, .ref (ad 0)), (1, .int s), (2, .int inst), (4, .int (nI j))]) hx hb dX6_draws_90 rfl hl (by decide) rfl (fun ls hl => ?_)
                refine lv_iinc (v := nI (j + 1)) (lv' := [(4, .int (nI (j + 1))), (3, .int ((nI (q - ct (isU (r 1) (r 4) s) j)) - 1)), (0, .ref (ad 0)), (1, .int s), (2, .int inst)]) hx hb dX6_draws_91 hl (k := 4) rfl (nI_1 j) (by decide) rfl (fun ls hl => ?_)
                refine lv_goto (tgt := 33) hx hb dX6_draws_94 (by decide) ?_
                have e9 : isU (r 1) (r 4) s j = true := by simp [isU, b41, b53]
                have j9 : j < h := by
                  rcases Nat.lt_or_ge j h with z | z
                  · exact z
                  · have z2 : j = h := by omega
                    rw [z2] at g57
                    omega
                have c9 := ct_mono (isU (r 1) (r 4) s) (show j + 1 ≤ h from j9)
                exact ih33 (j + 1) (by omega) (by omega) (by omega) ls (lv_cast (lv_sub (l' := [(0, .ref (ad 0)), (1, .int s), (2, .int inst), (3, .int ((nI (q - ct (isU (r 1) (r 4) s) j)) - 1)), (4, .int (nI (j + 1)))]) hl [2, 3, 4, 1, 0] rfl) (by rw [ct_t e9, show q - ct (isU (r 1) (r 4) s) j = (q - (ct (isU (r 1) (r 4) s) j + 1)) + 1 by rw [ct_t e9] at c9; omega, nI_pred])) _ _ hP hD hS
  exact hL33 _ 0 (Nat.lt_succ_self _) (Nat.zero_le _) (Nat.zero_le _) ls (lv_cast (lv_sub (l' := [(0, .ref (ad 0)), (1, .int s), (2, .int inst), (3, .int (nI q)), (4, .int 0)]) hl [2, 3, 4, 1, 0] rfl) (by rfl)) _ _ hP hD hS
end
section
set_option maxHeartbeats 4000000 in
set_option maxRecDepth 100000 in
theorem rr_draw1 (l : Launch) (dg : va_G) (cA : Nat → ClassId) (ad : Nat → Nat) (r : St) (ns : Nat) (hns : r 0 2 = nI ns) (hns4 : ns ≤ 4) (s : Int32) (hv : s < 0 ∨ nI ns ≤ s) (k : Int32) (sz : Nat) : MetM l dg cA yX6_draw cX6_draw 5 (some .int) ({ frames := 1, cells := 0, slots := 0, locals := 22 } : Room) 0 0 (mw cA ad r) sz [.ref (ad 0), .int s, .int k] (mw cA ad (up r 0 0 1)) (some (.int 0)) := by
  refine ofM (by decide) (Nat.le_of_ble_eq_true rfl) (own := RX6) rfl (fun p e s0 m args below meth c ls A hAe S hr hlk hname hargs hK hP hD hS hA hsz hl => ?_)
  have hx := S.1
  have hb := S.2.1
  have hl : lv_has ls 5 [(0, .ref (ad 0)), (1, .int s), (2, .int k)] := hl
  refine lv_iload_n hx hb dX6_draw_0 rfl (lv_at hl 1 rfl) ?_
  refine lv_iconst (v := 0) hx hb dX6_draw_1 (by decide) ?_
  refine lv_aload_n hx hb dX6_draw_2 rfl (lv_at hl 0 rfl) ?_
  refine gf S hK hP 0 ml_0 fX6_108 (v := .int (nI ns)) (mv_2 hns) dX6_draw_3 ?_
  refine lv_iconst (v := 1) hx hb dX6_draw_6 (by decide) ?_
  refine lv_isub hx hb dX6_draw_7 ?_
  refine cRS S (rr_in0 l dg cA (mw cA ad r) s 0 ((nI ns) - 1) (idx_bad hv (by omega))) kX6_96 ⟨rfl, rfl, Nat.le_of_ble_eq_true rfl, Nat.le_of_ble_eq_true rfl⟩ hK hP (As := [.int s, .int 0, .int ((nI ns) - 1)]) rfl hl.1 (rest := []) rfl (Nat.le_of_ble_eq_true rfl) dX6_draw_8 ⟨Nat.le_of_ble_eq_true rfl, Nat.le_of_ble_eq_true rfl⟩ (st1 := [.int 0]) rfl ?_
  refine lv_if_ne (tgt := 20) hx hb dX6_draw_11 (by decide) (fun b11 => ?_) (fun b11 => ?_)
  · skip
    exact False.elim (by revert b11; decide)
  · skip
    refine lv_aload_n hx hb dX6_draw_14 rfl (lv_at hl 0 rfl) ?_
    refine lv_iconst (v := 1) hx hb dX6_draw_15 (by decide) ?_
    refine cM S (rr_fails l dg cA ad r 1 _) kX6_104 ⟨rfl, rfl, Nat.le_of_ble_eq_true rfl, Nat.le_of_ble_eq_true rfl⟩ hK hP hD hS hA 0 ml_0 (q := (RX6, TX6, 31)) rfl rfl (As := [.int 1]) rfl hl.1 (rest := []) rfl (Nat.le_of_ble_eq_true rfl) dX6_draw_16 ⟨Nat.le_of_ble_eq_true rfl, Nat.le_of_ble_eq_true rfl⟩ (st1 := [.int 0]) rfl (fun H locs hP hD hS => ?_)
    exact eMi S hr hlk hP hD hS dX6_draw_19 rfl rfl

set_option maxHeartbeats 4000000 in
set_option maxRecDepth 100000 in
theorem rr_draw2 (l : Launch) (dg : va_G) (cA : Nat → ClassId) (ad : Nat → Nat) (r : St) (ns : Nat) (hns : r 0 2 = nI ns) (hns4 : ns ≤ 4) (js : Nat) (hjs : js < ns) (k : Int32) (hk : ¬ (¬ k < 1 ∧ ¬ 24 < k)) (sz : Nat) : MetM l dg cA yX6_draw cX6_draw 5 (some .int) ({ frames := 1, cells := 0, slots := 0, locals := 22 } : Room) 0 0 (mw cA ad r) sz [.ref (ad 0), .int (nI js), .int k] (mw cA ad (up r 0 0 2)) (some (.int 0)) := by
  refine ofM (by decide) (Nat.le_of_ble_eq_true rfl) (own := RX6) rfl (fun p e s0 m args below meth c ls A hAe S hr hlk hname hargs hK hP hD hS hA hsz hl => ?_)
  have hx := S.1
  have hb := S.2.1
  have hl : lv_has ls 5 [(0, .ref (ad 0)), (1, .int (nI js)), (2, .int k)] := hl
  refine lv_iload_n hx hb dX6_draw_0 rfl (lv_at hl 1 rfl) ?_
  refine lv_iconst (v := 0) hx hb dX6_draw_1 (by decide) ?_
  refine lv_aload_n hx hb dX6_draw_2 rfl (lv_at hl 0 rfl) ?_
  refine gf S hK hP 0 ml_0 fX6_108 (v := .int (nI ns)) (mv_2 hns) dX6_draw_3 ?_
  refine lv_iconst (v := 1) hx hb dX6_draw_6 (by decide) ?_
  refine lv_isub hx hb dX6_draw_7 ?_
  refine cRS S (rr_in1 l dg cA (mw cA ad r) (nI js) 0 ((nI ns) - 1) (nI_pos (by omega)) (idx_hi hjs (by omega))) kX6_96 ⟨rfl, rfl, Nat.le_of_ble_eq_true rfl, Nat.le_of_ble_eq_true rfl⟩ hK hP (As := [.int (nI js), .int 0, .int ((nI ns) - 1)]) rfl hl.1 (rest := []) rfl (Nat.le_of_ble_eq_true rfl) dX6_draw_8 ⟨Nat.le_of_ble_eq_true rfl, Nat.le_of_ble_eq_true rfl⟩ (st1 := [.int 1]) rfl ?_
  refine lv_if_ne (tgt := 20) hx hb dX6_draw_11 (by decide) (fun b11 => ?_) (fun b11 => ?_)
  · skip
    refine lv_iload_n hx hb dX6_draw_20 rfl (lv_at hl 2 rfl) ?_
    refine lv_iconst (v := 1) hx hb dX6_draw_21 (by decide) ?_
    refine lv_bipush (v := 24) hx hb dX6_draw_22 (by decide) ?_
    refine cRS S (rr_in0 l dg cA (mw cA ad r) k 1 24 hk) kX6_96 ⟨rfl, rfl, Nat.le_of_ble_eq_true rfl, Nat.le_of_ble_eq_true rfl⟩ hK hP (As := [.int k, .int 1, .int 24]) rfl hl.1 (rest := []) rfl (Nat.le_of_ble_eq_true rfl) dX6_draw_24 ⟨Nat.le_of_ble_eq_true rfl, Nat.le_of_ble_eq_true rfl⟩ (st1 := [.int 0]) rfl ?_
    refine lv_if_ne (tgt := 36) hx hb dX6_draw_27 (by decide) (fun b27 => ?_) (fun b27 => ?_)
    · skip
      exact False.elim (by revert b27; decide)
    · skip
      refine lv_aload_n hx hb dX6_draw_30 rfl (lv_at hl 0 rfl) ?_
      refine lv_iconst (v := 2) hx hb dX6_draw_31 (by decide) ?_
      refine cM S (rr_fails l dg cA ad r 2 _) kX6_104 ⟨rfl, rfl, Nat.le_of_ble_eq_true rfl, Nat.le_of_ble_eq_true rfl⟩ hK hP hD hS hA 0 ml_0 (q := (RX6, TX6, 31)) rfl rfl (As := [.int 2]) rfl hl.1 (rest := []) rfl (Nat.le_of_ble_eq_true rfl) dX6_draw_32 ⟨Nat.le_of_ble_eq_true rfl, Nat.le_of_ble_eq_true rfl⟩ (st1 := [.int 0]) rfl (fun H locs hP hD hS => ?_)
      exact eMi S hr hlk hP hD hS dX6_draw_35 rfl rfl
  · skip
    exact False.elim (by revert b11; decide)

set_option maxHeartbeats 4000000 in
set_option maxRecDepth 100000 in
theorem rr_draw3 (l : Launch) (dg : va_G) (cA : Nat → ClassId) (ad : Nat → Nat) (r : St) (n : Nat) (hn : r 0 3 = nI n) (hn24 : n ≤ 24) (ns : Nat) (hns : r 0 2 = nI ns) (hns4 : ns ≤ 4) (js : Nat) (hjs : js < ns) (kk : Nat) (hk1 : 1 ≤ kk) (hk2 : kk ≤ 24) (hu : m_und r n (nI js) < kk) (sz : Nat) : MetM l dg cA yX6_draw cX6_draw 5 (some .int) ({ frames := 1, cells := 0, slots := 0, locals := 23 } : Room) 0 0 (mw cA ad r) sz [.ref (ad 0), .int (nI js), .int (nI kk)] (mw cA ad (up r 0 0 3)) (some (.int 0)) := by
  refine ofM (by decide) (Nat.le_of_ble_eq_true rfl) (own := RX6) rfl (fun p e s0 m args below meth c ls A hAe S hr hlk hname hargs hK hP hD hS hA hsz hl => ?_)
  have hx := S.1
  have hb := S.2.1
  have hl : lv_has ls 5 [(0, .ref (ad 0)), (1, .int (nI js)), (2, .int (nI kk))] := hl
  unfold m_und at hu
  refine lv_iload_n hx hb dX6_draw_0 rfl (lv_at hl 1 rfl) ?_
  refine lv_iconst (v := 0) hx hb dX6_draw_1 (by decide) ?_
  refine lv_aload_n hx hb dX6_draw_2 rfl (lv_at hl 0 rfl) ?_
  refine gf S hK hP 0 ml_0 fX6_108 (v := .int (nI ns)) (mv_2 hns) dX6_draw_3 ?_
  refine lv_iconst (v := 1) hx hb dX6_draw_6 (by decide) ?_
  refine lv_isub hx hb dX6_draw_7 ?_
  refine cRS S (rr_in1 l dg cA (mw cA ad r) (nI js) 0 ((nI ns) - 1) (nI_pos (by omega)) (idx_hi hjs (by omega))) kX6_96 ⟨rfl, rfl, Nat.le_of_ble_eq_true rfl, Nat.le_of_ble_eq_true rfl⟩ hK hP (As := [.int (nI js), .int 0, .int ((nI ns) - 1)]) rfl hl.1 (rest := []) rfl (Nat.le_of_ble_eq_true rfl) dX6_draw_8 ⟨Nat.le_of_ble_eq_true rfl, Nat.le_of_ble_eq_true rfl⟩ (st1 := [.int 1]) rfl ?_
  refine lv_if_ne (tgt := 20) hx hb dX6_draw_11 (by decide) (fun b11 => ?_) (fun b11 => ?_)
  · skip
    refine lv_iload_n hx hb dX6_draw_20 rfl (lv_at hl 2 rfl) ?_
    refine lv_iconst (v := 1) hx hb dX6_draw_21 (by decide) ?_
    refine lv_bipush (v := 24) hx hb dX6_draw_22 (by decide) ?_
    refine cRS S (rr_in1 l dg cA (mw cA ad r) (nI kk) 1 24 (nI_nlt (a := kk) (b := 1) hk1 (by omega)) (nI_nlt (a := 24) (b := kk) hk2 (by omega))) kX6_96 ⟨rfl, rfl, Nat.le_of_ble_eq_true rfl, Nat.le_of_ble_eq_true rfl⟩ hK hP (As := [.int (nI kk), .int 1, .int 24]) rfl hl.1 (rest := []) rfl (Nat.le_of_ble_eq_true rfl) dX6_draw_24 ⟨Nat.le_of_ble_eq_true rfl, Nat.le_of_ble_eq_true rfl⟩ (st1 := [.int 1]) rfl ?_
    refine lv_if_ne (tgt := 36) hx hb dX6_draw_27 (by decide) (fun b27 => ?_) (fun b27 => ?_)
    · skip
      refine lv_aload_n hx hb dX6_draw_36 rfl (lv_at hl 0 rfl) ?_
      refine lv_iload_n hx hb dX6_draw_37 rfl (lv_at hl 1 rfl) ?_
      refine cR S (rr_undrawn l dg cA ad r n hn hn24 (nI js)) kX6_112 ⟨rfl, rfl, Nat.le_of_ble_eq_true rfl, Nat.le_of_ble_eq_true rfl⟩ hK hP 0 ml_0 (q := (RX6, TX6, 31)) rfl rfl (As := [.int (nI js)]) rfl hl.1 (rest := []) rfl (Nat.le_of_ble_eq_true rfl) dX6_draw_38 ⟨Nat.le_of_ble_eq_true rfl, Nat.le_of_ble_eq_true rfl⟩ (st1 := [.int (nI (ct (isU (r 1) (r 4) (nI js)) n))]) rfl ?_
      refine lv_iload_n hx hb dX6_draw_41 rfl (lv_at hl 2 rfl) ?_
      refine lv_icmp_ge (tgt := 51) hx hb dX6_draw_42 (by decide) (fun b42 => ?_) (fun b42 => ?_)
      · skip
        have g42 : kk ≤ ct (isU (r 1) (r 4) (nI js)) n := (nI_leI (a := kk) (b := ct (isU (r 1) (r 4) (nI js)) n) (by omega) (by omega)).mp b42
        exact absurd g42 (by omega)
      · skip
        have g42 : ¬ kk ≤ ct (isU (r 1) (r 4) (nI js)) n := fun zz => b42 ((nI_leI (a := kk) (b := ct (isU (r 1) (r 4) (nI js)) n) (by omega) (by omega)).mpr zz)
        refine lv_aload_n hx hb dX6_draw_45 rfl (lv_at hl 0 rfl) ?_
        refine lv_iconst (v := 3) hx hb dX6_draw_46 (by decide) ?_
        refine cM S (rr_fails l dg cA ad r 3 _) kX6_104 ⟨rfl, rfl, Nat.le_of_ble_eq_true rfl, Nat.le_of_ble_eq_true rfl⟩ hK hP hD hS hA 0 ml_0 (q := (RX6, TX6, 31)) rfl rfl (As := [.int 3]) rfl hl.1 (rest := []) rfl (Nat.le_of_ble_eq_true rfl) dX6_draw_47 ⟨Nat.le_of_ble_eq_true rfl, Nat.le_of_ble_eq_true rfl⟩ (st1 := [.int 0]) rfl (fun H locs hP hD hS => ?_)
        exact eMi S hr hlk hP hD hS dX6_draw_50 rfl rfl
    · skip
      exact absurd b27 b11
  · skip
    exact False.elim (by revert b11; decide)

set_option maxHeartbeats 4000000 in
set_option maxRecDepth 100000 in
theorem rr_draw4 (l : Launch) (dg : va_G) (cA : Nat → ClassId) (ad : Nat → Nat) (r : St) (n : Nat) (hn : r 0 3 = nI n) (hn24 : n ≤ 24) (ns : Nat) (hns : r 0 2 = nI ns) (hns4 : ns ≤ 4) (js : Nat) (hjs : js < ns) (hc : ∃ k, k < 65536 ∧ r 0 1 = nI k) (kk : Nat) (hk1 : 1 ≤ kk) (hk2 : kk ≤ 24) (hu : kk ≤ m_und r n (nI js)) (sz : Nat) : MetM l dg cA yX6_draw cX6_draw 5 (some .int) ({ frames := 2, cells := 0, slots := 0, locals := 47 } : Room) 0 0 (mw cA ad r) sz [.ref (ad 0), .int (nI js), .int (nI kk)] (mw cA ad (m_dk (up r 0 0 0) n (nI js) kk)) (some (.int (m_last (up r 0 0 0) n (nI js) kk))) := by
  refine ofM (by decide) (Nat.le_of_ble_eq_true rfl) (own := RX6) rfl (fun p e s0 m args below meth c ls A hAe S hr hlk hname hargs hK hP hD hS hA hsz hl => ?_)
  have hx := S.1
  have hb := S.2.1
  have hl : lv_has ls 5 [(0, .ref (ad 0)), (1, .int (nI js)), (2, .int (nI kk))] := hl
  have hu3 : kk ≤ m_und (up r 0 0 0) n (nI js) := hu
  have hc3 : ∃ k, k < 65536 ∧ (up r 0 0 0) 0 1 = nI k := hc
  have hu4 : ¬ ct (isU (r 1) (r 4) (nI js)) n < kk := Nat.not_lt.mpr hu
  have hu5 := ct_le (isU (r 1) (r 4) (nI js)) n
  refine lv_iload_n hx hb dX6_draw_0 rfl (lv_at hl 1 rfl) ?_
  refine lv_iconst (v := 0) hx hb dX6_draw_1 (by decide) ?_
  refine lv_aload_n hx hb dX6_draw_2 rfl (lv_at hl 0 rfl) ?_
  refine gf S hK hP 0 ml_0 fX6_108 (v := .int (nI ns)) (mv_2 hns) dX6_draw_3 ?_
  refine lv_iconst (v := 1) hx hb dX6_draw_6 (by decide) ?_
  refine lv_isub hx hb dX6_draw_7 ?_
  refine cRS S (rr_in1 l dg cA (mw cA ad r) (nI js) 0 ((nI ns) - 1) (nI_pos (by omega)) (idx_hi hjs (by omega))) kX6_96 ⟨rfl, rfl, Nat.le_of_ble_eq_true rfl, Nat.le_of_ble_eq_true rfl⟩ hK hP (As := [.int (nI js), .int 0, .int ((nI ns) - 1)]) rfl hl.1 (rest := []) rfl (Nat.le_of_ble_eq_true rfl) dX6_draw_8 ⟨Nat.le_of_ble_eq_true rfl, Nat.le_of_ble_eq_true rfl⟩ (st1 := [.int 1]) rfl ?_
  refine lv_if_ne (tgt := 20) hx hb dX6_draw_11 (by decide) (fun b11 => ?_) (fun b11 => ?_)
  · skip
    refine lv_iload_n hx hb dX6_draw_20 rfl (lv_at hl 2 rfl) ?_
    refine lv_iconst (v := 1) hx hb dX6_draw_21 (by decide) ?_
    refine lv_bipush (v := 24) hx hb dX6_draw_22 (by decide) ?_
    refine cRS S (rr_in1 l dg cA (mw cA ad r) (nI kk) 1 24 (nI_nlt (a := kk) (b := 1) hk1 (by omega)) (nI_nlt (a := 24) (b := kk) hk2 (by omega))) kX6_96 ⟨rfl, rfl, Nat.le_of_ble_eq_true rfl, Nat.le_of_ble_eq_true rfl⟩ hK hP (As := [.int (nI kk), .int 1, .int 24]) rfl hl.1 (rest := []) rfl (Nat.le_of_ble_eq_true rfl) dX6_draw_24 ⟨Nat.le_of_ble_eq_true rfl, Nat.le_of_ble_eq_true rfl⟩ (st1 := [.int 1]) rfl ?_
    refine lv_if_ne (tgt := 36) hx hb dX6_draw_27 (by decide) (fun b27 => ?_) (fun b27 => ?_)
    · skip
      refine lv_aload_n hx hb dX6_draw_36 rfl (lv_at hl 0 rfl) ?_
      refine lv_iload_n hx hb dX6_draw_37 rfl (lv_at hl 1 rfl) ?_
      refine cR S (rr_undrawn l dg cA ad r n hn hn24 (nI js)) kX6_112 ⟨rfl, rfl, Nat.le_of_ble_eq_true rfl, Nat.le_of_ble_eq_true rfl⟩ hK hP 0 ml_0 (q := (RX6, TX6, 31)) rfl rfl (As := [.int (nI js)]) rfl hl.1 (rest := []) rfl (Nat.le_of_ble_eq_true rfl) dX6_draw_38 ⟨Nat.le_of_ble_eq_true rfl, Nat.le_of_ble_eq_true rfl⟩ (st1 := [.int (nI (ct (isU (r 1) (r 4) (nI js)) n))]) rfl ?_
      refine lv_iload_n hx hb dX6_draw_41 rfl (lv_at hl 2 rfl) ?_
      refine lv_icmp_ge (tgt := 51) hx hb dX6_draw_42 (by decide) (fun b42 => ?_) (fun b42 => ?_)
      · skip
        have g42 : kk ≤ ct (isU (r 1) (r 4) (nI js)) n := (nI_leI (a := kk) (b := ct (isU (r 1) (r 4) (nI js)) n) (by omega) (by omega)).mp b42
        refine lv_aload_n hx hb dX6_draw_51 rfl (lv_at hl 0 rfl) ?_
        refine lv_iconst (v := 0) hx hb dX6_draw_52 (by decide) ?_
        refine pf S hK hP hD hS 0 ml_0 fX6_90 fpX6 rfl (v := .int 0) rfl rfl (Nat.le_of_ble_eq_true rfl) ms_0_0 dX6_draw_53 (fun H locs hP hD hS => ?_)
        refine lv_iconst (v := (-1)) hx hb dX6_draw_56 (by decide) ?_
        refine lv_istore_n (lv' := [(3, .int (-1)), (0, .ref (ad 0)), (1, .int (nI js)), (2, .int (nI kk))]) hx hb dX6_draw_57 rfl hl (by decide) rfl (fun ls hl => ?_)
        refine lv_iconst (v := 0) hx hb dX6_draw_58 (by decide) ?_
        refine lv_istore (lv' := [(4, .int 0), (3, .int (-1)), (0, .ref (ad 0)), (1, .int (nI js)), (2, .int (nI kk))]) hx hb dX6_draw_59 hl (by decide) rfl (fun ls hl => ?_)
        have hL61 : ∀ (f : Nat) (i : Nat), kk - i < f → (i ≤ kk) → ∀ ls, lv_has ls 5 [(0, .ref (ad 0)), (1, .int (nI js)), (2, .int (nI kk)), (3, .int (m_last (up r 0 0 0) n (nI js) i)), (4, .int (nI i))] → ∀ (H : Heap) (locs : List Loc), PP dg (mw cA ad (m_dk (up r 0 0 0) n (nI js) i)) H → va_D A (mw cA ad (m_dk (up r 0 0 0) n (nI js) i)) → va_S A s0.heap H locs → W p l e ({ frames := 2, cells := 0, slots := 0, locals := 47 } : Room) s0 m args below meth c H locs 0 0 (MQ below (QcM dg (mw cA ad (m_dk (up r 0 0 0) n (nI js) kk)) (some (.int (m_last (up r 0 0 0) n (nI js) kk))) A) args s0 0 0 A) (F0 m 61 ls []) := by
          intro f
          induction f with
          | zero => intro i hm; exact absurd hm (Nat.not_lt_zero _)
          | succ f ih61 =>
            intro i hm61 hi ls hl H locs hP hD hS
            refine lv_iload hx hb dX6_draw_61 (lv_at hl 4 rfl) ?_
            refine lv_iload_n hx hb dX6_draw_63 rfl (lv_at hl 2 rfl) ?_
            refine lv_icmp_ge (tgt := 80) hx hb dX6_draw_64 (by decide) (fun b64 => ?_) (fun b64 => ?_)
            · skip
              have g64 : kk ≤ i := (nI_leI (a := kk) (b := i) (by omega) (by omega)).mp b64
              refine lv_iload_n hx hb dX6_draw_80 rfl (lv_at hl 3 rfl) ?_
              exact eMi S hr hlk hP hD hS dX6_draw_81 (by rw [show i = kk by omega]) (by rw [show i = kk by omega])
            · skip
              have g64 : ¬ kk ≤ i := fun zz => b64 ((nI_leI (a := kk) (b := i) (by omega) (by omega)).mpr zz)
              have hd := m_und_dk (s := nI js) hc3 hn24 i (by omega)
              have hhn : m_dk (up r 0 0 0) n (nI js) i 0 3 = nI n := by rw [m_dk_sc _ _ (by decide)]; exact hn
              refine lv_aload_n hx hb dX6_draw_67 rfl (lv_at hl 0 rfl) ?_
              refine lv_iload_n hx hb dX6_draw_68 rfl (lv_at hl 1 rfl) ?_
              refine lv_iconst (v := 0) hx hb dX6_draw_69 (by decide) ?_
              refine cM S (rr_draws l dg cA ad (m_dk (up r 0 0 0) n (nI js) i) n hhn hn24 (nI js) 0 rfl (m_dk_chance hc3 i) (by omega) _) kX6_118 ⟨rfl, rfl, Nat.le_of_ble_eq_true rfl, Nat.le_of_ble_eq_true rfl⟩ hK hP hD hS hA 0 ml_0 (q := (RX6, TX6, 31)) rfl rfl (As := [.int (nI js), .int 0]) rfl hl.1 (rest := []) rfl (Nat.le_of_ble_eq_true rfl) dX6_draw_70 ⟨Nat.le_of_ble_eq_true rfl, Nat.le_of_ble_eq_true rfl⟩ (st1 := [.int (nI (m_h (m_dk (up r 0 0 0) n (nI js) i) n (nI js)))]) rfl (fun H locs hP hD hS => ?_)
              refine lv_istore_n (lv' := [(3, .int (nI (m_h (m_dk (up r 0 0 0) n (nI js) i) n (nI js)))), (0, .ref (ad 0)), (1, .int (nI js)), (2, .int (nI kk)), (4, .int (nI i))]) hx hb dX6_draw_73 rfl hl (by decide) rfl (fun ls hl => ?_)
              refine lv_iinc (v := nI (i + 1)) (lv' := [(4, .int (nI (i + 1))), (3, .int (nI (m_h (m_dk (up r 0 0 0) n (nI js) i) n (nI js)))), (0, .ref (ad 0)), (1, .int (nI js)), (2, .int (nI kk))]) hx hb dX6_draw_74 hl (k := 4) rfl (nI_1 i) (by decide) rfl (fun ls hl => ?_)
              refine lv_goto (tgt := 61) hx hb dX6_draw_77 (by decide) ?_
              have es : (mw cA ad (m_d1 (m_dk (up r 0 0 0) n (nI js) i) n (nI js) 0)) = (mw cA ad (m_dk (up r 0 0 0) n (nI js) (i + 1))) := rfl
              rw [es] at hP hD
              exact ih61 (i + 1) (by omega) (by omega) ls (lv_cast (lv_sub (l' := [(0, .ref (ad 0)), (1, .int (nI js)), (2, .int (nI kk)), (3, .int (nI (m_h (m_dk (up r 0 0 0) n (nI js) i) n (nI js)))), (4, .int (nI (i + 1)))]) hl [2, 3, 4, 1, 0] rfl) (by rfl)) _ _ hP hD hS
        have es : (mw cA ad (up r 0 0 0)) = (mw cA ad (m_dk (up r 0 0 0) n (nI js) 0)) := rfl
        rw [es] at hP hD
        exact hL61 _ 0 (Nat.lt_succ_self _) (Nat.zero_le _) ls (lv_cast (lv_sub (l' := [(0, .ref (ad 0)), (1, .int (nI js)), (2, .int (nI kk)), (3, .int (-1)), (4, .int 0)]) hl [2, 3, 4, 1, 0] rfl) (by rfl)) _ _ hP hD hS
      · skip
        have g42 : ¬ kk ≤ ct (isU (r 1) (r 4) (nI js)) n := fun zz => b42 ((nI_leI (a := kk) (b := ct (isU (r 1) (r 4) (nI js)) n) (by omega) (by omega)).mpr zz)
        exact absurd (Nat.lt_of_not_le g42) hu4
    · skip
      exact absurd b27 b11
  · skip
    exact False.elim (by revert b11; decide)

set_option maxHeartbeats 4000000 in
set_option maxRecDepth 100000 in
theorem rr_roundSize1 (l : Launch) (dg : va_G) (cA : Nat → ClassId) (ad : Nat → Nat) (r : St) (ni : Nat) (hni : r 0 4 = nI ni) (hni4 : ni ≤ 4) (i : Nat) (hi : i < ni) (sz : Nat) : MetM l dg cA yX6_roundSize cX6_roundSize 2 (some .int) ({ frames := 2, cells := 0, slots := 0, locals := 43 } : Room) 0 0 (mw cA ad r) sz [.ref (ad 0), .int (nI i)] (mw cA ad (up r 0 0 0)) (some (.int (r 20 i))) := by
  refine ofM (by decide) (Nat.le_of_ble_eq_true rfl) (own := RX6) rfl (fun p e s0 m args below meth c ls A hAe S hr hlk hname hargs hK hP hD hS hA hsz hl => ?_)
  have hx := S.1
  have hb := S.2.1
  have hl : lv_has ls 2 [(0, .ref (ad 0)), (1, .int (nI i))] := hl
  refine lv_aload_n hx hb dX6_roundSize_0 rfl (lv_at hl 0 rfl) ?_
  refine lv_iload_n hx hb dX6_roundSize_1 rfl (lv_at hl 1 rfl) ?_
  refine cM S (rr_isInt1 l dg cA ad r ni hni hni4 i hi _) kX6_129 ⟨rfl, rfl, Nat.le_of_ble_eq_true rfl, Nat.le_of_ble_eq_true rfl⟩ hK hP hD hS hA 0 ml_0 (q := (RX6, TX6, 31)) rfl rfl (As := [.int (nI i)]) rfl hl.1 (rest := []) rfl (Nat.le_of_ble_eq_true rfl) dX6_roundSize_2 ⟨Nat.le_of_ble_eq_true rfl, Nat.le_of_ble_eq_true rfl⟩ (st1 := [.int 1]) rfl (fun H locs hP hD hS => ?_)
  refine lv_if_eq (tgt := 17) hx hb dX6_roundSize_5 (by decide) (fun b5 => ?_) (fun b5 => ?_)
  · skip
    exact False.elim (by revert b5; decide)
  · skip
    refine lv_aload_n hx hb dX6_roundSize_8 rfl (lv_at hl 0 rfl) ?_
    refine gf S hK hP 0 ml_0 fX6_72 (v := .ref (ad 20)) mr_20 dX6_roundSize_9 ?_
    refine lv_iload_n hx hb dX6_roundSize_12 rfl (lv_at hl 1 rfl) ?_
    refine ild S hK hP 20 ml_20 (j := i) (by omega) (Nat.le_of_ble_eq_true rfl) dX6_roundSize_13 ?_
    refine lv_as (y := r 20 i) rfl ?_
    refine lv_goto (tgt := 18) hx hb dX6_roundSize_14 (by decide) ?_
    exact eMi S hr hlk hP hD hS dX6_roundSize_18 rfl rfl

set_option maxHeartbeats 4000000 in
set_option maxRecDepth 100000 in
theorem rr_roundSize0 (l : Launch) (dg : va_G) (cA : Nat → ClassId) (ad : Nat → Nat) (r : St) (ni : Nat) (hni : r 0 4 = nI ni) (hni4 : ni ≤ 4) (v : Int32) (hv : v < 0 ∨ nI ni ≤ v) (sz : Nat) : MetM l dg cA yX6_roundSize cX6_roundSize 2 (some .int) ({ frames := 2, cells := 0, slots := 0, locals := 43 } : Room) 0 0 (mw cA ad r) sz [.ref (ad 0), .int v] (mw cA ad (up r 0 0 1)) (some (.int 0)) := by
  refine ofM (by decide) (Nat.le_of_ble_eq_true rfl) (own := RX6) rfl (fun p e s0 m args below meth c ls A hAe S hr hlk hname hargs hK hP hD hS hA hsz hl => ?_)
  have hx := S.1
  have hb := S.2.1
  have hl : lv_has ls 2 [(0, .ref (ad 0)), (1, .int v)] := hl
  refine lv_aload_n hx hb dX6_roundSize_0 rfl (lv_at hl 0 rfl) ?_
  refine lv_iload_n hx hb dX6_roundSize_1 rfl (lv_at hl 1 rfl) ?_
  refine cM S (rr_isInt0 l dg cA ad r ni hni hni4 v hv _) kX6_129 ⟨rfl, rfl, Nat.le_of_ble_eq_true rfl, Nat.le_of_ble_eq_true rfl⟩ hK hP hD hS hA 0 ml_0 (q := (RX6, TX6, 31)) rfl rfl (As := [.int v]) rfl hl.1 (rest := []) rfl (Nat.le_of_ble_eq_true rfl) dX6_roundSize_2 ⟨Nat.le_of_ble_eq_true rfl, Nat.le_of_ble_eq_true rfl⟩ (st1 := [.int 0]) rfl (fun H locs hP hD hS => ?_)
  refine lv_if_eq (tgt := 17) hx hb dX6_roundSize_5 (by decide) (fun b5 => ?_) (fun b5 => ?_)
  · skip
    refine lv_iconst (v := 0) hx hb dX6_roundSize_17 (by decide) ?_
    exact eMi S hr hlk hP hD hS dX6_roundSize_18 rfl rfl
  · skip
    exact False.elim (by revert b5; decide)

set_option maxHeartbeats 4000000 in
set_option maxRecDepth 100000 in
theorem rr_roundMinutes1 (l : Launch) (dg : va_G) (cA : Nat → ClassId) (ad : Nat → Nat) (r : St) (ni : Nat) (hni : r 0 4 = nI ni) (hni4 : ni ≤ 4) (i : Nat) (hi : i < ni) (sz : Nat) : MetM l dg cA yX6_roundMinutes cX6_roundMinutes 2 (some .int) ({ frames := 2, cells := 0, slots := 0, locals := 43 } : Room) 0 0 (mw cA ad r) sz [.ref (ad 0), .int (nI i)] (mw cA ad (up r 0 0 0)) (some (.int (r 21 i))) := by
  refine ofM (by decide) (Nat.le_of_ble_eq_true rfl) (own := RX6) rfl (fun p e s0 m args below meth c ls A hAe S hr hlk hname hargs hK hP hD hS hA hsz hl => ?_)
  have hx := S.1
  have hb := S.2.1
  have hl : lv_has ls 2 [(0, .ref (ad 0)), (1, .int (nI i))] := hl
  refine lv_aload_n hx hb dX6_roundMinutes_0 rfl (lv_at hl 0 rfl) ?_
  refine lv_iload_n hx hb dX6_roundMinutes_1 rfl (lv_at hl 1 rfl) ?_
  refine cM S (rr_isInt1 l dg cA ad r ni hni hni4 i hi _) kX6_129 ⟨rfl, rfl, Nat.le_of_ble_eq_true rfl, Nat.le_of_ble_eq_true rfl⟩ hK hP hD hS hA 0 ml_0 (q := (RX6, TX6, 31)) rfl rfl (As := [.int (nI i)]) rfl hl.1 (rest := []) rfl (Nat.le_of_ble_eq_true rfl) dX6_roundMinutes_2 ⟨Nat.le_of_ble_eq_true rfl, Nat.le_of_ble_eq_true rfl⟩ (st1 := [.int 1]) rfl (fun H locs hP hD hS => ?_)
  refine lv_if_eq (tgt := 17) hx hb dX6_roundMinutes_5 (by decide) (fun b5 => ?_) (fun b5 => ?_)
  · skip
    exact False.elim (by revert b5; decide)
  · skip
    refine lv_aload_n hx hb dX6_roundMinutes_8 rfl (lv_at hl 0 rfl) ?_
    refine gf S hK hP 0 ml_0 fX6_75 (v := .ref (ad 21)) mr_21 dX6_roundMinutes_9 ?_
    refine lv_iload_n hx hb dX6_roundMinutes_12 rfl (lv_at hl 1 rfl) ?_
    refine ild S hK hP 21 ml_21 (j := i) (by omega) (Nat.le_of_ble_eq_true rfl) dX6_roundMinutes_13 ?_
    refine lv_as (y := r 21 i) rfl ?_
    refine lv_goto (tgt := 18) hx hb dX6_roundMinutes_14 (by decide) ?_
    exact eMi S hr hlk hP hD hS dX6_roundMinutes_18 rfl rfl

set_option maxHeartbeats 4000000 in
set_option maxRecDepth 100000 in
theorem rr_roundMinutes0 (l : Launch) (dg : va_G) (cA : Nat → ClassId) (ad : Nat → Nat) (r : St) (ni : Nat) (hni : r 0 4 = nI ni) (hni4 : ni ≤ 4) (v : Int32) (hv : v < 0 ∨ nI ni ≤ v) (sz : Nat) : MetM l dg cA yX6_roundMinutes cX6_roundMinutes 2 (some .int) ({ frames := 2, cells := 0, slots := 0, locals := 43 } : Room) 0 0 (mw cA ad r) sz [.ref (ad 0), .int v] (mw cA ad (up r 0 0 1)) (some (.int 0)) := by
  refine ofM (by decide) (Nat.le_of_ble_eq_true rfl) (own := RX6) rfl (fun p e s0 m args below meth c ls A hAe S hr hlk hname hargs hK hP hD hS hA hsz hl => ?_)
  have hx := S.1
  have hb := S.2.1
  have hl : lv_has ls 2 [(0, .ref (ad 0)), (1, .int v)] := hl
  refine lv_aload_n hx hb dX6_roundMinutes_0 rfl (lv_at hl 0 rfl) ?_
  refine lv_iload_n hx hb dX6_roundMinutes_1 rfl (lv_at hl 1 rfl) ?_
  refine cM S (rr_isInt0 l dg cA ad r ni hni hni4 v hv _) kX6_129 ⟨rfl, rfl, Nat.le_of_ble_eq_true rfl, Nat.le_of_ble_eq_true rfl⟩ hK hP hD hS hA 0 ml_0 (q := (RX6, TX6, 31)) rfl rfl (As := [.int v]) rfl hl.1 (rest := []) rfl (Nat.le_of_ble_eq_true rfl) dX6_roundMinutes_2 ⟨Nat.le_of_ble_eq_true rfl, Nat.le_of_ble_eq_true rfl⟩ (st1 := [.int 0]) rfl (fun H locs hP hD hS => ?_)
  refine lv_if_eq (tgt := 17) hx hb dX6_roundMinutes_5 (by decide) (fun b5 => ?_) (fun b5 => ?_)
  · skip
    refine lv_iconst (v := 0) hx hb dX6_roundMinutes_17 (by decide) ?_
    exact eMi S hr hlk hP hD hS dX6_roundMinutes_18 rfl rfl
  · skip
    exact False.elim (by revert b5; decide)

set_option maxHeartbeats 4000000 in
set_option maxRecDepth 100000 in
theorem rr_faults1 (l : Launch) (dg : va_G) (cA : Nat → ClassId) (ad : Nat → Nat) (r : St) (ni : Nat) (hni : r 0 4 = nI ni) (hni4 : ni ≤ 4) (i : Nat) (hi : i < ni) (sz : Nat) : MetM l dg cA yX6_faults cX6_faults 2 (some .int) ({ frames := 2, cells := 0, slots := 0, locals := 43 } : Room) 0 0 (mw cA ad r) sz [.ref (ad 0), .int (nI i)] (mw cA ad (up r 0 0 0)) (some (.int (r 25 i))) := by
  refine ofM (by decide) (Nat.le_of_ble_eq_true rfl) (own := RX6) rfl (fun p e s0 m args below meth c ls A hAe S hr hlk hname hargs hK hP hD hS hA hsz hl => ?_)
  have hx := S.1
  have hb := S.2.1
  have hl : lv_has ls 2 [(0, .ref (ad 0)), (1, .int (nI i))] := hl
  refine lv_aload_n hx hb dX6_faults_0 rfl (lv_at hl 0 rfl) ?_
  refine lv_iload_n hx hb dX6_faults_1 rfl (lv_at hl 1 rfl) ?_
  refine cM S (rr_isInt1 l dg cA ad r ni hni hni4 i hi _) kX6_129 ⟨rfl, rfl, Nat.le_of_ble_eq_true rfl, Nat.le_of_ble_eq_true rfl⟩ hK hP hD hS hA 0 ml_0 (q := (RX6, TX6, 31)) rfl rfl (As := [.int (nI i)]) rfl hl.1 (rest := []) rfl (Nat.le_of_ble_eq_true rfl) dX6_faults_2 ⟨Nat.le_of_ble_eq_true rfl, Nat.le_of_ble_eq_true rfl⟩ (st1 := [.int 1]) rfl (fun H locs hP hD hS => ?_)
  refine lv_if_eq (tgt := 17) hx hb dX6_faults_5 (by decide) (fun b5 => ?_) (fun b5 => ?_)
  · skip
    exact False.elim (by revert b5; decide)
  · skip
    refine lv_aload_n hx hb dX6_faults_8 rfl (lv_at hl 0 rfl) ?_
    refine gf S hK hP 0 ml_0 fX6_87 (v := .ref (ad 25)) mr_25 dX6_faults_9 ?_
    refine lv_iload_n hx hb dX6_faults_12 rfl (lv_at hl 1 rfl) ?_
    refine ild S hK hP 25 ml_25 (j := i) (by omega) (Nat.le_of_ble_eq_true rfl) dX6_faults_13 ?_
    refine lv_as (y := r 25 i) rfl ?_
    refine lv_goto (tgt := 18) hx hb dX6_faults_14 (by decide) ?_
    exact eMi S hr hlk hP hD hS dX6_faults_18 rfl rfl

set_option maxHeartbeats 4000000 in
set_option maxRecDepth 100000 in
theorem rr_faults0 (l : Launch) (dg : va_G) (cA : Nat → ClassId) (ad : Nat → Nat) (r : St) (ni : Nat) (hni : r 0 4 = nI ni) (hni4 : ni ≤ 4) (v : Int32) (hv : v < 0 ∨ nI ni ≤ v) (sz : Nat) : MetM l dg cA yX6_faults cX6_faults 2 (some .int) ({ frames := 2, cells := 0, slots := 0, locals := 43 } : Room) 0 0 (mw cA ad r) sz [.ref (ad 0), .int v] (mw cA ad (up r 0 0 1)) (some (.int 0)) := by
  refine ofM (by decide) (Nat.le_of_ble_eq_true rfl) (own := RX6) rfl (fun p e s0 m args below meth c ls A hAe S hr hlk hname hargs hK hP hD hS hA hsz hl => ?_)
  have hx := S.1
  have hb := S.2.1
  have hl : lv_has ls 2 [(0, .ref (ad 0)), (1, .int v)] := hl
  refine lv_aload_n hx hb dX6_faults_0 rfl (lv_at hl 0 rfl) ?_
  refine lv_iload_n hx hb dX6_faults_1 rfl (lv_at hl 1 rfl) ?_
  refine cM S (rr_isInt0 l dg cA ad r ni hni hni4 v hv _) kX6_129 ⟨rfl, rfl, Nat.le_of_ble_eq_true rfl, Nat.le_of_ble_eq_true rfl⟩ hK hP hD hS hA 0 ml_0 (q := (RX6, TX6, 31)) rfl rfl (As := [.int v]) rfl hl.1 (rest := []) rfl (Nat.le_of_ble_eq_true rfl) dX6_faults_2 ⟨Nat.le_of_ble_eq_true rfl, Nat.le_of_ble_eq_true rfl⟩ (st1 := [.int 0]) rfl (fun H locs hP hD hS => ?_)
  refine lv_if_eq (tgt := 17) hx hb dX6_faults_5 (by decide) (fun b5 => ?_) (fun b5 => ?_)
  · skip
    refine lv_iconst (v := 0) hx hb dX6_faults_17 (by decide) ?_
    exact eMi S hr hlk hP hD hS dX6_faults_18 rfl rfl
  · skip
    exact False.elim (by revert b5; decide)

set_option maxHeartbeats 4000000 in
set_option maxRecDepth 100000 in
theorem rr_stateOf1 (l : Launch) (dg : va_G) (cA : Nat → ClassId) (ad : Nat → Nat) (r : St) (n : Nat) (hn : r 0 3 = nI n) (hn24 : n ≤ 24) (j : Nat) (hj : j < n) (hch : ((r 4 j).toUInt32 % 65536).toInt32 = r 4 j) (hnc : narrow .char (.int (r 4 j)) = .int (r 4 j)) (sz : Nat) : MetM l dg cA yX6_stateOf cX6_stateOf 2 (some .char) ({ frames := 2, cells := 0, slots := 0, locals := 43 } : Room) 0 0 (mw cA ad r) sz [.ref (ad 0), .int (nI j)] (mw cA ad (up r 0 0 0)) (some (.int (r 4 j))) := by
  refine ofM (by decide) (Nat.le_of_ble_eq_true rfl) (own := RX6) rfl (fun p e s0 m args below meth c ls A hAe S hr hlk hname hargs hK hP hD hS hA hsz hl => ?_)
  have hx := S.1
  have hb := S.2.1
  have hl : lv_has ls 2 [(0, .ref (ad 0)), (1, .int (nI j))] := hl
  refine lv_aload_n hx hb dX6_stateOf_0 rfl (lv_at hl 0 rfl) ?_
  refine lv_iload_n hx hb dX6_stateOf_1 rfl (lv_at hl 1 rfl) ?_
  refine cM S (rr_isHouse1 l dg cA ad r n hn hn24 j hj _) kX6_133 ⟨rfl, rfl, Nat.le_of_ble_eq_true rfl, Nat.le_of_ble_eq_true rfl⟩ hK hP hD hS hA 0 ml_0 (q := (RX6, TX6, 31)) rfl rfl (As := [.int (nI j)]) rfl hl.1 (rest := []) rfl (Nat.le_of_ble_eq_true rfl) dX6_stateOf_2 ⟨Nat.le_of_ble_eq_true rfl, Nat.le_of_ble_eq_true rfl⟩ (st1 := [.int 1]) rfl (fun H locs hP hD hS => ?_)
  refine lv_if_eq (tgt := 17) hx hb dX6_stateOf_5 (by decide) (fun b5 => ?_) (fun b5 => ?_)
  · skip
    exact False.elim (by revert b5; decide)
  · skip
    refine lv_aload_n hx hb dX6_stateOf_8 rfl (lv_at hl 0 rfl) ?_
    refine gf S hK hP 0 ml_0 fX6_23 (v := .ref (ad 4)) mr_4 dX6_stateOf_9 ?_
    refine lv_iload_n hx hb dX6_stateOf_12 rfl (lv_at hl 1 rfl) ?_
    refine ild S hK hP 4 ml_4 (j := j) (by omega) (Nat.le_of_ble_eq_true rfl) dX6_stateOf_13 ?_
    refine lv_as (y := r 4 j) rfl ?_
    refine lv_goto (tgt := 18) hx hb dX6_stateOf_14 (by decide) ?_
    refine lv_i2c (v := ((r 4 j : Int32).toUInt32 % 65536).toInt32) hx hb dX6_stateOf_18 rfl ?_
    exact eMz S hr hlk hP hD hS dX6_stateOf_19 hch rfl hnc

set_option maxHeartbeats 4000000 in
set_option maxRecDepth 100000 in
theorem rr_stateOf0 (l : Launch) (dg : va_G) (cA : Nat → ClassId) (ad : Nat → Nat) (r : St) (n : Nat) (hn : r 0 3 = nI n) (hn24 : n ≤ 24) (v : Int32) (hv : v < 0 ∨ nI n ≤ v) (sz : Nat) : MetM l dg cA yX6_stateOf cX6_stateOf 2 (some .char) ({ frames := 2, cells := 0, slots := 0, locals := 43 } : Room) 0 0 (mw cA ad r) sz [.ref (ad 0), .int v] (mw cA ad (up r 0 0 1)) (some (.int 0)) := by
  refine ofM (by decide) (Nat.le_of_ble_eq_true rfl) (own := RX6) rfl (fun p e s0 m args below meth c ls A hAe S hr hlk hname hargs hK hP hD hS hA hsz hl => ?_)
  have hx := S.1
  have hb := S.2.1
  have hl : lv_has ls 2 [(0, .ref (ad 0)), (1, .int v)] := hl
  refine lv_aload_n hx hb dX6_stateOf_0 rfl (lv_at hl 0 rfl) ?_
  refine lv_iload_n hx hb dX6_stateOf_1 rfl (lv_at hl 1 rfl) ?_
  refine cM S (rr_isHouse0 l dg cA ad r n hn hn24 v hv _) kX6_133 ⟨rfl, rfl, Nat.le_of_ble_eq_true rfl, Nat.le_of_ble_eq_true rfl⟩ hK hP hD hS hA 0 ml_0 (q := (RX6, TX6, 31)) rfl rfl (As := [.int v]) rfl hl.1 (rest := []) rfl (Nat.le_of_ble_eq_true rfl) dX6_stateOf_2 ⟨Nat.le_of_ble_eq_true rfl, Nat.le_of_ble_eq_true rfl⟩ (st1 := [.int 0]) rfl (fun H locs hP hD hS => ?_)
  refine lv_if_eq (tgt := 17) hx hb dX6_stateOf_5 (by decide) (fun b5 => ?_) (fun b5 => ?_)
  · skip
    refine lv_iconst (v := 0) hx hb dX6_stateOf_17 (by decide) ?_
    refine lv_i2c (v := ((0 : Int32).toUInt32 % 65536).toInt32) hx hb dX6_stateOf_18 rfl ?_
    exact eMz S hr hlk hP hD hS dX6_stateOf_19 (by decide) rfl rfl
  · skip
    exact False.elim (by revert b5; decide)

set_option maxHeartbeats 4000000 in
set_option maxRecDepth 100000 in
theorem rr_wantedFrom1 (l : Launch) (dg : va_G) (cA : Nat → ClassId) (ad : Nat → Nat) (r : St) (n : Nat) (hn : r 0 3 = nI n) (hn24 : n ≤ 24) (j : Nat) (hj : j < n) (hs : r 4 j = 119) (sz : Nat) : MetM l dg cA yX6_wantedFrom cX6_wantedFrom 2 (some .int) ({ frames := 2, cells := 0, slots := 0, locals := 43 } : Room) 0 0 (mw cA ad r) sz [.ref (ad 0), .int (nI j)] (mw cA ad (up r 0 0 0)) (some (.int (r 5 j))) := by
  refine ofM (by decide) (Nat.le_of_ble_eq_true rfl) (own := RX6) rfl (fun p e s0 m args below meth c ls A hAe S hr hlk hname hargs hK hP hD hS hA hsz hl => ?_)
  have hx := S.1
  have hb := S.2.1
  have hl : lv_has ls 2 [(0, .ref (ad 0)), (1, .int (nI j))] := hl
  refine lv_aload_n hx hb dX6_wantedFrom_0 rfl (lv_at hl 0 rfl) ?_
  refine lv_iload_n hx hb dX6_wantedFrom_1 rfl (lv_at hl 1 rfl) ?_
  refine cM S (rr_isHouse1 l dg cA ad r n hn hn24 j hj _) kX6_133 ⟨rfl, rfl, Nat.le_of_ble_eq_true rfl, Nat.le_of_ble_eq_true rfl⟩ hK hP hD hS hA 0 ml_0 (q := (RX6, TX6, 31)) rfl rfl (As := [.int (nI j)]) rfl hl.1 (rest := []) rfl (Nat.le_of_ble_eq_true rfl) dX6_wantedFrom_2 ⟨Nat.le_of_ble_eq_true rfl, Nat.le_of_ble_eq_true rfl⟩ (st1 := [.int 1]) rfl (fun H locs hP hD hS => ?_)
  refine lv_if_ne (tgt := 10) hx hb dX6_wantedFrom_5 (by decide) (fun b5 => ?_) (fun b5 => ?_)
  · skip
    refine lv_aload_n hx hb dX6_wantedFrom_10 rfl (lv_at hl 0 rfl) ?_
    refine gf S hK hP 0 ml_0 fX6_23 (v := .ref (ad 4)) mr_4 dX6_wantedFrom_11 ?_
    refine lv_iload_n hx hb dX6_wantedFrom_14 rfl (lv_at hl 1 rfl) ?_
    refine ild S hK hP 4 ml_4 (j := j) (by omega) (Nat.le_of_ble_eq_true rfl) dX6_wantedFrom_15 ?_
    refine lv_as (y := 119) hs ?_
    refine lv_bipush (v := 119) hx hb dX6_wantedFrom_16 (by decide) ?_
    refine lv_icmp_ne (tgt := 30) hx hb dX6_wantedFrom_18 (by decide) (fun b18 => ?_) (fun b18 => ?_)
    · skip
      exact False.elim (by revert b18; decide)
    · skip
      refine lv_aload_n hx hb dX6_wantedFrom_21 rfl (lv_at hl 0 rfl) ?_
      refine gf S hK hP 0 ml_0 fX6_26 (v := .ref (ad 5)) mr_5 dX6_wantedFrom_22 ?_
      refine lv_iload_n hx hb dX6_wantedFrom_25 rfl (lv_at hl 1 rfl) ?_
      refine ild S hK hP 5 ml_5 (j := j) (by omega) (Nat.le_of_ble_eq_true rfl) dX6_wantedFrom_26 ?_
      refine lv_as (y := r 5 j) rfl ?_
      refine lv_goto (tgt := 35) hx hb dX6_wantedFrom_27 (by decide) ?_
      exact eMi S hr hlk hP hD hS dX6_wantedFrom_35 rfl rfl
  · skip
    exact False.elim (by revert b5; decide)

set_option maxHeartbeats 4000000 in
set_option maxRecDepth 100000 in
theorem rr_wantedFrom2 (l : Launch) (dg : va_G) (cA : Nat → ClassId) (ad : Nat → Nat) (r : St) (n : Nat) (hn : r 0 3 = nI n) (hn24 : n ≤ 24) (j : Nat) (hj : j < n) (hs : ¬ r 4 j = 119) (sz : Nat) : MetM l dg cA yX6_wantedFrom cX6_wantedFrom 2 (some .int) ({ frames := 2, cells := 0, slots := 0, locals := 43 } : Room) 0 0 (mw cA ad r) sz [.ref (ad 0), .int (nI j)] (mw cA ad (up r 0 0 2)) (some (.int 0)) := by
  refine ofM (by decide) (Nat.le_of_ble_eq_true rfl) (own := RX6) rfl (fun p e s0 m args below meth c ls A hAe S hr hlk hname hargs hK hP hD hS hA hsz hl => ?_)
  have hx := S.1
  have hb := S.2.1
  have hl : lv_has ls 2 [(0, .ref (ad 0)), (1, .int (nI j))] := hl
  refine lv_aload_n hx hb dX6_wantedFrom_0 rfl (lv_at hl 0 rfl) ?_
  refine lv_iload_n hx hb dX6_wantedFrom_1 rfl (lv_at hl 1 rfl) ?_
  refine cM S (rr_isHouse1 l dg cA ad r n hn hn24 j hj _) kX6_133 ⟨rfl, rfl, Nat.le_of_ble_eq_true rfl, Nat.le_of_ble_eq_true rfl⟩ hK hP hD hS hA 0 ml_0 (q := (RX6, TX6, 31)) rfl rfl (As := [.int (nI j)]) rfl hl.1 (rest := []) rfl (Nat.le_of_ble_eq_true rfl) dX6_wantedFrom_2 ⟨Nat.le_of_ble_eq_true rfl, Nat.le_of_ble_eq_true rfl⟩ (st1 := [.int 1]) rfl (fun H locs hP hD hS => ?_)
  refine lv_if_ne (tgt := 10) hx hb dX6_wantedFrom_5 (by decide) (fun b5 => ?_) (fun b5 => ?_)
  · skip
    refine lv_aload_n hx hb dX6_wantedFrom_10 rfl (lv_at hl 0 rfl) ?_
    refine gf S hK hP 0 ml_0 fX6_23 (v := .ref (ad 4)) mr_4 dX6_wantedFrom_11 ?_
    refine lv_iload_n hx hb dX6_wantedFrom_14 rfl (lv_at hl 1 rfl) ?_
    refine ild S hK hP 4 ml_4 (j := j) (by omega) (Nat.le_of_ble_eq_true rfl) dX6_wantedFrom_15 ?_
    refine lv_as (y := r 4 j) rfl ?_
    refine lv_bipush (v := 119) hx hb dX6_wantedFrom_16 (by decide) ?_
    refine lv_icmp_ne (tgt := 30) hx hb dX6_wantedFrom_18 (by decide) (fun b18 => ?_) (fun b18 => ?_)
    · skip
      refine lv_aload_n hx hb dX6_wantedFrom_30 rfl (lv_at hl 0 rfl) ?_
      refine lv_iconst (v := 2) hx hb dX6_wantedFrom_31 (by decide) ?_
      refine cM S (rr_fails l dg cA ad (up r 0 0 0) 2 _) kX6_104 ⟨rfl, rfl, Nat.le_of_ble_eq_true rfl, Nat.le_of_ble_eq_true rfl⟩ hK hP hD hS hA 0 ml_0 (q := (RX6, TX6, 31)) rfl rfl (As := [.int 2]) rfl hl.1 (rest := []) rfl (Nat.le_of_ble_eq_true rfl) dX6_wantedFrom_32 ⟨Nat.le_of_ble_eq_true rfl, Nat.le_of_ble_eq_true rfl⟩ (st1 := [.int 0]) rfl (fun H locs hP hD hS => ?_)
      exact eMi S hr hlk hP hD hS dX6_wantedFrom_35 rfl up_twice_mw
    · skip
      exact absurd b18 hs
  · skip
    exact False.elim (by revert b5; decide)

set_option maxHeartbeats 4000000 in
set_option maxRecDepth 100000 in
theorem rr_wantedFrom0 (l : Launch) (dg : va_G) (cA : Nat → ClassId) (ad : Nat → Nat) (r : St) (n : Nat) (hn : r 0 3 = nI n) (hn24 : n ≤ 24) (v : Int32) (hv : v < 0 ∨ nI n ≤ v) (sz : Nat) : MetM l dg cA yX6_wantedFrom cX6_wantedFrom 2 (some .int) ({ frames := 2, cells := 0, slots := 0, locals := 43 } : Room) 0 0 (mw cA ad r) sz [.ref (ad 0), .int v] (mw cA ad (up r 0 0 1)) (some (.int 0)) := by
  refine ofM (by decide) (Nat.le_of_ble_eq_true rfl) (own := RX6) rfl (fun p e s0 m args below meth c ls A hAe S hr hlk hname hargs hK hP hD hS hA hsz hl => ?_)
  have hx := S.1
  have hb := S.2.1
  have hl : lv_has ls 2 [(0, .ref (ad 0)), (1, .int v)] := hl
  refine lv_aload_n hx hb dX6_wantedFrom_0 rfl (lv_at hl 0 rfl) ?_
  refine lv_iload_n hx hb dX6_wantedFrom_1 rfl (lv_at hl 1 rfl) ?_
  refine cM S (rr_isHouse0 l dg cA ad r n hn hn24 v hv _) kX6_133 ⟨rfl, rfl, Nat.le_of_ble_eq_true rfl, Nat.le_of_ble_eq_true rfl⟩ hK hP hD hS hA 0 ml_0 (q := (RX6, TX6, 31)) rfl rfl (As := [.int v]) rfl hl.1 (rest := []) rfl (Nat.le_of_ble_eq_true rfl) dX6_wantedFrom_2 ⟨Nat.le_of_ble_eq_true rfl, Nat.le_of_ble_eq_true rfl⟩ (st1 := [.int 0]) rfl (fun H locs hP hD hS => ?_)
  refine lv_if_ne (tgt := 10) hx hb dX6_wantedFrom_5 (by decide) (fun b5 => ?_) (fun b5 => ?_)
  · skip
    exact False.elim (by revert b5; decide)
  · skip
    refine lv_iconst (v := 0) hx hb dX6_wantedFrom_8 (by decide) ?_
    exact eMi S hr hlk hP hD hS dX6_wantedFrom_9 rfl rfl

set_option maxHeartbeats 4000000 in
set_option maxRecDepth 100000 in
theorem rr_answerOf1 (l : Launch) (dg : va_G) (cA : Nat → ClassId) (ad : Nat → Nat) (r : St) (n : Nat) (hn : r 0 3 = nI n) (hn24 : n ≤ 24) (j : Nat) (hj : j < n) (hs : r 4 j = 97) (sz : Nat) : MetM l dg cA yX6_answerOf cX6_answerOf 2 (some .int) ({ frames := 2, cells := 0, slots := 0, locals := 43 } : Room) 0 0 (mw cA ad r) sz [.ref (ad 0), .int (nI j)] (mw cA ad (up r 0 0 0)) (some (.int (r 10 j))) := by
  refine ofM (by decide) (Nat.le_of_ble_eq_true rfl) (own := RX6) rfl (fun p e s0 m args below meth c ls A hAe S hr hlk hname hargs hK hP hD hS hA hsz hl => ?_)
  have hx := S.1
  have hb := S.2.1
  have hl : lv_has ls 2 [(0, .ref (ad 0)), (1, .int (nI j))] := hl
  refine lv_aload_n hx hb dX6_answerOf_0 rfl (lv_at hl 0 rfl) ?_
  refine lv_iload_n hx hb dX6_answerOf_1 rfl (lv_at hl 1 rfl) ?_
  refine cM S (rr_isHouse1 l dg cA ad r n hn hn24 j hj _) kX6_133 ⟨rfl, rfl, Nat.le_of_ble_eq_true rfl, Nat.le_of_ble_eq_true rfl⟩ hK hP hD hS hA 0 ml_0 (q := (RX6, TX6, 31)) rfl rfl (As := [.int (nI j)]) rfl hl.1 (rest := []) rfl (Nat.le_of_ble_eq_true rfl) dX6_answerOf_2 ⟨Nat.le_of_ble_eq_true rfl, Nat.le_of_ble_eq_true rfl⟩ (st1 := [.int 1]) rfl (fun H locs hP hD hS => ?_)
  refine lv_if_ne (tgt := 10) hx hb dX6_answerOf_5 (by decide) (fun b5 => ?_) (fun b5 => ?_)
  · skip
    refine lv_aload_n hx hb dX6_answerOf_10 rfl (lv_at hl 0 rfl) ?_
    refine gf S hK hP 0 ml_0 fX6_23 (v := .ref (ad 4)) mr_4 dX6_answerOf_11 ?_
    refine lv_iload_n hx hb dX6_answerOf_14 rfl (lv_at hl 1 rfl) ?_
    refine ild S hK hP 4 ml_4 (j := j) (by omega) (Nat.le_of_ble_eq_true rfl) dX6_answerOf_15 ?_
    refine lv_as (y := 97) hs ?_
    refine lv_bipush (v := 97) hx hb dX6_answerOf_16 (by decide) ?_
    refine lv_icmp_ne (tgt := 30) hx hb dX6_answerOf_18 (by decide) (fun b18 => ?_) (fun b18 => ?_)
    · skip
      exact False.elim (by revert b18; decide)
    · skip
      refine lv_aload_n hx hb dX6_answerOf_21 rfl (lv_at hl 0 rfl) ?_
      refine gf S hK hP 0 ml_0 fX6_41 (v := .ref (ad 10)) mr_10 dX6_answerOf_22 ?_
      refine lv_iload_n hx hb dX6_answerOf_25 rfl (lv_at hl 1 rfl) ?_
      refine ild S hK hP 10 ml_10 (j := j) (by omega) (Nat.le_of_ble_eq_true rfl) dX6_answerOf_26 ?_
      refine lv_as (y := r 10 j) rfl ?_
      refine lv_goto (tgt := 35) hx hb dX6_answerOf_27 (by decide) ?_
      exact eMi S hr hlk hP hD hS dX6_answerOf_35 rfl rfl
  · skip
    exact False.elim (by revert b5; decide)

set_option maxHeartbeats 4000000 in
set_option maxRecDepth 100000 in
theorem rr_answerOf2 (l : Launch) (dg : va_G) (cA : Nat → ClassId) (ad : Nat → Nat) (r : St) (n : Nat) (hn : r 0 3 = nI n) (hn24 : n ≤ 24) (j : Nat) (hj : j < n) (hs : ¬ r 4 j = 97) (sz : Nat) : MetM l dg cA yX6_answerOf cX6_answerOf 2 (some .int) ({ frames := 2, cells := 0, slots := 0, locals := 43 } : Room) 0 0 (mw cA ad r) sz [.ref (ad 0), .int (nI j)] (mw cA ad (up r 0 0 2)) (some (.int 0)) := by
  refine ofM (by decide) (Nat.le_of_ble_eq_true rfl) (own := RX6) rfl (fun p e s0 m args below meth c ls A hAe S hr hlk hname hargs hK hP hD hS hA hsz hl => ?_)
  have hx := S.1
  have hb := S.2.1
  have hl : lv_has ls 2 [(0, .ref (ad 0)), (1, .int (nI j))] := hl
  refine lv_aload_n hx hb dX6_answerOf_0 rfl (lv_at hl 0 rfl) ?_
  refine lv_iload_n hx hb dX6_answerOf_1 rfl (lv_at hl 1 rfl) ?_
  refine cM S (rr_isHouse1 l dg cA ad r n hn hn24 j hj _) kX6_133 ⟨rfl, rfl, Nat.le_of_ble_eq_true rfl, Nat.le_of_ble_eq_true rfl⟩ hK hP hD hS hA 0 ml_0 (q := (RX6, TX6, 31)) rfl rfl (As := [.int (nI j)]) rfl hl.1 (rest := []) rfl (Nat.le_of_ble_eq_true rfl) dX6_answerOf_2 ⟨Nat.le_of_ble_eq_true rfl, Nat.le_of_ble_eq_true rfl⟩ (st1 := [.int 1]) rfl (fun H locs hP hD hS => ?_)
  refine lv_if_ne (tgt := 10) hx hb dX6_answerOf_5 (by decide) (fun b5 => ?_) (fun b5 => ?_)
  · skip
    refine lv_aload_n hx hb dX6_answerOf_10 rfl (lv_at hl 0 rfl) ?_
    refine gf S hK hP 0 ml_0 fX6_23 (v := .ref (ad 4)) mr_4 dX6_answerOf_11 ?_
    refine lv_iload_n hx hb dX6_answerOf_14 rfl (lv_at hl 1 rfl) ?_
    refine ild S hK hP 4 ml_4 (j := j) (by omega) (Nat.le_of_ble_eq_true rfl) dX6_answerOf_15 ?_
    refine lv_as (y := r 4 j) rfl ?_
    refine lv_bipush (v := 97) hx hb dX6_answerOf_16 (by decide) ?_
    refine lv_icmp_ne (tgt := 30) hx hb dX6_answerOf_18 (by decide) (fun b18 => ?_) (fun b18 => ?_)
    · skip
      refine lv_aload_n hx hb dX6_answerOf_30 rfl (lv_at hl 0 rfl) ?_
      refine lv_iconst (v := 2) hx hb dX6_answerOf_31 (by decide) ?_
      refine cM S (rr_fails l dg cA ad (up r 0 0 0) 2 _) kX6_104 ⟨rfl, rfl, Nat.le_of_ble_eq_true rfl, Nat.le_of_ble_eq_true rfl⟩ hK hP hD hS hA 0 ml_0 (q := (RX6, TX6, 31)) rfl rfl (As := [.int 2]) rfl hl.1 (rest := []) rfl (Nat.le_of_ble_eq_true rfl) dX6_answerOf_32 ⟨Nat.le_of_ble_eq_true rfl, Nat.le_of_ble_eq_true rfl⟩ (st1 := [.int 0]) rfl (fun H locs hP hD hS => ?_)
      exact eMi S hr hlk hP hD hS dX6_answerOf_35 rfl up_twice_mw
    · skip
      exact absurd b18 hs
  · skip
    exact False.elim (by revert b5; decide)

set_option maxHeartbeats 4000000 in
set_option maxRecDepth 100000 in
theorem rr_answerOf0 (l : Launch) (dg : va_G) (cA : Nat → ClassId) (ad : Nat → Nat) (r : St) (n : Nat) (hn : r 0 3 = nI n) (hn24 : n ≤ 24) (v : Int32) (hv : v < 0 ∨ nI n ≤ v) (sz : Nat) : MetM l dg cA yX6_answerOf cX6_answerOf 2 (some .int) ({ frames := 2, cells := 0, slots := 0, locals := 43 } : Room) 0 0 (mw cA ad r) sz [.ref (ad 0), .int v] (mw cA ad (up r 0 0 1)) (some (.int 0)) := by
  refine ofM (by decide) (Nat.le_of_ble_eq_true rfl) (own := RX6) rfl (fun p e s0 m args below meth c ls A hAe S hr hlk hname hargs hK hP hD hS hA hsz hl => ?_)
  have hx := S.1
  have hb := S.2.1
  have hl : lv_has ls 2 [(0, .ref (ad 0)), (1, .int v)] := hl
  refine lv_aload_n hx hb dX6_answerOf_0 rfl (lv_at hl 0 rfl) ?_
  refine lv_iload_n hx hb dX6_answerOf_1 rfl (lv_at hl 1 rfl) ?_
  refine cM S (rr_isHouse0 l dg cA ad r n hn hn24 v hv _) kX6_133 ⟨rfl, rfl, Nat.le_of_ble_eq_true rfl, Nat.le_of_ble_eq_true rfl⟩ hK hP hD hS hA 0 ml_0 (q := (RX6, TX6, 31)) rfl rfl (As := [.int v]) rfl hl.1 (rest := []) rfl (Nat.le_of_ble_eq_true rfl) dX6_answerOf_2 ⟨Nat.le_of_ble_eq_true rfl, Nat.le_of_ble_eq_true rfl⟩ (st1 := [.int 0]) rfl (fun H locs hP hD hS => ?_)
  refine lv_if_ne (tgt := 10) hx hb dX6_answerOf_5 (by decide) (fun b5 => ?_) (fun b5 => ?_)
  · skip
    exact False.elim (by revert b5; decide)
  · skip
    refine lv_iconst (v := 0) hx hb dX6_answerOf_8 (by decide) ?_
    exact eMi S hr hlk hP hD hS dX6_answerOf_9 rfl rfl

set_option maxHeartbeats 4000000 in
set_option maxRecDepth 100000 in
theorem rr_codeOf_u (l : Launch) (dg : va_G) (cA : Nat → ClassId) (ad : Nat → Nat) (r : St) (n : Nat) (hn : r 0 3 = nI n) (hn24 : n ≤ 24) (j : Nat) (hj : j < n) (hs : r 4 j = 117) (sz : Nat) : MetM l dg cA yX6_codeOf cX6_codeOf 2 (some .int) ({ frames := 2, cells := 0, slots := 0, locals := 43 } : Room) 0 0 (mw cA ad r) sz [.ref (ad 0), .int (nI j)] (mw cA ad (up r 0 0 0)) (some (.int (0))) := by
  refine ofM (by decide) (Nat.le_of_ble_eq_true rfl) (own := RX6) rfl (fun p e s0 m args below meth c ls A hAe S hr hlk hname hargs hK hP hD hS hA hsz hl => ?_)
  have hx := S.1
  have hb := S.2.1
  have hl : lv_has ls 2 [(0, .ref (ad 0)), (1, .int (nI j))] := hl
  refine lv_aload_n hx hb dX6_codeOf_0 rfl (lv_at hl 0 rfl) ?_
  refine lv_iload_n hx hb dX6_codeOf_1 rfl (lv_at hl 1 rfl) ?_
  refine cM S (rr_isHouse1 l dg cA ad r n hn hn24 j hj _) kX6_133 ⟨rfl, rfl, Nat.le_of_ble_eq_true rfl, Nat.le_of_ble_eq_true rfl⟩ hK hP hD hS hA 0 ml_0 (q := (RX6, TX6, 31)) rfl rfl (As := [.int (nI j)]) rfl hl.1 (rest := []) rfl (Nat.le_of_ble_eq_true rfl) dX6_codeOf_2 ⟨Nat.le_of_ble_eq_true rfl, Nat.le_of_ble_eq_true rfl⟩ (st1 := [.int 1]) rfl (fun H locs hP hD hS => ?_)
  refine lv_if_ne (tgt := 10) hx hb dX6_codeOf_5 (by decide) (fun b5 => ?_) (fun b5 => ?_)
  · skip
    refine lv_aload_n hx hb dX6_codeOf_10 rfl (lv_at hl 0 rfl) ?_
    refine gf S hK hP 0 ml_0 fX6_23 (v := .ref (ad 4)) mr_4 dX6_codeOf_11 ?_
    refine lv_iload_n hx hb dX6_codeOf_14 rfl (lv_at hl 1 rfl) ?_
    refine ild S hK hP 4 ml_4 (j := j) (by omega) (Nat.le_of_ble_eq_true rfl) dX6_codeOf_15 ?_
    refine lv_as (y := 117) hs ?_
    refine lv_lookup (tgt := 68) (off := 52) hx hb dX6_codeOf_16 (by decide) (by decide) (by decide) ?_
    refine lv_iconst (v := 0) hx hb dX6_codeOf_68 (by decide) ?_
    exact eMi S hr hlk hP hD hS dX6_codeOf_69 rfl rfl
  · skip
    exact False.elim (by revert b5; decide)

set_option maxHeartbeats 4000000 in
set_option maxRecDepth 100000 in
theorem rr_codeOf_w (l : Launch) (dg : va_G) (cA : Nat → ClassId) (ad : Nat → Nat) (r : St) (n : Nat) (hn : r 0 3 = nI n) (hn24 : n ≤ 24) (j : Nat) (hj : j < n) (hs : r 4 j = 119) (sz : Nat) : MetM l dg cA yX6_codeOf cX6_codeOf 2 (some .int) ({ frames := 2, cells := 0, slots := 0, locals := 43 } : Room) 0 0 (mw cA ad r) sz [.ref (ad 0), .int (nI j)] (mw cA ad (up r 0 0 0)) (some (.int (300 + r 6 j))) := by
  refine ofM (by decide) (Nat.le_of_ble_eq_true rfl) (own := RX6) rfl (fun p e s0 m args below meth c ls A hAe S hr hlk hname hargs hK hP hD hS hA hsz hl => ?_)
  have hx := S.1
  have hb := S.2.1
  have hl : lv_has ls 2 [(0, .ref (ad 0)), (1, .int (nI j))] := hl
  refine lv_aload_n hx hb dX6_codeOf_0 rfl (lv_at hl 0 rfl) ?_
  refine lv_iload_n hx hb dX6_codeOf_1 rfl (lv_at hl 1 rfl) ?_
  refine cM S (rr_isHouse1 l dg cA ad r n hn hn24 j hj _) kX6_133 ⟨rfl, rfl, Nat.le_of_ble_eq_true rfl, Nat.le_of_ble_eq_true rfl⟩ hK hP hD hS hA 0 ml_0 (q := (RX6, TX6, 31)) rfl rfl (As := [.int (nI j)]) rfl hl.1 (rest := []) rfl (Nat.le_of_ble_eq_true rfl) dX6_codeOf_2 ⟨Nat.le_of_ble_eq_true rfl, Nat.le_of_ble_eq_true rfl⟩ (st1 := [.int 1]) rfl (fun H locs hP hD hS => ?_)
  refine lv_if_ne (tgt := 10) hx hb dX6_codeOf_5 (by decide) (fun b5 => ?_) (fun b5 => ?_)
  · skip
    refine lv_aload_n hx hb dX6_codeOf_10 rfl (lv_at hl 0 rfl) ?_
    refine gf S hK hP 0 ml_0 fX6_23 (v := .ref (ad 4)) mr_4 dX6_codeOf_11 ?_
    refine lv_iload_n hx hb dX6_codeOf_14 rfl (lv_at hl 1 rfl) ?_
    refine ild S hK hP 4 ml_4 (j := j) (by omega) (Nat.le_of_ble_eq_true rfl) dX6_codeOf_15 ?_
    refine lv_as (y := 119) hs ?_
    refine lv_lookup (tgt := 70) (off := 54) hx hb dX6_codeOf_16 (by decide) (by decide) (by decide) ?_
    refine lv_sipush (v := 300) hx hb dX6_codeOf_70 (by decide) ?_
    refine lv_aload_n hx hb dX6_codeOf_73 rfl (lv_at hl 0 rfl) ?_
    refine gf S hK hP 0 ml_0 fX6_29 (v := .ref (ad 6)) mr_6 dX6_codeOf_74 ?_
    refine lv_iload_n hx hb dX6_codeOf_77 rfl (lv_at hl 1 rfl) ?_
    refine ild S hK hP 6 ml_6 (j := j) (by omega) (Nat.le_of_ble_eq_true rfl) dX6_codeOf_78 ?_
    refine lv_as (y := r 6 j) rfl ?_
    refine lv_iadd hx hb dX6_codeOf_79 ?_
    exact eMi S hr hlk hP hD hS dX6_codeOf_80 rfl rfl
  · skip
    exact False.elim (by revert b5; decide)

set_option maxHeartbeats 4000000 in
set_option maxRecDepth 100000 in
theorem rr_codeOf_r (l : Launch) (dg : va_G) (cA : Nat → ClassId) (ad : Nat → Nat) (r : St) (n : Nat) (hn : r 0 3 = nI n) (hn24 : n ≤ 24) (j : Nat) (hj : j < n) (hs : r 4 j = 114) (sz : Nat) : MetM l dg cA yX6_codeOf cX6_codeOf 2 (some .int) ({ frames := 2, cells := 0, slots := 0, locals := 43 } : Room) 0 0 (mw cA ad r) sz [.ref (ad 0), .int (nI j)] (mw cA ad (up r 0 0 0)) (some (.int (210))) := by
  refine ofM (by decide) (Nat.le_of_ble_eq_true rfl) (own := RX6) rfl (fun p e s0 m args below meth c ls A hAe S hr hlk hname hargs hK hP hD hS hA hsz hl => ?_)
  have hx := S.1
  have hb := S.2.1
  have hl : lv_has ls 2 [(0, .ref (ad 0)), (1, .int (nI j))] := hl
  refine lv_aload_n hx hb dX6_codeOf_0 rfl (lv_at hl 0 rfl) ?_
  refine lv_iload_n hx hb dX6_codeOf_1 rfl (lv_at hl 1 rfl) ?_
  refine cM S (rr_isHouse1 l dg cA ad r n hn hn24 j hj _) kX6_133 ⟨rfl, rfl, Nat.le_of_ble_eq_true rfl, Nat.le_of_ble_eq_true rfl⟩ hK hP hD hS hA 0 ml_0 (q := (RX6, TX6, 31)) rfl rfl (As := [.int (nI j)]) rfl hl.1 (rest := []) rfl (Nat.le_of_ble_eq_true rfl) dX6_codeOf_2 ⟨Nat.le_of_ble_eq_true rfl, Nat.le_of_ble_eq_true rfl⟩ (st1 := [.int 1]) rfl (fun H locs hP hD hS => ?_)
  refine lv_if_ne (tgt := 10) hx hb dX6_codeOf_5 (by decide) (fun b5 => ?_) (fun b5 => ?_)
  · skip
    refine lv_aload_n hx hb dX6_codeOf_10 rfl (lv_at hl 0 rfl) ?_
    refine gf S hK hP 0 ml_0 fX6_23 (v := .ref (ad 4)) mr_4 dX6_codeOf_11 ?_
    refine lv_iload_n hx hb dX6_codeOf_14 rfl (lv_at hl 1 rfl) ?_
    refine ild S hK hP 4 ml_4 (j := j) (by omega) (Nat.le_of_ble_eq_true rfl) dX6_codeOf_15 ?_
    refine lv_as (y := 114) hs ?_
    refine lv_lookup (tgt := 99) (off := 83) hx hb dX6_codeOf_16 (by decide) (by decide) (by decide) ?_
    refine lv_sipush (v := 210) hx hb dX6_codeOf_99 (by decide) ?_
    exact eMi S hr hlk hP hD hS dX6_codeOf_102 rfl rfl
  · skip
    exact False.elim (by revert b5; decide)

set_option maxHeartbeats 4000000 in
set_option maxRecDepth 100000 in
theorem rr_codeOf_g (l : Launch) (dg : va_G) (cA : Nat → ClassId) (ad : Nat → Nat) (r : St) (n : Nat) (hn : r 0 3 = nI n) (hn24 : n ≤ 24) (j : Nat) (hj : j < n) (hs : r 4 j = 103) (sz : Nat) : MetM l dg cA yX6_codeOf cX6_codeOf 2 (some .int) ({ frames := 2, cells := 0, slots := 0, locals := 43 } : Room) 0 0 (mw cA ad r) sz [.ref (ad 0), .int (nI j)] (mw cA ad (up r 0 0 0)) (some (.int (220))) := by
  refine ofM (by decide) (Nat.le_of_ble_eq_true rfl) (own := RX6) rfl (fun p e s0 m args below meth c ls A hAe S hr hlk hname hargs hK hP hD hS hA hsz hl => ?_)
  have hx := S.1
  have hb := S.2.1
  have hl : lv_has ls 2 [(0, .ref (ad 0)), (1, .int (nI j))] := hl
  refine lv_aload_n hx hb dX6_codeOf_0 rfl (lv_at hl 0 rfl) ?_
  refine lv_iload_n hx hb dX6_codeOf_1 rfl (lv_at hl 1 rfl) ?_
  refine cM S (rr_isHouse1 l dg cA ad r n hn hn24 j hj _) kX6_133 ⟨rfl, rfl, Nat.le_of_ble_eq_true rfl, Nat.le_of_ble_eq_true rfl⟩ hK hP hD hS hA 0 ml_0 (q := (RX6, TX6, 31)) rfl rfl (As := [.int (nI j)]) rfl hl.1 (rest := []) rfl (Nat.le_of_ble_eq_true rfl) dX6_codeOf_2 ⟨Nat.le_of_ble_eq_true rfl, Nat.le_of_ble_eq_true rfl⟩ (st1 := [.int 1]) rfl (fun H locs hP hD hS => ?_)
  refine lv_if_ne (tgt := 10) hx hb dX6_codeOf_5 (by decide) (fun b5 => ?_) (fun b5 => ?_)
  · skip
    refine lv_aload_n hx hb dX6_codeOf_10 rfl (lv_at hl 0 rfl) ?_
    refine gf S hK hP 0 ml_0 fX6_23 (v := .ref (ad 4)) mr_4 dX6_codeOf_11 ?_
    refine lv_iload_n hx hb dX6_codeOf_14 rfl (lv_at hl 1 rfl) ?_
    refine ild S hK hP 4 ml_4 (j := j) (by omega) (Nat.le_of_ble_eq_true rfl) dX6_codeOf_15 ?_
    refine lv_as (y := 103) hs ?_
    refine lv_lookup (tgt := 103) (off := 87) hx hb dX6_codeOf_16 (by decide) (by decide) (by decide) ?_
    refine lv_sipush (v := 220) hx hb dX6_codeOf_103 (by decide) ?_
    exact eMi S hr hlk hP hD hS dX6_codeOf_106 rfl rfl
  · skip
    exact False.elim (by revert b5; decide)

set_option maxHeartbeats 4000000 in
set_option maxRecDepth 100000 in
theorem rr_codeOf_e (l : Launch) (dg : va_G) (cA : Nat → ClassId) (ad : Nat → Nat) (r : St) (n : Nat) (hn : r 0 3 = nI n) (hn24 : n ≤ 24) (j : Nat) (hj : j < n) (hs : r 4 j = 101) (sz : Nat) : MetM l dg cA yX6_codeOf cX6_codeOf 2 (some .int) ({ frames := 2, cells := 0, slots := 0, locals := 43 } : Room) 0 0 (mw cA ad r) sz [.ref (ad 0), .int (nI j)] (mw cA ad (up r 0 0 0)) (some (.int (400))) := by
  refine ofM (by decide) (Nat.le_of_ble_eq_true rfl) (own := RX6) rfl (fun p e s0 m args below meth c ls A hAe S hr hlk hname hargs hK hP hD hS hA hsz hl => ?_)
  have hx := S.1
  have hb := S.2.1
  have hl : lv_has ls 2 [(0, .ref (ad 0)), (1, .int (nI j))] := hl
  refine lv_aload_n hx hb dX6_codeOf_0 rfl (lv_at hl 0 rfl) ?_
  refine lv_iload_n hx hb dX6_codeOf_1 rfl (lv_at hl 1 rfl) ?_
  refine cM S (rr_isHouse1 l dg cA ad r n hn hn24 j hj _) kX6_133 ⟨rfl, rfl, Nat.le_of_ble_eq_true rfl, Nat.le_of_ble_eq_true rfl⟩ hK hP hD hS hA 0 ml_0 (q := (RX6, TX6, 31)) rfl rfl (As := [.int (nI j)]) rfl hl.1 (rest := []) rfl (Nat.le_of_ble_eq_true rfl) dX6_codeOf_2 ⟨Nat.le_of_ble_eq_true rfl, Nat.le_of_ble_eq_true rfl⟩ (st1 := [.int 1]) rfl (fun H locs hP hD hS => ?_)
  refine lv_if_ne (tgt := 10) hx hb dX6_codeOf_5 (by decide) (fun b5 => ?_) (fun b5 => ?_)
  · skip
    refine lv_aload_n hx hb dX6_codeOf_10 rfl (lv_at hl 0 rfl) ?_
    refine gf S hK hP 0 ml_0 fX6_23 (v := .ref (ad 4)) mr_4 dX6_codeOf_11 ?_
    refine lv_iload_n hx hb dX6_codeOf_14 rfl (lv_at hl 1 rfl) ?_
    refine ild S hK hP 4 ml_4 (j := j) (by omega) (Nat.le_of_ble_eq_true rfl) dX6_codeOf_15 ?_
    refine lv_as (y := 101) hs ?_
    refine lv_lookup (tgt := 107) (off := 91) hx hb dX6_codeOf_16 (by decide) (by decide) (by decide) ?_
    refine lv_sipush (v := 400) hx hb dX6_codeOf_107 (by decide) ?_
    exact eMi S hr hlk hP hD hS dX6_codeOf_110 rfl rfl
  · skip
    exact False.elim (by revert b5; decide)

set_option maxHeartbeats 4000000 in
set_option maxRecDepth 100000 in
theorem rr_codeOf_a1 (l : Launch) (dg : va_G) (cA : Nat → ClassId) (ad : Nat → Nat) (r : St) (n : Nat) (hn : r 0 3 = nI n) (hn24 : n ≤ 24) (j : Nat) (hj : j < n) (hs : r 4 j = 97) (ha : r 12 j = 1) (sz : Nat) : MetM l dg cA yX6_codeOf cX6_codeOf 2 (some .int) ({ frames := 2, cells := 0, slots := 0, locals := 43 } : Room) 0 0 (mw cA ad r) sz [.ref (ad 0), .int (nI j)] (mw cA ad (up r 0 0 0)) (some (.int 110)) := by
  refine ofM (by decide) (Nat.le_of_ble_eq_true rfl) (own := RX6) rfl (fun p e s0 m args below meth c ls A hAe S hr hlk hname hargs hK hP hD hS hA hsz hl => ?_)
  have hx := S.1
  have hb := S.2.1
  have hl : lv_has ls 2 [(0, .ref (ad 0)), (1, .int (nI j))] := hl
  refine lv_aload_n hx hb dX6_codeOf_0 rfl (lv_at hl 0 rfl) ?_
  refine lv_iload_n hx hb dX6_codeOf_1 rfl (lv_at hl 1 rfl) ?_
  refine cM S (rr_isHouse1 l dg cA ad r n hn hn24 j hj _) kX6_133 ⟨rfl, rfl, Nat.le_of_ble_eq_true rfl, Nat.le_of_ble_eq_true rfl⟩ hK hP hD hS hA 0 ml_0 (q := (RX6, TX6, 31)) rfl rfl (As := [.int (nI j)]) rfl hl.1 (rest := []) rfl (Nat.le_of_ble_eq_true rfl) dX6_codeOf_2 ⟨Nat.le_of_ble_eq_true rfl, Nat.le_of_ble_eq_true rfl⟩ (st1 := [.int 1]) rfl (fun H locs hP hD hS => ?_)
  refine lv_if_ne (tgt := 10) hx hb dX6_codeOf_5 (by decide) (fun b5 => ?_) (fun b5 => ?_)
  · skip
    refine lv_aload_n hx hb dX6_codeOf_10 rfl (lv_at hl 0 rfl) ?_
    refine gf S hK hP 0 ml_0 fX6_23 (v := .ref (ad 4)) mr_4 dX6_codeOf_11 ?_
    refine lv_iload_n hx hb dX6_codeOf_14 rfl (lv_at hl 1 rfl) ?_
    refine ild S hK hP 4 ml_4 (j := j) (by omega) (Nat.le_of_ble_eq_true rfl) dX6_codeOf_15 ?_
    refine lv_as (y := 97) hs ?_
    refine lv_lookup (tgt := 81) (off := 65) hx hb dX6_codeOf_16 (by decide) (by decide) (by decide) ?_
    refine lv_aload_n hx hb dX6_codeOf_81 rfl (lv_at hl 0 rfl) ?_
    refine gf S hK hP 0 ml_0 fX6_47 (v := .ref (ad 12)) mr_12 dX6_codeOf_82 ?_
    refine lv_iload_n hx hb dX6_codeOf_85 rfl (lv_at hl 1 rfl) ?_
    refine ild S hK hP 12 ml_12 (j := j) (by omega) (Nat.le_of_ble_eq_true rfl) dX6_codeOf_86 ?_
    refine lv_as (y := 1) ha ?_
    refine lv_iconst (v := 1) hx hb dX6_codeOf_87 (by decide) ?_
    refine lv_icmp_ne (tgt := 96) hx hb dX6_codeOf_88 (by decide) (fun b88 => ?_) (fun b88 => ?_)
    · skip
      exact False.elim (by revert b88; decide)
    · skip
      refine lv_bipush (v := 110) hx hb dX6_codeOf_91 (by decide) ?_
      refine lv_goto (tgt := 98) hx hb dX6_codeOf_93 (by decide) ?_
      exact eMi S hr hlk hP hD hS dX6_codeOf_98 rfl rfl
  · skip
    exact False.elim (by revert b5; decide)

set_option maxHeartbeats 4000000 in
set_option maxRecDepth 100000 in
theorem rr_codeOf_a2 (l : Launch) (dg : va_G) (cA : Nat → ClassId) (ad : Nat → Nat) (r : St) (n : Nat) (hn : r 0 3 = nI n) (hn24 : n ≤ 24) (j : Nat) (hj : j < n) (hs : r 4 j = 97) (ha : ¬ r 12 j = 1) (sz : Nat) : MetM l dg cA yX6_codeOf cX6_codeOf 2 (some .int) ({ frames := 2, cells := 0, slots := 0, locals := 43 } : Room) 0 0 (mw cA ad r) sz [.ref (ad 0), .int (nI j)] (mw cA ad (up r 0 0 0)) (some (.int 120)) := by
  refine ofM (by decide) (Nat.le_of_ble_eq_true rfl) (own := RX6) rfl (fun p e s0 m args below meth c ls A hAe S hr hlk hname hargs hK hP hD hS hA hsz hl => ?_)
  have hx := S.1
  have hb := S.2.1
  have hl : lv_has ls 2 [(0, .ref (ad 0)), (1, .int (nI j))] := hl
  refine lv_aload_n hx hb dX6_codeOf_0 rfl (lv_at hl 0 rfl) ?_
  refine lv_iload_n hx hb dX6_codeOf_1 rfl (lv_at hl 1 rfl) ?_
  refine cM S (rr_isHouse1 l dg cA ad r n hn hn24 j hj _) kX6_133 ⟨rfl, rfl, Nat.le_of_ble_eq_true rfl, Nat.le_of_ble_eq_true rfl⟩ hK hP hD hS hA 0 ml_0 (q := (RX6, TX6, 31)) rfl rfl (As := [.int (nI j)]) rfl hl.1 (rest := []) rfl (Nat.le_of_ble_eq_true rfl) dX6_codeOf_2 ⟨Nat.le_of_ble_eq_true rfl, Nat.le_of_ble_eq_true rfl⟩ (st1 := [.int 1]) rfl (fun H locs hP hD hS => ?_)
  refine lv_if_ne (tgt := 10) hx hb dX6_codeOf_5 (by decide) (fun b5 => ?_) (fun b5 => ?_)
  · skip
    refine lv_aload_n hx hb dX6_codeOf_10 rfl (lv_at hl 0 rfl) ?_
    refine gf S hK hP 0 ml_0 fX6_23 (v := .ref (ad 4)) mr_4 dX6_codeOf_11 ?_
    refine lv_iload_n hx hb dX6_codeOf_14 rfl (lv_at hl 1 rfl) ?_
    refine ild S hK hP 4 ml_4 (j := j) (by omega) (Nat.le_of_ble_eq_true rfl) dX6_codeOf_15 ?_
    refine lv_as (y := 97) hs ?_
    refine lv_lookup (tgt := 81) (off := 65) hx hb dX6_codeOf_16 (by decide) (by decide) (by decide) ?_
    refine lv_aload_n hx hb dX6_codeOf_81 rfl (lv_at hl 0 rfl) ?_
    refine gf S hK hP 0 ml_0 fX6_47 (v := .ref (ad 12)) mr_12 dX6_codeOf_82 ?_
    refine lv_iload_n hx hb dX6_codeOf_85 rfl (lv_at hl 1 rfl) ?_
    refine ild S hK hP 12 ml_12 (j := j) (by omega) (Nat.le_of_ble_eq_true rfl) dX6_codeOf_86 ?_
    refine lv_as (y := r 12 j) rfl ?_
    refine lv_iconst (v := 1) hx hb dX6_codeOf_87 (by decide) ?_
    refine lv_icmp_ne (tgt := 96) hx hb dX6_codeOf_88 (by decide) (fun b88 => ?_) (fun b88 => ?_)
    · skip
      refine lv_bipush (v := 120) hx hb dX6_codeOf_96 (by decide) ?_
      exact eMi S hr hlk hP hD hS dX6_codeOf_98 rfl rfl
    · skip
      exact absurd b88 ha
  · skip
    exact False.elim (by revert b5; decide)

set_option maxHeartbeats 4000000 in
set_option maxRecDepth 100000 in
theorem rr_codeOf0 (l : Launch) (dg : va_G) (cA : Nat → ClassId) (ad : Nat → Nat) (r : St) (n : Nat) (hn : r 0 3 = nI n) (hn24 : n ≤ 24) (v : Int32) (hv : v < 0 ∨ nI n ≤ v) (sz : Nat) : MetM l dg cA yX6_codeOf cX6_codeOf 2 (some .int) ({ frames := 2, cells := 0, slots := 0, locals := 43 } : Room) 0 0 (mw cA ad r) sz [.ref (ad 0), .int v] (mw cA ad (up r 0 0 1)) (some (.int 0)) := by
  refine ofM (by decide) (Nat.le_of_ble_eq_true rfl) (own := RX6) rfl (fun p e s0 m args below meth c ls A hAe S hr hlk hname hargs hK hP hD hS hA hsz hl => ?_)
  have hx := S.1
  have hb := S.2.1
  have hl : lv_has ls 2 [(0, .ref (ad 0)), (1, .int v)] := hl
  refine lv_aload_n hx hb dX6_codeOf_0 rfl (lv_at hl 0 rfl) ?_
  refine lv_iload_n hx hb dX6_codeOf_1 rfl (lv_at hl 1 rfl) ?_
  refine cM S (rr_isHouse0 l dg cA ad r n hn hn24 v hv _) kX6_133 ⟨rfl, rfl, Nat.le_of_ble_eq_true rfl, Nat.le_of_ble_eq_true rfl⟩ hK hP hD hS hA 0 ml_0 (q := (RX6, TX6, 31)) rfl rfl (As := [.int v]) rfl hl.1 (rest := []) rfl (Nat.le_of_ble_eq_true rfl) dX6_codeOf_2 ⟨Nat.le_of_ble_eq_true rfl, Nat.le_of_ble_eq_true rfl⟩ (st1 := [.int 0]) rfl (fun H locs hP hD hS => ?_)
  refine lv_if_ne (tgt := 10) hx hb dX6_codeOf_5 (by decide) (fun b5 => ?_) (fun b5 => ?_)
  · skip
    exact False.elim (by revert b5; decide)
  · skip
    refine lv_iconst (v := 0) hx hb dX6_codeOf_8 (by decide) ?_
    exact eMi S hr hlk hP hD hS dX6_codeOf_9 rfl rfl

set_option maxHeartbeats 4000000 in
set_option maxRecDepth 100000 in
theorem rr_roundAt0 (l : Launch) (dg : va_G) (cA : Nat → ClassId) (ad : Nat → Nat) (r : St) (ni : Nat) (hni : r 0 4 = nI ni) (hni4 : ni ≤ 4) (v : Int32) (hv : v < 0 ∨ nI ni ≤ v) (x : Int32) (sz : Nat) : MetM l dg cA yX6_roundAt cX6_roundAt 3 (some .int) ({ frames := 2, cells := 0, slots := 0, locals := 43 } : Room) 0 0 (mw cA ad r) sz [.ref (ad 0), .int v, .int x] (mw cA ad (up r 0 0 1)) (some (.int 0)) := by
  refine ofM (by decide) (Nat.le_of_ble_eq_true rfl) (own := RX6) rfl (fun p e s0 m args below meth c ls A hAe S hr hlk hname hargs hK hP hD hS hA hsz hl => ?_)
  have hx := S.1
  have hb := S.2.1
  have hl : lv_has ls 3 [(0, .ref (ad 0)), (1, .int v), (2, .int x)] := hl
  refine lv_aload_n hx hb dX6_roundAt_0 rfl (lv_at hl 0 rfl) ?_
  refine lv_iload_n hx hb dX6_roundAt_1 rfl (lv_at hl 1 rfl) ?_
  refine cM S (rr_isInt0 l dg cA ad r ni hni hni4 v hv _) kX6_129 ⟨rfl, rfl, Nat.le_of_ble_eq_true rfl, Nat.le_of_ble_eq_true rfl⟩ hK hP hD hS hA 0 ml_0 (q := (RX6, TX6, 31)) rfl rfl (As := [.int v]) rfl hl.1 (rest := []) rfl (Nat.le_of_ble_eq_true rfl) dX6_roundAt_2 ⟨Nat.le_of_ble_eq_true rfl, Nat.le_of_ble_eq_true rfl⟩ (st1 := [.int 0]) rfl (fun H locs hP hD hS => ?_)
  refine lv_if_ne (tgt := 10) hx hb dX6_roundAt_5 (by decide) (fun b5 => ?_) (fun b5 => ?_)
  · skip
    exact False.elim (by revert b5; decide)
  · skip
    refine lv_iconst (v := 0) hx hb dX6_roundAt_8 (by decide) ?_
    exact eMi S hr hlk hP hD hS dX6_roundAt_9 rfl rfl

set_option maxHeartbeats 4000000 in
set_option maxRecDepth 100000 in
theorem rr_roundAt2 (l : Launch) (dg : va_G) (cA : Nat → ClassId) (ad : Nat → Nat) (r : St) (ni : Nat) (hni : r 0 4 = nI ni) (hni4 : ni ≤ 4) (i : Nat) (hi : i < ni) (k : Nat) (hk : r 20 i = nI k) (hk24 : k ≤ 24) (x : Int32) (hxx0 : x < 0 ∨ nI k ≤ x) (sz : Nat) : MetM l dg cA yX6_roundAt cX6_roundAt 3 (some .int) ({ frames := 2, cells := 0, slots := 0, locals := 43 } : Room) 0 0 (mw cA ad r) sz [.ref (ad 0), .int (nI i), .int x] (mw cA ad (up r 0 0 2)) (some (.int 0)) := by
  refine ofM (by decide) (Nat.le_of_ble_eq_true rfl) (own := RX6) rfl (fun p e s0 m args below meth c ls A hAe S hr hlk hname hargs hK hP hD hS hA hsz hl => ?_)
  have hx := S.1
  have hb := S.2.1
  have hl : lv_has ls 3 [(0, .ref (ad 0)), (1, .int (nI i)), (2, .int x)] := hl
  have hxx := hxx0
  refine lv_aload_n hx hb dX6_roundAt_0 rfl (lv_at hl 0 rfl) ?_
  refine lv_iload_n hx hb dX6_roundAt_1 rfl (lv_at hl 1 rfl) ?_
  refine cM S (rr_isInt1 l dg cA ad r ni hni hni4 i hi _) kX6_129 ⟨rfl, rfl, Nat.le_of_ble_eq_true rfl, Nat.le_of_ble_eq_true rfl⟩ hK hP hD hS hA 0 ml_0 (q := (RX6, TX6, 31)) rfl rfl (As := [.int (nI i)]) rfl hl.1 (rest := []) rfl (Nat.le_of_ble_eq_true rfl) dX6_roundAt_2 ⟨Nat.le_of_ble_eq_true rfl, Nat.le_of_ble_eq_true rfl⟩ (st1 := [.int 1]) rfl (fun H locs hP hD hS => ?_)
  refine lv_if_ne (tgt := 10) hx hb dX6_roundAt_5 (by decide) (fun b5 => ?_) (fun b5 => ?_)
  · skip
    refine lv_iload_n hx hb dX6_roundAt_10 rfl (lv_at hl 2 rfl) ?_
    refine lv_iconst (v := 0) hx hb dX6_roundAt_11 (by decide) ?_
    refine lv_aload_n hx hb dX6_roundAt_12 rfl (lv_at hl 0 rfl) ?_
    refine gf S hK hP 0 ml_0 fX6_72 (v := .ref (ad 20)) mr_20 dX6_roundAt_13 ?_
    refine lv_iload_n hx hb dX6_roundAt_16 rfl (lv_at hl 1 rfl) ?_
    refine ild S hK hP 20 ml_20 (j := i) (by omega) (Nat.le_of_ble_eq_true rfl) dX6_roundAt_17 ?_
    refine lv_as (y := nI k) hk ?_
    refine lv_iconst (v := 1) hx hb dX6_roundAt_18 (by decide) ?_
    refine lv_isub hx hb dX6_roundAt_19 ?_
    refine cRS S (rr_in0 l dg cA (mw cA ad (up r 0 0 0)) x 0 ((nI k) - 1) (idx_bad hxx (by omega))) kX6_96 ⟨rfl, rfl, Nat.le_of_ble_eq_true rfl, Nat.le_of_ble_eq_true rfl⟩ hK hP (As := [.int x, .int 0, .int ((nI k) - 1)]) rfl hl.1 (rest := []) rfl (Nat.le_of_ble_eq_true rfl) dX6_roundAt_20 ⟨Nat.le_of_ble_eq_true rfl, Nat.le_of_ble_eq_true rfl⟩ (st1 := [.int 0]) rfl ?_
    refine lv_if_eq (tgt := 40) hx hb dX6_roundAt_23 (by decide) (fun b23 => ?_) (fun b23 => ?_)
    · skip
      refine lv_aload_n hx hb dX6_roundAt_40 rfl (lv_at hl 0 rfl) ?_
      refine lv_iconst (v := 2) hx hb dX6_roundAt_41 (by decide) ?_
      refine cM S (rr_fails l dg cA ad (up r 0 0 0) 2 _) kX6_104 ⟨rfl, rfl, Nat.le_of_ble_eq_true rfl, Nat.le_of_ble_eq_true rfl⟩ hK hP hD hS hA 0 ml_0 (q := (RX6, TX6, 31)) rfl rfl (As := [.int 2]) rfl hl.1 (rest := []) rfl (Nat.le_of_ble_eq_true rfl) dX6_roundAt_42 ⟨Nat.le_of_ble_eq_true rfl, Nat.le_of_ble_eq_true rfl⟩ (st1 := [.int 0]) rfl (fun H locs hP hD hS => ?_)
      exact eMi S hr hlk hP hD hS dX6_roundAt_45 rfl up_twice_mw
    · skip
      exact False.elim (by revert b23; decide)
  · skip
    exact False.elim (by revert b5; decide)

set_option maxHeartbeats 4000000 in
set_option maxRecDepth 100000 in
theorem rr_roundAt1 (l : Launch) (dg : va_G) (cA : Nat → ClassId) (ad : Nat → Nat) (r : St) (ni : Nat) (hni : r 0 4 = nI ni) (hni4 : ni ≤ 4) (i : Nat) (hi : i < ni) (k : Nat) (hk : r 20 i = nI k) (hk24 : k ≤ 24) (x : Nat) (hxk : x < k) (sz : Nat) : MetM l dg cA yX6_roundAt cX6_roundAt 3 (some .int) ({ frames := 2, cells := 0, slots := 0, locals := 43 } : Room) 0 0 (mw cA ad r) sz [.ref (ad 0), .int (nI i), .int (nI x)] (mw cA ad (up r 0 0 0)) (some (.int (r 19 (24 * i + x)))) := by
  refine ofM (by decide) (Nat.le_of_ble_eq_true rfl) (own := RX6) rfl (fun p e s0 m args below meth c ls A hAe S hr hlk hname hargs hK hP hD hS hA hsz hl => ?_)
  have hx := S.1
  have hb := S.2.1
  have hl : lv_has ls 3 [(0, .ref (ad 0)), (1, .int (nI i)), (2, .int (nI x))] := hl
  refine lv_aload_n hx hb dX6_roundAt_0 rfl (lv_at hl 0 rfl) ?_
  refine lv_iload_n hx hb dX6_roundAt_1 rfl (lv_at hl 1 rfl) ?_
  refine cM S (rr_isInt1 l dg cA ad r ni hni hni4 i hi _) kX6_129 ⟨rfl, rfl, Nat.le_of_ble_eq_true rfl, Nat.le_of_ble_eq_true rfl⟩ hK hP hD hS hA 0 ml_0 (q := (RX6, TX6, 31)) rfl rfl (As := [.int (nI i)]) rfl hl.1 (rest := []) rfl (Nat.le_of_ble_eq_true rfl) dX6_roundAt_2 ⟨Nat.le_of_ble_eq_true rfl, Nat.le_of_ble_eq_true rfl⟩ (st1 := [.int 1]) rfl (fun H locs hP hD hS => ?_)
  refine lv_if_ne (tgt := 10) hx hb dX6_roundAt_5 (by decide) (fun b5 => ?_) (fun b5 => ?_)
  · skip
    refine lv_iload_n hx hb dX6_roundAt_10 rfl (lv_at hl 2 rfl) ?_
    refine lv_iconst (v := 0) hx hb dX6_roundAt_11 (by decide) ?_
    refine lv_aload_n hx hb dX6_roundAt_12 rfl (lv_at hl 0 rfl) ?_
    refine gf S hK hP 0 ml_0 fX6_72 (v := .ref (ad 20)) mr_20 dX6_roundAt_13 ?_
    refine lv_iload_n hx hb dX6_roundAt_16 rfl (lv_at hl 1 rfl) ?_
    refine ild S hK hP 20 ml_20 (j := i) (by omega) (Nat.le_of_ble_eq_true rfl) dX6_roundAt_17 ?_
    refine lv_as (y := nI k) hk ?_
    refine lv_iconst (v := 1) hx hb dX6_roundAt_18 (by decide) ?_
    refine lv_isub hx hb dX6_roundAt_19 ?_
    refine cRS S (rr_in1 l dg cA (mw cA ad (up r 0 0 0)) (nI x) 0 ((nI k) - 1) (nI_pos (by omega)) (idx_hi hxk (by omega))) kX6_96 ⟨rfl, rfl, Nat.le_of_ble_eq_true rfl, Nat.le_of_ble_eq_true rfl⟩ hK hP (As := [.int (nI x), .int 0, .int ((nI k) - 1)]) rfl hl.1 (rest := []) rfl (Nat.le_of_ble_eq_true rfl) dX6_roundAt_20 ⟨Nat.le_of_ble_eq_true rfl, Nat.le_of_ble_eq_true rfl⟩ (st1 := [.int 1]) rfl ?_
    refine lv_if_eq (tgt := 40) hx hb dX6_roundAt_23 (by decide) (fun b23 => ?_) (fun b23 => ?_)
    · skip
      exact absurd b23 b5
    · skip
      refine lv_aload_n hx hb dX6_roundAt_26 rfl (lv_at hl 0 rfl) ?_
      refine gf S hK hP 0 ml_0 fX6_69 (v := .ref (ad 19)) mr_19 dX6_roundAt_27 ?_
      refine lv_bipush (v := 24) hx hb dX6_roundAt_30 (by decide) ?_
      refine lv_iload_n hx hb dX6_roundAt_32 rfl (lv_at hl 1 rfl) ?_
      refine lv_imul hx hb dX6_roundAt_33 ?_
      refine lv_as (y := nI (24 * i)) (pk_mul 24 i) ?_
      refine lv_iload_n hx hb dX6_roundAt_34 rfl (lv_at hl 2 rfl) ?_
      refine lv_iadd hx hb dX6_roundAt_35 ?_
      refine lv_as (y := nI (24 * i + x)) (nI_add _ _) ?_
      refine ild S hK hP 19 ml_19 (j := 24 * i + x) (by omega) (Nat.le_of_ble_eq_true rfl) dX6_roundAt_36 ?_
      refine lv_as (y := r 19 (24 * i + x)) rfl ?_
      refine lv_goto (tgt := 45) hx hb dX6_roundAt_37 (by decide) ?_
      exact eMi S hr hlk hP hD hS dX6_roundAt_45 rfl rfl
  · skip
    exact False.elim (by revert b5; decide)

set_option maxHeartbeats 4000000 in
set_option maxRecDepth 100000 in
theorem rr_isOf1 (l : Launch) (dg : va_G) (cA : Nat → ClassId) (ad : Nat → Nat) (r : St) (j : Nat) (hj : j < 24) (k : Int32) : MetR l dg cA yX6_isOf cX6_isOf 4 (some .boolean) ({ frames := 0, cells := 0, slots := 0, locals := 0 } : Room) (mw cA ad r) [.ref (ad 0), .int (nI j), .int k, .int 1] (some (.int (b2 (decide (r 1 j = k))))) := by
  refine ofR (by decide) (Nat.le_of_ble_eq_true rfl) (own := RX6) rfl (fun p e s0 m args below meth c ls S hr hlk hargs hK hP hl => ?_)
  have hx := S.1
  have hb := S.2.1
  have hl : lv_has ls 4 [(0, .ref (ad 0)), (1, .int (nI j)), (2, .int k), (3, .int 1)] := hl
  refine lv_iload_n hx hb dX6_isOf_0 rfl (lv_at hl 3 rfl) ?_
  refine lv_if_eq (tgt := 13) hx hb dX6_isOf_1 (by decide) (fun b1 => ?_) (fun b1 => ?_)
  · skip
    exact False.elim (by revert b1; decide)
  · skip
    refine lv_aload_n hx hb dX6_isOf_4 rfl (lv_at hl 0 rfl) ?_
    refine gf S hK hP 0 ml_0 fX6_13 (v := .ref (ad 1)) mr_1 dX6_isOf_5 ?_
    refine lv_iload_n hx hb dX6_isOf_8 rfl (lv_at hl 1 rfl) ?_
    refine ild S hK hP 1 ml_1 (j := j) (by omega) (Nat.le_of_ble_eq_true rfl) dX6_isOf_9 ?_
    refine lv_as (y := r 1 j) rfl ?_
    refine lv_goto (tgt := 19) hx hb dX6_isOf_10 (by decide) ?_
    refine lv_iload_n hx hb dX6_isOf_19 rfl (lv_at hl 2 rfl) ?_
    refine lv_icmp_ne (tgt := 27) hx hb dX6_isOf_20 (by decide) (fun b20 => ?_) (fun b20 => ?_)
    · skip
      refine lv_iconst (v := 0) hx hb dX6_isOf_27 (by decide) ?_
      exact eRz S hr hlk dX6_isOf_28 (by simp [b2, b1, b20]) (b2_nr _)
    · skip
      refine lv_iconst (v := 1) hx hb dX6_isOf_23 (by decide) ?_
      refine lv_goto (tgt := 28) hx hb dX6_isOf_24 (by decide) ?_
      exact eRz S hr hlk dX6_isOf_28 (by simp [b2, b1, b20]) (b2_nr _)

set_option maxHeartbeats 4000000 in
set_option maxRecDepth 100000 in
theorem rr_isOf0 (l : Launch) (dg : va_G) (cA : Nat → ClassId) (ad : Nat → Nat) (r : St) (j : Nat) (hj : j < 24) (k : Int32) : MetR l dg cA yX6_isOf cX6_isOf 4 (some .boolean) ({ frames := 0, cells := 0, slots := 0, locals := 0 } : Room) (mw cA ad r) [.ref (ad 0), .int (nI j), .int k, .int 0] (some (.int (b2 (decide (r 3 j = k))))) := by
  refine ofR (by decide) (Nat.le_of_ble_eq_true rfl) (own := RX6) rfl (fun p e s0 m args below meth c ls S hr hlk hargs hK hP hl => ?_)
  have hx := S.1
  have hb := S.2.1
  have hl : lv_has ls 4 [(0, .ref (ad 0)), (1, .int (nI j)), (2, .int k), (3, .int 0)] := hl
  refine lv_iload_n hx hb dX6_isOf_0 rfl (lv_at hl 3 rfl) ?_
  refine lv_if_eq (tgt := 13) hx hb dX6_isOf_1 (by decide) (fun b1 => ?_) (fun b1 => ?_)
  · skip
    refine lv_aload_n hx hb dX6_isOf_13 rfl (lv_at hl 0 rfl) ?_
    refine gf S hK hP 0 ml_0 fX6_20 (v := .ref (ad 3)) mr_3 dX6_isOf_14 ?_
    refine lv_iload_n hx hb dX6_isOf_17 rfl (lv_at hl 1 rfl) ?_
    refine ild S hK hP 3 ml_3 (j := j) (by omega) (Nat.le_of_ble_eq_true rfl) dX6_isOf_18 ?_
    refine lv_as (y := r 3 j) rfl ?_
    refine lv_iload_n hx hb dX6_isOf_19 rfl (lv_at hl 2 rfl) ?_
    refine lv_icmp_ne (tgt := 27) hx hb dX6_isOf_20 (by decide) (fun b20 => ?_) (fun b20 => ?_)
    · skip
      refine lv_iconst (v := 0) hx hb dX6_isOf_27 (by decide) ?_
      exact eRz S hr hlk dX6_isOf_28 (by simp [b2, b1, b20]) (b2_nr _)
    · skip
      refine lv_iconst (v := 1) hx hb dX6_isOf_23 (by decide) ?_
      refine lv_goto (tgt := 28) hx hb dX6_isOf_24 (by decide) ?_
      exact eRz S hr hlk dX6_isOf_28 (by simp [b2, b1, b20]) (b2_nr _)
  · skip
    exact False.elim (by revert b1; decide)

set_option maxHeartbeats 4000000 in
set_option maxRecDepth 100000 in
theorem rr_goal1 (l : Launch) (dg : va_G) (cA : Nat → ClassId) (ad : Nat → Nat) (r : St) (n : Nat) (hn : r 0 3 = nI n) (hn24 : n ≤ 24) (k : Int32) : MetR l dg cA yX6_goal cX6_goal 5 (some .int) ({ frames := 1, cells := 0, slots := 0, locals := 23 } : Room) (mw cA ad r) [.ref (ad 0), .int k, .int 1] (some (.int (m_gl (r 1) (r 4) (r 14) k n))) := by
  refine ofR (by decide) (Nat.le_of_ble_eq_true rfl) (own := RX6) rfl (fun p e s0 m args below meth c ls S hr hlk hargs hK hP hl => ?_)
  have hx := S.1
  have hb := S.2.1
  have hl : lv_has ls 5 [(0, .ref (ad 0)), (1, .int k), (2, .int 1)] := hl
  refine lv_iconst (v := 0) hx hb dX6_goal_0 (by decide) ?_
  refine lv_istore_n (lv' := [(3, .int 0), (0, .ref (ad 0)), (1, .int k), (2, .int 1)]) hx hb dX6_goal_1 rfl hl (by decide) rfl (fun ls hl => ?_)
  refine lv_iconst (v := 0) hx hb dX6_goal_2 (by decide) ?_
  refine lv_istore (lv' := [(4, .int 0), (3, .int 0), (0, .ref (ad 0)), (1, .int k), (2, .int 1)]) hx hb dX6_goal_3 hl (by decide) rfl (fun ls hl => ?_)
  have hL5 : ∀ (f : Nat) (j : Nat), n - j < f → (j ≤ n) → ∀ ls, lv_has ls 5 [(0, .ref (ad 0)), (1, .int k), (2, .int 1), (3, .int (m_gl (r 1) (r 4) (r 14) k j)), (4, .int (nI j))] → W p l e ({ frames := 1, cells := 0, slots := 0, locals := 23 } : Room) s0 m args below meth c s0.heap [] 0 0 (MQ below (QcR (some (.int (m_gl (r 1) (r 4) (r 14) k n)))) args s0 0 0 (fun _ => False)) (F0 m 5 ls []) := by
    intro f
    induction f with
    | zero => intro j hm; exact absurd hm (Nat.not_lt_zero _)
    | succ f ih5 =>
      intro j hm5 hj ls hl
      refine lv_iload hx hb dX6_goal_5 (lv_at hl 4 rfl) ?_
      refine lv_aload_n hx hb dX6_goal_7 rfl (lv_at hl 0 rfl) ?_
      refine gf S hK hP 0 ml_0 fX6_93 (v := .int (nI n)) (mv_3 hn) dX6_goal_8 ?_
      refine lv_icmp_ge (tgt := 63) hx hb dX6_goal_11 (by decide) (fun b11 => ?_) (fun b11 => ?_)
      · skip
        have g11 : n ≤ j := (nI_leI (a := n) (b := j) (by omega) (by omega)).mp b11
        refine lv_iload_n hx hb dX6_goal_63 rfl (lv_at hl 3 rfl) ?_
        exact eRi S hr hlk dX6_goal_64 (by rw [show j = n by omega])
      · skip
        have g11 : ¬ n ≤ j := fun zz => b11 ((nI_leI (a := n) (b := j) (by omega) (by omega)).mpr zz)
        refine lv_iload_n hx hb dX6_goal_14 rfl (lv_at hl 3 rfl) ?_
        refine lv_aload_n hx hb dX6_goal_15 rfl (lv_at hl 0 rfl) ?_
        refine lv_iload hx hb dX6_goal_16 (lv_at hl 4 rfl) ?_
        refine lv_iload_n hx hb dX6_goal_18 rfl (lv_at hl 1 rfl) ?_
        refine lv_iload_n hx hb dX6_goal_19 rfl (lv_at hl 2 rfl) ?_
        refine cR S (rr_isOf1 l dg cA ad r j (by omega) k) kX6_139 ⟨rfl, rfl, Nat.le_of_ble_eq_true rfl, Nat.le_of_ble_eq_true rfl⟩ hK hP 0 ml_0 (q := (RX6, TX6, 31)) rfl rfl (As := [.int (nI j), .int k, .int 1]) rfl hl.1 (rest := [.int (m_gl (r 1) (r 4) (r 14) k j)]) rfl (Nat.le_of_ble_eq_true rfl) dX6_goal_20 ⟨Nat.le_of_ble_eq_true rfl, Nat.le_of_ble_eq_true rfl⟩ (st1 := [.int (b2 (decide (r 1 j = k))), .int (m_gl (r 1) (r 4) (r 14) k j)]) rfl ?_
        refine lv_if_eq (tgt := 54) hx hb dX6_goal_23 (by decide) (fun b23 => ?_) (fun b23 => ?_)
        · skip
          have c23 := b2d0 b23
          refine lv_iconst (v := 0) hx hb dX6_goal_54 (by decide) ?_
          refine lv_iadd hx hb dX6_goal_55 ?_
          refine lv_istore_n (lv' := [(3, .int ((m_gl (r 1) (r 4) (r 14) k j) + 0)), (0, .ref (ad 0)), (1, .int k), (2, .int 1), (4, .int (nI j))]) hx hb dX6_goal_56 rfl hl (by decide) rfl (fun ls hl => ?_)
          refine lv_iinc (v := nI (j + 1)) (lv' := [(4, .int (nI (j + 1))), (3, .int ((m_gl (r 1) (r 4) (r 14) k j) + 0)), (0, .ref (ad 0)), (1, .int k), (2, .int 1)]) hx hb dX6_goal_57 hl (k := 4) rfl (nI_1 j) (by decide) rfl (fun ls hl => ?_)
          refine lv_goto (tgt := 5) hx hb dX6_goal_60 (by decide) ?_
          exact ih5 (j + 1) (by omega) (by omega) ls (lv_cast (lv_sub (l' := [(0, .ref (ad 0)), (1, .int k), (2, .int 1), (3, .int ((m_gl (r 1) (r 4) (r 14) k j) + 0)), (4, .int (nI (j + 1)))]) hl [2, 3, 4, 1, 0] rfl) (by simp [m_gl, nI_1, b11, c23]))
        · skip
          have c23 := b2d1 b23
          refine lv_aload_n hx hb dX6_goal_26 rfl (lv_at hl 0 rfl) ?_
          refine gf S hK hP 0 ml_0 fX6_23 (v := .ref (ad 4)) mr_4 dX6_goal_27 ?_
          refine lv_iload hx hb dX6_goal_30 (lv_at hl 4 rfl) ?_
          refine ild S hK hP 4 ml_4 (j := j) (by omega) (Nat.le_of_ble_eq_true rfl) dX6_goal_32 ?_
          refine lv_as (y := r 4 j) rfl ?_
          refine lv_bipush (v := 117) hx hb dX6_goal_33 (by decide) ?_
          refine lv_icmp_eq (tgt := 54) hx hb dX6_goal_35 (by decide) (fun b35 => ?_) (fun b35 => ?_)
          · skip
            refine lv_iconst (v := 0) hx hb dX6_goal_54 (by decide) ?_
            refine lv_iadd hx hb dX6_goal_55 ?_
            refine lv_istore_n (lv' := [(3, .int ((m_gl (r 1) (r 4) (r 14) k j) + 0)), (0, .ref (ad 0)), (1, .int k), (2, .int 1), (4, .int (nI j))]) hx hb dX6_goal_56 rfl hl (by decide) rfl (fun ls hl => ?_)
            refine lv_iinc (v := nI (j + 1)) (lv' := [(4, .int (nI (j + 1))), (3, .int ((m_gl (r 1) (r 4) (r 14) k j) + 0)), (0, .ref (ad 0)), (1, .int k), (2, .int 1)]) hx hb dX6_goal_57 hl (k := 4) rfl (nI_1 j) (by decide) rfl (fun ls hl => ?_)
            refine lv_goto (tgt := 5) hx hb dX6_goal_60 (by decide) ?_
            exact ih5 (j + 1) (by omega) (by omega) ls (lv_cast (lv_sub (l' := [(0, .ref (ad 0)), (1, .int k), (2, .int 1), (3, .int ((m_gl (r 1) (r 4) (r 14) k j) + 0)), (4, .int (nI (j + 1)))]) hl [2, 3, 4, 1, 0] rfl) (by simp [m_gl, nI_1, b11, c23, b35]))
          · skip
            refine lv_aload_n hx hb dX6_goal_38 rfl (lv_at hl 0 rfl) ?_
            refine gf S hK hP 0 ml_0 fX6_53 (v := .ref (ad 14)) mr_14 dX6_goal_39 ?_
            refine lv_iload hx hb dX6_goal_42 (lv_at hl 4 rfl) ?_
            refine zld S hK hP 14 ml_14 (j := j) (by omega) (Nat.le_of_ble_eq_true rfl) dX6_goal_44 ?_
            refine lv_as (y := r 14 j) rfl ?_
            refine lv_if_ne (tgt := 54) hx hb dX6_goal_45 (by decide) (fun b45 => ?_) (fun b45 => ?_)
            · skip
              refine lv_iconst (v := 0) hx hb dX6_goal_54 (by decide) ?_
              refine lv_iadd hx hb dX6_goal_55 ?_
              refine lv_istore_n (lv' := [(3, .int ((m_gl (r 1) (r 4) (r 14) k j) + 0)), (0, .ref (ad 0)), (1, .int k), (2, .int 1), (4, .int (nI j))]) hx hb dX6_goal_56 rfl hl (by decide) rfl (fun ls hl => ?_)
              refine lv_iinc (v := nI (j + 1)) (lv' := [(4, .int (nI (j + 1))), (3, .int ((m_gl (r 1) (r 4) (r 14) k j) + 0)), (0, .ref (ad 0)), (1, .int k), (2, .int 1)]) hx hb dX6_goal_57 hl (k := 4) rfl (nI_1 j) (by decide) rfl (fun ls hl => ?_)
              refine lv_goto (tgt := 5) hx hb dX6_goal_60 (by decide) ?_
              exact ih5 (j + 1) (by omega) (by omega) ls (lv_cast (lv_sub (l' := [(0, .ref (ad 0)), (1, .int k), (2, .int 1), (3, .int ((m_gl (r 1) (r 4) (r 14) k j) + 0)), (4, .int (nI (j + 1)))]) hl [2, 3, 4, 1, 0] rfl) (by simp [m_gl, nI_1, b11, c23, b35, b45]))
            · skip
              refine lv_sipush (v := 1000) hx hb dX6_goal_48 (by decide) ?_
              refine lv_goto (tgt := 55) hx hb dX6_goal_51 (by decide) ?_
              refine lv_iadd hx hb dX6_goal_55 ?_
              refine lv_istore_n (lv' := [(3, .int ((m_gl (r 1) (r 4) (r 14) k j) + 1000)), (0, .ref (ad 0)), (1, .int k), (2, .int 1), (4, .int (nI j))]) hx hb dX6_goal_56 rfl hl (by decide) rfl (fun ls hl => ?_)
              refine lv_iinc (v := nI (j + 1)) (lv' := [(4, .int (nI (j + 1))), (3, .int ((m_gl (r 1) (r 4) (r 14) k j) + 1000)), (0, .ref (ad 0)), (1, .int k), (2, .int 1)]) hx hb dX6_goal_57 hl (k := 4) rfl (nI_1 j) (by decide) rfl (fun ls hl => ?_)
              refine lv_goto (tgt := 5) hx hb dX6_goal_60 (by decide) ?_
              exact ih5 (j + 1) (by omega) (by omega) ls (lv_cast (lv_sub (l' := [(0, .ref (ad 0)), (1, .int k), (2, .int 1), (3, .int ((m_gl (r 1) (r 4) (r 14) k j) + 1000)), (4, .int (nI (j + 1)))]) hl [2, 3, 4, 1, 0] rfl) (by simp [m_gl, nI_1, b11, c23, b35, b45]))
  exact hL5 _ 0 (Nat.lt_succ_self _) (Nat.zero_le _) ls (lv_cast (lv_sub (l' := [(0, .ref (ad 0)), (1, .int k), (2, .int 1), (3, .int 0), (4, .int 0)]) hl [2, 3, 4, 1, 0] rfl) (by rfl))

set_option maxHeartbeats 4000000 in
set_option maxRecDepth 100000 in
theorem rr_goal0 (l : Launch) (dg : va_G) (cA : Nat → ClassId) (ad : Nat → Nat) (r : St) (n : Nat) (hn : r 0 3 = nI n) (hn24 : n ≤ 24) (k : Int32) : MetR l dg cA yX6_goal cX6_goal 5 (some .int) ({ frames := 1, cells := 0, slots := 0, locals := 23 } : Room) (mw cA ad r) [.ref (ad 0), .int k, .int 0] (some (.int (m_gl (r 3) (r 4) (r 14) k n))) := by
  refine ofR (by decide) (Nat.le_of_ble_eq_true rfl) (own := RX6) rfl (fun p e s0 m args below meth c ls S hr hlk hargs hK hP hl => ?_)
  have hx := S.1
  have hb := S.2.1
  have hl : lv_has ls 5 [(0, .ref (ad 0)), (1, .int k), (2, .int 0)] := hl
  refine lv_iconst (v := 0) hx hb dX6_goal_0 (by decide) ?_
  refine lv_istore_n (lv' := [(3, .int 0), (0, .ref (ad 0)), (1, .int k), (2, .int 0)]) hx hb dX6_goal_1 rfl hl (by decide) rfl (fun ls hl => ?_)
  refine lv_iconst (v := 0) hx hb dX6_goal_2 (by decide) ?_
  refine lv_istore (lv' := [(4, .int 0), (3, .int 0), (0, .ref (ad 0)), (1, .int k), (2, .int 0)]) hx hb dX6_goal_3 hl (by decide) rfl (fun ls hl => ?_)
  have hL5 : ∀ (f : Nat) (j : Nat), n - j < f → (j ≤ n) → ∀ ls, lv_has ls 5 [(0, .ref (ad 0)), (1, .int k), (2, .int 0), (3, .int (m_gl (r 3) (r 4) (r 14) k j)), (4, .int (nI j))] → W p l e ({ frames := 1, cells := 0, slots := 0, locals := 23 } : Room) s0 m args below meth c s0.heap [] 0 0 (MQ below (QcR (some (.int (m_gl (r 3) (r 4) (r 14) k n)))) args s0 0 0 (fun _ => False)) (F0 m 5 ls []) := by
    intro f
    induction f with
    | zero => intro j hm; exact absurd hm (Nat.not_lt_zero _)
    | succ f ih5 =>
      intro j hm5 hj ls hl
      refine lv_iload hx hb dX6_goal_5 (lv_at hl 4 rfl) ?_
      refine lv_aload_n hx hb dX6_goal_7 rfl (lv_at hl 0 rfl) ?_
      refine gf S hK hP 0 ml_0 fX6_93 (v := .int (nI n)) (mv_3 hn) dX6_goal_8 ?_
      refine lv_icmp_ge (tgt := 63) hx hb dX6_goal_11 (by decide) (fun b11 => ?_) (fun b11 => ?_)
      · skip
        have g11 : n ≤ j := (nI_leI (a := n) (b := j) (by omega) (by omega)).mp b11
        refine lv_iload_n hx hb dX6_goal_63 rfl (lv_at hl 3 rfl) ?_
        exact eRi S hr hlk dX6_goal_64 (by rw [show j = n by omega])
      · skip
        have g11 : ¬ n ≤ j := fun zz => b11 ((nI_leI (a := n) (b := j) (by omega) (by omega)).mpr zz)
        refine lv_iload_n hx hb dX6_goal_14 rfl (lv_at hl 3 rfl) ?_
        refine lv_aload_n hx hb dX6_goal_15 rfl (lv_at hl 0 rfl) ?_
        refine lv_iload hx hb dX6_goal_16 (lv_at hl 4 rfl) ?_
        refine lv_iload_n hx hb dX6_goal_18 rfl (lv_at hl 1 rfl) ?_
        refine lv_iload_n hx hb dX6_goal_19 rfl (lv_at hl 2 rfl) ?_
        refine cR S (rr_isOf0 l dg cA ad r j (by omega) k) kX6_139 ⟨rfl, rfl, Nat.le_of_ble_eq_true rfl, Nat.le_of_ble_eq_true rfl⟩ hK hP 0 ml_0 (q := (RX6, TX6, 31)) rfl rfl (As := [.int (nI j), .int k, .int 0]) rfl hl.1 (rest := [.int (m_gl (r 3) (r 4) (r 14) k j)]) rfl (Nat.le_of_ble_eq_true rfl) dX6_goal_20 ⟨Nat.le_of_ble_eq_true rfl, Nat.le_of_ble_eq_true rfl⟩ (st1 := [.int (b2 (decide (r 3 j = k))), .int (m_gl (r 3) (r 4) (r 14) k j)]) rfl ?_
        refine lv_if_eq (tgt := 54) hx hb dX6_goal_23 (by decide) (fun b23 => ?_) (fun b23 => ?_)
        · skip
          have c23 := b2d0 b23
          refine lv_iconst (v := 0) hx hb dX6_goal_54 (by decide) ?_
          refine lv_iadd hx hb dX6_goal_55 ?_
          refine lv_istore_n (lv' := [(3, .int ((m_gl (r 3) (r 4) (r 14) k j) + 0)), (0, .ref (ad 0)), (1, .int k), (2, .int 0), (4, .int (nI j))]) hx hb dX6_goal_56 rfl hl (by decide) rfl (fun ls hl => ?_)
          refine lv_iinc (v := nI (j + 1)) (lv' := [(4, .int (nI (j + 1))), (3, .int ((m_gl (r 3) (r 4) (r 14) k j) + 0)), (0, .ref (ad 0)), (1, .int k), (2, .int 0)]) hx hb dX6_goal_57 hl (k := 4) rfl (nI_1 j) (by decide) rfl (fun ls hl => ?_)
          refine lv_goto (tgt := 5) hx hb dX6_goal_60 (by decide) ?_
          exact ih5 (j + 1) (by omega) (by omega) ls (lv_cast (lv_sub (l' := [(0, .ref (ad 0)), (1, .int k), (2, .int 0), (3, .int ((m_gl (r 3) (r 4) (r 14) k j) + 0)), (4, .int (nI (j + 1)))]) hl [2, 3, 4, 1, 0] rfl) (by simp [m_gl, nI_1, b11, c23]))
        · skip
          have c23 := b2d1 b23
          refine lv_aload_n hx hb dX6_goal_26 rfl (lv_at hl 0 rfl) ?_
          refine gf S hK hP 0 ml_0 fX6_23 (v := .ref (ad 4)) mr_4 dX6_goal_27 ?_
          refine lv_iload hx hb dX6_goal_30 (lv_at hl 4 rfl) ?_
          refine ild S hK hP 4 ml_4 (j := j) (by omega) (Nat.le_of_ble_eq_true rfl) dX6_goal_32 ?_
          refine lv_as (y := r 4 j) rfl ?_
          refine lv_bipush (v := 117) hx hb dX6_goal_33 (by decide) ?_
          refine lv_icmp_eq (tgt := 54) hx hb dX6_goal_35 (by decide) (fun b35 => ?_) (fun b35 => ?_)
          · skip
            refine lv_iconst (v := 0) hx hb dX6_goal_54 (by decide) ?_
            refine lv_iadd hx hb dX6_goal_55 ?_
            refine lv_istore_n (lv' := [(3, .int ((m_gl (r 3) (r 4) (r 14) k j) + 0)), (0, .ref (ad 0)), (1, .int k), (2, .int 0), (4, .int (nI j))]) hx hb dX6_goal_56 rfl hl (by decide) rfl (fun ls hl => ?_)
            refine lv_iinc (v := nI (j + 1)) (lv' := [(4, .int (nI (j + 1))), (3, .int ((m_gl (r 3) (r 4) (r 14) k j) + 0)), (0, .ref (ad 0)), (1, .int k), (2, .int 0)]) hx hb dX6_goal_57 hl (k := 4) rfl (nI_1 j) (by decide) rfl (fun ls hl => ?_)
            refine lv_goto (tgt := 5) hx hb dX6_goal_60 (by decide) ?_
            exact ih5 (j + 1) (by omega) (by omega) ls (lv_cast (lv_sub (l' := [(0, .ref (ad 0)), (1, .int k), (2, .int 0), (3, .int ((m_gl (r 3) (r 4) (r 14) k j) + 0)), (4, .int (nI (j + 1)))]) hl [2, 3, 4, 1, 0] rfl) (by simp [m_gl, nI_1, b11, c23, b35]))
          · skip
            refine lv_aload_n hx hb dX6_goal_38 rfl (lv_at hl 0 rfl) ?_
            refine gf S hK hP 0 ml_0 fX6_53 (v := .ref (ad 14)) mr_14 dX6_goal_39 ?_
            refine lv_iload hx hb dX6_goal_42 (lv_at hl 4 rfl) ?_
            refine zld S hK hP 14 ml_14 (j := j) (by omega) (Nat.le_of_ble_eq_true rfl) dX6_goal_44 ?_
            refine lv_as (y := r 14 j) rfl ?_
            refine lv_if_ne (tgt := 54) hx hb dX6_goal_45 (by decide) (fun b45 => ?_) (fun b45 => ?_)
            · skip
              refine lv_iconst (v := 0) hx hb dX6_goal_54 (by decide) ?_
              refine lv_iadd hx hb dX6_goal_55 ?_
              refine lv_istore_n (lv' := [(3, .int ((m_gl (r 3) (r 4) (r 14) k j) + 0)), (0, .ref (ad 0)), (1, .int k), (2, .int 0), (4, .int (nI j))]) hx hb dX6_goal_56 rfl hl (by decide) rfl (fun ls hl => ?_)
              refine lv_iinc (v := nI (j + 1)) (lv' := [(4, .int (nI (j + 1))), (3, .int ((m_gl (r 3) (r 4) (r 14) k j) + 0)), (0, .ref (ad 0)), (1, .int k), (2, .int 0)]) hx hb dX6_goal_57 hl (k := 4) rfl (nI_1 j) (by decide) rfl (fun ls hl => ?_)
              refine lv_goto (tgt := 5) hx hb dX6_goal_60 (by decide) ?_
              exact ih5 (j + 1) (by omega) (by omega) ls (lv_cast (lv_sub (l' := [(0, .ref (ad 0)), (1, .int k), (2, .int 0), (3, .int ((m_gl (r 3) (r 4) (r 14) k j) + 0)), (4, .int (nI (j + 1)))]) hl [2, 3, 4, 1, 0] rfl) (by simp [m_gl, nI_1, b11, c23, b35, b45]))
            · skip
              refine lv_sipush (v := 1000) hx hb dX6_goal_48 (by decide) ?_
              refine lv_goto (tgt := 55) hx hb dX6_goal_51 (by decide) ?_
              refine lv_iadd hx hb dX6_goal_55 ?_
              refine lv_istore_n (lv' := [(3, .int ((m_gl (r 3) (r 4) (r 14) k j) + 1000)), (0, .ref (ad 0)), (1, .int k), (2, .int 0), (4, .int (nI j))]) hx hb dX6_goal_56 rfl hl (by decide) rfl (fun ls hl => ?_)
              refine lv_iinc (v := nI (j + 1)) (lv' := [(4, .int (nI (j + 1))), (3, .int ((m_gl (r 3) (r 4) (r 14) k j) + 1000)), (0, .ref (ad 0)), (1, .int k), (2, .int 0)]) hx hb dX6_goal_57 hl (k := 4) rfl (nI_1 j) (by decide) rfl (fun ls hl => ?_)
              refine lv_goto (tgt := 5) hx hb dX6_goal_60 (by decide) ?_
              exact ih5 (j + 1) (by omega) (by omega) ls (lv_cast (lv_sub (l' := [(0, .ref (ad 0)), (1, .int k), (2, .int 0), (3, .int ((m_gl (r 3) (r 4) (r 14) k j) + 1000)), (4, .int (nI (j + 1)))]) hl [2, 3, 4, 1, 0] rfl) (by simp [m_gl, nI_1, b11, c23, b35, b45]))
  exact hL5 _ 0 (Nat.lt_succ_self _) (Nat.zero_le _) ls (lv_cast (lv_sub (l' := [(0, .ref (ad 0)), (1, .int k), (2, .int 0), (3, .int 0), (4, .int 0)]) hl [2, 3, 4, 1, 0] rfl) (by rfl))

set_option maxHeartbeats 4000000 in
set_option maxRecDepth 100000 in
theorem rr_target0 (l : Launch) (dg : va_G) (cA : Nat → ClassId) (ad : Nat → Nat) (r : St) (ns : Nat) (hns : r 0 2 = nI ns) (hns4 : ns ≤ 4) (s : Int32) (hv : s < 0 ∨ nI ns ≤ s) (sz : Nat) : MetM l dg cA yX6_target cX6_target 2 (some .int) ({ frames := 1, cells := 0, slots := 0, locals := 22 } : Room) 0 0 (mw cA ad r) sz [.ref (ad 0), .int s] (mw cA ad (up r 0 0 1)) (some (.int 0)) := by
  refine ofM (by decide) (Nat.le_of_ble_eq_true rfl) (own := RX6) rfl (fun p e s0 m args below meth c ls A hAe S hr hlk hname hargs hK hP hD hS hA hsz hl => ?_)
  have hx := S.1
  have hb := S.2.1
  have hl : lv_has ls 2 [(0, .ref (ad 0)), (1, .int s)] := hl
  refine lv_iload_n hx hb dX6_target_0 rfl (lv_at hl 1 rfl) ?_
  refine lv_iconst (v := 0) hx hb dX6_target_1 (by decide) ?_
  refine lv_aload_n hx hb dX6_target_2 rfl (lv_at hl 0 rfl) ?_
  refine gf S hK hP 0 ml_0 fX6_108 (v := .int (nI ns)) (mv_2 hns) dX6_target_3 ?_
  refine lv_iconst (v := 1) hx hb dX6_target_6 (by decide) ?_
  refine lv_isub hx hb dX6_target_7 ?_
  refine cRS S (rr_in0 l dg cA (mw cA ad r) s 0 ((nI ns) - 1) (idx_bad hv (by omega))) kX6_96 ⟨rfl, rfl, Nat.le_of_ble_eq_true rfl, Nat.le_of_ble_eq_true rfl⟩ hK hP (As := [.int s, .int 0, .int ((nI ns) - 1)]) rfl hl.1 (rest := []) rfl (Nat.le_of_ble_eq_true rfl) dX6_target_8 ⟨Nat.le_of_ble_eq_true rfl, Nat.le_of_ble_eq_true rfl⟩ (st1 := [.int 0]) rfl ?_
  refine lv_if_ne (tgt := 20) hx hb dX6_target_11 (by decide) (fun b11 => ?_) (fun b11 => ?_)
  · skip
    exact False.elim (by revert b11; decide)
  · skip
    refine lv_aload_n hx hb dX6_target_14 rfl (lv_at hl 0 rfl) ?_
    refine lv_iconst (v := 1) hx hb dX6_target_15 (by decide) ?_
    refine cM S (rr_fails l dg cA ad r 1 _) kX6_104 ⟨rfl, rfl, Nat.le_of_ble_eq_true rfl, Nat.le_of_ble_eq_true rfl⟩ hK hP hD hS hA 0 ml_0 (q := (RX6, TX6, 31)) rfl rfl (As := [.int 1]) rfl hl.1 (rest := []) rfl (Nat.le_of_ble_eq_true rfl) dX6_target_16 ⟨Nat.le_of_ble_eq_true rfl, Nat.le_of_ble_eq_true rfl⟩ (st1 := [.int 0]) rfl (fun H locs hP hD hS => ?_)
    exact eMi S hr hlk hP hD hS dX6_target_19 rfl rfl

set_option maxHeartbeats 4000000 in
set_option maxRecDepth 100000 in
theorem rr_target1 (l : Launch) (dg : va_G) (cA : Nat → ClassId) (ad : Nat → Nat) (r : St) (n : Nat) (hn : r 0 3 = nI n) (hn24 : n ≤ 24) (ns : Nat) (hns : r 0 2 = nI ns) (hns4 : ns ≤ 4) (js : Nat) (hjs : js < ns) (sz : Nat) : MetM l dg cA yX6_target cX6_target 2 (some .int) ({ frames := 2, cells := 0, slots := 0, locals := 47 } : Room) 0 0 (mw cA ad r) sz [.ref (ad 0), .int (nI js)] (mw cA ad (up r 0 0 0)) (some (.int (m_gl (r 1) (r 4) (r 14) (nI js) n))) := by
  refine ofM (by decide) (Nat.le_of_ble_eq_true rfl) (own := RX6) rfl (fun p e s0 m args below meth c ls A hAe S hr hlk hname hargs hK hP hD hS hA hsz hl => ?_)
  have hx := S.1
  have hb := S.2.1
  have hl : lv_has ls 2 [(0, .ref (ad 0)), (1, .int (nI js))] := hl
  refine lv_iload_n hx hb dX6_target_0 rfl (lv_at hl 1 rfl) ?_
  refine lv_iconst (v := 0) hx hb dX6_target_1 (by decide) ?_
  refine lv_aload_n hx hb dX6_target_2 rfl (lv_at hl 0 rfl) ?_
  refine gf S hK hP 0 ml_0 fX6_108 (v := .int (nI ns)) (mv_2 hns) dX6_target_3 ?_
  refine lv_iconst (v := 1) hx hb dX6_target_6 (by decide) ?_
  refine lv_isub hx hb dX6_target_7 ?_
  refine cRS S (rr_in1 l dg cA (mw cA ad r) (nI js) 0 ((nI ns) - 1) (nI_pos (by omega)) (idx_hi hjs (by omega))) kX6_96 ⟨rfl, rfl, Nat.le_of_ble_eq_true rfl, Nat.le_of_ble_eq_true rfl⟩ hK hP (As := [.int (nI js), .int 0, .int ((nI ns) - 1)]) rfl hl.1 (rest := []) rfl (Nat.le_of_ble_eq_true rfl) dX6_target_8 ⟨Nat.le_of_ble_eq_true rfl, Nat.le_of_ble_eq_true rfl⟩ (st1 := [.int 1]) rfl ?_
  refine lv_if_ne (tgt := 20) hx hb dX6_target_11 (by decide) (fun b11 => ?_) (fun b11 => ?_)
  · skip
    refine lv_aload_n hx hb dX6_target_20 rfl (lv_at hl 0 rfl) ?_
    refine lv_iconst (v := 0) hx hb dX6_target_21 (by decide) ?_
    refine pf S hK hP hD hS 0 ml_0 fX6_90 fpX6 rfl (v := .int 0) rfl rfl (Nat.le_of_ble_eq_true rfl) ms_0_0 dX6_target_22 (fun H locs hP hD hS => ?_)
    refine lv_aload_n hx hb dX6_target_25 rfl (lv_at hl 0 rfl) ?_
    refine lv_iload_n hx hb dX6_target_26 rfl (lv_at hl 1 rfl) ?_
    refine lv_iconst (v := 1) hx hb dX6_target_27 (by decide) ?_
    refine cR S (rr_goal1 l dg cA ad (up r 0 0 0) n hn hn24 (nI js)) kX6_143 ⟨rfl, rfl, Nat.le_of_ble_eq_true rfl, Nat.le_of_ble_eq_true rfl⟩ hK hP 0 ml_0 (q := (RX6, TX6, 31)) rfl rfl (As := [.int (nI js), .int 1]) rfl hl.1 (rest := []) rfl (Nat.le_of_ble_eq_true rfl) dX6_target_28 ⟨Nat.le_of_ble_eq_true rfl, Nat.le_of_ble_eq_true rfl⟩ (st1 := [.int (m_gl (r 1) (r 4) (r 14) (nI js) n)]) rfl ?_
    exact eMi S hr hlk hP hD hS dX6_target_31 rfl rfl
  · skip
    exact False.elim (by revert b11; decide)

set_option maxHeartbeats 4000000 in
set_option maxRecDepth 100000 in
theorem rr_isSound (l : Launch) (dg : va_G) (cA : Nat → ClassId) (ad : Nat → Nat) (r : St) (sz : Nat) : MetM l dg cA yX6_isSound cX6_isSound 1 (some .boolean) ({ frames := 0, cells := 0, slots := 0, locals := 0 } : Room) 0 0 (mw cA ad r) sz [.ref (ad 0)] (mw cA ad (up r 0 0 0)) (some (.int 1)) := by
  refine ofM (by decide) (Nat.le_of_ble_eq_true rfl) (own := RX6) rfl (fun p e s0 m args below meth c ls A hAe S hr hlk hname hargs hK hP hD hS hA hsz hl => ?_)
  have hx := S.1
  have hb := S.2.1
  have hl : lv_has ls 1 [(0, .ref (ad 0))] := hl
  refine lv_aload_n hx hb dX6_isSound_0 rfl (lv_at hl 0 rfl) ?_
  refine lv_iconst (v := 0) hx hb dX6_isSound_1 (by decide) ?_
  refine pf S hK hP hD hS 0 ml_0 fX6_90 fpX6 rfl (v := .int 0) rfl rfl (Nat.le_of_ble_eq_true rfl) ms_0_0 dX6_isSound_2 (fun H locs hP hD hS => ?_)
  refine lv_iconst (v := 1) hx hb dX6_isSound_5 (by decide) ?_
  exact eMz S hr hlk hP hD hS dX6_isSound_6 rfl rfl rfl

set_option maxHeartbeats 4000000 in
set_option maxRecDepth 100000 in
theorem rr_answersTo0 (l : Launch) (dg : va_G) (cA : Nat → ClassId) (ad : Nat → Nat) (r : St) (ni : Nat) (hni : r 0 4 = nI ni) (hni4 : ni ≤ 4) (v : Int32) (hv : v < 0 ∨ nI ni ≤ v) (sz : Nat) : MetM l dg cA yX6_answersTo cX6_answersTo 4 (some .int) ({ frames := 2, cells := 0, slots := 0, locals := 43 } : Room) 0 0 (mw cA ad r) sz [.ref (ad 0), .int v] (mw cA ad (up r 0 0 1)) (some (.int 0)) := by
  refine ofM (by decide) (Nat.le_of_ble_eq_true rfl) (own := RX6) rfl (fun p e s0 m args below meth c ls A hAe S hr hlk hname hargs hK hP hD hS hA hsz hl => ?_)
  have hx := S.1
  have hb := S.2.1
  have hl : lv_has ls 4 [(0, .ref (ad 0)), (1, .int v)] := hl
  refine lv_aload_n hx hb dX6_answersTo_0 rfl (lv_at hl 0 rfl) ?_
  refine lv_iload_n hx hb dX6_answersTo_1 rfl (lv_at hl 1 rfl) ?_
  refine cM S (rr_isInt0 l dg cA ad r ni hni hni4 v hv _) kX6_129 ⟨rfl, rfl, Nat.le_of_ble_eq_true rfl, Nat.le_of_ble_eq_true rfl⟩ hK hP hD hS hA 0 ml_0 (q := (RX6, TX6, 31)) rfl rfl (As := [.int v]) rfl hl.1 (rest := []) rfl (Nat.le_of_ble_eq_true rfl) dX6_answersTo_2 ⟨Nat.le_of_ble_eq_true rfl, Nat.le_of_ble_eq_true rfl⟩ (st1 := [.int 0]) rfl (fun H locs hP hD hS => ?_)
  refine lv_if_ne (tgt := 10) hx hb dX6_answersTo_5 (by decide) (fun b5 => ?_) (fun b5 => ?_)
  · skip
    exact False.elim (by revert b5; decide)
  · skip
    refine lv_iconst (v := 0) hx hb dX6_answersTo_8 (by decide) ?_
    exact eMi S hr hlk hP hD hS dX6_answersTo_9 rfl rfl

set_option maxHeartbeats 4000000 in
set_option maxRecDepth 100000 in
theorem rr_answersTo1 (l : Launch) (dg : va_G) (cA : Nat → ClassId) (ad : Nat → Nat) (r : St) (n : Nat) (hn : r 0 3 = nI n) (hn24 : n ≤ 24) (ni : Nat) (hni : r 0 4 = nI ni) (hni4 : ni ≤ 4) (i : Nat) (hi : i < ni) (sz : Nat) : MetM l dg cA yX6_answersTo cX6_answersTo 4 (some .int) ({ frames := 2, cells := 0, slots := 0, locals := 43 } : Room) 0 0 (mw cA ad r) sz [.ref (ad 0), .int (nI i)] (mw cA ad (up r 0 0 0)) (some (.int (nI (ct (fun h => decide (r 4 h = 97) && decide (r 11 h = nI i)) n)))) := by
  refine ofM (by decide) (Nat.le_of_ble_eq_true rfl) (own := RX6) rfl (fun p e s0 m args below meth c ls A hAe S hr hlk hname hargs hK hP hD hS hA hsz hl => ?_)
  have hx := S.1
  have hb := S.2.1
  have hl : lv_has ls 4 [(0, .ref (ad 0)), (1, .int (nI i))] := hl
  refine lv_aload_n hx hb dX6_answersTo_0 rfl (lv_at hl 0 rfl) ?_
  refine lv_iload_n hx hb dX6_answersTo_1 rfl (lv_at hl 1 rfl) ?_
  refine cM S (rr_isInt1 l dg cA ad r ni hni hni4 i hi _) kX6_129 ⟨rfl, rfl, Nat.le_of_ble_eq_true rfl, Nat.le_of_ble_eq_true rfl⟩ hK hP hD hS hA 0 ml_0 (q := (RX6, TX6, 31)) rfl rfl (As := [.int (nI i)]) rfl hl.1 (rest := []) rfl (Nat.le_of_ble_eq_true rfl) dX6_answersTo_2 ⟨Nat.le_of_ble_eq_true rfl, Nat.le_of_ble_eq_true rfl⟩ (st1 := [.int 1]) rfl (fun H locs hP hD hS => ?_)
  refine lv_if_ne (tgt := 10) hx hb dX6_answersTo_5 (by decide) (fun b5 => ?_) (fun b5 => ?_)
  · skip
    refine lv_iconst (v := 0) hx hb dX6_answersTo_10 (by decide) ?_
    refine lv_istore_n (lv' := [(2, .int 0), (0, .ref (ad 0)), (1, .int (nI i))]) hx hb dX6_answersTo_11 rfl hl (by decide) rfl (fun ls hl => ?_)
    refine lv_iconst (v := 0) hx hb dX6_answersTo_12 (by decide) ?_
    refine lv_istore_n (lv' := [(3, .int 0), (2, .int 0), (0, .ref (ad 0)), (1, .int (nI i))]) hx hb dX6_answersTo_13 rfl hl (by decide) rfl (fun ls hl => ?_)
    have hL14 : ∀ (f : Nat) (j : Nat), n - j < f → (j ≤ n) → ∀ ls, lv_has ls 4 [(0, .ref (ad 0)), (1, .int (nI i)), (2, .int (nI (ct (fun h => decide (r 4 h = 97) && decide (r 11 h = nI i)) j))), (3, .int (nI j))] → ∀ (H : Heap) (locs : List Loc), PP dg (mw cA ad (up r 0 0 0)) H → va_D A (mw cA ad (up r 0 0 0)) → va_S A s0.heap H locs → W p l e ({ frames := 2, cells := 0, slots := 0, locals := 43 } : Room) s0 m args below meth c H locs 0 0 (MQ below (QcM dg (mw cA ad (up r 0 0 0)) (some (.int (nI (ct (fun h => decide (r 4 h = 97) && decide (r 11 h = nI i)) n)))) A) args s0 0 0 A) (F0 m 14 ls []) := by
      intro f
      induction f with
      | zero => intro j hm; exact absurd hm (Nat.not_lt_zero _)
      | succ f ih14 =>
        intro j hm14 hj ls hl H locs hP hD hS
        refine lv_iload_n hx hb dX6_answersTo_14 rfl (lv_at hl 3 rfl) ?_
        refine lv_aload_n hx hb dX6_answersTo_15 rfl (lv_at hl 0 rfl) ?_
        refine gf S hK hP 0 ml_0 fX6_93 (v := .int (nI n)) (mv_3 hn) dX6_answersTo_16 ?_
        refine lv_icmp_ge (tgt := 57) hx hb dX6_answersTo_19 (by decide) (fun b19 => ?_) (fun b19 => ?_)
        · skip
          have g19 : n ≤ j := (nI_leI (a := n) (b := j) (by omega) (by omega)).mp b19
          refine lv_iload_n hx hb dX6_answersTo_57 rfl (lv_at hl 2 rfl) ?_
          exact eMi S hr hlk hP hD hS dX6_answersTo_58 (by rw [show j = n by omega]) rfl
        · skip
          have g19 : ¬ n ≤ j := fun zz => b19 ((nI_leI (a := n) (b := j) (by omega) (by omega)).mpr zz)
          refine lv_iload_n hx hb dX6_answersTo_22 rfl (lv_at hl 2 rfl) ?_
          refine lv_aload_n hx hb dX6_answersTo_23 rfl (lv_at hl 0 rfl) ?_
          refine gf S hK hP 0 ml_0 fX6_23 (v := .ref (ad 4)) mr_4 dX6_answersTo_24 ?_
          refine lv_iload_n hx hb dX6_answersTo_27 rfl (lv_at hl 3 rfl) ?_
          refine ild S hK hP 4 ml_4 (j := j) (by omega) (Nat.le_of_ble_eq_true rfl) dX6_answersTo_28 ?_
          refine lv_as (y := r 4 j) rfl ?_
          refine lv_bipush (v := 97) hx hb dX6_answersTo_29 (by decide) ?_
          refine lv_icmp_ne (tgt := 48) hx hb dX6_answersTo_31 (by decide) (fun b31 => ?_) (fun b31 => ?_)
          · skip
            refine lv_iconst (v := 0) hx hb dX6_answersTo_48 (by decide) ?_
            refine lv_iadd hx hb dX6_answersTo_49 ?_
            refine lv_istore_n (lv' := [(2, .int ((nI (ct (fun h => decide (r 4 h = 97) && decide (r 11 h = nI i)) j)) + 0)), (0, .ref (ad 0)), (1, .int (nI i)), (3, .int (nI j))]) hx hb dX6_answersTo_50 rfl hl (by decide) rfl (fun ls hl => ?_)
            refine lv_iinc (v := nI (j + 1)) (lv' := [(3, .int (nI (j + 1))), (2, .int ((nI (ct (fun h => decide (r 4 h = 97) && decide (r 11 h = nI i)) j)) + 0)), (0, .ref (ad 0)), (1, .int (nI i))]) hx hb dX6_answersTo_51 hl (k := 3) rfl (nI_1 j) (by decide) rfl (fun ls hl => ?_)
            refine lv_goto (tgt := 14) hx hb dX6_answersTo_54 (by decide) ?_
            exact ih14 (j + 1) (by omega) (by omega) ls (lv_cast (lv_sub (l' := [(0, .ref (ad 0)), (1, .int (nI i)), (2, .int ((nI (ct (fun h => decide (r 4 h = 97) && decide (r 11 h = nI i)) j)) + 0)), (3, .int (nI (j + 1)))]) hl [2, 3, 1, 0] rfl) (by simp [ct, nI_1, b19, b31])) _ _ hP hD hS
          · skip
            refine lv_aload_n hx hb dX6_answersTo_34 rfl (lv_at hl 0 rfl) ?_
            refine gf S hK hP 0 ml_0 fX6_44 (v := .ref (ad 11)) mr_11 dX6_answersTo_35 ?_
            refine lv_iload_n hx hb dX6_answersTo_38 rfl (lv_at hl 3 rfl) ?_
            refine ild S hK hP 11 ml_11 (j := j) (by omega) (Nat.le_of_ble_eq_true rfl) dX6_answersTo_39 ?_
            refine lv_as (y := r 11 j) rfl ?_
            refine lv_iload_n hx hb dX6_answersTo_40 rfl (lv_at hl 1 rfl) ?_
            refine lv_icmp_ne (tgt := 48) hx hb dX6_answersTo_41 (by decide) (fun b41 => ?_) (fun b41 => ?_)
            · skip
              refine lv_iconst (v := 0) hx hb dX6_answersTo_48 (by decide) ?_
              refine lv_iadd hx hb dX6_answersTo_49 ?_
              refine lv_istore_n (lv' := [(2, .int ((nI (ct (fun h => decide (r 4 h = 97) && decide (r 11 h = nI i)) j)) + 0)), (0, .ref (ad 0)), (1, .int (nI i)), (3, .int (nI j))]) hx hb dX6_answersTo_50 rfl hl (by decide) rfl (fun ls hl => ?_)
              refine lv_iinc (v := nI (j + 1)) (lv' := [(3, .int (nI (j + 1))), (2, .int ((nI (ct (fun h => decide (r 4 h = 97) && decide (r 11 h = nI i)) j)) + 0)), (0, .ref (ad 0)), (1, .int (nI i))]) hx hb dX6_answersTo_51 hl (k := 3) rfl (nI_1 j) (by decide) rfl (fun ls hl => ?_)
              refine lv_goto (tgt := 14) hx hb dX6_answersTo_54 (by decide) ?_
              exact ih14 (j + 1) (by omega) (by omega) ls (lv_cast (lv_sub (l' := [(0, .ref (ad 0)), (1, .int (nI i)), (2, .int ((nI (ct (fun h => decide (r 4 h = 97) && decide (r 11 h = nI i)) j)) + 0)), (3, .int (nI (j + 1)))]) hl [2, 3, 1, 0] rfl) (by simp [ct, nI_1, b19, b31, b41])) _ _ hP hD hS
            · skip
              refine lv_iconst (v := 1) hx hb dX6_answersTo_44 (by decide) ?_
              refine lv_goto (tgt := 49) hx hb dX6_answersTo_45 (by decide) ?_
              refine lv_iadd hx hb dX6_answersTo_49 ?_
              refine lv_as (y := nI (ct (fun h => decide (r 4 h = 97) && decide (r 11 h = nI i)) j + 1)) (nI_1 (ct (fun h => decide (r 4 h = 97) && decide (r 11 h = nI i)) j)) ?_
              refine lv_istore_n (lv' := [(2, .int (nI (ct (fun h => decide (r 4 h = 97) && decide (r 11 h = nI i)) j + 1))), (0, .ref (ad 0)), (1, .int (nI i)), (3, .int (nI j))]) hx hb dX6_answersTo_50 rfl hl (by decide) rfl (fun ls hl => ?_)
              refine lv_iinc (v := nI (j + 1)) (lv' := [(3, .int (nI (j + 1))), (2, .int (nI (ct (fun h => decide (r 4 h = 97) && decide (r 11 h = nI i)) j + 1))), (0, .ref (ad 0)), (1, .int (nI i))]) hx hb dX6_answersTo_51 hl (k := 3) rfl (nI_1 j) (by decide) rfl (fun ls hl => ?_)
              refine lv_goto (tgt := 14) hx hb dX6_answersTo_54 (by decide) ?_
              exact ih14 (j + 1) (by omega) (by omega) ls (lv_cast (lv_sub (l' := [(0, .ref (ad 0)), (1, .int (nI i)), (2, .int (nI (ct (fun h => decide (r 4 h = 97) && decide (r 11 h = nI i)) j + 1))), (3, .int (nI (j + 1)))]) hl [2, 3, 1, 0] rfl) (by simp [ct, nI_1, b19, b31, b41])) _ _ hP hD hS
    exact hL14 _ 0 (Nat.lt_succ_self _) (Nat.zero_le _) ls (lv_cast (lv_sub (l' := [(0, .ref (ad 0)), (1, .int (nI i)), (2, .int 0), (3, .int 0)]) hl [2, 3, 1, 0] rfl) (by rfl)) _ _ hP hD hS
  · skip
    exact False.elim (by revert b5; decide)

set_option maxHeartbeats 4000000 in
set_option maxRecDepth 100000 in
theorem rr_addHouse1 (l : Launch) (dg : va_G) (cA : Nat → ClassId) (ad : Nat → Nat) (r : St) (ns : Nat) (hns : r 0 2 = nI ns) (hns4 : ns ≤ 4) (s : Int32) (hv : s < 0 ∨ nI ns ≤ s) (pl lg : Int32) (sz : Nat) : MetM l dg cA yX6_addHouse cX6_addHouse 4 (some .int) ({ frames := 1, cells := 0, slots := 0, locals := 22 } : Room) 0 0 (mw cA ad r) sz [.ref (ad 0), .int s, .int pl, .int lg] (mw cA ad (up r 0 0 1)) (some (.int 0)) := by
  refine ofM (by decide) (Nat.le_of_ble_eq_true rfl) (own := RX6) rfl (fun p e s0 m args below meth c ls A hAe S hr hlk hname hargs hK hP hD hS hA hsz hl => ?_)
  have hx := S.1
  have hb := S.2.1
  have hl : lv_has ls 4 [(0, .ref (ad 0)), (1, .int s), (2, .int pl), (3, .int lg)] := hl
  refine lv_iload_n hx hb dX6_addHouse_0 rfl (lv_at hl 1 rfl) ?_
  refine lv_iconst (v := 0) hx hb dX6_addHouse_1 (by decide) ?_
  refine lv_aload_n hx hb dX6_addHouse_2 rfl (lv_at hl 0 rfl) ?_
  refine gf S hK hP 0 ml_0 fX6_108 (v := .int (nI ns)) (mv_2 hns) dX6_addHouse_3 ?_
  refine lv_iconst (v := 1) hx hb dX6_addHouse_6 (by decide) ?_
  refine lv_isub hx hb dX6_addHouse_7 ?_
  refine cRS S (rr_in0 l dg cA (mw cA ad r) s 0 ((nI ns) - 1) (idx_bad hv (by omega))) kX6_96 ⟨rfl, rfl, Nat.le_of_ble_eq_true rfl, Nat.le_of_ble_eq_true rfl⟩ hK hP (As := [.int s, .int 0, .int ((nI ns) - 1)]) rfl hl.1 (rest := []) rfl (Nat.le_of_ble_eq_true rfl) dX6_addHouse_8 ⟨Nat.le_of_ble_eq_true rfl, Nat.le_of_ble_eq_true rfl⟩ (st1 := [.int 0]) rfl ?_
  refine lv_if_ne (tgt := 20) hx hb dX6_addHouse_11 (by decide) (fun b11 => ?_) (fun b11 => ?_)
  · skip
    exact False.elim (by revert b11; decide)
  · skip
    refine lv_aload_n hx hb dX6_addHouse_14 rfl (lv_at hl 0 rfl) ?_
    refine lv_iconst (v := 1) hx hb dX6_addHouse_15 (by decide) ?_
    refine cM S (rr_fails l dg cA ad r 1 _) kX6_104 ⟨rfl, rfl, Nat.le_of_ble_eq_true rfl, Nat.le_of_ble_eq_true rfl⟩ hK hP hD hS hA 0 ml_0 (q := (RX6, TX6, 31)) rfl rfl (As := [.int 1]) rfl hl.1 (rest := []) rfl (Nat.le_of_ble_eq_true rfl) dX6_addHouse_16 ⟨Nat.le_of_ble_eq_true rfl, Nat.le_of_ble_eq_true rfl⟩ (st1 := [.int 0]) rfl (fun H locs hP hD hS => ?_)
    exact eMi S hr hlk hP hD hS dX6_addHouse_19 rfl rfl

set_option maxHeartbeats 4000000 in
set_option maxRecDepth 100000 in
theorem rr_addHouse2 (l : Launch) (dg : va_G) (cA : Nat → ClassId) (ad : Nat → Nat) (r : St) (ns : Nat) (hns : r 0 2 = nI ns) (hns4 : ns ≤ 4) (js : Nat) (hjs : js < ns) (pl lg : Int32) (hb2 : ¬ ((¬ pl < 0 ∧ ¬ 99 < pl) ∧ (¬ lg < 0 ∧ ¬ 2 < lg))) (sz : Nat) : MetM l dg cA yX6_addHouse cX6_addHouse 4 (some .int) ({ frames := 1, cells := 0, slots := 0, locals := 22 } : Room) 0 0 (mw cA ad r) sz [.ref (ad 0), .int (nI js), .int pl, .int lg] (mw cA ad (up r 0 0 2)) (some (.int 0)) := by
  refine ofM (by decide) (Nat.le_of_ble_eq_true rfl) (own := RX6) rfl (fun p e s0 m args below meth c ls A hAe S hr hlk hname hargs hK hP hD hS hA hsz hl => ?_)
  have hx := S.1
  have hb := S.2.1
  have hl : lv_has ls 4 [(0, .ref (ad 0)), (1, .int (nI js)), (2, .int pl), (3, .int lg)] := hl
  refine lv_iload_n hx hb dX6_addHouse_0 rfl (lv_at hl 1 rfl) ?_
  refine lv_iconst (v := 0) hx hb dX6_addHouse_1 (by decide) ?_
  refine lv_aload_n hx hb dX6_addHouse_2 rfl (lv_at hl 0 rfl) ?_
  refine gf S hK hP 0 ml_0 fX6_108 (v := .int (nI ns)) (mv_2 hns) dX6_addHouse_3 ?_
  refine lv_iconst (v := 1) hx hb dX6_addHouse_6 (by decide) ?_
  refine lv_isub hx hb dX6_addHouse_7 ?_
  refine cRS S (rr_in1 l dg cA (mw cA ad r) (nI js) 0 ((nI ns) - 1) (nI_pos (by omega)) (idx_hi hjs (by omega))) kX6_96 ⟨rfl, rfl, Nat.le_of_ble_eq_true rfl, Nat.le_of_ble_eq_true rfl⟩ hK hP (As := [.int (nI js), .int 0, .int ((nI ns) - 1)]) rfl hl.1 (rest := []) rfl (Nat.le_of_ble_eq_true rfl) dX6_addHouse_8 ⟨Nat.le_of_ble_eq_true rfl, Nat.le_of_ble_eq_true rfl⟩ (st1 := [.int 1]) rfl ?_
  refine lv_if_ne (tgt := 20) hx hb dX6_addHouse_11 (by decide) (fun b11 => ?_) (fun b11 => ?_)
  · skip
    refine lv_iload_n hx hb dX6_addHouse_20 rfl (lv_at hl 2 rfl) ?_
    refine lv_iconst (v := 0) hx hb dX6_addHouse_21 (by decide) ?_
    refine lv_bipush (v := 99) hx hb dX6_addHouse_22 (by decide) ?_
    by_cases c24 : ¬ pl < 0 ∧ ¬ 99 < pl
    · skip
      refine cRS S (rr_in1 l dg cA (mw cA ad r) pl 0 99 c24.1 c24.2) kX6_96 ⟨rfl, rfl, Nat.le_of_ble_eq_true rfl, Nat.le_of_ble_eq_true rfl⟩ hK hP (As := [.int pl, .int 0, .int 99]) rfl hl.1 (rest := []) rfl (Nat.le_of_ble_eq_true rfl) dX6_addHouse_24 ⟨Nat.le_of_ble_eq_true rfl, Nat.le_of_ble_eq_true rfl⟩ (st1 := [.int 1]) rfl ?_
      refine lv_if_eq (tgt := 39) hx hb dX6_addHouse_27 (by decide) (fun b27 => ?_) (fun b27 => ?_)
      · skip
        exact absurd b27 b11
      · skip
        refine lv_iload_n hx hb dX6_addHouse_30 rfl (lv_at hl 3 rfl) ?_
        refine lv_iconst (v := 0) hx hb dX6_addHouse_31 (by decide) ?_
        refine lv_iconst (v := 2) hx hb dX6_addHouse_32 (by decide) ?_
        refine cRS S (rr_in0 l dg cA (mw cA ad r) lg 0 2 (fun z => hb2 ⟨c24, z⟩)) kX6_96 ⟨rfl, rfl, Nat.le_of_ble_eq_true rfl, Nat.le_of_ble_eq_true rfl⟩ hK hP (As := [.int lg, .int 0, .int 2]) rfl hl.1 (rest := []) rfl (Nat.le_of_ble_eq_true rfl) dX6_addHouse_33 ⟨Nat.le_of_ble_eq_true rfl, Nat.le_of_ble_eq_true rfl⟩ (st1 := [.int 0]) rfl ?_
        refine lv_if_ne (tgt := 45) hx hb dX6_addHouse_36 (by decide) (fun b36 => ?_) (fun b36 => ?_)
        · skip
          exact False.elim (by revert b36; decide)
        · skip
          refine lv_aload_n hx hb dX6_addHouse_39 rfl (lv_at hl 0 rfl) ?_
          refine lv_iconst (v := 2) hx hb dX6_addHouse_40 (by decide) ?_
          refine cM S (rr_fails l dg cA ad r 2 _) kX6_104 ⟨rfl, rfl, Nat.le_of_ble_eq_true rfl, Nat.le_of_ble_eq_true rfl⟩ hK hP hD hS hA 0 ml_0 (q := (RX6, TX6, 31)) rfl rfl (As := [.int 2]) rfl hl.1 (rest := []) rfl (Nat.le_of_ble_eq_true rfl) dX6_addHouse_41 ⟨Nat.le_of_ble_eq_true rfl, Nat.le_of_ble_eq_true rfl⟩ (st1 := [.int 0]) rfl (fun H locs hP hD hS => ?_)
          exact eMi S hr hlk hP hD hS dX6_addHouse_44 rfl rfl
    · skip
      refine cRS S (rr_in0 l dg cA (mw cA ad r) pl 0 99 c24) kX6_96 ⟨rfl, rfl, Nat.le_of_ble_eq_true rfl, Nat.le_of_ble_eq_true rfl⟩ hK hP (As := [.int pl, .int 0, .int 99]) rfl hl.1 (rest := []) rfl (Nat.le_of_ble_eq_true rfl) dX6_addHouse_24 ⟨Nat.le_of_ble_eq_true rfl, Nat.le_of_ble_eq_true rfl⟩ (st1 := [.int 0]) rfl ?_
      refine lv_if_eq (tgt := 39) hx hb dX6_addHouse_27 (by decide) (fun b27 => ?_) (fun b27 => ?_)
      · skip
        refine lv_aload_n hx hb dX6_addHouse_39 rfl (lv_at hl 0 rfl) ?_
        refine lv_iconst (v := 2) hx hb dX6_addHouse_40 (by decide) ?_
        refine cM S (rr_fails l dg cA ad r 2 _) kX6_104 ⟨rfl, rfl, Nat.le_of_ble_eq_true rfl, Nat.le_of_ble_eq_true rfl⟩ hK hP hD hS hA 0 ml_0 (q := (RX6, TX6, 31)) rfl rfl (As := [.int 2]) rfl hl.1 (rest := []) rfl (Nat.le_of_ble_eq_true rfl) dX6_addHouse_41 ⟨Nat.le_of_ble_eq_true rfl, Nat.le_of_ble_eq_true rfl⟩ (st1 := [.int 0]) rfl (fun H locs hP hD hS => ?_)
        exact eMi S hr hlk hP hD hS dX6_addHouse_44 rfl rfl
      · skip
        exact False.elim (by revert b27; decide)
  · skip
    exact False.elim (by revert b11; decide)

set_option maxHeartbeats 4000000 in
set_option maxRecDepth 100000 in
theorem rr_addHouse3 (l : Launch) (dg : va_G) (cA : Nat → ClassId) (ad : Nat → Nat) (r : St) (hn : r 0 3 = 24) (ns : Nat) (hns : r 0 2 = nI ns) (hns4 : ns ≤ 4) (js : Nat) (hjs : js < ns) (pl lg : Int32) (h1 : ¬ pl < 0) (h2 : ¬ 99 < pl) (h3 : ¬ lg < 0) (h4 : ¬ 2 < lg) (sz : Nat) : MetM l dg cA yX6_addHouse cX6_addHouse 4 (some .int) ({ frames := 1, cells := 0, slots := 0, locals := 22 } : Room) 0 0 (mw cA ad r) sz [.ref (ad 0), .int (nI js), .int pl, .int lg] (mw cA ad (up r 0 0 3)) (some (.int 0)) := by
  refine ofM (by decide) (Nat.le_of_ble_eq_true rfl) (own := RX6) rfl (fun p e s0 m args below meth c ls A hAe S hr hlk hname hargs hK hP hD hS hA hsz hl => ?_)
  have hx := S.1
  have hb := S.2.1
  have hl : lv_has ls 4 [(0, .ref (ad 0)), (1, .int (nI js)), (2, .int pl), (3, .int lg)] := hl
  refine lv_iload_n hx hb dX6_addHouse_0 rfl (lv_at hl 1 rfl) ?_
  refine lv_iconst (v := 0) hx hb dX6_addHouse_1 (by decide) ?_
  refine lv_aload_n hx hb dX6_addHouse_2 rfl (lv_at hl 0 rfl) ?_
  refine gf S hK hP 0 ml_0 fX6_108 (v := .int (nI ns)) (mv_2 hns) dX6_addHouse_3 ?_
  refine lv_iconst (v := 1) hx hb dX6_addHouse_6 (by decide) ?_
  refine lv_isub hx hb dX6_addHouse_7 ?_
  refine cRS S (rr_in1 l dg cA (mw cA ad r) (nI js) 0 ((nI ns) - 1) (nI_pos (by omega)) (idx_hi hjs (by omega))) kX6_96 ⟨rfl, rfl, Nat.le_of_ble_eq_true rfl, Nat.le_of_ble_eq_true rfl⟩ hK hP (As := [.int (nI js), .int 0, .int ((nI ns) - 1)]) rfl hl.1 (rest := []) rfl (Nat.le_of_ble_eq_true rfl) dX6_addHouse_8 ⟨Nat.le_of_ble_eq_true rfl, Nat.le_of_ble_eq_true rfl⟩ (st1 := [.int 1]) rfl ?_
  refine lv_if_ne (tgt := 20) hx hb dX6_addHouse_11 (by decide) (fun b11 => ?_) (fun b11 => ?_)
  · skip
    refine lv_iload_n hx hb dX6_addHouse_20 rfl (lv_at hl 2 rfl) ?_
    refine lv_iconst (v := 0) hx hb dX6_addHouse_21 (by decide) ?_
    refine lv_bipush (v := 99) hx hb dX6_addHouse_22 (by decide) ?_
    refine cRS S (rr_in1 l dg cA (mw cA ad r) pl 0 99 h1 h2) kX6_96 ⟨rfl, rfl, Nat.le_of_ble_eq_true rfl, Nat.le_of_ble_eq_true rfl⟩ hK hP (As := [.int pl, .int 0, .int 99]) rfl hl.1 (rest := []) rfl (Nat.le_of_ble_eq_true rfl) dX6_addHouse_24 ⟨Nat.le_of_ble_eq_true rfl, Nat.le_of_ble_eq_true rfl⟩ (st1 := [.int 1]) rfl ?_
    refine lv_if_eq (tgt := 39) hx hb dX6_addHouse_27 (by decide) (fun b27 => ?_) (fun b27 => ?_)
    · skip
      exact absurd b27 b11
    · skip
      refine lv_iload_n hx hb dX6_addHouse_30 rfl (lv_at hl 3 rfl) ?_
      refine lv_iconst (v := 0) hx hb dX6_addHouse_31 (by decide) ?_
      refine lv_iconst (v := 2) hx hb dX6_addHouse_32 (by decide) ?_
      refine cRS S (rr_in1 l dg cA (mw cA ad r) lg 0 2 h3 h4) kX6_96 ⟨rfl, rfl, Nat.le_of_ble_eq_true rfl, Nat.le_of_ble_eq_true rfl⟩ hK hP (As := [.int lg, .int 0, .int 2]) rfl hl.1 (rest := []) rfl (Nat.le_of_ble_eq_true rfl) dX6_addHouse_33 ⟨Nat.le_of_ble_eq_true rfl, Nat.le_of_ble_eq_true rfl⟩ (st1 := [.int 1]) rfl ?_
      refine lv_if_ne (tgt := 45) hx hb dX6_addHouse_36 (by decide) (fun b36 => ?_) (fun b36 => ?_)
      · skip
        refine lv_aload_n hx hb dX6_addHouse_45 rfl (lv_at hl 0 rfl) ?_
        refine gf S hK hP 0 ml_0 fX6_93 (v := .int 24) (mv_3 hn) dX6_addHouse_46 ?_
        refine lv_bipush (v := 24) hx hb dX6_addHouse_49 (by decide) ?_
        refine lv_icmp_ne (tgt := 60) hx hb dX6_addHouse_51 (by decide) (fun b51 => ?_) (fun b51 => ?_)
        · skip
          exact False.elim (by revert b51; decide)
        · skip
          refine lv_aload_n hx hb dX6_addHouse_54 rfl (lv_at hl 0 rfl) ?_
          refine lv_iconst (v := 3) hx hb dX6_addHouse_55 (by decide) ?_
          refine cM S (rr_fails l dg cA ad r 3 _) kX6_104 ⟨rfl, rfl, Nat.le_of_ble_eq_true rfl, Nat.le_of_ble_eq_true rfl⟩ hK hP hD hS hA 0 ml_0 (q := (RX6, TX6, 31)) rfl rfl (As := [.int 3]) rfl hl.1 (rest := []) rfl (Nat.le_of_ble_eq_true rfl) dX6_addHouse_56 ⟨Nat.le_of_ble_eq_true rfl, Nat.le_of_ble_eq_true rfl⟩ (st1 := [.int 0]) rfl (fun H locs hP hD hS => ?_)
          exact eMi S hr hlk hP hD hS dX6_addHouse_59 rfl rfl
      · skip
        exact absurd b36 b27
  · skip
    exact False.elim (by revert b11; decide)

set_option maxHeartbeats 4000000 in
set_option maxRecDepth 100000 in
theorem rr_addHouse4 (l : Launch) (dg : va_G) (cA : Nat → ClassId) (ad : Nat → Nat) (r : St) (n : Nat) (hn : r 0 3 = nI n) (hn24 : n < 24) (ns : Nat) (hns : r 0 2 = nI ns) (hns4 : ns ≤ 4) (js : Nat) (hjs : js < ns) (pl lg : Int32) (h1 : ¬ pl < 0) (h2 : ¬ 99 < pl) (h3 : ¬ lg < 0) (h4 : ¬ 2 < lg) (sz : Nat) : MetM l dg cA yX6_addHouse cX6_addHouse 4 (some .int) ({ frames := 1, cells := 0, slots := 0, locals := 22 } : Room) 0 0 (mw cA ad r) sz [.ref (ad 0), .int (nI js), .int pl, .int lg] (mw cA ad (m_addH r n (nI js) pl lg)) (some (.int (nI n))) := by
  refine ofM (by decide) (Nat.le_of_ble_eq_true rfl) (own := RX6) rfl (fun p e s0 m args below meth c ls A hAe S hr hlk hname hargs hK hP hD hS hA hsz hl => ?_)
  have hx := S.1
  have hb := S.2.1
  have hl : lv_has ls 4 [(0, .ref (ad 0)), (1, .int (nI js)), (2, .int pl), (3, .int lg)] := hl
  refine lv_iload_n hx hb dX6_addHouse_0 rfl (lv_at hl 1 rfl) ?_
  refine lv_iconst (v := 0) hx hb dX6_addHouse_1 (by decide) ?_
  refine lv_aload_n hx hb dX6_addHouse_2 rfl (lv_at hl 0 rfl) ?_
  refine gf S hK hP 0 ml_0 fX6_108 (v := .int (nI ns)) (mv_2 hns) dX6_addHouse_3 ?_
  refine lv_iconst (v := 1) hx hb dX6_addHouse_6 (by decide) ?_
  refine lv_isub hx hb dX6_addHouse_7 ?_
  refine cRS S (rr_in1 l dg cA (mw cA ad r) (nI js) 0 ((nI ns) - 1) (nI_pos (by omega)) (idx_hi hjs (by omega))) kX6_96 ⟨rfl, rfl, Nat.le_of_ble_eq_true rfl, Nat.le_of_ble_eq_true rfl⟩ hK hP (As := [.int (nI js), .int 0, .int ((nI ns) - 1)]) rfl hl.1 (rest := []) rfl (Nat.le_of_ble_eq_true rfl) dX6_addHouse_8 ⟨Nat.le_of_ble_eq_true rfl, Nat.le_of_ble_eq_true rfl⟩ (st1 := [.int 1]) rfl ?_
  refine lv_if_ne (tgt := 20) hx hb dX6_addHouse_11 (by decide) (fun b11 => ?_) (fun b11 => ?_)
  · skip
    refine lv_iload_n hx hb dX6_addHouse_20 rfl (lv_at hl 2 rfl) ?_
    refine lv_iconst (v := 0) hx hb dX6_addHouse_21 (by decide) ?_
    refine lv_bipush (v := 99) hx hb dX6_addHouse_22 (by decide) ?_
    refine cRS S (rr_in1 l dg cA (mw cA ad r) pl 0 99 h1 h2) kX6_96 ⟨rfl, rfl, Nat.le_of_ble_eq_true rfl, Nat.le_of_ble_eq_true rfl⟩ hK hP (As := [.int pl, .int 0, .int 99]) rfl hl.1 (rest := []) rfl (Nat.le_of_ble_eq_true rfl) dX6_addHouse_24 ⟨Nat.le_of_ble_eq_true rfl, Nat.le_of_ble_eq_true rfl⟩ (st1 := [.int 1]) rfl ?_
    refine lv_if_eq (tgt := 39) hx hb dX6_addHouse_27 (by decide) (fun b27 => ?_) (fun b27 => ?_)
    · skip
      exact absurd b27 b11
    · skip
      refine lv_iload_n hx hb dX6_addHouse_30 rfl (lv_at hl 3 rfl) ?_
      refine lv_iconst (v := 0) hx hb dX6_addHouse_31 (by decide) ?_
      refine lv_iconst (v := 2) hx hb dX6_addHouse_32 (by decide) ?_
      refine cRS S (rr_in1 l dg cA (mw cA ad r) lg 0 2 h3 h4) kX6_96 ⟨rfl, rfl, Nat.le_of_ble_eq_true rfl, Nat.le_of_ble_eq_true rfl⟩ hK hP (As := [.int lg, .int 0, .int 2]) rfl hl.1 (rest := []) rfl (Nat.le_of_ble_eq_true rfl) dX6_addHouse_33 ⟨Nat.le_of_ble_eq_true rfl, Nat.le_of_ble_eq_true rfl⟩ (st1 := [.int 1]) rfl ?_
      refine lv_if_ne (tgt := 45) hx hb dX6_addHouse_36 (by decide) (fun b36 => ?_) (fun b36 => ?_)
      · skip
        refine lv_aload_n hx hb dX6_addHouse_45 rfl (lv_at hl 0 rfl) ?_
        refine gf S hK hP 0 ml_0 fX6_93 (v := .int (nI n)) (mv_3 hn) dX6_addHouse_46 ?_
        refine lv_bipush (v := 24) hx hb dX6_addHouse_49 (by decide) ?_
        refine lv_icmp_ne (tgt := 60) hx hb dX6_addHouse_51 (by decide) (fun b51 => ?_) (fun b51 => ?_)
        · skip
          have g51 : ¬ n = 24 := fun zz => b51 ((nI_eq (a := n) (b := 24) (by omega) (by omega)).mpr zz)
          refine lv_aload_n hx hb dX6_addHouse_60 rfl (lv_at hl 0 rfl) ?_
          refine lv_iconst (v := 0) hx hb dX6_addHouse_61 (by decide) ?_
          refine pf S hK hP hD hS 0 ml_0 fX6_90 fpX6 rfl (v := .int 0) rfl rfl (Nat.le_of_ble_eq_true rfl) ms_0_0 dX6_addHouse_62 (fun H locs hP hD hS => ?_)
          refine lv_aload_n hx hb dX6_addHouse_65 rfl (lv_at hl 0 rfl) ?_
          refine gf S hK hP 0 ml_0 fX6_13 (v := .ref (ad 1)) mr_1 dX6_addHouse_66 ?_
          refine lv_aload_n hx hb dX6_addHouse_69 rfl (lv_at hl 0 rfl) ?_
          refine gf S hK hP 0 ml_0 fX6_93 (v := .int (nI n)) (mv_3 hn) dX6_addHouse_70 ?_
          refine lv_iload_n hx hb dX6_addHouse_73 rfl (lv_at hl 1 rfl) ?_
          refine ist S hK hP hD hS 1 ml_1 (j := n) (x := nI js) (by omega) (Nat.le_of_ble_eq_true rfl) ms_1 dX6_addHouse_74 (fun H locs hP hD hS => ?_)
          refine lv_aload_n hx hb dX6_addHouse_75 rfl (lv_at hl 0 rfl) ?_
          refine gf S hK hP 0 ml_0 fX6_17 (v := .ref (ad 2)) mr_2 dX6_addHouse_76 ?_
          refine lv_aload_n hx hb dX6_addHouse_79 rfl (lv_at hl 0 rfl) ?_
          refine gf S hK hP 0 ml_0 fX6_93 (v := .int (nI n)) (mv_3 hn) dX6_addHouse_80 ?_
          refine lv_iload_n hx hb dX6_addHouse_83 rfl (lv_at hl 2 rfl) ?_
          refine ist S hK hP hD hS 2 ml_2 (j := n) (x := pl) (by omega) (Nat.le_of_ble_eq_true rfl) ms_2 dX6_addHouse_84 (fun H locs hP hD hS => ?_)
          refine lv_aload_n hx hb dX6_addHouse_85 rfl (lv_at hl 0 rfl) ?_
          refine gf S hK hP 0 ml_0 fX6_20 (v := .ref (ad 3)) mr_3 dX6_addHouse_86 ?_
          refine lv_aload_n hx hb dX6_addHouse_89 rfl (lv_at hl 0 rfl) ?_
          refine gf S hK hP 0 ml_0 fX6_93 (v := .int (nI n)) (mv_3 hn) dX6_addHouse_90 ?_
          refine lv_iload_n hx hb dX6_addHouse_93 rfl (lv_at hl 3 rfl) ?_
          refine ist S hK hP hD hS 3 ml_3 (j := n) (x := lg) (by omega) (Nat.le_of_ble_eq_true rfl) ms_3 dX6_addHouse_94 (fun H locs hP hD hS => ?_)
          refine lv_aload_n hx hb dX6_addHouse_95 rfl (lv_at hl 0 rfl) ?_
          refine gf S hK hP 0 ml_0 fX6_23 (v := .ref (ad 4)) mr_4 dX6_addHouse_96 ?_
          refine lv_aload_n hx hb dX6_addHouse_99 rfl (lv_at hl 0 rfl) ?_
          refine gf S hK hP 0 ml_0 fX6_93 (v := .int (nI n)) (mv_3 hn) dX6_addHouse_100 ?_
          refine lv_bipush (v := 117) hx hb dX6_addHouse_103 (by decide) ?_
          refine ist S hK hP hD hS 4 ml_4 (j := n) (x := 117) (by omega) (Nat.le_of_ble_eq_true rfl) ms_4 dX6_addHouse_105 (fun H locs hP hD hS => ?_)
          refine lv_aload_n hx hb dX6_addHouse_106 rfl (lv_at hl 0 rfl) ?_
          refine gf S hK hP 0 ml_0 fX6_66 (v := .ref (ad 18)) mr_18 dX6_addHouse_107 ?_
          refine lv_aload_n hx hb dX6_addHouse_110 rfl (lv_at hl 0 rfl) ?_
          refine gf S hK hP 0 ml_0 fX6_93 (v := .int (nI n)) (mv_3 hn) dX6_addHouse_111 ?_
          refine lv_iconst (v := (-1)) hx hb dX6_addHouse_114 (by decide) ?_
          refine ist S hK hP hD hS 18 ml_18 (j := n) (x := (-1)) (by omega) (Nat.le_of_ble_eq_true rfl) ms_18 dX6_addHouse_115 (fun H locs hP hD hS => ?_)
          refine lv_aload_n hx hb dX6_addHouse_116 rfl (lv_at hl 0 rfl) ?_
          refine lv_dup hx hb dX6_addHouse_117 rfl ?_
          refine gf S hK hP 0 ml_0 fX6_93 (v := .int (nI n)) (mv_3 hn) dX6_addHouse_118 ?_
          refine lv_iconst (v := 1) hx hb dX6_addHouse_121 (by decide) ?_
          refine lv_iadd hx hb dX6_addHouse_122 ?_
          refine lv_as (y := nI (n + 1)) (nI_1 n) ?_
          refine pf S hK hP hD hS 0 ml_0 fX6_93 fpX6 rfl (v := .int (nI (n + 1))) rfl rfl (Nat.le_of_ble_eq_true rfl) ms_0_3 dX6_addHouse_123 (fun H locs hP hD hS => ?_)
          refine lv_aload_n hx hb dX6_addHouse_126 rfl (lv_at hl 0 rfl) ?_
          refine gf S hK hP 0 ml_0 fX6_93 (v := .int (nI (n + 1))) (mv_3 up_at) dX6_addHouse_127 ?_
          refine lv_iconst (v := 1) hx hb dX6_addHouse_130 (by decide) ?_
          refine lv_isub hx hb dX6_addHouse_131 ?_
          refine lv_as (y := nI n) (nI_pred n) ?_
          exact eMi S hr hlk hP hD hS dX6_addHouse_132 rfl rfl
        · skip
          have g51 : n = 24 := (nI_eq (a := n) (b := 24) (by omega) (by omega)).mp b51
          exact absurd g51 (by omega)
      · skip
        exact absurd b36 b27
  · skip
    exact False.elim (by revert b11; decide)

set_option maxHeartbeats 4000000 in
set_option maxRecDepth 100000 in
theorem rr_addInt1 (l : Launch) (dg : va_G) (cA : Nat → ClassId) (ad : Nat → Nat) (r : St) (ho lg mi : Int32) (hb2 : ¬ ((¬ ho < 0 ∧ ¬ 99 < ho) ∧ (¬ lg < 1 ∧ ¬ 7 < lg) ∧ (¬ mi < 30 ∧ ¬ 600 < mi))) (sz : Nat) : MetM l dg cA yX6_addInterviewer cX6_addInterviewer 4 (some .int) ({ frames := 1, cells := 0, slots := 0, locals := 22 } : Room) 0 0 (mw cA ad r) sz [.ref (ad 0), .int ho, .int lg, .int mi] (mw cA ad (up r 0 0 1)) (some (.int 0)) := by
  refine ofM (by decide) (Nat.le_of_ble_eq_true rfl) (own := RX6) rfl (fun p e s0 m args below meth c ls A hAe S hr hlk hname hargs hK hP hD hS hA hsz hl => ?_)
  have hx := S.1
  have hb := S.2.1
  have hl : lv_has ls 4 [(0, .ref (ad 0)), (1, .int ho), (2, .int lg), (3, .int mi)] := hl
  refine lv_iload_n hx hb dX6_addInterviewer_0 rfl (lv_at hl 1 rfl) ?_
  refine lv_iconst (v := 0) hx hb dX6_addInterviewer_1 (by decide) ?_
  refine lv_bipush (v := 99) hx hb dX6_addInterviewer_2 (by decide) ?_
  by_cases c4 : ¬ ho < 0 ∧ ¬ 99 < ho
  · skip
    refine cRS S (rr_in1 l dg cA (mw cA ad r) ho 0 99 c4.1 c4.2) kX6_96 ⟨rfl, rfl, Nat.le_of_ble_eq_true rfl, Nat.le_of_ble_eq_true rfl⟩ hK hP (As := [.int ho, .int 0, .int 99]) rfl hl.1 (rest := []) rfl (Nat.le_of_ble_eq_true rfl) dX6_addInterviewer_4 ⟨Nat.le_of_ble_eq_true rfl, Nat.le_of_ble_eq_true rfl⟩ (st1 := [.int 1]) rfl ?_
    refine lv_if_eq (tgt := 32) hx hb dX6_addInterviewer_7 (by decide) (fun b7 => ?_) (fun b7 => ?_)
    · skip
      exact False.elim (by revert b7; decide)
    · skip
      refine lv_iload_n hx hb dX6_addInterviewer_10 rfl (lv_at hl 2 rfl) ?_
      refine lv_iconst (v := 1) hx hb dX6_addInterviewer_11 (by decide) ?_
      refine lv_bipush (v := 7) hx hb dX6_addInterviewer_12 (by decide) ?_
      by_cases c14 : ¬ lg < 1 ∧ ¬ 7 < lg
      · skip
        refine cRS S (rr_in1 l dg cA (mw cA ad r) lg 1 7 c14.1 c14.2) kX6_96 ⟨rfl, rfl, Nat.le_of_ble_eq_true rfl, Nat.le_of_ble_eq_true rfl⟩ hK hP (As := [.int lg, .int 1, .int 7]) rfl hl.1 (rest := []) rfl (Nat.le_of_ble_eq_true rfl) dX6_addInterviewer_14 ⟨Nat.le_of_ble_eq_true rfl, Nat.le_of_ble_eq_true rfl⟩ (st1 := [.int 1]) rfl ?_
        refine lv_if_eq (tgt := 32) hx hb dX6_addInterviewer_17 (by decide) (fun b17 => ?_) (fun b17 => ?_)
        · skip
          exact absurd b17 b7
        · skip
          refine lv_iload_n hx hb dX6_addInterviewer_20 rfl (lv_at hl 3 rfl) ?_
          refine lv_bipush (v := 30) hx hb dX6_addInterviewer_21 (by decide) ?_
          refine lv_sipush (v := 600) hx hb dX6_addInterviewer_23 (by decide) ?_
          refine cRS S (rr_in0 l dg cA (mw cA ad r) mi 30 600 (fun z => hb2 ⟨c4, c14, z⟩)) kX6_96 ⟨rfl, rfl, Nat.le_of_ble_eq_true rfl, Nat.le_of_ble_eq_true rfl⟩ hK hP (As := [.int mi, .int 30, .int 600]) rfl hl.1 (rest := []) rfl (Nat.le_of_ble_eq_true rfl) dX6_addInterviewer_26 ⟨Nat.le_of_ble_eq_true rfl, Nat.le_of_ble_eq_true rfl⟩ (st1 := [.int 0]) rfl ?_
          refine lv_if_ne (tgt := 38) hx hb dX6_addInterviewer_29 (by decide) (fun b29 => ?_) (fun b29 => ?_)
          · skip
            exact False.elim (by revert b29; decide)
          · skip
            refine lv_aload_n hx hb dX6_addInterviewer_32 rfl (lv_at hl 0 rfl) ?_
            refine lv_iconst (v := 1) hx hb dX6_addInterviewer_33 (by decide) ?_
            refine cM S (rr_fails l dg cA ad r 1 _) kX6_104 ⟨rfl, rfl, Nat.le_of_ble_eq_true rfl, Nat.le_of_ble_eq_true rfl⟩ hK hP hD hS hA 0 ml_0 (q := (RX6, TX6, 31)) rfl rfl (As := [.int 1]) rfl hl.1 (rest := []) rfl (Nat.le_of_ble_eq_true rfl) dX6_addInterviewer_34 ⟨Nat.le_of_ble_eq_true rfl, Nat.le_of_ble_eq_true rfl⟩ (st1 := [.int 0]) rfl (fun H locs hP hD hS => ?_)
            exact eMi S hr hlk hP hD hS dX6_addInterviewer_37 rfl rfl
      · skip
        refine cRS S (rr_in0 l dg cA (mw cA ad r) lg 1 7 c14) kX6_96 ⟨rfl, rfl, Nat.le_of_ble_eq_true rfl, Nat.le_of_ble_eq_true rfl⟩ hK hP (As := [.int lg, .int 1, .int 7]) rfl hl.1 (rest := []) rfl (Nat.le_of_ble_eq_true rfl) dX6_addInterviewer_14 ⟨Nat.le_of_ble_eq_true rfl, Nat.le_of_ble_eq_true rfl⟩ (st1 := [.int 0]) rfl ?_
        refine lv_if_eq (tgt := 32) hx hb dX6_addInterviewer_17 (by decide) (fun b17 => ?_) (fun b17 => ?_)
        · skip
          refine lv_aload_n hx hb dX6_addInterviewer_32 rfl (lv_at hl 0 rfl) ?_
          refine lv_iconst (v := 1) hx hb dX6_addInterviewer_33 (by decide) ?_
          refine cM S (rr_fails l dg cA ad r 1 _) kX6_104 ⟨rfl, rfl, Nat.le_of_ble_eq_true rfl, Nat.le_of_ble_eq_true rfl⟩ hK hP hD hS hA 0 ml_0 (q := (RX6, TX6, 31)) rfl rfl (As := [.int 1]) rfl hl.1 (rest := []) rfl (Nat.le_of_ble_eq_true rfl) dX6_addInterviewer_34 ⟨Nat.le_of_ble_eq_true rfl, Nat.le_of_ble_eq_true rfl⟩ (st1 := [.int 0]) rfl (fun H locs hP hD hS => ?_)
          exact eMi S hr hlk hP hD hS dX6_addInterviewer_37 rfl rfl
        · skip
          exact False.elim (by revert b17; decide)
  · skip
    refine cRS S (rr_in0 l dg cA (mw cA ad r) ho 0 99 c4) kX6_96 ⟨rfl, rfl, Nat.le_of_ble_eq_true rfl, Nat.le_of_ble_eq_true rfl⟩ hK hP (As := [.int ho, .int 0, .int 99]) rfl hl.1 (rest := []) rfl (Nat.le_of_ble_eq_true rfl) dX6_addInterviewer_4 ⟨Nat.le_of_ble_eq_true rfl, Nat.le_of_ble_eq_true rfl⟩ (st1 := [.int 0]) rfl ?_
    refine lv_if_eq (tgt := 32) hx hb dX6_addInterviewer_7 (by decide) (fun b7 => ?_) (fun b7 => ?_)
    · skip
      refine lv_aload_n hx hb dX6_addInterviewer_32 rfl (lv_at hl 0 rfl) ?_
      refine lv_iconst (v := 1) hx hb dX6_addInterviewer_33 (by decide) ?_
      refine cM S (rr_fails l dg cA ad r 1 _) kX6_104 ⟨rfl, rfl, Nat.le_of_ble_eq_true rfl, Nat.le_of_ble_eq_true rfl⟩ hK hP hD hS hA 0 ml_0 (q := (RX6, TX6, 31)) rfl rfl (As := [.int 1]) rfl hl.1 (rest := []) rfl (Nat.le_of_ble_eq_true rfl) dX6_addInterviewer_34 ⟨Nat.le_of_ble_eq_true rfl, Nat.le_of_ble_eq_true rfl⟩ (st1 := [.int 0]) rfl (fun H locs hP hD hS => ?_)
      exact eMi S hr hlk hP hD hS dX6_addInterviewer_37 rfl rfl
    · skip
      exact False.elim (by revert b7; decide)

set_option maxHeartbeats 4000000 in
set_option maxRecDepth 100000 in
theorem rr_addInt2 (l : Launch) (dg : va_G) (cA : Nat → ClassId) (ad : Nat → Nat) (r : St) (hni : r 0 4 = 4) (ho lg mi : Int32) (hb2 : (¬ ho < 0 ∧ ¬ 99 < ho) ∧ (¬ lg < 1 ∧ ¬ 7 < lg) ∧ (¬ mi < 30 ∧ ¬ 600 < mi)) (sz : Nat) : MetM l dg cA yX6_addInterviewer cX6_addInterviewer 4 (some .int) ({ frames := 1, cells := 0, slots := 0, locals := 22 } : Room) 0 0 (mw cA ad r) sz [.ref (ad 0), .int ho, .int lg, .int mi] (mw cA ad (up r 0 0 2)) (some (.int 0)) := by
  refine ofM (by decide) (Nat.le_of_ble_eq_true rfl) (own := RX6) rfl (fun p e s0 m args below meth c ls A hAe S hr hlk hname hargs hK hP hD hS hA hsz hl => ?_)
  have hx := S.1
  have hb := S.2.1
  have hl : lv_has ls 4 [(0, .ref (ad 0)), (1, .int ho), (2, .int lg), (3, .int mi)] := hl
  refine lv_iload_n hx hb dX6_addInterviewer_0 rfl (lv_at hl 1 rfl) ?_
  refine lv_iconst (v := 0) hx hb dX6_addInterviewer_1 (by decide) ?_
  refine lv_bipush (v := 99) hx hb dX6_addInterviewer_2 (by decide) ?_
  refine cRS S (rr_in1 l dg cA (mw cA ad r) ho 0 99 hb2.1.1 hb2.1.2) kX6_96 ⟨rfl, rfl, Nat.le_of_ble_eq_true rfl, Nat.le_of_ble_eq_true rfl⟩ hK hP (As := [.int ho, .int 0, .int 99]) rfl hl.1 (rest := []) rfl (Nat.le_of_ble_eq_true rfl) dX6_addInterviewer_4 ⟨Nat.le_of_ble_eq_true rfl, Nat.le_of_ble_eq_true rfl⟩ (st1 := [.int 1]) rfl ?_
  refine lv_if_eq (tgt := 32) hx hb dX6_addInterviewer_7 (by decide) (fun b7 => ?_) (fun b7 => ?_)
  · skip
    exact False.elim (by revert b7; decide)
  · skip
    refine lv_iload_n hx hb dX6_addInterviewer_10 rfl (lv_at hl 2 rfl) ?_
    refine lv_iconst (v := 1) hx hb dX6_addInterviewer_11 (by decide) ?_
    refine lv_bipush (v := 7) hx hb dX6_addInterviewer_12 (by decide) ?_
    refine cRS S (rr_in1 l dg cA (mw cA ad r) lg 1 7 hb2.2.1.1 hb2.2.1.2) kX6_96 ⟨rfl, rfl, Nat.le_of_ble_eq_true rfl, Nat.le_of_ble_eq_true rfl⟩ hK hP (As := [.int lg, .int 1, .int 7]) rfl hl.1 (rest := []) rfl (Nat.le_of_ble_eq_true rfl) dX6_addInterviewer_14 ⟨Nat.le_of_ble_eq_true rfl, Nat.le_of_ble_eq_true rfl⟩ (st1 := [.int 1]) rfl ?_
    refine lv_if_eq (tgt := 32) hx hb dX6_addInterviewer_17 (by decide) (fun b17 => ?_) (fun b17 => ?_)
    · skip
      exact absurd b17 b7
    · skip
      refine lv_iload_n hx hb dX6_addInterviewer_20 rfl (lv_at hl 3 rfl) ?_
      refine lv_bipush (v := 30) hx hb dX6_addInterviewer_21 (by decide) ?_
      refine lv_sipush (v := 600) hx hb dX6_addInterviewer_23 (by decide) ?_
      refine cRS S (rr_in1 l dg cA (mw cA ad r) mi 30 600 hb2.2.2.1 hb2.2.2.2) kX6_96 ⟨rfl, rfl, Nat.le_of_ble_eq_true rfl, Nat.le_of_ble_eq_true rfl⟩ hK hP (As := [.int mi, .int 30, .int 600]) rfl hl.1 (rest := []) rfl (Nat.le_of_ble_eq_true rfl) dX6_addInterviewer_26 ⟨Nat.le_of_ble_eq_true rfl, Nat.le_of_ble_eq_true rfl⟩ (st1 := [.int 1]) rfl ?_
      refine lv_if_ne (tgt := 38) hx hb dX6_addInterviewer_29 (by decide) (fun b29 => ?_) (fun b29 => ?_)
      · skip
        refine lv_aload_n hx hb dX6_addInterviewer_38 rfl (lv_at hl 0 rfl) ?_
        refine gf S hK hP 0 ml_0 fX6_100 (v := .int 4) (mv_4 hni) dX6_addInterviewer_39 ?_
        refine lv_iconst (v := 4) hx hb dX6_addInterviewer_42 (by decide) ?_
        refine lv_icmp_ne (tgt := 52) hx hb dX6_addInterviewer_43 (by decide) (fun b43 => ?_) (fun b43 => ?_)
        · skip
          exact False.elim (by revert b43; decide)
        · skip
          refine lv_aload_n hx hb dX6_addInterviewer_46 rfl (lv_at hl 0 rfl) ?_
          refine lv_iconst (v := 2) hx hb dX6_addInterviewer_47 (by decide) ?_
          refine cM S (rr_fails l dg cA ad r 2 _) kX6_104 ⟨rfl, rfl, Nat.le_of_ble_eq_true rfl, Nat.le_of_ble_eq_true rfl⟩ hK hP hD hS hA 0 ml_0 (q := (RX6, TX6, 31)) rfl rfl (As := [.int 2]) rfl hl.1 (rest := []) rfl (Nat.le_of_ble_eq_true rfl) dX6_addInterviewer_48 ⟨Nat.le_of_ble_eq_true rfl, Nat.le_of_ble_eq_true rfl⟩ (st1 := [.int 0]) rfl (fun H locs hP hD hS => ?_)
          exact eMi S hr hlk hP hD hS dX6_addInterviewer_51 rfl rfl
      · skip
        exact absurd b29 b17

set_option maxHeartbeats 4000000 in
set_option maxRecDepth 100000 in
theorem rr_addInt3 (l : Launch) (dg : va_G) (cA : Nat → ClassId) (ad : Nat → Nat) (r : St) (ni : Nat) (hni : r 0 4 = nI ni) (hni4 : ni < 4) (ho lg mi : Int32) (hb2 : (¬ ho < 0 ∧ ¬ 99 < ho) ∧ (¬ lg < 1 ∧ ¬ 7 < lg) ∧ (¬ mi < 30 ∧ ¬ 600 < mi)) (sz : Nat) : MetM l dg cA yX6_addInterviewer cX6_addInterviewer 4 (some .int) ({ frames := 1, cells := 0, slots := 0, locals := 22 } : Room) 0 0 (mw cA ad r) sz [.ref (ad 0), .int ho, .int lg, .int mi] (mw cA ad (m_addI r ni ho lg mi)) (some (.int (nI ni))) := by
  refine ofM (by decide) (Nat.le_of_ble_eq_true rfl) (own := RX6) rfl (fun p e s0 m args below meth c ls A hAe S hr hlk hname hargs hK hP hD hS hA hsz hl => ?_)
  have hx := S.1
  have hb := S.2.1
  have hl : lv_has ls 4 [(0, .ref (ad 0)), (1, .int ho), (2, .int lg), (3, .int mi)] := hl
  refine lv_iload_n hx hb dX6_addInterviewer_0 rfl (lv_at hl 1 rfl) ?_
  refine lv_iconst (v := 0) hx hb dX6_addInterviewer_1 (by decide) ?_
  refine lv_bipush (v := 99) hx hb dX6_addInterviewer_2 (by decide) ?_
  refine cRS S (rr_in1 l dg cA (mw cA ad r) ho 0 99 hb2.1.1 hb2.1.2) kX6_96 ⟨rfl, rfl, Nat.le_of_ble_eq_true rfl, Nat.le_of_ble_eq_true rfl⟩ hK hP (As := [.int ho, .int 0, .int 99]) rfl hl.1 (rest := []) rfl (Nat.le_of_ble_eq_true rfl) dX6_addInterviewer_4 ⟨Nat.le_of_ble_eq_true rfl, Nat.le_of_ble_eq_true rfl⟩ (st1 := [.int 1]) rfl ?_
  refine lv_if_eq (tgt := 32) hx hb dX6_addInterviewer_7 (by decide) (fun b7 => ?_) (fun b7 => ?_)
  · skip
    exact False.elim (by revert b7; decide)
  · skip
    refine lv_iload_n hx hb dX6_addInterviewer_10 rfl (lv_at hl 2 rfl) ?_
    refine lv_iconst (v := 1) hx hb dX6_addInterviewer_11 (by decide) ?_
    refine lv_bipush (v := 7) hx hb dX6_addInterviewer_12 (by decide) ?_
    refine cRS S (rr_in1 l dg cA (mw cA ad r) lg 1 7 hb2.2.1.1 hb2.2.1.2) kX6_96 ⟨rfl, rfl, Nat.le_of_ble_eq_true rfl, Nat.le_of_ble_eq_true rfl⟩ hK hP (As := [.int lg, .int 1, .int 7]) rfl hl.1 (rest := []) rfl (Nat.le_of_ble_eq_true rfl) dX6_addInterviewer_14 ⟨Nat.le_of_ble_eq_true rfl, Nat.le_of_ble_eq_true rfl⟩ (st1 := [.int 1]) rfl ?_
    refine lv_if_eq (tgt := 32) hx hb dX6_addInterviewer_17 (by decide) (fun b17 => ?_) (fun b17 => ?_)
    · skip
      exact absurd b17 b7
    · skip
      refine lv_iload_n hx hb dX6_addInterviewer_20 rfl (lv_at hl 3 rfl) ?_
      refine lv_bipush (v := 30) hx hb dX6_addInterviewer_21 (by decide) ?_
      refine lv_sipush (v := 600) hx hb dX6_addInterviewer_23 (by decide) ?_
      refine cRS S (rr_in1 l dg cA (mw cA ad r) mi 30 600 hb2.2.2.1 hb2.2.2.2) kX6_96 ⟨rfl, rfl, Nat.le_of_ble_eq_true rfl, Nat.le_of_ble_eq_true rfl⟩ hK hP (As := [.int mi, .int 30, .int 600]) rfl hl.1 (rest := []) rfl (Nat.le_of_ble_eq_true rfl) dX6_addInterviewer_26 ⟨Nat.le_of_ble_eq_true rfl, Nat.le_of_ble_eq_true rfl⟩ (st1 := [.int 1]) rfl ?_
      refine lv_if_ne (tgt := 38) hx hb dX6_addInterviewer_29 (by decide) (fun b29 => ?_) (fun b29 => ?_)
      · skip
        refine lv_aload_n hx hb dX6_addInterviewer_38 rfl (lv_at hl 0 rfl) ?_
        refine gf S hK hP 0 ml_0 fX6_100 (v := .int (nI ni)) (mv_4 hni) dX6_addInterviewer_39 ?_
        refine lv_iconst (v := 4) hx hb dX6_addInterviewer_42 (by decide) ?_
        refine lv_icmp_ne (tgt := 52) hx hb dX6_addInterviewer_43 (by decide) (fun b43 => ?_) (fun b43 => ?_)
        · skip
          have g43 : ¬ ni = 4 := fun zz => b43 ((nI_eq (a := ni) (b := 4) (by omega) (by omega)).mpr zz)
          refine lv_aload_n hx hb dX6_addInterviewer_52 rfl (lv_at hl 0 rfl) ?_
          refine lv_iconst (v := 0) hx hb dX6_addInterviewer_53 (by decide) ?_
          refine pf S hK hP hD hS 0 ml_0 fX6_90 fpX6 rfl (v := .int 0) rfl rfl (Nat.le_of_ble_eq_true rfl) ms_0_0 dX6_addInterviewer_54 (fun H locs hP hD hS => ?_)
          refine lv_aload_n hx hb dX6_addInterviewer_57 rfl (lv_at hl 0 rfl) ?_
          refine gf S hK hP 0 ml_0 fX6_78 (v := .ref (ad 22)) mr_22 dX6_addInterviewer_58 ?_
          refine lv_aload_n hx hb dX6_addInterviewer_61 rfl (lv_at hl 0 rfl) ?_
          refine gf S hK hP 0 ml_0 fX6_100 (v := .int (nI ni)) (mv_4 hni) dX6_addInterviewer_62 ?_
          refine lv_iload_n hx hb dX6_addInterviewer_65 rfl (lv_at hl 1 rfl) ?_
          refine ist S hK hP hD hS 22 ml_22 (j := ni) (x := ho) (by omega) (Nat.le_of_ble_eq_true rfl) ms_22 dX6_addInterviewer_66 (fun H locs hP hD hS => ?_)
          refine lv_aload_n hx hb dX6_addInterviewer_67 rfl (lv_at hl 0 rfl) ?_
          refine gf S hK hP 0 ml_0 fX6_81 (v := .ref (ad 23)) mr_23 dX6_addInterviewer_68 ?_
          refine lv_aload_n hx hb dX6_addInterviewer_71 rfl (lv_at hl 0 rfl) ?_
          refine gf S hK hP 0 ml_0 fX6_100 (v := .int (nI ni)) (mv_4 hni) dX6_addInterviewer_72 ?_
          refine lv_iload_n hx hb dX6_addInterviewer_75 rfl (lv_at hl 2 rfl) ?_
          refine ist S hK hP hD hS 23 ml_23 (j := ni) (x := lg) (by omega) (Nat.le_of_ble_eq_true rfl) ms_23 dX6_addInterviewer_76 (fun H locs hP hD hS => ?_)
          refine lv_aload_n hx hb dX6_addInterviewer_77 rfl (lv_at hl 0 rfl) ?_
          refine gf S hK hP 0 ml_0 fX6_84 (v := .ref (ad 24)) mr_24 dX6_addInterviewer_78 ?_
          refine lv_aload_n hx hb dX6_addInterviewer_81 rfl (lv_at hl 0 rfl) ?_
          refine gf S hK hP 0 ml_0 fX6_100 (v := .int (nI ni)) (mv_4 hni) dX6_addInterviewer_82 ?_
          refine lv_iload_n hx hb dX6_addInterviewer_85 rfl (lv_at hl 3 rfl) ?_
          refine ist S hK hP hD hS 24 ml_24 (j := ni) (x := mi) (by omega) (Nat.le_of_ble_eq_true rfl) ms_24 dX6_addInterviewer_86 (fun H locs hP hD hS => ?_)
          refine lv_aload_n hx hb dX6_addInterviewer_87 rfl (lv_at hl 0 rfl) ?_
          refine lv_dup hx hb dX6_addInterviewer_88 rfl ?_
          refine gf S hK hP 0 ml_0 fX6_100 (v := .int (nI ni)) (mv_4 hni) dX6_addInterviewer_89 ?_
          refine lv_iconst (v := 1) hx hb dX6_addInterviewer_92 (by decide) ?_
          refine lv_iadd hx hb dX6_addInterviewer_93 ?_
          refine lv_as (y := nI (ni + 1)) (nI_1 ni) ?_
          refine pf S hK hP hD hS 0 ml_0 fX6_100 fpX6 rfl (v := .int (nI (ni + 1))) rfl rfl (Nat.le_of_ble_eq_true rfl) ms_0_4 dX6_addInterviewer_94 (fun H locs hP hD hS => ?_)
          refine lv_aload_n hx hb dX6_addInterviewer_97 rfl (lv_at hl 0 rfl) ?_
          refine gf S hK hP 0 ml_0 fX6_100 (v := .int (nI (ni + 1))) (mv_4 up_at) dX6_addInterviewer_98 ?_
          refine lv_iconst (v := 1) hx hb dX6_addInterviewer_101 (by decide) ?_
          refine lv_isub hx hb dX6_addInterviewer_102 ?_
          refine lv_as (y := nI ni) (nI_pred ni) ?_
          exact eMi S hr hlk hP hD hS dX6_addInterviewer_103 rfl rfl
        · skip
          have g43 : ni = 4 := (nI_eq (a := ni) (b := 4) (by omega) (by omega)).mp b43
          exact absurd g43 (by omega)
      · skip
        exact absurd b29 b17
end
section
set_option maxHeartbeats 4000000 in
set_option maxRecDepth 100000 in
theorem rr_next (l : Launch) (dg : va_G) (cA : Nat → ClassId) (ad : Nat → Nat) (r : St) (n : Nat) (hn : r 0 3 = nI n) (hn24 : n ≤ 24) (i : Nat) (hi : i < 4) (at_ : Int32) : MetR l dg cA yX6_next cX6_next 5 (some .int) ({ frames := 1, cells := 0, slots := 0, locals := 21 } : Room) (mw cA ad r) [.ref (ad 0), .int (nI i), .int at_] (some (.int (oI (m_nx r i at_ n)))) := by
  refine ofR (by decide) (Nat.le_of_ble_eq_true rfl) (own := RX6) rfl (fun p e s0 m args below meth c ls S hr hlk hargs hK hP hl => ?_)
  have hx := S.1
  have hb := S.2.1
  have hl : lv_has ls 5 [(0, .ref (ad 0)), (1, .int (nI i)), (2, .int at_)] := hl
  refine lv_iconst (v := (-1)) hx hb dX6_next_0 (by decide) ?_
  refine lv_istore_n (lv' := [(3, .int (-1)), (0, .ref (ad 0)), (1, .int (nI i)), (2, .int at_)]) hx hb dX6_next_1 rfl hl (by decide) rfl (fun ls hl => ?_)
  refine lv_iconst (v := 0) hx hb dX6_next_2 (by decide) ?_
  refine lv_istore (lv' := [(4, .int 0), (3, .int (-1)), (0, .ref (ad 0)), (1, .int (nI i)), (2, .int at_)]) hx hb dX6_next_3 hl (by decide) rfl (fun ls hl => ?_)
  have hL5 : ∀ (f : Nat) (j : Nat), n - j < f → (j ≤ n) → ∀ ls, lv_has ls 5 [(0, .ref (ad 0)), (1, .int (nI i)), (2, .int at_), (3, .int (oI (nxt (m_fit r i at_) (m_dist r at_) j))), (4, .int (nI j))] → W p l e ({ frames := 1, cells := 0, slots := 0, locals := 21 } : Room) s0 m args below meth c s0.heap [] 0 0 (MQ below (QcR (some (.int (oI (m_nx r i at_ n))))) args s0 0 0 (fun _ => False)) (F0 m 5 ls []) := by
    intro f
    induction f with
    | zero => intro j hm; exact absurd hm (Nat.not_lt_zero _)
    | succ f ih5 =>
      intro j hm5 hj ls hl
      refine lv_iload hx hb dX6_next_5 (lv_at hl 4 rfl) ?_
      refine lv_aload_n hx hb dX6_next_7 rfl (lv_at hl 0 rfl) ?_
      refine gf S hK hP 0 ml_0 fX6_93 (v := .int (nI n)) (mv_3 hn) dX6_next_8 ?_
      refine lv_icmp_ge (tgt := 176) hx hb dX6_next_11 (by decide) (fun b11 => ?_) (fun b11 => ?_)
      · skip
        have g11 : n ≤ j := (nI_leI (a := n) (b := j) (by omega) (by omega)).mp b11
        refine lv_iload_n hx hb dX6_next_176 rfl (lv_at hl 3 rfl) ?_
        exact eRi S hr hlk dX6_next_177 (by rw [show j = n by omega]; rfl)
      · skip
        have g11 : ¬ n ≤ j := fun zz => b11 ((nI_leI (a := n) (b := j) (by omega) (by omega)).mpr zz)
        refine lv_aload_n hx hb dX6_next_14 rfl (lv_at hl 0 rfl) ?_
        refine gf S hK hP 0 ml_0 fX6_23 (v := .ref (ad 4)) mr_4 dX6_next_15 ?_
        refine lv_iload hx hb dX6_next_18 (lv_at hl 4 rfl) ?_
        refine ild S hK hP 4 ml_4 (j := j) (by omega) (Nat.le_of_ble_eq_true rfl) dX6_next_20 ?_
        refine lv_as (y := r 4 j) rfl ?_
        refine lv_bipush (v := 119) hx hb dX6_next_21 (by decide) ?_
        refine lv_icmp_ne (tgt := 170) hx hb dX6_next_23 (by decide) (fun b23 => ?_) (fun b23 => ?_)
        · skip
          refine lv_iinc (v := nI (j + 1)) (lv' := [(4, .int (nI (j + 1))), (0, .ref (ad 0)), (1, .int (nI i)), (2, .int at_), (3, .int (oI (nxt (m_fit r i at_) (m_dist r at_) j)))]) hx hb dX6_next_170 hl (k := 4) rfl (nI_1 j) (by decide) rfl (fun ls hl => ?_)
          refine lv_goto (tgt := 5) hx hb dX6_next_173 (by decide) ?_
          exact ih5 (j + 1) (by omega) (by omega) ls (lv_cast (lv_sub (l' := [(0, .ref (ad 0)), (1, .int (nI i)), (2, .int at_), (3, .int (oI (nxt (m_fit r i at_) (m_dist r at_) j))), (4, .int (nI (j + 1)))]) hl [1, 2, 3, 4, 0] rfl) (by rw [nxt_f (by simp [m_fit, b23])]))
        · skip
          refine lv_aload_n hx hb dX6_next_26 rfl (lv_at hl 0 rfl) ?_
          refine gf S hK hP 0 ml_0 fX6_26 (v := .ref (ad 5)) mr_5 dX6_next_27 ?_
          refine lv_iload hx hb dX6_next_30 (lv_at hl 4 rfl) ?_
          refine ild S hK hP 5 ml_5 (j := j) (by omega) (Nat.le_of_ble_eq_true rfl) dX6_next_32 ?_
          refine lv_as (y := r 5 j) rfl ?_
          refine lv_aload_n hx hb dX6_next_33 rfl (lv_at hl 0 rfl) ?_
          refine gf S hK hP 0 ml_0 fX6_115 (v := .int (r 0 5)) (mv_5 rfl) dX6_next_34 ?_
          refine lv_icmp_gt (tgt := 170) hx hb dX6_next_37 (by decide) (fun b37 => ?_) (fun b37 => ?_)
          · skip
            refine lv_iinc (v := nI (j + 1)) (lv' := [(4, .int (nI (j + 1))), (0, .ref (ad 0)), (1, .int (nI i)), (2, .int at_), (3, .int (oI (nxt (m_fit r i at_) (m_dist r at_) j)))]) hx hb dX6_next_170 hl (k := 4) rfl (nI_1 j) (by decide) rfl (fun ls hl => ?_)
            refine lv_goto (tgt := 5) hx hb dX6_next_173 (by decide) ?_
            exact ih5 (j + 1) (by omega) (by omega) ls (lv_cast (lv_sub (l' := [(0, .ref (ad 0)), (1, .int (nI i)), (2, .int at_), (3, .int (oI (nxt (m_fit r i at_) (m_dist r at_) j))), (4, .int (nI (j + 1)))]) hl [1, 2, 3, 4, 0] rfl) (by rw [nxt_f (by simp [m_fit, b23, b37])]))
          · skip
            refine lv_aload_n hx hb dX6_next_40 rfl (lv_at hl 0 rfl) ?_
            refine gf S hK hP 0 ml_0 fX6_66 (v := .ref (ad 18)) mr_18 dX6_next_41 ?_
            refine lv_iload hx hb dX6_next_44 (lv_at hl 4 rfl) ?_
            refine ild S hK hP 18 ml_18 (j := j) (by omega) (Nat.le_of_ble_eq_true rfl) dX6_next_46 ?_
            refine lv_as (y := r 18 j) rfl ?_
            refine lv_iconst (v := (-1)) hx hb dX6_next_47 (by decide) ?_
            refine lv_icmp_ne (tgt := 170) hx hb dX6_next_48 (by decide) (fun b48 => ?_) (fun b48 => ?_)
            · skip
              refine lv_iinc (v := nI (j + 1)) (lv' := [(4, .int (nI (j + 1))), (0, .ref (ad 0)), (1, .int (nI i)), (2, .int at_), (3, .int (oI (nxt (m_fit r i at_) (m_dist r at_) j)))]) hx hb dX6_next_170 hl (k := 4) rfl (nI_1 j) (by decide) rfl (fun ls hl => ?_)
              refine lv_goto (tgt := 5) hx hb dX6_next_173 (by decide) ?_
              exact ih5 (j + 1) (by omega) (by omega) ls (lv_cast (lv_sub (l' := [(0, .ref (ad 0)), (1, .int (nI i)), (2, .int at_), (3, .int (oI (nxt (m_fit r i at_) (m_dist r at_) j))), (4, .int (nI (j + 1)))]) hl [1, 2, 3, 4, 0] rfl) (by rw [nxt_f (by simp [m_fit, b23, b37, b48])]))
            · skip
              refine lv_aload_n hx hb dX6_next_51 rfl (lv_at hl 0 rfl) ?_
              refine gf S hK hP 0 ml_0 fX6_81 (v := .ref (ad 23)) mr_23 dX6_next_52 ?_
              refine lv_iload_n hx hb dX6_next_55 rfl (lv_at hl 1 rfl) ?_
              refine ild S hK hP 23 ml_23 (j := i) (by omega) (Nat.le_of_ble_eq_true rfl) dX6_next_56 ?_
              refine lv_as (y := r 23 i) rfl ?_
              refine lv_aload_n hx hb dX6_next_57 rfl (lv_at hl 0 rfl) ?_
              refine gf S hK hP 0 ml_0 fX6_20 (v := .ref (ad 3)) mr_3 dX6_next_58 ?_
              refine lv_iload hx hb dX6_next_61 (lv_at hl 4 rfl) ?_
              refine ild S hK hP 3 ml_3 (j := j) (by omega) (Nat.le_of_ble_eq_true rfl) dX6_next_63 ?_
              refine lv_as (y := r 3 j) rfl ?_
              refine lv_ishr hx hb dX6_next_64 ?_
              refine lv_iconst (v := 1) hx hb dX6_next_65 (by decide) ?_
              refine lv_iand hx hb dX6_next_66 ?_
              refine lv_if_eq (tgt := 170) hx hb dX6_next_67 (by decide) (fun b67 => ?_) (fun b67 => ?_)
              · skip
                refine lv_iinc (v := nI (j + 1)) (lv' := [(4, .int (nI (j + 1))), (0, .ref (ad 0)), (1, .int (nI i)), (2, .int at_), (3, .int (oI (nxt (m_fit r i at_) (m_dist r at_) j)))]) hx hb dX6_next_170 hl (k := 4) rfl (nI_1 j) (by decide) rfl (fun ls hl => ?_)
                refine lv_goto (tgt := 5) hx hb dX6_next_173 (by decide) ?_
                exact ih5 (j + 1) (by omega) (by omega) ls (lv_cast (lv_sub (l' := [(0, .ref (ad 0)), (1, .int (nI i)), (2, .int at_), (3, .int (oI (nxt (m_fit r i at_) (m_dist r at_) j))), (4, .int (nI (j + 1)))]) hl [1, 2, 3, 4, 0] rfl) (by rw [nxt_f (by simp [m_fit, b23, b37, b48, b67])]))
              · skip
                refine lv_aload_n hx hb dX6_next_70 rfl (lv_at hl 0 rfl) ?_
                refine gf S hK hP 0 ml_0 fX6_38 (v := .ref (ad 9)) mr_9 dX6_next_71 ?_
                refine lv_iload hx hb dX6_next_74 (lv_at hl 4 rfl) ?_
                refine ild S hK hP 9 ml_9 (j := j) (by omega) (Nat.le_of_ble_eq_true rfl) dX6_next_76 ?_
                refine lv_as (y := r 9 j) rfl ?_
                refine lv_iload_n hx hb dX6_next_77 rfl (lv_at hl 1 rfl) ?_
                refine lv_ishr hx hb dX6_next_78 ?_
                refine lv_iconst (v := 1) hx hb dX6_next_79 (by decide) ?_
                refine lv_iand hx hb dX6_next_80 ?_
                refine lv_iconst (v := 1) hx hb dX6_next_81 (by decide) ?_
                refine lv_icmp_ne (tgt := 88) hx hb dX6_next_82 (by decide) (fun b82 => ?_) (fun b82 => ?_)
                · skip
                  refine lv_aload_n hx hb dX6_next_88 rfl (lv_at hl 0 rfl) ?_
                  refine gf S hK hP 0 ml_0 fX6_75 (v := .ref (ad 21)) mr_21 dX6_next_89 ?_
                  refine lv_iload_n hx hb dX6_next_92 rfl (lv_at hl 1 rfl) ?_
                  refine ild S hK hP 21 ml_21 (j := i) (by omega) (Nat.le_of_ble_eq_true rfl) dX6_next_93 ?_
                  refine lv_as (y := r 21 i) rfl ?_
                  refine lv_iload_n hx hb dX6_next_94 rfl (lv_at hl 2 rfl) ?_
                  refine lv_aload_n hx hb dX6_next_95 rfl (lv_at hl 0 rfl) ?_
                  refine gf S hK hP 0 ml_0 fX6_17 (v := .ref (ad 2)) mr_2 dX6_next_96 ?_
                  refine lv_iload hx hb dX6_next_99 (lv_at hl 4 rfl) ?_
                  refine ild S hK hP 2 ml_2 (j := j) (by omega) (Nat.le_of_ble_eq_true rfl) dX6_next_101 ?_
                  refine lv_as (y := r 2 j) rfl ?_
                  refine cRS S (rr_way l dg cA (mw cA ad r) at_ (r 2 j)) kX6_122 ⟨rfl, rfl, Nat.le_of_ble_eq_true rfl, Nat.le_of_ble_eq_true rfl⟩ hK hP (As := [.int at_, .int (r 2 j)]) rfl hl.1 (rest := [.int (r 21 i)]) rfl (Nat.le_of_ble_eq_true rfl) dX6_next_102 ⟨Nat.le_of_ble_eq_true rfl, Nat.le_of_ble_eq_true rfl⟩ (st1 := [.int (m_way at_ (r 2 j)), .int (r 21 i)]) rfl ?_
                  refine lv_iadd hx hb dX6_next_105 ?_
                  refine lv_bipush (v := 30) hx hb dX6_next_106 (by decide) ?_
                  refine lv_iadd hx hb dX6_next_108 ?_
                  refine lv_aload_n hx hb dX6_next_109 rfl (lv_at hl 0 rfl) ?_
                  refine gf S hK hP 0 ml_0 fX6_17 (v := .ref (ad 2)) mr_2 dX6_next_110 ?_
                  refine lv_iload hx hb dX6_next_113 (lv_at hl 4 rfl) ?_
                  refine ild S hK hP 2 ml_2 (j := j) (by omega) (Nat.le_of_ble_eq_true rfl) dX6_next_115 ?_
                  refine lv_as (y := r 2 j) rfl ?_
                  refine lv_aload_n hx hb dX6_next_116 rfl (lv_at hl 0 rfl) ?_
                  refine gf S hK hP 0 ml_0 fX6_78 (v := .ref (ad 22)) mr_22 dX6_next_117 ?_
                  refine lv_iload_n hx hb dX6_next_120 rfl (lv_at hl 1 rfl) ?_
                  refine ild S hK hP 22 ml_22 (j := i) (by omega) (Nat.le_of_ble_eq_true rfl) dX6_next_121 ?_
                  refine lv_as (y := r 22 i) rfl ?_
                  refine cRS S (rr_way l dg cA (mw cA ad r) (r 2 j) (r 22 i)) kX6_122 ⟨rfl, rfl, Nat.le_of_ble_eq_true rfl, Nat.le_of_ble_eq_true rfl⟩ hK hP (As := [.int (r 2 j), .int (r 22 i)]) rfl hl.1 (rest := [.int (((r 21 i) + (m_way at_ (r 2 j))) + 30)]) rfl (Nat.le_of_ble_eq_true rfl) dX6_next_122 ⟨Nat.le_of_ble_eq_true rfl, Nat.le_of_ble_eq_true rfl⟩ (st1 := [.int (m_way (r 2 j) (r 22 i)), .int (((r 21 i) + (m_way at_ (r 2 j))) + 30)]) rfl ?_
                  refine lv_iadd hx hb dX6_next_125 ?_
                  refine lv_aload_n hx hb dX6_next_126 rfl (lv_at hl 0 rfl) ?_
                  refine gf S hK hP 0 ml_0 fX6_84 (v := .ref (ad 24)) mr_24 dX6_next_127 ?_
                  refine lv_iload_n hx hb dX6_next_130 rfl (lv_at hl 1 rfl) ?_
                  refine ild S hK hP 24 ml_24 (j := i) (by omega) (Nat.le_of_ble_eq_true rfl) dX6_next_131 ?_
                  refine lv_as (y := r 24 i) rfl ?_
                  refine lv_icmp_le (tgt := 138) hx hb dX6_next_132 (by decide) (fun b132 => ?_) (fun b132 => ?_)
                  · skip
                    have hfit : m_fit r i at_ j = true := by simp [m_fit, b23, b37, b48, b67, b82, b132]
                    rcases hb9 : nxt (m_fit r i at_) (m_dist r at_) j with _ | b
                    · skip
                      rw [hb9] at hl
                      have hl : lv_has ls 5 [(0, .ref (ad 0)), (1, .int (nI i)), (2, .int at_), (3, .int (-1)), (4, .int (nI j))] := hl
                      refine lv_iload_n hx hb dX6_next_138 rfl (lv_at hl 3 rfl) ?_
                      refine lv_iconst (v := (-1)) hx hb dX6_next_139 (by decide) ?_
                      refine lv_icmp_eq (tgt := 167) hx hb dX6_next_140 (by decide) (fun b140 => ?_) (fun b140 => ?_)
                      · skip
                        refine lv_iload hx hb dX6_next_167 (lv_at hl 4 rfl) ?_
                        refine lv_istore_n (lv' := [(3, .int (nI j)), (0, .ref (ad 0)), (1, .int (nI i)), (2, .int at_), (4, .int (nI j))]) hx hb dX6_next_169 rfl hl (by decide) rfl (fun ls hl => ?_)
                        refine lv_iinc (v := nI (j + 1)) (lv' := [(4, .int (nI (j + 1))), (3, .int (nI j)), (0, .ref (ad 0)), (1, .int (nI i)), (2, .int at_)]) hx hb dX6_next_170 hl (k := 4) rfl (nI_1 j) (by decide) rfl (fun ls hl => ?_)
                        refine lv_goto (tgt := 5) hx hb dX6_next_173 (by decide) ?_
                        exact ih5 (j + 1) (by omega) (by omega) ls (lv_cast (lv_sub (l' := [(0, .ref (ad 0)), (1, .int (nI i)), (2, .int at_), (3, .int (nI j)), (4, .int (nI (j + 1)))]) hl [2, 3, 4, 1, 0] rfl) (by rw [nxt_n hfit hb9]; rfl))
                      · skip
                        exact False.elim (by revert b140; decide)
                    · skip
                      rw [hb9] at hl
                      have hl : lv_has ls 5 [(0, .ref (ad 0)), (1, .int (nI i)), (2, .int at_), (3, .int (nI b)), (4, .int (nI j))] := hl
                      have hbj := (nxt_some hb9).1
                      refine lv_iload_n hx hb dX6_next_138 rfl (lv_at hl 3 rfl) ?_
                      refine lv_iconst (v := (-1)) hx hb dX6_next_139 (by decide) ?_
                      refine lv_icmp_eq (tgt := 167) hx hb dX6_next_140 (by decide) (fun b140 => ?_) (fun b140 => ?_)
                      · skip
                        exact absurd b140 (nI_m1 (by omega))
                      · skip
                        refine lv_iload_n hx hb dX6_next_143 rfl (lv_at hl 2 rfl) ?_
                        refine lv_aload_n hx hb dX6_next_144 rfl (lv_at hl 0 rfl) ?_
                        refine gf S hK hP 0 ml_0 fX6_17 (v := .ref (ad 2)) mr_2 dX6_next_145 ?_
                        refine lv_iload hx hb dX6_next_148 (lv_at hl 4 rfl) ?_
                        refine ild S hK hP 2 ml_2 (j := j) (by omega) (Nat.le_of_ble_eq_true rfl) dX6_next_150 ?_
                        refine lv_as (y := r 2 j) rfl ?_
                        refine cRS S (rr_way l dg cA (mw cA ad r) at_ (r 2 j)) kX6_122 ⟨rfl, rfl, Nat.le_of_ble_eq_true rfl, Nat.le_of_ble_eq_true rfl⟩ hK hP (As := [.int at_, .int (r 2 j)]) rfl hl.1 (rest := []) rfl (Nat.le_of_ble_eq_true rfl) dX6_next_151 ⟨Nat.le_of_ble_eq_true rfl, Nat.le_of_ble_eq_true rfl⟩ (st1 := [.int (m_way at_ (r 2 j))]) rfl ?_
                        refine lv_iload_n hx hb dX6_next_154 rfl (lv_at hl 2 rfl) ?_
                        refine lv_aload_n hx hb dX6_next_155 rfl (lv_at hl 0 rfl) ?_
                        refine gf S hK hP 0 ml_0 fX6_17 (v := .ref (ad 2)) mr_2 dX6_next_156 ?_
                        refine lv_iload_n hx hb dX6_next_159 rfl (lv_at hl 3 rfl) ?_
                        refine ild S hK hP 2 ml_2 (j := b) (by omega) (Nat.le_of_ble_eq_true rfl) dX6_next_160 ?_
                        refine lv_as (y := r 2 b) rfl ?_
                        refine cRS S (rr_way l dg cA (mw cA ad r) at_ (r 2 b)) kX6_122 ⟨rfl, rfl, Nat.le_of_ble_eq_true rfl, Nat.le_of_ble_eq_true rfl⟩ hK hP (As := [.int at_, .int (r 2 b)]) rfl hl.1 (rest := [.int (m_way at_ (r 2 j))]) rfl (Nat.le_of_ble_eq_true rfl) dX6_next_161 ⟨Nat.le_of_ble_eq_true rfl, Nat.le_of_ble_eq_true rfl⟩ (st1 := [.int (m_way at_ (r 2 b)), .int (m_way at_ (r 2 j))]) rfl ?_
                        refine lv_icmp_ge (tgt := 170) hx hb dX6_next_164 (by decide) (fun b164 => ?_) (fun b164 => ?_)
                        · skip
                          refine lv_iinc (v := nI (j + 1)) (lv' := [(4, .int (nI (j + 1))), (0, .ref (ad 0)), (1, .int (nI i)), (2, .int at_), (3, .int (nI b))]) hx hb dX6_next_170 hl (k := 4) rfl (nI_1 j) (by decide) rfl (fun ls hl => ?_)
                          refine lv_goto (tgt := 5) hx hb dX6_next_173 (by decide) ?_
                          exact ih5 (j + 1) (by omega) (by omega) ls (lv_cast (lv_sub (l' := [(0, .ref (ad 0)), (1, .int (nI i)), (2, .int at_), (3, .int (nI b)), (4, .int (nI (j + 1)))]) hl [1, 2, 3, 4, 0] rfl) (by rw [nxt_b hfit hb9 b164]; rfl))
                        · skip
                          refine lv_iload hx hb dX6_next_167 (lv_at hl 4 rfl) ?_
                          refine lv_istore_n (lv' := [(3, .int (nI j)), (0, .ref (ad 0)), (1, .int (nI i)), (2, .int at_), (4, .int (nI j))]) hx hb dX6_next_169 rfl hl (by decide) rfl (fun ls hl => ?_)
                          refine lv_iinc (v := nI (j + 1)) (lv' := [(4, .int (nI (j + 1))), (3, .int (nI j)), (0, .ref (ad 0)), (1, .int (nI i)), (2, .int at_)]) hx hb dX6_next_170 hl (k := 4) rfl (nI_1 j) (by decide) rfl (fun ls hl => ?_)
                          refine lv_goto (tgt := 5) hx hb dX6_next_173 (by decide) ?_
                          exact ih5 (j + 1) (by omega) (by omega) ls (lv_cast (lv_sub (l' := [(0, .ref (ad 0)), (1, .int (nI i)), (2, .int at_), (3, .int (nI j)), (4, .int (nI (j + 1)))]) hl [2, 3, 4, 1, 0] rfl) (by rw [nxt_j hfit hb9 b164]; rfl))
                  · skip
                    refine lv_goto (tgt := 170) hx hb dX6_next_135 (by decide) ?_
                    refine lv_iinc (v := nI (j + 1)) (lv' := [(4, .int (nI (j + 1))), (0, .ref (ad 0)), (1, .int (nI i)), (2, .int at_), (3, .int (oI (nxt (m_fit r i at_) (m_dist r at_) j)))]) hx hb dX6_next_170 hl (k := 4) rfl (nI_1 j) (by decide) rfl (fun ls hl => ?_)
                    refine lv_goto (tgt := 5) hx hb dX6_next_173 (by decide) ?_
                    exact ih5 (j + 1) (by omega) (by omega) ls (lv_cast (lv_sub (l' := [(0, .ref (ad 0)), (1, .int (nI i)), (2, .int at_), (3, .int (oI (nxt (m_fit r i at_) (m_dist r at_) j))), (4, .int (nI (j + 1)))]) hl [1, 2, 3, 4, 0] rfl) (by rw [nxt_f (by simp [m_fit, b23, b37, b48, b67, b82, b132])]))
                · skip
                  refine lv_goto (tgt := 170) hx hb dX6_next_85 (by decide) ?_
                  refine lv_iinc (v := nI (j + 1)) (lv' := [(4, .int (nI (j + 1))), (0, .ref (ad 0)), (1, .int (nI i)), (2, .int at_), (3, .int (oI (nxt (m_fit r i at_) (m_dist r at_) j)))]) hx hb dX6_next_170 hl (k := 4) rfl (nI_1 j) (by decide) rfl (fun ls hl => ?_)
                  refine lv_goto (tgt := 5) hx hb dX6_next_173 (by decide) ?_
                  exact ih5 (j + 1) (by omega) (by omega) ls (lv_cast (lv_sub (l' := [(0, .ref (ad 0)), (1, .int (nI i)), (2, .int at_), (3, .int (oI (nxt (m_fit r i at_) (m_dist r at_) j))), (4, .int (nI (j + 1)))]) hl [1, 2, 3, 4, 0] rfl) (by rw [nxt_f (by simp [m_fit, b23, b37, b48, b67, b82])]))
  exact hL5 _ 0 (Nat.lt_succ_self _) (Nat.zero_le _) ls (lv_cast (lv_sub (l' := [(0, .ref (ad 0)), (1, .int (nI i)), (2, .int at_), (3, .int (-1)), (4, .int 0)]) hl [2, 3, 4, 1, 0] rfl) (by rfl))

set_option maxHeartbeats 4000000 in
set_option maxRecDepth 100000 in
theorem rr_visit0 (l : Launch) (dg : va_G) (cA : Nat → ClassId) (ad : Nat → Nat) (r : St) (n : Nat) (hn : r 0 3 = nI n) (hn24 : n ≤ 24) (v : Int32) (hv : v < 0 ∨ nI n ≤ v) (o a : Int32) (sz : Nat) : MetM l dg cA yX6_visit cX6_visit 5 (some .int) ({ frames := 2, cells := 0, slots := 0, locals := 43 } : Room) 0 0 (mw cA ad r) sz [.ref (ad 0), .int v, .int o, .int a] (mw cA ad (up r 0 0 1)) (some (.int 0)) := by
  refine ofM (by decide) (Nat.le_of_ble_eq_true rfl) (own := RX6) rfl (fun p e s0 m args below meth c ls A hAe S hr hlk hname hargs hK hP hD hS hA hsz hl => ?_)
  have hx := S.1
  have hb := S.2.1
  have hl : lv_has ls 5 [(0, .ref (ad 0)), (1, .int v), (2, .int o), (3, .int a)] := hl
  refine lv_aload_n hx hb dX6_visit_0 rfl (lv_at hl 0 rfl) ?_
  refine lv_iload_n hx hb dX6_visit_1 rfl (lv_at hl 1 rfl) ?_
  refine cM S (rr_isHouse0 l dg cA ad r n hn hn24 v hv _) kX6_133 ⟨rfl, rfl, Nat.le_of_ble_eq_true rfl, Nat.le_of_ble_eq_true rfl⟩ hK hP hD hS hA 0 ml_0 (q := (RX6, TX6, 31)) rfl rfl (As := [.int v]) rfl hl.1 (rest := []) rfl (Nat.le_of_ble_eq_true rfl) dX6_visit_2 ⟨Nat.le_of_ble_eq_true rfl, Nat.le_of_ble_eq_true rfl⟩ (st1 := [.int 0]) rfl (fun H locs hP hD hS => ?_)
  refine lv_if_ne (tgt := 10) hx hb dX6_visit_5 (by decide) (fun b5 => ?_) (fun b5 => ?_)
  · skip
    exact False.elim (by revert b5; decide)
  · skip
    refine lv_iconst (v := 0) hx hb dX6_visit_8 (by decide) ?_
    exact eMi S hr hlk hP hD hS dX6_visit_9 rfl rfl

set_option maxHeartbeats 4000000 in
set_option maxRecDepth 100000 in
theorem rr_visit2a (l : Launch) (dg : va_G) (cA : Nat → ClassId) (ad : Nat → Nat) (r : St) (n : Nat) (hn : r 0 3 = nI n) (hn24 : n ≤ 24) (j : Nat) (hj : j < n) (o a : Int32) (h1 : ¬ o = 97) (h2 : ¬ o = 110) (h3 : ¬ o = 114) (h4 : ¬ o = 101) (sz : Nat) : MetM l dg cA yX6_visit cX6_visit 5 (some .int) ({ frames := 2, cells := 0, slots := 0, locals := 43 } : Room) 0 0 (mw cA ad r) sz [.ref (ad 0), .int (nI j), .int o, .int a] (mw cA ad (up r 0 0 2)) (some (.int 0)) := by
  refine ofM (by decide) (Nat.le_of_ble_eq_true rfl) (own := RX6) rfl (fun p e s0 m args below meth c ls A hAe S hr hlk hname hargs hK hP hD hS hA hsz hl => ?_)
  have hx := S.1
  have hb := S.2.1
  have hl : lv_has ls 5 [(0, .ref (ad 0)), (1, .int (nI j)), (2, .int o), (3, .int a)] := hl
  refine lv_aload_n hx hb dX6_visit_0 rfl (lv_at hl 0 rfl) ?_
  refine lv_iload_n hx hb dX6_visit_1 rfl (lv_at hl 1 rfl) ?_
  refine cM S (rr_isHouse1 l dg cA ad r n hn hn24 j hj _) kX6_133 ⟨rfl, rfl, Nat.le_of_ble_eq_true rfl, Nat.le_of_ble_eq_true rfl⟩ hK hP hD hS hA 0 ml_0 (q := (RX6, TX6, 31)) rfl rfl (As := [.int (nI j)]) rfl hl.1 (rest := []) rfl (Nat.le_of_ble_eq_true rfl) dX6_visit_2 ⟨Nat.le_of_ble_eq_true rfl, Nat.le_of_ble_eq_true rfl⟩ (st1 := [.int 1]) rfl (fun H locs hP hD hS => ?_)
  refine lv_if_ne (tgt := 10) hx hb dX6_visit_5 (by decide) (fun b5 => ?_) (fun b5 => ?_)
  · skip
    refine lv_iload_n hx hb dX6_visit_10 rfl (lv_at hl 2 rfl) ?_
    refine lv_bipush (v := 97) hx hb dX6_visit_11 (by decide) ?_
    refine lv_icmp_eq (tgt := 34) hx hb dX6_visit_13 (by decide) (fun b13 => ?_) (fun b13 => ?_)
    · skip
      exact absurd b13 h1
    · skip
      refine lv_iload_n hx hb dX6_visit_16 rfl (lv_at hl 2 rfl) ?_
      refine lv_bipush (v := 110) hx hb dX6_visit_17 (by decide) ?_
      refine lv_icmp_eq (tgt := 34) hx hb dX6_visit_19 (by decide) (fun b19 => ?_) (fun b19 => ?_)
      · skip
        exact absurd b19 h2
      · skip
        refine lv_iload_n hx hb dX6_visit_22 rfl (lv_at hl 2 rfl) ?_
        refine lv_bipush (v := 114) hx hb dX6_visit_23 (by decide) ?_
        refine lv_icmp_eq (tgt := 34) hx hb dX6_visit_25 (by decide) (fun b25 => ?_) (fun b25 => ?_)
        · skip
          exact absurd b25 h3
        · skip
          refine lv_iload_n hx hb dX6_visit_28 rfl (lv_at hl 2 rfl) ?_
          refine lv_bipush (v := 101) hx hb dX6_visit_29 (by decide) ?_
          refine lv_icmp_ne (tgt := 44) hx hb dX6_visit_31 (by decide) (fun b31 => ?_) (fun b31 => ?_)
          · skip
            refine lv_aload_n hx hb dX6_visit_44 rfl (lv_at hl 0 rfl) ?_
            refine lv_iconst (v := 2) hx hb dX6_visit_45 (by decide) ?_
            refine cM S (rr_fails l dg cA ad (up r 0 0 0) 2 _) kX6_104 ⟨rfl, rfl, Nat.le_of_ble_eq_true rfl, Nat.le_of_ble_eq_true rfl⟩ hK hP hD hS hA 0 ml_0 (q := (RX6, TX6, 31)) rfl rfl (As := [.int 2]) rfl hl.1 (rest := []) rfl (Nat.le_of_ble_eq_true rfl) dX6_visit_46 ⟨Nat.le_of_ble_eq_true rfl, Nat.le_of_ble_eq_true rfl⟩ (st1 := [.int 0]) rfl (fun H locs hP hD hS => ?_)
            exact eMi S hr hlk hP hD hS dX6_visit_49 rfl up_twice_mw
          · skip
            exact absurd b31 h4
  · skip
    exact False.elim (by revert b5; decide)

set_option maxHeartbeats 4000000 in
set_option maxRecDepth 100000 in
theorem rr_visit2b (l : Launch) (dg : va_G) (cA : Nat → ClassId) (ad : Nat → Nat) (r : St) (n : Nat) (hn : r 0 3 = nI n) (hn24 : n ≤ 24) (j : Nat) (hj : j < n) (o a : Int32) (hov : o = 97 ∨ o = 110 ∨ o = 114 ∨ o = 101) (ha : ¬ (¬ a < 0 ∧ ¬ 9 < a)) (sz : Nat) : MetM l dg cA yX6_visit cX6_visit 5 (some .int) ({ frames := 2, cells := 0, slots := 0, locals := 43 } : Room) 0 0 (mw cA ad r) sz [.ref (ad 0), .int (nI j), .int o, .int a] (mw cA ad (up r 0 0 2)) (some (.int 0)) := by
  refine ofM (by decide) (Nat.le_of_ble_eq_true rfl) (own := RX6) rfl (fun p e s0 m args below meth c ls A hAe S hr hlk hname hargs hK hP hD hS hA hsz hl => ?_)
  have hx := S.1
  have hb := S.2.1
  have hl : lv_has ls 5 [(0, .ref (ad 0)), (1, .int (nI j)), (2, .int o), (3, .int a)] := hl
  refine lv_aload_n hx hb dX6_visit_0 rfl (lv_at hl 0 rfl) ?_
  refine lv_iload_n hx hb dX6_visit_1 rfl (lv_at hl 1 rfl) ?_
  refine cM S (rr_isHouse1 l dg cA ad r n hn hn24 j hj _) kX6_133 ⟨rfl, rfl, Nat.le_of_ble_eq_true rfl, Nat.le_of_ble_eq_true rfl⟩ hK hP hD hS hA 0 ml_0 (q := (RX6, TX6, 31)) rfl rfl (As := [.int (nI j)]) rfl hl.1 (rest := []) rfl (Nat.le_of_ble_eq_true rfl) dX6_visit_2 ⟨Nat.le_of_ble_eq_true rfl, Nat.le_of_ble_eq_true rfl⟩ (st1 := [.int 1]) rfl (fun H locs hP hD hS => ?_)
  refine lv_if_ne (tgt := 10) hx hb dX6_visit_5 (by decide) (fun b5 => ?_) (fun b5 => ?_)
  · skip
    refine lv_iload_n hx hb dX6_visit_10 rfl (lv_at hl 2 rfl) ?_
    refine lv_bipush (v := 97) hx hb dX6_visit_11 (by decide) ?_
    refine lv_icmp_eq (tgt := 34) hx hb dX6_visit_13 (by decide) (fun b13 => ?_) (fun b13 => ?_)
    · skip
      refine lv_iload_n hx hb dX6_visit_34 rfl (lv_at hl 3 rfl) ?_
      refine lv_iconst (v := 0) hx hb dX6_visit_35 (by decide) ?_
      refine lv_bipush (v := 9) hx hb dX6_visit_36 (by decide) ?_
      refine cRS S (rr_in0 l dg cA (mw cA ad (up r 0 0 0)) a 0 9 ha) kX6_96 ⟨rfl, rfl, Nat.le_of_ble_eq_true rfl, Nat.le_of_ble_eq_true rfl⟩ hK hP (As := [.int a, .int 0, .int 9]) rfl hl.1 (rest := []) rfl (Nat.le_of_ble_eq_true rfl) dX6_visit_38 ⟨Nat.le_of_ble_eq_true rfl, Nat.le_of_ble_eq_true rfl⟩ (st1 := [.int 0]) rfl ?_
      refine lv_if_ne (tgt := 50) hx hb dX6_visit_41 (by decide) (fun b41 => ?_) (fun b41 => ?_)
      · skip
        exact False.elim (by revert b41; decide)
      · skip
        refine lv_aload_n hx hb dX6_visit_44 rfl (lv_at hl 0 rfl) ?_
        refine lv_iconst (v := 2) hx hb dX6_visit_45 (by decide) ?_
        refine cM S (rr_fails l dg cA ad (up r 0 0 0) 2 _) kX6_104 ⟨rfl, rfl, Nat.le_of_ble_eq_true rfl, Nat.le_of_ble_eq_true rfl⟩ hK hP hD hS hA 0 ml_0 (q := (RX6, TX6, 31)) rfl rfl (As := [.int 2]) rfl hl.1 (rest := []) rfl (Nat.le_of_ble_eq_true rfl) dX6_visit_46 ⟨Nat.le_of_ble_eq_true rfl, Nat.le_of_ble_eq_true rfl⟩ (st1 := [.int 0]) rfl (fun H locs hP hD hS => ?_)
        exact eMi S hr hlk hP hD hS dX6_visit_49 rfl up_twice_mw
    · skip
      refine lv_iload_n hx hb dX6_visit_16 rfl (lv_at hl 2 rfl) ?_
      refine lv_bipush (v := 110) hx hb dX6_visit_17 (by decide) ?_
      refine lv_icmp_eq (tgt := 34) hx hb dX6_visit_19 (by decide) (fun b19 => ?_) (fun b19 => ?_)
      · skip
        refine lv_iload_n hx hb dX6_visit_34 rfl (lv_at hl 3 rfl) ?_
        refine lv_iconst (v := 0) hx hb dX6_visit_35 (by decide) ?_
        refine lv_bipush (v := 9) hx hb dX6_visit_36 (by decide) ?_
        refine cRS S (rr_in0 l dg cA (mw cA ad (up r 0 0 0)) a 0 9 ha) kX6_96 ⟨rfl, rfl, Nat.le_of_ble_eq_true rfl, Nat.le_of_ble_eq_true rfl⟩ hK hP (As := [.int a, .int 0, .int 9]) rfl hl.1 (rest := []) rfl (Nat.le_of_ble_eq_true rfl) dX6_visit_38 ⟨Nat.le_of_ble_eq_true rfl, Nat.le_of_ble_eq_true rfl⟩ (st1 := [.int 0]) rfl ?_
        refine lv_if_ne (tgt := 50) hx hb dX6_visit_41 (by decide) (fun b41 => ?_) (fun b41 => ?_)
        · skip
          exact False.elim (by revert b41; decide)
        · skip
          refine lv_aload_n hx hb dX6_visit_44 rfl (lv_at hl 0 rfl) ?_
          refine lv_iconst (v := 2) hx hb dX6_visit_45 (by decide) ?_
          refine cM S (rr_fails l dg cA ad (up r 0 0 0) 2 _) kX6_104 ⟨rfl, rfl, Nat.le_of_ble_eq_true rfl, Nat.le_of_ble_eq_true rfl⟩ hK hP hD hS hA 0 ml_0 (q := (RX6, TX6, 31)) rfl rfl (As := [.int 2]) rfl hl.1 (rest := []) rfl (Nat.le_of_ble_eq_true rfl) dX6_visit_46 ⟨Nat.le_of_ble_eq_true rfl, Nat.le_of_ble_eq_true rfl⟩ (st1 := [.int 0]) rfl (fun H locs hP hD hS => ?_)
          exact eMi S hr hlk hP hD hS dX6_visit_49 rfl up_twice_mw
      · skip
        refine lv_iload_n hx hb dX6_visit_22 rfl (lv_at hl 2 rfl) ?_
        refine lv_bipush (v := 114) hx hb dX6_visit_23 (by decide) ?_
        refine lv_icmp_eq (tgt := 34) hx hb dX6_visit_25 (by decide) (fun b25 => ?_) (fun b25 => ?_)
        · skip
          refine lv_iload_n hx hb dX6_visit_34 rfl (lv_at hl 3 rfl) ?_
          refine lv_iconst (v := 0) hx hb dX6_visit_35 (by decide) ?_
          refine lv_bipush (v := 9) hx hb dX6_visit_36 (by decide) ?_
          refine cRS S (rr_in0 l dg cA (mw cA ad (up r 0 0 0)) a 0 9 ha) kX6_96 ⟨rfl, rfl, Nat.le_of_ble_eq_true rfl, Nat.le_of_ble_eq_true rfl⟩ hK hP (As := [.int a, .int 0, .int 9]) rfl hl.1 (rest := []) rfl (Nat.le_of_ble_eq_true rfl) dX6_visit_38 ⟨Nat.le_of_ble_eq_true rfl, Nat.le_of_ble_eq_true rfl⟩ (st1 := [.int 0]) rfl ?_
          refine lv_if_ne (tgt := 50) hx hb dX6_visit_41 (by decide) (fun b41 => ?_) (fun b41 => ?_)
          · skip
            exact False.elim (by revert b41; decide)
          · skip
            refine lv_aload_n hx hb dX6_visit_44 rfl (lv_at hl 0 rfl) ?_
            refine lv_iconst (v := 2) hx hb dX6_visit_45 (by decide) ?_
            refine cM S (rr_fails l dg cA ad (up r 0 0 0) 2 _) kX6_104 ⟨rfl, rfl, Nat.le_of_ble_eq_true rfl, Nat.le_of_ble_eq_true rfl⟩ hK hP hD hS hA 0 ml_0 (q := (RX6, TX6, 31)) rfl rfl (As := [.int 2]) rfl hl.1 (rest := []) rfl (Nat.le_of_ble_eq_true rfl) dX6_visit_46 ⟨Nat.le_of_ble_eq_true rfl, Nat.le_of_ble_eq_true rfl⟩ (st1 := [.int 0]) rfl (fun H locs hP hD hS => ?_)
            exact eMi S hr hlk hP hD hS dX6_visit_49 rfl up_twice_mw
        · skip
          refine lv_iload_n hx hb dX6_visit_28 rfl (lv_at hl 2 rfl) ?_
          refine lv_bipush (v := 101) hx hb dX6_visit_29 (by decide) ?_
          refine lv_icmp_ne (tgt := 44) hx hb dX6_visit_31 (by decide) (fun b31 => ?_) (fun b31 => ?_)
          · skip
            exact absurd hov (by simp [b13, b19, b25, b31])
          · skip
            refine lv_iload_n hx hb dX6_visit_34 rfl (lv_at hl 3 rfl) ?_
            refine lv_iconst (v := 0) hx hb dX6_visit_35 (by decide) ?_
            refine lv_bipush (v := 9) hx hb dX6_visit_36 (by decide) ?_
            refine cRS S (rr_in0 l dg cA (mw cA ad (up r 0 0 0)) a 0 9 ha) kX6_96 ⟨rfl, rfl, Nat.le_of_ble_eq_true rfl, Nat.le_of_ble_eq_true rfl⟩ hK hP (As := [.int a, .int 0, .int 9]) rfl hl.1 (rest := []) rfl (Nat.le_of_ble_eq_true rfl) dX6_visit_38 ⟨Nat.le_of_ble_eq_true rfl, Nat.le_of_ble_eq_true rfl⟩ (st1 := [.int 0]) rfl ?_
            refine lv_if_ne (tgt := 50) hx hb dX6_visit_41 (by decide) (fun b41 => ?_) (fun b41 => ?_)
            · skip
              exact False.elim (by revert b41; decide)
            · skip
              refine lv_aload_n hx hb dX6_visit_44 rfl (lv_at hl 0 rfl) ?_
              refine lv_iconst (v := 2) hx hb dX6_visit_45 (by decide) ?_
              refine cM S (rr_fails l dg cA ad (up r 0 0 0) 2 _) kX6_104 ⟨rfl, rfl, Nat.le_of_ble_eq_true rfl, Nat.le_of_ble_eq_true rfl⟩ hK hP hD hS hA 0 ml_0 (q := (RX6, TX6, 31)) rfl rfl (As := [.int 2]) rfl hl.1 (rest := []) rfl (Nat.le_of_ble_eq_true rfl) dX6_visit_46 ⟨Nat.le_of_ble_eq_true rfl, Nat.le_of_ble_eq_true rfl⟩ (st1 := [.int 0]) rfl (fun H locs hP hD hS => ?_)
              exact eMi S hr hlk hP hD hS dX6_visit_49 rfl up_twice_mw
  · skip
    exact False.elim (by revert b5; decide)

set_option maxHeartbeats 4000000 in
set_option maxRecDepth 100000 in
theorem rr_visit3a (l : Launch) (dg : va_G) (cA : Nat → ClassId) (ad : Nat → Nat) (r : St) (n : Nat) (hn : r 0 3 = nI n) (hn24 : n ≤ 24) (j : Nat) (hj : j < n) (o a : Int32) (hov : o = 97 ∨ o = 110 ∨ o = 114 ∨ o = 101) (h1 : ¬ a < 0) (h2 : ¬ 9 < a) (hr0 : r 18 j = -1) (sz : Nat) : MetM l dg cA yX6_visit cX6_visit 5 (some .int) ({ frames := 2, cells := 0, slots := 0, locals := 43 } : Room) 0 0 (mw cA ad r) sz [.ref (ad 0), .int (nI j), .int o, .int a] (mw cA ad (up r 0 0 3)) (some (.int 0)) := by
  refine ofM (by decide) (Nat.le_of_ble_eq_true rfl) (own := RX6) rfl (fun p e s0 m args below meth c ls A hAe S hr hlk hname hargs hK hP hD hS hA hsz hl => ?_)
  have hx := S.1
  have hb := S.2.1
  have hl : lv_has ls 5 [(0, .ref (ad 0)), (1, .int (nI j)), (2, .int o), (3, .int a)] := hl
  refine lv_aload_n hx hb dX6_visit_0 rfl (lv_at hl 0 rfl) ?_
  refine lv_iload_n hx hb dX6_visit_1 rfl (lv_at hl 1 rfl) ?_
  refine cM S (rr_isHouse1 l dg cA ad r n hn hn24 j hj _) kX6_133 ⟨rfl, rfl, Nat.le_of_ble_eq_true rfl, Nat.le_of_ble_eq_true rfl⟩ hK hP hD hS hA 0 ml_0 (q := (RX6, TX6, 31)) rfl rfl (As := [.int (nI j)]) rfl hl.1 (rest := []) rfl (Nat.le_of_ble_eq_true rfl) dX6_visit_2 ⟨Nat.le_of_ble_eq_true rfl, Nat.le_of_ble_eq_true rfl⟩ (st1 := [.int 1]) rfl (fun H locs hP hD hS => ?_)
  refine lv_if_ne (tgt := 10) hx hb dX6_visit_5 (by decide) (fun b5 => ?_) (fun b5 => ?_)
  · skip
    refine lv_iload_n hx hb dX6_visit_10 rfl (lv_at hl 2 rfl) ?_
    refine lv_bipush (v := 97) hx hb dX6_visit_11 (by decide) ?_
    refine lv_icmp_eq (tgt := 34) hx hb dX6_visit_13 (by decide) (fun b13 => ?_) (fun b13 => ?_)
    · skip
      refine lv_iload_n hx hb dX6_visit_34 rfl (lv_at hl 3 rfl) ?_
      refine lv_iconst (v := 0) hx hb dX6_visit_35 (by decide) ?_
      refine lv_bipush (v := 9) hx hb dX6_visit_36 (by decide) ?_
      refine cRS S (rr_in1 l dg cA (mw cA ad (up r 0 0 0)) a 0 9 h1 h2) kX6_96 ⟨rfl, rfl, Nat.le_of_ble_eq_true rfl, Nat.le_of_ble_eq_true rfl⟩ hK hP (As := [.int a, .int 0, .int 9]) rfl hl.1 (rest := []) rfl (Nat.le_of_ble_eq_true rfl) dX6_visit_38 ⟨Nat.le_of_ble_eq_true rfl, Nat.le_of_ble_eq_true rfl⟩ (st1 := [.int 1]) rfl ?_
      refine lv_if_ne (tgt := 50) hx hb dX6_visit_41 (by decide) (fun b41 => ?_) (fun b41 => ?_)
      · skip
        refine lv_aload_n hx hb dX6_visit_50 rfl (lv_at hl 0 rfl) ?_
        refine gf S hK hP 0 ml_0 fX6_66 (v := .ref (ad 18)) mr_18 dX6_visit_51 ?_
        refine lv_iload_n hx hb dX6_visit_54 rfl (lv_at hl 1 rfl) ?_
        refine ild S hK hP 18 ml_18 (j := j) (by omega) (Nat.le_of_ble_eq_true rfl) dX6_visit_55 ?_
        refine lv_as (y := (-1)) hr0 ?_
        refine lv_istore (lv' := [(4, .int (-1)), (0, .ref (ad 0)), (1, .int (nI j)), (2, .int o), (3, .int a)]) hx hb dX6_visit_56 hl (by decide) rfl (fun ls hl => ?_)
        refine lv_iload hx hb dX6_visit_58 (lv_at hl 0 rfl) ?_
        refine lv_iconst (v := (-1)) hx hb dX6_visit_60 (by decide) ?_
        refine lv_icmp_eq (tgt := 84) hx hb dX6_visit_61 (by decide) (fun b61 => ?_) (fun b61 => ?_)
        · skip
          refine lv_aload_n hx hb dX6_visit_84 rfl (lv_at hl 1 rfl) ?_
          refine lv_iconst (v := 3) hx hb dX6_visit_85 (by decide) ?_
          refine cM S (rr_fails l dg cA ad (up r 0 0 0) 3 _) kX6_104 ⟨rfl, rfl, Nat.le_of_ble_eq_true rfl, Nat.le_of_ble_eq_true rfl⟩ hK hP hD hS hA 0 ml_0 (q := (RX6, TX6, 31)) rfl rfl (As := [.int 3]) rfl hl.1 (rest := []) rfl (Nat.le_of_ble_eq_true rfl) dX6_visit_86 ⟨Nat.le_of_ble_eq_true rfl, Nat.le_of_ble_eq_true rfl⟩ (st1 := [.int 0]) rfl (fun H locs hP hD hS => ?_)
          exact eMi S hr hlk hP hD hS dX6_visit_89 rfl up_twice_mw
        · skip
          exact False.elim (by revert b61; decide)
      · skip
        exact absurd b41 b5
    · skip
      refine lv_iload_n hx hb dX6_visit_16 rfl (lv_at hl 2 rfl) ?_
      refine lv_bipush (v := 110) hx hb dX6_visit_17 (by decide) ?_
      refine lv_icmp_eq (tgt := 34) hx hb dX6_visit_19 (by decide) (fun b19 => ?_) (fun b19 => ?_)
      · skip
        refine lv_iload_n hx hb dX6_visit_34 rfl (lv_at hl 3 rfl) ?_
        refine lv_iconst (v := 0) hx hb dX6_visit_35 (by decide) ?_
        refine lv_bipush (v := 9) hx hb dX6_visit_36 (by decide) ?_
        refine cRS S (rr_in1 l dg cA (mw cA ad (up r 0 0 0)) a 0 9 h1 h2) kX6_96 ⟨rfl, rfl, Nat.le_of_ble_eq_true rfl, Nat.le_of_ble_eq_true rfl⟩ hK hP (As := [.int a, .int 0, .int 9]) rfl hl.1 (rest := []) rfl (Nat.le_of_ble_eq_true rfl) dX6_visit_38 ⟨Nat.le_of_ble_eq_true rfl, Nat.le_of_ble_eq_true rfl⟩ (st1 := [.int 1]) rfl ?_
        refine lv_if_ne (tgt := 50) hx hb dX6_visit_41 (by decide) (fun b41 => ?_) (fun b41 => ?_)
        · skip
          refine lv_aload_n hx hb dX6_visit_50 rfl (lv_at hl 0 rfl) ?_
          refine gf S hK hP 0 ml_0 fX6_66 (v := .ref (ad 18)) mr_18 dX6_visit_51 ?_
          refine lv_iload_n hx hb dX6_visit_54 rfl (lv_at hl 1 rfl) ?_
          refine ild S hK hP 18 ml_18 (j := j) (by omega) (Nat.le_of_ble_eq_true rfl) dX6_visit_55 ?_
          refine lv_as (y := (-1)) hr0 ?_
          refine lv_istore (lv' := [(4, .int (-1)), (0, .ref (ad 0)), (1, .int (nI j)), (2, .int o), (3, .int a)]) hx hb dX6_visit_56 hl (by decide) rfl (fun ls hl => ?_)
          refine lv_iload hx hb dX6_visit_58 (lv_at hl 0 rfl) ?_
          refine lv_iconst (v := (-1)) hx hb dX6_visit_60 (by decide) ?_
          refine lv_icmp_eq (tgt := 84) hx hb dX6_visit_61 (by decide) (fun b61 => ?_) (fun b61 => ?_)
          · skip
            refine lv_aload_n hx hb dX6_visit_84 rfl (lv_at hl 1 rfl) ?_
            refine lv_iconst (v := 3) hx hb dX6_visit_85 (by decide) ?_
            refine cM S (rr_fails l dg cA ad (up r 0 0 0) 3 _) kX6_104 ⟨rfl, rfl, Nat.le_of_ble_eq_true rfl, Nat.le_of_ble_eq_true rfl⟩ hK hP hD hS hA 0 ml_0 (q := (RX6, TX6, 31)) rfl rfl (As := [.int 3]) rfl hl.1 (rest := []) rfl (Nat.le_of_ble_eq_true rfl) dX6_visit_86 ⟨Nat.le_of_ble_eq_true rfl, Nat.le_of_ble_eq_true rfl⟩ (st1 := [.int 0]) rfl (fun H locs hP hD hS => ?_)
            exact eMi S hr hlk hP hD hS dX6_visit_89 rfl up_twice_mw
          · skip
            exact False.elim (by revert b61; decide)
        · skip
          exact absurd b41 b5
      · skip
        refine lv_iload_n hx hb dX6_visit_22 rfl (lv_at hl 2 rfl) ?_
        refine lv_bipush (v := 114) hx hb dX6_visit_23 (by decide) ?_
        refine lv_icmp_eq (tgt := 34) hx hb dX6_visit_25 (by decide) (fun b25 => ?_) (fun b25 => ?_)
        · skip
          refine lv_iload_n hx hb dX6_visit_34 rfl (lv_at hl 3 rfl) ?_
          refine lv_iconst (v := 0) hx hb dX6_visit_35 (by decide) ?_
          refine lv_bipush (v := 9) hx hb dX6_visit_36 (by decide) ?_
          refine cRS S (rr_in1 l dg cA (mw cA ad (up r 0 0 0)) a 0 9 h1 h2) kX6_96 ⟨rfl, rfl, Nat.le_of_ble_eq_true rfl, Nat.le_of_ble_eq_true rfl⟩ hK hP (As := [.int a, .int 0, .int 9]) rfl hl.1 (rest := []) rfl (Nat.le_of_ble_eq_true rfl) dX6_visit_38 ⟨Nat.le_of_ble_eq_true rfl, Nat.le_of_ble_eq_true rfl⟩ (st1 := [.int 1]) rfl ?_
          refine lv_if_ne (tgt := 50) hx hb dX6_visit_41 (by decide) (fun b41 => ?_) (fun b41 => ?_)
          · skip
            refine lv_aload_n hx hb dX6_visit_50 rfl (lv_at hl 0 rfl) ?_
            refine gf S hK hP 0 ml_0 fX6_66 (v := .ref (ad 18)) mr_18 dX6_visit_51 ?_
            refine lv_iload_n hx hb dX6_visit_54 rfl (lv_at hl 1 rfl) ?_
            refine ild S hK hP 18 ml_18 (j := j) (by omega) (Nat.le_of_ble_eq_true rfl) dX6_visit_55 ?_
            refine lv_as (y := (-1)) hr0 ?_
            refine lv_istore (lv' := [(4, .int (-1)), (0, .ref (ad 0)), (1, .int (nI j)), (2, .int o), (3, .int a)]) hx hb dX6_visit_56 hl (by decide) rfl (fun ls hl => ?_)
            refine lv_iload hx hb dX6_visit_58 (lv_at hl 0 rfl) ?_
            refine lv_iconst (v := (-1)) hx hb dX6_visit_60 (by decide) ?_
            refine lv_icmp_eq (tgt := 84) hx hb dX6_visit_61 (by decide) (fun b61 => ?_) (fun b61 => ?_)
            · skip
              refine lv_aload_n hx hb dX6_visit_84 rfl (lv_at hl 1 rfl) ?_
              refine lv_iconst (v := 3) hx hb dX6_visit_85 (by decide) ?_
              refine cM S (rr_fails l dg cA ad (up r 0 0 0) 3 _) kX6_104 ⟨rfl, rfl, Nat.le_of_ble_eq_true rfl, Nat.le_of_ble_eq_true rfl⟩ hK hP hD hS hA 0 ml_0 (q := (RX6, TX6, 31)) rfl rfl (As := [.int 3]) rfl hl.1 (rest := []) rfl (Nat.le_of_ble_eq_true rfl) dX6_visit_86 ⟨Nat.le_of_ble_eq_true rfl, Nat.le_of_ble_eq_true rfl⟩ (st1 := [.int 0]) rfl (fun H locs hP hD hS => ?_)
              exact eMi S hr hlk hP hD hS dX6_visit_89 rfl up_twice_mw
            · skip
              exact False.elim (by revert b61; decide)
          · skip
            exact absurd b41 b5
        · skip
          refine lv_iload_n hx hb dX6_visit_28 rfl (lv_at hl 2 rfl) ?_
          refine lv_bipush (v := 101) hx hb dX6_visit_29 (by decide) ?_
          refine lv_icmp_ne (tgt := 44) hx hb dX6_visit_31 (by decide) (fun b31 => ?_) (fun b31 => ?_)
          · skip
            exact absurd hov (by simp [b13, b19, b25, b31])
          · skip
            refine lv_iload_n hx hb dX6_visit_34 rfl (lv_at hl 3 rfl) ?_
            refine lv_iconst (v := 0) hx hb dX6_visit_35 (by decide) ?_
            refine lv_bipush (v := 9) hx hb dX6_visit_36 (by decide) ?_
            refine cRS S (rr_in1 l dg cA (mw cA ad (up r 0 0 0)) a 0 9 h1 h2) kX6_96 ⟨rfl, rfl, Nat.le_of_ble_eq_true rfl, Nat.le_of_ble_eq_true rfl⟩ hK hP (As := [.int a, .int 0, .int 9]) rfl hl.1 (rest := []) rfl (Nat.le_of_ble_eq_true rfl) dX6_visit_38 ⟨Nat.le_of_ble_eq_true rfl, Nat.le_of_ble_eq_true rfl⟩ (st1 := [.int 1]) rfl ?_
            refine lv_if_ne (tgt := 50) hx hb dX6_visit_41 (by decide) (fun b41 => ?_) (fun b41 => ?_)
            · skip
              refine lv_aload_n hx hb dX6_visit_50 rfl (lv_at hl 0 rfl) ?_
              refine gf S hK hP 0 ml_0 fX6_66 (v := .ref (ad 18)) mr_18 dX6_visit_51 ?_
              refine lv_iload_n hx hb dX6_visit_54 rfl (lv_at hl 1 rfl) ?_
              refine ild S hK hP 18 ml_18 (j := j) (by omega) (Nat.le_of_ble_eq_true rfl) dX6_visit_55 ?_
              refine lv_as (y := (-1)) hr0 ?_
              refine lv_istore (lv' := [(4, .int (-1)), (0, .ref (ad 0)), (1, .int (nI j)), (2, .int o), (3, .int a)]) hx hb dX6_visit_56 hl (by decide) rfl (fun ls hl => ?_)
              refine lv_iload hx hb dX6_visit_58 (lv_at hl 0 rfl) ?_
              refine lv_iconst (v := (-1)) hx hb dX6_visit_60 (by decide) ?_
              refine lv_icmp_eq (tgt := 84) hx hb dX6_visit_61 (by decide) (fun b61 => ?_) (fun b61 => ?_)
              · skip
                refine lv_aload_n hx hb dX6_visit_84 rfl (lv_at hl 1 rfl) ?_
                refine lv_iconst (v := 3) hx hb dX6_visit_85 (by decide) ?_
                refine cM S (rr_fails l dg cA ad (up r 0 0 0) 3 _) kX6_104 ⟨rfl, rfl, Nat.le_of_ble_eq_true rfl, Nat.le_of_ble_eq_true rfl⟩ hK hP hD hS hA 0 ml_0 (q := (RX6, TX6, 31)) rfl rfl (As := [.int 3]) rfl hl.1 (rest := []) rfl (Nat.le_of_ble_eq_true rfl) dX6_visit_86 ⟨Nat.le_of_ble_eq_true rfl, Nat.le_of_ble_eq_true rfl⟩ (st1 := [.int 0]) rfl (fun H locs hP hD hS => ?_)
                exact eMi S hr hlk hP hD hS dX6_visit_89 rfl up_twice_mw
              · skip
                exact False.elim (by revert b61; decide)
            · skip
              exact absurd b41 b5
  · skip
    exact False.elim (by revert b5; decide)

set_option maxHeartbeats 4000000 in
set_option maxRecDepth 100000 in
theorem rr_visit3b (l : Launch) (dg : va_G) (cA : Nat → ClassId) (ad : Nat → Nat) (r : St) (n : Nat) (hn : r 0 3 = nI n) (hn24 : n ≤ 24) (j : Nat) (hj : j < n) (o a : Int32) (hov : o = 97 ∨ o = 110 ∨ o = 114 ∨ o = 101) (h1 : ¬ a < 0) (h2 : ¬ 9 < a) (i : Nat) (hi4 : i < 4) (hr0 : r 18 j = nI i) (ht : ¬ r 17 j = 0) (sz : Nat) : MetM l dg cA yX6_visit cX6_visit 5 (some .int) ({ frames := 2, cells := 0, slots := 0, locals := 43 } : Room) 0 0 (mw cA ad r) sz [.ref (ad 0), .int (nI j), .int o, .int a] (mw cA ad (up r 0 0 3)) (some (.int 0)) := by
  refine ofM (by decide) (Nat.le_of_ble_eq_true rfl) (own := RX6) rfl (fun p e s0 m args below meth c ls A hAe S hr hlk hname hargs hK hP hD hS hA hsz hl => ?_)
  have hx := S.1
  have hb := S.2.1
  have hl : lv_has ls 5 [(0, .ref (ad 0)), (1, .int (nI j)), (2, .int o), (3, .int a)] := hl
  refine lv_aload_n hx hb dX6_visit_0 rfl (lv_at hl 0 rfl) ?_
  refine lv_iload_n hx hb dX6_visit_1 rfl (lv_at hl 1 rfl) ?_
  refine cM S (rr_isHouse1 l dg cA ad r n hn hn24 j hj _) kX6_133 ⟨rfl, rfl, Nat.le_of_ble_eq_true rfl, Nat.le_of_ble_eq_true rfl⟩ hK hP hD hS hA 0 ml_0 (q := (RX6, TX6, 31)) rfl rfl (As := [.int (nI j)]) rfl hl.1 (rest := []) rfl (Nat.le_of_ble_eq_true rfl) dX6_visit_2 ⟨Nat.le_of_ble_eq_true rfl, Nat.le_of_ble_eq_true rfl⟩ (st1 := [.int 1]) rfl (fun H locs hP hD hS => ?_)
  refine lv_if_ne (tgt := 10) hx hb dX6_visit_5 (by decide) (fun b5 => ?_) (fun b5 => ?_)
  · skip
    refine lv_iload_n hx hb dX6_visit_10 rfl (lv_at hl 2 rfl) ?_
    refine lv_bipush (v := 97) hx hb dX6_visit_11 (by decide) ?_
    refine lv_icmp_eq (tgt := 34) hx hb dX6_visit_13 (by decide) (fun b13 => ?_) (fun b13 => ?_)
    · skip
      refine lv_iload_n hx hb dX6_visit_34 rfl (lv_at hl 3 rfl) ?_
      refine lv_iconst (v := 0) hx hb dX6_visit_35 (by decide) ?_
      refine lv_bipush (v := 9) hx hb dX6_visit_36 (by decide) ?_
      refine cRS S (rr_in1 l dg cA (mw cA ad (up r 0 0 0)) a 0 9 h1 h2) kX6_96 ⟨rfl, rfl, Nat.le_of_ble_eq_true rfl, Nat.le_of_ble_eq_true rfl⟩ hK hP (As := [.int a, .int 0, .int 9]) rfl hl.1 (rest := []) rfl (Nat.le_of_ble_eq_true rfl) dX6_visit_38 ⟨Nat.le_of_ble_eq_true rfl, Nat.le_of_ble_eq_true rfl⟩ (st1 := [.int 1]) rfl ?_
      refine lv_if_ne (tgt := 50) hx hb dX6_visit_41 (by decide) (fun b41 => ?_) (fun b41 => ?_)
      · skip
        refine lv_aload_n hx hb dX6_visit_50 rfl (lv_at hl 0 rfl) ?_
        refine gf S hK hP 0 ml_0 fX6_66 (v := .ref (ad 18)) mr_18 dX6_visit_51 ?_
        refine lv_iload_n hx hb dX6_visit_54 rfl (lv_at hl 1 rfl) ?_
        refine ild S hK hP 18 ml_18 (j := j) (by omega) (Nat.le_of_ble_eq_true rfl) dX6_visit_55 ?_
        refine lv_as (y := nI i) hr0 ?_
        refine lv_istore (lv' := [(4, .int (nI i)), (0, .ref (ad 0)), (1, .int (nI j)), (2, .int o), (3, .int a)]) hx hb dX6_visit_56 hl (by decide) rfl (fun ls hl => ?_)
        refine lv_iload hx hb dX6_visit_58 (lv_at hl 0 rfl) ?_
        refine lv_iconst (v := (-1)) hx hb dX6_visit_60 (by decide) ?_
        refine lv_icmp_eq (tgt := 84) hx hb dX6_visit_61 (by decide) (fun b61 => ?_) (fun b61 => ?_)
        · skip
          exact absurd b61 (nI_m1 (by omega))
        · skip
          refine lv_aload_n hx hb dX6_visit_64 rfl (lv_at hl 1 rfl) ?_
          refine gf S hK hP 0 ml_0 fX6_63 (v := .ref (ad 17)) mr_17 dX6_visit_65 ?_
          refine lv_iload_n hx hb dX6_visit_68 rfl (lv_at hl 2 rfl) ?_
          refine zld S hK hP 17 ml_17 (j := j) (by omega) (Nat.le_of_ble_eq_true rfl) dX6_visit_69 ?_
          refine lv_as (y := r 17 j) rfl ?_
          refine lv_if_ne (tgt := 84) hx hb dX6_visit_70 (by decide) (fun b70 => ?_) (fun b70 => ?_)
          · skip
            refine lv_aload_n hx hb dX6_visit_84 rfl (lv_at hl 1 rfl) ?_
            refine lv_iconst (v := 3) hx hb dX6_visit_85 (by decide) ?_
            refine cM S (rr_fails l dg cA ad (up r 0 0 0) 3 _) kX6_104 ⟨rfl, rfl, Nat.le_of_ble_eq_true rfl, Nat.le_of_ble_eq_true rfl⟩ hK hP hD hS hA 0 ml_0 (q := (RX6, TX6, 31)) rfl rfl (As := [.int 3]) rfl hl.1 (rest := []) rfl (Nat.le_of_ble_eq_true rfl) dX6_visit_86 ⟨Nat.le_of_ble_eq_true rfl, Nat.le_of_ble_eq_true rfl⟩ (st1 := [.int 0]) rfl (fun H locs hP hD hS => ?_)
            exact eMi S hr hlk hP hD hS dX6_visit_89 rfl up_twice_mw
          · skip
            exact absurd b70 ht
      · skip
        exact absurd b41 b5
    · skip
      refine lv_iload_n hx hb dX6_visit_16 rfl (lv_at hl 2 rfl) ?_
      refine lv_bipush (v := 110) hx hb dX6_visit_17 (by decide) ?_
      refine lv_icmp_eq (tgt := 34) hx hb dX6_visit_19 (by decide) (fun b19 => ?_) (fun b19 => ?_)
      · skip
        refine lv_iload_n hx hb dX6_visit_34 rfl (lv_at hl 3 rfl) ?_
        refine lv_iconst (v := 0) hx hb dX6_visit_35 (by decide) ?_
        refine lv_bipush (v := 9) hx hb dX6_visit_36 (by decide) ?_
        refine cRS S (rr_in1 l dg cA (mw cA ad (up r 0 0 0)) a 0 9 h1 h2) kX6_96 ⟨rfl, rfl, Nat.le_of_ble_eq_true rfl, Nat.le_of_ble_eq_true rfl⟩ hK hP (As := [.int a, .int 0, .int 9]) rfl hl.1 (rest := []) rfl (Nat.le_of_ble_eq_true rfl) dX6_visit_38 ⟨Nat.le_of_ble_eq_true rfl, Nat.le_of_ble_eq_true rfl⟩ (st1 := [.int 1]) rfl ?_
        refine lv_if_ne (tgt := 50) hx hb dX6_visit_41 (by decide) (fun b41 => ?_) (fun b41 => ?_)
        · skip
          refine lv_aload_n hx hb dX6_visit_50 rfl (lv_at hl 0 rfl) ?_
          refine gf S hK hP 0 ml_0 fX6_66 (v := .ref (ad 18)) mr_18 dX6_visit_51 ?_
          refine lv_iload_n hx hb dX6_visit_54 rfl (lv_at hl 1 rfl) ?_
          refine ild S hK hP 18 ml_18 (j := j) (by omega) (Nat.le_of_ble_eq_true rfl) dX6_visit_55 ?_
          refine lv_as (y := nI i) hr0 ?_
          refine lv_istore (lv' := [(4, .int (nI i)), (0, .ref (ad 0)), (1, .int (nI j)), (2, .int o), (3, .int a)]) hx hb dX6_visit_56 hl (by decide) rfl (fun ls hl => ?_)
          refine lv_iload hx hb dX6_visit_58 (lv_at hl 0 rfl) ?_
          refine lv_iconst (v := (-1)) hx hb dX6_visit_60 (by decide) ?_
          refine lv_icmp_eq (tgt := 84) hx hb dX6_visit_61 (by decide) (fun b61 => ?_) (fun b61 => ?_)
          · skip
            exact absurd b61 (nI_m1 (by omega))
          · skip
            refine lv_aload_n hx hb dX6_visit_64 rfl (lv_at hl 1 rfl) ?_
            refine gf S hK hP 0 ml_0 fX6_63 (v := .ref (ad 17)) mr_17 dX6_visit_65 ?_
            refine lv_iload_n hx hb dX6_visit_68 rfl (lv_at hl 2 rfl) ?_
            refine zld S hK hP 17 ml_17 (j := j) (by omega) (Nat.le_of_ble_eq_true rfl) dX6_visit_69 ?_
            refine lv_as (y := r 17 j) rfl ?_
            refine lv_if_ne (tgt := 84) hx hb dX6_visit_70 (by decide) (fun b70 => ?_) (fun b70 => ?_)
            · skip
              refine lv_aload_n hx hb dX6_visit_84 rfl (lv_at hl 1 rfl) ?_
              refine lv_iconst (v := 3) hx hb dX6_visit_85 (by decide) ?_
              refine cM S (rr_fails l dg cA ad (up r 0 0 0) 3 _) kX6_104 ⟨rfl, rfl, Nat.le_of_ble_eq_true rfl, Nat.le_of_ble_eq_true rfl⟩ hK hP hD hS hA 0 ml_0 (q := (RX6, TX6, 31)) rfl rfl (As := [.int 3]) rfl hl.1 (rest := []) rfl (Nat.le_of_ble_eq_true rfl) dX6_visit_86 ⟨Nat.le_of_ble_eq_true rfl, Nat.le_of_ble_eq_true rfl⟩ (st1 := [.int 0]) rfl (fun H locs hP hD hS => ?_)
              exact eMi S hr hlk hP hD hS dX6_visit_89 rfl up_twice_mw
            · skip
              exact absurd b70 ht
        · skip
          exact absurd b41 b5
      · skip
        refine lv_iload_n hx hb dX6_visit_22 rfl (lv_at hl 2 rfl) ?_
        refine lv_bipush (v := 114) hx hb dX6_visit_23 (by decide) ?_
        refine lv_icmp_eq (tgt := 34) hx hb dX6_visit_25 (by decide) (fun b25 => ?_) (fun b25 => ?_)
        · skip
          refine lv_iload_n hx hb dX6_visit_34 rfl (lv_at hl 3 rfl) ?_
          refine lv_iconst (v := 0) hx hb dX6_visit_35 (by decide) ?_
          refine lv_bipush (v := 9) hx hb dX6_visit_36 (by decide) ?_
          refine cRS S (rr_in1 l dg cA (mw cA ad (up r 0 0 0)) a 0 9 h1 h2) kX6_96 ⟨rfl, rfl, Nat.le_of_ble_eq_true rfl, Nat.le_of_ble_eq_true rfl⟩ hK hP (As := [.int a, .int 0, .int 9]) rfl hl.1 (rest := []) rfl (Nat.le_of_ble_eq_true rfl) dX6_visit_38 ⟨Nat.le_of_ble_eq_true rfl, Nat.le_of_ble_eq_true rfl⟩ (st1 := [.int 1]) rfl ?_
          refine lv_if_ne (tgt := 50) hx hb dX6_visit_41 (by decide) (fun b41 => ?_) (fun b41 => ?_)
          · skip
            refine lv_aload_n hx hb dX6_visit_50 rfl (lv_at hl 0 rfl) ?_
            refine gf S hK hP 0 ml_0 fX6_66 (v := .ref (ad 18)) mr_18 dX6_visit_51 ?_
            refine lv_iload_n hx hb dX6_visit_54 rfl (lv_at hl 1 rfl) ?_
            refine ild S hK hP 18 ml_18 (j := j) (by omega) (Nat.le_of_ble_eq_true rfl) dX6_visit_55 ?_
            refine lv_as (y := nI i) hr0 ?_
            refine lv_istore (lv' := [(4, .int (nI i)), (0, .ref (ad 0)), (1, .int (nI j)), (2, .int o), (3, .int a)]) hx hb dX6_visit_56 hl (by decide) rfl (fun ls hl => ?_)
            refine lv_iload hx hb dX6_visit_58 (lv_at hl 0 rfl) ?_
            refine lv_iconst (v := (-1)) hx hb dX6_visit_60 (by decide) ?_
            refine lv_icmp_eq (tgt := 84) hx hb dX6_visit_61 (by decide) (fun b61 => ?_) (fun b61 => ?_)
            · skip
              exact absurd b61 (nI_m1 (by omega))
            · skip
              refine lv_aload_n hx hb dX6_visit_64 rfl (lv_at hl 1 rfl) ?_
              refine gf S hK hP 0 ml_0 fX6_63 (v := .ref (ad 17)) mr_17 dX6_visit_65 ?_
              refine lv_iload_n hx hb dX6_visit_68 rfl (lv_at hl 2 rfl) ?_
              refine zld S hK hP 17 ml_17 (j := j) (by omega) (Nat.le_of_ble_eq_true rfl) dX6_visit_69 ?_
              refine lv_as (y := r 17 j) rfl ?_
              refine lv_if_ne (tgt := 84) hx hb dX6_visit_70 (by decide) (fun b70 => ?_) (fun b70 => ?_)
              · skip
                refine lv_aload_n hx hb dX6_visit_84 rfl (lv_at hl 1 rfl) ?_
                refine lv_iconst (v := 3) hx hb dX6_visit_85 (by decide) ?_
                refine cM S (rr_fails l dg cA ad (up r 0 0 0) 3 _) kX6_104 ⟨rfl, rfl, Nat.le_of_ble_eq_true rfl, Nat.le_of_ble_eq_true rfl⟩ hK hP hD hS hA 0 ml_0 (q := (RX6, TX6, 31)) rfl rfl (As := [.int 3]) rfl hl.1 (rest := []) rfl (Nat.le_of_ble_eq_true rfl) dX6_visit_86 ⟨Nat.le_of_ble_eq_true rfl, Nat.le_of_ble_eq_true rfl⟩ (st1 := [.int 0]) rfl (fun H locs hP hD hS => ?_)
                exact eMi S hr hlk hP hD hS dX6_visit_89 rfl up_twice_mw
              · skip
                exact absurd b70 ht
          · skip
            exact absurd b41 b5
        · skip
          refine lv_iload_n hx hb dX6_visit_28 rfl (lv_at hl 2 rfl) ?_
          refine lv_bipush (v := 101) hx hb dX6_visit_29 (by decide) ?_
          refine lv_icmp_ne (tgt := 44) hx hb dX6_visit_31 (by decide) (fun b31 => ?_) (fun b31 => ?_)
          · skip
            exact absurd hov (by simp [b13, b19, b25, b31])
          · skip
            refine lv_iload_n hx hb dX6_visit_34 rfl (lv_at hl 3 rfl) ?_
            refine lv_iconst (v := 0) hx hb dX6_visit_35 (by decide) ?_
            refine lv_bipush (v := 9) hx hb dX6_visit_36 (by decide) ?_
            refine cRS S (rr_in1 l dg cA (mw cA ad (up r 0 0 0)) a 0 9 h1 h2) kX6_96 ⟨rfl, rfl, Nat.le_of_ble_eq_true rfl, Nat.le_of_ble_eq_true rfl⟩ hK hP (As := [.int a, .int 0, .int 9]) rfl hl.1 (rest := []) rfl (Nat.le_of_ble_eq_true rfl) dX6_visit_38 ⟨Nat.le_of_ble_eq_true rfl, Nat.le_of_ble_eq_true rfl⟩ (st1 := [.int 1]) rfl ?_
            refine lv_if_ne (tgt := 50) hx hb dX6_visit_41 (by decide) (fun b41 => ?_) (fun b41 => ?_)
            · skip
              refine lv_aload_n hx hb dX6_visit_50 rfl (lv_at hl 0 rfl) ?_
              refine gf S hK hP 0 ml_0 fX6_66 (v := .ref (ad 18)) mr_18 dX6_visit_51 ?_
              refine lv_iload_n hx hb dX6_visit_54 rfl (lv_at hl 1 rfl) ?_
              refine ild S hK hP 18 ml_18 (j := j) (by omega) (Nat.le_of_ble_eq_true rfl) dX6_visit_55 ?_
              refine lv_as (y := nI i) hr0 ?_
              refine lv_istore (lv' := [(4, .int (nI i)), (0, .ref (ad 0)), (1, .int (nI j)), (2, .int o), (3, .int a)]) hx hb dX6_visit_56 hl (by decide) rfl (fun ls hl => ?_)
              refine lv_iload hx hb dX6_visit_58 (lv_at hl 0 rfl) ?_
              refine lv_iconst (v := (-1)) hx hb dX6_visit_60 (by decide) ?_
              refine lv_icmp_eq (tgt := 84) hx hb dX6_visit_61 (by decide) (fun b61 => ?_) (fun b61 => ?_)
              · skip
                exact absurd b61 (nI_m1 (by omega))
              · skip
                refine lv_aload_n hx hb dX6_visit_64 rfl (lv_at hl 1 rfl) ?_
                refine gf S hK hP 0 ml_0 fX6_63 (v := .ref (ad 17)) mr_17 dX6_visit_65 ?_
                refine lv_iload_n hx hb dX6_visit_68 rfl (lv_at hl 2 rfl) ?_
                refine zld S hK hP 17 ml_17 (j := j) (by omega) (Nat.le_of_ble_eq_true rfl) dX6_visit_69 ?_
                refine lv_as (y := r 17 j) rfl ?_
                refine lv_if_ne (tgt := 84) hx hb dX6_visit_70 (by decide) (fun b70 => ?_) (fun b70 => ?_)
                · skip
                  refine lv_aload_n hx hb dX6_visit_84 rfl (lv_at hl 1 rfl) ?_
                  refine lv_iconst (v := 3) hx hb dX6_visit_85 (by decide) ?_
                  refine cM S (rr_fails l dg cA ad (up r 0 0 0) 3 _) kX6_104 ⟨rfl, rfl, Nat.le_of_ble_eq_true rfl, Nat.le_of_ble_eq_true rfl⟩ hK hP hD hS hA 0 ml_0 (q := (RX6, TX6, 31)) rfl rfl (As := [.int 3]) rfl hl.1 (rest := []) rfl (Nat.le_of_ble_eq_true rfl) dX6_visit_86 ⟨Nat.le_of_ble_eq_true rfl, Nat.le_of_ble_eq_true rfl⟩ (st1 := [.int 0]) rfl (fun H locs hP hD hS => ?_)
                  exact eMi S hr hlk hP hD hS dX6_visit_89 rfl up_twice_mw
                · skip
                  exact absurd b70 ht
            · skip
              exact absurd b41 b5
  · skip
    exact False.elim (by revert b5; decide)

set_option maxHeartbeats 4000000 in
set_option maxRecDepth 100000 in
theorem rr_visit3c (l : Launch) (dg : va_G) (cA : Nat → ClassId) (ad : Nat → Nat) (r : St) (n : Nat) (hn : r 0 3 = nI n) (hn24 : n ≤ 24) (j : Nat) (hj : j < n) (o a : Int32) (hov : o = 97 ∨ o = 110 ∨ o = 114 ∨ o = 101) (h1 : ¬ a < 0) (h2 : ¬ 9 < a) (i : Nat) (hi4 : i < 4) (hr0 : r 18 j = nI i) (hf : r 25 i = 2) (sz : Nat) : MetM l dg cA yX6_visit cX6_visit 5 (some .int) ({ frames := 2, cells := 0, slots := 0, locals := 43 } : Room) 0 0 (mw cA ad r) sz [.ref (ad 0), .int (nI j), .int o, .int a] (mw cA ad (up r 0 0 3)) (some (.int 0)) := by
  refine ofM (by decide) (Nat.le_of_ble_eq_true rfl) (own := RX6) rfl (fun p e s0 m args below meth c ls A hAe S hr hlk hname hargs hK hP hD hS hA hsz hl => ?_)
  have hx := S.1
  have hb := S.2.1
  have hl : lv_has ls 5 [(0, .ref (ad 0)), (1, .int (nI j)), (2, .int o), (3, .int a)] := hl
  refine lv_aload_n hx hb dX6_visit_0 rfl (lv_at hl 0 rfl) ?_
  refine lv_iload_n hx hb dX6_visit_1 rfl (lv_at hl 1 rfl) ?_
  refine cM S (rr_isHouse1 l dg cA ad r n hn hn24 j hj _) kX6_133 ⟨rfl, rfl, Nat.le_of_ble_eq_true rfl, Nat.le_of_ble_eq_true rfl⟩ hK hP hD hS hA 0 ml_0 (q := (RX6, TX6, 31)) rfl rfl (As := [.int (nI j)]) rfl hl.1 (rest := []) rfl (Nat.le_of_ble_eq_true rfl) dX6_visit_2 ⟨Nat.le_of_ble_eq_true rfl, Nat.le_of_ble_eq_true rfl⟩ (st1 := [.int 1]) rfl (fun H locs hP hD hS => ?_)
  refine lv_if_ne (tgt := 10) hx hb dX6_visit_5 (by decide) (fun b5 => ?_) (fun b5 => ?_)
  · skip
    refine lv_iload_n hx hb dX6_visit_10 rfl (lv_at hl 2 rfl) ?_
    refine lv_bipush (v := 97) hx hb dX6_visit_11 (by decide) ?_
    refine lv_icmp_eq (tgt := 34) hx hb dX6_visit_13 (by decide) (fun b13 => ?_) (fun b13 => ?_)
    · skip
      refine lv_iload_n hx hb dX6_visit_34 rfl (lv_at hl 3 rfl) ?_
      refine lv_iconst (v := 0) hx hb dX6_visit_35 (by decide) ?_
      refine lv_bipush (v := 9) hx hb dX6_visit_36 (by decide) ?_
      refine cRS S (rr_in1 l dg cA (mw cA ad (up r 0 0 0)) a 0 9 h1 h2) kX6_96 ⟨rfl, rfl, Nat.le_of_ble_eq_true rfl, Nat.le_of_ble_eq_true rfl⟩ hK hP (As := [.int a, .int 0, .int 9]) rfl hl.1 (rest := []) rfl (Nat.le_of_ble_eq_true rfl) dX6_visit_38 ⟨Nat.le_of_ble_eq_true rfl, Nat.le_of_ble_eq_true rfl⟩ (st1 := [.int 1]) rfl ?_
      refine lv_if_ne (tgt := 50) hx hb dX6_visit_41 (by decide) (fun b41 => ?_) (fun b41 => ?_)
      · skip
        refine lv_aload_n hx hb dX6_visit_50 rfl (lv_at hl 0 rfl) ?_
        refine gf S hK hP 0 ml_0 fX6_66 (v := .ref (ad 18)) mr_18 dX6_visit_51 ?_
        refine lv_iload_n hx hb dX6_visit_54 rfl (lv_at hl 1 rfl) ?_
        refine ild S hK hP 18 ml_18 (j := j) (by omega) (Nat.le_of_ble_eq_true rfl) dX6_visit_55 ?_
        refine lv_as (y := nI i) hr0 ?_
        refine lv_istore (lv' := [(4, .int (nI i)), (0, .ref (ad 0)), (1, .int (nI j)), (2, .int o), (3, .int a)]) hx hb dX6_visit_56 hl (by decide) rfl (fun ls hl => ?_)
        refine lv_iload hx hb dX6_visit_58 (lv_at hl 0 rfl) ?_
        refine lv_iconst (v := (-1)) hx hb dX6_visit_60 (by decide) ?_
        refine lv_icmp_eq (tgt := 84) hx hb dX6_visit_61 (by decide) (fun b61 => ?_) (fun b61 => ?_)
        · skip
          exact absurd b61 (nI_m1 (by omega))
        · skip
          refine lv_aload_n hx hb dX6_visit_64 rfl (lv_at hl 1 rfl) ?_
          refine gf S hK hP 0 ml_0 fX6_63 (v := .ref (ad 17)) mr_17 dX6_visit_65 ?_
          refine lv_iload_n hx hb dX6_visit_68 rfl (lv_at hl 2 rfl) ?_
          refine zld S hK hP 17 ml_17 (j := j) (by omega) (Nat.le_of_ble_eq_true rfl) dX6_visit_69 ?_
          refine lv_as (y := r 17 j) rfl ?_
          refine lv_if_ne (tgt := 84) hx hb dX6_visit_70 (by decide) (fun b70 => ?_) (fun b70 => ?_)
          · skip
            refine lv_aload_n hx hb dX6_visit_84 rfl (lv_at hl 1 rfl) ?_
            refine lv_iconst (v := 3) hx hb dX6_visit_85 (by decide) ?_
            refine cM S (rr_fails l dg cA ad (up r 0 0 0) 3 _) kX6_104 ⟨rfl, rfl, Nat.le_of_ble_eq_true rfl, Nat.le_of_ble_eq_true rfl⟩ hK hP hD hS hA 0 ml_0 (q := (RX6, TX6, 31)) rfl rfl (As := [.int 3]) rfl hl.1 (rest := []) rfl (Nat.le_of_ble_eq_true rfl) dX6_visit_86 ⟨Nat.le_of_ble_eq_true rfl, Nat.le_of_ble_eq_true rfl⟩ (st1 := [.int 0]) rfl (fun H locs hP hD hS => ?_)
            exact eMi S hr hlk hP hD hS dX6_visit_89 rfl up_twice_mw
          · skip
            refine lv_aload_n hx hb dX6_visit_73 rfl (lv_at hl 1 rfl) ?_
            refine gf S hK hP 0 ml_0 fX6_87 (v := .ref (ad 25)) mr_25 dX6_visit_74 ?_
            refine lv_iload hx hb dX6_visit_77 (lv_at hl 0 rfl) ?_
            refine ild S hK hP 25 ml_25 (j := i) (by omega) (Nat.le_of_ble_eq_true rfl) dX6_visit_79 ?_
            refine lv_as (y := 2) hf ?_
            refine lv_iconst (v := 2) hx hb dX6_visit_80 (by decide) ?_
            refine lv_icmp_ne (tgt := 90) hx hb dX6_visit_81 (by decide) (fun b81 => ?_) (fun b81 => ?_)
            · skip
              exact False.elim (by revert b81; decide)
            · skip
              refine lv_aload_n hx hb dX6_visit_84 rfl (lv_at hl 1 rfl) ?_
              refine lv_iconst (v := 3) hx hb dX6_visit_85 (by decide) ?_
              refine cM S (rr_fails l dg cA ad (up r 0 0 0) 3 _) kX6_104 ⟨rfl, rfl, Nat.le_of_ble_eq_true rfl, Nat.le_of_ble_eq_true rfl⟩ hK hP hD hS hA 0 ml_0 (q := (RX6, TX6, 31)) rfl rfl (As := [.int 3]) rfl hl.1 (rest := []) rfl (Nat.le_of_ble_eq_true rfl) dX6_visit_86 ⟨Nat.le_of_ble_eq_true rfl, Nat.le_of_ble_eq_true rfl⟩ (st1 := [.int 0]) rfl (fun H locs hP hD hS => ?_)
              exact eMi S hr hlk hP hD hS dX6_visit_89 rfl up_twice_mw
      · skip
        exact absurd b41 b5
    · skip
      refine lv_iload_n hx hb dX6_visit_16 rfl (lv_at hl 2 rfl) ?_
      refine lv_bipush (v := 110) hx hb dX6_visit_17 (by decide) ?_
      refine lv_icmp_eq (tgt := 34) hx hb dX6_visit_19 (by decide) (fun b19 => ?_) (fun b19 => ?_)
      · skip
        refine lv_iload_n hx hb dX6_visit_34 rfl (lv_at hl 3 rfl) ?_
        refine lv_iconst (v := 0) hx hb dX6_visit_35 (by decide) ?_
        refine lv_bipush (v := 9) hx hb dX6_visit_36 (by decide) ?_
        refine cRS S (rr_in1 l dg cA (mw cA ad (up r 0 0 0)) a 0 9 h1 h2) kX6_96 ⟨rfl, rfl, Nat.le_of_ble_eq_true rfl, Nat.le_of_ble_eq_true rfl⟩ hK hP (As := [.int a, .int 0, .int 9]) rfl hl.1 (rest := []) rfl (Nat.le_of_ble_eq_true rfl) dX6_visit_38 ⟨Nat.le_of_ble_eq_true rfl, Nat.le_of_ble_eq_true rfl⟩ (st1 := [.int 1]) rfl ?_
        refine lv_if_ne (tgt := 50) hx hb dX6_visit_41 (by decide) (fun b41 => ?_) (fun b41 => ?_)
        · skip
          refine lv_aload_n hx hb dX6_visit_50 rfl (lv_at hl 0 rfl) ?_
          refine gf S hK hP 0 ml_0 fX6_66 (v := .ref (ad 18)) mr_18 dX6_visit_51 ?_
          refine lv_iload_n hx hb dX6_visit_54 rfl (lv_at hl 1 rfl) ?_
          refine ild S hK hP 18 ml_18 (j := j) (by omega) (Nat.le_of_ble_eq_true rfl) dX6_visit_55 ?_
          refine lv_as (y := nI i) hr0 ?_
          refine lv_istore (lv' := [(4, .int (nI i)), (0, .ref (ad 0)), (1, .int (nI j)), (2, .int o), (3, .int a)]) hx hb dX6_visit_56 hl (by decide) rfl (fun ls hl => ?_)
          refine lv_iload hx hb dX6_visit_58 (lv_at hl 0 rfl) ?_
          refine lv_iconst (v := (-1)) hx hb dX6_visit_60 (by decide) ?_
          refine lv_icmp_eq (tgt := 84) hx hb dX6_visit_61 (by decide) (fun b61 => ?_) (fun b61 => ?_)
          · skip
            exact absurd b61 (nI_m1 (by omega))
          · skip
            refine lv_aload_n hx hb dX6_visit_64 rfl (lv_at hl 1 rfl) ?_
            refine gf S hK hP 0 ml_0 fX6_63 (v := .ref (ad 17)) mr_17 dX6_visit_65 ?_
            refine lv_iload_n hx hb dX6_visit_68 rfl (lv_at hl 2 rfl) ?_
            refine zld S hK hP 17 ml_17 (j := j) (by omega) (Nat.le_of_ble_eq_true rfl) dX6_visit_69 ?_
            refine lv_as (y := r 17 j) rfl ?_
            refine lv_if_ne (tgt := 84) hx hb dX6_visit_70 (by decide) (fun b70 => ?_) (fun b70 => ?_)
            · skip
              refine lv_aload_n hx hb dX6_visit_84 rfl (lv_at hl 1 rfl) ?_
              refine lv_iconst (v := 3) hx hb dX6_visit_85 (by decide) ?_
              refine cM S (rr_fails l dg cA ad (up r 0 0 0) 3 _) kX6_104 ⟨rfl, rfl, Nat.le_of_ble_eq_true rfl, Nat.le_of_ble_eq_true rfl⟩ hK hP hD hS hA 0 ml_0 (q := (RX6, TX6, 31)) rfl rfl (As := [.int 3]) rfl hl.1 (rest := []) rfl (Nat.le_of_ble_eq_true rfl) dX6_visit_86 ⟨Nat.le_of_ble_eq_true rfl, Nat.le_of_ble_eq_true rfl⟩ (st1 := [.int 0]) rfl (fun H locs hP hD hS => ?_)
              exact eMi S hr hlk hP hD hS dX6_visit_89 rfl up_twice_mw
            · skip
              refine lv_aload_n hx hb dX6_visit_73 rfl (lv_at hl 1 rfl) ?_
              refine gf S hK hP 0 ml_0 fX6_87 (v := .ref (ad 25)) mr_25 dX6_visit_74 ?_
              refine lv_iload hx hb dX6_visit_77 (lv_at hl 0 rfl) ?_
              refine ild S hK hP 25 ml_25 (j := i) (by omega) (Nat.le_of_ble_eq_true rfl) dX6_visit_79 ?_
              refine lv_as (y := 2) hf ?_
              refine lv_iconst (v := 2) hx hb dX6_visit_80 (by decide) ?_
              refine lv_icmp_ne (tgt := 90) hx hb dX6_visit_81 (by decide) (fun b81 => ?_) (fun b81 => ?_)
              · skip
                exact False.elim (by revert b81; decide)
              · skip
                refine lv_aload_n hx hb dX6_visit_84 rfl (lv_at hl 1 rfl) ?_
                refine lv_iconst (v := 3) hx hb dX6_visit_85 (by decide) ?_
                refine cM S (rr_fails l dg cA ad (up r 0 0 0) 3 _) kX6_104 ⟨rfl, rfl, Nat.le_of_ble_eq_true rfl, Nat.le_of_ble_eq_true rfl⟩ hK hP hD hS hA 0 ml_0 (q := (RX6, TX6, 31)) rfl rfl (As := [.int 3]) rfl hl.1 (rest := []) rfl (Nat.le_of_ble_eq_true rfl) dX6_visit_86 ⟨Nat.le_of_ble_eq_true rfl, Nat.le_of_ble_eq_true rfl⟩ (st1 := [.int 0]) rfl (fun H locs hP hD hS => ?_)
                exact eMi S hr hlk hP hD hS dX6_visit_89 rfl up_twice_mw
        · skip
          exact absurd b41 b5
      · skip
        refine lv_iload_n hx hb dX6_visit_22 rfl (lv_at hl 2 rfl) ?_
        refine lv_bipush (v := 114) hx hb dX6_visit_23 (by decide) ?_
        refine lv_icmp_eq (tgt := 34) hx hb dX6_visit_25 (by decide) (fun b25 => ?_) (fun b25 => ?_)
        · skip
          refine lv_iload_n hx hb dX6_visit_34 rfl (lv_at hl 3 rfl) ?_
          refine lv_iconst (v := 0) hx hb dX6_visit_35 (by decide) ?_
          refine lv_bipush (v := 9) hx hb dX6_visit_36 (by decide) ?_
          refine cRS S (rr_in1 l dg cA (mw cA ad (up r 0 0 0)) a 0 9 h1 h2) kX6_96 ⟨rfl, rfl, Nat.le_of_ble_eq_true rfl, Nat.le_of_ble_eq_true rfl⟩ hK hP (As := [.int a, .int 0, .int 9]) rfl hl.1 (rest := []) rfl (Nat.le_of_ble_eq_true rfl) dX6_visit_38 ⟨Nat.le_of_ble_eq_true rfl, Nat.le_of_ble_eq_true rfl⟩ (st1 := [.int 1]) rfl ?_
          refine lv_if_ne (tgt := 50) hx hb dX6_visit_41 (by decide) (fun b41 => ?_) (fun b41 => ?_)
          · skip
            refine lv_aload_n hx hb dX6_visit_50 rfl (lv_at hl 0 rfl) ?_
            refine gf S hK hP 0 ml_0 fX6_66 (v := .ref (ad 18)) mr_18 dX6_visit_51 ?_
            refine lv_iload_n hx hb dX6_visit_54 rfl (lv_at hl 1 rfl) ?_
            refine ild S hK hP 18 ml_18 (j := j) (by omega) (Nat.le_of_ble_eq_true rfl) dX6_visit_55 ?_
            refine lv_as (y := nI i) hr0 ?_
            refine lv_istore (lv' := [(4, .int (nI i)), (0, .ref (ad 0)), (1, .int (nI j)), (2, .int o), (3, .int a)]) hx hb dX6_visit_56 hl (by decide) rfl (fun ls hl => ?_)
            refine lv_iload hx hb dX6_visit_58 (lv_at hl 0 rfl) ?_
            refine lv_iconst (v := (-1)) hx hb dX6_visit_60 (by decide) ?_
            refine lv_icmp_eq (tgt := 84) hx hb dX6_visit_61 (by decide) (fun b61 => ?_) (fun b61 => ?_)
            · skip
              exact absurd b61 (nI_m1 (by omega))
            · skip
              refine lv_aload_n hx hb dX6_visit_64 rfl (lv_at hl 1 rfl) ?_
              refine gf S hK hP 0 ml_0 fX6_63 (v := .ref (ad 17)) mr_17 dX6_visit_65 ?_
              refine lv_iload_n hx hb dX6_visit_68 rfl (lv_at hl 2 rfl) ?_
              refine zld S hK hP 17 ml_17 (j := j) (by omega) (Nat.le_of_ble_eq_true rfl) dX6_visit_69 ?_
              refine lv_as (y := r 17 j) rfl ?_
              refine lv_if_ne (tgt := 84) hx hb dX6_visit_70 (by decide) (fun b70 => ?_) (fun b70 => ?_)
              · skip
                refine lv_aload_n hx hb dX6_visit_84 rfl (lv_at hl 1 rfl) ?_
                refine lv_iconst (v := 3) hx hb dX6_visit_85 (by decide) ?_
                refine cM S (rr_fails l dg cA ad (up r 0 0 0) 3 _) kX6_104 ⟨rfl, rfl, Nat.le_of_ble_eq_true rfl, Nat.le_of_ble_eq_true rfl⟩ hK hP hD hS hA 0 ml_0 (q := (RX6, TX6, 31)) rfl rfl (As := [.int 3]) rfl hl.1 (rest := []) rfl (Nat.le_of_ble_eq_true rfl) dX6_visit_86 ⟨Nat.le_of_ble_eq_true rfl, Nat.le_of_ble_eq_true rfl⟩ (st1 := [.int 0]) rfl (fun H locs hP hD hS => ?_)
                exact eMi S hr hlk hP hD hS dX6_visit_89 rfl up_twice_mw
              · skip
                refine lv_aload_n hx hb dX6_visit_73 rfl (lv_at hl 1 rfl) ?_
                refine gf S hK hP 0 ml_0 fX6_87 (v := .ref (ad 25)) mr_25 dX6_visit_74 ?_
                refine lv_iload hx hb dX6_visit_77 (lv_at hl 0 rfl) ?_
                refine ild S hK hP 25 ml_25 (j := i) (by omega) (Nat.le_of_ble_eq_true rfl) dX6_visit_79 ?_
                refine lv_as (y := 2) hf ?_
                refine lv_iconst (v := 2) hx hb dX6_visit_80 (by decide) ?_
                refine lv_icmp_ne (tgt := 90) hx hb dX6_visit_81 (by decide) (fun b81 => ?_) (fun b81 => ?_)
                · skip
                  exact False.elim (by revert b81; decide)
                · skip
                  refine lv_aload_n hx hb dX6_visit_84 rfl (lv_at hl 1 rfl) ?_
                  refine lv_iconst (v := 3) hx hb dX6_visit_85 (by decide) ?_
                  refine cM S (rr_fails l dg cA ad (up r 0 0 0) 3 _) kX6_104 ⟨rfl, rfl, Nat.le_of_ble_eq_true rfl, Nat.le_of_ble_eq_true rfl⟩ hK hP hD hS hA 0 ml_0 (q := (RX6, TX6, 31)) rfl rfl (As := [.int 3]) rfl hl.1 (rest := []) rfl (Nat.le_of_ble_eq_true rfl) dX6_visit_86 ⟨Nat.le_of_ble_eq_true rfl, Nat.le_of_ble_eq_true rfl⟩ (st1 := [.int 0]) rfl (fun H locs hP hD hS => ?_)
                  exact eMi S hr hlk hP hD hS dX6_visit_89 rfl up_twice_mw
          · skip
            exact absurd b41 b5
        · skip
          refine lv_iload_n hx hb dX6_visit_28 rfl (lv_at hl 2 rfl) ?_
          refine lv_bipush (v := 101) hx hb dX6_visit_29 (by decide) ?_
          refine lv_icmp_ne (tgt := 44) hx hb dX6_visit_31 (by decide) (fun b31 => ?_) (fun b31 => ?_)
          · skip
            exact absurd hov (by simp [b13, b19, b25, b31])
          · skip
            refine lv_iload_n hx hb dX6_visit_34 rfl (lv_at hl 3 rfl) ?_
            refine lv_iconst (v := 0) hx hb dX6_visit_35 (by decide) ?_
            refine lv_bipush (v := 9) hx hb dX6_visit_36 (by decide) ?_
            refine cRS S (rr_in1 l dg cA (mw cA ad (up r 0 0 0)) a 0 9 h1 h2) kX6_96 ⟨rfl, rfl, Nat.le_of_ble_eq_true rfl, Nat.le_of_ble_eq_true rfl⟩ hK hP (As := [.int a, .int 0, .int 9]) rfl hl.1 (rest := []) rfl (Nat.le_of_ble_eq_true rfl) dX6_visit_38 ⟨Nat.le_of_ble_eq_true rfl, Nat.le_of_ble_eq_true rfl⟩ (st1 := [.int 1]) rfl ?_
            refine lv_if_ne (tgt := 50) hx hb dX6_visit_41 (by decide) (fun b41 => ?_) (fun b41 => ?_)
            · skip
              refine lv_aload_n hx hb dX6_visit_50 rfl (lv_at hl 0 rfl) ?_
              refine gf S hK hP 0 ml_0 fX6_66 (v := .ref (ad 18)) mr_18 dX6_visit_51 ?_
              refine lv_iload_n hx hb dX6_visit_54 rfl (lv_at hl 1 rfl) ?_
              refine ild S hK hP 18 ml_18 (j := j) (by omega) (Nat.le_of_ble_eq_true rfl) dX6_visit_55 ?_
              refine lv_as (y := nI i) hr0 ?_
              refine lv_istore (lv' := [(4, .int (nI i)), (0, .ref (ad 0)), (1, .int (nI j)), (2, .int o), (3, .int a)]) hx hb dX6_visit_56 hl (by decide) rfl (fun ls hl => ?_)
              refine lv_iload hx hb dX6_visit_58 (lv_at hl 0 rfl) ?_
              refine lv_iconst (v := (-1)) hx hb dX6_visit_60 (by decide) ?_
              refine lv_icmp_eq (tgt := 84) hx hb dX6_visit_61 (by decide) (fun b61 => ?_) (fun b61 => ?_)
              · skip
                exact absurd b61 (nI_m1 (by omega))
              · skip
                refine lv_aload_n hx hb dX6_visit_64 rfl (lv_at hl 1 rfl) ?_
                refine gf S hK hP 0 ml_0 fX6_63 (v := .ref (ad 17)) mr_17 dX6_visit_65 ?_
                refine lv_iload_n hx hb dX6_visit_68 rfl (lv_at hl 2 rfl) ?_
                refine zld S hK hP 17 ml_17 (j := j) (by omega) (Nat.le_of_ble_eq_true rfl) dX6_visit_69 ?_
                refine lv_as (y := r 17 j) rfl ?_
                refine lv_if_ne (tgt := 84) hx hb dX6_visit_70 (by decide) (fun b70 => ?_) (fun b70 => ?_)
                · skip
                  refine lv_aload_n hx hb dX6_visit_84 rfl (lv_at hl 1 rfl) ?_
                  refine lv_iconst (v := 3) hx hb dX6_visit_85 (by decide) ?_
                  refine cM S (rr_fails l dg cA ad (up r 0 0 0) 3 _) kX6_104 ⟨rfl, rfl, Nat.le_of_ble_eq_true rfl, Nat.le_of_ble_eq_true rfl⟩ hK hP hD hS hA 0 ml_0 (q := (RX6, TX6, 31)) rfl rfl (As := [.int 3]) rfl hl.1 (rest := []) rfl (Nat.le_of_ble_eq_true rfl) dX6_visit_86 ⟨Nat.le_of_ble_eq_true rfl, Nat.le_of_ble_eq_true rfl⟩ (st1 := [.int 0]) rfl (fun H locs hP hD hS => ?_)
                  exact eMi S hr hlk hP hD hS dX6_visit_89 rfl up_twice_mw
                · skip
                  refine lv_aload_n hx hb dX6_visit_73 rfl (lv_at hl 1 rfl) ?_
                  refine gf S hK hP 0 ml_0 fX6_87 (v := .ref (ad 25)) mr_25 dX6_visit_74 ?_
                  refine lv_iload hx hb dX6_visit_77 (lv_at hl 0 rfl) ?_
                  refine ild S hK hP 25 ml_25 (j := i) (by omega) (Nat.le_of_ble_eq_true rfl) dX6_visit_79 ?_
                  refine lv_as (y := 2) hf ?_
                  refine lv_iconst (v := 2) hx hb dX6_visit_80 (by decide) ?_
                  refine lv_icmp_ne (tgt := 90) hx hb dX6_visit_81 (by decide) (fun b81 => ?_) (fun b81 => ?_)
                  · skip
                    exact False.elim (by revert b81; decide)
                  · skip
                    refine lv_aload_n hx hb dX6_visit_84 rfl (lv_at hl 1 rfl) ?_
                    refine lv_iconst (v := 3) hx hb dX6_visit_85 (by decide) ?_
                    refine cM S (rr_fails l dg cA ad (up r 0 0 0) 3 _) kX6_104 ⟨rfl, rfl, Nat.le_of_ble_eq_true rfl, Nat.le_of_ble_eq_true rfl⟩ hK hP hD hS hA 0 ml_0 (q := (RX6, TX6, 31)) rfl rfl (As := [.int 3]) rfl hl.1 (rest := []) rfl (Nat.le_of_ble_eq_true rfl) dX6_visit_86 ⟨Nat.le_of_ble_eq_true rfl, Nat.le_of_ble_eq_true rfl⟩ (st1 := [.int 0]) rfl (fun H locs hP hD hS => ?_)
                    exact eMi S hr hlk hP hD hS dX6_visit_89 rfl up_twice_mw
            · skip
              exact absurd b41 b5
  · skip
    exact False.elim (by revert b5; decide)

set_option maxHeartbeats 4000000 in
set_option maxRecDepth 100000 in
theorem rr_visit_a (l : Launch) (dg : va_G) (cA : Nat → ClassId) (ad : Nat → Nat) (r : St) (n : Nat) (hn : r 0 3 = nI n) (hn24 : n ≤ 24) (j : Nat) (hj : j < n) (a : Int32) (h1 : ¬ a < 0) (h2 : ¬ 9 < a) (i : Nat) (hi4 : i < 4) (hr0 : r 18 j = nI i) (ht : r 17 j = 0) (hf : ¬ r 25 i = 2) (sz : Nat) : MetM l dg cA yX6_visit cX6_visit 5 (some .int) ({ frames := 2, cells := 0, slots := 0, locals := 43 } : Room) 0 0 (mw cA ad r) sz [.ref (ad 0), .int (nI j), .int 97, .int a] (mw cA ad (up (up (up (up (up (up (up (up (up r 0 0 0) 17 j 1) 6 j (r 6 j + 1)) 4 j 97) 10 j a) 11 j (nI i)) 12 j (r 6 j + 1)) 15 j 0) 16 j 0)) (some (.int (nI i))) := by
  refine ofM (by decide) (Nat.le_of_ble_eq_true rfl) (own := RX6) rfl (fun p e s0 m args below meth c ls A hAe S hr hlk hname hargs hK hP hD hS hA hsz hl => ?_)
  have hx := S.1
  have hb := S.2.1
  have hl : lv_has ls 5 [(0, .ref (ad 0)), (1, .int (nI j)), (2, .int 97), (3, .int a)] := hl
  refine lv_aload_n hx hb dX6_visit_0 rfl (lv_at hl 0 rfl) ?_
  refine lv_iload_n hx hb dX6_visit_1 rfl (lv_at hl 1 rfl) ?_
  refine cM S (rr_isHouse1 l dg cA ad r n hn hn24 j hj _) kX6_133 ⟨rfl, rfl, Nat.le_of_ble_eq_true rfl, Nat.le_of_ble_eq_true rfl⟩ hK hP hD hS hA 0 ml_0 (q := (RX6, TX6, 31)) rfl rfl (As := [.int (nI j)]) rfl hl.1 (rest := []) rfl (Nat.le_of_ble_eq_true rfl) dX6_visit_2 ⟨Nat.le_of_ble_eq_true rfl, Nat.le_of_ble_eq_true rfl⟩ (st1 := [.int 1]) rfl (fun H locs hP hD hS => ?_)
  refine lv_if_ne (tgt := 10) hx hb dX6_visit_5 (by decide) (fun b5 => ?_) (fun b5 => ?_)
  · skip
    refine lv_iload_n hx hb dX6_visit_10 rfl (lv_at hl 2 rfl) ?_
    refine lv_bipush (v := 97) hx hb dX6_visit_11 (by decide) ?_
    refine lv_icmp_eq (tgt := 34) hx hb dX6_visit_13 (by decide) (fun b13 => ?_) (fun b13 => ?_)
    · skip
      refine lv_iload_n hx hb dX6_visit_34 rfl (lv_at hl 3 rfl) ?_
      refine lv_iconst (v := 0) hx hb dX6_visit_35 (by decide) ?_
      refine lv_bipush (v := 9) hx hb dX6_visit_36 (by decide) ?_
      refine cRS S (rr_in1 l dg cA (mw cA ad (up r 0 0 0)) a 0 9 h1 h2) kX6_96 ⟨rfl, rfl, Nat.le_of_ble_eq_true rfl, Nat.le_of_ble_eq_true rfl⟩ hK hP (As := [.int a, .int 0, .int 9]) rfl hl.1 (rest := []) rfl (Nat.le_of_ble_eq_true rfl) dX6_visit_38 ⟨Nat.le_of_ble_eq_true rfl, Nat.le_of_ble_eq_true rfl⟩ (st1 := [.int 1]) rfl ?_
      refine lv_if_ne (tgt := 50) hx hb dX6_visit_41 (by decide) (fun b41 => ?_) (fun b41 => ?_)
      · skip
        refine lv_aload_n hx hb dX6_visit_50 rfl (lv_at hl 0 rfl) ?_
        refine gf S hK hP 0 ml_0 fX6_66 (v := .ref (ad 18)) mr_18 dX6_visit_51 ?_
        refine lv_iload_n hx hb dX6_visit_54 rfl (lv_at hl 1 rfl) ?_
        refine ild S hK hP 18 ml_18 (j := j) (by omega) (Nat.le_of_ble_eq_true rfl) dX6_visit_55 ?_
        refine lv_as (y := nI i) hr0 ?_
        refine lv_istore (lv' := [(4, .int (nI i)), (0, .ref (ad 0)), (1, .int (nI j)), (2, .int 97), (3, .int a)]) hx hb dX6_visit_56 hl (by decide) rfl (fun ls hl => ?_)
        refine lv_iload hx hb dX6_visit_58 (lv_at hl 0 rfl) ?_
        refine lv_iconst (v := (-1)) hx hb dX6_visit_60 (by decide) ?_
        refine lv_icmp_eq (tgt := 84) hx hb dX6_visit_61 (by decide) (fun b61 => ?_) (fun b61 => ?_)
        · skip
          exact absurd b61 (nI_m1 (by omega))
        · skip
          refine lv_aload_n hx hb dX6_visit_64 rfl (lv_at hl 1 rfl) ?_
          refine gf S hK hP 0 ml_0 fX6_63 (v := .ref (ad 17)) mr_17 dX6_visit_65 ?_
          refine lv_iload_n hx hb dX6_visit_68 rfl (lv_at hl 2 rfl) ?_
          refine zld S hK hP 17 ml_17 (j := j) (by omega) (Nat.le_of_ble_eq_true rfl) dX6_visit_69 ?_
          refine lv_as (y := 0) ht ?_
          refine lv_if_ne (tgt := 84) hx hb dX6_visit_70 (by decide) (fun b70 => ?_) (fun b70 => ?_)
          · skip
            exact False.elim (by revert b70; decide)
          · skip
            refine lv_aload_n hx hb dX6_visit_73 rfl (lv_at hl 1 rfl) ?_
            refine gf S hK hP 0 ml_0 fX6_87 (v := .ref (ad 25)) mr_25 dX6_visit_74 ?_
            refine lv_iload hx hb dX6_visit_77 (lv_at hl 0 rfl) ?_
            refine ild S hK hP 25 ml_25 (j := i) (by omega) (Nat.le_of_ble_eq_true rfl) dX6_visit_79 ?_
            refine lv_as (y := r 25 i) rfl ?_
            refine lv_iconst (v := 2) hx hb dX6_visit_80 (by decide) ?_
            refine lv_icmp_ne (tgt := 90) hx hb dX6_visit_81 (by decide) (fun b81 => ?_) (fun b81 => ?_)
            · skip
              refine lv_aload_n hx hb dX6_visit_90 rfl (lv_at hl 1 rfl) ?_
              refine gf S hK hP 0 ml_0 fX6_63 (v := .ref (ad 17)) mr_17 dX6_visit_91 ?_
              refine lv_iload_n hx hb dX6_visit_94 rfl (lv_at hl 2 rfl) ?_
              refine lv_iconst (v := 1) hx hb dX6_visit_95 (by decide) ?_
              refine zst S hK hP hD hS 17 ml_17 (j := j) (x := 1) (by omega) (Nat.le_of_ble_eq_true rfl) rfl ms_17 dX6_visit_96 (fun H locs hP hD hS => ?_)
              refine lv_aload_n hx hb dX6_visit_97 rfl (lv_at hl 1 rfl) ?_
              refine gf S hK hP 0 ml_0 fX6_29 (v := .ref (ad 6)) mr_6 dX6_visit_98 ?_
              refine lv_iload_n hx hb dX6_visit_101 rfl (lv_at hl 2 rfl) ?_
              refine lv_dup2_11 hx hb dX6_visit_102 rfl rfl ?_
              refine ild S hK hP 6 ml_6 (j := j) (by omega) (Nat.le_of_ble_eq_true rfl) dX6_visit_103 ?_
              refine lv_as (y := r 6 j) rfl ?_
              refine lv_iconst (v := 1) hx hb dX6_visit_104 (by decide) ?_
              refine lv_iadd hx hb dX6_visit_105 ?_
              refine ist S hK hP hD hS 6 ml_6 (j := j) (x := (r 6 j) + 1) (by omega) (Nat.le_of_ble_eq_true rfl) ms_6 dX6_visit_106 (fun H locs hP hD hS => ?_)
              refine lv_iload_n hx hb dX6_visit_107 rfl (lv_at hl 3 rfl) ?_
              refine lv_bipush (v := 97) hx hb dX6_visit_108 (by decide) ?_
              refine lv_icmp_ne (tgt := 158) hx hb dX6_visit_110 (by decide) (fun b110 => ?_) (fun b110 => ?_)
              · skip
                exact absurd b13 b110
              · skip
                refine lv_aload_n hx hb dX6_visit_113 rfl (lv_at hl 1 rfl) ?_
                refine gf S hK hP 0 ml_0 fX6_23 (v := .ref (ad 4)) mr_4 dX6_visit_114 ?_
                refine lv_iload_n hx hb dX6_visit_117 rfl (lv_at hl 2 rfl) ?_
                refine lv_bipush (v := 97) hx hb dX6_visit_118 (by decide) ?_
                refine ist S hK hP hD hS 4 ml_4 (j := j) (x := 97) (by omega) (Nat.le_of_ble_eq_true rfl) ms_4 dX6_visit_120 (fun H locs hP hD hS => ?_)
                refine lv_aload_n hx hb dX6_visit_121 rfl (lv_at hl 1 rfl) ?_
                refine gf S hK hP 0 ml_0 fX6_41 (v := .ref (ad 10)) mr_10 dX6_visit_122 ?_
                refine lv_iload_n hx hb dX6_visit_125 rfl (lv_at hl 2 rfl) ?_
                refine lv_iload_n hx hb dX6_visit_126 rfl (lv_at hl 4 rfl) ?_
                refine ist S hK hP hD hS 10 ml_10 (j := j) (x := a) (by omega) (Nat.le_of_ble_eq_true rfl) ms_10 dX6_visit_127 (fun H locs hP hD hS => ?_)
                refine lv_aload_n hx hb dX6_visit_128 rfl (lv_at hl 1 rfl) ?_
                refine gf S hK hP 0 ml_0 fX6_44 (v := .ref (ad 11)) mr_11 dX6_visit_129 ?_
                refine lv_iload_n hx hb dX6_visit_132 rfl (lv_at hl 2 rfl) ?_
                refine lv_iload hx hb dX6_visit_133 (lv_at hl 0 rfl) ?_
                refine ist S hK hP hD hS 11 ml_11 (j := j) (x := nI i) (by omega) (Nat.le_of_ble_eq_true rfl) ms_11 dX6_visit_135 (fun H locs hP hD hS => ?_)
                refine lv_aload_n hx hb dX6_visit_136 rfl (lv_at hl 1 rfl) ?_
                refine gf S hK hP 0 ml_0 fX6_47 (v := .ref (ad 12)) mr_12 dX6_visit_137 ?_
                refine lv_iload_n hx hb dX6_visit_140 rfl (lv_at hl 2 rfl) ?_
                refine lv_aload_n hx hb dX6_visit_141 rfl (lv_at hl 1 rfl) ?_
                refine gf S hK hP 0 ml_0 fX6_29 (v := .ref (ad 6)) mr_6 dX6_visit_142 ?_
                refine lv_iload_n hx hb dX6_visit_145 rfl (lv_at hl 2 rfl) ?_
                refine ild S hK hP 6 ml_6 (j := j) (by omega) (Nat.le_of_ble_eq_true rfl) dX6_visit_146 ?_
                refine lv_as (y := (r 6 j) + 1) (up_at : up (up (up r 0 0 0) 17 j 1) 6 j ((r 6 j) + 1) 6 j = (r 6 j) + 1) ?_
                refine ist S hK hP hD hS 12 ml_12 (j := j) (x := (r 6 j) + 1) (by omega) (Nat.le_of_ble_eq_true rfl) ms_12 dX6_visit_147 (fun H locs hP hD hS => ?_)
                refine lv_aload_n hx hb dX6_visit_148 rfl (lv_at hl 1 rfl) ?_
                refine gf S hK hP 0 ml_0 fX6_57 (v := .ref (ad 15)) mr_15 dX6_visit_149 ?_
                refine lv_iload_n hx hb dX6_visit_152 rfl (lv_at hl 2 rfl) ?_
                refine lv_iconst (v := 0) hx hb dX6_visit_153 (by decide) ?_
                refine zst S hK hP hD hS 15 ml_15 (j := j) (x := 0) (by omega) (Nat.le_of_ble_eq_true rfl) rfl ms_15 dX6_visit_154 (fun H locs hP hD hS => ?_)
                refine lv_goto (tgt := 292) hx hb dX6_visit_155 (by decide) ?_
                refine lv_aload_n hx hb dX6_visit_292 rfl (lv_at hl 1 rfl) ?_
                refine gf S hK hP 0 ml_0 fX6_60 (v := .ref (ad 16)) mr_16 dX6_visit_293 ?_
                refine lv_iload_n hx hb dX6_visit_296 rfl (lv_at hl 2 rfl) ?_
                refine lv_aload_n hx hb dX6_visit_297 rfl (lv_at hl 1 rfl) ?_
                refine gf S hK hP 0 ml_0 fX6_23 (v := .ref (ad 4)) mr_4 dX6_visit_298 ?_
                refine lv_iload_n hx hb dX6_visit_301 rfl (lv_at hl 2 rfl) ?_
                refine ild S hK hP 4 ml_4 (j := j) (by omega) (Nat.le_of_ble_eq_true rfl) dX6_visit_302 ?_
                refine lv_as (y := 97) (up_at : up (up (up (up r 0 0 0) 17 j 1) 6 j ((r 6 j) + 1)) 4 j 97 4 j = 97) ?_
                refine lv_bipush (v := 97) hx hb dX6_visit_303 (by decide) ?_
                refine lv_icmp_eq (tgt := 323) hx hb dX6_visit_305 (by decide) (fun b305 => ?_) (fun b305 => ?_)
                · skip
                  refine lv_iconst (v := 0) hx hb dX6_visit_323 (by decide) ?_
                  refine zst S hK hP hD hS 16 ml_16 (j := j) (x := 0) (by omega) (Nat.le_of_ble_eq_true rfl) rfl ms_16 dX6_visit_324 (fun H locs hP hD hS => ?_)
                  refine lv_iload hx hb dX6_visit_325 (lv_at hl 0 rfl) ?_
                  exact eMi S hr hlk hP hD hS dX6_visit_327 rfl rfl
                · skip
                  exact absurd b110 b305
            · skip
              exact absurd b81 hf
      · skip
        exact absurd b41 b5
    · skip
      exact False.elim (by revert b13; decide)
  · skip
    exact False.elim (by revert b5; decide)

set_option maxHeartbeats 4000000 in
set_option maxRecDepth 100000 in
theorem rr_visit_n3 (l : Launch) (dg : va_G) (cA : Nat → ClassId) (ad : Nat → Nat) (r : St) (n : Nat) (hn : r 0 3 = nI n) (hn24 : n ≤ 24) (j : Nat) (hj : j < n) (a : Int32) (h1 : ¬ a < 0) (h2 : ¬ 9 < a) (i : Nat) (hi4 : i < 4) (hr0 : r 18 j = nI i) (ht : r 17 j = 0) (hf : ¬ r 25 i = 2) (h3 : r 7 j + 1 = 3) (sz : Nat) : MetM l dg cA yX6_visit cX6_visit 5 (some .int) ({ frames := 2, cells := 0, slots := 0, locals := 43 } : Room) 0 0 (mw cA ad r) sz [.ref (ad 0), .int (nI j), .int 110, .int a] (mw cA ad (up (up (up (up (up (up (up r 0 0 0) 17 j 1) 6 j (r 6 j + 1)) 7 j (r 7 j + 1)) 5 j (r 0 5 + (r 7 j + 1))) 4 j 103) 16 j 1)) (some (.int (nI i))) := by
  refine ofM (by decide) (Nat.le_of_ble_eq_true rfl) (own := RX6) rfl (fun p e s0 m args below meth c ls A hAe S hr hlk hname hargs hK hP hD hS hA hsz hl => ?_)
  have hx := S.1
  have hb := S.2.1
  have hl : lv_has ls 5 [(0, .ref (ad 0)), (1, .int (nI j)), (2, .int 110), (3, .int a)] := hl
  refine lv_aload_n hx hb dX6_visit_0 rfl (lv_at hl 0 rfl) ?_
  refine lv_iload_n hx hb dX6_visit_1 rfl (lv_at hl 1 rfl) ?_
  refine cM S (rr_isHouse1 l dg cA ad r n hn hn24 j hj _) kX6_133 ⟨rfl, rfl, Nat.le_of_ble_eq_true rfl, Nat.le_of_ble_eq_true rfl⟩ hK hP hD hS hA 0 ml_0 (q := (RX6, TX6, 31)) rfl rfl (As := [.int (nI j)]) rfl hl.1 (rest := []) rfl (Nat.le_of_ble_eq_true rfl) dX6_visit_2 ⟨Nat.le_of_ble_eq_true rfl, Nat.le_of_ble_eq_true rfl⟩ (st1 := [.int 1]) rfl (fun H locs hP hD hS => ?_)
  refine lv_if_ne (tgt := 10) hx hb dX6_visit_5 (by decide) (fun b5 => ?_) (fun b5 => ?_)
  · skip
    refine lv_iload_n hx hb dX6_visit_10 rfl (lv_at hl 2 rfl) ?_
    refine lv_bipush (v := 97) hx hb dX6_visit_11 (by decide) ?_
    refine lv_icmp_eq (tgt := 34) hx hb dX6_visit_13 (by decide) (fun b13 => ?_) (fun b13 => ?_)
    · skip
      exact False.elim (by revert b13; decide)
    · skip
      refine lv_iload_n hx hb dX6_visit_16 rfl (lv_at hl 2 rfl) ?_
      refine lv_bipush (v := 110) hx hb dX6_visit_17 (by decide) ?_
      refine lv_icmp_eq (tgt := 34) hx hb dX6_visit_19 (by decide) (fun b19 => ?_) (fun b19 => ?_)
      · skip
        refine lv_iload_n hx hb dX6_visit_34 rfl (lv_at hl 3 rfl) ?_
        refine lv_iconst (v := 0) hx hb dX6_visit_35 (by decide) ?_
        refine lv_bipush (v := 9) hx hb dX6_visit_36 (by decide) ?_
        refine cRS S (rr_in1 l dg cA (mw cA ad (up r 0 0 0)) a 0 9 h1 h2) kX6_96 ⟨rfl, rfl, Nat.le_of_ble_eq_true rfl, Nat.le_of_ble_eq_true rfl⟩ hK hP (As := [.int a, .int 0, .int 9]) rfl hl.1 (rest := []) rfl (Nat.le_of_ble_eq_true rfl) dX6_visit_38 ⟨Nat.le_of_ble_eq_true rfl, Nat.le_of_ble_eq_true rfl⟩ (st1 := [.int 1]) rfl ?_
        refine lv_if_ne (tgt := 50) hx hb dX6_visit_41 (by decide) (fun b41 => ?_) (fun b41 => ?_)
        · skip
          refine lv_aload_n hx hb dX6_visit_50 rfl (lv_at hl 0 rfl) ?_
          refine gf S hK hP 0 ml_0 fX6_66 (v := .ref (ad 18)) mr_18 dX6_visit_51 ?_
          refine lv_iload_n hx hb dX6_visit_54 rfl (lv_at hl 1 rfl) ?_
          refine ild S hK hP 18 ml_18 (j := j) (by omega) (Nat.le_of_ble_eq_true rfl) dX6_visit_55 ?_
          refine lv_as (y := nI i) hr0 ?_
          refine lv_istore (lv' := [(4, .int (nI i)), (0, .ref (ad 0)), (1, .int (nI j)), (2, .int 110), (3, .int a)]) hx hb dX6_visit_56 hl (by decide) rfl (fun ls hl => ?_)
          refine lv_iload hx hb dX6_visit_58 (lv_at hl 0 rfl) ?_
          refine lv_iconst (v := (-1)) hx hb dX6_visit_60 (by decide) ?_
          refine lv_icmp_eq (tgt := 84) hx hb dX6_visit_61 (by decide) (fun b61 => ?_) (fun b61 => ?_)
          · skip
            exact absurd b61 (nI_m1 (by omega))
          · skip
            refine lv_aload_n hx hb dX6_visit_64 rfl (lv_at hl 1 rfl) ?_
            refine gf S hK hP 0 ml_0 fX6_63 (v := .ref (ad 17)) mr_17 dX6_visit_65 ?_
            refine lv_iload_n hx hb dX6_visit_68 rfl (lv_at hl 2 rfl) ?_
            refine zld S hK hP 17 ml_17 (j := j) (by omega) (Nat.le_of_ble_eq_true rfl) dX6_visit_69 ?_
            refine lv_as (y := 0) ht ?_
            refine lv_if_ne (tgt := 84) hx hb dX6_visit_70 (by decide) (fun b70 => ?_) (fun b70 => ?_)
            · skip
              exact False.elim (by revert b70; decide)
            · skip
              refine lv_aload_n hx hb dX6_visit_73 rfl (lv_at hl 1 rfl) ?_
              refine gf S hK hP 0 ml_0 fX6_87 (v := .ref (ad 25)) mr_25 dX6_visit_74 ?_
              refine lv_iload hx hb dX6_visit_77 (lv_at hl 0 rfl) ?_
              refine ild S hK hP 25 ml_25 (j := i) (by omega) (Nat.le_of_ble_eq_true rfl) dX6_visit_79 ?_
              refine lv_as (y := r 25 i) rfl ?_
              refine lv_iconst (v := 2) hx hb dX6_visit_80 (by decide) ?_
              refine lv_icmp_ne (tgt := 90) hx hb dX6_visit_81 (by decide) (fun b81 => ?_) (fun b81 => ?_)
              · skip
                refine lv_aload_n hx hb dX6_visit_90 rfl (lv_at hl 1 rfl) ?_
                refine gf S hK hP 0 ml_0 fX6_63 (v := .ref (ad 17)) mr_17 dX6_visit_91 ?_
                refine lv_iload_n hx hb dX6_visit_94 rfl (lv_at hl 2 rfl) ?_
                refine lv_iconst (v := 1) hx hb dX6_visit_95 (by decide) ?_
                refine zst S hK hP hD hS 17 ml_17 (j := j) (x := 1) (by omega) (Nat.le_of_ble_eq_true rfl) rfl ms_17 dX6_visit_96 (fun H locs hP hD hS => ?_)
                refine lv_aload_n hx hb dX6_visit_97 rfl (lv_at hl 1 rfl) ?_
                refine gf S hK hP 0 ml_0 fX6_29 (v := .ref (ad 6)) mr_6 dX6_visit_98 ?_
                refine lv_iload_n hx hb dX6_visit_101 rfl (lv_at hl 2 rfl) ?_
                refine lv_dup2_11 hx hb dX6_visit_102 rfl rfl ?_
                refine ild S hK hP 6 ml_6 (j := j) (by omega) (Nat.le_of_ble_eq_true rfl) dX6_visit_103 ?_
                refine lv_as (y := r 6 j) rfl ?_
                refine lv_iconst (v := 1) hx hb dX6_visit_104 (by decide) ?_
                refine lv_iadd hx hb dX6_visit_105 ?_
                refine ist S hK hP hD hS 6 ml_6 (j := j) (x := (r 6 j) + 1) (by omega) (Nat.le_of_ble_eq_true rfl) ms_6 dX6_visit_106 (fun H locs hP hD hS => ?_)
                refine lv_iload_n hx hb dX6_visit_107 rfl (lv_at hl 3 rfl) ?_
                refine lv_bipush (v := 97) hx hb dX6_visit_108 (by decide) ?_
                refine lv_icmp_ne (tgt := 158) hx hb dX6_visit_110 (by decide) (fun b110 => ?_) (fun b110 => ?_)
                · skip
                  refine lv_iload_n hx hb dX6_visit_158 rfl (lv_at hl 3 rfl) ?_
                  refine lv_bipush (v := 110) hx hb dX6_visit_159 (by decide) ?_
                  refine lv_icmp_ne (tgt := 217) hx hb dX6_visit_161 (by decide) (fun b161 => ?_) (fun b161 => ?_)
                  · skip
                    exact absurd b19 b161
                  · skip
                    refine lv_aload_n hx hb dX6_visit_164 rfl (lv_at hl 1 rfl) ?_
                    refine gf S hK hP 0 ml_0 fX6_32 (v := .ref (ad 7)) mr_7 dX6_visit_165 ?_
                    refine lv_iload_n hx hb dX6_visit_168 rfl (lv_at hl 2 rfl) ?_
                    refine lv_dup2_11 hx hb dX6_visit_169 rfl rfl ?_
                    refine ild S hK hP 7 ml_7 (j := j) (by omega) (Nat.le_of_ble_eq_true rfl) dX6_visit_170 ?_
                    refine lv_as (y := r 7 j) rfl ?_
                    refine lv_iconst (v := 1) hx hb dX6_visit_171 (by decide) ?_
                    refine lv_iadd hx hb dX6_visit_172 ?_
                    refine ist S hK hP hD hS 7 ml_7 (j := j) (x := (r 7 j) + 1) (by omega) (Nat.le_of_ble_eq_true rfl) ms_7 dX6_visit_173 (fun H locs hP hD hS => ?_)
                    refine lv_aload_n hx hb dX6_visit_174 rfl (lv_at hl 1 rfl) ?_
                    refine gf S hK hP 0 ml_0 fX6_26 (v := .ref (ad 5)) mr_5 dX6_visit_175 ?_
                    refine lv_iload_n hx hb dX6_visit_178 rfl (lv_at hl 2 rfl) ?_
                    refine lv_aload_n hx hb dX6_visit_179 rfl (lv_at hl 1 rfl) ?_
                    refine gf S hK hP 0 ml_0 fX6_115 (v := .int (r 0 5)) (mv_5 rfl) dX6_visit_180 ?_
                    refine lv_aload_n hx hb dX6_visit_183 rfl (lv_at hl 1 rfl) ?_
                    refine gf S hK hP 0 ml_0 fX6_32 (v := .ref (ad 7)) mr_7 dX6_visit_184 ?_
                    refine lv_iload_n hx hb dX6_visit_187 rfl (lv_at hl 2 rfl) ?_
                    refine ild S hK hP 7 ml_7 (j := j) (by omega) (Nat.le_of_ble_eq_true rfl) dX6_visit_188 ?_
                    refine lv_as (y := (r 7 j) + 1) up_at ?_
                    refine lv_iadd hx hb dX6_visit_189 ?_
                    refine ist S hK hP hD hS 5 ml_5 (j := j) (x := (r 0 5) + ((r 7 j) + 1)) (by omega) (Nat.le_of_ble_eq_true rfl) ms_5 dX6_visit_190 (fun H locs hP hD hS => ?_)
                    refine lv_aload_n hx hb dX6_visit_191 rfl (lv_at hl 1 rfl) ?_
                    refine gf S hK hP 0 ml_0 fX6_23 (v := .ref (ad 4)) mr_4 dX6_visit_192 ?_
                    refine lv_iload_n hx hb dX6_visit_195 rfl (lv_at hl 2 rfl) ?_
                    refine lv_aload_n hx hb dX6_visit_196 rfl (lv_at hl 1 rfl) ?_
                    refine gf S hK hP 0 ml_0 fX6_32 (v := .ref (ad 7)) mr_7 dX6_visit_197 ?_
                    refine lv_iload_n hx hb dX6_visit_200 rfl (lv_at hl 2 rfl) ?_
                    refine ild S hK hP 7 ml_7 (j := j) (by omega) (Nat.le_of_ble_eq_true rfl) dX6_visit_201 ?_
                    refine lv_as (y := (r 7 j) + 1) (up_at : up (up (up (up r 0 0 0) 17 j 1) 6 j ((r 6 j) + 1)) 7 j ((r 7 j) + 1) 7 j = (r 7 j) + 1) ?_
                    refine lv_iconst (v := 3) hx hb dX6_visit_202 (by decide) ?_
                    refine lv_icmp_ne (tgt := 211) hx hb dX6_visit_203 (by decide) (fun b203 => ?_) (fun b203 => ?_)
                    · skip
                      exact absurd h3 b203
                    · skip
                      refine lv_bipush (v := 103) hx hb dX6_visit_206 (by decide) ?_
                      refine lv_goto (tgt := 213) hx hb dX6_visit_208 (by decide) ?_
                      refine ist S hK hP hD hS 4 ml_4 (j := j) (x := 103) (by omega) (Nat.le_of_ble_eq_true rfl) ms_4 dX6_visit_213 (fun H locs hP hD hS => ?_)
                      refine lv_goto (tgt := 292) hx hb dX6_visit_214 (by decide) ?_
                      refine lv_aload_n hx hb dX6_visit_292 rfl (lv_at hl 1 rfl) ?_
                      refine gf S hK hP 0 ml_0 fX6_60 (v := .ref (ad 16)) mr_16 dX6_visit_293 ?_
                      refine lv_iload_n hx hb dX6_visit_296 rfl (lv_at hl 2 rfl) ?_
                      refine lv_aload_n hx hb dX6_visit_297 rfl (lv_at hl 1 rfl) ?_
                      refine gf S hK hP 0 ml_0 fX6_23 (v := .ref (ad 4)) mr_4 dX6_visit_298 ?_
                      refine lv_iload_n hx hb dX6_visit_301 rfl (lv_at hl 2 rfl) ?_
                      refine ild S hK hP 4 ml_4 (j := j) (by omega) (Nat.le_of_ble_eq_true rfl) dX6_visit_302 ?_
                      refine lv_as (y := 103) up_at ?_
                      refine lv_bipush (v := 97) hx hb dX6_visit_303 (by decide) ?_
                      refine lv_icmp_eq (tgt := 323) hx hb dX6_visit_305 (by decide) (fun b305 => ?_) (fun b305 => ?_)
                      · skip
                        exact False.elim (by revert b305; decide)
                      · skip
                        refine lv_aload_n hx hb dX6_visit_308 rfl (lv_at hl 1 rfl) ?_
                        refine gf S hK hP 0 ml_0 fX6_23 (v := .ref (ad 4)) mr_4 dX6_visit_309 ?_
                        refine lv_iload_n hx hb dX6_visit_312 rfl (lv_at hl 2 rfl) ?_
                        refine ild S hK hP 4 ml_4 (j := j) (by omega) (Nat.le_of_ble_eq_true rfl) dX6_visit_313 ?_
                        refine lv_as (y := 103) up_at ?_
                        refine lv_bipush (v := 119) hx hb dX6_visit_314 (by decide) ?_
                        refine lv_icmp_eq (tgt := 323) hx hb dX6_visit_316 (by decide) (fun b316 => ?_) (fun b316 => ?_)
                        · skip
                          exact False.elim (by revert b316; decide)
                        · skip
                          refine lv_iconst (v := 1) hx hb dX6_visit_319 (by decide) ?_
                          refine lv_goto (tgt := 324) hx hb dX6_visit_320 (by decide) ?_
                          refine zst S hK hP hD hS 16 ml_16 (j := j) (x := 1) (by omega) (Nat.le_of_ble_eq_true rfl) rfl ms_16 dX6_visit_324 (fun H locs hP hD hS => ?_)
                          refine lv_iload hx hb dX6_visit_325 (lv_at hl 0 rfl) ?_
                          exact eMi S hr hlk hP hD hS dX6_visit_327 rfl rfl
                · skip
                  exact absurd b110 b13
              · skip
                exact absurd b81 hf
        · skip
          exact absurd b41 b5
      · skip
        exact False.elim (by revert b19; decide)
  · skip
    exact False.elim (by revert b5; decide)

set_option maxHeartbeats 4000000 in
set_option maxRecDepth 100000 in
theorem rr_visit_n (l : Launch) (dg : va_G) (cA : Nat → ClassId) (ad : Nat → Nat) (r : St) (n : Nat) (hn : r 0 3 = nI n) (hn24 : n ≤ 24) (j : Nat) (hj : j < n) (a : Int32) (h1 : ¬ a < 0) (h2 : ¬ 9 < a) (i : Nat) (hi4 : i < 4) (hr0 : r 18 j = nI i) (ht : r 17 j = 0) (hf : ¬ r 25 i = 2) (h3 : ¬ r 7 j + 1 = 3) (sz : Nat) : MetM l dg cA yX6_visit cX6_visit 5 (some .int) ({ frames := 2, cells := 0, slots := 0, locals := 43 } : Room) 0 0 (mw cA ad r) sz [.ref (ad 0), .int (nI j), .int 110, .int a] (mw cA ad (up (up (up (up (up (up (up r 0 0 0) 17 j 1) 6 j (r 6 j + 1)) 7 j (r 7 j + 1)) 5 j (r 0 5 + (r 7 j + 1))) 4 j 119) 16 j 0)) (some (.int (nI i))) := by
  refine ofM (by decide) (Nat.le_of_ble_eq_true rfl) (own := RX6) rfl (fun p e s0 m args below meth c ls A hAe S hr hlk hname hargs hK hP hD hS hA hsz hl => ?_)
  have hx := S.1
  have hb := S.2.1
  have hl : lv_has ls 5 [(0, .ref (ad 0)), (1, .int (nI j)), (2, .int 110), (3, .int a)] := hl
  refine lv_aload_n hx hb dX6_visit_0 rfl (lv_at hl 0 rfl) ?_
  refine lv_iload_n hx hb dX6_visit_1 rfl (lv_at hl 1 rfl) ?_
  refine cM S (rr_isHouse1 l dg cA ad r n hn hn24 j hj _) kX6_133 ⟨rfl, rfl, Nat.le_of_ble_eq_true rfl, Nat.le_of_ble_eq_true rfl⟩ hK hP hD hS hA 0 ml_0 (q := (RX6, TX6, 31)) rfl rfl (As := [.int (nI j)]) rfl hl.1 (rest := []) rfl (Nat.le_of_ble_eq_true rfl) dX6_visit_2 ⟨Nat.le_of_ble_eq_true rfl, Nat.le_of_ble_eq_true rfl⟩ (st1 := [.int 1]) rfl (fun H locs hP hD hS => ?_)
  refine lv_if_ne (tgt := 10) hx hb dX6_visit_5 (by decide) (fun b5 => ?_) (fun b5 => ?_)
  · skip
    refine lv_iload_n hx hb dX6_visit_10 rfl (lv_at hl 2 rfl) ?_
    refine lv_bipush (v := 97) hx hb dX6_visit_11 (by decide) ?_
    refine lv_icmp_eq (tgt := 34) hx hb dX6_visit_13 (by decide) (fun b13 => ?_) (fun b13 => ?_)
    · skip
      exact False.elim (by revert b13; decide)
    · skip
      refine lv_iload_n hx hb dX6_visit_16 rfl (lv_at hl 2 rfl) ?_
      refine lv_bipush (v := 110) hx hb dX6_visit_17 (by decide) ?_
      refine lv_icmp_eq (tgt := 34) hx hb dX6_visit_19 (by decide) (fun b19 => ?_) (fun b19 => ?_)
      · skip
        refine lv_iload_n hx hb dX6_visit_34 rfl (lv_at hl 3 rfl) ?_
        refine lv_iconst (v := 0) hx hb dX6_visit_35 (by decide) ?_
        refine lv_bipush (v := 9) hx hb dX6_visit_36 (by decide) ?_
        refine cRS S (rr_in1 l dg cA (mw cA ad (up r 0 0 0)) a 0 9 h1 h2) kX6_96 ⟨rfl, rfl, Nat.le_of_ble_eq_true rfl, Nat.le_of_ble_eq_true rfl⟩ hK hP (As := [.int a, .int 0, .int 9]) rfl hl.1 (rest := []) rfl (Nat.le_of_ble_eq_true rfl) dX6_visit_38 ⟨Nat.le_of_ble_eq_true rfl, Nat.le_of_ble_eq_true rfl⟩ (st1 := [.int 1]) rfl ?_
        refine lv_if_ne (tgt := 50) hx hb dX6_visit_41 (by decide) (fun b41 => ?_) (fun b41 => ?_)
        · skip
          refine lv_aload_n hx hb dX6_visit_50 rfl (lv_at hl 0 rfl) ?_
          refine gf S hK hP 0 ml_0 fX6_66 (v := .ref (ad 18)) mr_18 dX6_visit_51 ?_
          refine lv_iload_n hx hb dX6_visit_54 rfl (lv_at hl 1 rfl) ?_
          refine ild S hK hP 18 ml_18 (j := j) (by omega) (Nat.le_of_ble_eq_true rfl) dX6_visit_55 ?_
          refine lv_as (y := nI i) hr0 ?_
          refine lv_istore (lv' := [(4, .int (nI i)), (0, .ref (ad 0)), (1, .int (nI j)), (2, .int 110), (3, .int a)]) hx hb dX6_visit_56 hl (by decide) rfl (fun ls hl => ?_)
          refine lv_iload hx hb dX6_visit_58 (lv_at hl 0 rfl) ?_
          refine lv_iconst (v := (-1)) hx hb dX6_visit_60 (by decide) ?_
          refine lv_icmp_eq (tgt := 84) hx hb dX6_visit_61 (by decide) (fun b61 => ?_) (fun b61 => ?_)
          · skip
            exact absurd b61 (nI_m1 (by omega))
          · skip
            refine lv_aload_n hx hb dX6_visit_64 rfl (lv_at hl 1 rfl) ?_
            refine gf S hK hP 0 ml_0 fX6_63 (v := .ref (ad 17)) mr_17 dX6_visit_65 ?_
            refine lv_iload_n hx hb dX6_visit_68 rfl (lv_at hl 2 rfl) ?_
            refine zld S hK hP 17 ml_17 (j := j) (by omega) (Nat.le_of_ble_eq_true rfl) dX6_visit_69 ?_
            refine lv_as (y := 0) ht ?_
            refine lv_if_ne (tgt := 84) hx hb dX6_visit_70 (by decide) (fun b70 => ?_) (fun b70 => ?_)
            · skip
              exact False.elim (by revert b70; decide)
            · skip
              refine lv_aload_n hx hb dX6_visit_73 rfl (lv_at hl 1 rfl) ?_
              refine gf S hK hP 0 ml_0 fX6_87 (v := .ref (ad 25)) mr_25 dX6_visit_74 ?_
              refine lv_iload hx hb dX6_visit_77 (lv_at hl 0 rfl) ?_
              refine ild S hK hP 25 ml_25 (j := i) (by omega) (Nat.le_of_ble_eq_true rfl) dX6_visit_79 ?_
              refine lv_as (y := r 25 i) rfl ?_
              refine lv_iconst (v := 2) hx hb dX6_visit_80 (by decide) ?_
              refine lv_icmp_ne (tgt := 90) hx hb dX6_visit_81 (by decide) (fun b81 => ?_) (fun b81 => ?_)
              · skip
                refine lv_aload_n hx hb dX6_visit_90 rfl (lv_at hl 1 rfl) ?_
                refine gf S hK hP 0 ml_0 fX6_63 (v := .ref (ad 17)) mr_17 dX6_visit_91 ?_
                refine lv_iload_n hx hb dX6_visit_94 rfl (lv_at hl 2 rfl) ?_
                refine lv_iconst (v := 1) hx hb dX6_visit_95 (by decide) ?_
                refine zst S hK hP hD hS 17 ml_17 (j := j) (x := 1) (by omega) (Nat.le_of_ble_eq_true rfl) rfl ms_17 dX6_visit_96 (fun H locs hP hD hS => ?_)
                refine lv_aload_n hx hb dX6_visit_97 rfl (lv_at hl 1 rfl) ?_
                refine gf S hK hP 0 ml_0 fX6_29 (v := .ref (ad 6)) mr_6 dX6_visit_98 ?_
                refine lv_iload_n hx hb dX6_visit_101 rfl (lv_at hl 2 rfl) ?_
                refine lv_dup2_11 hx hb dX6_visit_102 rfl rfl ?_
                refine ild S hK hP 6 ml_6 (j := j) (by omega) (Nat.le_of_ble_eq_true rfl) dX6_visit_103 ?_
                refine lv_as (y := r 6 j) rfl ?_
                refine lv_iconst (v := 1) hx hb dX6_visit_104 (by decide) ?_
                refine lv_iadd hx hb dX6_visit_105 ?_
                refine ist S hK hP hD hS 6 ml_6 (j := j) (x := (r 6 j) + 1) (by omega) (Nat.le_of_ble_eq_true rfl) ms_6 dX6_visit_106 (fun H locs hP hD hS => ?_)
                refine lv_iload_n hx hb dX6_visit_107 rfl (lv_at hl 3 rfl) ?_
                refine lv_bipush (v := 97) hx hb dX6_visit_108 (by decide) ?_
                refine lv_icmp_ne (tgt := 158) hx hb dX6_visit_110 (by decide) (fun b110 => ?_) (fun b110 => ?_)
                · skip
                  refine lv_iload_n hx hb dX6_visit_158 rfl (lv_at hl 3 rfl) ?_
                  refine lv_bipush (v := 110) hx hb dX6_visit_159 (by decide) ?_
                  refine lv_icmp_ne (tgt := 217) hx hb dX6_visit_161 (by decide) (fun b161 => ?_) (fun b161 => ?_)
                  · skip
                    exact absurd b19 b161
                  · skip
                    refine lv_aload_n hx hb dX6_visit_164 rfl (lv_at hl 1 rfl) ?_
                    refine gf S hK hP 0 ml_0 fX6_32 (v := .ref (ad 7)) mr_7 dX6_visit_165 ?_
                    refine lv_iload_n hx hb dX6_visit_168 rfl (lv_at hl 2 rfl) ?_
                    refine lv_dup2_11 hx hb dX6_visit_169 rfl rfl ?_
                    refine ild S hK hP 7 ml_7 (j := j) (by omega) (Nat.le_of_ble_eq_true rfl) dX6_visit_170 ?_
                    refine lv_as (y := r 7 j) rfl ?_
                    refine lv_iconst (v := 1) hx hb dX6_visit_171 (by decide) ?_
                    refine lv_iadd hx hb dX6_visit_172 ?_
                    refine ist S hK hP hD hS 7 ml_7 (j := j) (x := (r 7 j) + 1) (by omega) (Nat.le_of_ble_eq_true rfl) ms_7 dX6_visit_173 (fun H locs hP hD hS => ?_)
                    refine lv_aload_n hx hb dX6_visit_174 rfl (lv_at hl 1 rfl) ?_
                    refine gf S hK hP 0 ml_0 fX6_26 (v := .ref (ad 5)) mr_5 dX6_visit_175 ?_
                    refine lv_iload_n hx hb dX6_visit_178 rfl (lv_at hl 2 rfl) ?_
                    refine lv_aload_n hx hb dX6_visit_179 rfl (lv_at hl 1 rfl) ?_
                    refine gf S hK hP 0 ml_0 fX6_115 (v := .int (r 0 5)) (mv_5 rfl) dX6_visit_180 ?_
                    refine lv_aload_n hx hb dX6_visit_183 rfl (lv_at hl 1 rfl) ?_
                    refine gf S hK hP 0 ml_0 fX6_32 (v := .ref (ad 7)) mr_7 dX6_visit_184 ?_
                    refine lv_iload_n hx hb dX6_visit_187 rfl (lv_at hl 2 rfl) ?_
                    refine ild S hK hP 7 ml_7 (j := j) (by omega) (Nat.le_of_ble_eq_true rfl) dX6_visit_188 ?_
                    refine lv_as (y := (r 7 j) + 1) up_at ?_
                    refine lv_iadd hx hb dX6_visit_189 ?_
                    refine ist S hK hP hD hS 5 ml_5 (j := j) (x := (r 0 5) + ((r 7 j) + 1)) (by omega) (Nat.le_of_ble_eq_true rfl) ms_5 dX6_visit_190 (fun H locs hP hD hS => ?_)
                    refine lv_aload_n hx hb dX6_visit_191 rfl (lv_at hl 1 rfl) ?_
                    refine gf S hK hP 0 ml_0 fX6_23 (v := .ref (ad 4)) mr_4 dX6_visit_192 ?_
                    refine lv_iload_n hx hb dX6_visit_195 rfl (lv_at hl 2 rfl) ?_
                    refine lv_aload_n hx hb dX6_visit_196 rfl (lv_at hl 1 rfl) ?_
                    refine gf S hK hP 0 ml_0 fX6_32 (v := .ref (ad 7)) mr_7 dX6_visit_197 ?_
                    refine lv_iload_n hx hb dX6_visit_200 rfl (lv_at hl 2 rfl) ?_
                    refine ild S hK hP 7 ml_7 (j := j) (by omega) (Nat.le_of_ble_eq_true rfl) dX6_visit_201 ?_
                    refine lv_as (y := (r 7 j) + 1) (up_at : up (up (up (up r 0 0 0) 17 j 1) 6 j ((r 6 j) + 1)) 7 j ((r 7 j) + 1) 7 j = (r 7 j) + 1) ?_
                    refine lv_iconst (v := 3) hx hb dX6_visit_202 (by decide) ?_
                    refine lv_icmp_ne (tgt := 211) hx hb dX6_visit_203 (by decide) (fun b203 => ?_) (fun b203 => ?_)
                    · skip
                      refine lv_bipush (v := 119) hx hb dX6_visit_211 (by decide) ?_
                      refine ist S hK hP hD hS 4 ml_4 (j := j) (x := 119) (by omega) (Nat.le_of_ble_eq_true rfl) ms_4 dX6_visit_213 (fun H locs hP hD hS => ?_)
                      refine lv_goto (tgt := 292) hx hb dX6_visit_214 (by decide) ?_
                      refine lv_aload_n hx hb dX6_visit_292 rfl (lv_at hl 1 rfl) ?_
                      refine gf S hK hP 0 ml_0 fX6_60 (v := .ref (ad 16)) mr_16 dX6_visit_293 ?_
                      refine lv_iload_n hx hb dX6_visit_296 rfl (lv_at hl 2 rfl) ?_
                      refine lv_aload_n hx hb dX6_visit_297 rfl (lv_at hl 1 rfl) ?_
                      refine gf S hK hP 0 ml_0 fX6_23 (v := .ref (ad 4)) mr_4 dX6_visit_298 ?_
                      refine lv_iload_n hx hb dX6_visit_301 rfl (lv_at hl 2 rfl) ?_
                      refine ild S hK hP 4 ml_4 (j := j) (by omega) (Nat.le_of_ble_eq_true rfl) dX6_visit_302 ?_
                      refine lv_as (y := 119) up_at ?_
                      refine lv_bipush (v := 97) hx hb dX6_visit_303 (by decide) ?_
                      refine lv_icmp_eq (tgt := 323) hx hb dX6_visit_305 (by decide) (fun b305 => ?_) (fun b305 => ?_)
                      · skip
                        exact False.elim (by revert b305; decide)
                      · skip
                        refine lv_aload_n hx hb dX6_visit_308 rfl (lv_at hl 1 rfl) ?_
                        refine gf S hK hP 0 ml_0 fX6_23 (v := .ref (ad 4)) mr_4 dX6_visit_309 ?_
                        refine lv_iload_n hx hb dX6_visit_312 rfl (lv_at hl 2 rfl) ?_
                        refine ild S hK hP 4 ml_4 (j := j) (by omega) (Nat.le_of_ble_eq_true rfl) dX6_visit_313 ?_
                        refine lv_as (y := 119) up_at ?_
                        refine lv_bipush (v := 119) hx hb dX6_visit_314 (by decide) ?_
                        refine lv_icmp_eq (tgt := 323) hx hb dX6_visit_316 (by decide) (fun b316 => ?_) (fun b316 => ?_)
                        · skip
                          refine lv_iconst (v := 0) hx hb dX6_visit_323 (by decide) ?_
                          refine zst S hK hP hD hS 16 ml_16 (j := j) (x := 0) (by omega) (Nat.le_of_ble_eq_true rfl) rfl ms_16 dX6_visit_324 (fun H locs hP hD hS => ?_)
                          refine lv_iload hx hb dX6_visit_325 (lv_at hl 0 rfl) ?_
                          exact eMi S hr hlk hP hD hS dX6_visit_327 rfl rfl
                        · skip
                          exact False.elim (by revert b316; decide)
                    · skip
                      exact absurd b203 h3
                · skip
                  exact absurd b110 b13
              · skip
                exact absurd b81 hf
        · skip
          exact absurd b41 b5
      · skip
        exact False.elim (by revert b19; decide)
  · skip
    exact False.elim (by revert b5; decide)

set_option maxHeartbeats 4000000 in
set_option maxRecDepth 100000 in
theorem rr_visit_r2 (l : Launch) (dg : va_G) (cA : Nat → ClassId) (ad : Nat → Nat) (r : St) (n : Nat) (hn : r 0 3 = nI n) (hn24 : n ≤ 24) (j : Nat) (hj : j < n) (a : Int32) (h1 : ¬ a < 0) (h2 : ¬ 9 < a) (i : Nat) (hi4 : i < 4) (hr0 : r 18 j = nI i) (ht : r 17 j = 0) (hf : ¬ r 25 i = 2) (h3 : r 8 j + 1 = 2) (sz : Nat) : MetM l dg cA yX6_visit cX6_visit 5 (some .int) ({ frames := 2, cells := 0, slots := 0, locals := 43 } : Room) 0 0 (mw cA ad r) sz [.ref (ad 0), .int (nI j), .int 114, .int a] (mw cA ad (up (up (up (up (up (up (up (up r 0 0 0) 17 j 1) 6 j (r 6 j + 1)) 8 j (r 8 j + 1)) 9 j (r 9 j ||| 1 <<< (nI i &&& 31))) 5 j (r 0 5 + 3)) 4 j 114) 16 j 1)) (some (.int (nI i))) := by
  refine ofM (by decide) (Nat.le_of_ble_eq_true rfl) (own := RX6) rfl (fun p e s0 m args below meth c ls A hAe S hr hlk hname hargs hK hP hD hS hA hsz hl => ?_)
  have hx := S.1
  have hb := S.2.1
  have hl : lv_has ls 5 [(0, .ref (ad 0)), (1, .int (nI j)), (2, .int 114), (3, .int a)] := hl
  refine lv_aload_n hx hb dX6_visit_0 rfl (lv_at hl 0 rfl) ?_
  refine lv_iload_n hx hb dX6_visit_1 rfl (lv_at hl 1 rfl) ?_
  refine cM S (rr_isHouse1 l dg cA ad r n hn hn24 j hj _) kX6_133 ⟨rfl, rfl, Nat.le_of_ble_eq_true rfl, Nat.le_of_ble_eq_true rfl⟩ hK hP hD hS hA 0 ml_0 (q := (RX6, TX6, 31)) rfl rfl (As := [.int (nI j)]) rfl hl.1 (rest := []) rfl (Nat.le_of_ble_eq_true rfl) dX6_visit_2 ⟨Nat.le_of_ble_eq_true rfl, Nat.le_of_ble_eq_true rfl⟩ (st1 := [.int 1]) rfl (fun H locs hP hD hS => ?_)
  refine lv_if_ne (tgt := 10) hx hb dX6_visit_5 (by decide) (fun b5 => ?_) (fun b5 => ?_)
  · skip
    refine lv_iload_n hx hb dX6_visit_10 rfl (lv_at hl 2 rfl) ?_
    refine lv_bipush (v := 97) hx hb dX6_visit_11 (by decide) ?_
    refine lv_icmp_eq (tgt := 34) hx hb dX6_visit_13 (by decide) (fun b13 => ?_) (fun b13 => ?_)
    · skip
      exact False.elim (by revert b13; decide)
    · skip
      refine lv_iload_n hx hb dX6_visit_16 rfl (lv_at hl 2 rfl) ?_
      refine lv_bipush (v := 110) hx hb dX6_visit_17 (by decide) ?_
      refine lv_icmp_eq (tgt := 34) hx hb dX6_visit_19 (by decide) (fun b19 => ?_) (fun b19 => ?_)
      · skip
        exact False.elim (by revert b19; decide)
      · skip
        refine lv_iload_n hx hb dX6_visit_22 rfl (lv_at hl 2 rfl) ?_
        refine lv_bipush (v := 114) hx hb dX6_visit_23 (by decide) ?_
        refine lv_icmp_eq (tgt := 34) hx hb dX6_visit_25 (by decide) (fun b25 => ?_) (fun b25 => ?_)
        · skip
          refine lv_iload_n hx hb dX6_visit_34 rfl (lv_at hl 3 rfl) ?_
          refine lv_iconst (v := 0) hx hb dX6_visit_35 (by decide) ?_
          refine lv_bipush (v := 9) hx hb dX6_visit_36 (by decide) ?_
          refine cRS S (rr_in1 l dg cA (mw cA ad (up r 0 0 0)) a 0 9 h1 h2) kX6_96 ⟨rfl, rfl, Nat.le_of_ble_eq_true rfl, Nat.le_of_ble_eq_true rfl⟩ hK hP (As := [.int a, .int 0, .int 9]) rfl hl.1 (rest := []) rfl (Nat.le_of_ble_eq_true rfl) dX6_visit_38 ⟨Nat.le_of_ble_eq_true rfl, Nat.le_of_ble_eq_true rfl⟩ (st1 := [.int 1]) rfl ?_
          refine lv_if_ne (tgt := 50) hx hb dX6_visit_41 (by decide) (fun b41 => ?_) (fun b41 => ?_)
          · skip
            refine lv_aload_n hx hb dX6_visit_50 rfl (lv_at hl 0 rfl) ?_
            refine gf S hK hP 0 ml_0 fX6_66 (v := .ref (ad 18)) mr_18 dX6_visit_51 ?_
            refine lv_iload_n hx hb dX6_visit_54 rfl (lv_at hl 1 rfl) ?_
            refine ild S hK hP 18 ml_18 (j := j) (by omega) (Nat.le_of_ble_eq_true rfl) dX6_visit_55 ?_
            refine lv_as (y := nI i) hr0 ?_
            refine lv_istore (lv' := [(4, .int (nI i)), (0, .ref (ad 0)), (1, .int (nI j)), (2, .int 114), (3, .int a)]) hx hb dX6_visit_56 hl (by decide) rfl (fun ls hl => ?_)
            refine lv_iload hx hb dX6_visit_58 (lv_at hl 0 rfl) ?_
            refine lv_iconst (v := (-1)) hx hb dX6_visit_60 (by decide) ?_
            refine lv_icmp_eq (tgt := 84) hx hb dX6_visit_61 (by decide) (fun b61 => ?_) (fun b61 => ?_)
            · skip
              exact absurd b61 (nI_m1 (by omega))
            · skip
              refine lv_aload_n hx hb dX6_visit_64 rfl (lv_at hl 1 rfl) ?_
              refine gf S hK hP 0 ml_0 fX6_63 (v := .ref (ad 17)) mr_17 dX6_visit_65 ?_
              refine lv_iload_n hx hb dX6_visit_68 rfl (lv_at hl 2 rfl) ?_
              refine zld S hK hP 17 ml_17 (j := j) (by omega) (Nat.le_of_ble_eq_true rfl) dX6_visit_69 ?_
              refine lv_as (y := 0) ht ?_
              refine lv_if_ne (tgt := 84) hx hb dX6_visit_70 (by decide) (fun b70 => ?_) (fun b70 => ?_)
              · skip
                exact False.elim (by revert b70; decide)
              · skip
                refine lv_aload_n hx hb dX6_visit_73 rfl (lv_at hl 1 rfl) ?_
                refine gf S hK hP 0 ml_0 fX6_87 (v := .ref (ad 25)) mr_25 dX6_visit_74 ?_
                refine lv_iload hx hb dX6_visit_77 (lv_at hl 0 rfl) ?_
                refine ild S hK hP 25 ml_25 (j := i) (by omega) (Nat.le_of_ble_eq_true rfl) dX6_visit_79 ?_
                refine lv_as (y := r 25 i) rfl ?_
                refine lv_iconst (v := 2) hx hb dX6_visit_80 (by decide) ?_
                refine lv_icmp_ne (tgt := 90) hx hb dX6_visit_81 (by decide) (fun b81 => ?_) (fun b81 => ?_)
                · skip
                  refine lv_aload_n hx hb dX6_visit_90 rfl (lv_at hl 1 rfl) ?_
                  refine gf S hK hP 0 ml_0 fX6_63 (v := .ref (ad 17)) mr_17 dX6_visit_91 ?_
                  refine lv_iload_n hx hb dX6_visit_94 rfl (lv_at hl 2 rfl) ?_
                  refine lv_iconst (v := 1) hx hb dX6_visit_95 (by decide) ?_
                  refine zst S hK hP hD hS 17 ml_17 (j := j) (x := 1) (by omega) (Nat.le_of_ble_eq_true rfl) rfl ms_17 dX6_visit_96 (fun H locs hP hD hS => ?_)
                  refine lv_aload_n hx hb dX6_visit_97 rfl (lv_at hl 1 rfl) ?_
                  refine gf S hK hP 0 ml_0 fX6_29 (v := .ref (ad 6)) mr_6 dX6_visit_98 ?_
                  refine lv_iload_n hx hb dX6_visit_101 rfl (lv_at hl 2 rfl) ?_
                  refine lv_dup2_11 hx hb dX6_visit_102 rfl rfl ?_
                  refine ild S hK hP 6 ml_6 (j := j) (by omega) (Nat.le_of_ble_eq_true rfl) dX6_visit_103 ?_
                  refine lv_as (y := r 6 j) rfl ?_
                  refine lv_iconst (v := 1) hx hb dX6_visit_104 (by decide) ?_
                  refine lv_iadd hx hb dX6_visit_105 ?_
                  refine ist S hK hP hD hS 6 ml_6 (j := j) (x := (r 6 j) + 1) (by omega) (Nat.le_of_ble_eq_true rfl) ms_6 dX6_visit_106 (fun H locs hP hD hS => ?_)
                  refine lv_iload_n hx hb dX6_visit_107 rfl (lv_at hl 3 rfl) ?_
                  refine lv_bipush (v := 97) hx hb dX6_visit_108 (by decide) ?_
                  refine lv_icmp_ne (tgt := 158) hx hb dX6_visit_110 (by decide) (fun b110 => ?_) (fun b110 => ?_)
                  · skip
                    refine lv_iload_n hx hb dX6_visit_158 rfl (lv_at hl 3 rfl) ?_
                    refine lv_bipush (v := 110) hx hb dX6_visit_159 (by decide) ?_
                    refine lv_icmp_ne (tgt := 217) hx hb dX6_visit_161 (by decide) (fun b161 => ?_) (fun b161 => ?_)
                    · skip
                      refine lv_iload_n hx hb dX6_visit_217 rfl (lv_at hl 3 rfl) ?_
                      refine lv_bipush (v := 114) hx hb dX6_visit_218 (by decide) ?_
                      refine lv_icmp_ne (tgt := 284) hx hb dX6_visit_220 (by decide) (fun b220 => ?_) (fun b220 => ?_)
                      · skip
                        exact absurd b25 b220
                      · skip
                        refine lv_aload_n hx hb dX6_visit_223 rfl (lv_at hl 1 rfl) ?_
                        refine gf S hK hP 0 ml_0 fX6_35 (v := .ref (ad 8)) mr_8 dX6_visit_224 ?_
                        refine lv_iload_n hx hb dX6_visit_227 rfl (lv_at hl 2 rfl) ?_
                        refine lv_dup2_11 hx hb dX6_visit_228 rfl rfl ?_
                        refine ild S hK hP 8 ml_8 (j := j) (by omega) (Nat.le_of_ble_eq_true rfl) dX6_visit_229 ?_
                        refine lv_as (y := r 8 j) rfl ?_
                        refine lv_iconst (v := 1) hx hb dX6_visit_230 (by decide) ?_
                        refine lv_iadd hx hb dX6_visit_231 ?_
                        refine ist S hK hP hD hS 8 ml_8 (j := j) (x := (r 8 j) + 1) (by omega) (Nat.le_of_ble_eq_true rfl) ms_8 dX6_visit_232 (fun H locs hP hD hS => ?_)
                        refine lv_aload_n hx hb dX6_visit_233 rfl (lv_at hl 1 rfl) ?_
                        refine gf S hK hP 0 ml_0 fX6_38 (v := .ref (ad 9)) mr_9 dX6_visit_234 ?_
                        refine lv_iload_n hx hb dX6_visit_237 rfl (lv_at hl 2 rfl) ?_
                        refine lv_dup2_11 hx hb dX6_visit_238 rfl rfl ?_
                        refine ild S hK hP 9 ml_9 (j := j) (by omega) (Nat.le_of_ble_eq_true rfl) dX6_visit_239 ?_
                        refine lv_as (y := r 9 j) rfl ?_
                        refine lv_iconst (v := 1) hx hb dX6_visit_240 (by decide) ?_
                        refine lv_iload hx hb dX6_visit_241 (lv_at hl 0 rfl) ?_
                        refine lv_ishl hx hb dX6_visit_243 ?_
                        refine lv_ior hx hb dX6_visit_244 ?_
                        refine ist S hK hP hD hS 9 ml_9 (j := j) (x := (r 9 j) ||| (1 <<< ((nI i) &&& 31))) (by omega) (Nat.le_of_ble_eq_true rfl) ms_9 dX6_visit_245 (fun H locs hP hD hS => ?_)
                        refine lv_aload_n hx hb dX6_visit_246 rfl (lv_at hl 1 rfl) ?_
                        refine gf S hK hP 0 ml_0 fX6_26 (v := .ref (ad 5)) mr_5 dX6_visit_247 ?_
                        refine lv_iload_n hx hb dX6_visit_250 rfl (lv_at hl 2 rfl) ?_
                        refine lv_aload_n hx hb dX6_visit_251 rfl (lv_at hl 1 rfl) ?_
                        refine gf S hK hP 0 ml_0 fX6_115 (v := .int (r 0 5)) (mv_5 rfl) dX6_visit_252 ?_
                        refine lv_iconst (v := 3) hx hb dX6_visit_255 (by decide) ?_
                        refine lv_iadd hx hb dX6_visit_256 ?_
                        refine ist S hK hP hD hS 5 ml_5 (j := j) (x := (r 0 5) + 3) (by omega) (Nat.le_of_ble_eq_true rfl) ms_5 dX6_visit_257 (fun H locs hP hD hS => ?_)
                        refine lv_aload_n hx hb dX6_visit_258 rfl (lv_at hl 1 rfl) ?_
                        refine gf S hK hP 0 ml_0 fX6_23 (v := .ref (ad 4)) mr_4 dX6_visit_259 ?_
                        refine lv_iload_n hx hb dX6_visit_262 rfl (lv_at hl 2 rfl) ?_
                        refine lv_aload_n hx hb dX6_visit_263 rfl (lv_at hl 1 rfl) ?_
                        refine gf S hK hP 0 ml_0 fX6_35 (v := .ref (ad 8)) mr_8 dX6_visit_264 ?_
                        refine lv_iload_n hx hb dX6_visit_267 rfl (lv_at hl 2 rfl) ?_
                        refine ild S hK hP 8 ml_8 (j := j) (by omega) (Nat.le_of_ble_eq_true rfl) dX6_visit_268 ?_
                        refine lv_as (y := (r 8 j) + 1) (up_at : up (up (up (up r 0 0 0) 17 j 1) 6 j ((r 6 j) + 1)) 8 j ((r 8 j) + 1) 8 j = (r 8 j) + 1) ?_
                        refine lv_iconst (v := 2) hx hb dX6_visit_269 (by decide) ?_
                        refine lv_icmp_ne (tgt := 278) hx hb dX6_visit_270 (by decide) (fun b270 => ?_) (fun b270 => ?_)
                        · skip
                          exact absurd h3 b270
                        · skip
                          refine lv_bipush (v := 114) hx hb dX6_visit_273 (by decide) ?_
                          refine lv_goto (tgt := 280) hx hb dX6_visit_275 (by decide) ?_
                          refine ist S hK hP hD hS 4 ml_4 (j := j) (x := 114) (by omega) (Nat.le_of_ble_eq_true rfl) ms_4 dX6_visit_280 (fun H locs hP hD hS => ?_)
                          refine lv_goto (tgt := 292) hx hb dX6_visit_281 (by decide) ?_
                          refine lv_aload_n hx hb dX6_visit_292 rfl (lv_at hl 1 rfl) ?_
                          refine gf S hK hP 0 ml_0 fX6_60 (v := .ref (ad 16)) mr_16 dX6_visit_293 ?_
                          refine lv_iload_n hx hb dX6_visit_296 rfl (lv_at hl 2 rfl) ?_
                          refine lv_aload_n hx hb dX6_visit_297 rfl (lv_at hl 1 rfl) ?_
                          refine gf S hK hP 0 ml_0 fX6_23 (v := .ref (ad 4)) mr_4 dX6_visit_298 ?_
                          refine lv_iload_n hx hb dX6_visit_301 rfl (lv_at hl 2 rfl) ?_
                          refine ild S hK hP 4 ml_4 (j := j) (by omega) (Nat.le_of_ble_eq_true rfl) dX6_visit_302 ?_
                          refine lv_as (y := 114) up_at ?_
                          refine lv_bipush (v := 97) hx hb dX6_visit_303 (by decide) ?_
                          refine lv_icmp_eq (tgt := 323) hx hb dX6_visit_305 (by decide) (fun b305 => ?_) (fun b305 => ?_)
                          · skip
                            exact absurd b305 b110
                          · skip
                            refine lv_aload_n hx hb dX6_visit_308 rfl (lv_at hl 1 rfl) ?_
                            refine gf S hK hP 0 ml_0 fX6_23 (v := .ref (ad 4)) mr_4 dX6_visit_309 ?_
                            refine lv_iload_n hx hb dX6_visit_312 rfl (lv_at hl 2 rfl) ?_
                            refine ild S hK hP 4 ml_4 (j := j) (by omega) (Nat.le_of_ble_eq_true rfl) dX6_visit_313 ?_
                            refine lv_as (y := 114) up_at ?_
                            refine lv_bipush (v := 119) hx hb dX6_visit_314 (by decide) ?_
                            refine lv_icmp_eq (tgt := 323) hx hb dX6_visit_316 (by decide) (fun b316 => ?_) (fun b316 => ?_)
                            · skip
                              exact False.elim (by revert b316; decide)
                            · skip
                              refine lv_iconst (v := 1) hx hb dX6_visit_319 (by decide) ?_
                              refine lv_goto (tgt := 324) hx hb dX6_visit_320 (by decide) ?_
                              refine zst S hK hP hD hS 16 ml_16 (j := j) (x := 1) (by omega) (Nat.le_of_ble_eq_true rfl) rfl ms_16 dX6_visit_324 (fun H locs hP hD hS => ?_)
                              refine lv_iload hx hb dX6_visit_325 (lv_at hl 0 rfl) ?_
                              exact eMi S hr hlk hP hD hS dX6_visit_327 rfl rfl
                    · skip
                      exact absurd b161 b19
                  · skip
                    exact absurd b110 b13
                · skip
                  exact absurd b81 hf
          · skip
            exact absurd b41 b5
        · skip
          exact False.elim (by revert b25; decide)
  · skip
    exact False.elim (by revert b5; decide)

set_option maxHeartbeats 4000000 in
set_option maxRecDepth 100000 in
theorem rr_visit_r (l : Launch) (dg : va_G) (cA : Nat → ClassId) (ad : Nat → Nat) (r : St) (n : Nat) (hn : r 0 3 = nI n) (hn24 : n ≤ 24) (j : Nat) (hj : j < n) (a : Int32) (h1 : ¬ a < 0) (h2 : ¬ 9 < a) (i : Nat) (hi4 : i < 4) (hr0 : r 18 j = nI i) (ht : r 17 j = 0) (hf : ¬ r 25 i = 2) (h3 : ¬ r 8 j + 1 = 2) (sz : Nat) : MetM l dg cA yX6_visit cX6_visit 5 (some .int) ({ frames := 2, cells := 0, slots := 0, locals := 43 } : Room) 0 0 (mw cA ad r) sz [.ref (ad 0), .int (nI j), .int 114, .int a] (mw cA ad (up (up (up (up (up (up (up (up r 0 0 0) 17 j 1) 6 j (r 6 j + 1)) 8 j (r 8 j + 1)) 9 j (r 9 j ||| 1 <<< (nI i &&& 31))) 5 j (r 0 5 + 3)) 4 j 119) 16 j 0)) (some (.int (nI i))) := by
  refine ofM (by decide) (Nat.le_of_ble_eq_true rfl) (own := RX6) rfl (fun p e s0 m args below meth c ls A hAe S hr hlk hname hargs hK hP hD hS hA hsz hl => ?_)
  have hx := S.1
  have hb := S.2.1
  have hl : lv_has ls 5 [(0, .ref (ad 0)), (1, .int (nI j)), (2, .int 114), (3, .int a)] := hl
  refine lv_aload_n hx hb dX6_visit_0 rfl (lv_at hl 0 rfl) ?_
  refine lv_iload_n hx hb dX6_visit_1 rfl (lv_at hl 1 rfl) ?_
  refine cM S (rr_isHouse1 l dg cA ad r n hn hn24 j hj _) kX6_133 ⟨rfl, rfl, Nat.le_of_ble_eq_true rfl, Nat.le_of_ble_eq_true rfl⟩ hK hP hD hS hA 0 ml_0 (q := (RX6, TX6, 31)) rfl rfl (As := [.int (nI j)]) rfl hl.1 (rest := []) rfl (Nat.le_of_ble_eq_true rfl) dX6_visit_2 ⟨Nat.le_of_ble_eq_true rfl, Nat.le_of_ble_eq_true rfl⟩ (st1 := [.int 1]) rfl (fun H locs hP hD hS => ?_)
  refine lv_if_ne (tgt := 10) hx hb dX6_visit_5 (by decide) (fun b5 => ?_) (fun b5 => ?_)
  · skip
    refine lv_iload_n hx hb dX6_visit_10 rfl (lv_at hl 2 rfl) ?_
    refine lv_bipush (v := 97) hx hb dX6_visit_11 (by decide) ?_
    refine lv_icmp_eq (tgt := 34) hx hb dX6_visit_13 (by decide) (fun b13 => ?_) (fun b13 => ?_)
    · skip
      exact False.elim (by revert b13; decide)
    · skip
      refine lv_iload_n hx hb dX6_visit_16 rfl (lv_at hl 2 rfl) ?_
      refine lv_bipush (v := 110) hx hb dX6_visit_17 (by decide) ?_
      refine lv_icmp_eq (tgt := 34) hx hb dX6_visit_19 (by decide) (fun b19 => ?_) (fun b19 => ?_)
      · skip
        exact False.elim (by revert b19; decide)
      · skip
        refine lv_iload_n hx hb dX6_visit_22 rfl (lv_at hl 2 rfl) ?_
        refine lv_bipush (v := 114) hx hb dX6_visit_23 (by decide) ?_
        refine lv_icmp_eq (tgt := 34) hx hb dX6_visit_25 (by decide) (fun b25 => ?_) (fun b25 => ?_)
        · skip
          refine lv_iload_n hx hb dX6_visit_34 rfl (lv_at hl 3 rfl) ?_
          refine lv_iconst (v := 0) hx hb dX6_visit_35 (by decide) ?_
          refine lv_bipush (v := 9) hx hb dX6_visit_36 (by decide) ?_
          refine cRS S (rr_in1 l dg cA (mw cA ad (up r 0 0 0)) a 0 9 h1 h2) kX6_96 ⟨rfl, rfl, Nat.le_of_ble_eq_true rfl, Nat.le_of_ble_eq_true rfl⟩ hK hP (As := [.int a, .int 0, .int 9]) rfl hl.1 (rest := []) rfl (Nat.le_of_ble_eq_true rfl) dX6_visit_38 ⟨Nat.le_of_ble_eq_true rfl, Nat.le_of_ble_eq_true rfl⟩ (st1 := [.int 1]) rfl ?_
          refine lv_if_ne (tgt := 50) hx hb dX6_visit_41 (by decide) (fun b41 => ?_) (fun b41 => ?_)
          · skip
            refine lv_aload_n hx hb dX6_visit_50 rfl (lv_at hl 0 rfl) ?_
            refine gf S hK hP 0 ml_0 fX6_66 (v := .ref (ad 18)) mr_18 dX6_visit_51 ?_
            refine lv_iload_n hx hb dX6_visit_54 rfl (lv_at hl 1 rfl) ?_
            refine ild S hK hP 18 ml_18 (j := j) (by omega) (Nat.le_of_ble_eq_true rfl) dX6_visit_55 ?_
            refine lv_as (y := nI i) hr0 ?_
            refine lv_istore (lv' := [(4, .int (nI i)), (0, .ref (ad 0)), (1, .int (nI j)), (2, .int 114), (3, .int a)]) hx hb dX6_visit_56 hl (by decide) rfl (fun ls hl => ?_)
            refine lv_iload hx hb dX6_visit_58 (lv_at hl 0 rfl) ?_
            refine lv_iconst (v := (-1)) hx hb dX6_visit_60 (by decide) ?_
            refine lv_icmp_eq (tgt := 84) hx hb dX6_visit_61 (by decide) (fun b61 => ?_) (fun b61 => ?_)
            · skip
              exact absurd b61 (nI_m1 (by omega))
            · skip
              refine lv_aload_n hx hb dX6_visit_64 rfl (lv_at hl 1 rfl) ?_
              refine gf S hK hP 0 ml_0 fX6_63 (v := .ref (ad 17)) mr_17 dX6_visit_65 ?_
              refine lv_iload_n hx hb dX6_visit_68 rfl (lv_at hl 2 rfl) ?_
              refine zld S hK hP 17 ml_17 (j := j) (by omega) (Nat.le_of_ble_eq_true rfl) dX6_visit_69 ?_
              refine lv_as (y := 0) ht ?_
              refine lv_if_ne (tgt := 84) hx hb dX6_visit_70 (by decide) (fun b70 => ?_) (fun b70 => ?_)
              · skip
                exact False.elim (by revert b70; decide)
              · skip
                refine lv_aload_n hx hb dX6_visit_73 rfl (lv_at hl 1 rfl) ?_
                refine gf S hK hP 0 ml_0 fX6_87 (v := .ref (ad 25)) mr_25 dX6_visit_74 ?_
                refine lv_iload hx hb dX6_visit_77 (lv_at hl 0 rfl) ?_
                refine ild S hK hP 25 ml_25 (j := i) (by omega) (Nat.le_of_ble_eq_true rfl) dX6_visit_79 ?_
                refine lv_as (y := r 25 i) rfl ?_
                refine lv_iconst (v := 2) hx hb dX6_visit_80 (by decide) ?_
                refine lv_icmp_ne (tgt := 90) hx hb dX6_visit_81 (by decide) (fun b81 => ?_) (fun b81 => ?_)
                · skip
                  refine lv_aload_n hx hb dX6_visit_90 rfl (lv_at hl 1 rfl) ?_
                  refine gf S hK hP 0 ml_0 fX6_63 (v := .ref (ad 17)) mr_17 dX6_visit_91 ?_
                  refine lv_iload_n hx hb dX6_visit_94 rfl (lv_at hl 2 rfl) ?_
                  refine lv_iconst (v := 1) hx hb dX6_visit_95 (by decide) ?_
                  refine zst S hK hP hD hS 17 ml_17 (j := j) (x := 1) (by omega) (Nat.le_of_ble_eq_true rfl) rfl ms_17 dX6_visit_96 (fun H locs hP hD hS => ?_)
                  refine lv_aload_n hx hb dX6_visit_97 rfl (lv_at hl 1 rfl) ?_
                  refine gf S hK hP 0 ml_0 fX6_29 (v := .ref (ad 6)) mr_6 dX6_visit_98 ?_
                  refine lv_iload_n hx hb dX6_visit_101 rfl (lv_at hl 2 rfl) ?_
                  refine lv_dup2_11 hx hb dX6_visit_102 rfl rfl ?_
                  refine ild S hK hP 6 ml_6 (j := j) (by omega) (Nat.le_of_ble_eq_true rfl) dX6_visit_103 ?_
                  refine lv_as (y := r 6 j) rfl ?_
                  refine lv_iconst (v := 1) hx hb dX6_visit_104 (by decide) ?_
                  refine lv_iadd hx hb dX6_visit_105 ?_
                  refine ist S hK hP hD hS 6 ml_6 (j := j) (x := (r 6 j) + 1) (by omega) (Nat.le_of_ble_eq_true rfl) ms_6 dX6_visit_106 (fun H locs hP hD hS => ?_)
                  refine lv_iload_n hx hb dX6_visit_107 rfl (lv_at hl 3 rfl) ?_
                  refine lv_bipush (v := 97) hx hb dX6_visit_108 (by decide) ?_
                  refine lv_icmp_ne (tgt := 158) hx hb dX6_visit_110 (by decide) (fun b110 => ?_) (fun b110 => ?_)
                  · skip
                    refine lv_iload_n hx hb dX6_visit_158 rfl (lv_at hl 3 rfl) ?_
                    refine lv_bipush (v := 110) hx hb dX6_visit_159 (by decide) ?_
                    refine lv_icmp_ne (tgt := 217) hx hb dX6_visit_161 (by decide) (fun b161 => ?_) (fun b161 => ?_)
                    · skip
                      refine lv_iload_n hx hb dX6_visit_217 rfl (lv_at hl 3 rfl) ?_
                      refine lv_bipush (v := 114) hx hb dX6_visit_218 (by decide) ?_
                      refine lv_icmp_ne (tgt := 284) hx hb dX6_visit_220 (by decide) (fun b220 => ?_) (fun b220 => ?_)
                      · skip
                        exact absurd b25 b220
                      · skip
                        refine lv_aload_n hx hb dX6_visit_223 rfl (lv_at hl 1 rfl) ?_
                        refine gf S hK hP 0 ml_0 fX6_35 (v := .ref (ad 8)) mr_8 dX6_visit_224 ?_
                        refine lv_iload_n hx hb dX6_visit_227 rfl (lv_at hl 2 rfl) ?_
                        refine lv_dup2_11 hx hb dX6_visit_228 rfl rfl ?_
                        refine ild S hK hP 8 ml_8 (j := j) (by omega) (Nat.le_of_ble_eq_true rfl) dX6_visit_229 ?_
                        refine lv_as (y := r 8 j) rfl ?_
                        refine lv_iconst (v := 1) hx hb dX6_visit_230 (by decide) ?_
                        refine lv_iadd hx hb dX6_visit_231 ?_
                        refine ist S hK hP hD hS 8 ml_8 (j := j) (x := (r 8 j) + 1) (by omega) (Nat.le_of_ble_eq_true rfl) ms_8 dX6_visit_232 (fun H locs hP hD hS => ?_)
                        refine lv_aload_n hx hb dX6_visit_233 rfl (lv_at hl 1 rfl) ?_
                        refine gf S hK hP 0 ml_0 fX6_38 (v := .ref (ad 9)) mr_9 dX6_visit_234 ?_
                        refine lv_iload_n hx hb dX6_visit_237 rfl (lv_at hl 2 rfl) ?_
                        refine lv_dup2_11 hx hb dX6_visit_238 rfl rfl ?_
                        refine ild S hK hP 9 ml_9 (j := j) (by omega) (Nat.le_of_ble_eq_true rfl) dX6_visit_239 ?_
                        refine lv_as (y := r 9 j) rfl ?_
                        refine lv_iconst (v := 1) hx hb dX6_visit_240 (by decide) ?_
                        refine lv_iload hx hb dX6_visit_241 (lv_at hl 0 rfl) ?_
                        refine lv_ishl hx hb dX6_visit_243 ?_
                        refine lv_ior hx hb dX6_visit_244 ?_
                        refine ist S hK hP hD hS 9 ml_9 (j := j) (x := (r 9 j) ||| (1 <<< ((nI i) &&& 31))) (by omega) (Nat.le_of_ble_eq_true rfl) ms_9 dX6_visit_245 (fun H locs hP hD hS => ?_)
                        refine lv_aload_n hx hb dX6_visit_246 rfl (lv_at hl 1 rfl) ?_
                        refine gf S hK hP 0 ml_0 fX6_26 (v := .ref (ad 5)) mr_5 dX6_visit_247 ?_
                        refine lv_iload_n hx hb dX6_visit_250 rfl (lv_at hl 2 rfl) ?_
                        refine lv_aload_n hx hb dX6_visit_251 rfl (lv_at hl 1 rfl) ?_
                        refine gf S hK hP 0 ml_0 fX6_115 (v := .int (r 0 5)) (mv_5 rfl) dX6_visit_252 ?_
                        refine lv_iconst (v := 3) hx hb dX6_visit_255 (by decide) ?_
                        refine lv_iadd hx hb dX6_visit_256 ?_
                        refine ist S hK hP hD hS 5 ml_5 (j := j) (x := (r 0 5) + 3) (by omega) (Nat.le_of_ble_eq_true rfl) ms_5 dX6_visit_257 (fun H locs hP hD hS => ?_)
                        refine lv_aload_n hx hb dX6_visit_258 rfl (lv_at hl 1 rfl) ?_
                        refine gf S hK hP 0 ml_0 fX6_23 (v := .ref (ad 4)) mr_4 dX6_visit_259 ?_
                        refine lv_iload_n hx hb dX6_visit_262 rfl (lv_at hl 2 rfl) ?_
                        refine lv_aload_n hx hb dX6_visit_263 rfl (lv_at hl 1 rfl) ?_
                        refine gf S hK hP 0 ml_0 fX6_35 (v := .ref (ad 8)) mr_8 dX6_visit_264 ?_
                        refine lv_iload_n hx hb dX6_visit_267 rfl (lv_at hl 2 rfl) ?_
                        refine ild S hK hP 8 ml_8 (j := j) (by omega) (Nat.le_of_ble_eq_true rfl) dX6_visit_268 ?_
                        refine lv_as (y := (r 8 j) + 1) (up_at : up (up (up (up r 0 0 0) 17 j 1) 6 j ((r 6 j) + 1)) 8 j ((r 8 j) + 1) 8 j = (r 8 j) + 1) ?_
                        refine lv_iconst (v := 2) hx hb dX6_visit_269 (by decide) ?_
                        refine lv_icmp_ne (tgt := 278) hx hb dX6_visit_270 (by decide) (fun b270 => ?_) (fun b270 => ?_)
                        · skip
                          refine lv_bipush (v := 119) hx hb dX6_visit_278 (by decide) ?_
                          refine ist S hK hP hD hS 4 ml_4 (j := j) (x := 119) (by omega) (Nat.le_of_ble_eq_true rfl) ms_4 dX6_visit_280 (fun H locs hP hD hS => ?_)
                          refine lv_goto (tgt := 292) hx hb dX6_visit_281 (by decide) ?_
                          refine lv_aload_n hx hb dX6_visit_292 rfl (lv_at hl 1 rfl) ?_
                          refine gf S hK hP 0 ml_0 fX6_60 (v := .ref (ad 16)) mr_16 dX6_visit_293 ?_
                          refine lv_iload_n hx hb dX6_visit_296 rfl (lv_at hl 2 rfl) ?_
                          refine lv_aload_n hx hb dX6_visit_297 rfl (lv_at hl 1 rfl) ?_
                          refine gf S hK hP 0 ml_0 fX6_23 (v := .ref (ad 4)) mr_4 dX6_visit_298 ?_
                          refine lv_iload_n hx hb dX6_visit_301 rfl (lv_at hl 2 rfl) ?_
                          refine ild S hK hP 4 ml_4 (j := j) (by omega) (Nat.le_of_ble_eq_true rfl) dX6_visit_302 ?_
                          refine lv_as (y := 119) up_at ?_
                          refine lv_bipush (v := 97) hx hb dX6_visit_303 (by decide) ?_
                          refine lv_icmp_eq (tgt := 323) hx hb dX6_visit_305 (by decide) (fun b305 => ?_) (fun b305 => ?_)
                          · skip
                            exact False.elim (by revert b305; decide)
                          · skip
                            refine lv_aload_n hx hb dX6_visit_308 rfl (lv_at hl 1 rfl) ?_
                            refine gf S hK hP 0 ml_0 fX6_23 (v := .ref (ad 4)) mr_4 dX6_visit_309 ?_
                            refine lv_iload_n hx hb dX6_visit_312 rfl (lv_at hl 2 rfl) ?_
                            refine ild S hK hP 4 ml_4 (j := j) (by omega) (Nat.le_of_ble_eq_true rfl) dX6_visit_313 ?_
                            refine lv_as (y := 119) up_at ?_
                            refine lv_bipush (v := 119) hx hb dX6_visit_314 (by decide) ?_
                            refine lv_icmp_eq (tgt := 323) hx hb dX6_visit_316 (by decide) (fun b316 => ?_) (fun b316 => ?_)
                            · skip
                              refine lv_iconst (v := 0) hx hb dX6_visit_323 (by decide) ?_
                              refine zst S hK hP hD hS 16 ml_16 (j := j) (x := 0) (by omega) (Nat.le_of_ble_eq_true rfl) rfl ms_16 dX6_visit_324 (fun H locs hP hD hS => ?_)
                              refine lv_iload hx hb dX6_visit_325 (lv_at hl 0 rfl) ?_
                              exact eMi S hr hlk hP hD hS dX6_visit_327 rfl rfl
                            · skip
                              exact False.elim (by revert b316; decide)
                        · skip
                          exact absurd b270 h3
                    · skip
                      exact absurd b161 b19
                  · skip
                    exact absurd b110 b13
                · skip
                  exact absurd b81 hf
          · skip
            exact absurd b41 b5
        · skip
          exact False.elim (by revert b25; decide)
  · skip
    exact False.elim (by revert b5; decide)

set_option maxHeartbeats 4000000 in
set_option maxRecDepth 100000 in
theorem rr_visit_e (l : Launch) (dg : va_G) (cA : Nat → ClassId) (ad : Nat → Nat) (r : St) (n : Nat) (hn : r 0 3 = nI n) (hn24 : n ≤ 24) (j : Nat) (hj : j < n) (a : Int32) (h1 : ¬ a < 0) (h2 : ¬ 9 < a) (i : Nat) (hi4 : i < 4) (hr0 : r 18 j = nI i) (ht : r 17 j = 0) (hf : ¬ r 25 i = 2) (sz : Nat) : MetM l dg cA yX6_visit cX6_visit 5 (some .int) ({ frames := 2, cells := 0, slots := 0, locals := 43 } : Room) 0 0 (mw cA ad r) sz [.ref (ad 0), .int (nI j), .int 101, .int a] (mw cA ad (up (up (up (up (up r 0 0 0) 17 j 1) 6 j (r 6 j + 1)) 4 j 101) 16 j 1)) (some (.int (nI i))) := by
  refine ofM (by decide) (Nat.le_of_ble_eq_true rfl) (own := RX6) rfl (fun p e s0 m args below meth c ls A hAe S hr hlk hname hargs hK hP hD hS hA hsz hl => ?_)
  have hx := S.1
  have hb := S.2.1
  have hl : lv_has ls 5 [(0, .ref (ad 0)), (1, .int (nI j)), (2, .int 101), (3, .int a)] := hl
  refine lv_aload_n hx hb dX6_visit_0 rfl (lv_at hl 0 rfl) ?_
  refine lv_iload_n hx hb dX6_visit_1 rfl (lv_at hl 1 rfl) ?_
  refine cM S (rr_isHouse1 l dg cA ad r n hn hn24 j hj _) kX6_133 ⟨rfl, rfl, Nat.le_of_ble_eq_true rfl, Nat.le_of_ble_eq_true rfl⟩ hK hP hD hS hA 0 ml_0 (q := (RX6, TX6, 31)) rfl rfl (As := [.int (nI j)]) rfl hl.1 (rest := []) rfl (Nat.le_of_ble_eq_true rfl) dX6_visit_2 ⟨Nat.le_of_ble_eq_true rfl, Nat.le_of_ble_eq_true rfl⟩ (st1 := [.int 1]) rfl (fun H locs hP hD hS => ?_)
  refine lv_if_ne (tgt := 10) hx hb dX6_visit_5 (by decide) (fun b5 => ?_) (fun b5 => ?_)
  · skip
    refine lv_iload_n hx hb dX6_visit_10 rfl (lv_at hl 2 rfl) ?_
    refine lv_bipush (v := 97) hx hb dX6_visit_11 (by decide) ?_
    refine lv_icmp_eq (tgt := 34) hx hb dX6_visit_13 (by decide) (fun b13 => ?_) (fun b13 => ?_)
    · skip
      exact False.elim (by revert b13; decide)
    · skip
      refine lv_iload_n hx hb dX6_visit_16 rfl (lv_at hl 2 rfl) ?_
      refine lv_bipush (v := 110) hx hb dX6_visit_17 (by decide) ?_
      refine lv_icmp_eq (tgt := 34) hx hb dX6_visit_19 (by decide) (fun b19 => ?_) (fun b19 => ?_)
      · skip
        exact False.elim (by revert b19; decide)
      · skip
        refine lv_iload_n hx hb dX6_visit_22 rfl (lv_at hl 2 rfl) ?_
        refine lv_bipush (v := 114) hx hb dX6_visit_23 (by decide) ?_
        refine lv_icmp_eq (tgt := 34) hx hb dX6_visit_25 (by decide) (fun b25 => ?_) (fun b25 => ?_)
        · skip
          exact False.elim (by revert b25; decide)
        · skip
          refine lv_iload_n hx hb dX6_visit_28 rfl (lv_at hl 2 rfl) ?_
          refine lv_bipush (v := 101) hx hb dX6_visit_29 (by decide) ?_
          refine lv_icmp_ne (tgt := 44) hx hb dX6_visit_31 (by decide) (fun b31 => ?_) (fun b31 => ?_)
          · skip
            exact False.elim (by revert b31; decide)
          · skip
            refine lv_iload_n hx hb dX6_visit_34 rfl (lv_at hl 3 rfl) ?_
            refine lv_iconst (v := 0) hx hb dX6_visit_35 (by decide) ?_
            refine lv_bipush (v := 9) hx hb dX6_visit_36 (by decide) ?_
            refine cRS S (rr_in1 l dg cA (mw cA ad (up r 0 0 0)) a 0 9 h1 h2) kX6_96 ⟨rfl, rfl, Nat.le_of_ble_eq_true rfl, Nat.le_of_ble_eq_true rfl⟩ hK hP (As := [.int a, .int 0, .int 9]) rfl hl.1 (rest := []) rfl (Nat.le_of_ble_eq_true rfl) dX6_visit_38 ⟨Nat.le_of_ble_eq_true rfl, Nat.le_of_ble_eq_true rfl⟩ (st1 := [.int 1]) rfl ?_
            refine lv_if_ne (tgt := 50) hx hb dX6_visit_41 (by decide) (fun b41 => ?_) (fun b41 => ?_)
            · skip
              refine lv_aload_n hx hb dX6_visit_50 rfl (lv_at hl 0 rfl) ?_
              refine gf S hK hP 0 ml_0 fX6_66 (v := .ref (ad 18)) mr_18 dX6_visit_51 ?_
              refine lv_iload_n hx hb dX6_visit_54 rfl (lv_at hl 1 rfl) ?_
              refine ild S hK hP 18 ml_18 (j := j) (by omega) (Nat.le_of_ble_eq_true rfl) dX6_visit_55 ?_
              refine lv_as (y := nI i) hr0 ?_
              refine lv_istore (lv' := [(4, .int (nI i)), (0, .ref (ad 0)), (1, .int (nI j)), (2, .int 101), (3, .int a)]) hx hb dX6_visit_56 hl (by decide) rfl (fun ls hl => ?_)
              refine lv_iload hx hb dX6_visit_58 (lv_at hl 0 rfl) ?_
              refine lv_iconst (v := (-1)) hx hb dX6_visit_60 (by decide) ?_
              refine lv_icmp_eq (tgt := 84) hx hb dX6_visit_61 (by decide) (fun b61 => ?_) (fun b61 => ?_)
              · skip
                exact absurd b61 (nI_m1 (by omega))
              · skip
                refine lv_aload_n hx hb dX6_visit_64 rfl (lv_at hl 1 rfl) ?_
                refine gf S hK hP 0 ml_0 fX6_63 (v := .ref (ad 17)) mr_17 dX6_visit_65 ?_
                refine lv_iload_n hx hb dX6_visit_68 rfl (lv_at hl 2 rfl) ?_
                refine zld S hK hP 17 ml_17 (j := j) (by omega) (Nat.le_of_ble_eq_true rfl) dX6_visit_69 ?_
                refine lv_as (y := 0) ht ?_
                refine lv_if_ne (tgt := 84) hx hb dX6_visit_70 (by decide) (fun b70 => ?_) (fun b70 => ?_)
                · skip
                  exact False.elim (by revert b70; decide)
                · skip
                  refine lv_aload_n hx hb dX6_visit_73 rfl (lv_at hl 1 rfl) ?_
                  refine gf S hK hP 0 ml_0 fX6_87 (v := .ref (ad 25)) mr_25 dX6_visit_74 ?_
                  refine lv_iload hx hb dX6_visit_77 (lv_at hl 0 rfl) ?_
                  refine ild S hK hP 25 ml_25 (j := i) (by omega) (Nat.le_of_ble_eq_true rfl) dX6_visit_79 ?_
                  refine lv_as (y := r 25 i) rfl ?_
                  refine lv_iconst (v := 2) hx hb dX6_visit_80 (by decide) ?_
                  refine lv_icmp_ne (tgt := 90) hx hb dX6_visit_81 (by decide) (fun b81 => ?_) (fun b81 => ?_)
                  · skip
                    refine lv_aload_n hx hb dX6_visit_90 rfl (lv_at hl 1 rfl) ?_
                    refine gf S hK hP 0 ml_0 fX6_63 (v := .ref (ad 17)) mr_17 dX6_visit_91 ?_
                    refine lv_iload_n hx hb dX6_visit_94 rfl (lv_at hl 2 rfl) ?_
                    refine lv_iconst (v := 1) hx hb dX6_visit_95 (by decide) ?_
                    refine zst S hK hP hD hS 17 ml_17 (j := j) (x := 1) (by omega) (Nat.le_of_ble_eq_true rfl) rfl ms_17 dX6_visit_96 (fun H locs hP hD hS => ?_)
                    refine lv_aload_n hx hb dX6_visit_97 rfl (lv_at hl 1 rfl) ?_
                    refine gf S hK hP 0 ml_0 fX6_29 (v := .ref (ad 6)) mr_6 dX6_visit_98 ?_
                    refine lv_iload_n hx hb dX6_visit_101 rfl (lv_at hl 2 rfl) ?_
                    refine lv_dup2_11 hx hb dX6_visit_102 rfl rfl ?_
                    refine ild S hK hP 6 ml_6 (j := j) (by omega) (Nat.le_of_ble_eq_true rfl) dX6_visit_103 ?_
                    refine lv_as (y := r 6 j) rfl ?_
                    refine lv_iconst (v := 1) hx hb dX6_visit_104 (by decide) ?_
                    refine lv_iadd hx hb dX6_visit_105 ?_
                    refine ist S hK hP hD hS 6 ml_6 (j := j) (x := (r 6 j) + 1) (by omega) (Nat.le_of_ble_eq_true rfl) ms_6 dX6_visit_106 (fun H locs hP hD hS => ?_)
                    refine lv_iload_n hx hb dX6_visit_107 rfl (lv_at hl 3 rfl) ?_
                    refine lv_bipush (v := 97) hx hb dX6_visit_108 (by decide) ?_
                    refine lv_icmp_ne (tgt := 158) hx hb dX6_visit_110 (by decide) (fun b110 => ?_) (fun b110 => ?_)
                    · skip
                      refine lv_iload_n hx hb dX6_visit_158 rfl (lv_at hl 3 rfl) ?_
                      refine lv_bipush (v := 110) hx hb dX6_visit_159 (by decide) ?_
                      refine lv_icmp_ne (tgt := 217) hx hb dX6_visit_161 (by decide) (fun b161 => ?_) (fun b161 => ?_)
                      · skip
                        refine lv_iload_n hx hb dX6_visit_217 rfl (lv_at hl 3 rfl) ?_
                        refine lv_bipush (v := 114) hx hb dX6_visit_218 (by decide) ?_
                        refine lv_icmp_ne (tgt := 284) hx hb dX6_visit_220 (by decide) (fun b220 => ?_) (fun b220 => ?_)
                        · skip
                          refine lv_aload_n hx hb dX6_visit_284 rfl (lv_at hl 1 rfl) ?_
                          refine gf S hK hP 0 ml_0 fX6_23 (v := .ref (ad 4)) mr_4 dX6_visit_285 ?_
                          refine lv_iload_n hx hb dX6_visit_288 rfl (lv_at hl 2 rfl) ?_
                          refine lv_bipush (v := 101) hx hb dX6_visit_289 (by decide) ?_
                          refine ist S hK hP hD hS 4 ml_4 (j := j) (x := 101) (by omega) (Nat.le_of_ble_eq_true rfl) ms_4 dX6_visit_291 (fun H locs hP hD hS => ?_)
                          refine lv_aload_n hx hb dX6_visit_292 rfl (lv_at hl 1 rfl) ?_
                          refine gf S hK hP 0 ml_0 fX6_60 (v := .ref (ad 16)) mr_16 dX6_visit_293 ?_
                          refine lv_iload_n hx hb dX6_visit_296 rfl (lv_at hl 2 rfl) ?_
                          refine lv_aload_n hx hb dX6_visit_297 rfl (lv_at hl 1 rfl) ?_
                          refine gf S hK hP 0 ml_0 fX6_23 (v := .ref (ad 4)) mr_4 dX6_visit_298 ?_
                          refine lv_iload_n hx hb dX6_visit_301 rfl (lv_at hl 2 rfl) ?_
                          refine ild S hK hP 4 ml_4 (j := j) (by omega) (Nat.le_of_ble_eq_true rfl) dX6_visit_302 ?_
                          refine lv_as (y := 101) up_at ?_
                          refine lv_bipush (v := 97) hx hb dX6_visit_303 (by decide) ?_
                          refine lv_icmp_eq (tgt := 323) hx hb dX6_visit_305 (by decide) (fun b305 => ?_) (fun b305 => ?_)
                          · skip
                            exact absurd b305 b110
                          · skip
                            refine lv_aload_n hx hb dX6_visit_308 rfl (lv_at hl 1 rfl) ?_
                            refine gf S hK hP 0 ml_0 fX6_23 (v := .ref (ad 4)) mr_4 dX6_visit_309 ?_
                            refine lv_iload_n hx hb dX6_visit_312 rfl (lv_at hl 2 rfl) ?_
                            refine ild S hK hP 4 ml_4 (j := j) (by omega) (Nat.le_of_ble_eq_true rfl) dX6_visit_313 ?_
                            refine lv_as (y := 101) up_at ?_
                            refine lv_bipush (v := 119) hx hb dX6_visit_314 (by decide) ?_
                            refine lv_icmp_eq (tgt := 323) hx hb dX6_visit_316 (by decide) (fun b316 => ?_) (fun b316 => ?_)
                            · skip
                              exact False.elim (by revert b316; decide)
                            · skip
                              refine lv_iconst (v := 1) hx hb dX6_visit_319 (by decide) ?_
                              refine lv_goto (tgt := 324) hx hb dX6_visit_320 (by decide) ?_
                              refine zst S hK hP hD hS 16 ml_16 (j := j) (x := 1) (by omega) (Nat.le_of_ble_eq_true rfl) rfl ms_16 dX6_visit_324 (fun H locs hP hD hS => ?_)
                              refine lv_iload hx hb dX6_visit_325 (lv_at hl 0 rfl) ?_
                              exact eMi S hr hlk hP hD hS dX6_visit_327 rfl rfl
                        · skip
                          exact absurd b220 b25
                      · skip
                        exact absurd b161 b19
                    · skip
                      exact absurd b110 b13
                  · skip
                    exact absurd b81 hf
            · skip
              exact absurd b41 b5
  · skip
    exact False.elim (by revert b5; decide)

set_option maxHeartbeats 4000000 in
set_option maxRecDepth 100000 in
theorem rr_check0 (l : Launch) (dg : va_G) (cA : Nat → ClassId) (ad : Nat → Nat) (r : St) (n : Nat) (hn : r 0 3 = nI n) (hn24 : n ≤ 24) (v : Int32) (hv : v < 0 ∨ nI n ≤ v) (a : Int32) (sz : Nat) : MetM l dg cA yX6_check cX6_check 5 (some .boolean) ({ frames := 2, cells := 0, slots := 0, locals := 43 } : Room) 0 0 (mw cA ad r) sz [.ref (ad 0), .int v, .int a] (mw cA ad (up r 0 0 1)) (some (.int 0)) := by
  refine ofM (by decide) (Nat.le_of_ble_eq_true rfl) (own := RX6) rfl (fun p e s0 m args below meth c ls A hAe S hr hlk hname hargs hK hP hD hS hA hsz hl => ?_)
  have hx := S.1
  have hb := S.2.1
  have hl : lv_has ls 5 [(0, .ref (ad 0)), (1, .int v), (2, .int a)] := hl
  refine lv_aload_n hx hb dX6_check_0 rfl (lv_at hl 0 rfl) ?_
  refine lv_iload_n hx hb dX6_check_1 rfl (lv_at hl 1 rfl) ?_
  refine cM S (rr_isHouse0 l dg cA ad r n hn hn24 v hv _) kX6_133 ⟨rfl, rfl, Nat.le_of_ble_eq_true rfl, Nat.le_of_ble_eq_true rfl⟩ hK hP hD hS hA 0 ml_0 (q := (RX6, TX6, 31)) rfl rfl (As := [.int v]) rfl hl.1 (rest := []) rfl (Nat.le_of_ble_eq_true rfl) dX6_check_2 ⟨Nat.le_of_ble_eq_true rfl, Nat.le_of_ble_eq_true rfl⟩ (st1 := [.int 0]) rfl (fun H locs hP hD hS => ?_)
  refine lv_if_ne (tgt := 10) hx hb dX6_check_5 (by decide) (fun b5 => ?_) (fun b5 => ?_)
  · skip
    exact False.elim (by revert b5; decide)
  · skip
    refine lv_iconst (v := 0) hx hb dX6_check_8 (by decide) ?_
    exact eMz S hr hlk hP hD hS dX6_check_9 rfl rfl rfl

set_option maxHeartbeats 4000000 in
set_option maxRecDepth 100000 in
theorem rr_check2 (l : Launch) (dg : va_G) (cA : Nat → ClassId) (ad : Nat → Nat) (r : St) (n : Nat) (hn : r 0 3 = nI n) (hn24 : n ≤ 24) (j : Nat) (hj : j < n) (a : Int32) (ha : ¬ (¬ a < 0 ∧ ¬ 9 < a)) (sz : Nat) : MetM l dg cA yX6_check cX6_check 5 (some .boolean) ({ frames := 2, cells := 0, slots := 0, locals := 43 } : Room) 0 0 (mw cA ad r) sz [.ref (ad 0), .int (nI j), .int a] (mw cA ad (up r 0 0 2)) (some (.int 0)) := by
  refine ofM (by decide) (Nat.le_of_ble_eq_true rfl) (own := RX6) rfl (fun p e s0 m args below meth c ls A hAe S hr hlk hname hargs hK hP hD hS hA hsz hl => ?_)
  have hx := S.1
  have hb := S.2.1
  have hl : lv_has ls 5 [(0, .ref (ad 0)), (1, .int (nI j)), (2, .int a)] := hl
  refine lv_aload_n hx hb dX6_check_0 rfl (lv_at hl 0 rfl) ?_
  refine lv_iload_n hx hb dX6_check_1 rfl (lv_at hl 1 rfl) ?_
  refine cM S (rr_isHouse1 l dg cA ad r n hn hn24 j hj _) kX6_133 ⟨rfl, rfl, Nat.le_of_ble_eq_true rfl, Nat.le_of_ble_eq_true rfl⟩ hK hP hD hS hA 0 ml_0 (q := (RX6, TX6, 31)) rfl rfl (As := [.int (nI j)]) rfl hl.1 (rest := []) rfl (Nat.le_of_ble_eq_true rfl) dX6_check_2 ⟨Nat.le_of_ble_eq_true rfl, Nat.le_of_ble_eq_true rfl⟩ (st1 := [.int 1]) rfl (fun H locs hP hD hS => ?_)
  refine lv_if_ne (tgt := 10) hx hb dX6_check_5 (by decide) (fun b5 => ?_) (fun b5 => ?_)
  · skip
    refine lv_aload_n hx hb dX6_check_10 rfl (lv_at hl 0 rfl) ?_
    refine lv_iload_n hx hb dX6_check_11 rfl (lv_at hl 2 rfl) ?_
    refine lv_iconst (v := 0) hx hb dX6_check_12 (by decide) ?_
    refine lv_bipush (v := 9) hx hb dX6_check_13 (by decide) ?_
    refine cRS S (rr_in0 l dg cA (mw cA ad (up r 0 0 0)) a 0 9 ha) kX6_96 ⟨rfl, rfl, Nat.le_of_ble_eq_true rfl, Nat.le_of_ble_eq_true rfl⟩ hK hP (As := [.int a, .int 0, .int 9]) rfl hl.1 (rest := [.ref (ad 0)]) rfl (Nat.le_of_ble_eq_true rfl) dX6_check_15 ⟨Nat.le_of_ble_eq_true rfl, Nat.le_of_ble_eq_true rfl⟩ (st1 := [.int 0, .ref (ad 0)]) rfl ?_
    refine lv_if_ne (tgt := 25) hx hb dX6_check_18 (by decide) (fun b18 => ?_) (fun b18 => ?_)
    · skip
      exact False.elim (by revert b18; decide)
    · skip
      refine lv_iconst (v := 2) hx hb dX6_check_21 (by decide) ?_
      refine lv_goto (tgt := 50) hx hb dX6_check_22 (by decide) ?_
      refine pf S hK hP hD hS 0 ml_0 fX6_90 fpX6 rfl (v := .int 2) rfl rfl (Nat.le_of_ble_eq_true rfl) ms_0_0 dX6_check_50 (fun H locs hP hD hS => ?_)
      refine lv_aload_n hx hb dX6_check_53 rfl (lv_at hl 0 rfl) ?_
      refine gf S hK hP 0 ml_0 fX6_90 (v := .int 2) (mv_0 up_at) dX6_check_54 ?_
      refine lv_if_le (tgt := 62) hx hb dX6_check_57 (by decide) (fun b57 => ?_) (fun b57 => ?_)
      · skip
        exact False.elim (by revert b57; decide)
      · skip
        refine lv_iconst (v := 0) hx hb dX6_check_60 (by decide) ?_
        exact eMz S hr hlk hP hD hS dX6_check_61 rfl up_twice_mw rfl
  · skip
    exact False.elim (by revert b5; decide)

set_option maxHeartbeats 4000000 in
set_option maxRecDepth 100000 in
theorem rr_check3a (l : Launch) (dg : va_G) (cA : Nat → ClassId) (ad : Nat → Nat) (r : St) (n : Nat) (hn : r 0 3 = nI n) (hn24 : n ≤ 24) (j : Nat) (hj : j < n) (a : Int32) (h1 : ¬ a < 0) (h2 : ¬ 9 < a) (hs : ¬ r 4 j = 97) (sz : Nat) : MetM l dg cA yX6_check cX6_check 5 (some .boolean) ({ frames := 2, cells := 0, slots := 0, locals := 43 } : Room) 0 0 (mw cA ad r) sz [.ref (ad 0), .int (nI j), .int a] (mw cA ad (up r 0 0 3)) (some (.int 0)) := by
  refine ofM (by decide) (Nat.le_of_ble_eq_true rfl) (own := RX6) rfl (fun p e s0 m args below meth c ls A hAe S hr hlk hname hargs hK hP hD hS hA hsz hl => ?_)
  have hx := S.1
  have hb := S.2.1
  have hl : lv_has ls 5 [(0, .ref (ad 0)), (1, .int (nI j)), (2, .int a)] := hl
  refine lv_aload_n hx hb dX6_check_0 rfl (lv_at hl 0 rfl) ?_
  refine lv_iload_n hx hb dX6_check_1 rfl (lv_at hl 1 rfl) ?_
  refine cM S (rr_isHouse1 l dg cA ad r n hn hn24 j hj _) kX6_133 ⟨rfl, rfl, Nat.le_of_ble_eq_true rfl, Nat.le_of_ble_eq_true rfl⟩ hK hP hD hS hA 0 ml_0 (q := (RX6, TX6, 31)) rfl rfl (As := [.int (nI j)]) rfl hl.1 (rest := []) rfl (Nat.le_of_ble_eq_true rfl) dX6_check_2 ⟨Nat.le_of_ble_eq_true rfl, Nat.le_of_ble_eq_true rfl⟩ (st1 := [.int 1]) rfl (fun H locs hP hD hS => ?_)
  refine lv_if_ne (tgt := 10) hx hb dX6_check_5 (by decide) (fun b5 => ?_) (fun b5 => ?_)
  · skip
    refine lv_aload_n hx hb dX6_check_10 rfl (lv_at hl 0 rfl) ?_
    refine lv_iload_n hx hb dX6_check_11 rfl (lv_at hl 2 rfl) ?_
    refine lv_iconst (v := 0) hx hb dX6_check_12 (by decide) ?_
    refine lv_bipush (v := 9) hx hb dX6_check_13 (by decide) ?_
    refine cRS S (rr_in1 l dg cA (mw cA ad (up r 0 0 0)) a 0 9 h1 h2) kX6_96 ⟨rfl, rfl, Nat.le_of_ble_eq_true rfl, Nat.le_of_ble_eq_true rfl⟩ hK hP (As := [.int a, .int 0, .int 9]) rfl hl.1 (rest := [.ref (ad 0)]) rfl (Nat.le_of_ble_eq_true rfl) dX6_check_15 ⟨Nat.le_of_ble_eq_true rfl, Nat.le_of_ble_eq_true rfl⟩ (st1 := [.int 1, .ref (ad 0)]) rfl ?_
    refine lv_if_ne (tgt := 25) hx hb dX6_check_18 (by decide) (fun b18 => ?_) (fun b18 => ?_)
    · skip
      refine lv_aload_n hx hb dX6_check_25 rfl (lv_at hl 0 rfl) ?_
      refine gf S hK hP 0 ml_0 fX6_23 (v := .ref (ad 4)) mr_4 dX6_check_26 ?_
      refine lv_iload_n hx hb dX6_check_29 rfl (lv_at hl 1 rfl) ?_
      refine ild S hK hP 4 ml_4 (j := j) (by omega) (Nat.le_of_ble_eq_true rfl) dX6_check_30 ?_
      refine lv_as (y := r 4 j) rfl ?_
      refine lv_bipush (v := 97) hx hb dX6_check_31 (by decide) ?_
      refine lv_icmp_ne (tgt := 45) hx hb dX6_check_33 (by decide) (fun b33 => ?_) (fun b33 => ?_)
      · skip
        refine lv_iconst (v := 3) hx hb dX6_check_45 (by decide) ?_
        refine lv_goto (tgt := 50) hx hb dX6_check_46 (by decide) ?_
        refine pf S hK hP hD hS 0 ml_0 fX6_90 fpX6 rfl (v := .int 3) rfl rfl (Nat.le_of_ble_eq_true rfl) ms_0_0 dX6_check_50 (fun H locs hP hD hS => ?_)
        refine lv_aload_n hx hb dX6_check_53 rfl (lv_at hl 0 rfl) ?_
        refine gf S hK hP 0 ml_0 fX6_90 (v := .int 3) (mv_0 up_at) dX6_check_54 ?_
        refine lv_if_le (tgt := 62) hx hb dX6_check_57 (by decide) (fun b57 => ?_) (fun b57 => ?_)
        · skip
          exact False.elim (by revert b57; decide)
        · skip
          refine lv_iconst (v := 0) hx hb dX6_check_60 (by decide) ?_
          exact eMz S hr hlk hP hD hS dX6_check_61 rfl up_twice_mw rfl
      · skip
        exact absurd b33 hs
    · skip
      exact absurd b18 b5
  · skip
    exact False.elim (by revert b5; decide)

set_option maxHeartbeats 4000000 in
set_option maxRecDepth 100000 in
theorem rr_check3b (l : Launch) (dg : va_G) (cA : Nat → ClassId) (ad : Nat → Nat) (r : St) (n : Nat) (hn : r 0 3 = nI n) (hn24 : n ≤ 24) (j : Nat) (hj : j < n) (a : Int32) (h1 : ¬ a < 0) (h2 : ¬ 9 < a) (hs : r 4 j = 97) (hk : ¬ r 15 j = 0) (sz : Nat) : MetM l dg cA yX6_check cX6_check 5 (some .boolean) ({ frames := 2, cells := 0, slots := 0, locals := 43 } : Room) 0 0 (mw cA ad r) sz [.ref (ad 0), .int (nI j), .int a] (mw cA ad (up r 0 0 3)) (some (.int 0)) := by
  refine ofM (by decide) (Nat.le_of_ble_eq_true rfl) (own := RX6) rfl (fun p e s0 m args below meth c ls A hAe S hr hlk hname hargs hK hP hD hS hA hsz hl => ?_)
  have hx := S.1
  have hb := S.2.1
  have hl : lv_has ls 5 [(0, .ref (ad 0)), (1, .int (nI j)), (2, .int a)] := hl
  refine lv_aload_n hx hb dX6_check_0 rfl (lv_at hl 0 rfl) ?_
  refine lv_iload_n hx hb dX6_check_1 rfl (lv_at hl 1 rfl) ?_
  refine cM S (rr_isHouse1 l dg cA ad r n hn hn24 j hj _) kX6_133 ⟨rfl, rfl, Nat.le_of_ble_eq_true rfl, Nat.le_of_ble_eq_true rfl⟩ hK hP hD hS hA 0 ml_0 (q := (RX6, TX6, 31)) rfl rfl (As := [.int (nI j)]) rfl hl.1 (rest := []) rfl (Nat.le_of_ble_eq_true rfl) dX6_check_2 ⟨Nat.le_of_ble_eq_true rfl, Nat.le_of_ble_eq_true rfl⟩ (st1 := [.int 1]) rfl (fun H locs hP hD hS => ?_)
  refine lv_if_ne (tgt := 10) hx hb dX6_check_5 (by decide) (fun b5 => ?_) (fun b5 => ?_)
  · skip
    refine lv_aload_n hx hb dX6_check_10 rfl (lv_at hl 0 rfl) ?_
    refine lv_iload_n hx hb dX6_check_11 rfl (lv_at hl 2 rfl) ?_
    refine lv_iconst (v := 0) hx hb dX6_check_12 (by decide) ?_
    refine lv_bipush (v := 9) hx hb dX6_check_13 (by decide) ?_
    refine cRS S (rr_in1 l dg cA (mw cA ad (up r 0 0 0)) a 0 9 h1 h2) kX6_96 ⟨rfl, rfl, Nat.le_of_ble_eq_true rfl, Nat.le_of_ble_eq_true rfl⟩ hK hP (As := [.int a, .int 0, .int 9]) rfl hl.1 (rest := [.ref (ad 0)]) rfl (Nat.le_of_ble_eq_true rfl) dX6_check_15 ⟨Nat.le_of_ble_eq_true rfl, Nat.le_of_ble_eq_true rfl⟩ (st1 := [.int 1, .ref (ad 0)]) rfl ?_
    refine lv_if_ne (tgt := 25) hx hb dX6_check_18 (by decide) (fun b18 => ?_) (fun b18 => ?_)
    · skip
      refine lv_aload_n hx hb dX6_check_25 rfl (lv_at hl 0 rfl) ?_
      refine gf S hK hP 0 ml_0 fX6_23 (v := .ref (ad 4)) mr_4 dX6_check_26 ?_
      refine lv_iload_n hx hb dX6_check_29 rfl (lv_at hl 1 rfl) ?_
      refine ild S hK hP 4 ml_4 (j := j) (by omega) (Nat.le_of_ble_eq_true rfl) dX6_check_30 ?_
      refine lv_as (y := 97) hs ?_
      refine lv_bipush (v := 97) hx hb dX6_check_31 (by decide) ?_
      refine lv_icmp_ne (tgt := 45) hx hb dX6_check_33 (by decide) (fun b33 => ?_) (fun b33 => ?_)
      · skip
        exact False.elim (by revert b33; decide)
      · skip
        refine lv_aload_n hx hb dX6_check_36 rfl (lv_at hl 0 rfl) ?_
        refine gf S hK hP 0 ml_0 fX6_57 (v := .ref (ad 15)) mr_15 dX6_check_37 ?_
        refine lv_iload_n hx hb dX6_check_40 rfl (lv_at hl 1 rfl) ?_
        refine zld S hK hP 15 ml_15 (j := j) (by omega) (Nat.le_of_ble_eq_true rfl) dX6_check_41 ?_
        refine lv_as (y := r 15 j) rfl ?_
        refine lv_if_eq (tgt := 49) hx hb dX6_check_42 (by decide) (fun b42 => ?_) (fun b42 => ?_)
        · skip
          exact absurd b42 hk
        · skip
          refine lv_iconst (v := 3) hx hb dX6_check_45 (by decide) ?_
          refine lv_goto (tgt := 50) hx hb dX6_check_46 (by decide) ?_
          refine pf S hK hP hD hS 0 ml_0 fX6_90 fpX6 rfl (v := .int 3) rfl rfl (Nat.le_of_ble_eq_true rfl) ms_0_0 dX6_check_50 (fun H locs hP hD hS => ?_)
          refine lv_aload_n hx hb dX6_check_53 rfl (lv_at hl 0 rfl) ?_
          refine gf S hK hP 0 ml_0 fX6_90 (v := .int 3) (mv_0 up_at) dX6_check_54 ?_
          refine lv_if_le (tgt := 62) hx hb dX6_check_57 (by decide) (fun b57 => ?_) (fun b57 => ?_)
          · skip
            exact False.elim (by revert b57; decide)
          · skip
            refine lv_iconst (v := 0) hx hb dX6_check_60 (by decide) ?_
            exact eMz S hr hlk hP hD hS dX6_check_61 rfl up_twice_mw rfl
    · skip
      exact absurd b18 b5
  · skip
    exact False.elim (by revert b5; decide)

set_option maxHeartbeats 4000000 in
set_option maxRecDepth 100000 in
theorem rr_check_s (l : Launch) (dg : va_G) (cA : Nat → ClassId) (ad : Nat → Nat) (r : St) (n : Nat) (hn : r 0 3 = nI n) (hn24 : n ≤ 24) (j : Nat) (hj : j < n) (a : Int32) (h1 : ¬ a < 0) (h2 : ¬ 9 < a) (hs : r 4 j = 97) (hk : r 15 j = 0) (hd : r 10 j = a) (sz : Nat) : MetM l dg cA yX6_check cX6_check 5 (some .boolean) ({ frames := 2, cells := 0, slots := 0, locals := 43 } : Room) 0 0 (mw cA ad r) sz [.ref (ad 0), .int (nI j), .int a] (mw cA ad (up (up r 0 0 0) 15 j 1)) (some (.int 1)) := by
  refine ofM (by decide) (Nat.le_of_ble_eq_true rfl) (own := RX6) rfl (fun p e s0 m args below meth c ls A hAe S hr hlk hname hargs hK hP hD hS hA hsz hl => ?_)
  have hx := S.1
  have hb := S.2.1
  have hl : lv_has ls 5 [(0, .ref (ad 0)), (1, .int (nI j)), (2, .int a)] := hl
  refine lv_aload_n hx hb dX6_check_0 rfl (lv_at hl 0 rfl) ?_
  refine lv_iload_n hx hb dX6_check_1 rfl (lv_at hl 1 rfl) ?_
  refine cM S (rr_isHouse1 l dg cA ad r n hn hn24 j hj _) kX6_133 ⟨rfl, rfl, Nat.le_of_ble_eq_true rfl, Nat.le_of_ble_eq_true rfl⟩ hK hP hD hS hA 0 ml_0 (q := (RX6, TX6, 31)) rfl rfl (As := [.int (nI j)]) rfl hl.1 (rest := []) rfl (Nat.le_of_ble_eq_true rfl) dX6_check_2 ⟨Nat.le_of_ble_eq_true rfl, Nat.le_of_ble_eq_true rfl⟩ (st1 := [.int 1]) rfl (fun H locs hP hD hS => ?_)
  refine lv_if_ne (tgt := 10) hx hb dX6_check_5 (by decide) (fun b5 => ?_) (fun b5 => ?_)
  · skip
    refine lv_aload_n hx hb dX6_check_10 rfl (lv_at hl 0 rfl) ?_
    refine lv_iload_n hx hb dX6_check_11 rfl (lv_at hl 2 rfl) ?_
    refine lv_iconst (v := 0) hx hb dX6_check_12 (by decide) ?_
    refine lv_bipush (v := 9) hx hb dX6_check_13 (by decide) ?_
    refine cRS S (rr_in1 l dg cA (mw cA ad (up r 0 0 0)) a 0 9 h1 h2) kX6_96 ⟨rfl, rfl, Nat.le_of_ble_eq_true rfl, Nat.le_of_ble_eq_true rfl⟩ hK hP (As := [.int a, .int 0, .int 9]) rfl hl.1 (rest := [.ref (ad 0)]) rfl (Nat.le_of_ble_eq_true rfl) dX6_check_15 ⟨Nat.le_of_ble_eq_true rfl, Nat.le_of_ble_eq_true rfl⟩ (st1 := [.int 1, .ref (ad 0)]) rfl ?_
    refine lv_if_ne (tgt := 25) hx hb dX6_check_18 (by decide) (fun b18 => ?_) (fun b18 => ?_)
    · skip
      refine lv_aload_n hx hb dX6_check_25 rfl (lv_at hl 0 rfl) ?_
      refine gf S hK hP 0 ml_0 fX6_23 (v := .ref (ad 4)) mr_4 dX6_check_26 ?_
      refine lv_iload_n hx hb dX6_check_29 rfl (lv_at hl 1 rfl) ?_
      refine ild S hK hP 4 ml_4 (j := j) (by omega) (Nat.le_of_ble_eq_true rfl) dX6_check_30 ?_
      refine lv_as (y := 97) hs ?_
      refine lv_bipush (v := 97) hx hb dX6_check_31 (by decide) ?_
      refine lv_icmp_ne (tgt := 45) hx hb dX6_check_33 (by decide) (fun b33 => ?_) (fun b33 => ?_)
      · skip
        exact False.elim (by revert b33; decide)
      · skip
        refine lv_aload_n hx hb dX6_check_36 rfl (lv_at hl 0 rfl) ?_
        refine gf S hK hP 0 ml_0 fX6_57 (v := .ref (ad 15)) mr_15 dX6_check_37 ?_
        refine lv_iload_n hx hb dX6_check_40 rfl (lv_at hl 1 rfl) ?_
        refine zld S hK hP 15 ml_15 (j := j) (by omega) (Nat.le_of_ble_eq_true rfl) dX6_check_41 ?_
        refine lv_as (y := 0) hk ?_
        refine lv_if_eq (tgt := 49) hx hb dX6_check_42 (by decide) (fun b42 => ?_) (fun b42 => ?_)
        · skip
          refine lv_iconst (v := 0) hx hb dX6_check_49 (by decide) ?_
          refine pf S hK hP hD hS 0 ml_0 fX6_90 fpX6 rfl (v := .int 0) rfl rfl (Nat.le_of_ble_eq_true rfl) ms_0_0 dX6_check_50 (fun H locs hP hD hS => ?_)
          refine lv_aload_n hx hb dX6_check_53 rfl (lv_at hl 0 rfl) ?_
          refine gf S hK hP 0 ml_0 fX6_90 (v := .int 0) (mv_0 up_at) dX6_check_54 ?_
          refine lv_if_le (tgt := 62) hx hb dX6_check_57 (by decide) (fun b57 => ?_) (fun b57 => ?_)
          · skip
            refine lv_aload_n hx hb dX6_check_62 rfl (lv_at hl 0 rfl) ?_
            refine gf S hK hP 0 ml_0 fX6_57 (v := .ref (ad 15)) mr_15 dX6_check_63 ?_
            refine lv_iload_n hx hb dX6_check_66 rfl (lv_at hl 1 rfl) ?_
            refine lv_iconst (v := 1) hx hb dX6_check_67 (by decide) ?_
            refine zst S hK hP hD hS 15 ml_15 (j := j) (x := 1) (by omega) (Nat.le_of_ble_eq_true rfl) rfl ms_15 dX6_check_68 (fun H locs hP hD hS => ?_)
            refine lv_aload_n hx hb dX6_check_69 rfl (lv_at hl 0 rfl) ?_
            refine gf S hK hP 0 ml_0 fX6_41 (v := .ref (ad 10)) mr_10 dX6_check_70 ?_
            refine lv_iload_n hx hb dX6_check_73 rfl (lv_at hl 1 rfl) ?_
            refine ild S hK hP 10 ml_10 (j := j) (by omega) (Nat.le_of_ble_eq_true rfl) dX6_check_74 ?_
            refine lv_as (y := r 10 j) rfl ?_
            refine lv_iload_n hx hb dX6_check_75 rfl (lv_at hl 2 rfl) ?_
            refine lv_icmp_ne (tgt := 81) hx hb dX6_check_76 (by decide) (fun b76 => ?_) (fun b76 => ?_)
            · skip
              exact absurd hd b76
            · skip
              refine lv_iconst (v := 1) hx hb dX6_check_79 (by decide) ?_
              exact eMz S hr hlk hP hD hS dX6_check_80 rfl (by rw [up_twice]) rfl
          · skip
            exact False.elim (by revert b57; decide)
        · skip
          exact False.elim (by revert b42; decide)
    · skip
      exact absurd b18 b5
  · skip
    exact False.elim (by revert b5; decide)

set_option maxHeartbeats 4000000 in
set_option maxRecDepth 100000 in
theorem rr_check_d1 (l : Launch) (dg : va_G) (cA : Nat → ClassId) (ad : Nat → Nat) (r : St) (n : Nat) (hn : r 0 3 = nI n) (hn24 : n ≤ 24) (j : Nat) (hj : j < n) (a : Int32) (h1 : ¬ a < 0) (h2 : ¬ 9 < a) (hs : r 4 j = 97) (hk : r 15 j = 0) (hd : ¬ r 10 j = a) (i : Nat) (hi4 : i < 4) (hi : r 11 j = nI i) (hf : ¬ r 25 i + 1 = 2) (sz : Nat) : MetM l dg cA yX6_check cX6_check 5 (some .boolean) ({ frames := 2, cells := 0, slots := 0, locals := 43 } : Room) 0 0 (mw cA ad r) sz [.ref (ad 0), .int (nI j), .int a] (mw cA ad (up (up (up r 0 0 0) 15 j 1) 25 i (r 25 i + 1))) (some (.int 0)) := by
  refine ofM (by decide) (Nat.le_of_ble_eq_true rfl) (own := RX6) rfl (fun p e s0 m args below meth c ls A hAe S hr hlk hname hargs hK hP hD hS hA hsz hl => ?_)
  have hx := S.1
  have hb := S.2.1
  have hl : lv_has ls 5 [(0, .ref (ad 0)), (1, .int (nI j)), (2, .int a)] := hl
  refine lv_aload_n hx hb dX6_check_0 rfl (lv_at hl 0 rfl) ?_
  refine lv_iload_n hx hb dX6_check_1 rfl (lv_at hl 1 rfl) ?_
  refine cM S (rr_isHouse1 l dg cA ad r n hn hn24 j hj _) kX6_133 ⟨rfl, rfl, Nat.le_of_ble_eq_true rfl, Nat.le_of_ble_eq_true rfl⟩ hK hP hD hS hA 0 ml_0 (q := (RX6, TX6, 31)) rfl rfl (As := [.int (nI j)]) rfl hl.1 (rest := []) rfl (Nat.le_of_ble_eq_true rfl) dX6_check_2 ⟨Nat.le_of_ble_eq_true rfl, Nat.le_of_ble_eq_true rfl⟩ (st1 := [.int 1]) rfl (fun H locs hP hD hS => ?_)
  refine lv_if_ne (tgt := 10) hx hb dX6_check_5 (by decide) (fun b5 => ?_) (fun b5 => ?_)
  · skip
    refine lv_aload_n hx hb dX6_check_10 rfl (lv_at hl 0 rfl) ?_
    refine lv_iload_n hx hb dX6_check_11 rfl (lv_at hl 2 rfl) ?_
    refine lv_iconst (v := 0) hx hb dX6_check_12 (by decide) ?_
    refine lv_bipush (v := 9) hx hb dX6_check_13 (by decide) ?_
    refine cRS S (rr_in1 l dg cA (mw cA ad (up r 0 0 0)) a 0 9 h1 h2) kX6_96 ⟨rfl, rfl, Nat.le_of_ble_eq_true rfl, Nat.le_of_ble_eq_true rfl⟩ hK hP (As := [.int a, .int 0, .int 9]) rfl hl.1 (rest := [.ref (ad 0)]) rfl (Nat.le_of_ble_eq_true rfl) dX6_check_15 ⟨Nat.le_of_ble_eq_true rfl, Nat.le_of_ble_eq_true rfl⟩ (st1 := [.int 1, .ref (ad 0)]) rfl ?_
    refine lv_if_ne (tgt := 25) hx hb dX6_check_18 (by decide) (fun b18 => ?_) (fun b18 => ?_)
    · skip
      refine lv_aload_n hx hb dX6_check_25 rfl (lv_at hl 0 rfl) ?_
      refine gf S hK hP 0 ml_0 fX6_23 (v := .ref (ad 4)) mr_4 dX6_check_26 ?_
      refine lv_iload_n hx hb dX6_check_29 rfl (lv_at hl 1 rfl) ?_
      refine ild S hK hP 4 ml_4 (j := j) (by omega) (Nat.le_of_ble_eq_true rfl) dX6_check_30 ?_
      refine lv_as (y := 97) hs ?_
      refine lv_bipush (v := 97) hx hb dX6_check_31 (by decide) ?_
      refine lv_icmp_ne (tgt := 45) hx hb dX6_check_33 (by decide) (fun b33 => ?_) (fun b33 => ?_)
      · skip
        exact False.elim (by revert b33; decide)
      · skip
        refine lv_aload_n hx hb dX6_check_36 rfl (lv_at hl 0 rfl) ?_
        refine gf S hK hP 0 ml_0 fX6_57 (v := .ref (ad 15)) mr_15 dX6_check_37 ?_
        refine lv_iload_n hx hb dX6_check_40 rfl (lv_at hl 1 rfl) ?_
        refine zld S hK hP 15 ml_15 (j := j) (by omega) (Nat.le_of_ble_eq_true rfl) dX6_check_41 ?_
        refine lv_as (y := 0) hk ?_
        refine lv_if_eq (tgt := 49) hx hb dX6_check_42 (by decide) (fun b42 => ?_) (fun b42 => ?_)
        · skip
          refine lv_iconst (v := 0) hx hb dX6_check_49 (by decide) ?_
          refine pf S hK hP hD hS 0 ml_0 fX6_90 fpX6 rfl (v := .int 0) rfl rfl (Nat.le_of_ble_eq_true rfl) ms_0_0 dX6_check_50 (fun H locs hP hD hS => ?_)
          refine lv_aload_n hx hb dX6_check_53 rfl (lv_at hl 0 rfl) ?_
          refine gf S hK hP 0 ml_0 fX6_90 (v := .int 0) (mv_0 up_at) dX6_check_54 ?_
          refine lv_if_le (tgt := 62) hx hb dX6_check_57 (by decide) (fun b57 => ?_) (fun b57 => ?_)
          · skip
            refine lv_aload_n hx hb dX6_check_62 rfl (lv_at hl 0 rfl) ?_
            refine gf S hK hP 0 ml_0 fX6_57 (v := .ref (ad 15)) mr_15 dX6_check_63 ?_
            refine lv_iload_n hx hb dX6_check_66 rfl (lv_at hl 1 rfl) ?_
            refine lv_iconst (v := 1) hx hb dX6_check_67 (by decide) ?_
            refine zst S hK hP hD hS 15 ml_15 (j := j) (x := 1) (by omega) (Nat.le_of_ble_eq_true rfl) rfl ms_15 dX6_check_68 (fun H locs hP hD hS => ?_)
            refine lv_aload_n hx hb dX6_check_69 rfl (lv_at hl 0 rfl) ?_
            refine gf S hK hP 0 ml_0 fX6_41 (v := .ref (ad 10)) mr_10 dX6_check_70 ?_
            refine lv_iload_n hx hb dX6_check_73 rfl (lv_at hl 1 rfl) ?_
            refine ild S hK hP 10 ml_10 (j := j) (by omega) (Nat.le_of_ble_eq_true rfl) dX6_check_74 ?_
            refine lv_as (y := r 10 j) rfl ?_
            refine lv_iload_n hx hb dX6_check_75 rfl (lv_at hl 2 rfl) ?_
            refine lv_icmp_ne (tgt := 81) hx hb dX6_check_76 (by decide) (fun b76 => ?_) (fun b76 => ?_)
            · skip
              refine lv_aload_n hx hb dX6_check_81 rfl (lv_at hl 0 rfl) ?_
              refine gf S hK hP 0 ml_0 fX6_44 (v := .ref (ad 11)) mr_11 dX6_check_82 ?_
              refine lv_iload_n hx hb dX6_check_85 rfl (lv_at hl 1 rfl) ?_
              refine ild S hK hP 11 ml_11 (j := j) (by omega) (Nat.le_of_ble_eq_true rfl) dX6_check_86 ?_
              refine lv_as (y := nI i) hi ?_
              refine lv_istore_n (lv' := [(3, .int (nI i)), (0, .ref (ad 0)), (1, .int (nI j)), (2, .int a)]) hx hb dX6_check_87 rfl hl (by decide) rfl (fun ls hl => ?_)
              refine lv_aload_n hx hb dX6_check_88 rfl (lv_at hl 1 rfl) ?_
              refine gf S hK hP 0 ml_0 fX6_87 (v := .ref (ad 25)) mr_25 dX6_check_89 ?_
              refine lv_iload_n hx hb dX6_check_92 rfl (lv_at hl 0 rfl) ?_
              refine lv_dup2_11 hx hb dX6_check_93 rfl rfl ?_
              refine ild S hK hP 25 ml_25 (j := i) (by omega) (Nat.le_of_ble_eq_true rfl) dX6_check_94 ?_
              refine lv_as (y := r 25 i) rfl ?_
              refine lv_iconst (v := 1) hx hb dX6_check_95 (by decide) ?_
              refine lv_iadd hx hb dX6_check_96 ?_
              refine ist S hK hP hD hS 25 ml_25 (j := i) (x := (r 25 i) + 1) (by omega) (Nat.le_of_ble_eq_true rfl) ms_25 dX6_check_97 (fun H locs hP hD hS => ?_)
              refine lv_iconst (v := 0) hx hb dX6_check_98 (by decide) ?_
              refine lv_istore (lv' := [(4, .int 0), (3, .int (nI i)), (0, .ref (ad 0)), (1, .int (nI j)), (2, .int a)]) hx hb dX6_check_99 hl (by decide) rfl (fun ls hl => ?_)
              have hL101 : ∀ (f : Nat) (q : Nat), n - q < f → (q ≤ n) → ∀ ls, lv_has ls 5 [(0, .ref (ad 0)), (1, .int (nI j)), (2, .int a), (3, .int (nI i)), (4, .int (nI q))] → ∀ (H : Heap) (locs : List Loc), PP dg (mw cA ad (up (up (up r 0 0 0) 15 j 1) 25 i (r 25 i + 1))) H → va_D A (mw cA ad (up (up (up r 0 0 0) 15 j 1) 25 i (r 25 i + 1))) → va_S A s0.heap H locs → W p l e ({ frames := 2, cells := 0, slots := 0, locals := 43 } : Room) s0 m args below meth c H locs 0 0 (MQ below (QcM dg (mw cA ad (up (up (up r 0 0 0) 15 j 1) 25 i (r 25 i + 1))) (some (.int 0)) A) args s0 0 0 A) (F0 m 101 ls []) := by
                intro f
                induction f with
                | zero => intro q hm; exact absurd hm (Nat.not_lt_zero _)
                | succ f ih101 =>
                  intro q hm101 hq ls hl H locs hP hD hS
                  refine lv_iload hx hb dX6_check_101 (lv_at hl 4 rfl) ?_
                  refine lv_aload_n hx hb dX6_check_103 rfl (lv_at hl 0 rfl) ?_
                  refine gf S hK hP 0 ml_0 fX6_93 (v := .int (nI n)) (mv_3 hn) dX6_check_104 ?_
                  refine lv_icmp_ge (tgt := 174) hx hb dX6_check_107 (by decide) (fun b107 => ?_) (fun b107 => ?_)
                  · skip
                    have g107 : n ≤ q := (nI_leI (a := n) (b := q) (by omega) (by omega)).mp b107
                    refine lv_iconst (v := 0) hx hb dX6_check_174 (by decide) ?_
                    exact eMz S hr hlk hP hD hS dX6_check_175 rfl rfl rfl
                  · skip
                    have g107 : ¬ n ≤ q := fun zz => b107 ((nI_leI (a := n) (b := q) (by omega) (by omega)).mpr zz)
                    refine lv_aload_n hx hb dX6_check_110 rfl (lv_at hl 0 rfl) ?_
                    refine gf S hK hP 0 ml_0 fX6_87 (v := .ref (ad 25)) mr_25 dX6_check_111 ?_
                    refine lv_iload_n hx hb dX6_check_114 rfl (lv_at hl 3 rfl) ?_
                    refine ild S hK hP 25 ml_25 (j := i) (by omega) (Nat.le_of_ble_eq_true rfl) dX6_check_115 ?_
                    refine lv_as (y := (r 25 i + 1)) up_at ?_
                    refine lv_iconst (v := 2) hx hb dX6_check_116 (by decide) ?_
                    refine lv_icmp_ne (tgt := 174) hx hb dX6_check_117 (by decide) (fun b117 => ?_) (fun b117 => ?_)
                    · skip
                      refine lv_iconst (v := 0) hx hb dX6_check_174 (by decide) ?_
                      exact eMz S hr hlk hP hD hS dX6_check_175 rfl rfl rfl
                    · skip
                      exact absurd b117 hf
              have es : (mw cA ad (up (up (up (up r 0 0 0) 0 0 0) 15 j 1) 25 i ((r 25 i) + 1))) = (mw cA ad (up (up (up r 0 0 0) 15 j 1) 25 i (r 25 i + 1))) := by rw [up_twice]
              rw [es] at hP hD
              exact hL101 _ 0 (Nat.lt_succ_self _) (Nat.zero_le _) ls (lv_cast (lv_sub (l' := [(0, .ref (ad 0)), (1, .int (nI j)), (2, .int a), (3, .int (nI i)), (4, .int 0)]) hl [2, 3, 4, 1, 0] rfl) (by rfl)) _ _ hP hD hS
            · skip
              exact absurd b76 hd
          · skip
            exact False.elim (by revert b57; decide)
        · skip
          exact False.elim (by revert b42; decide)
    · skip
      exact absurd b18 b5
  · skip
    exact False.elim (by revert b5; decide)

set_option maxHeartbeats 4000000 in
set_option maxRecDepth 100000 in
theorem rr_check_d2 (l : Launch) (dg : va_G) (cA : Nat → ClassId) (ad : Nat → Nat) (r : St) (n : Nat) (hn : r 0 3 = nI n) (hn24 : n ≤ 24) (j : Nat) (hj : j < n) (a : Int32) (h1 : ¬ a < 0) (h2 : ¬ 9 < a) (hs : r 4 j = 97) (hk : r 15 j = 0) (hd : ¬ r 10 j = a) (i : Nat) (hi4 : i < 4) (hi : r 11 j = nI i) (hf : r 25 i + 1 = 2) (sz : Nat) : MetM l dg cA yX6_check cX6_check 5 (some .boolean) ({ frames := 2, cells := 0, slots := 0, locals := 43 } : Room) 0 0 (mw cA ad r) sz [.ref (ad 0), .int (nI j), .int a] (mw cA ad (m_bar (up (up (up r 0 0 0) 15 j 1) 25 i (r 25 i + 1)) i n)) (some (.int 0)) := by
  refine ofM (by decide) (Nat.le_of_ble_eq_true rfl) (own := RX6) rfl (fun p e s0 m args below meth c ls A hAe S hr hlk hname hargs hK hP hD hS hA hsz hl => ?_)
  have hx := S.1
  have hb := S.2.1
  have hl : lv_has ls 5 [(0, .ref (ad 0)), (1, .int (nI j)), (2, .int a)] := hl
  refine lv_aload_n hx hb dX6_check_0 rfl (lv_at hl 0 rfl) ?_
  refine lv_iload_n hx hb dX6_check_1 rfl (lv_at hl 1 rfl) ?_
  refine cM S (rr_isHouse1 l dg cA ad r n hn hn24 j hj _) kX6_133 ⟨rfl, rfl, Nat.le_of_ble_eq_true rfl, Nat.le_of_ble_eq_true rfl⟩ hK hP hD hS hA 0 ml_0 (q := (RX6, TX6, 31)) rfl rfl (As := [.int (nI j)]) rfl hl.1 (rest := []) rfl (Nat.le_of_ble_eq_true rfl) dX6_check_2 ⟨Nat.le_of_ble_eq_true rfl, Nat.le_of_ble_eq_true rfl⟩ (st1 := [.int 1]) rfl (fun H locs hP hD hS => ?_)
  refine lv_if_ne (tgt := 10) hx hb dX6_check_5 (by decide) (fun b5 => ?_) (fun b5 => ?_)
  · skip
    refine lv_aload_n hx hb dX6_check_10 rfl (lv_at hl 0 rfl) ?_
    refine lv_iload_n hx hb dX6_check_11 rfl (lv_at hl 2 rfl) ?_
    refine lv_iconst (v := 0) hx hb dX6_check_12 (by decide) ?_
    refine lv_bipush (v := 9) hx hb dX6_check_13 (by decide) ?_
    refine cRS S (rr_in1 l dg cA (mw cA ad (up r 0 0 0)) a 0 9 h1 h2) kX6_96 ⟨rfl, rfl, Nat.le_of_ble_eq_true rfl, Nat.le_of_ble_eq_true rfl⟩ hK hP (As := [.int a, .int 0, .int 9]) rfl hl.1 (rest := [.ref (ad 0)]) rfl (Nat.le_of_ble_eq_true rfl) dX6_check_15 ⟨Nat.le_of_ble_eq_true rfl, Nat.le_of_ble_eq_true rfl⟩ (st1 := [.int 1, .ref (ad 0)]) rfl ?_
    refine lv_if_ne (tgt := 25) hx hb dX6_check_18 (by decide) (fun b18 => ?_) (fun b18 => ?_)
    · skip
      refine lv_aload_n hx hb dX6_check_25 rfl (lv_at hl 0 rfl) ?_
      refine gf S hK hP 0 ml_0 fX6_23 (v := .ref (ad 4)) mr_4 dX6_check_26 ?_
      refine lv_iload_n hx hb dX6_check_29 rfl (lv_at hl 1 rfl) ?_
      refine ild S hK hP 4 ml_4 (j := j) (by omega) (Nat.le_of_ble_eq_true rfl) dX6_check_30 ?_
      refine lv_as (y := 97) hs ?_
      refine lv_bipush (v := 97) hx hb dX6_check_31 (by decide) ?_
      refine lv_icmp_ne (tgt := 45) hx hb dX6_check_33 (by decide) (fun b33 => ?_) (fun b33 => ?_)
      · skip
        exact False.elim (by revert b33; decide)
      · skip
        refine lv_aload_n hx hb dX6_check_36 rfl (lv_at hl 0 rfl) ?_
        refine gf S hK hP 0 ml_0 fX6_57 (v := .ref (ad 15)) mr_15 dX6_check_37 ?_
        refine lv_iload_n hx hb dX6_check_40 rfl (lv_at hl 1 rfl) ?_
        refine zld S hK hP 15 ml_15 (j := j) (by omega) (Nat.le_of_ble_eq_true rfl) dX6_check_41 ?_
        refine lv_as (y := 0) hk ?_
        refine lv_if_eq (tgt := 49) hx hb dX6_check_42 (by decide) (fun b42 => ?_) (fun b42 => ?_)
        · skip
          refine lv_iconst (v := 0) hx hb dX6_check_49 (by decide) ?_
          refine pf S hK hP hD hS 0 ml_0 fX6_90 fpX6 rfl (v := .int 0) rfl rfl (Nat.le_of_ble_eq_true rfl) ms_0_0 dX6_check_50 (fun H locs hP hD hS => ?_)
          refine lv_aload_n hx hb dX6_check_53 rfl (lv_at hl 0 rfl) ?_
          refine gf S hK hP 0 ml_0 fX6_90 (v := .int 0) (mv_0 up_at) dX6_check_54 ?_
          refine lv_if_le (tgt := 62) hx hb dX6_check_57 (by decide) (fun b57 => ?_) (fun b57 => ?_)
          · skip
            refine lv_aload_n hx hb dX6_check_62 rfl (lv_at hl 0 rfl) ?_
            refine gf S hK hP 0 ml_0 fX6_57 (v := .ref (ad 15)) mr_15 dX6_check_63 ?_
            refine lv_iload_n hx hb dX6_check_66 rfl (lv_at hl 1 rfl) ?_
            refine lv_iconst (v := 1) hx hb dX6_check_67 (by decide) ?_
            refine zst S hK hP hD hS 15 ml_15 (j := j) (x := 1) (by omega) (Nat.le_of_ble_eq_true rfl) rfl ms_15 dX6_check_68 (fun H locs hP hD hS => ?_)
            refine lv_aload_n hx hb dX6_check_69 rfl (lv_at hl 0 rfl) ?_
            refine gf S hK hP 0 ml_0 fX6_41 (v := .ref (ad 10)) mr_10 dX6_check_70 ?_
            refine lv_iload_n hx hb dX6_check_73 rfl (lv_at hl 1 rfl) ?_
            refine ild S hK hP 10 ml_10 (j := j) (by omega) (Nat.le_of_ble_eq_true rfl) dX6_check_74 ?_
            refine lv_as (y := r 10 j) rfl ?_
            refine lv_iload_n hx hb dX6_check_75 rfl (lv_at hl 2 rfl) ?_
            refine lv_icmp_ne (tgt := 81) hx hb dX6_check_76 (by decide) (fun b76 => ?_) (fun b76 => ?_)
            · skip
              refine lv_aload_n hx hb dX6_check_81 rfl (lv_at hl 0 rfl) ?_
              refine gf S hK hP 0 ml_0 fX6_44 (v := .ref (ad 11)) mr_11 dX6_check_82 ?_
              refine lv_iload_n hx hb dX6_check_85 rfl (lv_at hl 1 rfl) ?_
              refine ild S hK hP 11 ml_11 (j := j) (by omega) (Nat.le_of_ble_eq_true rfl) dX6_check_86 ?_
              refine lv_as (y := nI i) hi ?_
              refine lv_istore_n (lv' := [(3, .int (nI i)), (0, .ref (ad 0)), (1, .int (nI j)), (2, .int a)]) hx hb dX6_check_87 rfl hl (by decide) rfl (fun ls hl => ?_)
              refine lv_aload_n hx hb dX6_check_88 rfl (lv_at hl 1 rfl) ?_
              refine gf S hK hP 0 ml_0 fX6_87 (v := .ref (ad 25)) mr_25 dX6_check_89 ?_
              refine lv_iload_n hx hb dX6_check_92 rfl (lv_at hl 0 rfl) ?_
              refine lv_dup2_11 hx hb dX6_check_93 rfl rfl ?_
              refine ild S hK hP 25 ml_25 (j := i) (by omega) (Nat.le_of_ble_eq_true rfl) dX6_check_94 ?_
              refine lv_as (y := r 25 i) rfl ?_
              refine lv_iconst (v := 1) hx hb dX6_check_95 (by decide) ?_
              refine lv_iadd hx hb dX6_check_96 ?_
              refine ist S hK hP hD hS 25 ml_25 (j := i) (x := (r 25 i) + 1) (by omega) (Nat.le_of_ble_eq_true rfl) ms_25 dX6_check_97 (fun H locs hP hD hS => ?_)
              refine lv_iconst (v := 0) hx hb dX6_check_98 (by decide) ?_
              refine lv_istore (lv' := [(4, .int 0), (3, .int (nI i)), (0, .ref (ad 0)), (1, .int (nI j)), (2, .int a)]) hx hb dX6_check_99 hl (by decide) rfl (fun ls hl => ?_)
              have hL101 : ∀ (f : Nat) (q : Nat), n - q < f → (q ≤ n) → ∀ ls, lv_has ls 5 [(0, .ref (ad 0)), (1, .int (nI j)), (2, .int a), (3, .int (nI i)), (4, .int (nI q))] → ∀ (H : Heap) (locs : List Loc), PP dg (mw cA ad (m_bar (up (up (up r 0 0 0) 15 j 1) 25 i (r 25 i + 1)) i q)) H → va_D A (mw cA ad (m_bar (up (up (up r 0 0 0) 15 j 1) 25 i (r 25 i + 1)) i q)) → va_S A s0.heap H locs → W p l e ({ frames := 2, cells := 0, slots := 0, locals := 43 } : Room) s0 m args below meth c H locs 0 0 (MQ below (QcM dg (mw cA ad (m_bar (up (up (up r 0 0 0) 15 j 1) 25 i (r 25 i + 1)) i n)) (some (.int 0)) A) args s0 0 0 A) (F0 m 101 ls []) := by
                intro f
                induction f with
                | zero => intro q hm; exact absurd hm (Nat.not_lt_zero _)
                | succ f ih101 =>
                  intro q hm101 hq ls hl H locs hP hD hS
                  refine lv_iload hx hb dX6_check_101 (lv_at hl 4 rfl) ?_
                  refine lv_aload_n hx hb dX6_check_103 rfl (lv_at hl 0 rfl) ?_
                  refine gf S hK hP 0 ml_0 fX6_93 (v := .int (nI n)) (mv_3 (show m_bar (up (up (up r 0 0 0) 15 j 1) 25 i (r 25 i + 1)) i q 0 3 = nI n by rw [m_bar_row _ _ (by decide) (by decide)]; exact hn)) dX6_check_104 ?_
                  refine lv_icmp_ge (tgt := 174) hx hb dX6_check_107 (by decide) (fun b107 => ?_) (fun b107 => ?_)
                  · skip
                    have g107 : n ≤ q := (nI_leI (a := n) (b := q) (by omega) (by omega)).mp b107
                    refine lv_iconst (v := 0) hx hb dX6_check_174 (by decide) ?_
                    exact eMz S hr hlk hP hD hS dX6_check_175 rfl (by rw [show q = n by omega]) rfl
                  · skip
                    have g107 : ¬ n ≤ q := fun zz => b107 ((nI_leI (a := n) (b := q) (by omega) (by omega)).mpr zz)
                    refine lv_aload_n hx hb dX6_check_110 rfl (lv_at hl 0 rfl) ?_
                    refine gf S hK hP 0 ml_0 fX6_87 (v := .ref (ad 25)) mr_25 dX6_check_111 ?_
                    refine lv_iload_n hx hb dX6_check_114 rfl (lv_at hl 3 rfl) ?_
                    refine ild S hK hP 25 ml_25 (j := i) (by omega) (Nat.le_of_ble_eq_true rfl) dX6_check_115 ?_
                    refine lv_as (y := r 25 i + 1) (show m_bar (up (up (up r 0 0 0) 15 j 1) 25 i (r 25 i + 1)) i q 25 i = r 25 i + 1 by rw [m_bar_row _ _ (by decide) (by decide)]; exact up_at) ?_
                    refine lv_iconst (v := 2) hx hb dX6_check_116 (by decide) ?_
                    refine lv_icmp_ne (tgt := 174) hx hb dX6_check_117 (by decide) (fun b117 => ?_) (fun b117 => ?_)
                    · skip
                      exact absurd hf b117
                    · skip
                      refine lv_aload_n hx hb dX6_check_120 rfl (lv_at hl 0 rfl) ?_
                      refine gf S hK hP 0 ml_0 fX6_23 (v := .ref (ad 4)) mr_4 dX6_check_121 ?_
                      refine lv_iload hx hb dX6_check_124 (lv_at hl 4 rfl) ?_
                      refine ild S hK hP 4 ml_4 (j := q) (by omega) (Nat.le_of_ble_eq_true rfl) dX6_check_126 ?_
                      refine lv_as (y := (m_bar (up (up (up r 0 0 0) 15 j 1) 25 i (r 25 i + 1)) i q) 4 q) rfl ?_
                      refine lv_bipush (v := 97) hx hb dX6_check_127 (by decide) ?_
                      refine lv_icmp_ne (tgt := 168) hx hb dX6_check_129 (by decide) (fun b129 => ?_) (fun b129 => ?_)
                      · skip
                        refine lv_iinc (v := nI (q + 1)) (lv' := [(4, .int (nI (q + 1))), (0, .ref (ad 0)), (1, .int (nI j)), (2, .int a), (3, .int (nI i))]) hx hb dX6_check_168 hl (k := 4) rfl (nI_1 q) (by decide) rfl (fun ls hl => ?_)
                        refine lv_goto (tgt := 101) hx hb dX6_check_171 (by decide) ?_
                        have es : (mw cA ad (m_bar (up (up (up r 0 0 0) 15 j 1) 25 i (r 25 i + 1)) i q)) = (mw cA ad (m_bar (up (up (up r 0 0 0) 15 j 1) 25 i (r 25 i + 1)) i (q + 1))) := by simp [m_bar, b129] <;> rfl
                        rw [es] at hP hD
                        exact ih101 (q + 1) (by omega) (by omega) ls (lv_sub hl [1, 2, 3, 4, 0] rfl) _ _ hP hD hS
                      · skip
                        refine lv_aload_n hx hb dX6_check_132 rfl (lv_at hl 0 rfl) ?_
                        refine gf S hK hP 0 ml_0 fX6_44 (v := .ref (ad 11)) mr_11 dX6_check_133 ?_
                        refine lv_iload hx hb dX6_check_136 (lv_at hl 4 rfl) ?_
                        refine ild S hK hP 11 ml_11 (j := q) (by omega) (Nat.le_of_ble_eq_true rfl) dX6_check_138 ?_
                        refine lv_as (y := (m_bar (up (up (up r 0 0 0) 15 j 1) 25 i (r 25 i + 1)) i q) 11 q) rfl ?_
                        refine lv_iload_n hx hb dX6_check_139 rfl (lv_at hl 3 rfl) ?_
                        refine lv_icmp_eq (tgt := 146) hx hb dX6_check_140 (by decide) (fun b140 => ?_) (fun b140 => ?_)
                        · skip
                          refine lv_aload_n hx hb dX6_check_146 rfl (lv_at hl 0 rfl) ?_
                          refine gf S hK hP 0 ml_0 fX6_23 (v := .ref (ad 4)) mr_4 dX6_check_147 ?_
                          refine lv_iload hx hb dX6_check_150 (lv_at hl 4 rfl) ?_
                          refine lv_bipush (v := 119) hx hb dX6_check_152 (by decide) ?_
                          refine ist S hK hP hD hS 4 ml_4 (j := q) (x := 119) (by omega) (Nat.le_of_ble_eq_true rfl) ms_4 dX6_check_154 (fun H locs hP hD hS => ?_)
                          refine lv_aload_n hx hb dX6_check_155 rfl (lv_at hl 0 rfl) ?_
                          refine gf S hK hP 0 ml_0 fX6_26 (v := .ref (ad 5)) mr_5 dX6_check_156 ?_
                          refine lv_iload hx hb dX6_check_159 (lv_at hl 4 rfl) ?_
                          refine lv_aload_n hx hb dX6_check_161 rfl (lv_at hl 0 rfl) ?_
                          refine gf S hK hP 0 ml_0 fX6_115 (v := .int (r 0 5)) (mv_5 (show m_bar (up (up (up r 0 0 0) 15 j 1) 25 i (r 25 i + 1)) i q 0 5 = r 0 5 by rw [m_bar_row _ _ (by decide) (by decide)]; rfl)) dX6_check_162 ?_
                          refine lv_iconst (v := 1) hx hb dX6_check_165 (by decide) ?_
                          refine lv_iadd hx hb dX6_check_166 ?_
                          refine ist S hK hP hD hS 5 ml_5 (j := q) (x := (r 0 5) + 1) (by omega) (Nat.le_of_ble_eq_true rfl) ms_5 dX6_check_167 (fun H locs hP hD hS => ?_)
                          refine lv_iinc (v := nI (q + 1)) (lv' := [(4, .int (nI (q + 1))), (0, .ref (ad 0)), (1, .int (nI j)), (2, .int a), (3, .int (nI i))]) hx hb dX6_check_168 hl (k := 4) rfl (nI_1 q) (by decide) rfl (fun ls hl => ?_)
                          refine lv_goto (tgt := 101) hx hb dX6_check_171 (by decide) ?_
                          have es : (mw cA ad (up (up (m_bar (up (up (up r 0 0 0) 15 j 1) 25 i (r 25 i + 1)) i q) 4 q 119) 5 q ((r 0 5) + 1))) = (mw cA ad (m_bar (up (up (up r 0 0 0) 15 j 1) 25 i (r 25 i + 1)) i (q + 1))) := by simp [m_bar, b129, b140] <;> rfl
                          rw [es] at hP hD
                          exact ih101 (q + 1) (by omega) (by omega) ls (lv_sub hl [1, 2, 3, 4, 0] rfl) _ _ hP hD hS
                        · skip
                          refine lv_goto (tgt := 168) hx hb dX6_check_143 (by decide) ?_
                          refine lv_iinc (v := nI (q + 1)) (lv' := [(4, .int (nI (q + 1))), (0, .ref (ad 0)), (1, .int (nI j)), (2, .int a), (3, .int (nI i))]) hx hb dX6_check_168 hl (k := 4) rfl (nI_1 q) (by decide) rfl (fun ls hl => ?_)
                          refine lv_goto (tgt := 101) hx hb dX6_check_171 (by decide) ?_
                          have es : (mw cA ad (m_bar (up (up (up r 0 0 0) 15 j 1) 25 i (r 25 i + 1)) i q)) = (mw cA ad (m_bar (up (up (up r 0 0 0) 15 j 1) 25 i (r 25 i + 1)) i (q + 1))) := by simp [m_bar, b129, b140] <;> rfl
                          rw [es] at hP hD
                          exact ih101 (q + 1) (by omega) (by omega) ls (lv_sub hl [1, 2, 3, 4, 0] rfl) _ _ hP hD hS
              have es : (mw cA ad (up (up (up (up r 0 0 0) 0 0 0) 15 j 1) 25 i ((r 25 i) + 1))) = (mw cA ad (m_bar (up (up (up r 0 0 0) 15 j 1) 25 i (r 25 i + 1)) i 0)) := by rw [up_twice]; rfl
              rw [es] at hP hD
              exact hL101 _ 0 (Nat.lt_succ_self _) (Nat.zero_le _) ls (lv_cast (lv_sub (l' := [(0, .ref (ad 0)), (1, .int (nI j)), (2, .int a), (3, .int (nI i)), (4, .int 0)]) hl [2, 3, 4, 1, 0] rfl) (by rfl)) _ _ hP hD hS
            · skip
              exact absurd b76 hd
          · skip
            exact False.elim (by revert b57; decide)
        · skip
          exact False.elim (by revert b42; decide)
    · skip
      exact absurd b18 b5
  · skip
    exact False.elim (by revert b5; decide)
end
