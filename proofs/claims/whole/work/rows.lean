section
-- ===== PART A: goes FIRST, ahead of the names: the tables' words, and 'selects' of the private methods out of them =====
/-- a private method of a class that the tables say can be made, by its rows of tables_1 -/
def lw_okq (q : MethodName × Nat) : Prop := (q.1.cls ≠ "java/lang/invoke/MethodHandle" ∧ q.1.cls ≠ "java/lang/invoke/VarHandle") ∧ Cond.instantiable q.1.cls q.2 ∈ tables_1 ∧ Cond.privateMethod q.1 ∈ tables_1 ∧ Cond.instanceMethod q.1 ∈ tables_1
theorem lw_p0 : lw_okq (⟨"ChairRegents$Script", "readToken", "()V"⟩, 6) := ⟨⟨by decide +kernel, by decide +kernel⟩, List.mem_of_getElem? (i := 22) (by decide +kernel), List.mem_of_getElem? (i := 295) (by decide +kernel), List.mem_of_getElem? (i := 296) (by decide +kernel)⟩
theorem lw_p1 : lw_okq (⟨"ChairRegents$Script", "isDigitAt", "(I)Z"⟩, 6) := ⟨⟨by decide +kernel, by decide +kernel⟩, List.mem_of_getElem? (i := 22) (by decide +kernel), List.mem_of_getElem? (i := 299) (by decide +kernel), List.mem_of_getElem? (i := 300) (by decide +kernel)⟩
theorem lw_p2 : lw_okq (⟨"ChairRegents$Script", "readDigits", "()V"⟩, 6) := ⟨⟨by decide +kernel, by decide +kernel⟩, List.mem_of_getElem? (i := 22) (by decide +kernel), List.mem_of_getElem? (i := 303) (by decide +kernel), List.mem_of_getElem? (i := 304) (by decide +kernel)⟩
theorem lw_p3 : lw_okq (⟨"ChairRegents$Script", "readItem", "(LChairRegents$Spa;)Z"⟩, 6) := ⟨⟨by decide +kernel, by decide +kernel⟩, List.mem_of_getElem? (i := 22) (by decide +kernel), List.mem_of_getElem? (i := 307) (by decide +kernel), List.mem_of_getElem? (i := 308) (by decide +kernel)⟩
theorem lw_p4 : lw_okq (⟨"ChairRegents$Script", "readPromenade", "(LChairRegents$Spa;)Z"⟩, 6) := ⟨⟨by decide +kernel, by decide +kernel⟩, List.mem_of_getElem? (i := 22) (by decide +kernel), List.mem_of_getElem? (i := 311) (by decide +kernel), List.mem_of_getElem? (i := 312) (by decide +kernel)⟩
theorem lw_p5 : lw_okq (⟨"ChairRegents$Script", "costOfToken", "()I"⟩, 6) := ⟨⟨by decide +kernel, by decide +kernel⟩, List.mem_of_getElem? (i := 22) (by decide +kernel), List.mem_of_getElem? (i := 315) (by decide +kernel), List.mem_of_getElem? (i := 316) (by decide +kernel)⟩
theorem lw_p6 : lw_okq (⟨"ChairRegents$Script", "readChair", "(LChairRegents$Spa;)Z"⟩, 6) := ⟨⟨by decide +kernel, by decide +kernel⟩, List.mem_of_getElem? (i := 22) (by decide +kernel), List.mem_of_getElem? (i := 323) (by decide +kernel), List.mem_of_getElem? (i := 324) (by decide +kernel)⟩
theorem lw_p7 : lw_okq (⟨"ChairRegents$Script", "readNumber", "(II)Z"⟩, 6) := ⟨⟨by decide +kernel, by decide +kernel⟩, List.mem_of_getElem? (i := 22) (by decide +kernel), List.mem_of_getElem? (i := 327) (by decide +kernel), List.mem_of_getElem? (i := 328) (by decide +kernel)⟩
theorem lw_p8 : lw_okq (⟨"ChairRegents$Script", "readEnd", "()Z"⟩, 6) := ⟨⟨by decide +kernel, by decide +kernel⟩, List.mem_of_getElem? (i := 22) (by decide +kernel), List.mem_of_getElem? (i := 335) (by decide +kernel), List.mem_of_getElem? (i := 336) (by decide +kernel)⟩
theorem lw_p9 : lw_okq (⟨"ChairRegents$Script", "readPusher", "(LChairRegents$Spa;)Z"⟩, 6) := ⟨⟨by decide +kernel, by decide +kernel⟩, List.mem_of_getElem? (i := 22) (by decide +kernel), List.mem_of_getElem? (i := 339) (by decide +kernel), List.mem_of_getElem? (i := 340) (by decide +kernel)⟩
theorem lw_p10 : lw_okq (⟨"ChairRegents", "isChair", "(I)Z"⟩, 10) := ⟨⟨by decide +kernel, by decide +kernel⟩, List.mem_of_getElem? (i := 14) (by decide +kernel), List.mem_of_getElem? (i := 358) (by decide +kernel), List.mem_of_getElem? (i := 359) (by decide +kernel)⟩
theorem lw_p11 : lw_okq (⟨"ChairRegents$Forecast", "winnerBy", "([II)I"⟩, 6) := ⟨⟨by decide +kernel, by decide +kernel⟩, List.mem_of_getElem? (i := 171) (by decide +kernel), List.mem_of_getElem? (i := 397) (by decide +kernel), List.mem_of_getElem? (i := 398) (by decide +kernel)⟩
theorem lw_p12 : lw_okq (⟨"ChairRegents$Forecast", "raceBy", "([III)V"⟩, 6) := ⟨⟨by decide +kernel, by decide +kernel⟩, List.mem_of_getElem? (i := 171) (by decide +kernel), List.mem_of_getElem? (i := 401) (by decide +kernel), List.mem_of_getElem? (i := 402) (by decide +kernel)⟩
theorem lw_p13 : lw_okq (⟨"ChairRegents$Race", "move", "(LChairRegents$Spa;II)V"⟩, 6) := ⟨⟨by decide +kernel, by decide +kernel⟩, List.mem_of_getElem? (i := 177) (by decide +kernel), List.mem_of_getElem? (i := 414) (by decide +kernel), List.mem_of_getElem? (i := 415) (by decide +kernel)⟩
theorem lw_p14 : lw_okq (⟨"ChairRegents$Race", "isBlocked", "(LChairRegents$Spa;II)Z"⟩, 6) := ⟨⟨by decide +kernel, by decide +kernel⟩, List.mem_of_getElem? (i := 177) (by decide +kernel), List.mem_of_getElem? (i := 418) (by decide +kernel), List.mem_of_getElem? (i := 419) (by decide +kernel)⟩
theorem lw_p15 : lw_okq (⟨"ChairRegents$Race", "arrive", "(II)V"⟩, 6) := ⟨⟨by decide +kernel, by decide +kernel⟩, List.mem_of_getElem? (i := 177) (by decide +kernel), List.mem_of_getElem? (i := 422) (by decide +kernel), List.mem_of_getElem? (i := 423) (by decide +kernel)⟩
def lw_privs_1 : List (MethodName × Nat) := [(⟨"ChairRegents$Script", "readToken", "()V"⟩, 6), (⟨"ChairRegents$Script", "isDigitAt", "(I)Z"⟩, 6), (⟨"ChairRegents$Script", "readDigits", "()V"⟩, 6), (⟨"ChairRegents$Script", "readItem", "(LChairRegents$Spa;)Z"⟩, 6), (⟨"ChairRegents$Script", "readPromenade", "(LChairRegents$Spa;)Z"⟩, 6), (⟨"ChairRegents$Script", "costOfToken", "()I"⟩, 6), (⟨"ChairRegents$Script", "readChair", "(LChairRegents$Spa;)Z"⟩, 6), (⟨"ChairRegents$Script", "readNumber", "(II)Z"⟩, 6), (⟨"ChairRegents$Script", "readEnd", "()Z"⟩, 6), (⟨"ChairRegents$Script", "readPusher", "(LChairRegents$Spa;)Z"⟩, 6), (⟨"ChairRegents", "isChair", "(I)Z"⟩, 10), (⟨"ChairRegents$Forecast", "winnerBy", "([II)I"⟩, 6), (⟨"ChairRegents$Forecast", "raceBy", "([III)V"⟩, 6), (⟨"ChairRegents$Race", "move", "(LChairRegents$Spa;II)V"⟩, 6), (⟨"ChairRegents$Race", "isBlocked", "(LChairRegents$Spa;II)Z"⟩, 6), (⟨"ChairRegents$Race", "arrive", "(II)V"⟩, 6)]
theorem lw_r1 : ∀ q ∈ lw_privs_1, lw_okq q := List.forall_mem_cons.mpr ⟨lw_p0, List.forall_mem_cons.mpr ⟨lw_p1, List.forall_mem_cons.mpr ⟨lw_p2, List.forall_mem_cons.mpr ⟨lw_p3, List.forall_mem_cons.mpr ⟨lw_p4, List.forall_mem_cons.mpr ⟨lw_p5, List.forall_mem_cons.mpr ⟨lw_p6, List.forall_mem_cons.mpr ⟨lw_p7, List.forall_mem_cons.mpr ⟨lw_p8, List.forall_mem_cons.mpr ⟨lw_p9, List.forall_mem_cons.mpr ⟨lw_p10, List.forall_mem_cons.mpr ⟨lw_p11, List.forall_mem_cons.mpr ⟨lw_p12, List.forall_mem_cons.mpr ⟨lw_p13, List.forall_mem_cons.mpr ⟨lw_p14, List.forall_mem_cons.mpr ⟨lw_p15, fun _ h => absurd h List.not_mem_nil⟩⟩⟩⟩⟩⟩⟩⟩⟩⟩⟩⟩⟩⟩⟩⟩
theorem lw_p16 : lw_okq (⟨"ChairRegents$Forecast", "startWays", "()V"⟩, 6) := ⟨⟨by decide +kernel, by decide +kernel⟩, List.mem_of_getElem? (i := 171) (by decide +kernel), List.mem_of_getElem? (i := 434) (by decide +kernel), List.mem_of_getElem? (i := 435) (by decide +kernel)⟩
theorem lw_p17 : lw_okq (⟨"ChairRegents$Forecast", "toNextWay", "()Z"⟩, 6) := ⟨⟨by decide +kernel, by decide +kernel⟩, List.mem_of_getElem? (i := 171) (by decide +kernel), List.mem_of_getElem? (i := 438) (by decide +kernel), List.mem_of_getElem? (i := 439) (by decide +kernel)⟩
theorem lw_p18 : lw_okq (⟨"ChairRegents$Forecast", "swapInWay", "(II)V"⟩, 6) := ⟨⟨by decide +kernel, by decide +kernel⟩, List.mem_of_getElem? (i := 171) (by decide +kernel), List.mem_of_getElem? (i := 442) (by decide +kernel), List.mem_of_getElem? (i := 443) (by decide +kernel)⟩
theorem lw_p19 : lw_okq (⟨"ChairRegents$Day", "weeksOf", "(LChairRegents$Spa;I)I"⟩, 6) := ⟨⟨by decide +kernel, by decide +kernel⟩, List.mem_of_getElem? (i := 94) (by decide +kernel), List.mem_of_getElem? (i := 450) (by decide +kernel), List.mem_of_getElem? (i := 451) (by decide +kernel)⟩
theorem lw_p20 : lw_okq (⟨"ChairRegents$Stopwatch", "isAllAsIf", "(ZLChairRegents$Spa;LChairRegents$Day;I)Z"⟩, 3) := ⟨⟨by decide +kernel, by decide +kernel⟩, List.mem_of_getElem? (i := 154) (by decide +kernel), List.mem_of_getElem? (i := 458) (by decide +kernel), List.mem_of_getElem? (i := 459) (by decide +kernel)⟩
theorem lw_p21 : lw_okq (⟨"ChairRegents$Deeds", "dropOldest", "()V"⟩, 4) := ⟨⟨by decide +kernel, by decide +kernel⟩, List.mem_of_getElem? (i := 134) (by decide +kernel), List.mem_of_getElem? (i := 478) (by decide +kernel), List.mem_of_getElem? (i := 479) (by decide +kernel)⟩
theorem lw_p22 : lw_okq (⟨"ChairRegents$Forecast", "changedByWay", "()I"⟩, 6) := ⟨⟨by decide +kernel, by decide +kernel⟩, List.mem_of_getElem? (i := 171) (by decide +kernel), List.mem_of_getElem? (i := 541) (by decide +kernel), List.mem_of_getElem? (i := 542) (by decide +kernel)⟩
theorem lw_p23 : lw_okq (⟨"ChairRegents$Forecast", "weightOf", "(II)I"⟩, 6) := ⟨⟨by decide +kernel, by decide +kernel⟩, List.mem_of_getElem? (i := 171) (by decide +kernel), List.mem_of_getElem? (i := 583) (by decide +kernel), List.mem_of_getElem? (i := 584) (by decide +kernel)⟩
theorem lw_p24 : lw_okq (⟨"ChairRegents", "imageOf", "(I)LChairRegents$Day;"⟩, 10) := ⟨⟨by decide +kernel, by decide +kernel⟩, List.mem_of_getElem? (i := 14) (by decide +kernel), List.mem_of_getElem? (i := 648) (by decide +kernel), List.mem_of_getElem? (i := 649) (by decide +kernel)⟩
theorem lw_p25 : lw_okq (⟨"ChairRegentsModel", "next", "()V"⟩, 36) := ⟨⟨by decide +kernel, by decide +kernel⟩, List.mem_of_getElem? (i := 668) (by decide +kernel), List.mem_of_getElem? (i := 798) (by decide +kernel), List.mem_of_getElem? (i := 799) (by decide +kernel)⟩
theorem lw_p26 : lw_okq (⟨"ChairRegentsModel", "letterAt", "(I)I"⟩, 36) := ⟨⟨by decide +kernel, by decide +kernel⟩, List.mem_of_getElem? (i := 668) (by decide +kernel), List.mem_of_getElem? (i := 802) (by decide +kernel), List.mem_of_getElem? (i := 803) (by decide +kernel)⟩
theorem lw_p27 : lw_okq (⟨"ChairRegentsModel", "readItem", "()V"⟩, 36) := ⟨⟨by decide +kernel, by decide +kernel⟩, List.mem_of_getElem? (i := 668) (by decide +kernel), List.mem_of_getElem? (i := 815) (by decide +kernel), List.mem_of_getElem? (i := 816) (by decide +kernel)⟩
theorem lw_p28 : lw_okq (⟨"ChairRegentsModel", "readCells", "()V"⟩, 36) := ⟨⟨by decide +kernel, by decide +kernel⟩, List.mem_of_getElem? (i := 668) (by decide +kernel), List.mem_of_getElem? (i := 819) (by decide +kernel), List.mem_of_getElem? (i := 820) (by decide +kernel)⟩
theorem lw_p29 : lw_okq (⟨"ChairRegentsModel", "readChair", "()V"⟩, 36) := ⟨⟨by decide +kernel, by decide +kernel⟩, List.mem_of_getElem? (i := 668) (by decide +kernel), List.mem_of_getElem? (i := 823) (by decide +kernel), List.mem_of_getElem? (i := 824) (by decide +kernel)⟩
theorem lw_p30 : lw_okq (⟨"ChairRegentsModel", "takes", "(II)I"⟩, 36) := ⟨⟨by decide +kernel, by decide +kernel⟩, List.mem_of_getElem? (i := 668) (by decide +kernel), List.mem_of_getElem? (i := 827) (by decide +kernel), List.mem_of_getElem? (i := 828) (by decide +kernel)⟩
theorem lw_p31 : lw_okq (⟨"ChairRegentsModel", "readPusher", "()V"⟩, 36) := ⟨⟨by decide +kernel, by decide +kernel⟩, List.mem_of_getElem? (i := 668) (by decide +kernel), List.mem_of_getElem? (i := 831) (by decide +kernel), List.mem_of_getElem? (i := 832) (by decide +kernel)⟩
def lw_privs_2 : List (MethodName × Nat) := [(⟨"ChairRegents$Forecast", "startWays", "()V"⟩, 6), (⟨"ChairRegents$Forecast", "toNextWay", "()Z"⟩, 6), (⟨"ChairRegents$Forecast", "swapInWay", "(II)V"⟩, 6), (⟨"ChairRegents$Day", "weeksOf", "(LChairRegents$Spa;I)I"⟩, 6), (⟨"ChairRegents$Stopwatch", "isAllAsIf", "(ZLChairRegents$Spa;LChairRegents$Day;I)Z"⟩, 3), (⟨"ChairRegents$Deeds", "dropOldest", "()V"⟩, 4), (⟨"ChairRegents$Forecast", "changedByWay", "()I"⟩, 6), (⟨"ChairRegents$Forecast", "weightOf", "(II)I"⟩, 6), (⟨"ChairRegents", "imageOf", "(I)LChairRegents$Day;"⟩, 10), (⟨"ChairRegentsModel", "next", "()V"⟩, 36), (⟨"ChairRegentsModel", "letterAt", "(I)I"⟩, 36), (⟨"ChairRegentsModel", "readItem", "()V"⟩, 36), (⟨"ChairRegentsModel", "readCells", "()V"⟩, 36), (⟨"ChairRegentsModel", "readChair", "()V"⟩, 36), (⟨"ChairRegentsModel", "takes", "(II)I"⟩, 36), (⟨"ChairRegentsModel", "readPusher", "()V"⟩, 36)]
theorem lw_r2 : ∀ q ∈ lw_privs_2, lw_okq q := List.forall_mem_cons.mpr ⟨lw_p16, List.forall_mem_cons.mpr ⟨lw_p17, List.forall_mem_cons.mpr ⟨lw_p18, List.forall_mem_cons.mpr ⟨lw_p19, List.forall_mem_cons.mpr ⟨lw_p20, List.forall_mem_cons.mpr ⟨lw_p21, List.forall_mem_cons.mpr ⟨lw_p22, List.forall_mem_cons.mpr ⟨lw_p23, List.forall_mem_cons.mpr ⟨lw_p24, List.forall_mem_cons.mpr ⟨lw_p25, List.forall_mem_cons.mpr ⟨lw_p26, List.forall_mem_cons.mpr ⟨lw_p27, List.forall_mem_cons.mpr ⟨lw_p28, List.forall_mem_cons.mpr ⟨lw_p29, List.forall_mem_cons.mpr ⟨lw_p30, List.forall_mem_cons.mpr ⟨lw_p31, fun _ h => absurd h List.not_mem_nil⟩⟩⟩⟩⟩⟩⟩⟩⟩⟩⟩⟩⟩⟩⟩⟩
theorem lw_p32 : lw_okq (⟨"ChairRegentsModel", "settles", "()V"⟩, 36) := ⟨⟨by decide +kernel, by decide +kernel⟩, List.mem_of_getElem? (i := 668) (by decide +kernel), List.mem_of_getElem? (i := 835) (by decide +kernel), List.mem_of_getElem? (i := 836) (by decide +kernel)⟩
theorem lw_p33 : lw_okq (⟨"ChairRegentsModel", "isChair", "(I)Z"⟩, 36) := ⟨⟨by decide +kernel, by decide +kernel⟩, List.mem_of_getElem? (i := 668) (by decide +kernel), List.mem_of_getElem? (i := 843) (by decide +kernel), List.mem_of_getElem? (i := 844) (by decide +kernel)⟩
theorem lw_p34 : lw_okq (⟨"ChairRegentsModel", "asItIs", "()V"⟩, 36) := ⟨⟨by decide +kernel, by decide +kernel⟩, List.mem_of_getElem? (i := 668) (by decide +kernel), List.mem_of_getElem? (i := 847) (by decide +kernel), List.mem_of_getElem? (i := 848) (by decide +kernel)⟩
theorem lw_p35 : lw_okq (⟨"ChairRegentsModel", "gainOf", "(II)I"⟩, 36) := ⟨⟨by decide +kernel, by decide +kernel⟩, List.mem_of_getElem? (i := 668) (by decide +kernel), List.mem_of_getElem? (i := 857) (by decide +kernel), List.mem_of_getElem? (i := 858) (by decide +kernel)⟩
theorem lw_p36 : lw_okq (⟨"ChairRegentsModel", "isRace", "()Z"⟩, 36) := ⟨⟨by decide +kernel, by decide +kernel⟩, List.mem_of_getElem? (i := 668) (by decide +kernel), List.mem_of_getElem? (i := 873) (by decide +kernel), List.mem_of_getElem? (i := 874) (by decide +kernel)⟩
theorem lw_p37 : lw_okq (⟨"ChairRegentsModel", "first", "()I"⟩, 36) := ⟨⟨by decide +kernel, by decide +kernel⟩, List.mem_of_getElem? (i := 668) (by decide +kernel), List.mem_of_getElem? (i := 877) (by decide +kernel), List.mem_of_getElem? (i := 878) (by decide +kernel)⟩
theorem lw_p38 : lw_okq (⟨"ChairRegentsModel", "races", "(I)V"⟩, 36) := ⟨⟨by decide +kernel, by decide +kernel⟩, List.mem_of_getElem? (i := 668) (by decide +kernel), List.mem_of_getElem? (i := 881) (by decide +kernel), List.mem_of_getElem? (i := 882) (by decide +kernel)⟩
theorem lw_p39 : lw_okq (⟨"ChairRegentsModel", "goes", "(III)V"⟩, 36) := ⟨⟨by decide +kernel, by decide +kernel⟩, List.mem_of_getElem? (i := 668) (by decide +kernel), List.mem_of_getElem? (i := 885) (by decide +kernel), List.mem_of_getElem? (i := 886) (by decide +kernel)⟩
theorem lw_p40 : lw_okq (⟨"ChairRegentsModel", "isTaken", "(II)Z"⟩, 36) := ⟨⟨by decide +kernel, by decide +kernel⟩, List.mem_of_getElem? (i := 668) (by decide +kernel), List.mem_of_getElem? (i := 889) (by decide +kernel), List.mem_of_getElem? (i := 890) (by decide +kernel)⟩
theorem lw_p41 : lw_okq (⟨"ChairRegentsModel", "kings", "()I"⟩, 36) := ⟨⟨by decide +kernel, by decide +kernel⟩, List.mem_of_getElem? (i := 668) (by decide +kernel), List.mem_of_getElem? (i := 893) (by decide +kernel), List.mem_of_getElem? (i := 894) (by decide +kernel)⟩
theorem lw_p42 : lw_okq (⟨"ChairRegentsModel", "findKings", "()V"⟩, 36) := ⟨⟨by decide +kernel, by decide +kernel⟩, List.mem_of_getElem? (i := 668) (by decide +kernel), List.mem_of_getElem? (i := 897) (by decide +kernel), List.mem_of_getElem? (i := 898) (by decide +kernel)⟩
theorem lw_p43 : lw_okq (⟨"ChairRegentsModel", "ruled", "()I"⟩, 36) := ⟨⟨by decide +kernel, by decide +kernel⟩, List.mem_of_getElem? (i := 668) (by decide +kernel), List.mem_of_getElem? (i := 904) (by decide +kernel), List.mem_of_getElem? (i := 905) (by decide +kernel)⟩
theorem lw_p44 : lw_okq (⟨"ChairRegentsModel", "suspects", "(Z)I"⟩, 36) := ⟨⟨by decide +kernel, by decide +kernel⟩, List.mem_of_getElem? (i := 668) (by decide +kernel), List.mem_of_getElem? (i := 908) (by decide +kernel), List.mem_of_getElem? (i := 909) (by decide +kernel)⟩
theorem lw_p45 : lw_okq (⟨"ChairRegentsModel", "isSo", "(IZ)Z"⟩, 36) := ⟨⟨by decide +kernel, by decide +kernel⟩, List.mem_of_getElem? (i := 668) (by decide +kernel), List.mem_of_getElem? (i := 912) (by decide +kernel), List.mem_of_getElem? (i := 913) (by decide +kernel)⟩
theorem lw_p46 : lw_okq (⟨"ChairRegentsModel", "aloneOf", "(I)I"⟩, 36) := ⟨⟨by decide +kernel, by decide +kernel⟩, List.mem_of_getElem? (i := 668) (by decide +kernel), List.mem_of_getElem? (i := 916) (by decide +kernel), List.mem_of_getElem? (i := 917) (by decide +kernel)⟩
theorem lw_p47 : lw_okq (⟨"ChairRegentsModel", "remembers", "()V"⟩, 36) := ⟨⟨by decide +kernel, by decide +kernel⟩, List.mem_of_getElem? (i := 668) (by decide +kernel), List.mem_of_getElem? (i := 924) (by decide +kernel), List.mem_of_getElem? (i := 925) (by decide +kernel)⟩
def lw_privs_3 : List (MethodName × Nat) := [(⟨"ChairRegentsModel", "settles", "()V"⟩, 36), (⟨"ChairRegentsModel", "isChair", "(I)Z"⟩, 36), (⟨"ChairRegentsModel", "asItIs", "()V"⟩, 36), (⟨"ChairRegentsModel", "gainOf", "(II)I"⟩, 36), (⟨"ChairRegentsModel", "isRace", "()Z"⟩, 36), (⟨"ChairRegentsModel", "first", "()I"⟩, 36), (⟨"ChairRegentsModel", "races", "(I)V"⟩, 36), (⟨"ChairRegentsModel", "goes", "(III)V"⟩, 36), (⟨"ChairRegentsModel", "isTaken", "(II)Z"⟩, 36), (⟨"ChairRegentsModel", "kings", "()I"⟩, 36), (⟨"ChairRegentsModel", "findKings", "()V"⟩, 36), (⟨"ChairRegentsModel", "ruled", "()I"⟩, 36), (⟨"ChairRegentsModel", "suspects", "(Z)I"⟩, 36), (⟨"ChairRegentsModel", "isSo", "(IZ)Z"⟩, 36), (⟨"ChairRegentsModel", "aloneOf", "(I)I"⟩, 36), (⟨"ChairRegentsModel", "remembers", "()V"⟩, 36)]
theorem lw_r3 : ∀ q ∈ lw_privs_3, lw_okq q := List.forall_mem_cons.mpr ⟨lw_p32, List.forall_mem_cons.mpr ⟨lw_p33, List.forall_mem_cons.mpr ⟨lw_p34, List.forall_mem_cons.mpr ⟨lw_p35, List.forall_mem_cons.mpr ⟨lw_p36, List.forall_mem_cons.mpr ⟨lw_p37, List.forall_mem_cons.mpr ⟨lw_p38, List.forall_mem_cons.mpr ⟨lw_p39, List.forall_mem_cons.mpr ⟨lw_p40, List.forall_mem_cons.mpr ⟨lw_p41, List.forall_mem_cons.mpr ⟨lw_p42, List.forall_mem_cons.mpr ⟨lw_p43, List.forall_mem_cons.mpr ⟨lw_p44, List.forall_mem_cons.mpr ⟨lw_p45, List.forall_mem_cons.mpr ⟨lw_p46, List.forall_mem_cons.mpr ⟨lw_p47, fun _ h => absurd h List.not_mem_nil⟩⟩⟩⟩⟩⟩⟩⟩⟩⟩⟩⟩⟩⟩⟩⟩
def lw_privs : List (MethodName × Nat) := lw_privs_1 ++ (lw_privs_2 ++ (lw_privs_3))
def lw_tbl : List Cond := k2_sels lw_privs ++ tables_1
theorem lw_privs_ok : ∀ q ∈ lw_privs, lw_okq q := by
  show ∀ q ∈ lw_privs_1 ++ (lw_privs_2 ++ (lw_privs_3)), lw_okq q
  exact List.forall_mem_append.mpr ⟨lw_r1, List.forall_mem_append.mpr ⟨lw_r2, lw_r3⟩⟩
end
section
def RX0 : String := "ChairRegents$Day"
def TX0 : u_T := fun k => match k with
  | 0 => ("ChairRegents$Day", "pushers", "[I", true)
  | 1 => ("ChairRegents$Day", "handicaps", "[I", true)
  | 2 => ("ChairRegents$Day", "greased", "[Z", true)
  | 3 => ("ChairRegents$Day", "regencies", "[I", true)
  | 4 => ("ChairRegents$Day", "weeks", "I", false)
  | _ => ("ChairRegents$Day", "isKept", "Z", false)
def tyX0 : Nat → FieldType := fun k => match k with
  | 0 => .array .int
  | 1 => .array .int
  | 2 => .array .boolean
  | 3 => .array .int
  | 4 => .int
  | _ => .boolean
theorem nmX0 : ∀ a, a < 6 → ∀ b, b < 6 → a ≠ b → (TX0 a).2.1 ≠ (TX0 b).2.1 := by decide +kernel
theorem tyX0_ok : ∀ k, k < 6 → parseFieldDescriptor (TX0 k).2.2.1 = some (tyX0 k) := by decide +kernel
abbrev cX0_init : ByteArray := prog_2_method_1_code
def yX0_init : MethodName := ⟨RX0, "<init>", "()V"⟩
abbrev cX0_start : ByteArray := prog_2_method_2_code
def yX0_start : MethodName := ⟨RX0, "start", "()V"⟩
abbrev cX0_become : ByteArray := prog_2_method_3_code
def yX0_become : MethodName := ⟨RX0, "become", "(LChairRegents$Day;)V"⟩
abbrev cX0_exchange : ByteArray := prog_2_method_4_code
def yX0_exchange : MethodName := ⟨RX0, "exchange", "(II)V"⟩
abbrev cX0_greasedCount : ByteArray := prog_2_method_5_code
def yX0_greasedCount : MethodName := ⟨RX0, "greasedCount", "(I)I"⟩
abbrev cX0_gainOf : ByteArray := prog_2_method_6_code
def yX0_gainOf : MethodName := ⟨RX0, "gainOf", "(LChairRegents$Spa;I)I"⟩
abbrev cX0_aloneOf : ByteArray := prog_2_method_7_code
def yX0_aloneOf : MethodName := ⟨RX0, "aloneOf", "(LChairRegents$Spa;IZ)I"⟩
abbrev cX0_ruledMost : ByteArray := prog_2_method_8_code
def yX0_ruledMost : MethodName := ⟨RX0, "ruledMost", "(LChairRegents$Spa;)I"⟩
abbrev cX0_weeksOf : ByteArray := prog_2_method_9_code
def yX0_weeksOf : MethodName := ⟨RX0, "weeksOf", "(LChairRegents$Spa;I)I"⟩
def RX1 : String := "ChairRegents$Deeds"
def TX1 : u_T := fun k => match k with
  | 0 => ("ChairRegents$Deeds", "whats", "[I", true)
  | 1 => ("ChairRegents$Deeds", "chairs", "[I", true)
  | 2 => ("ChairRegents$Deeds", "others", "[I", true)
  | _ => ("ChairRegents$Deeds", "size", "I", false)
def tyX1 : Nat → FieldType := fun k => match k with
  | 0 => .array .int
  | 1 => .array .int
  | 2 => .array .int
  | _ => .int
theorem nmX1 : ∀ a, a < 4 → ∀ b, b < 4 → a ≠ b → (TX1 a).2.1 ≠ (TX1 b).2.1 := by decide +kernel
theorem tyX1_ok : ∀ k, k < 4 → parseFieldDescriptor (TX1 k).2.2.1 = some (tyX1 k) := by decide +kernel
abbrev cX1_init : ByteArray := prog_3_method_1_code
def yX1_init : MethodName := ⟨RX1, "<init>", "()V"⟩
abbrev cX1_add : ByteArray := prog_3_method_2_code
def yX1_add : MethodName := ⟨RX1, "add", "(III)V"⟩
abbrev cX1_takeBackLatest : ByteArray := prog_3_method_3_code
def yX1_takeBackLatest : MethodName := ⟨RX1, "takeBackLatest", "(LChairRegents$Day;)V"⟩
abbrev cX1_dropOldest : ByteArray := prog_3_method_4_code
def yX1_dropOldest : MethodName := ⟨RX1, "dropOldest", "()V"⟩
def RX2 : String := "ChairRegents$Forecast"
def TX2 : u_T := fun k => match k with
  | 0 => ("ChairRegents$Forecast", "told", "LChairRegents$Spa;", true)
  | 1 => ("ChairRegents$Forecast", "today", "LChairRegents$Day;", true)
  | 2 => ("ChairRegents$Forecast", "race", "LChairRegents$Race;", true)
  | 3 => ("ChairRegents$Forecast", "way", "[I", true)
  | 4 => ("ChairRegents$Forecast", "kingsWay", "[I", true)
  | _ => ("ChairRegents$Forecast", "unhindered", "[I", true)
def tyX2 : Nat → FieldType := fun k => match k with
  | 0 => .object "ChairRegents$Spa"
  | 1 => .object "ChairRegents$Day"
  | 2 => .object "ChairRegents$Race"
  | 3 => .array .int
  | 4 => .array .int
  | _ => .array .int
theorem nmX2 : ∀ a, a < 6 → ∀ b, b < 6 → a ≠ b → (TX2 a).2.1 ≠ (TX2 b).2.1 := by decide +kernel
theorem tyX2_ok : ∀ k, k < 6 → parseFieldDescriptor (TX2 k).2.2.1 = some (tyX2 k) := by decide +kernel
abbrev cX2_init : ByteArray := prog_4_method_1_code
def yX2_init : MethodName := ⟨RX2, "<init>", "(LChairRegents$Spa;LChairRegents$Day;)V"⟩
abbrev cX2_winner : ByteArray := prog_4_method_2_code
def yX2_winner : MethodName := ⟨RX2, "winner", "()I"⟩
abbrev cX2_timeOf : ByteArray := prog_4_method_3_code
def yX2_timeOf : MethodName := ⟨RX2, "timeOf", "(I)I"⟩
abbrev cX2_placed : ByteArray := prog_4_method_4_code
def yX2_placed : MethodName := ⟨RX2, "placed", "(I)I"⟩
abbrev cX2_kings : ByteArray := prog_4_method_5_code
def yX2_kings : MethodName := ⟨RX2, "kings", "()I"⟩
abbrev cX2_findKing : ByteArray := prog_4_method_6_code
def yX2_findKing : MethodName := ⟨RX2, "findKing", "(I)I"⟩
abbrev cX2_kingsPusher : ByteArray := prog_4_method_7_code
def yX2_kingsPusher : MethodName := ⟨RX2, "kingsPusher", "(I)I"⟩
abbrev cX2_fairGoal : ByteArray := prog_4_method_8_code
def yX2_fairGoal : MethodName := ⟨RX2, "fairGoal", "()I"⟩
abbrev cX2_handicapFor : ByteArray := prog_4_method_9_code
def yX2_handicapFor : MethodName := ⟨RX2, "handicapFor", "(II)I"⟩
abbrev cX2_spreadFor : ByteArray := prog_4_method_10_code
def yX2_spreadFor : MethodName := ⟨RX2, "spreadFor", "(I)I"⟩
abbrev cX2_winsIn : ByteArray := prog_4_method_11_code
def yX2_winsIn : MethodName := ⟨RX2, "winsIn", "(II)I"⟩
abbrev cX2_allIn : ByteArray := prog_4_method_12_code
def yX2_allIn : MethodName := ⟨RX2, "allIn", "()I"⟩
abbrev cX2_weightOf : ByteArray := prog_4_method_13_code
def yX2_weightOf : MethodName := ⟨RX2, "weightOf", "(II)I"⟩
abbrev cX2_isIll : ByteArray := prog_4_method_14_code
def yX2_isIll : MethodName := ⟨RX2, "isIll", "(II)Z"⟩
abbrev cX2_winnerBy : ByteArray := prog_4_method_15_code
def yX2_winnerBy : MethodName := ⟨RX2, "winnerBy", "([II)I"⟩
abbrev cX2_raceBy : ByteArray := prog_4_method_16_code
def yX2_raceBy : MethodName := ⟨RX2, "raceBy", "([III)V"⟩
abbrev cX2_startWays : ByteArray := prog_4_method_17_code
def yX2_startWays : MethodName := ⟨RX2, "startWays", "()V"⟩
abbrev cX2_changedByWay : ByteArray := prog_4_method_18_code
def yX2_changedByWay : MethodName := ⟨RX2, "changedByWay", "()I"⟩
abbrev cX2_toNextWay : ByteArray := prog_4_method_19_code
def yX2_toNextWay : MethodName := ⟨RX2, "toNextWay", "()Z"⟩
abbrev cX2_swapInWay : ByteArray := prog_4_method_20_code
def yX2_swapInWay : MethodName := ⟨RX2, "swapInWay", "(II)V"⟩
def RX3 : String := "ChairRegents$Kinds"
def TX3 : u_T := fun k => match k with
  | 0 => ("ChairRegents$Kinds", "told", "LChairRegents$Spa;", true)
  | 1 => ("ChairRegents$Kinds", "today", "LChairRegents$Day;", true)
  | _ => ("ChairRegents$Kinds", "marks", "J", false)
def tyX3 : Nat → FieldType := fun k => match k with
  | 0 => .object "ChairRegents$Spa"
  | 1 => .object "ChairRegents$Day"
  | _ => .long
theorem nmX3 : ∀ a, a < 3 → ∀ b, b < 3 → a ≠ b → (TX3 a).2.1 ≠ (TX3 b).2.1 := by decide +kernel
theorem tyX3_ok : ∀ k, k < 3 → parseFieldDescriptor (TX3 k).2.2.1 = some (tyX3 k) := by decide +kernel
abbrev cX3_init : ByteArray := prog_5_method_1_code
def yX3_init : MethodName := ⟨RX3, "<init>", "(LChairRegents$Spa;LChairRegents$Day;)V"⟩
abbrev cX3_asChair : ByteArray := prog_5_method_2_code
def yX3_asChair : MethodName := ⟨RX3, "asChair", "(I)I"⟩
abbrev cX3_asWidow : ByteArray := prog_5_method_3_code
def yX3_asWidow : MethodName := ⟨RX3, "asWidow", "(I)I"⟩
abbrev cX3_asAunt : ByteArray := prog_5_method_4_code
def yX3_asAunt : MethodName := ⟨RX3, "asAunt", "(I)I"⟩
abbrev cX3_asPug : ByteArray := prog_5_method_5_code
def yX3_asPug : MethodName := ⟨RX3, "asPug", "(I)I"⟩
abbrev cX3_asVeil : ByteArray := prog_5_method_6_code
def yX3_asVeil : MethodName := ⟨RX3, "asVeil", "(I)I"⟩
abbrev cX3_asInfant : ByteArray := prog_5_method_7_code
def yX3_asInfant : MethodName := ⟨RX3, "asInfant", "(I)I"⟩
def RX4 : String := "ChairRegents$Race"
def TX4 : u_T := fun k => match k with
  | 0 => ("ChairRegents$Race", "gains", "[I", true)
  | 1 => ("ChairRegents$Race", "minutes", "[I", true)
  | 2 => ("ChairRegents$Race", "cells", "[I", true)
  | 3 => ("ChairRegents$Race", "points", "[I", true)
  | 4 => ("ChairRegents$Race", "order", "[I", true)
  | _ => ("ChairRegents$Race", "inCount", "I", false)
def tyX4 : Nat → FieldType := fun k => match k with
  | 0 => .array .int
  | 1 => .array .int
  | 2 => .array .int
  | 3 => .array .int
  | 4 => .array .int
  | _ => .int
theorem nmX4 : ∀ a, a < 6 → ∀ b, b < 6 → a ≠ b → (TX4 a).2.1 ≠ (TX4 b).2.1 := by decide +kernel
theorem tyX4_ok : ∀ k, k < 6 → parseFieldDescriptor (TX4 k).2.2.1 = some (tyX4 k) := by decide +kernel
abbrev cX4_init : ByteArray := prog_6_method_1_code
def yX4_init : MethodName := ⟨RX4, "<init>", "()V"⟩
abbrev cX4_go : ByteArray := prog_6_method_2_code
def yX4_go : MethodName := ⟨RX4, "go", "(LChairRegents$Spa;[II)V"⟩
abbrev cX4_inAs : ByteArray := prog_6_method_3_code
def yX4_inAs : MethodName := ⟨RX4, "inAs", "(I)I"⟩
abbrev cX4_move : ByteArray := prog_6_method_4_code
def yX4_move : MethodName := ⟨RX4, "move", "(LChairRegents$Spa;II)V"⟩
abbrev cX4_isBlocked : ByteArray := prog_6_method_5_code
def yX4_isBlocked : MethodName := ⟨RX4, "isBlocked", "(LChairRegents$Spa;II)Z"⟩
abbrev cX4_arrive : ByteArray := prog_6_method_6_code
def yX4_arrive : MethodName := ⟨RX4, "arrive", "(II)V"⟩
def RX5 : String := "ChairRegents$Script"
def TX5 : u_T := fun k => match k with
  | 0 => ("ChairRegents$Script", "letters", "[I", true)
  | 1 => ("ChairRegents$Script", "length", "I", false)
  | 2 => ("ChairRegents$Script", "next", "I", false)
  | 3 => ("ChairRegents$Script", "token", "I", false)
  | 4 => ("ChairRegents$Script", "tokenPlace", "I", false)
  | _ => ("ChairRegents$Script", "value", "I", false)
def tyX5 : Nat → FieldType := fun k => match k with
  | 0 => .array .int
  | 1 => .int
  | 2 => .int
  | 3 => .int
  | 4 => .int
  | _ => .int
theorem nmX5 : ∀ a, a < 6 → ∀ b, b < 6 → a ≠ b → (TX5 a).2.1 ≠ (TX5 b).2.1 := by decide +kernel
theorem tyX5_ok : ∀ k, k < 6 → parseFieldDescriptor (TX5 k).2.2.1 = some (tyX5 k) := by decide +kernel
abbrev cX5_init : ByteArray := prog_7_method_1_code
def yX5_init : MethodName := ⟨RX5, "<init>", "()V"⟩
abbrev cX5_write : ByteArray := prog_7_method_2_code
def yX5_write : MethodName := ⟨RX5, "write", "(I)V"⟩
abbrev cX5_readInto : ByteArray := prog_7_method_3_code
def yX5_readInto : MethodName := ⟨RX5, "readInto", "(LChairRegents$Spa;)I"⟩
abbrev cX5_readItem : ByteArray := prog_7_method_4_code
def yX5_readItem : MethodName := ⟨RX5, "readItem", "(LChairRegents$Spa;)Z"⟩
abbrev cX5_readPromenade : ByteArray := prog_7_method_5_code
def yX5_readPromenade : MethodName := ⟨RX5, "readPromenade", "(LChairRegents$Spa;)Z"⟩
abbrev cX5_costOfToken : ByteArray := prog_7_method_6_code
def yX5_costOfToken : MethodName := ⟨RX5, "costOfToken", "()I"⟩
abbrev cX5_readChair : ByteArray := prog_7_method_7_code
def yX5_readChair : MethodName := ⟨RX5, "readChair", "(LChairRegents$Spa;)Z"⟩
abbrev cX5_readPusher : ByteArray := prog_7_method_8_code
def yX5_readPusher : MethodName := ⟨RX5, "readPusher", "(LChairRegents$Spa;)Z"⟩
abbrev cX5_readNumber : ByteArray := prog_7_method_9_code
def yX5_readNumber : MethodName := ⟨RX5, "readNumber", "(II)Z"⟩
abbrev cX5_readEnd : ByteArray := prog_7_method_10_code
def yX5_readEnd : MethodName := ⟨RX5, "readEnd", "()Z"⟩
abbrev cX5_readToken : ByteArray := prog_7_method_11_code
def yX5_readToken : MethodName := ⟨RX5, "readToken", "()V"⟩
abbrev cX5_readDigits : ByteArray := prog_7_method_12_code
def yX5_readDigits : MethodName := ⟨RX5, "readDigits", "()V"⟩
abbrev cX5_isDigitAt : ByteArray := prog_7_method_13_code
def yX5_isDigitAt : MethodName := ⟨RX5, "isDigitAt", "(I)Z"⟩
def RX6 : String := "ChairRegents$Spa"
def TX6 : u_T := fun k => match k with
  | 0 => ("ChairRegents$Spa", "costs", "[I", true)
  | 1 => ("ChairRegents$Spa", "weights", "[I", true)
  | 2 => ("ChairRegents$Spa", "policies", "[I", true)
  | 3 => ("ChairRegents$Spa", "strengths", "[I", true)
  | 4 => ("ChairRegents$Spa", "cellCount", "I", false)
  | 5 => ("ChairRegents$Spa", "chairCount", "I", false)
  | _ => ("ChairRegents$Spa", "length", "I", false)
def tyX6 : Nat → FieldType := fun k => match k with
  | 0 => .array .int
  | 1 => .array .int
  | 2 => .array .int
  | 3 => .array .int
  | 4 => .int
  | 5 => .int
  | _ => .int
theorem nmX6 : ∀ a, a < 7 → ∀ b, b < 7 → a ≠ b → (TX6 a).2.1 ≠ (TX6 b).2.1 := by decide +kernel
theorem tyX6_ok : ∀ k, k < 7 → parseFieldDescriptor (TX6 k).2.2.1 = some (tyX6 k) := by decide +kernel
abbrev cX6_init : ByteArray := prog_8_method_1_code
def yX6_init : MethodName := ⟨RX6, "<init>", "()V"⟩
abbrev cX6_empty : ByteArray := prog_8_method_2_code
def yX6_empty : MethodName := ⟨RX6, "empty", "()V"⟩
abbrev cX6_become : ByteArray := prog_8_method_3_code
def yX6_become : MethodName := ⟨RX6, "become", "(LChairRegents$Spa;)V"⟩
abbrev cX6_hasRace : ByteArray := prog_8_method_4_code
def yX6_hasRace : MethodName := ⟨RX6, "hasRace", "()Z"⟩
abbrev cX6_addCell : ByteArray := prog_8_method_5_code
def yX6_addCell : MethodName := ⟨RX6, "addCell", "(I)V"⟩
abbrev cX6_addChair : ByteArray := prog_8_method_6_code
def yX6_addChair : MethodName := ⟨RX6, "addChair", "(II)V"⟩
abbrev cX6_strengthOf : ByteArray := prog_8_method_7_code
def yX6_strengthOf : MethodName := ⟨RX6, "strengthOf", "(I)I"⟩
abbrev cX6_gainBy : ByteArray := prog_8_method_8_code
def yX6_gainBy : MethodName := ⟨RX6, "gainBy", "(IIZ)I"⟩
abbrev cX6_minutesBy : ByteArray := prog_8_method_9_code
def yX6_minutesBy : MethodName := ⟨RX6, "minutesBy", "(I)I"⟩
def RX7 : String := "ChairRegents$Stopwatch"
def TX7 : u_T := fun k => match k with
  | 0 => ("ChairRegents$Stopwatch", "chairs", "[I", true)
  | 1 => ("ChairRegents$Stopwatch", "minutes", "[I", true)
  | _ => ("ChairRegents$Stopwatch", "size", "I", false)
def tyX7 : Nat → FieldType := fun k => match k with
  | 0 => .array .int
  | 1 => .array .int
  | _ => .int
theorem nmX7 : ∀ a, a < 3 → ∀ b, b < 3 → a ≠ b → (TX7 a).2.1 ≠ (TX7 b).2.1 := by decide +kernel
theorem tyX7_ok : ∀ k, k < 3 → parseFieldDescriptor (TX7 k).2.2.1 = some (tyX7 k) := by decide +kernel
abbrev cX7_init : ByteArray := prog_9_method_1_code
def yX7_init : MethodName := ⟨RX7, "<init>", "()V"⟩
abbrev cX7_note : ByteArray := prog_9_method_2_code
def yX7_note : MethodName := ⟨RX7, "note", "(II)V"⟩
abbrev cX7_suspects : ByteArray := prog_9_method_3_code
def yX7_suspects : MethodName := ⟨RX7, "suspects", "(ZLChairRegents$Spa;LChairRegents$Day;)I"⟩
abbrev cX7_isAllAsIf : ByteArray := prog_9_method_4_code
def yX7_isAllAsIf : MethodName := ⟨RX7, "isAllAsIf", "(ZLChairRegents$Spa;LChairRegents$Day;I)Z"⟩
def RX8 : String := "ChairRegents"
def TX8 : u_T := fun k => match k with
  | 0 => ("ChairRegents", "script", "LChairRegents$Script;", true)
  | 1 => ("ChairRegents", "told", "LChairRegents$Spa;", true)
  | 2 => ("ChairRegents", "draft", "LChairRegents$Spa;", true)
  | 3 => ("ChairRegents", "today", "LChairRegents$Day;", true)
  | 4 => ("ChairRegents", "firstImage", "LChairRegents$Day;", true)
  | 5 => ("ChairRegents", "secondImage", "LChairRegents$Day;", true)
  | 6 => ("ChairRegents", "deeds", "LChairRegents$Deeds;", true)
  | 7 => ("ChairRegents", "stopwatch", "LChairRegents$Stopwatch;", true)
  | 8 => ("ChairRegents", "forecast", "LChairRegents$Forecast;", true)
  | _ => ("ChairRegents", "kinds", "LChairRegents$Kinds;", true)
def tyX8 : Nat → FieldType := fun k => match k with
  | 0 => .object "ChairRegents$Script"
  | 1 => .object "ChairRegents$Spa"
  | 2 => .object "ChairRegents$Spa"
  | 3 => .object "ChairRegents$Day"
  | 4 => .object "ChairRegents$Day"
  | 5 => .object "ChairRegents$Day"
  | 6 => .object "ChairRegents$Deeds"
  | 7 => .object "ChairRegents$Stopwatch"
  | 8 => .object "ChairRegents$Forecast"
  | _ => .object "ChairRegents$Kinds"
theorem nmX8 : ∀ a, a < 10 → ∀ b, b < 10 → a ≠ b → (TX8 a).2.1 ≠ (TX8 b).2.1 := by decide +kernel
theorem tyX8_ok : ∀ k, k < 10 → parseFieldDescriptor (TX8 k).2.2.1 = some (tyX8 k) := by decide +kernel
abbrev cX8_init : ByteArray := prog_1_method_1_code
def yX8_init : MethodName := ⟨RX8, "<init>", "()V"⟩
abbrev cX8_type : ByteArray := prog_1_method_2_code
def yX8_type : MethodName := ⟨RX8, "type", "(I)I"⟩
abbrev cX8_clear : ByteArray := prog_1_method_3_code
def yX8_clear : MethodName := ⟨RX8, "clear", "()I"⟩
abbrev cX8_spa : ByteArray := prog_1_method_4_code
def yX8_spa : MethodName := ⟨RX8, "spa", "()I"⟩
abbrev cX8_chair : ByteArray := prog_1_method_5_code
def yX8_chair : MethodName := ⟨RX8, "chair", "(II)I"⟩
abbrev cX8_pusher : ByteArray := prog_1_method_6_code
def yX8_pusher : MethodName := ⟨RX8, "pusher", "(I)I"⟩
abbrev cX8_cell : ByteArray := prog_1_method_7_code
def yX8_cell : MethodName := ⟨RX8, "cell", "(I)I"⟩
abbrev cX8_now : ByteArray := prog_1_method_8_code
def yX8_now : MethodName := ⟨RX8, "now", "(I)I"⟩
abbrev cX8_tuesday : ByteArray := prog_1_method_9_code
def yX8_tuesday : MethodName := ⟨RX8, "tuesday", "()I"⟩
abbrev cX8_changes : ByteArray := prog_1_method_10_code
def yX8_changes : MethodName := ⟨RX8, "changes", "(II)I"⟩
abbrev cX8_sets : ByteArray := prog_1_method_11_code
def yX8_sets : MethodName := ⟨RX8, "sets", "(II)I"⟩
abbrev cX8_greases : ByteArray := prog_1_method_12_code
def yX8_greases : MethodName := ⟨RX8, "greases", "(II)I"⟩
abbrev cX8_undo : ByteArray := prog_1_method_13_code
def yX8_undo : MethodName := ⟨RX8, "undo", "()I"⟩
abbrev cX8_time : ByteArray := prog_1_method_14_code
def yX8_time : MethodName := ⟨RX8, "time", "(I)I"⟩
abbrev cX8_place : ByteArray := prog_1_method_15_code
def yX8_place : MethodName := ⟨RX8, "place", "(I)I"⟩
abbrev cX8_alone : ByteArray := prog_1_method_16_code
def yX8_alone : MethodName := ⟨RX8, "alone", "(I)I"⟩
abbrev cX8_king : ByteArray := prog_1_method_17_code
def yX8_king : MethodName := ⟨RX8, "king", "(II)I"⟩
abbrev cX8_fair : ByteArray := prog_1_method_18_code
def yX8_fair : MethodName := ⟨RX8, "fair", "(I)I"⟩
abbrev cX8_odds : ByteArray := prog_1_method_19_code
def yX8_odds : MethodName := ⟨RX8, "odds", "(III)I"⟩
abbrev cX8_times : ByteArray := prog_1_method_20_code
def yX8_times : MethodName := ⟨RX8, "times", "(II)I"⟩
abbrev cX8_forget : ByteArray := prog_1_method_21_code
def yX8_forget : MethodName := ⟨RX8, "forget", "()I"⟩
abbrev cX8_rate : ByteArray := prog_1_method_22_code
def yX8_rate : MethodName := ⟨RX8, "rate", "(II)I"⟩
abbrev cX8_keep : ByteArray := prog_1_method_23_code
def yX8_keep : MethodName := ⟨RX8, "keep", "(I)I"⟩
abbrev cX8_back : ByteArray := prog_1_method_24_code
def yX8_back : MethodName := ⟨RX8, "back", "(I)I"⟩
abbrev cX8_count : ByteArray := prog_1_method_25_code
def yX8_count : MethodName := ⟨RX8, "count", "(I)I"⟩
abbrev cX8_trace : ByteArray := prog_1_method_26_code
def yX8_trace : MethodName := ⟨RX8, "trace", "()J"⟩
abbrev cX8_isChair : ByteArray := prog_1_method_27_code
def yX8_isChair : MethodName := ⟨RX8, "isChair", "(I)Z"⟩
abbrev cX8_imageOf : ByteArray := prog_1_method_28_code
def yX8_imageOf : MethodName := ⟨RX8, "imageOf", "(I)LChairRegents$Day;"⟩
abbrev cX8_commonDivisor : ByteArray := prog_1_method_29_code
def yX8_commonDivisor : MethodName := ⟨RX8, "commonDivisor", "(II)I"⟩
def RX9 : String := "ChairRegentsModel"
def TX9 : u_T := fun k => match k with
  | 0 => ("ChairRegentsModel", "cells", "I", false)
  | 1 => ("ChairRegentsModel", "cost", "[I", true)
  | 2 => ("ChairRegentsModel", "chairs", "I", false)
  | 3 => ("ChairRegentsModel", "chair", "[I", true)
  | 4 => ("ChairRegentsModel", "strength", "[I", true)
  | 5 => ("ChairRegentsModel", "st", "[I", true)
  | 6 => ("ChairRegentsModel", "was", "[I", true)
  | 7 => ("ChairRegentsModel", "known", "I", false)
  | 8 => ("ChairRegentsModel", "images", "[I", true)
  | 9 => ("ChairRegentsModel", "isKept", "[Z", true)
  | 10 => ("ChairRegentsModel", "timedMany", "I", false)
  | 11 => ("ChairRegentsModel", "timed", "[I", true)
  | 12 => ("ChairRegentsModel", "trace", "J", false)
  | 13 => ("ChairRegentsModel", "text", "[I", true)
  | 14 => ("ChairRegentsModel", "texted", "I", false)
  | 15 => ("ChairRegentsModel", "cursor", "I", false)
  | 16 => ("ChairRegentsModel", "start", "I", false)
  | 17 => ("ChairRegentsModel", "token", "I", false)
  | 18 => ("ChairRegentsModel", "number", "I", false)
  | 19 => ("ChairRegentsModel", "isWrong", "Z", false)
  | 20 => ("ChairRegentsModel", "items", "I", false)
  | 21 => ("ChairRegentsModel", "saidCells", "I", false)
  | 22 => ("ChairRegentsModel", "saidCost", "[I", true)
  | 23 => ("ChairRegentsModel", "saidChairs", "I", false)
  | 24 => ("ChairRegentsModel", "saidChair", "[I", true)
  | 25 => ("ChairRegentsModel", "saidStrength", "[I", true)
  | 26 => ("ChairRegentsModel", "now", "[I", true)
  | 27 => ("ChairRegentsModel", "in", "[I", true)
  | 28 => ("ChairRegentsModel", "points", "[I", true)
  | 29 => ("ChairRegentsModel", "time", "[I", true)
  | 30 => ("ChairRegentsModel", "placed", "[I", true)
  | 31 => ("ChairRegentsModel", "placedMany", "I", false)
  | 32 => ("ChairRegentsModel", "kingBy", "[I", true)
  | 33 => ("ChairRegentsModel", "kingOf", "[I", true)
  | 34 => ("ChairRegentsModel", "fair", "[I", true)
  | _ => ("ChairRegentsModel", "base", "[I", true)
def tyX9 : Nat → FieldType := fun k => match k with
  | 0 => .int
  | 1 => .array .int
  | 2 => .int
  | 3 => .array .int
  | 4 => .array .int
  | 5 => .array .int
  | 6 => .array .int
  | 7 => .int
  | 8 => .array .int
  | 9 => .array .boolean
  | 10 => .int
  | 11 => .array .int
  | 12 => .long
  | 13 => .array .int
  | 14 => .int
  | 15 => .int
  | 16 => .int
  | 17 => .int
  | 18 => .int
  | 19 => .boolean
  | 20 => .int
  | 21 => .int
  | 22 => .array .int
  | 23 => .int
  | 24 => .array .int
  | 25 => .array .int
  | 26 => .array .int
  | 27 => .array .int
  | 28 => .array .int
  | 29 => .array .int
  | 30 => .array .int
  | 31 => .int
  | 32 => .array .int
  | 33 => .array .int
  | 34 => .array .int
  | _ => .array .int
theorem nmX9 : ∀ a, a < 36 → ∀ b, b < 36 → a ≠ b → (TX9 a).2.1 ≠ (TX9 b).2.1 := by decide +kernel
theorem tyX9_ok : ∀ k, k < 36 → parseFieldDescriptor (TX9 k).2.2.1 = some (tyX9 k) := by decide +kernel
abbrev cX9_init : ByteArray := prog_11_method_1_code
def yX9_init : MethodName := ⟨RX9, "<init>", "()V"⟩
abbrev cX9_in : ByteArray := prog_11_method_3_code
def yX9_in : MethodName := ⟨RX9, "in", "(III)Z"⟩
abbrev cX9_has : ByteArray := prog_11_method_4_code
def yX9_has : MethodName := ⟨RX9, "has", "(II)Z"⟩
abbrev cX9_isChair : ByteArray := prog_11_method_5_code
def yX9_isChair : MethodName := ⟨RX9, "isChair", "(I)Z"⟩
abbrev cX9_isRace : ByteArray := prog_11_method_6_code
def yX9_isRace : MethodName := ⟨RX9, "isRace", "()Z"⟩
abbrev cX9_copy : ByteArray := prog_11_method_7_code
def yX9_copy : MethodName := ⟨RX9, "copy", "([II[II)V"⟩
abbrev cX9_type : ByteArray := prog_11_method_8_code
def yX9_type : MethodName := ⟨RX9, "type", "(I)I"⟩
abbrev cX9_clear : ByteArray := prog_11_method_9_code
def yX9_clear : MethodName := ⟨RX9, "clear", "()I"⟩
abbrev cX9_letterAt : ByteArray := prog_11_method_10_code
def yX9_letterAt : MethodName := ⟨RX9, "letterAt", "(I)I"⟩
abbrev cX9_isFigure : ByteArray := prog_11_method_11_code
def yX9_isFigure : MethodName := ⟨RX9, "isFigure", "(I)Z"⟩
abbrev cX9_isLetter : ByteArray := prog_11_method_12_code
def yX9_isLetter : MethodName := ⟨RX9, "isLetter", "(I)Z"⟩
abbrev cX9_costOf : ByteArray := prog_11_method_13_code
def yX9_costOf : MethodName := ⟨RX9, "costOf", "(I)I"⟩
abbrev cX9_next : ByteArray := prog_11_method_14_code
def yX9_next : MethodName := ⟨RX9, "next", "()V"⟩
abbrev cX9_takes : ByteArray := prog_11_method_15_code
def yX9_takes : MethodName := ⟨RX9, "takes", "(II)I"⟩
abbrev cX9_readCells : ByteArray := prog_11_method_16_code
def yX9_readCells : MethodName := ⟨RX9, "readCells", "()V"⟩
abbrev cX9_readChair : ByteArray := prog_11_method_17_code
def yX9_readChair : MethodName := ⟨RX9, "readChair", "()V"⟩
abbrev cX9_readPusher : ByteArray := prog_11_method_18_code
def yX9_readPusher : MethodName := ⟨RX9, "readPusher", "()V"⟩
abbrev cX9_readItem : ByteArray := prog_11_method_19_code
def yX9_readItem : MethodName := ⟨RX9, "readItem", "()V"⟩
abbrev cX9_spa : ByteArray := prog_11_method_20_code
def yX9_spa : MethodName := ⟨RX9, "spa", "()I"⟩
abbrev cX9_settles : ByteArray := prog_11_method_21_code
def yX9_settles : MethodName := ⟨RX9, "settles", "()V"⟩
abbrev cX9_asItIs : ByteArray := prog_11_method_22_code
def yX9_asItIs : MethodName := ⟨RX9, "asItIs", "()V"⟩
abbrev cX9_gainOf : ByteArray := prog_11_method_23_code
def yX9_gainOf : MethodName := ⟨RX9, "gainOf", "(II)I"⟩
abbrev cX9_isTaken : ByteArray := prog_11_method_24_code
def yX9_isTaken : MethodName := ⟨RX9, "isTaken", "(II)Z"⟩
abbrev cX9_goes : ByteArray := prog_11_method_25_code
def yX9_goes : MethodName := ⟨RX9, "goes", "(III)V"⟩
abbrev cX9_races : ByteArray := prog_11_method_26_code
def yX9_races : MethodName := ⟨RX9, "races", "(I)V"⟩
abbrev cX9_aloneOf : ByteArray := prog_11_method_27_code
def yX9_aloneOf : MethodName := ⟨RX9, "aloneOf", "(I)I"⟩
abbrev cX9_chair : ByteArray := prog_11_method_28_code
def yX9_chair : MethodName := ⟨RX9, "chair", "(II)I"⟩
abbrev cX9_pusher : ByteArray := prog_11_method_29_code
def yX9_pusher : MethodName := ⟨RX9, "pusher", "(I)I"⟩
abbrev cX9_cell : ByteArray := prog_11_method_30_code
def yX9_cell : MethodName := ⟨RX9, "cell", "(I)I"⟩
abbrev cX9_ruled : ByteArray := prog_11_method_31_code
def yX9_ruled : MethodName := ⟨RX9, "ruled", "()I"⟩
abbrev cX9_isSo : ByteArray := prog_11_method_32_code
def yX9_isSo : MethodName := ⟨RX9, "isSo", "(IZ)Z"⟩
abbrev cX9_suspects : ByteArray := prog_11_method_33_code
def yX9_suspects : MethodName := ⟨RX9, "suspects", "(Z)I"⟩
abbrev cX9_first : ByteArray := prog_11_method_34_code
def yX9_first : MethodName := ⟨RX9, "first", "()I"⟩
abbrev cX9_now : ByteArray := prog_11_method_35_code
def yX9_now : MethodName := ⟨RX9, "now", "(I)I"⟩
abbrev cX9_remembers : ByteArray := prog_11_method_36_code
def yX9_remembers : MethodName := ⟨RX9, "remembers", "()V"⟩
abbrev cX9_tuesday : ByteArray := prog_11_method_37_code
def yX9_tuesday : MethodName := ⟨RX9, "tuesday", "()I"⟩
abbrev cX9_changes : ByteArray := prog_11_method_38_code
def yX9_changes : MethodName := ⟨RX9, "changes", "(II)I"⟩
abbrev cX9_sets : ByteArray := prog_11_method_39_code
def yX9_sets : MethodName := ⟨RX9, "sets", "(II)I"⟩
abbrev cX9_greases : ByteArray := prog_11_method_40_code
def yX9_greases : MethodName := ⟨RX9, "greases", "(II)I"⟩
abbrev cX9_undo : ByteArray := prog_11_method_41_code
def yX9_undo : MethodName := ⟨RX9, "undo", "()I"⟩
abbrev cX9_time : ByteArray := prog_11_method_42_code
def yX9_time : MethodName := ⟨RX9, "time", "(I)I"⟩
abbrev cX9_place : ByteArray := prog_11_method_43_code
def yX9_place : MethodName := ⟨RX9, "place", "(I)I"⟩
abbrev cX9_alone : ByteArray := prog_11_method_44_code
def yX9_alone : MethodName := ⟨RX9, "alone", "(I)I"⟩
abbrev cX9_isWay : ByteArray := prog_11_method_45_code
def yX9_isWay : MethodName := ⟨RX9, "isWay", "(II)Z"⟩
abbrev cX9_findKings : ByteArray := prog_11_method_46_code
def yX9_findKings : MethodName := ⟨RX9, "findKings", "()V"⟩
abbrev cX9_kings : ByteArray := prog_11_method_47_code
def yX9_kings : MethodName := ⟨RX9, "kings", "()I"⟩
abbrev cX9_king : ByteArray := prog_11_method_48_code
def yX9_king : MethodName := ⟨RX9, "king", "(II)I"⟩
abbrev cX9_fair : ByteArray := prog_11_method_49_code
def yX9_fair : MethodName := ⟨RX9, "fair", "(I)I"⟩
abbrev cX9_odds : ByteArray := prog_11_method_50_code
def yX9_odds : MethodName := ⟨RX9, "odds", "(III)I"⟩
abbrev cX9_times : ByteArray := prog_11_method_51_code
def yX9_times : MethodName := ⟨RX9, "times", "(II)I"⟩
abbrev cX9_forget : ByteArray := prog_11_method_52_code
def yX9_forget : MethodName := ⟨RX9, "forget", "()I"⟩
abbrev cX9_rate : ByteArray := prog_11_method_53_code
def yX9_rate : MethodName := ⟨RX9, "rate", "(II)I"⟩
abbrev cX9_keep : ByteArray := prog_11_method_54_code
def yX9_keep : MethodName := ⟨RX9, "keep", "(I)I"⟩
abbrev cX9_back : ByteArray := prog_11_method_55_code
def yX9_back : MethodName := ⟨RX9, "back", "(I)I"⟩
abbrev cX9_count : ByteArray := prog_11_method_56_code
def yX9_count : MethodName := ⟨RX9, "count", "(I)I"⟩
abbrev cX9_trace : ByteArray := prog_11_method_57_code
def yX9_trace : MethodName := ⟨RX9, "trace", "()J"⟩
def RL : String := "ChairRegentsLaw"
abbrev cL_law : ByteArray := code
def yL_law : MethodName := ⟨RL, "law", "([I)Z"⟩
abbrev vwCl : List vw_C := [(RX0, TX0, 6), (RX1, TX1, 4), (RX2, TX2, 6), (RX3, TX3, 3), (RX4, TX4, 6), (RX5, TX5, 6), (RX6, TX6, 7), (RX7, TX7, 3), (RX8, TX8, 10), (RX9, TX9, 36)]
end
section
theorem dX0_init_0 : decode cX0_init 0 = .ok (.aload_n 0, 1) := by decide +kernel
theorem dX0_init_1 : decode cX0_init 1 = .ok (.invokespecial 3, 3) := by decide +kernel
theorem dX0_init_4 : decode cX0_init 4 = .ok (.aload_n 0, 1) := by decide +kernel
theorem dX0_init_5 : decode cX0_init 5 = .ok (.iconst 5, 1) := by decide +kernel
theorem dX0_init_6 : decode cX0_init 6 = .ok (.newarray .int, 2) := by decide +kernel
theorem dX0_init_8 : decode cX0_init 8 = .ok (.putfield 9, 3) := by decide +kernel
theorem dX0_init_11 : decode cX0_init 11 = .ok (.aload_n 0, 1) := by decide +kernel
theorem dX0_init_12 : decode cX0_init 12 = .ok (.iconst 5, 1) := by decide +kernel
theorem dX0_init_13 : decode cX0_init 13 = .ok (.newarray .int, 2) := by decide +kernel
theorem dX0_init_15 : decode cX0_init 15 = .ok (.putfield 15, 3) := by decide +kernel
theorem dX0_init_18 : decode cX0_init 18 = .ok (.aload_n 0, 1) := by decide +kernel
theorem dX0_init_19 : decode cX0_init 19 = .ok (.iconst 5, 1) := by decide +kernel
theorem dX0_init_20 : decode cX0_init 20 = .ok (.newarray .boolean, 2) := by decide +kernel
theorem dX0_init_22 : decode cX0_init 22 = .ok (.putfield 18, 3) := by decide +kernel
theorem dX0_init_25 : decode cX0_init 25 = .ok (.aload_n 0, 1) := by decide +kernel
theorem dX0_init_26 : decode cX0_init 26 = .ok (.iconst 5, 1) := by decide +kernel
theorem dX0_init_27 : decode cX0_init 27 = .ok (.newarray .int, 2) := by decide +kernel
theorem dX0_init_29 : decode cX0_init 29 = .ok (.putfield 22, 3) := by decide +kernel
theorem dX0_init_32 : decode cX0_init 32 = .ok (.return_, 1) := by decide +kernel
theorem dX0_start_0 : decode cX0_start 0 = .ok (.iconst 0, 1) := by decide +kernel
theorem dX0_start_1 : decode cX0_start 1 = .ok (.istore_n 1, 1) := by decide +kernel
theorem dX0_start_2 : decode cX0_start 2 = .ok (.iload_n 1, 1) := by decide +kernel
theorem dX0_start_3 : decode cX0_start 3 = .ok (.iconst 5, 1) := by decide +kernel
theorem dX0_start_4 : decode cX0_start 4 = .ok (.if_icmp .ge 37, 3) := by decide +kernel
theorem dX0_start_7 : decode cX0_start 7 = .ok (.aload_n 0, 1) := by decide +kernel
theorem dX0_start_8 : decode cX0_start 8 = .ok (.getfield 9, 3) := by decide +kernel
theorem dX0_start_11 : decode cX0_start 11 = .ok (.iload_n 1, 1) := by decide +kernel
theorem dX0_start_12 : decode cX0_start 12 = .ok (.iload_n 1, 1) := by decide +kernel
theorem dX0_start_13 : decode cX0_start 13 = .ok (.iastore, 1) := by decide +kernel
theorem dX0_start_14 : decode cX0_start 14 = .ok (.aload_n 0, 1) := by decide +kernel
theorem dX0_start_15 : decode cX0_start 15 = .ok (.getfield 15, 3) := by decide +kernel
theorem dX0_start_18 : decode cX0_start 18 = .ok (.iload_n 1, 1) := by decide +kernel
theorem dX0_start_19 : decode cX0_start 19 = .ok (.iconst 0, 1) := by decide +kernel
theorem dX0_start_20 : decode cX0_start 20 = .ok (.iastore, 1) := by decide +kernel
theorem dX0_start_21 : decode cX0_start 21 = .ok (.aload_n 0, 1) := by decide +kernel
theorem dX0_start_22 : decode cX0_start 22 = .ok (.getfield 18, 3) := by decide +kernel
theorem dX0_start_25 : decode cX0_start 25 = .ok (.iload_n 1, 1) := by decide +kernel
theorem dX0_start_26 : decode cX0_start 26 = .ok (.iconst 0, 1) := by decide +kernel
theorem dX0_start_27 : decode cX0_start 27 = .ok (.bastore, 1) := by decide +kernel
theorem dX0_start_28 : decode cX0_start 28 = .ok (.aload_n 0, 1) := by decide +kernel
theorem dX0_start_29 : decode cX0_start 29 = .ok (.getfield 22, 3) := by decide +kernel
theorem dX0_start_32 : decode cX0_start 32 = .ok (.iload_n 1, 1) := by decide +kernel
theorem dX0_start_33 : decode cX0_start 33 = .ok (.iconst 0, 1) := by decide +kernel
theorem dX0_start_34 : decode cX0_start 34 = .ok (.iastore, 1) := by decide +kernel
theorem dX0_start_35 : decode cX0_start 35 = .ok (.iinc 1 1, 3) := by decide +kernel
theorem dX0_start_38 : decode cX0_start 38 = .ok (.goto (-36), 3) := by decide +kernel
theorem dX0_start_41 : decode cX0_start 41 = .ok (.aload_n 0, 1) := by decide +kernel
theorem dX0_start_42 : decode cX0_start 42 = .ok (.iconst 0, 1) := by decide +kernel
theorem dX0_start_43 : decode cX0_start 43 = .ok (.putfield 25, 3) := by decide +kernel
theorem dX0_start_46 : decode cX0_start 46 = .ok (.return_, 1) := by decide +kernel
theorem dX0_become_0 : decode cX0_become 0 = .ok (.iconst 0, 1) := by decide +kernel
theorem dX0_become_1 : decode cX0_become 1 = .ok (.istore_n 2, 1) := by decide +kernel
theorem dX0_become_2 : decode cX0_become 2 = .ok (.iload_n 2, 1) := by decide +kernel
theorem dX0_become_3 : decode cX0_become 3 = .ok (.iconst 5, 1) := by decide +kernel
theorem dX0_become_4 : decode cX0_become 4 = .ok (.if_icmp .ge 57, 3) := by decide +kernel
theorem dX0_become_7 : decode cX0_become 7 = .ok (.aload_n 0, 1) := by decide +kernel
theorem dX0_become_8 : decode cX0_become 8 = .ok (.getfield 9, 3) := by decide +kernel
theorem dX0_become_11 : decode cX0_become 11 = .ok (.iload_n 2, 1) := by decide +kernel
theorem dX0_become_12 : decode cX0_become 12 = .ok (.aload_n 1, 1) := by decide +kernel
theorem dX0_become_13 : decode cX0_become 13 = .ok (.getfield 9, 3) := by decide +kernel
theorem dX0_become_16 : decode cX0_become 16 = .ok (.iload_n 2, 1) := by decide +kernel
theorem dX0_become_17 : decode cX0_become 17 = .ok (.iaload, 1) := by decide +kernel
theorem dX0_become_18 : decode cX0_become 18 = .ok (.iastore, 1) := by decide +kernel
theorem dX0_become_19 : decode cX0_become 19 = .ok (.aload_n 0, 1) := by decide +kernel
theorem dX0_become_20 : decode cX0_become 20 = .ok (.getfield 15, 3) := by decide +kernel
theorem dX0_become_23 : decode cX0_become 23 = .ok (.iload_n 2, 1) := by decide +kernel
theorem dX0_become_24 : decode cX0_become 24 = .ok (.aload_n 1, 1) := by decide +kernel
theorem dX0_become_25 : decode cX0_become 25 = .ok (.getfield 15, 3) := by decide +kernel
theorem dX0_become_28 : decode cX0_become 28 = .ok (.iload_n 2, 1) := by decide +kernel
theorem dX0_become_29 : decode cX0_become 29 = .ok (.iaload, 1) := by decide +kernel
theorem dX0_become_30 : decode cX0_become 30 = .ok (.iastore, 1) := by decide +kernel
theorem dX0_become_31 : decode cX0_become 31 = .ok (.aload_n 0, 1) := by decide +kernel
theorem dX0_become_32 : decode cX0_become 32 = .ok (.getfield 18, 3) := by decide +kernel
theorem dX0_become_35 : decode cX0_become 35 = .ok (.iload_n 2, 1) := by decide +kernel
theorem dX0_become_36 : decode cX0_become 36 = .ok (.aload_n 1, 1) := by decide +kernel
theorem dX0_become_37 : decode cX0_become 37 = .ok (.getfield 18, 3) := by decide +kernel
theorem dX0_become_40 : decode cX0_become 40 = .ok (.iload_n 2, 1) := by decide +kernel
theorem dX0_become_41 : decode cX0_become 41 = .ok (.baload, 1) := by decide +kernel
theorem dX0_become_42 : decode cX0_become 42 = .ok (.bastore, 1) := by decide +kernel
theorem dX0_become_43 : decode cX0_become 43 = .ok (.aload_n 0, 1) := by decide +kernel
theorem dX0_become_44 : decode cX0_become 44 = .ok (.getfield 22, 3) := by decide +kernel
theorem dX0_become_47 : decode cX0_become 47 = .ok (.iload_n 2, 1) := by decide +kernel
theorem dX0_become_48 : decode cX0_become 48 = .ok (.aload_n 1, 1) := by decide +kernel
theorem dX0_become_49 : decode cX0_become 49 = .ok (.getfield 22, 3) := by decide +kernel
theorem dX0_become_52 : decode cX0_become 52 = .ok (.iload_n 2, 1) := by decide +kernel
theorem dX0_become_53 : decode cX0_become 53 = .ok (.iaload, 1) := by decide +kernel
theorem dX0_become_54 : decode cX0_become 54 = .ok (.iastore, 1) := by decide +kernel
theorem dX0_become_55 : decode cX0_become 55 = .ok (.iinc 2 1, 3) := by decide +kernel
theorem dX0_become_58 : decode cX0_become 58 = .ok (.goto (-56), 3) := by decide +kernel
theorem dX0_become_61 : decode cX0_become 61 = .ok (.aload_n 0, 1) := by decide +kernel
theorem dX0_become_62 : decode cX0_become 62 = .ok (.aload_n 1, 1) := by decide +kernel
theorem dX0_become_63 : decode cX0_become 63 = .ok (.getfield 25, 3) := by decide +kernel
theorem dX0_become_66 : decode cX0_become 66 = .ok (.putfield 25, 3) := by decide +kernel
theorem dX0_become_69 : decode cX0_become 69 = .ok (.return_, 1) := by decide +kernel
theorem dX0_exchange_0 : decode cX0_exchange 0 = .ok (.aload_n 0, 1) := by decide +kernel
theorem dX0_exchange_1 : decode cX0_exchange 1 = .ok (.getfield 9, 3) := by decide +kernel
theorem dX0_exchange_4 : decode cX0_exchange 4 = .ok (.iload_n 1, 1) := by decide +kernel
theorem dX0_exchange_5 : decode cX0_exchange 5 = .ok (.iaload, 1) := by decide +kernel
theorem dX0_exchange_6 : decode cX0_exchange 6 = .ok (.istore_n 3, 1) := by decide +kernel
theorem dX0_exchange_7 : decode cX0_exchange 7 = .ok (.aload_n 0, 1) := by decide +kernel
theorem dX0_exchange_8 : decode cX0_exchange 8 = .ok (.getfield 9, 3) := by decide +kernel
theorem dX0_exchange_11 : decode cX0_exchange 11 = .ok (.iload_n 1, 1) := by decide +kernel
theorem dX0_exchange_12 : decode cX0_exchange 12 = .ok (.aload_n 0, 1) := by decide +kernel
theorem dX0_exchange_13 : decode cX0_exchange 13 = .ok (.getfield 9, 3) := by decide +kernel
theorem dX0_exchange_16 : decode cX0_exchange 16 = .ok (.iload_n 2, 1) := by decide +kernel
theorem dX0_exchange_17 : decode cX0_exchange 17 = .ok (.iaload, 1) := by decide +kernel
theorem dX0_exchange_18 : decode cX0_exchange 18 = .ok (.iastore, 1) := by decide +kernel
theorem dX0_exchange_19 : decode cX0_exchange 19 = .ok (.aload_n 0, 1) := by decide +kernel
theorem dX0_exchange_20 : decode cX0_exchange 20 = .ok (.getfield 9, 3) := by decide +kernel
theorem dX0_exchange_23 : decode cX0_exchange 23 = .ok (.iload_n 2, 1) := by decide +kernel
theorem dX0_exchange_24 : decode cX0_exchange 24 = .ok (.iload_n 3, 1) := by decide +kernel
theorem dX0_exchange_25 : decode cX0_exchange 25 = .ok (.iastore, 1) := by decide +kernel
theorem dX0_exchange_26 : decode cX0_exchange 26 = .ok (.return_, 1) := by decide +kernel
theorem dX0_greasedCount_0 : decode cX0_greasedCount 0 = .ok (.iconst 0, 1) := by decide +kernel
theorem dX0_greasedCount_1 : decode cX0_greasedCount 1 = .ok (.istore_n 2, 1) := by decide +kernel
theorem dX0_greasedCount_2 : decode cX0_greasedCount 2 = .ok (.iconst 0, 1) := by decide +kernel
theorem dX0_greasedCount_3 : decode cX0_greasedCount 3 = .ok (.istore_n 3, 1) := by decide +kernel
theorem dX0_greasedCount_4 : decode cX0_greasedCount 4 = .ok (.iload_n 3, 1) := by decide +kernel
theorem dX0_greasedCount_5 : decode cX0_greasedCount 5 = .ok (.iload_n 1, 1) := by decide +kernel
theorem dX0_greasedCount_6 : decode cX0_greasedCount 6 = .ok (.if_icmp .ge 21, 3) := by decide +kernel
theorem dX0_greasedCount_9 : decode cX0_greasedCount 9 = .ok (.aload_n 0, 1) := by decide +kernel
theorem dX0_greasedCount_10 : decode cX0_greasedCount 10 = .ok (.getfield 18, 3) := by decide +kernel
theorem dX0_greasedCount_13 : decode cX0_greasedCount 13 = .ok (.iload_n 3, 1) := by decide +kernel
theorem dX0_greasedCount_14 : decode cX0_greasedCount 14 = .ok (.baload, 1) := by decide +kernel
theorem dX0_greasedCount_15 : decode cX0_greasedCount 15 = .ok (.ifCond .eq 6, 3) := by decide +kernel
theorem dX0_greasedCount_18 : decode cX0_greasedCount 18 = .ok (.iinc 2 1, 3) := by decide +kernel
theorem dX0_greasedCount_21 : decode cX0_greasedCount 21 = .ok (.iinc 3 1, 3) := by decide +kernel
theorem dX0_greasedCount_24 : decode cX0_greasedCount 24 = .ok (.goto (-20), 3) := by decide +kernel
theorem dX0_greasedCount_27 : decode cX0_greasedCount 27 = .ok (.iload_n 2, 1) := by decide +kernel
theorem dX0_greasedCount_28 : decode cX0_greasedCount 28 = .ok (.ireturn, 1) := by decide +kernel
theorem dX0_gainOf_0 : decode cX0_gainOf 0 = .ok (.aload_n 1, 1) := by decide +kernel
theorem dX0_gainOf_1 : decode cX0_gainOf 1 = .ok (.iload_n 2, 1) := by decide +kernel
theorem dX0_gainOf_2 : decode cX0_gainOf 2 = .ok (.aload_n 1, 1) := by decide +kernel
theorem dX0_gainOf_3 : decode cX0_gainOf 3 = .ok (.aload_n 0, 1) := by decide +kernel
theorem dX0_gainOf_4 : decode cX0_gainOf 4 = .ok (.getfield 9, 3) := by decide +kernel
theorem dX0_gainOf_7 : decode cX0_gainOf 7 = .ok (.iload_n 2, 1) := by decide +kernel
theorem dX0_gainOf_8 : decode cX0_gainOf 8 = .ok (.iaload, 1) := by decide +kernel
theorem dX0_gainOf_9 : decode cX0_gainOf 9 = .ok (.invokevirtual 29, 3) := by decide +kernel
theorem dX0_gainOf_12 : decode cX0_gainOf 12 = .ok (.aload_n 0, 1) := by decide +kernel
theorem dX0_gainOf_13 : decode cX0_gainOf 13 = .ok (.getfield 18, 3) := by decide +kernel
theorem dX0_gainOf_16 : decode cX0_gainOf 16 = .ok (.iload_n 2, 1) := by decide +kernel
theorem dX0_gainOf_17 : decode cX0_gainOf 17 = .ok (.baload, 1) := by decide +kernel
theorem dX0_gainOf_18 : decode cX0_gainOf 18 = .ok (.invokevirtual 35, 3) := by decide +kernel
theorem dX0_gainOf_21 : decode cX0_gainOf 21 = .ok (.ireturn, 1) := by decide +kernel
theorem dX0_aloneOf_0 : decode cX0_aloneOf 0 = .ok (.aload_n 1, 1) := by decide +kernel
theorem dX0_aloneOf_1 : decode cX0_aloneOf 1 = .ok (.iload_n 2, 1) := by decide +kernel
theorem dX0_aloneOf_2 : decode cX0_aloneOf 2 = .ok (.aload_n 1, 1) := by decide +kernel
theorem dX0_aloneOf_3 : decode cX0_aloneOf 3 = .ok (.aload_n 0, 1) := by decide +kernel
theorem dX0_aloneOf_4 : decode cX0_aloneOf 4 = .ok (.getfield 9, 3) := by decide +kernel
theorem dX0_aloneOf_7 : decode cX0_aloneOf 7 = .ok (.iload_n 2, 1) := by decide +kernel
theorem dX0_aloneOf_8 : decode cX0_aloneOf 8 = .ok (.iaload, 1) := by decide +kernel
theorem dX0_aloneOf_9 : decode cX0_aloneOf 9 = .ok (.invokevirtual 29, 3) := by decide +kernel
theorem dX0_aloneOf_12 : decode cX0_aloneOf 12 = .ok (.iload_n 3, 1) := by decide +kernel
theorem dX0_aloneOf_13 : decode cX0_aloneOf 13 = .ok (.invokevirtual 35, 3) := by decide +kernel
theorem dX0_aloneOf_16 : decode cX0_aloneOf 16 = .ok (.istore 4, 2) := by decide +kernel
theorem dX0_aloneOf_18 : decode cX0_aloneOf 18 = .ok (.aload_n 0, 1) := by decide +kernel
theorem dX0_aloneOf_19 : decode cX0_aloneOf 19 = .ok (.getfield 15, 3) := by decide +kernel
theorem dX0_aloneOf_22 : decode cX0_aloneOf 22 = .ok (.iload_n 2, 1) := by decide +kernel
theorem dX0_aloneOf_23 : decode cX0_aloneOf 23 = .ok (.iaload, 1) := by decide +kernel
theorem dX0_aloneOf_24 : decode cX0_aloneOf 24 = .ok (.aload_n 1, 1) := by decide +kernel
theorem dX0_aloneOf_25 : decode cX0_aloneOf 25 = .ok (.iload 4, 2) := by decide +kernel
theorem dX0_aloneOf_27 : decode cX0_aloneOf 27 = .ok (.invokevirtual 39, 3) := by decide +kernel
theorem dX0_aloneOf_30 : decode cX0_aloneOf 30 = .ok (.iadd, 1) := by decide +kernel
theorem dX0_aloneOf_31 : decode cX0_aloneOf 31 = .ok (.ireturn, 1) := by decide +kernel
theorem dX0_ruledMost_0 : decode cX0_ruledMost 0 = .ok (.aload_n 0, 1) := by decide +kernel
theorem dX0_ruledMost_1 : decode cX0_ruledMost 1 = .ok (.getfield 25, 3) := by decide +kernel
theorem dX0_ruledMost_4 : decode cX0_ruledMost 4 = .ok (.ifCond .ne 6, 3) := by decide +kernel
theorem dX0_ruledMost_7 : decode cX0_ruledMost 7 = .ok (.bipush (-9), 2) := by decide +kernel
theorem dX0_ruledMost_9 : decode cX0_ruledMost 9 = .ok (.ireturn, 1) := by decide +kernel
theorem dX0_ruledMost_10 : decode cX0_ruledMost 10 = .ok (.iconst 0, 1) := by decide +kernel
theorem dX0_ruledMost_11 : decode cX0_ruledMost 11 = .ok (.istore_n 2, 1) := by decide +kernel
theorem dX0_ruledMost_12 : decode cX0_ruledMost 12 = .ok (.iconst 1, 1) := by decide +kernel
theorem dX0_ruledMost_13 : decode cX0_ruledMost 13 = .ok (.istore_n 3, 1) := by decide +kernel
theorem dX0_ruledMost_14 : decode cX0_ruledMost 14 = .ok (.iload_n 3, 1) := by decide +kernel
theorem dX0_ruledMost_15 : decode cX0_ruledMost 15 = .ok (.iconst 4, 1) := by decide +kernel
theorem dX0_ruledMost_16 : decode cX0_ruledMost 16 = .ok (.if_icmp .ge 26, 3) := by decide +kernel
theorem dX0_ruledMost_19 : decode cX0_ruledMost 19 = .ok (.aload_n 0, 1) := by decide +kernel
theorem dX0_ruledMost_20 : decode cX0_ruledMost 20 = .ok (.aload_n 1, 1) := by decide +kernel
theorem dX0_ruledMost_21 : decode cX0_ruledMost 21 = .ok (.iload_n 3, 1) := by decide +kernel
theorem dX0_ruledMost_22 : decode cX0_ruledMost 22 = .ok (.invokevirtual 42, 3) := by decide +kernel
theorem dX0_ruledMost_25 : decode cX0_ruledMost 25 = .ok (.aload_n 0, 1) := by decide +kernel
theorem dX0_ruledMost_26 : decode cX0_ruledMost 26 = .ok (.aload_n 1, 1) := by decide +kernel
theorem dX0_ruledMost_27 : decode cX0_ruledMost 27 = .ok (.iload_n 2, 1) := by decide +kernel
theorem dX0_ruledMost_28 : decode cX0_ruledMost 28 = .ok (.invokevirtual 42, 3) := by decide +kernel
theorem dX0_ruledMost_31 : decode cX0_ruledMost 31 = .ok (.if_icmp .le 5, 3) := by decide +kernel
theorem dX0_ruledMost_34 : decode cX0_ruledMost 34 = .ok (.iload_n 3, 1) := by decide +kernel
theorem dX0_ruledMost_35 : decode cX0_ruledMost 35 = .ok (.istore_n 2, 1) := by decide +kernel
theorem dX0_ruledMost_36 : decode cX0_ruledMost 36 = .ok (.iinc 3 1, 3) := by decide +kernel
theorem dX0_ruledMost_39 : decode cX0_ruledMost 39 = .ok (.goto (-25), 3) := by decide +kernel
theorem dX0_ruledMost_42 : decode cX0_ruledMost 42 = .ok (.iload_n 2, 1) := by decide +kernel
theorem dX0_ruledMost_43 : decode cX0_ruledMost 43 = .ok (.ireturn, 1) := by decide +kernel
theorem dX0_weeksOf_0 : decode cX0_weeksOf 0 = .ok (.iconst 0, 1) := by decide +kernel
theorem dX0_weeksOf_1 : decode cX0_weeksOf 1 = .ok (.istore_n 3, 1) := by decide +kernel
theorem dX0_weeksOf_2 : decode cX0_weeksOf 2 = .ok (.iconst 0, 1) := by decide +kernel
theorem dX0_weeksOf_3 : decode cX0_weeksOf 3 = .ok (.istore 4, 2) := by decide +kernel
theorem dX0_weeksOf_5 : decode cX0_weeksOf 5 = .ok (.iload 4, 2) := by decide +kernel
theorem dX0_weeksOf_7 : decode cX0_weeksOf 7 = .ok (.aload_n 1, 1) := by decide +kernel
theorem dX0_weeksOf_8 : decode cX0_weeksOf 8 = .ok (.getfield 46, 3) := by decide +kernel
theorem dX0_weeksOf_11 : decode cX0_weeksOf 11 = .ok (.if_icmp .ge 30, 3) := by decide +kernel
theorem dX0_weeksOf_14 : decode cX0_weeksOf 14 = .ok (.aload_n 1, 1) := by decide +kernel
theorem dX0_weeksOf_15 : decode cX0_weeksOf 15 = .ok (.getfield 49, 3) := by decide +kernel
theorem dX0_weeksOf_18 : decode cX0_weeksOf 18 = .ok (.iload 4, 2) := by decide +kernel
theorem dX0_weeksOf_20 : decode cX0_weeksOf 20 = .ok (.iaload, 1) := by decide +kernel
theorem dX0_weeksOf_21 : decode cX0_weeksOf 21 = .ok (.iload_n 2, 1) := by decide +kernel
theorem dX0_weeksOf_22 : decode cX0_weeksOf 22 = .ok (.if_icmp .ne 13, 3) := by decide +kernel
theorem dX0_weeksOf_25 : decode cX0_weeksOf 25 = .ok (.iload_n 3, 1) := by decide +kernel
theorem dX0_weeksOf_26 : decode cX0_weeksOf 26 = .ok (.aload_n 0, 1) := by decide +kernel
theorem dX0_weeksOf_27 : decode cX0_weeksOf 27 = .ok (.getfield 22, 3) := by decide +kernel
theorem dX0_weeksOf_30 : decode cX0_weeksOf 30 = .ok (.iload 4, 2) := by decide +kernel
theorem dX0_weeksOf_32 : decode cX0_weeksOf 32 = .ok (.iaload, 1) := by decide +kernel
theorem dX0_weeksOf_33 : decode cX0_weeksOf 33 = .ok (.iadd, 1) := by decide +kernel
theorem dX0_weeksOf_34 : decode cX0_weeksOf 34 = .ok (.istore_n 3, 1) := by decide +kernel
theorem dX0_weeksOf_35 : decode cX0_weeksOf 35 = .ok (.iinc 4 1, 3) := by decide +kernel
theorem dX0_weeksOf_38 : decode cX0_weeksOf 38 = .ok (.goto (-33), 3) := by decide +kernel
theorem dX0_weeksOf_41 : decode cX0_weeksOf 41 = .ok (.iload_n 3, 1) := by decide +kernel
theorem dX0_weeksOf_42 : decode cX0_weeksOf 42 = .ok (.ireturn, 1) := by decide +kernel
theorem dX1_init_0 : decode cX1_init 0 = .ok (.aload_n 0, 1) := by decide +kernel
theorem dX1_init_1 : decode cX1_init 1 = .ok (.invokespecial 3, 3) := by decide +kernel
theorem dX1_init_4 : decode cX1_init 4 = .ok (.aload_n 0, 1) := by decide +kernel
theorem dX1_init_5 : decode cX1_init 5 = .ok (.bipush 10, 2) := by decide +kernel
theorem dX1_init_7 : decode cX1_init 7 = .ok (.newarray .int, 2) := by decide +kernel
theorem dX1_init_9 : decode cX1_init 9 = .ok (.putfield 9, 3) := by decide +kernel
theorem dX1_init_12 : decode cX1_init 12 = .ok (.aload_n 0, 1) := by decide +kernel
theorem dX1_init_13 : decode cX1_init 13 = .ok (.bipush 10, 2) := by decide +kernel
theorem dX1_init_15 : decode cX1_init 15 = .ok (.newarray .int, 2) := by decide +kernel
theorem dX1_init_17 : decode cX1_init 17 = .ok (.putfield 15, 3) := by decide +kernel
theorem dX1_init_20 : decode cX1_init 20 = .ok (.aload_n 0, 1) := by decide +kernel
theorem dX1_init_21 : decode cX1_init 21 = .ok (.bipush 10, 2) := by decide +kernel
theorem dX1_init_23 : decode cX1_init 23 = .ok (.newarray .int, 2) := by decide +kernel
theorem dX1_init_25 : decode cX1_init 25 = .ok (.putfield 18, 3) := by decide +kernel
theorem dX1_init_28 : decode cX1_init 28 = .ok (.return_, 1) := by decide +kernel
theorem dX1_add_0 : decode cX1_add 0 = .ok (.aload_n 0, 1) := by decide +kernel
theorem dX1_add_1 : decode cX1_add 1 = .ok (.getfield 21, 3) := by decide +kernel
theorem dX1_add_4 : decode cX1_add 4 = .ok (.bipush 10, 2) := by decide +kernel
theorem dX1_add_6 : decode cX1_add 6 = .ok (.if_icmp .lt 7, 3) := by decide +kernel
theorem dX1_add_9 : decode cX1_add 9 = .ok (.aload_n 0, 1) := by decide +kernel
theorem dX1_add_10 : decode cX1_add 10 = .ok (.invokevirtual 25, 3) := by decide +kernel
theorem dX1_add_13 : decode cX1_add 13 = .ok (.aload_n 0, 1) := by decide +kernel
theorem dX1_add_14 : decode cX1_add 14 = .ok (.getfield 9, 3) := by decide +kernel
theorem dX1_add_17 : decode cX1_add 17 = .ok (.aload_n 0, 1) := by decide +kernel
theorem dX1_add_18 : decode cX1_add 18 = .ok (.getfield 21, 3) := by decide +kernel
theorem dX1_add_21 : decode cX1_add 21 = .ok (.iload_n 1, 1) := by decide +kernel
theorem dX1_add_22 : decode cX1_add 22 = .ok (.iastore, 1) := by decide +kernel
theorem dX1_add_23 : decode cX1_add 23 = .ok (.aload_n 0, 1) := by decide +kernel
theorem dX1_add_24 : decode cX1_add 24 = .ok (.getfield 15, 3) := by decide +kernel
theorem dX1_add_27 : decode cX1_add 27 = .ok (.aload_n 0, 1) := by decide +kernel
theorem dX1_add_28 : decode cX1_add 28 = .ok (.getfield 21, 3) := by decide +kernel
theorem dX1_add_31 : decode cX1_add 31 = .ok (.iload_n 2, 1) := by decide +kernel
theorem dX1_add_32 : decode cX1_add 32 = .ok (.iastore, 1) := by decide +kernel
theorem dX1_add_33 : decode cX1_add 33 = .ok (.aload_n 0, 1) := by decide +kernel
theorem dX1_add_34 : decode cX1_add 34 = .ok (.getfield 18, 3) := by decide +kernel
theorem dX1_add_37 : decode cX1_add 37 = .ok (.aload_n 0, 1) := by decide +kernel
theorem dX1_add_38 : decode cX1_add 38 = .ok (.getfield 21, 3) := by decide +kernel
theorem dX1_add_41 : decode cX1_add 41 = .ok (.iload_n 3, 1) := by decide +kernel
theorem dX1_add_42 : decode cX1_add 42 = .ok (.iastore, 1) := by decide +kernel
theorem dX1_add_43 : decode cX1_add 43 = .ok (.aload_n 0, 1) := by decide +kernel
theorem dX1_add_44 : decode cX1_add 44 = .ok (.dup, 1) := by decide +kernel
theorem dX1_add_45 : decode cX1_add 45 = .ok (.getfield 21, 3) := by decide +kernel
theorem dX1_add_48 : decode cX1_add 48 = .ok (.iconst 1, 1) := by decide +kernel
theorem dX1_add_49 : decode cX1_add 49 = .ok (.iadd, 1) := by decide +kernel
theorem dX1_add_50 : decode cX1_add 50 = .ok (.putfield 21, 3) := by decide +kernel
theorem dX1_add_53 : decode cX1_add 53 = .ok (.return_, 1) := by decide +kernel
theorem dX1_takeBackLatest_0 : decode cX1_takeBackLatest 0 = .ok (.aload_n 0, 1) := by decide +kernel
theorem dX1_takeBackLatest_1 : decode cX1_takeBackLatest 1 = .ok (.getfield 21, 3) := by decide +kernel
theorem dX1_takeBackLatest_4 : decode cX1_takeBackLatest 4 = .ok (.iconst 1, 1) := by decide +kernel
theorem dX1_takeBackLatest_5 : decode cX1_takeBackLatest 5 = .ok (.if_icmp .ge 4, 3) := by decide +kernel
theorem dX1_takeBackLatest_8 : decode cX1_takeBackLatest 8 = .ok (.return_, 1) := by decide +kernel
theorem dX1_takeBackLatest_9 : decode cX1_takeBackLatest 9 = .ok (.aload_n 0, 1) := by decide +kernel
theorem dX1_takeBackLatest_10 : decode cX1_takeBackLatest 10 = .ok (.dup, 1) := by decide +kernel
theorem dX1_takeBackLatest_11 : decode cX1_takeBackLatest 11 = .ok (.getfield 21, 3) := by decide +kernel
theorem dX1_takeBackLatest_14 : decode cX1_takeBackLatest 14 = .ok (.iconst 1, 1) := by decide +kernel
theorem dX1_takeBackLatest_15 : decode cX1_takeBackLatest 15 = .ok (.isub, 1) := by decide +kernel
theorem dX1_takeBackLatest_16 : decode cX1_takeBackLatest 16 = .ok (.putfield 21, 3) := by decide +kernel
theorem dX1_takeBackLatest_19 : decode cX1_takeBackLatest 19 = .ok (.aload_n 0, 1) := by decide +kernel
theorem dX1_takeBackLatest_20 : decode cX1_takeBackLatest 20 = .ok (.getfield 15, 3) := by decide +kernel
theorem dX1_takeBackLatest_23 : decode cX1_takeBackLatest 23 = .ok (.aload_n 0, 1) := by decide +kernel
theorem dX1_takeBackLatest_24 : decode cX1_takeBackLatest 24 = .ok (.getfield 21, 3) := by decide +kernel
theorem dX1_takeBackLatest_27 : decode cX1_takeBackLatest 27 = .ok (.iaload, 1) := by decide +kernel
theorem dX1_takeBackLatest_28 : decode cX1_takeBackLatest 28 = .ok (.istore_n 2, 1) := by decide +kernel
theorem dX1_takeBackLatest_29 : decode cX1_takeBackLatest 29 = .ok (.aload_n 0, 1) := by decide +kernel
theorem dX1_takeBackLatest_30 : decode cX1_takeBackLatest 30 = .ok (.getfield 18, 3) := by decide +kernel
theorem dX1_takeBackLatest_33 : decode cX1_takeBackLatest 33 = .ok (.aload_n 0, 1) := by decide +kernel
theorem dX1_takeBackLatest_34 : decode cX1_takeBackLatest 34 = .ok (.getfield 21, 3) := by decide +kernel
theorem dX1_takeBackLatest_37 : decode cX1_takeBackLatest 37 = .ok (.iaload, 1) := by decide +kernel
theorem dX1_takeBackLatest_38 : decode cX1_takeBackLatest 38 = .ok (.istore_n 3, 1) := by decide +kernel
theorem dX1_takeBackLatest_39 : decode cX1_takeBackLatest 39 = .ok (.aload_n 0, 1) := by decide +kernel
theorem dX1_takeBackLatest_40 : decode cX1_takeBackLatest 40 = .ok (.getfield 9, 3) := by decide +kernel
theorem dX1_takeBackLatest_43 : decode cX1_takeBackLatest 43 = .ok (.aload_n 0, 1) := by decide +kernel
theorem dX1_takeBackLatest_44 : decode cX1_takeBackLatest 44 = .ok (.getfield 21, 3) := by decide +kernel
theorem dX1_takeBackLatest_47 : decode cX1_takeBackLatest 47 = .ok (.iaload, 1) := by decide +kernel
theorem dX1_takeBackLatest_48 : decode cX1_takeBackLatest 48 = .ok (.tableswitch 70 0 2 #[28, 51, 60], 28) := by decide +kernel
theorem dX1_takeBackLatest_76 : decode cX1_takeBackLatest 76 = .ok (.aload_n 1, 1) := by decide +kernel
theorem dX1_takeBackLatest_77 : decode cX1_takeBackLatest 77 = .ok (.getfield 28, 3) := by decide +kernel
theorem dX1_takeBackLatest_80 : decode cX1_takeBackLatest 80 = .ok (.iload_n 2, 1) := by decide +kernel
theorem dX1_takeBackLatest_81 : decode cX1_takeBackLatest 81 = .ok (.dup2, 1) := by decide +kernel
theorem dX1_takeBackLatest_82 : decode cX1_takeBackLatest 82 = .ok (.iaload, 1) := by decide +kernel
theorem dX1_takeBackLatest_83 : decode cX1_takeBackLatest 83 = .ok (.iconst 1, 1) := by decide +kernel
theorem dX1_takeBackLatest_84 : decode cX1_takeBackLatest 84 = .ok (.isub, 1) := by decide +kernel
theorem dX1_takeBackLatest_85 : decode cX1_takeBackLatest 85 = .ok (.iastore, 1) := by decide +kernel
theorem dX1_takeBackLatest_86 : decode cX1_takeBackLatest 86 = .ok (.aload_n 1, 1) := by decide +kernel
theorem dX1_takeBackLatest_87 : decode cX1_takeBackLatest 87 = .ok (.dup, 1) := by decide +kernel
theorem dX1_takeBackLatest_88 : decode cX1_takeBackLatest 88 = .ok (.getfield 33, 3) := by decide +kernel
theorem dX1_takeBackLatest_91 : decode cX1_takeBackLatest 91 = .ok (.iconst 1, 1) := by decide +kernel
theorem dX1_takeBackLatest_92 : decode cX1_takeBackLatest 92 = .ok (.isub, 1) := by decide +kernel
theorem dX1_takeBackLatest_93 : decode cX1_takeBackLatest 93 = .ok (.putfield 33, 3) := by decide +kernel
theorem dX1_takeBackLatest_96 : decode cX1_takeBackLatest 96 = .ok (.goto 42, 3) := by decide +kernel
theorem dX1_takeBackLatest_99 : decode cX1_takeBackLatest 99 = .ok (.aload_n 1, 1) := by decide +kernel
theorem dX1_takeBackLatest_100 : decode cX1_takeBackLatest 100 = .ok (.iload_n 2, 1) := by decide +kernel
theorem dX1_takeBackLatest_101 : decode cX1_takeBackLatest 101 = .ok (.iload_n 3, 1) := by decide +kernel
theorem dX1_takeBackLatest_102 : decode cX1_takeBackLatest 102 = .ok (.invokevirtual 36, 3) := by decide +kernel
theorem dX1_takeBackLatest_105 : decode cX1_takeBackLatest 105 = .ok (.goto 33, 3) := by decide +kernel
theorem dX1_takeBackLatest_108 : decode cX1_takeBackLatest 108 = .ok (.aload_n 1, 1) := by decide +kernel
theorem dX1_takeBackLatest_109 : decode cX1_takeBackLatest 109 = .ok (.getfield 40, 3) := by decide +kernel
theorem dX1_takeBackLatest_112 : decode cX1_takeBackLatest 112 = .ok (.iload_n 2, 1) := by decide +kernel
theorem dX1_takeBackLatest_113 : decode cX1_takeBackLatest 113 = .ok (.iload_n 3, 1) := by decide +kernel
theorem dX1_takeBackLatest_114 : decode cX1_takeBackLatest 114 = .ok (.iastore, 1) := by decide +kernel
theorem dX1_takeBackLatest_115 : decode cX1_takeBackLatest 115 = .ok (.goto 23, 3) := by decide +kernel
theorem dX1_takeBackLatest_118 : decode cX1_takeBackLatest 118 = .ok (.aload_n 1, 1) := by decide +kernel
theorem dX1_takeBackLatest_119 : decode cX1_takeBackLatest 119 = .ok (.getfield 43, 3) := by decide +kernel
theorem dX1_takeBackLatest_122 : decode cX1_takeBackLatest 122 = .ok (.iload_n 2, 1) := by decide +kernel
theorem dX1_takeBackLatest_123 : decode cX1_takeBackLatest 123 = .ok (.aload_n 1, 1) := by decide +kernel
theorem dX1_takeBackLatest_124 : decode cX1_takeBackLatest 124 = .ok (.getfield 43, 3) := by decide +kernel
theorem dX1_takeBackLatest_127 : decode cX1_takeBackLatest 127 = .ok (.iload_n 2, 1) := by decide +kernel
theorem dX1_takeBackLatest_128 : decode cX1_takeBackLatest 128 = .ok (.baload, 1) := by decide +kernel
theorem dX1_takeBackLatest_129 : decode cX1_takeBackLatest 129 = .ok (.ifCond .ne 7, 3) := by decide +kernel
theorem dX1_takeBackLatest_132 : decode cX1_takeBackLatest 132 = .ok (.iconst 1, 1) := by decide +kernel
theorem dX1_takeBackLatest_133 : decode cX1_takeBackLatest 133 = .ok (.goto 4, 3) := by decide +kernel
theorem dX1_takeBackLatest_136 : decode cX1_takeBackLatest 136 = .ok (.iconst 0, 1) := by decide +kernel
theorem dX1_takeBackLatest_137 : decode cX1_takeBackLatest 137 = .ok (.bastore, 1) := by decide +kernel
theorem dX1_takeBackLatest_138 : decode cX1_takeBackLatest 138 = .ok (.return_, 1) := by decide +kernel
theorem dX1_dropOldest_0 : decode cX1_dropOldest 0 = .ok (.aload_n 0, 1) := by decide +kernel
theorem dX1_dropOldest_1 : decode cX1_dropOldest 1 = .ok (.getfield 9, 3) := by decide +kernel
theorem dX1_dropOldest_4 : decode cX1_dropOldest 4 = .ok (.iconst 1, 1) := by decide +kernel
theorem dX1_dropOldest_5 : decode cX1_dropOldest 5 = .ok (.aload_n 0, 1) := by decide +kernel
theorem dX1_dropOldest_6 : decode cX1_dropOldest 6 = .ok (.getfield 9, 3) := by decide +kernel
theorem dX1_dropOldest_9 : decode cX1_dropOldest 9 = .ok (.iconst 0, 1) := by decide +kernel
theorem dX1_dropOldest_10 : decode cX1_dropOldest 10 = .ok (.bipush 9, 2) := by decide +kernel
theorem dX1_dropOldest_12 : decode cX1_dropOldest 12 = .ok (.invokestatic 47, 3) := by decide +kernel
theorem dX1_dropOldest_15 : decode cX1_dropOldest 15 = .ok (.aload_n 0, 1) := by decide +kernel
theorem dX1_dropOldest_16 : decode cX1_dropOldest 16 = .ok (.getfield 15, 3) := by decide +kernel
theorem dX1_dropOldest_19 : decode cX1_dropOldest 19 = .ok (.iconst 1, 1) := by decide +kernel
theorem dX1_dropOldest_20 : decode cX1_dropOldest 20 = .ok (.aload_n 0, 1) := by decide +kernel
theorem dX1_dropOldest_21 : decode cX1_dropOldest 21 = .ok (.getfield 15, 3) := by decide +kernel
theorem dX1_dropOldest_24 : decode cX1_dropOldest 24 = .ok (.iconst 0, 1) := by decide +kernel
theorem dX1_dropOldest_25 : decode cX1_dropOldest 25 = .ok (.bipush 9, 2) := by decide +kernel
theorem dX1_dropOldest_27 : decode cX1_dropOldest 27 = .ok (.invokestatic 47, 3) := by decide +kernel
theorem dX1_dropOldest_30 : decode cX1_dropOldest 30 = .ok (.aload_n 0, 1) := by decide +kernel
theorem dX1_dropOldest_31 : decode cX1_dropOldest 31 = .ok (.getfield 18, 3) := by decide +kernel
theorem dX1_dropOldest_34 : decode cX1_dropOldest 34 = .ok (.iconst 1, 1) := by decide +kernel
theorem dX1_dropOldest_35 : decode cX1_dropOldest 35 = .ok (.aload_n 0, 1) := by decide +kernel
theorem dX1_dropOldest_36 : decode cX1_dropOldest 36 = .ok (.getfield 18, 3) := by decide +kernel
theorem dX1_dropOldest_39 : decode cX1_dropOldest 39 = .ok (.iconst 0, 1) := by decide +kernel
theorem dX1_dropOldest_40 : decode cX1_dropOldest 40 = .ok (.bipush 9, 2) := by decide +kernel
theorem dX1_dropOldest_42 : decode cX1_dropOldest 42 = .ok (.invokestatic 47, 3) := by decide +kernel
theorem dX1_dropOldest_45 : decode cX1_dropOldest 45 = .ok (.aload_n 0, 1) := by decide +kernel
theorem dX1_dropOldest_46 : decode cX1_dropOldest 46 = .ok (.bipush 9, 2) := by decide +kernel
theorem dX1_dropOldest_48 : decode cX1_dropOldest 48 = .ok (.putfield 21, 3) := by decide +kernel
theorem dX1_dropOldest_51 : decode cX1_dropOldest 51 = .ok (.return_, 1) := by decide +kernel
theorem dX2_init_0 : decode cX2_init 0 = .ok (.aload_n 0, 1) := by decide +kernel
theorem dX2_init_1 : decode cX2_init 1 = .ok (.invokespecial 3, 3) := by decide +kernel
theorem dX2_init_4 : decode cX2_init 4 = .ok (.aload_n 0, 1) := by decide +kernel
theorem dX2_init_5 : decode cX2_init 5 = .ok (.new 9, 3) := by decide +kernel
theorem dX2_init_8 : decode cX2_init 8 = .ok (.dup, 1) := by decide +kernel
theorem dX2_init_9 : decode cX2_init 9 = .ok (.invokespecial 11, 3) := by decide +kernel
theorem dX2_init_12 : decode cX2_init 12 = .ok (.putfield 12, 3) := by decide +kernel
theorem dX2_init_15 : decode cX2_init 15 = .ok (.aload_n 0, 1) := by decide +kernel
theorem dX2_init_16 : decode cX2_init 16 = .ok (.iconst 5, 1) := by decide +kernel
theorem dX2_init_17 : decode cX2_init 17 = .ok (.newarray .int, 2) := by decide +kernel
theorem dX2_init_19 : decode cX2_init 19 = .ok (.putfield 18, 3) := by decide +kernel
theorem dX2_init_22 : decode cX2_init 22 = .ok (.aload_n 0, 1) := by decide +kernel
theorem dX2_init_23 : decode cX2_init 23 = .ok (.iconst 5, 1) := by decide +kernel
theorem dX2_init_24 : decode cX2_init 24 = .ok (.newarray .int, 2) := by decide +kernel
theorem dX2_init_26 : decode cX2_init 26 = .ok (.putfield 22, 3) := by decide +kernel
theorem dX2_init_29 : decode cX2_init 29 = .ok (.aload_n 0, 1) := by decide +kernel
theorem dX2_init_30 : decode cX2_init 30 = .ok (.iconst 5, 1) := by decide +kernel
theorem dX2_init_31 : decode cX2_init 31 = .ok (.newarray .int, 2) := by decide +kernel
theorem dX2_init_33 : decode cX2_init 33 = .ok (.putfield 25, 3) := by decide +kernel
theorem dX2_init_36 : decode cX2_init 36 = .ok (.aload_n 0, 1) := by decide +kernel
theorem dX2_init_37 : decode cX2_init 37 = .ok (.aload_n 1, 1) := by decide +kernel
theorem dX2_init_38 : decode cX2_init 38 = .ok (.putfield 28, 3) := by decide +kernel
theorem dX2_init_41 : decode cX2_init 41 = .ok (.aload_n 0, 1) := by decide +kernel
theorem dX2_init_42 : decode cX2_init 42 = .ok (.aload_n 2, 1) := by decide +kernel
theorem dX2_init_43 : decode cX2_init 43 = .ok (.putfield 32, 3) := by decide +kernel
theorem dX2_init_46 : decode cX2_init 46 = .ok (.return_, 1) := by decide +kernel
theorem dX2_winner_0 : decode cX2_winner 0 = .ok (.aload_n 0, 1) := by decide +kernel
theorem dX2_winner_1 : decode cX2_winner 1 = .ok (.aload_n 0, 1) := by decide +kernel
theorem dX2_winner_2 : decode cX2_winner 2 = .ok (.getfield 32, 3) := by decide +kernel
theorem dX2_winner_5 : decode cX2_winner 5 = .ok (.getfield 36, 3) := by decide +kernel
theorem dX2_winner_8 : decode cX2_winner 8 = .ok (.iconst 0, 1) := by decide +kernel
theorem dX2_winner_9 : decode cX2_winner 9 = .ok (.invokevirtual 41, 3) := by decide +kernel
theorem dX2_winner_12 : decode cX2_winner 12 = .ok (.ireturn, 1) := by decide +kernel
theorem dX2_timeOf_0 : decode cX2_timeOf 0 = .ok (.aload_n 0, 1) := by decide +kernel
theorem dX2_timeOf_1 : decode cX2_timeOf 1 = .ok (.aload_n 0, 1) := by decide +kernel
theorem dX2_timeOf_2 : decode cX2_timeOf 2 = .ok (.getfield 32, 3) := by decide +kernel
theorem dX2_timeOf_5 : decode cX2_timeOf 5 = .ok (.getfield 36, 3) := by decide +kernel
theorem dX2_timeOf_8 : decode cX2_timeOf 8 = .ok (.iconst 0, 1) := by decide +kernel
theorem dX2_timeOf_9 : decode cX2_timeOf 9 = .ok (.aload_n 0, 1) := by decide +kernel
theorem dX2_timeOf_10 : decode cX2_timeOf 10 = .ok (.getfield 28, 3) := by decide +kernel
theorem dX2_timeOf_13 : decode cX2_timeOf 13 = .ok (.getfield 45, 3) := by decide +kernel
theorem dX2_timeOf_16 : decode cX2_timeOf 16 = .ok (.invokevirtual 51, 3) := by decide +kernel
theorem dX2_timeOf_19 : decode cX2_timeOf 19 = .ok (.aload_n 0, 1) := by decide +kernel
theorem dX2_timeOf_20 : decode cX2_timeOf 20 = .ok (.getfield 12, 3) := by decide +kernel
theorem dX2_timeOf_23 : decode cX2_timeOf 23 = .ok (.getfield 55, 3) := by decide +kernel
theorem dX2_timeOf_26 : decode cX2_timeOf 26 = .ok (.iload_n 1, 1) := by decide +kernel
theorem dX2_timeOf_27 : decode cX2_timeOf 27 = .ok (.iaload, 1) := by decide +kernel
theorem dX2_timeOf_28 : decode cX2_timeOf 28 = .ok (.ireturn, 1) := by decide +kernel
theorem dX2_placed_0 : decode cX2_placed 0 = .ok (.aload_n 0, 1) := by decide +kernel
theorem dX2_placed_1 : decode cX2_placed 1 = .ok (.aload_n 0, 1) := by decide +kernel
theorem dX2_placed_2 : decode cX2_placed 2 = .ok (.getfield 32, 3) := by decide +kernel
theorem dX2_placed_5 : decode cX2_placed 5 = .ok (.getfield 36, 3) := by decide +kernel
theorem dX2_placed_8 : decode cX2_placed 8 = .ok (.iconst 0, 1) := by decide +kernel
theorem dX2_placed_9 : decode cX2_placed 9 = .ok (.aload_n 0, 1) := by decide +kernel
theorem dX2_placed_10 : decode cX2_placed 10 = .ok (.getfield 28, 3) := by decide +kernel
theorem dX2_placed_13 : decode cX2_placed 13 = .ok (.getfield 45, 3) := by decide +kernel
theorem dX2_placed_16 : decode cX2_placed 16 = .ok (.invokevirtual 51, 3) := by decide +kernel
theorem dX2_placed_19 : decode cX2_placed 19 = .ok (.aload_n 0, 1) := by decide +kernel
theorem dX2_placed_20 : decode cX2_placed 20 = .ok (.getfield 12, 3) := by decide +kernel
theorem dX2_placed_23 : decode cX2_placed 23 = .ok (.iload_n 1, 1) := by decide +kernel
theorem dX2_placed_24 : decode cX2_placed 24 = .ok (.invokevirtual 58, 3) := by decide +kernel
theorem dX2_placed_27 : decode cX2_placed 27 = .ok (.ireturn, 1) := by decide +kernel
theorem dX2_kings_0 : decode cX2_kings 0 = .ok (.iconst 1, 1) := by decide +kernel
theorem dX2_kings_1 : decode cX2_kings 1 = .ok (.aload_n 0, 1) := by decide +kernel
theorem dX2_kings_2 : decode cX2_kings 2 = .ok (.getfield 28, 3) := by decide +kernel
theorem dX2_kings_5 : decode cX2_kings 5 = .ok (.getfield 45, 3) := by decide +kernel
theorem dX2_kings_8 : decode cX2_kings 8 = .ok (.ishl, 1) := by decide +kernel
theorem dX2_kings_9 : decode cX2_kings 9 = .ok (.iconst 1, 1) := by decide +kernel
theorem dX2_kings_10 : decode cX2_kings 10 = .ok (.isub, 1) := by decide +kernel
theorem dX2_kings_11 : decode cX2_kings 11 = .ok (.istore_n 1, 1) := by decide +kernel
theorem dX2_kings_12 : decode cX2_kings 12 = .ok (.iconst 0, 1) := by decide +kernel
theorem dX2_kings_13 : decode cX2_kings 13 = .ok (.istore_n 2, 1) := by decide +kernel
theorem dX2_kings_14 : decode cX2_kings 14 = .ok (.aload_n 0, 1) := by decide +kernel
theorem dX2_kings_15 : decode cX2_kings 15 = .ok (.invokevirtual 62, 3) := by decide +kernel
theorem dX2_kings_18 : decode cX2_kings 18 = .ok (.iconst 1, 1) := by decide +kernel
theorem dX2_kings_19 : decode cX2_kings 19 = .ok (.istore_n 3, 1) := by decide +kernel
theorem dX2_kings_20 : decode cX2_kings 20 = .ok (.iconst 0, 1) := by decide +kernel
theorem dX2_kings_21 : decode cX2_kings 21 = .ok (.istore 4, 2) := by decide +kernel
theorem dX2_kings_23 : decode cX2_kings 23 = .ok (.iload 4, 2) := by decide +kernel
theorem dX2_kings_25 : decode cX2_kings 25 = .ok (.bipush 120, 2) := by decide +kernel
theorem dX2_kings_27 : decode cX2_kings 27 = .ok (.if_icmp .ge 46, 3) := by decide +kernel
theorem dX2_kings_30 : decode cX2_kings 30 = .ok (.iload_n 3, 1) := by decide +kernel
theorem dX2_kings_31 : decode cX2_kings 31 = .ok (.ifCond .eq 42, 3) := by decide +kernel
theorem dX2_kings_34 : decode cX2_kings 34 = .ok (.iload_n 2, 1) := by decide +kernel
theorem dX2_kings_35 : decode cX2_kings 35 = .ok (.iload_n 1, 1) := by decide +kernel
theorem dX2_kings_36 : decode cX2_kings 36 = .ok (.if_icmp .eq 37, 3) := by decide +kernel
theorem dX2_kings_39 : decode cX2_kings 39 = .ok (.aload_n 0, 1) := by decide +kernel
theorem dX2_kings_40 : decode cX2_kings 40 = .ok (.aload_n 0, 1) := by decide +kernel
theorem dX2_kings_41 : decode cX2_kings 41 = .ok (.getfield 18, 3) := by decide +kernel
theorem dX2_kings_44 : decode cX2_kings 44 = .ok (.iconst 0, 1) := by decide +kernel
theorem dX2_kings_45 : decode cX2_kings 45 = .ok (.invokevirtual 41, 3) := by decide +kernel
theorem dX2_kings_48 : decode cX2_kings 48 = .ok (.istore 5, 2) := by decide +kernel
theorem dX2_kings_50 : decode cX2_kings 50 = .ok (.iload 5, 2) := by decide +kernel
theorem dX2_kings_52 : decode cX2_kings 52 = .ok (.ifCond .lt 10, 3) := by decide +kernel
theorem dX2_kings_55 : decode cX2_kings 55 = .ok (.iload_n 2, 1) := by decide +kernel
theorem dX2_kings_56 : decode cX2_kings 56 = .ok (.iconst 1, 1) := by decide +kernel
theorem dX2_kings_57 : decode cX2_kings 57 = .ok (.iload 5, 2) := by decide +kernel
theorem dX2_kings_59 : decode cX2_kings 59 = .ok (.ishl, 1) := by decide +kernel
theorem dX2_kings_60 : decode cX2_kings 60 = .ok (.ior, 1) := by decide +kernel
theorem dX2_kings_61 : decode cX2_kings 61 = .ok (.istore_n 2, 1) := by decide +kernel
theorem dX2_kings_62 : decode cX2_kings 62 = .ok (.aload_n 0, 1) := by decide +kernel
theorem dX2_kings_63 : decode cX2_kings 63 = .ok (.invokevirtual 65, 3) := by decide +kernel
theorem dX2_kings_66 : decode cX2_kings 66 = .ok (.istore_n 3, 1) := by decide +kernel
theorem dX2_kings_67 : decode cX2_kings 67 = .ok (.iinc 4 1, 3) := by decide +kernel
theorem dX2_kings_70 : decode cX2_kings 70 = .ok (.goto (-47), 3) := by decide +kernel
theorem dX2_kings_73 : decode cX2_kings 73 = .ok (.iload_n 2, 1) := by decide +kernel
theorem dX2_kings_74 : decode cX2_kings 74 = .ok (.ireturn, 1) := by decide +kernel
theorem dX2_findKing_0 : decode cX2_findKing 0 = .ok (.bipush 6, 2) := by decide +kernel
theorem dX2_findKing_2 : decode cX2_findKing 2 = .ok (.istore_n 2, 1) := by decide +kernel
theorem dX2_findKing_3 : decode cX2_findKing 3 = .ok (.aload_n 0, 1) := by decide +kernel
theorem dX2_findKing_4 : decode cX2_findKing 4 = .ok (.invokevirtual 62, 3) := by decide +kernel
theorem dX2_findKing_7 : decode cX2_findKing 7 = .ok (.iconst 1, 1) := by decide +kernel
theorem dX2_findKing_8 : decode cX2_findKing 8 = .ok (.istore_n 3, 1) := by decide +kernel
theorem dX2_findKing_9 : decode cX2_findKing 9 = .ok (.iconst 0, 1) := by decide +kernel
theorem dX2_findKing_10 : decode cX2_findKing 10 = .ok (.istore 4, 2) := by decide +kernel
theorem dX2_findKing_12 : decode cX2_findKing 12 = .ok (.iload 4, 2) := by decide +kernel
theorem dX2_findKing_14 : decode cX2_findKing 14 = .ok (.bipush 120, 2) := by decide +kernel
theorem dX2_findKing_16 : decode cX2_findKing 16 = .ok (.if_icmp .ge 60, 3) := by decide +kernel
theorem dX2_findKing_19 : decode cX2_findKing 19 = .ok (.iload_n 3, 1) := by decide +kernel
theorem dX2_findKing_20 : decode cX2_findKing 20 = .ok (.ifCond .eq 56, 3) := by decide +kernel
theorem dX2_findKing_23 : decode cX2_findKing 23 = .ok (.aload_n 0, 1) := by decide +kernel
theorem dX2_findKing_24 : decode cX2_findKing 24 = .ok (.invokevirtual 69, 3) := by decide +kernel
theorem dX2_findKing_27 : decode cX2_findKing 27 = .ok (.istore 5, 2) := by decide +kernel
theorem dX2_findKing_29 : decode cX2_findKing 29 = .ok (.iload 5, 2) := by decide +kernel
theorem dX2_findKing_31 : decode cX2_findKing 31 = .ok (.iload_n 2, 1) := by decide +kernel
theorem dX2_findKing_32 : decode cX2_findKing 32 = .ok (.if_icmp .ge 33, 3) := by decide +kernel
theorem dX2_findKing_35 : decode cX2_findKing 35 = .ok (.aload_n 0, 1) := by decide +kernel
theorem dX2_findKing_36 : decode cX2_findKing 36 = .ok (.aload_n 0, 1) := by decide +kernel
theorem dX2_findKing_37 : decode cX2_findKing 37 = .ok (.getfield 18, 3) := by decide +kernel
theorem dX2_findKing_40 : decode cX2_findKing 40 = .ok (.iconst 0, 1) := by decide +kernel
theorem dX2_findKing_41 : decode cX2_findKing 41 = .ok (.invokevirtual 41, 3) := by decide +kernel
theorem dX2_findKing_44 : decode cX2_findKing 44 = .ok (.iload_n 1, 1) := by decide +kernel
theorem dX2_findKing_45 : decode cX2_findKing 45 = .ok (.if_icmp .ne 20, 3) := by decide +kernel
theorem dX2_findKing_48 : decode cX2_findKing 48 = .ok (.iload 5, 2) := by decide +kernel
theorem dX2_findKing_50 : decode cX2_findKing 50 = .ok (.istore_n 2, 1) := by decide +kernel
theorem dX2_findKing_51 : decode cX2_findKing 51 = .ok (.aload_n 0, 1) := by decide +kernel
theorem dX2_findKing_52 : decode cX2_findKing 52 = .ok (.getfield 18, 3) := by decide +kernel
theorem dX2_findKing_55 : decode cX2_findKing 55 = .ok (.iconst 0, 1) := by decide +kernel
theorem dX2_findKing_56 : decode cX2_findKing 56 = .ok (.aload_n 0, 1) := by decide +kernel
theorem dX2_findKing_57 : decode cX2_findKing 57 = .ok (.getfield 22, 3) := by decide +kernel
theorem dX2_findKing_60 : decode cX2_findKing 60 = .ok (.iconst 0, 1) := by decide +kernel
theorem dX2_findKing_61 : decode cX2_findKing 61 = .ok (.iconst 5, 1) := by decide +kernel
theorem dX2_findKing_62 : decode cX2_findKing 62 = .ok (.invokestatic 73, 3) := by decide +kernel
theorem dX2_findKing_65 : decode cX2_findKing 65 = .ok (.aload_n 0, 1) := by decide +kernel
theorem dX2_findKing_66 : decode cX2_findKing 66 = .ok (.invokevirtual 65, 3) := by decide +kernel
theorem dX2_findKing_69 : decode cX2_findKing 69 = .ok (.istore_n 3, 1) := by decide +kernel
theorem dX2_findKing_70 : decode cX2_findKing 70 = .ok (.iinc 4 1, 3) := by decide +kernel
theorem dX2_findKing_73 : decode cX2_findKing 73 = .ok (.goto (-61), 3) := by decide +kernel
theorem dX2_findKing_76 : decode cX2_findKing 76 = .ok (.iload_n 2, 1) := by decide +kernel
theorem dX2_findKing_77 : decode cX2_findKing 77 = .ok (.iconst 5, 1) := by decide +kernel
theorem dX2_findKing_78 : decode cX2_findKing 78 = .ok (.if_icmp .le 8, 3) := by decide +kernel
theorem dX2_findKing_81 : decode cX2_findKing 81 = .ok (.bipush (-9), 2) := by decide +kernel
theorem dX2_findKing_83 : decode cX2_findKing 83 = .ok (.goto 4, 3) := by decide +kernel
theorem dX2_findKing_86 : decode cX2_findKing 86 = .ok (.iload_n 2, 1) := by decide +kernel
theorem dX2_findKing_87 : decode cX2_findKing 87 = .ok (.ireturn, 1) := by decide +kernel
theorem dX2_kingsPusher_0 : decode cX2_kingsPusher 0 = .ok (.aload_n 0, 1) := by decide +kernel
theorem dX2_kingsPusher_1 : decode cX2_kingsPusher 1 = .ok (.getfield 22, 3) := by decide +kernel
theorem dX2_kingsPusher_4 : decode cX2_kingsPusher 4 = .ok (.iload_n 1, 1) := by decide +kernel
theorem dX2_kingsPusher_5 : decode cX2_kingsPusher 5 = .ok (.iaload, 1) := by decide +kernel
theorem dX2_kingsPusher_6 : decode cX2_kingsPusher 6 = .ok (.ireturn, 1) := by decide +kernel
theorem dX2_fairGoal_0 : decode cX2_fairGoal 0 = .ok (.iconst 0, 1) := by decide +kernel
theorem dX2_fairGoal_1 : decode cX2_fairGoal 1 = .ok (.istore_n 1, 1) := by decide +kernel
theorem dX2_fairGoal_2 : decode cX2_fairGoal 2 = .ok (.iload_n 1, 1) := by decide +kernel
theorem dX2_fairGoal_3 : decode cX2_fairGoal 3 = .ok (.aload_n 0, 1) := by decide +kernel
theorem dX2_fairGoal_4 : decode cX2_fairGoal 4 = .ok (.getfield 28, 3) := by decide +kernel
theorem dX2_fairGoal_7 : decode cX2_fairGoal 7 = .ok (.getfield 45, 3) := by decide +kernel
theorem dX2_fairGoal_10 : decode cX2_fairGoal 10 = .ok (.if_icmp .ge 34, 3) := by decide +kernel
theorem dX2_fairGoal_13 : decode cX2_fairGoal 13 = .ok (.aload_n 0, 1) := by decide +kernel
theorem dX2_fairGoal_14 : decode cX2_fairGoal 14 = .ok (.getfield 25, 3) := by decide +kernel
theorem dX2_fairGoal_17 : decode cX2_fairGoal 17 = .ok (.iload_n 1, 1) := by decide +kernel
theorem dX2_fairGoal_18 : decode cX2_fairGoal 18 = .ok (.aload_n 0, 1) := by decide +kernel
theorem dX2_fairGoal_19 : decode cX2_fairGoal 19 = .ok (.getfield 28, 3) := by decide +kernel
theorem dX2_fairGoal_22 : decode cX2_fairGoal 22 = .ok (.aload_n 0, 1) := by decide +kernel
theorem dX2_fairGoal_23 : decode cX2_fairGoal 23 = .ok (.getfield 32, 3) := by decide +kernel
theorem dX2_fairGoal_26 : decode cX2_fairGoal 26 = .ok (.aload_n 0, 1) := by decide +kernel
theorem dX2_fairGoal_27 : decode cX2_fairGoal 27 = .ok (.getfield 28, 3) := by decide +kernel
theorem dX2_fairGoal_30 : decode cX2_fairGoal 30 = .ok (.iload_n 1, 1) := by decide +kernel
theorem dX2_fairGoal_31 : decode cX2_fairGoal 31 = .ok (.invokevirtual 79, 3) := by decide +kernel
theorem dX2_fairGoal_34 : decode cX2_fairGoal 34 = .ok (.invokevirtual 83, 3) := by decide +kernel
theorem dX2_fairGoal_37 : decode cX2_fairGoal 37 = .ok (.iastore, 1) := by decide +kernel
theorem dX2_fairGoal_38 : decode cX2_fairGoal 38 = .ok (.iinc 1 1, 3) := by decide +kernel
theorem dX2_fairGoal_41 : decode cX2_fairGoal 41 = .ok (.goto (-39), 3) := by decide +kernel
theorem dX2_fairGoal_44 : decode cX2_fairGoal 44 = .ok (.iconst 0, 1) := by decide +kernel
theorem dX2_fairGoal_45 : decode cX2_fairGoal 45 = .ok (.istore_n 1, 1) := by decide +kernel
theorem dX2_fairGoal_46 : decode cX2_fairGoal 46 = .ok (.aload_n 0, 1) := by decide +kernel
theorem dX2_fairGoal_47 : decode cX2_fairGoal 47 = .ok (.iload_n 1, 1) := by decide +kernel
theorem dX2_fairGoal_48 : decode cX2_fairGoal 48 = .ok (.invokevirtual 86, 3) := by decide +kernel
theorem dX2_fairGoal_51 : decode cX2_fairGoal 51 = .ok (.istore_n 2, 1) := by decide +kernel
theorem dX2_fairGoal_52 : decode cX2_fairGoal 52 = .ok (.iconst 1, 1) := by decide +kernel
theorem dX2_fairGoal_53 : decode cX2_fairGoal 53 = .ok (.istore_n 3, 1) := by decide +kernel
theorem dX2_fairGoal_54 : decode cX2_fairGoal 54 = .ok (.iload_n 3, 1) := by decide +kernel
theorem dX2_fairGoal_55 : decode cX2_fairGoal 55 = .ok (.sipush 133, 3) := by decide +kernel
theorem dX2_fairGoal_58 : decode cX2_fairGoal 58 = .ok (.if_icmp .gt 27, 3) := by decide +kernel
theorem dX2_fairGoal_61 : decode cX2_fairGoal 61 = .ok (.aload_n 0, 1) := by decide +kernel
theorem dX2_fairGoal_62 : decode cX2_fairGoal 62 = .ok (.iload_n 3, 1) := by decide +kernel
theorem dX2_fairGoal_63 : decode cX2_fairGoal 63 = .ok (.invokevirtual 86, 3) := by decide +kernel
theorem dX2_fairGoal_66 : decode cX2_fairGoal 66 = .ok (.istore 4, 2) := by decide +kernel
theorem dX2_fairGoal_68 : decode cX2_fairGoal 68 = .ok (.iload 4, 2) := by decide +kernel
theorem dX2_fairGoal_70 : decode cX2_fairGoal 70 = .ok (.iload_n 2, 1) := by decide +kernel
theorem dX2_fairGoal_71 : decode cX2_fairGoal 71 = .ok (.if_icmp .ge 8, 3) := by decide +kernel
theorem dX2_fairGoal_74 : decode cX2_fairGoal 74 = .ok (.iload_n 3, 1) := by decide +kernel
theorem dX2_fairGoal_75 : decode cX2_fairGoal 75 = .ok (.istore_n 1, 1) := by decide +kernel
theorem dX2_fairGoal_76 : decode cX2_fairGoal 76 = .ok (.iload 4, 2) := by decide +kernel
theorem dX2_fairGoal_78 : decode cX2_fairGoal 78 = .ok (.istore_n 2, 1) := by decide +kernel
theorem dX2_fairGoal_79 : decode cX2_fairGoal 79 = .ok (.iinc 3 1, 3) := by decide +kernel
theorem dX2_fairGoal_82 : decode cX2_fairGoal 82 = .ok (.goto (-28), 3) := by decide +kernel
theorem dX2_fairGoal_85 : decode cX2_fairGoal 85 = .ok (.iload_n 1, 1) := by decide +kernel
theorem dX2_fairGoal_86 : decode cX2_fairGoal 86 = .ok (.ireturn, 1) := by decide +kernel
theorem dX2_handicapFor_0 : decode cX2_handicapFor 0 = .ok (.iload_n 1, 1) := by decide +kernel
theorem dX2_handicapFor_1 : decode cX2_handicapFor 1 = .ok (.aload_n 0, 1) := by decide +kernel
theorem dX2_handicapFor_2 : decode cX2_handicapFor 2 = .ok (.getfield 25, 3) := by decide +kernel
theorem dX2_handicapFor_5 : decode cX2_handicapFor 5 = .ok (.iload_n 2, 1) := by decide +kernel
theorem dX2_handicapFor_6 : decode cX2_handicapFor 6 = .ok (.iaload, 1) := by decide +kernel
theorem dX2_handicapFor_7 : decode cX2_handicapFor 7 = .ok (.isub, 1) := by decide +kernel
theorem dX2_handicapFor_8 : decode cX2_handicapFor 8 = .ok (.istore_n 3, 1) := by decide +kernel
theorem dX2_handicapFor_9 : decode cX2_handicapFor 9 = .ok (.iconst 0, 1) := by decide +kernel
theorem dX2_handicapFor_10 : decode cX2_handicapFor 10 = .ok (.iconst 5, 1) := by decide +kernel
theorem dX2_handicapFor_11 : decode cX2_handicapFor 11 = .ok (.iload_n 3, 1) := by decide +kernel
theorem dX2_handicapFor_12 : decode cX2_handicapFor 12 = .ok (.invokestatic 89, 3) := by decide +kernel
theorem dX2_handicapFor_15 : decode cX2_handicapFor 15 = .ok (.invokestatic 95, 3) := by decide +kernel
theorem dX2_handicapFor_18 : decode cX2_handicapFor 18 = .ok (.ireturn, 1) := by decide +kernel
theorem dX2_spreadFor_0 : decode cX2_spreadFor 0 = .ok (.ldc 100, 2) := by decide +kernel
theorem dX2_spreadFor_2 : decode cX2_spreadFor 2 = .ok (.istore_n 2, 1) := by decide +kernel
theorem dX2_spreadFor_3 : decode cX2_spreadFor 3 = .ok (.iconst 0, 1) := by decide +kernel
theorem dX2_spreadFor_4 : decode cX2_spreadFor 4 = .ok (.istore_n 3, 1) := by decide +kernel
theorem dX2_spreadFor_5 : decode cX2_spreadFor 5 = .ok (.iconst 0, 1) := by decide +kernel
theorem dX2_spreadFor_6 : decode cX2_spreadFor 6 = .ok (.istore 4, 2) := by decide +kernel
theorem dX2_spreadFor_8 : decode cX2_spreadFor 8 = .ok (.iload 4, 2) := by decide +kernel
theorem dX2_spreadFor_10 : decode cX2_spreadFor 10 = .ok (.aload_n 0, 1) := by decide +kernel
theorem dX2_spreadFor_11 : decode cX2_spreadFor 11 = .ok (.getfield 28, 3) := by decide +kernel
theorem dX2_spreadFor_14 : decode cX2_spreadFor 14 = .ok (.getfield 45, 3) := by decide +kernel
theorem dX2_spreadFor_17 : decode cX2_spreadFor 17 = .ok (.if_icmp .ge 40, 3) := by decide +kernel
theorem dX2_spreadFor_20 : decode cX2_spreadFor 20 = .ok (.aload_n 0, 1) := by decide +kernel
theorem dX2_spreadFor_21 : decode cX2_spreadFor 21 = .ok (.getfield 25, 3) := by decide +kernel
theorem dX2_spreadFor_24 : decode cX2_spreadFor 24 = .ok (.iload 4, 2) := by decide +kernel
theorem dX2_spreadFor_26 : decode cX2_spreadFor 26 = .ok (.iaload, 1) := by decide +kernel
theorem dX2_spreadFor_27 : decode cX2_spreadFor 27 = .ok (.aload_n 0, 1) := by decide +kernel
theorem dX2_spreadFor_28 : decode cX2_spreadFor 28 = .ok (.iload_n 1, 1) := by decide +kernel
theorem dX2_spreadFor_29 : decode cX2_spreadFor 29 = .ok (.iload 4, 2) := by decide +kernel
theorem dX2_spreadFor_31 : decode cX2_spreadFor 31 = .ok (.invokevirtual 101, 3) := by decide +kernel
theorem dX2_spreadFor_34 : decode cX2_spreadFor 34 = .ok (.iadd, 1) := by decide +kernel
theorem dX2_spreadFor_35 : decode cX2_spreadFor 35 = .ok (.istore 5, 2) := by decide +kernel
theorem dX2_spreadFor_37 : decode cX2_spreadFor 37 = .ok (.iload_n 2, 1) := by decide +kernel
theorem dX2_spreadFor_38 : decode cX2_spreadFor 38 = .ok (.iload 5, 2) := by decide +kernel
theorem dX2_spreadFor_40 : decode cX2_spreadFor 40 = .ok (.invokestatic 89, 3) := by decide +kernel
theorem dX2_spreadFor_43 : decode cX2_spreadFor 43 = .ok (.istore_n 2, 1) := by decide +kernel
theorem dX2_spreadFor_44 : decode cX2_spreadFor 44 = .ok (.iload_n 3, 1) := by decide +kernel
theorem dX2_spreadFor_45 : decode cX2_spreadFor 45 = .ok (.iload 5, 2) := by decide +kernel
theorem dX2_spreadFor_47 : decode cX2_spreadFor 47 = .ok (.invokestatic 95, 3) := by decide +kernel
theorem dX2_spreadFor_50 : decode cX2_spreadFor 50 = .ok (.istore_n 3, 1) := by decide +kernel
theorem dX2_spreadFor_51 : decode cX2_spreadFor 51 = .ok (.iinc 4 1, 3) := by decide +kernel
theorem dX2_spreadFor_54 : decode cX2_spreadFor 54 = .ok (.goto (-46), 3) := by decide +kernel
theorem dX2_spreadFor_57 : decode cX2_spreadFor 57 = .ok (.iload_n 3, 1) := by decide +kernel
theorem dX2_spreadFor_58 : decode cX2_spreadFor 58 = .ok (.iload_n 2, 1) := by decide +kernel
theorem dX2_spreadFor_59 : decode cX2_spreadFor 59 = .ok (.isub, 1) := by decide +kernel
theorem dX2_spreadFor_60 : decode cX2_spreadFor 60 = .ok (.ireturn, 1) := by decide +kernel
theorem dX2_winsIn_0 : decode cX2_winsIn 0 = .ok (.iconst 0, 1) := by decide +kernel
theorem dX2_winsIn_1 : decode cX2_winsIn 1 = .ok (.istore_n 3, 1) := by decide +kernel
theorem dX2_winsIn_2 : decode cX2_winsIn 2 = .ok (.iconst 0, 1) := by decide +kernel
theorem dX2_winsIn_3 : decode cX2_winsIn 3 = .ok (.istore 4, 2) := by decide +kernel
theorem dX2_winsIn_5 : decode cX2_winsIn 5 = .ok (.iload 4, 2) := by decide +kernel
theorem dX2_winsIn_7 : decode cX2_winsIn 7 = .ok (.iconst 1, 1) := by decide +kernel
theorem dX2_winsIn_8 : decode cX2_winsIn 8 = .ok (.aload_n 0, 1) := by decide +kernel
theorem dX2_winsIn_9 : decode cX2_winsIn 9 = .ok (.getfield 28, 3) := by decide +kernel
theorem dX2_winsIn_12 : decode cX2_winsIn 12 = .ok (.getfield 45, 3) := by decide +kernel
theorem dX2_winsIn_15 : decode cX2_winsIn 15 = .ok (.ishl, 1) := by decide +kernel
theorem dX2_winsIn_16 : decode cX2_winsIn 16 = .ok (.if_icmp .ge 45, 3) := by decide +kernel
theorem dX2_winsIn_19 : decode cX2_winsIn 19 = .ok (.aload_n 0, 1) := by decide +kernel
theorem dX2_winsIn_20 : decode cX2_winsIn 20 = .ok (.iload 4, 2) := by decide +kernel
theorem dX2_winsIn_22 : decode cX2_winsIn 22 = .ok (.iload_n 2, 1) := by decide +kernel
theorem dX2_winsIn_23 : decode cX2_winsIn 23 = .ok (.invokevirtual 104, 3) := by decide +kernel
theorem dX2_winsIn_26 : decode cX2_winsIn 26 = .ok (.istore 5, 2) := by decide +kernel
theorem dX2_winsIn_28 : decode cX2_winsIn 28 = .ok (.iload 5, 2) := by decide +kernel
theorem dX2_winsIn_30 : decode cX2_winsIn 30 = .ok (.ifCond .le 25, 3) := by decide +kernel
theorem dX2_winsIn_33 : decode cX2_winsIn 33 = .ok (.aload_n 0, 1) := by decide +kernel
theorem dX2_winsIn_34 : decode cX2_winsIn 34 = .ok (.aload_n 0, 1) := by decide +kernel
theorem dX2_winsIn_35 : decode cX2_winsIn 35 = .ok (.getfield 32, 3) := by decide +kernel
theorem dX2_winsIn_38 : decode cX2_winsIn 38 = .ok (.getfield 36, 3) := by decide +kernel
theorem dX2_winsIn_41 : decode cX2_winsIn 41 = .ok (.iload 4, 2) := by decide +kernel
theorem dX2_winsIn_43 : decode cX2_winsIn 43 = .ok (.invokevirtual 41, 3) := by decide +kernel
theorem dX2_winsIn_46 : decode cX2_winsIn 46 = .ok (.iload_n 1, 1) := by decide +kernel
theorem dX2_winsIn_47 : decode cX2_winsIn 47 = .ok (.if_icmp .ne 8, 3) := by decide +kernel
theorem dX2_winsIn_50 : decode cX2_winsIn 50 = .ok (.iload_n 3, 1) := by decide +kernel
theorem dX2_winsIn_51 : decode cX2_winsIn 51 = .ok (.iload 5, 2) := by decide +kernel
theorem dX2_winsIn_53 : decode cX2_winsIn 53 = .ok (.iadd, 1) := by decide +kernel
theorem dX2_winsIn_54 : decode cX2_winsIn 54 = .ok (.istore_n 3, 1) := by decide +kernel
theorem dX2_winsIn_55 : decode cX2_winsIn 55 = .ok (.iinc 4 1, 3) := by decide +kernel
theorem dX2_winsIn_58 : decode cX2_winsIn 58 = .ok (.goto (-53), 3) := by decide +kernel
theorem dX2_winsIn_61 : decode cX2_winsIn 61 = .ok (.iload_n 3, 1) := by decide +kernel
theorem dX2_winsIn_62 : decode cX2_winsIn 62 = .ok (.ireturn, 1) := by decide +kernel
theorem dX2_allIn_0 : decode cX2_allIn 0 = .ok (.iconst 1, 1) := by decide +kernel
theorem dX2_allIn_1 : decode cX2_allIn 1 = .ok (.istore_n 1, 1) := by decide +kernel
theorem dX2_allIn_2 : decode cX2_allIn 2 = .ok (.iconst 0, 1) := by decide +kernel
theorem dX2_allIn_3 : decode cX2_allIn 3 = .ok (.istore_n 2, 1) := by decide +kernel
theorem dX2_allIn_4 : decode cX2_allIn 4 = .ok (.iload_n 2, 1) := by decide +kernel
theorem dX2_allIn_5 : decode cX2_allIn 5 = .ok (.aload_n 0, 1) := by decide +kernel
theorem dX2_allIn_6 : decode cX2_allIn 6 = .ok (.getfield 28, 3) := by decide +kernel
theorem dX2_allIn_9 : decode cX2_allIn 9 = .ok (.getfield 45, 3) := by decide +kernel
theorem dX2_allIn_12 : decode cX2_allIn 12 = .ok (.if_icmp .ge 14, 3) := by decide +kernel
theorem dX2_allIn_15 : decode cX2_allIn 15 = .ok (.iload_n 1, 1) := by decide +kernel
theorem dX2_allIn_16 : decode cX2_allIn 16 = .ok (.bipush 10, 2) := by decide +kernel
theorem dX2_allIn_18 : decode cX2_allIn 18 = .ok (.imul, 1) := by decide +kernel
theorem dX2_allIn_19 : decode cX2_allIn 19 = .ok (.istore_n 1, 1) := by decide +kernel
theorem dX2_allIn_20 : decode cX2_allIn 20 = .ok (.iinc 2 1, 3) := by decide +kernel
theorem dX2_allIn_23 : decode cX2_allIn 23 = .ok (.goto (-19), 3) := by decide +kernel
theorem dX2_allIn_26 : decode cX2_allIn 26 = .ok (.iload_n 1, 1) := by decide +kernel
theorem dX2_allIn_27 : decode cX2_allIn 27 = .ok (.ireturn, 1) := by decide +kernel
theorem dX2_weightOf_0 : decode cX2_weightOf 0 = .ok (.iconst 1, 1) := by decide +kernel
theorem dX2_weightOf_1 : decode cX2_weightOf 1 = .ok (.istore_n 3, 1) := by decide +kernel
theorem dX2_weightOf_2 : decode cX2_weightOf 2 = .ok (.iconst 0, 1) := by decide +kernel
theorem dX2_weightOf_3 : decode cX2_weightOf 3 = .ok (.istore 4, 2) := by decide +kernel
theorem dX2_weightOf_5 : decode cX2_weightOf 5 = .ok (.iload 4, 2) := by decide +kernel
theorem dX2_weightOf_7 : decode cX2_weightOf 7 = .ok (.aload_n 0, 1) := by decide +kernel
theorem dX2_weightOf_8 : decode cX2_weightOf 8 = .ok (.getfield 28, 3) := by decide +kernel
theorem dX2_weightOf_11 : decode cX2_weightOf 11 = .ok (.getfield 45, 3) := by decide +kernel
theorem dX2_weightOf_14 : decode cX2_weightOf 14 = .ok (.if_icmp .ge 29, 3) := by decide +kernel
theorem dX2_weightOf_17 : decode cX2_weightOf 17 = .ok (.iload_n 3, 1) := by decide +kernel
theorem dX2_weightOf_18 : decode cX2_weightOf 18 = .ok (.iload_n 1, 1) := by decide +kernel
theorem dX2_weightOf_19 : decode cX2_weightOf 19 = .ok (.iload 4, 2) := by decide +kernel
theorem dX2_weightOf_21 : decode cX2_weightOf 21 = .ok (.invokestatic 107, 3) := by decide +kernel
theorem dX2_weightOf_24 : decode cX2_weightOf 24 = .ok (.ifCond .eq 7, 3) := by decide +kernel
theorem dX2_weightOf_27 : decode cX2_weightOf 27 = .ok (.iload_n 2, 1) := by decide +kernel
theorem dX2_weightOf_28 : decode cX2_weightOf 28 = .ok (.goto 7, 3) := by decide +kernel
theorem dX2_weightOf_31 : decode cX2_weightOf 31 = .ok (.bipush 10, 2) := by decide +kernel
theorem dX2_weightOf_33 : decode cX2_weightOf 33 = .ok (.iload_n 2, 1) := by decide +kernel
theorem dX2_weightOf_34 : decode cX2_weightOf 34 = .ok (.isub, 1) := by decide +kernel
theorem dX2_weightOf_35 : decode cX2_weightOf 35 = .ok (.imul, 1) := by decide +kernel
theorem dX2_weightOf_36 : decode cX2_weightOf 36 = .ok (.istore_n 3, 1) := by decide +kernel
theorem dX2_weightOf_37 : decode cX2_weightOf 37 = .ok (.iinc 4 1, 3) := by decide +kernel
theorem dX2_weightOf_40 : decode cX2_weightOf 40 = .ok (.goto (-35), 3) := by decide +kernel
theorem dX2_weightOf_43 : decode cX2_weightOf 43 = .ok (.iload_n 3, 1) := by decide +kernel
theorem dX2_weightOf_44 : decode cX2_weightOf 44 = .ok (.ireturn, 1) := by decide +kernel
theorem dX2_isIll_0 : decode cX2_isIll 0 = .ok (.iload_n 0, 1) := by decide +kernel
theorem dX2_isIll_1 : decode cX2_isIll 1 = .ok (.iload_n 1, 1) := by decide +kernel
theorem dX2_isIll_2 : decode cX2_isIll 2 = .ok (.ishr, 1) := by decide +kernel
theorem dX2_isIll_3 : decode cX2_isIll 3 = .ok (.iconst 1, 1) := by decide +kernel
theorem dX2_isIll_4 : decode cX2_isIll 4 = .ok (.iand, 1) := by decide +kernel
theorem dX2_isIll_5 : decode cX2_isIll 5 = .ok (.iconst 1, 1) := by decide +kernel
theorem dX2_isIll_6 : decode cX2_isIll 6 = .ok (.if_icmp .ne 7, 3) := by decide +kernel
theorem dX2_isIll_9 : decode cX2_isIll 9 = .ok (.iconst 1, 1) := by decide +kernel
theorem dX2_isIll_10 : decode cX2_isIll 10 = .ok (.goto 4, 3) := by decide +kernel
theorem dX2_isIll_13 : decode cX2_isIll 13 = .ok (.iconst 0, 1) := by decide +kernel
theorem dX2_isIll_14 : decode cX2_isIll 14 = .ok (.ireturn, 1) := by decide +kernel
theorem dX2_winnerBy_0 : decode cX2_winnerBy 0 = .ok (.aload_n 0, 1) := by decide +kernel
theorem dX2_winnerBy_1 : decode cX2_winnerBy 1 = .ok (.aload_n 1, 1) := by decide +kernel
theorem dX2_winnerBy_2 : decode cX2_winnerBy 2 = .ok (.iload_n 2, 1) := by decide +kernel
theorem dX2_winnerBy_3 : decode cX2_winnerBy 3 = .ok (.iconst 1, 1) := by decide +kernel
theorem dX2_winnerBy_4 : decode cX2_winnerBy 4 = .ok (.invokevirtual 51, 3) := by decide +kernel
theorem dX2_winnerBy_7 : decode cX2_winnerBy 7 = .ok (.aload_n 0, 1) := by decide +kernel
theorem dX2_winnerBy_8 : decode cX2_winnerBy 8 = .ok (.getfield 12, 3) := by decide +kernel
theorem dX2_winnerBy_11 : decode cX2_winnerBy 11 = .ok (.iconst 0, 1) := by decide +kernel
theorem dX2_winnerBy_12 : decode cX2_winnerBy 12 = .ok (.invokevirtual 58, 3) := by decide +kernel
theorem dX2_winnerBy_15 : decode cX2_winnerBy 15 = .ok (.ireturn, 1) := by decide +kernel
theorem dX2_raceBy_0 : decode cX2_raceBy 0 = .ok (.iconst 0, 1) := by decide +kernel
theorem dX2_raceBy_1 : decode cX2_raceBy 1 = .ok (.istore 4, 2) := by decide +kernel
theorem dX2_raceBy_3 : decode cX2_raceBy 3 = .ok (.iload 4, 2) := by decide +kernel
theorem dX2_raceBy_5 : decode cX2_raceBy 5 = .ok (.aload_n 0, 1) := by decide +kernel
theorem dX2_raceBy_6 : decode cX2_raceBy 6 = .ok (.getfield 28, 3) := by decide +kernel
theorem dX2_raceBy_9 : decode cX2_raceBy 9 = .ok (.getfield 45, 3) := by decide +kernel
theorem dX2_raceBy_12 : decode cX2_raceBy 12 = .ok (.if_icmp .ge 70, 3) := by decide +kernel
theorem dX2_raceBy_15 : decode cX2_raceBy 15 = .ok (.aload_n 1, 1) := by decide +kernel
theorem dX2_raceBy_16 : decode cX2_raceBy 16 = .ok (.iload 4, 2) := by decide +kernel
theorem dX2_raceBy_18 : decode cX2_raceBy 18 = .ok (.iaload, 1) := by decide +kernel
theorem dX2_raceBy_19 : decode cX2_raceBy 19 = .ok (.istore 5, 2) := by decide +kernel
theorem dX2_raceBy_21 : decode cX2_raceBy 21 = .ok (.iload_n 2, 1) := by decide +kernel
theorem dX2_raceBy_22 : decode cX2_raceBy 22 = .ok (.iload 5, 2) := by decide +kernel
theorem dX2_raceBy_24 : decode cX2_raceBy 24 = .ok (.invokestatic 107, 3) := by decide +kernel
theorem dX2_raceBy_27 : decode cX2_raceBy 27 = .ok (.ifCond .eq 7, 3) := by decide +kernel
theorem dX2_raceBy_30 : decode cX2_raceBy 30 = .ok (.iconst 1, 1) := by decide +kernel
theorem dX2_raceBy_31 : decode cX2_raceBy 31 = .ok (.goto 12, 3) := by decide +kernel
theorem dX2_raceBy_34 : decode cX2_raceBy 34 = .ok (.aload_n 0, 1) := by decide +kernel
theorem dX2_raceBy_35 : decode cX2_raceBy 35 = .ok (.getfield 28, 3) := by decide +kernel
theorem dX2_raceBy_38 : decode cX2_raceBy 38 = .ok (.iload 5, 2) := by decide +kernel
theorem dX2_raceBy_40 : decode cX2_raceBy 40 = .ok (.invokevirtual 111, 3) := by decide +kernel
theorem dX2_raceBy_43 : decode cX2_raceBy 43 = .ok (.istore 6, 2) := by decide +kernel
theorem dX2_raceBy_45 : decode cX2_raceBy 45 = .ok (.aload_n 0, 1) := by decide +kernel
theorem dX2_raceBy_46 : decode cX2_raceBy 46 = .ok (.getfield 12, 3) := by decide +kernel
theorem dX2_raceBy_49 : decode cX2_raceBy 49 = .ok (.getfield 114, 3) := by decide +kernel
theorem dX2_raceBy_52 : decode cX2_raceBy 52 = .ok (.iload 4, 2) := by decide +kernel
theorem dX2_raceBy_54 : decode cX2_raceBy 54 = .ok (.aload_n 0, 1) := by decide +kernel
theorem dX2_raceBy_55 : decode cX2_raceBy 55 = .ok (.getfield 28, 3) := by decide +kernel
theorem dX2_raceBy_58 : decode cX2_raceBy 58 = .ok (.iload 4, 2) := by decide +kernel
theorem dX2_raceBy_60 : decode cX2_raceBy 60 = .ok (.iload 6, 2) := by decide +kernel
theorem dX2_raceBy_62 : decode cX2_raceBy 62 = .ok (.aload_n 0, 1) := by decide +kernel
theorem dX2_raceBy_63 : decode cX2_raceBy 63 = .ok (.getfield 32, 3) := by decide +kernel
theorem dX2_raceBy_66 : decode cX2_raceBy 66 = .ok (.getfield 117, 3) := by decide +kernel
theorem dX2_raceBy_69 : decode cX2_raceBy 69 = .ok (.iload 4, 2) := by decide +kernel
theorem dX2_raceBy_71 : decode cX2_raceBy 71 = .ok (.baload, 1) := by decide +kernel
theorem dX2_raceBy_72 : decode cX2_raceBy 72 = .ok (.invokevirtual 121, 3) := by decide +kernel
theorem dX2_raceBy_75 : decode cX2_raceBy 75 = .ok (.iastore, 1) := by decide +kernel
theorem dX2_raceBy_76 : decode cX2_raceBy 76 = .ok (.iinc 4 1, 3) := by decide +kernel
theorem dX2_raceBy_79 : decode cX2_raceBy 79 = .ok (.goto (-76), 3) := by decide +kernel
theorem dX2_raceBy_82 : decode cX2_raceBy 82 = .ok (.aload_n 0, 1) := by decide +kernel
theorem dX2_raceBy_83 : decode cX2_raceBy 83 = .ok (.getfield 12, 3) := by decide +kernel
theorem dX2_raceBy_86 : decode cX2_raceBy 86 = .ok (.aload_n 0, 1) := by decide +kernel
theorem dX2_raceBy_87 : decode cX2_raceBy 87 = .ok (.getfield 28, 3) := by decide +kernel
theorem dX2_raceBy_90 : decode cX2_raceBy 90 = .ok (.aload_n 0, 1) := by decide +kernel
theorem dX2_raceBy_91 : decode cX2_raceBy 91 = .ok (.getfield 32, 3) := by decide +kernel
theorem dX2_raceBy_94 : decode cX2_raceBy 94 = .ok (.getfield 125, 3) := by decide +kernel
theorem dX2_raceBy_97 : decode cX2_raceBy 97 = .ok (.iload_n 3, 1) := by decide +kernel
theorem dX2_raceBy_98 : decode cX2_raceBy 98 = .ok (.invokevirtual 128, 3) := by decide +kernel
theorem dX2_raceBy_101 : decode cX2_raceBy 101 = .ok (.return_, 1) := by decide +kernel
theorem dX2_startWays_0 : decode cX2_startWays 0 = .ok (.iconst 0, 1) := by decide +kernel
theorem dX2_startWays_1 : decode cX2_startWays 1 = .ok (.istore_n 1, 1) := by decide +kernel
theorem dX2_startWays_2 : decode cX2_startWays 2 = .ok (.iload_n 1, 1) := by decide +kernel
theorem dX2_startWays_3 : decode cX2_startWays 3 = .ok (.iconst 5, 1) := by decide +kernel
theorem dX2_startWays_4 : decode cX2_startWays 4 = .ok (.if_icmp .ge 16, 3) := by decide +kernel
theorem dX2_startWays_7 : decode cX2_startWays 7 = .ok (.aload_n 0, 1) := by decide +kernel
theorem dX2_startWays_8 : decode cX2_startWays 8 = .ok (.getfield 18, 3) := by decide +kernel
theorem dX2_startWays_11 : decode cX2_startWays 11 = .ok (.iload_n 1, 1) := by decide +kernel
theorem dX2_startWays_12 : decode cX2_startWays 12 = .ok (.iload_n 1, 1) := by decide +kernel
theorem dX2_startWays_13 : decode cX2_startWays 13 = .ok (.iastore, 1) := by decide +kernel
theorem dX2_startWays_14 : decode cX2_startWays 14 = .ok (.iinc 1 1, 3) := by decide +kernel
theorem dX2_startWays_17 : decode cX2_startWays 17 = .ok (.goto (-15), 3) := by decide +kernel
theorem dX2_startWays_20 : decode cX2_startWays 20 = .ok (.return_, 1) := by decide +kernel
theorem dX2_changedByWay_0 : decode cX2_changedByWay 0 = .ok (.iconst 0, 1) := by decide +kernel
theorem dX2_changedByWay_1 : decode cX2_changedByWay 1 = .ok (.istore_n 1, 1) := by decide +kernel
theorem dX2_changedByWay_2 : decode cX2_changedByWay 2 = .ok (.iconst 0, 1) := by decide +kernel
theorem dX2_changedByWay_3 : decode cX2_changedByWay 3 = .ok (.istore_n 2, 1) := by decide +kernel
theorem dX2_changedByWay_4 : decode cX2_changedByWay 4 = .ok (.iload_n 2, 1) := by decide +kernel
theorem dX2_changedByWay_5 : decode cX2_changedByWay 5 = .ok (.aload_n 0, 1) := by decide +kernel
theorem dX2_changedByWay_6 : decode cX2_changedByWay 6 = .ok (.getfield 28, 3) := by decide +kernel
theorem dX2_changedByWay_9 : decode cX2_changedByWay 9 = .ok (.getfield 45, 3) := by decide +kernel
theorem dX2_changedByWay_12 : decode cX2_changedByWay 12 = .ok (.if_icmp .ge 30, 3) := by decide +kernel
theorem dX2_changedByWay_15 : decode cX2_changedByWay 15 = .ok (.aload_n 0, 1) := by decide +kernel
theorem dX2_changedByWay_16 : decode cX2_changedByWay 16 = .ok (.getfield 18, 3) := by decide +kernel
theorem dX2_changedByWay_19 : decode cX2_changedByWay 19 = .ok (.iload_n 2, 1) := by decide +kernel
theorem dX2_changedByWay_20 : decode cX2_changedByWay 20 = .ok (.iaload, 1) := by decide +kernel
theorem dX2_changedByWay_21 : decode cX2_changedByWay 21 = .ok (.aload_n 0, 1) := by decide +kernel
theorem dX2_changedByWay_22 : decode cX2_changedByWay 22 = .ok (.getfield 32, 3) := by decide +kernel
theorem dX2_changedByWay_25 : decode cX2_changedByWay 25 = .ok (.getfield 36, 3) := by decide +kernel
theorem dX2_changedByWay_28 : decode cX2_changedByWay 28 = .ok (.iload_n 2, 1) := by decide +kernel
theorem dX2_changedByWay_29 : decode cX2_changedByWay 29 = .ok (.iaload, 1) := by decide +kernel
theorem dX2_changedByWay_30 : decode cX2_changedByWay 30 = .ok (.if_icmp .eq 6, 3) := by decide +kernel
theorem dX2_changedByWay_33 : decode cX2_changedByWay 33 = .ok (.iinc 1 1, 3) := by decide +kernel
theorem dX2_changedByWay_36 : decode cX2_changedByWay 36 = .ok (.iinc 2 1, 3) := by decide +kernel
theorem dX2_changedByWay_39 : decode cX2_changedByWay 39 = .ok (.goto (-35), 3) := by decide +kernel
theorem dX2_changedByWay_42 : decode cX2_changedByWay 42 = .ok (.iload_n 1, 1) := by decide +kernel
theorem dX2_changedByWay_43 : decode cX2_changedByWay 43 = .ok (.ireturn, 1) := by decide +kernel
theorem dX2_toNextWay_0 : decode cX2_toNextWay 0 = .ok (.aload_n 0, 1) := by decide +kernel
theorem dX2_toNextWay_1 : decode cX2_toNextWay 1 = .ok (.getfield 28, 3) := by decide +kernel
theorem dX2_toNextWay_4 : decode cX2_toNextWay 4 = .ok (.getfield 45, 3) := by decide +kernel
theorem dX2_toNextWay_7 : decode cX2_toNextWay 7 = .ok (.iconst 2, 1) := by decide +kernel
theorem dX2_toNextWay_8 : decode cX2_toNextWay 8 = .ok (.isub, 1) := by decide +kernel
theorem dX2_toNextWay_9 : decode cX2_toNextWay 9 = .ok (.istore_n 1, 1) := by decide +kernel
theorem dX2_toNextWay_10 : decode cX2_toNextWay 10 = .ok (.iload_n 1, 1) := by decide +kernel
theorem dX2_toNextWay_11 : decode cX2_toNextWay 11 = .ok (.ifCond .lt 26, 3) := by decide +kernel
theorem dX2_toNextWay_14 : decode cX2_toNextWay 14 = .ok (.aload_n 0, 1) := by decide +kernel
theorem dX2_toNextWay_15 : decode cX2_toNextWay 15 = .ok (.getfield 18, 3) := by decide +kernel
theorem dX2_toNextWay_18 : decode cX2_toNextWay 18 = .ok (.iload_n 1, 1) := by decide +kernel
theorem dX2_toNextWay_19 : decode cX2_toNextWay 19 = .ok (.iaload, 1) := by decide +kernel
theorem dX2_toNextWay_20 : decode cX2_toNextWay 20 = .ok (.aload_n 0, 1) := by decide +kernel
theorem dX2_toNextWay_21 : decode cX2_toNextWay 21 = .ok (.getfield 18, 3) := by decide +kernel
theorem dX2_toNextWay_24 : decode cX2_toNextWay 24 = .ok (.iload_n 1, 1) := by decide +kernel
theorem dX2_toNextWay_25 : decode cX2_toNextWay 25 = .ok (.iconst 1, 1) := by decide +kernel
theorem dX2_toNextWay_26 : decode cX2_toNextWay 26 = .ok (.iadd, 1) := by decide +kernel
theorem dX2_toNextWay_27 : decode cX2_toNextWay 27 = .ok (.iaload, 1) := by decide +kernel
theorem dX2_toNextWay_28 : decode cX2_toNextWay 28 = .ok (.if_icmp .le 9, 3) := by decide +kernel
theorem dX2_toNextWay_31 : decode cX2_toNextWay 31 = .ok (.iinc 1 (-1), 3) := by decide +kernel
theorem dX2_toNextWay_34 : decode cX2_toNextWay 34 = .ok (.goto (-24), 3) := by decide +kernel
theorem dX2_toNextWay_37 : decode cX2_toNextWay 37 = .ok (.iload_n 1, 1) := by decide +kernel
theorem dX2_toNextWay_38 : decode cX2_toNextWay 38 = .ok (.ifCond .ge 5, 3) := by decide +kernel
theorem dX2_toNextWay_41 : decode cX2_toNextWay 41 = .ok (.iconst 0, 1) := by decide +kernel
theorem dX2_toNextWay_42 : decode cX2_toNextWay 42 = .ok (.ireturn, 1) := by decide +kernel
theorem dX2_toNextWay_43 : decode cX2_toNextWay 43 = .ok (.aload_n 0, 1) := by decide +kernel
theorem dX2_toNextWay_44 : decode cX2_toNextWay 44 = .ok (.getfield 28, 3) := by decide +kernel
theorem dX2_toNextWay_47 : decode cX2_toNextWay 47 = .ok (.getfield 45, 3) := by decide +kernel
theorem dX2_toNextWay_50 : decode cX2_toNextWay 50 = .ok (.iconst 1, 1) := by decide +kernel
theorem dX2_toNextWay_51 : decode cX2_toNextWay 51 = .ok (.isub, 1) := by decide +kernel
theorem dX2_toNextWay_52 : decode cX2_toNextWay 52 = .ok (.istore_n 2, 1) := by decide +kernel
theorem dX2_toNextWay_53 : decode cX2_toNextWay 53 = .ok (.iload_n 2, 1) := by decide +kernel
theorem dX2_toNextWay_54 : decode cX2_toNextWay 54 = .ok (.iload_n 1, 1) := by decide +kernel
theorem dX2_toNextWay_55 : decode cX2_toNextWay 55 = .ok (.iconst 1, 1) := by decide +kernel
theorem dX2_toNextWay_56 : decode cX2_toNextWay 56 = .ok (.iadd, 1) := by decide +kernel
theorem dX2_toNextWay_57 : decode cX2_toNextWay 57 = .ok (.if_icmp .le 24, 3) := by decide +kernel
theorem dX2_toNextWay_60 : decode cX2_toNextWay 60 = .ok (.aload_n 0, 1) := by decide +kernel
theorem dX2_toNextWay_61 : decode cX2_toNextWay 61 = .ok (.getfield 18, 3) := by decide +kernel
theorem dX2_toNextWay_64 : decode cX2_toNextWay 64 = .ok (.iload_n 2, 1) := by decide +kernel
theorem dX2_toNextWay_65 : decode cX2_toNextWay 65 = .ok (.iaload, 1) := by decide +kernel
theorem dX2_toNextWay_66 : decode cX2_toNextWay 66 = .ok (.aload_n 0, 1) := by decide +kernel
theorem dX2_toNextWay_67 : decode cX2_toNextWay 67 = .ok (.getfield 18, 3) := by decide +kernel
theorem dX2_toNextWay_70 : decode cX2_toNextWay 70 = .ok (.iload_n 1, 1) := by decide +kernel
theorem dX2_toNextWay_71 : decode cX2_toNextWay 71 = .ok (.iaload, 1) := by decide +kernel
theorem dX2_toNextWay_72 : decode cX2_toNextWay 72 = .ok (.if_icmp .ge 9, 3) := by decide +kernel
theorem dX2_toNextWay_75 : decode cX2_toNextWay 75 = .ok (.iinc 2 (-1), 3) := by decide +kernel
theorem dX2_toNextWay_78 : decode cX2_toNextWay 78 = .ok (.goto (-25), 3) := by decide +kernel
theorem dX2_toNextWay_81 : decode cX2_toNextWay 81 = .ok (.aload_n 0, 1) := by decide +kernel
theorem dX2_toNextWay_82 : decode cX2_toNextWay 82 = .ok (.iload_n 1, 1) := by decide +kernel
theorem dX2_toNextWay_83 : decode cX2_toNextWay 83 = .ok (.iload_n 2, 1) := by decide +kernel
theorem dX2_toNextWay_84 : decode cX2_toNextWay 84 = .ok (.invokevirtual 132, 3) := by decide +kernel
theorem dX2_toNextWay_87 : decode cX2_toNextWay 87 = .ok (.aload_n 0, 1) := by decide +kernel
theorem dX2_toNextWay_88 : decode cX2_toNextWay 88 = .ok (.getfield 28, 3) := by decide +kernel
theorem dX2_toNextWay_91 : decode cX2_toNextWay 91 = .ok (.getfield 45, 3) := by decide +kernel
theorem dX2_toNextWay_94 : decode cX2_toNextWay 94 = .ok (.iconst 1, 1) := by decide +kernel
theorem dX2_toNextWay_95 : decode cX2_toNextWay 95 = .ok (.isub, 1) := by decide +kernel
theorem dX2_toNextWay_96 : decode cX2_toNextWay 96 = .ok (.istore_n 3, 1) := by decide +kernel
theorem dX2_toNextWay_97 : decode cX2_toNextWay 97 = .ok (.iload_n 1, 1) := by decide +kernel
theorem dX2_toNextWay_98 : decode cX2_toNextWay 98 = .ok (.iconst 1, 1) := by decide +kernel
theorem dX2_toNextWay_99 : decode cX2_toNextWay 99 = .ok (.iadd, 1) := by decide +kernel
theorem dX2_toNextWay_100 : decode cX2_toNextWay 100 = .ok (.istore 4, 2) := by decide +kernel
theorem dX2_toNextWay_102 : decode cX2_toNextWay 102 = .ok (.iload 4, 2) := by decide +kernel
theorem dX2_toNextWay_104 : decode cX2_toNextWay 104 = .ok (.iload_n 3, 1) := by decide +kernel
theorem dX2_toNextWay_105 : decode cX2_toNextWay 105 = .ok (.if_icmp .ge 19, 3) := by decide +kernel
theorem dX2_toNextWay_108 : decode cX2_toNextWay 108 = .ok (.aload_n 0, 1) := by decide +kernel
theorem dX2_toNextWay_109 : decode cX2_toNextWay 109 = .ok (.iload 4, 2) := by decide +kernel
theorem dX2_toNextWay_111 : decode cX2_toNextWay 111 = .ok (.iload_n 3, 1) := by decide +kernel
theorem dX2_toNextWay_112 : decode cX2_toNextWay 112 = .ok (.invokevirtual 132, 3) := by decide +kernel
theorem dX2_toNextWay_115 : decode cX2_toNextWay 115 = .ok (.iinc 3 (-1), 3) := by decide +kernel
theorem dX2_toNextWay_118 : decode cX2_toNextWay 118 = .ok (.iinc 4 1, 3) := by decide +kernel
theorem dX2_toNextWay_121 : decode cX2_toNextWay 121 = .ok (.goto (-19), 3) := by decide +kernel
theorem dX2_toNextWay_124 : decode cX2_toNextWay 124 = .ok (.iconst 1, 1) := by decide +kernel
theorem dX2_toNextWay_125 : decode cX2_toNextWay 125 = .ok (.ireturn, 1) := by decide +kernel
theorem dX2_swapInWay_0 : decode cX2_swapInWay 0 = .ok (.aload_n 0, 1) := by decide +kernel
theorem dX2_swapInWay_1 : decode cX2_swapInWay 1 = .ok (.getfield 18, 3) := by decide +kernel
theorem dX2_swapInWay_4 : decode cX2_swapInWay 4 = .ok (.iload_n 1, 1) := by decide +kernel
theorem dX2_swapInWay_5 : decode cX2_swapInWay 5 = .ok (.iaload, 1) := by decide +kernel
theorem dX2_swapInWay_6 : decode cX2_swapInWay 6 = .ok (.istore_n 3, 1) := by decide +kernel
theorem dX2_swapInWay_7 : decode cX2_swapInWay 7 = .ok (.aload_n 0, 1) := by decide +kernel
theorem dX2_swapInWay_8 : decode cX2_swapInWay 8 = .ok (.getfield 18, 3) := by decide +kernel
theorem dX2_swapInWay_11 : decode cX2_swapInWay 11 = .ok (.iload_n 1, 1) := by decide +kernel
theorem dX2_swapInWay_12 : decode cX2_swapInWay 12 = .ok (.aload_n 0, 1) := by decide +kernel
theorem dX2_swapInWay_13 : decode cX2_swapInWay 13 = .ok (.getfield 18, 3) := by decide +kernel
theorem dX2_swapInWay_16 : decode cX2_swapInWay 16 = .ok (.iload_n 2, 1) := by decide +kernel
theorem dX2_swapInWay_17 : decode cX2_swapInWay 17 = .ok (.iaload, 1) := by decide +kernel
theorem dX2_swapInWay_18 : decode cX2_swapInWay 18 = .ok (.iastore, 1) := by decide +kernel
theorem dX2_swapInWay_19 : decode cX2_swapInWay 19 = .ok (.aload_n 0, 1) := by decide +kernel
theorem dX2_swapInWay_20 : decode cX2_swapInWay 20 = .ok (.getfield 18, 3) := by decide +kernel
theorem dX2_swapInWay_23 : decode cX2_swapInWay 23 = .ok (.iload_n 2, 1) := by decide +kernel
theorem dX2_swapInWay_24 : decode cX2_swapInWay 24 = .ok (.iload_n 3, 1) := by decide +kernel
theorem dX2_swapInWay_25 : decode cX2_swapInWay 25 = .ok (.iastore, 1) := by decide +kernel
theorem dX2_swapInWay_26 : decode cX2_swapInWay 26 = .ok (.return_, 1) := by decide +kernel
theorem dX3_init_0 : decode cX3_init 0 = .ok (.aload_n 0, 1) := by decide +kernel
theorem dX3_init_1 : decode cX3_init 1 = .ok (.invokespecial 1, 3) := by decide +kernel
theorem dX3_init_4 : decode cX3_init 4 = .ok (.aload_n 0, 1) := by decide +kernel
theorem dX3_init_5 : decode cX3_init 5 = .ok (.aload_n 1, 1) := by decide +kernel
theorem dX3_init_6 : decode cX3_init 6 = .ok (.putfield 7, 3) := by decide +kernel
theorem dX3_init_9 : decode cX3_init 9 = .ok (.aload_n 0, 1) := by decide +kernel
theorem dX3_init_10 : decode cX3_init 10 = .ok (.aload_n 2, 1) := by decide +kernel
theorem dX3_init_11 : decode cX3_init 11 = .ok (.putfield 13, 3) := by decide +kernel
theorem dX3_init_14 : decode cX3_init 14 = .ok (.return_, 1) := by decide +kernel
theorem dX3_asChair_0 : decode cX3_asChair 0 = .ok (.aload_n 0, 1) := by decide +kernel
theorem dX3_asChair_1 : decode cX3_asChair 1 = .ok (.dup, 1) := by decide +kernel
theorem dX3_asChair_2 : decode cX3_asChair 2 = .ok (.getfield 17, 3) := by decide +kernel
theorem dX3_asChair_5 : decode cX3_asChair 5 = .ok (.lconst 1, 1) := by decide +kernel
theorem dX3_asChair_6 : decode cX3_asChair 6 = .ok (.ladd, 1) := by decide +kernel
theorem dX3_asChair_7 : decode cX3_asChair 7 = .ok (.putfield 17, 3) := by decide +kernel
theorem dX3_asChair_10 : decode cX3_asChair 10 = .ok (.aload_n 0, 1) := by decide +kernel
theorem dX3_asChair_11 : decode cX3_asChair 11 = .ok (.getfield 7, 3) := by decide +kernel
theorem dX3_asChair_14 : decode cX3_asChair 14 = .ok (.getfield 21, 3) := by decide +kernel
theorem dX3_asChair_17 : decode cX3_asChair 17 = .ok (.iload_n 1, 1) := by decide +kernel
theorem dX3_asChair_18 : decode cX3_asChair 18 = .ok (.iaload, 1) := by decide +kernel
theorem dX3_asChair_19 : decode cX3_asChair 19 = .ok (.ireturn, 1) := by decide +kernel
theorem dX3_asWidow_0 : decode cX3_asWidow 0 = .ok (.aload_n 0, 1) := by decide +kernel
theorem dX3_asWidow_1 : decode cX3_asWidow 1 = .ok (.dup, 1) := by decide +kernel
theorem dX3_asWidow_2 : decode cX3_asWidow 2 = .ok (.getfield 17, 3) := by decide +kernel
theorem dX3_asWidow_5 : decode cX3_asWidow 5 = .ok (.ldc2_w 27, 3) := by decide +kernel
theorem dX3_asWidow_8 : decode cX3_asWidow 8 = .ok (.ladd, 1) := by decide +kernel
theorem dX3_asWidow_9 : decode cX3_asWidow 9 = .ok (.putfield 17, 3) := by decide +kernel
theorem dX3_asWidow_12 : decode cX3_asWidow 12 = .ok (.aload_n 0, 1) := by decide +kernel
theorem dX3_asWidow_13 : decode cX3_asWidow 13 = .ok (.iload_n 1, 1) := by decide +kernel
theorem dX3_asWidow_14 : decode cX3_asWidow 14 = .ok (.invokevirtual 29, 3) := by decide +kernel
theorem dX3_asWidow_17 : decode cX3_asWidow 17 = .ok (.aload_n 0, 1) := by decide +kernel
theorem dX3_asWidow_18 : decode cX3_asWidow 18 = .ok (.getfield 13, 3) := by decide +kernel
theorem dX3_asWidow_21 : decode cX3_asWidow 21 = .ok (.getfield 33, 3) := by decide +kernel
theorem dX3_asWidow_24 : decode cX3_asWidow 24 = .ok (.iload_n 1, 1) := by decide +kernel
theorem dX3_asWidow_25 : decode cX3_asWidow 25 = .ok (.iaload, 1) := by decide +kernel
theorem dX3_asWidow_26 : decode cX3_asWidow 26 = .ok (.iadd, 1) := by decide +kernel
theorem dX3_asWidow_27 : decode cX3_asWidow 27 = .ok (.ireturn, 1) := by decide +kernel
theorem dX3_asAunt_0 : decode cX3_asAunt 0 = .ok (.aload_n 0, 1) := by decide +kernel
theorem dX3_asAunt_1 : decode cX3_asAunt 1 = .ok (.dup, 1) := by decide +kernel
theorem dX3_asAunt_2 : decode cX3_asAunt 2 = .ok (.getfield 17, 3) := by decide +kernel
theorem dX3_asAunt_5 : decode cX3_asAunt 5 = .ok (.ldc2_w 38, 3) := by decide +kernel
theorem dX3_asAunt_8 : decode cX3_asAunt 8 = .ok (.ladd, 1) := by decide +kernel
theorem dX3_asAunt_9 : decode cX3_asAunt 9 = .ok (.putfield 17, 3) := by decide +kernel
theorem dX3_asAunt_12 : decode cX3_asAunt 12 = .ok (.aload_n 0, 1) := by decide +kernel
theorem dX3_asAunt_13 : decode cX3_asAunt 13 = .ok (.iload_n 1, 1) := by decide +kernel
theorem dX3_asAunt_14 : decode cX3_asAunt 14 = .ok (.invokevirtual 29, 3) := by decide +kernel
theorem dX3_asAunt_17 : decode cX3_asAunt 17 = .ok (.aload_n 0, 1) := by decide +kernel
theorem dX3_asAunt_18 : decode cX3_asAunt 18 = .ok (.getfield 13, 3) := by decide +kernel
theorem dX3_asAunt_21 : decode cX3_asAunt 21 = .ok (.aload_n 0, 1) := by decide +kernel
theorem dX3_asAunt_22 : decode cX3_asAunt 22 = .ok (.getfield 7, 3) := by decide +kernel
theorem dX3_asAunt_25 : decode cX3_asAunt 25 = .ok (.iload_n 1, 1) := by decide +kernel
theorem dX3_asAunt_26 : decode cX3_asAunt 26 = .ok (.invokevirtual 40, 3) := by decide +kernel
theorem dX3_asAunt_29 : decode cX3_asAunt 29 = .ok (.isub, 1) := by decide +kernel
theorem dX3_asAunt_30 : decode cX3_asAunt 30 = .ok (.ireturn, 1) := by decide +kernel
theorem dX3_asPug_0 : decode cX3_asPug 0 = .ok (.aload_n 0, 1) := by decide +kernel
theorem dX3_asPug_1 : decode cX3_asPug 1 = .ok (.dup, 1) := by decide +kernel
theorem dX3_asPug_2 : decode cX3_asPug 2 = .ok (.getfield 17, 3) := by decide +kernel
theorem dX3_asPug_5 : decode cX3_asPug 5 = .ok (.ldc2_w 44, 3) := by decide +kernel
theorem dX3_asPug_8 : decode cX3_asPug 8 = .ok (.ladd, 1) := by decide +kernel
theorem dX3_asPug_9 : decode cX3_asPug 9 = .ok (.putfield 17, 3) := by decide +kernel
theorem dX3_asPug_12 : decode cX3_asPug 12 = .ok (.iconst 2, 1) := by decide +kernel
theorem dX3_asPug_13 : decode cX3_asPug 13 = .ok (.aload_n 0, 1) := by decide +kernel
theorem dX3_asPug_14 : decode cX3_asPug 14 = .ok (.iload_n 1, 1) := by decide +kernel
theorem dX3_asPug_15 : decode cX3_asPug 15 = .ok (.invokevirtual 46, 3) := by decide +kernel
theorem dX3_asPug_18 : decode cX3_asPug 18 = .ok (.imul, 1) := by decide +kernel
theorem dX3_asPug_19 : decode cX3_asPug 19 = .ok (.ireturn, 1) := by decide +kernel
theorem dX3_asVeil_0 : decode cX3_asVeil 0 = .ok (.aload_n 0, 1) := by decide +kernel
theorem dX3_asVeil_1 : decode cX3_asVeil 1 = .ok (.dup, 1) := by decide +kernel
theorem dX3_asVeil_2 : decode cX3_asVeil 2 = .ok (.getfield 17, 3) := by decide +kernel
theorem dX3_asVeil_5 : decode cX3_asVeil 5 = .ok (.ldc2_w 49, 3) := by decide +kernel
theorem dX3_asVeil_8 : decode cX3_asVeil 8 = .ok (.ladd, 1) := by decide +kernel
theorem dX3_asVeil_9 : decode cX3_asVeil 9 = .ok (.putfield 17, 3) := by decide +kernel
theorem dX3_asVeil_12 : decode cX3_asVeil 12 = .ok (.aload_n 0, 1) := by decide +kernel
theorem dX3_asVeil_13 : decode cX3_asVeil 13 = .ok (.iload_n 1, 1) := by decide +kernel
theorem dX3_asVeil_14 : decode cX3_asVeil 14 = .ok (.invokevirtual 51, 3) := by decide +kernel
theorem dX3_asVeil_17 : decode cX3_asVeil 17 = .ok (.iload_n 1, 1) := by decide +kernel
theorem dX3_asVeil_18 : decode cX3_asVeil 18 = .ok (.iadd, 1) := by decide +kernel
theorem dX3_asVeil_19 : decode cX3_asVeil 19 = .ok (.ireturn, 1) := by decide +kernel
theorem dX3_asInfant_0 : decode cX3_asInfant 0 = .ok (.aload_n 0, 1) := by decide +kernel
theorem dX3_asInfant_1 : decode cX3_asInfant 1 = .ok (.dup, 1) := by decide +kernel
theorem dX3_asInfant_2 : decode cX3_asInfant 2 = .ok (.getfield 17, 3) := by decide +kernel
theorem dX3_asInfant_5 : decode cX3_asInfant 5 = .ok (.ldc2_w 54, 3) := by decide +kernel
theorem dX3_asInfant_8 : decode cX3_asInfant 8 = .ok (.ladd, 1) := by decide +kernel
theorem dX3_asInfant_9 : decode cX3_asInfant 9 = .ok (.putfield 17, 3) := by decide +kernel
theorem dX3_asInfant_12 : decode cX3_asInfant 12 = .ok (.aload_n 0, 1) := by decide +kernel
theorem dX3_asInfant_13 : decode cX3_asInfant 13 = .ok (.iload_n 1, 1) := by decide +kernel
theorem dX3_asInfant_14 : decode cX3_asInfant 14 = .ok (.invokevirtual 29, 3) := by decide +kernel
theorem dX3_asInfant_17 : decode cX3_asInfant 17 = .ok (.aload_n 0, 1) := by decide +kernel
theorem dX3_asInfant_18 : decode cX3_asInfant 18 = .ok (.getfield 13, 3) := by decide +kernel
theorem dX3_asInfant_21 : decode cX3_asInfant 21 = .ok (.getfield 56, 3) := by decide +kernel
theorem dX3_asInfant_24 : decode cX3_asInfant 24 = .ok (.iadd, 1) := by decide +kernel
theorem dX3_asInfant_25 : decode cX3_asInfant 25 = .ok (.ireturn, 1) := by decide +kernel
theorem dX4_init_0 : decode cX4_init 0 = .ok (.aload_n 0, 1) := by decide +kernel
theorem dX4_init_1 : decode cX4_init 1 = .ok (.invokespecial 3, 3) := by decide +kernel
theorem dX4_init_4 : decode cX4_init 4 = .ok (.aload_n 0, 1) := by decide +kernel
theorem dX4_init_5 : decode cX4_init 5 = .ok (.iconst 5, 1) := by decide +kernel
theorem dX4_init_6 : decode cX4_init 6 = .ok (.newarray .int, 2) := by decide +kernel
theorem dX4_init_8 : decode cX4_init 8 = .ok (.putfield 9, 3) := by decide +kernel
theorem dX4_init_11 : decode cX4_init 11 = .ok (.aload_n 0, 1) := by decide +kernel
theorem dX4_init_12 : decode cX4_init 12 = .ok (.iconst 5, 1) := by decide +kernel
theorem dX4_init_13 : decode cX4_init 13 = .ok (.newarray .int, 2) := by decide +kernel
theorem dX4_init_15 : decode cX4_init 15 = .ok (.putfield 15, 3) := by decide +kernel
theorem dX4_init_18 : decode cX4_init 18 = .ok (.aload_n 0, 1) := by decide +kernel
theorem dX4_init_19 : decode cX4_init 19 = .ok (.iconst 5, 1) := by decide +kernel
theorem dX4_init_20 : decode cX4_init 20 = .ok (.newarray .int, 2) := by decide +kernel
theorem dX4_init_22 : decode cX4_init 22 = .ok (.putfield 18, 3) := by decide +kernel
theorem dX4_init_25 : decode cX4_init 25 = .ok (.aload_n 0, 1) := by decide +kernel
theorem dX4_init_26 : decode cX4_init 26 = .ok (.iconst 5, 1) := by decide +kernel
theorem dX4_init_27 : decode cX4_init 27 = .ok (.newarray .int, 2) := by decide +kernel
theorem dX4_init_29 : decode cX4_init 29 = .ok (.putfield 21, 3) := by decide +kernel
theorem dX4_init_32 : decode cX4_init 32 = .ok (.aload_n 0, 1) := by decide +kernel
theorem dX4_init_33 : decode cX4_init 33 = .ok (.iconst 5, 1) := by decide +kernel
theorem dX4_init_34 : decode cX4_init 34 = .ok (.newarray .int, 2) := by decide +kernel
theorem dX4_init_36 : decode cX4_init 36 = .ok (.putfield 24, 3) := by decide +kernel
theorem dX4_init_39 : decode cX4_init 39 = .ok (.return_, 1) := by decide +kernel
theorem dX4_go_0 : decode cX4_go 0 = .ok (.aload_n 0, 1) := by decide +kernel
theorem dX4_go_1 : decode cX4_go 1 = .ok (.iconst 0, 1) := by decide +kernel
theorem dX4_go_2 : decode cX4_go 2 = .ok (.putfield 27, 3) := by decide +kernel
theorem dX4_go_5 : decode cX4_go 5 = .ok (.iconst 0, 1) := by decide +kernel
theorem dX4_go_6 : decode cX4_go 6 = .ok (.istore 4, 2) := by decide +kernel
theorem dX4_go_8 : decode cX4_go 8 = .ok (.iload 4, 2) := by decide +kernel
theorem dX4_go_10 : decode cX4_go 10 = .ok (.aload_n 1, 1) := by decide +kernel
theorem dX4_go_11 : decode cX4_go 11 = .ok (.getfield 31, 3) := by decide +kernel
theorem dX4_go_14 : decode cX4_go 14 = .ok (.if_icmp .ge 33, 3) := by decide +kernel
theorem dX4_go_17 : decode cX4_go 17 = .ok (.aload_n 0, 1) := by decide +kernel
theorem dX4_go_18 : decode cX4_go 18 = .ok (.getfield 18, 3) := by decide +kernel
theorem dX4_go_21 : decode cX4_go 21 = .ok (.iload 4, 2) := by decide +kernel
theorem dX4_go_23 : decode cX4_go 23 = .ok (.iconst 0, 1) := by decide +kernel
theorem dX4_go_24 : decode cX4_go 24 = .ok (.iastore, 1) := by decide +kernel
theorem dX4_go_25 : decode cX4_go 25 = .ok (.aload_n 0, 1) := by decide +kernel
theorem dX4_go_26 : decode cX4_go 26 = .ok (.getfield 21, 3) := by decide +kernel
theorem dX4_go_29 : decode cX4_go 29 = .ok (.iload 4, 2) := by decide +kernel
theorem dX4_go_31 : decode cX4_go 31 = .ok (.iconst 0, 1) := by decide +kernel
theorem dX4_go_32 : decode cX4_go 32 = .ok (.iastore, 1) := by decide +kernel
theorem dX4_go_33 : decode cX4_go 33 = .ok (.aload_n 0, 1) := by decide +kernel
theorem dX4_go_34 : decode cX4_go 34 = .ok (.getfield 15, 3) := by decide +kernel
theorem dX4_go_37 : decode cX4_go 37 = .ok (.iload 4, 2) := by decide +kernel
theorem dX4_go_39 : decode cX4_go 39 = .ok (.iconst 0, 1) := by decide +kernel
theorem dX4_go_40 : decode cX4_go 40 = .ok (.iastore, 1) := by decide +kernel
theorem dX4_go_41 : decode cX4_go 41 = .ok (.iinc 4 1, 3) := by decide +kernel
theorem dX4_go_44 : decode cX4_go 44 = .ok (.goto (-36), 3) := by decide +kernel
theorem dX4_go_47 : decode cX4_go 47 = .ok (.iconst 1, 1) := by decide +kernel
theorem dX4_go_48 : decode cX4_go 48 = .ok (.istore 4, 2) := by decide +kernel
theorem dX4_go_50 : decode cX4_go 50 = .ok (.iload 4, 2) := by decide +kernel
theorem dX4_go_52 : decode cX4_go 52 = .ok (.sipush 1000, 3) := by decide +kernel
theorem dX4_go_55 : decode cX4_go 55 = .ok (.if_icmp .gt 79, 3) := by decide +kernel
theorem dX4_go_58 : decode cX4_go 58 = .ok (.aload_n 0, 1) := by decide +kernel
theorem dX4_go_59 : decode cX4_go 59 = .ok (.getfield 27, 3) := by decide +kernel
theorem dX4_go_62 : decode cX4_go 62 = .ok (.iload_n 3, 1) := by decide +kernel
theorem dX4_go_63 : decode cX4_go 63 = .ok (.if_icmp .ge 71, 3) := by decide +kernel
theorem dX4_go_66 : decode cX4_go 66 = .ok (.iconst 0, 1) := by decide +kernel
theorem dX4_go_67 : decode cX4_go 67 = .ok (.istore 5, 2) := by decide +kernel
theorem dX4_go_69 : decode cX4_go 69 = .ok (.iload 5, 2) := by decide +kernel
theorem dX4_go_71 : decode cX4_go 71 = .ok (.aload_n 1, 1) := by decide +kernel
theorem dX4_go_72 : decode cX4_go 72 = .ok (.getfield 31, 3) := by decide +kernel
theorem dX4_go_75 : decode cX4_go 75 = .ok (.if_icmp .ge 53, 3) := by decide +kernel
theorem dX4_go_78 : decode cX4_go 78 = .ok (.aload_n 0, 1) := by decide +kernel
theorem dX4_go_79 : decode cX4_go 79 = .ok (.getfield 18, 3) := by decide +kernel
theorem dX4_go_82 : decode cX4_go 82 = .ok (.iload 5, 2) := by decide +kernel
theorem dX4_go_84 : decode cX4_go 84 = .ok (.iaload, 1) := by decide +kernel
theorem dX4_go_85 : decode cX4_go 85 = .ok (.aload_n 1, 1) := by decide +kernel
theorem dX4_go_86 : decode cX4_go 86 = .ok (.getfield 36, 3) := by decide +kernel
theorem dX4_go_89 : decode cX4_go 89 = .ok (.if_icmp .ge 7, 3) := by decide +kernel
theorem dX4_go_92 : decode cX4_go 92 = .ok (.iconst 1, 1) := by decide +kernel
theorem dX4_go_93 : decode cX4_go 93 = .ok (.goto 4, 3) := by decide +kernel
theorem dX4_go_96 : decode cX4_go 96 = .ok (.iconst 0, 1) := by decide +kernel
theorem dX4_go_97 : decode cX4_go 97 = .ok (.istore 6, 2) := by decide +kernel
theorem dX4_go_99 : decode cX4_go 99 = .ok (.iload 6, 2) := by decide +kernel
theorem dX4_go_101 : decode cX4_go 101 = .ok (.ifCond .eq 21, 3) := by decide +kernel
theorem dX4_go_104 : decode cX4_go 104 = .ok (.aload_n 2, 1) := by decide +kernel
theorem dX4_go_105 : decode cX4_go 105 = .ok (.iload 5, 2) := by decide +kernel
theorem dX4_go_107 : decode cX4_go 107 = .ok (.iaload, 1) := by decide +kernel
theorem dX4_go_108 : decode cX4_go 108 = .ok (.iload 4, 2) := by decide +kernel
theorem dX4_go_110 : decode cX4_go 110 = .ok (.if_icmp .ge 12, 3) := by decide +kernel
theorem dX4_go_113 : decode cX4_go 113 = .ok (.aload_n 0, 1) := by decide +kernel
theorem dX4_go_114 : decode cX4_go 114 = .ok (.aload_n 1, 1) := by decide +kernel
theorem dX4_go_115 : decode cX4_go 115 = .ok (.iload 5, 2) := by decide +kernel
theorem dX4_go_117 : decode cX4_go 117 = .ok (.iload 4, 2) := by decide +kernel
theorem dX4_go_119 : decode cX4_go 119 = .ok (.invokevirtual 39, 3) := by decide +kernel
theorem dX4_go_122 : decode cX4_go 122 = .ok (.iinc 5 1, 3) := by decide +kernel
theorem dX4_go_125 : decode cX4_go 125 = .ok (.goto (-56), 3) := by decide +kernel
theorem dX4_go_128 : decode cX4_go 128 = .ok (.iinc 4 1, 3) := by decide +kernel
theorem dX4_go_131 : decode cX4_go 131 = .ok (.goto (-81), 3) := by decide +kernel
theorem dX4_go_134 : decode cX4_go 134 = .ok (.return_, 1) := by decide +kernel
theorem dX4_inAs_0 : decode cX4_inAs 0 = .ok (.iload_n 1, 1) := by decide +kernel
theorem dX4_inAs_1 : decode cX4_inAs 1 = .ok (.ifCond .lt 20, 3) := by decide +kernel
theorem dX4_inAs_4 : decode cX4_inAs 4 = .ok (.iload_n 1, 1) := by decide +kernel
theorem dX4_inAs_5 : decode cX4_inAs 5 = .ok (.aload_n 0, 1) := by decide +kernel
theorem dX4_inAs_6 : decode cX4_inAs 6 = .ok (.getfield 27, 3) := by decide +kernel
theorem dX4_inAs_9 : decode cX4_inAs 9 = .ok (.if_icmp .ge 12, 3) := by decide +kernel
theorem dX4_inAs_12 : decode cX4_inAs 12 = .ok (.aload_n 0, 1) := by decide +kernel
theorem dX4_inAs_13 : decode cX4_inAs 13 = .ok (.getfield 24, 3) := by decide +kernel
theorem dX4_inAs_16 : decode cX4_inAs 16 = .ok (.iload_n 1, 1) := by decide +kernel
theorem dX4_inAs_17 : decode cX4_inAs 17 = .ok (.iaload, 1) := by decide +kernel
theorem dX4_inAs_18 : decode cX4_inAs 18 = .ok (.goto 5, 3) := by decide +kernel
theorem dX4_inAs_21 : decode cX4_inAs 21 = .ok (.bipush (-9), 2) := by decide +kernel
theorem dX4_inAs_23 : decode cX4_inAs 23 = .ok (.ireturn, 1) := by decide +kernel
theorem dX4_move_0 : decode cX4_move 0 = .ok (.aload_n 0, 1) := by decide +kernel
theorem dX4_move_1 : decode cX4_move 1 = .ok (.getfield 21, 3) := by decide +kernel
theorem dX4_move_4 : decode cX4_move 4 = .ok (.iload_n 2, 1) := by decide +kernel
theorem dX4_move_5 : decode cX4_move 5 = .ok (.dup2, 1) := by decide +kernel
theorem dX4_move_6 : decode cX4_move 6 = .ok (.iaload, 1) := by decide +kernel
theorem dX4_move_7 : decode cX4_move 7 = .ok (.aload_n 0, 1) := by decide +kernel
theorem dX4_move_8 : decode cX4_move 8 = .ok (.getfield 9, 3) := by decide +kernel
theorem dX4_move_11 : decode cX4_move 11 = .ok (.iload_n 2, 1) := by decide +kernel
theorem dX4_move_12 : decode cX4_move 12 = .ok (.iaload, 1) := by decide +kernel
theorem dX4_move_13 : decode cX4_move 13 = .ok (.iadd, 1) := by decide +kernel
theorem dX4_move_14 : decode cX4_move 14 = .ok (.iastore, 1) := by decide +kernel
theorem dX4_move_15 : decode cX4_move 15 = .ok (.aload_n 0, 1) := by decide +kernel
theorem dX4_move_16 : decode cX4_move 16 = .ok (.getfield 18, 3) := by decide +kernel
theorem dX4_move_19 : decode cX4_move 19 = .ok (.iload_n 2, 1) := by decide +kernel
theorem dX4_move_20 : decode cX4_move 20 = .ok (.iaload, 1) := by decide +kernel
theorem dX4_move_21 : decode cX4_move 21 = .ok (.istore 4, 2) := by decide +kernel
theorem dX4_move_23 : decode cX4_move 23 = .ok (.iload 4, 2) := by decide +kernel
theorem dX4_move_25 : decode cX4_move 25 = .ok (.aload_n 1, 1) := by decide +kernel
theorem dX4_move_26 : decode cX4_move 26 = .ok (.getfield 36, 3) := by decide +kernel
theorem dX4_move_29 : decode cX4_move 29 = .ok (.if_icmp .ge 73, 3) := by decide +kernel
theorem dX4_move_32 : decode cX4_move 32 = .ok (.aload_n 1, 1) := by decide +kernel
theorem dX4_move_33 : decode cX4_move 33 = .ok (.getfield 43, 3) := by decide +kernel
theorem dX4_move_36 : decode cX4_move 36 = .ok (.iload 4, 2) := by decide +kernel
theorem dX4_move_38 : decode cX4_move 38 = .ok (.iaload, 1) := by decide +kernel
theorem dX4_move_39 : decode cX4_move 39 = .ok (.istore 5, 2) := by decide +kernel
theorem dX4_move_41 : decode cX4_move 41 = .ok (.aload_n 0, 1) := by decide +kernel
theorem dX4_move_42 : decode cX4_move 42 = .ok (.getfield 21, 3) := by decide +kernel
theorem dX4_move_45 : decode cX4_move 45 = .ok (.iload_n 2, 1) := by decide +kernel
theorem dX4_move_46 : decode cX4_move 46 = .ok (.iaload, 1) := by decide +kernel
theorem dX4_move_47 : decode cX4_move 47 = .ok (.iload 5, 2) := by decide +kernel
theorem dX4_move_49 : decode cX4_move 49 = .ok (.if_icmp .ge 4, 3) := by decide +kernel
theorem dX4_move_52 : decode cX4_move 52 = .ok (.return_, 1) := by decide +kernel
theorem dX4_move_53 : decode cX4_move 53 = .ok (.aload_n 0, 1) := by decide +kernel
theorem dX4_move_54 : decode cX4_move 54 = .ok (.aload_n 1, 1) := by decide +kernel
theorem dX4_move_55 : decode cX4_move 55 = .ok (.iload_n 2, 1) := by decide +kernel
theorem dX4_move_56 : decode cX4_move 56 = .ok (.iload 4, 2) := by decide +kernel
theorem dX4_move_58 : decode cX4_move 58 = .ok (.iconst 1, 1) := by decide +kernel
theorem dX4_move_59 : decode cX4_move 59 = .ok (.iadd, 1) := by decide +kernel
theorem dX4_move_60 : decode cX4_move 60 = .ok (.invokevirtual 46, 3) := by decide +kernel
theorem dX4_move_63 : decode cX4_move 63 = .ok (.ifCond .eq 12, 3) := by decide +kernel
theorem dX4_move_66 : decode cX4_move 66 = .ok (.aload_n 0, 1) := by decide +kernel
theorem dX4_move_67 : decode cX4_move 67 = .ok (.getfield 21, 3) := by decide +kernel
theorem dX4_move_70 : decode cX4_move 70 = .ok (.iload_n 2, 1) := by decide +kernel
theorem dX4_move_71 : decode cX4_move 71 = .ok (.iload 5, 2) := by decide +kernel
theorem dX4_move_73 : decode cX4_move 73 = .ok (.iastore, 1) := by decide +kernel
theorem dX4_move_74 : decode cX4_move 74 = .ok (.return_, 1) := by decide +kernel
theorem dX4_move_75 : decode cX4_move 75 = .ok (.aload_n 0, 1) := by decide +kernel
theorem dX4_move_76 : decode cX4_move 76 = .ok (.getfield 21, 3) := by decide +kernel
theorem dX4_move_79 : decode cX4_move 79 = .ok (.iload_n 2, 1) := by decide +kernel
theorem dX4_move_80 : decode cX4_move 80 = .ok (.dup2, 1) := by decide +kernel
theorem dX4_move_81 : decode cX4_move 81 = .ok (.iaload, 1) := by decide +kernel
theorem dX4_move_82 : decode cX4_move 82 = .ok (.iload 5, 2) := by decide +kernel
theorem dX4_move_84 : decode cX4_move 84 = .ok (.isub, 1) := by decide +kernel
theorem dX4_move_85 : decode cX4_move 85 = .ok (.iastore, 1) := by decide +kernel
theorem dX4_move_86 : decode cX4_move 86 = .ok (.aload_n 0, 1) := by decide +kernel
theorem dX4_move_87 : decode cX4_move 87 = .ok (.getfield 18, 3) := by decide +kernel
theorem dX4_move_90 : decode cX4_move 90 = .ok (.iload_n 2, 1) := by decide +kernel
theorem dX4_move_91 : decode cX4_move 91 = .ok (.iload 4, 2) := by decide +kernel
theorem dX4_move_93 : decode cX4_move 93 = .ok (.iconst 1, 1) := by decide +kernel
theorem dX4_move_94 : decode cX4_move 94 = .ok (.iadd, 1) := by decide +kernel
theorem dX4_move_95 : decode cX4_move 95 = .ok (.iastore, 1) := by decide +kernel
theorem dX4_move_96 : decode cX4_move 96 = .ok (.iinc 4 1, 3) := by decide +kernel
theorem dX4_move_99 : decode cX4_move 99 = .ok (.goto (-76), 3) := by decide +kernel
theorem dX4_move_102 : decode cX4_move 102 = .ok (.aload_n 0, 1) := by decide +kernel
theorem dX4_move_103 : decode cX4_move 103 = .ok (.iload_n 2, 1) := by decide +kernel
theorem dX4_move_104 : decode cX4_move 104 = .ok (.iload_n 3, 1) := by decide +kernel
theorem dX4_move_105 : decode cX4_move 105 = .ok (.invokevirtual 50, 3) := by decide +kernel
theorem dX4_move_108 : decode cX4_move 108 = .ok (.return_, 1) := by decide +kernel
theorem dX4_isBlocked_0 : decode cX4_isBlocked 0 = .ok (.iload_n 3, 1) := by decide +kernel
theorem dX4_isBlocked_1 : decode cX4_isBlocked 1 = .ok (.aload_n 1, 1) := by decide +kernel
theorem dX4_isBlocked_2 : decode cX4_isBlocked 2 = .ok (.getfield 36, 3) := by decide +kernel
theorem dX4_isBlocked_5 : decode cX4_isBlocked 5 = .ok (.if_icmp .ge 14, 3) := by decide +kernel
theorem dX4_isBlocked_8 : decode cX4_isBlocked 8 = .ok (.aload_n 1, 1) := by decide +kernel
theorem dX4_isBlocked_9 : decode cX4_isBlocked 9 = .ok (.getfield 43, 3) := by decide +kernel
theorem dX4_isBlocked_12 : decode cX4_isBlocked 12 = .ok (.iload_n 3, 1) := by decide +kernel
theorem dX4_isBlocked_13 : decode cX4_isBlocked 13 = .ok (.iaload, 1) := by decide +kernel
theorem dX4_isBlocked_14 : decode cX4_isBlocked 14 = .ok (.bipush 6, 2) := by decide +kernel
theorem dX4_isBlocked_16 : decode cX4_isBlocked 16 = .ok (.if_icmp .eq 5, 3) := by decide +kernel
theorem dX4_isBlocked_19 : decode cX4_isBlocked 19 = .ok (.iconst 0, 1) := by decide +kernel
theorem dX4_isBlocked_20 : decode cX4_isBlocked 20 = .ok (.ireturn, 1) := by decide +kernel
theorem dX4_isBlocked_21 : decode cX4_isBlocked 21 = .ok (.iconst 0, 1) := by decide +kernel
theorem dX4_isBlocked_22 : decode cX4_isBlocked 22 = .ok (.istore 4, 2) := by decide +kernel
theorem dX4_isBlocked_24 : decode cX4_isBlocked 24 = .ok (.iload 4, 2) := by decide +kernel
theorem dX4_isBlocked_26 : decode cX4_isBlocked 26 = .ok (.aload_n 1, 1) := by decide +kernel
theorem dX4_isBlocked_27 : decode cX4_isBlocked 27 = .ok (.getfield 31, 3) := by decide +kernel
theorem dX4_isBlocked_30 : decode cX4_isBlocked 30 = .ok (.if_icmp .ge 28, 3) := by decide +kernel
theorem dX4_isBlocked_33 : decode cX4_isBlocked 33 = .ok (.iload 4, 2) := by decide +kernel
theorem dX4_isBlocked_35 : decode cX4_isBlocked 35 = .ok (.iload_n 2, 1) := by decide +kernel
theorem dX4_isBlocked_36 : decode cX4_isBlocked 36 = .ok (.if_icmp .eq 16, 3) := by decide +kernel
theorem dX4_isBlocked_39 : decode cX4_isBlocked 39 = .ok (.aload_n 0, 1) := by decide +kernel
theorem dX4_isBlocked_40 : decode cX4_isBlocked 40 = .ok (.getfield 18, 3) := by decide +kernel
theorem dX4_isBlocked_43 : decode cX4_isBlocked 43 = .ok (.iload 4, 2) := by decide +kernel
theorem dX4_isBlocked_45 : decode cX4_isBlocked 45 = .ok (.iaload, 1) := by decide +kernel
theorem dX4_isBlocked_46 : decode cX4_isBlocked 46 = .ok (.iload_n 3, 1) := by decide +kernel
theorem dX4_isBlocked_47 : decode cX4_isBlocked 47 = .ok (.if_icmp .ne 5, 3) := by decide +kernel
theorem dX4_isBlocked_50 : decode cX4_isBlocked 50 = .ok (.iconst 1, 1) := by decide +kernel
theorem dX4_isBlocked_51 : decode cX4_isBlocked 51 = .ok (.ireturn, 1) := by decide +kernel
theorem dX4_isBlocked_52 : decode cX4_isBlocked 52 = .ok (.iinc 4 1, 3) := by decide +kernel
theorem dX4_isBlocked_55 : decode cX4_isBlocked 55 = .ok (.goto (-31), 3) := by decide +kernel
theorem dX4_isBlocked_58 : decode cX4_isBlocked 58 = .ok (.iconst 0, 1) := by decide +kernel
theorem dX4_isBlocked_59 : decode cX4_isBlocked 59 = .ok (.ireturn, 1) := by decide +kernel
theorem dX4_arrive_0 : decode cX4_arrive 0 = .ok (.aload_n 0, 1) := by decide +kernel
theorem dX4_arrive_1 : decode cX4_arrive 1 = .ok (.getfield 27, 3) := by decide +kernel
theorem dX4_arrive_4 : decode cX4_arrive 4 = .ok (.iconst 5, 1) := by decide +kernel
theorem dX4_arrive_5 : decode cX4_arrive 5 = .ok (.if_icmp .lt 4, 3) := by decide +kernel
theorem dX4_arrive_8 : decode cX4_arrive 8 = .ok (.return_, 1) := by decide +kernel
theorem dX4_arrive_9 : decode cX4_arrive 9 = .ok (.aload_n 0, 1) := by decide +kernel
theorem dX4_arrive_10 : decode cX4_arrive 10 = .ok (.getfield 15, 3) := by decide +kernel
theorem dX4_arrive_13 : decode cX4_arrive 13 = .ok (.iload_n 1, 1) := by decide +kernel
theorem dX4_arrive_14 : decode cX4_arrive 14 = .ok (.iload_n 2, 1) := by decide +kernel
theorem dX4_arrive_15 : decode cX4_arrive 15 = .ok (.iastore, 1) := by decide +kernel
theorem dX4_arrive_16 : decode cX4_arrive 16 = .ok (.aload_n 0, 1) := by decide +kernel
theorem dX4_arrive_17 : decode cX4_arrive 17 = .ok (.getfield 24, 3) := by decide +kernel
theorem dX4_arrive_20 : decode cX4_arrive 20 = .ok (.aload_n 0, 1) := by decide +kernel
theorem dX4_arrive_21 : decode cX4_arrive 21 = .ok (.getfield 27, 3) := by decide +kernel
theorem dX4_arrive_24 : decode cX4_arrive 24 = .ok (.iload_n 1, 1) := by decide +kernel
theorem dX4_arrive_25 : decode cX4_arrive 25 = .ok (.iastore, 1) := by decide +kernel
theorem dX4_arrive_26 : decode cX4_arrive 26 = .ok (.aload_n 0, 1) := by decide +kernel
theorem dX4_arrive_27 : decode cX4_arrive 27 = .ok (.dup, 1) := by decide +kernel
theorem dX4_arrive_28 : decode cX4_arrive 28 = .ok (.getfield 27, 3) := by decide +kernel
theorem dX4_arrive_31 : decode cX4_arrive 31 = .ok (.iconst 1, 1) := by decide +kernel
theorem dX4_arrive_32 : decode cX4_arrive 32 = .ok (.iadd, 1) := by decide +kernel
theorem dX4_arrive_33 : decode cX4_arrive 33 = .ok (.putfield 27, 3) := by decide +kernel
theorem dX4_arrive_36 : decode cX4_arrive 36 = .ok (.return_, 1) := by decide +kernel
theorem dX5_init_0 : decode cX5_init 0 = .ok (.aload_n 0, 1) := by decide +kernel
theorem dX5_init_1 : decode cX5_init 1 = .ok (.invokespecial 3, 3) := by decide +kernel
theorem dX5_init_4 : decode cX5_init 4 = .ok (.aload_n 0, 1) := by decide +kernel
theorem dX5_init_5 : decode cX5_init 5 = .ok (.bipush 120, 2) := by decide +kernel
theorem dX5_init_7 : decode cX5_init 7 = .ok (.newarray .int, 2) := by decide +kernel
theorem dX5_init_9 : decode cX5_init 9 = .ok (.putfield 9, 3) := by decide +kernel
theorem dX5_init_12 : decode cX5_init 12 = .ok (.return_, 1) := by decide +kernel
theorem dX5_write_0 : decode cX5_write 0 = .ok (.aload_n 0, 1) := by decide +kernel
theorem dX5_write_1 : decode cX5_write 1 = .ok (.getfield 15, 3) := by decide +kernel
theorem dX5_write_4 : decode cX5_write 4 = .ok (.bipush 120, 2) := by decide +kernel
theorem dX5_write_6 : decode cX5_write 6 = .ok (.if_icmp .lt 4, 3) := by decide +kernel
theorem dX5_write_9 : decode cX5_write 9 = .ok (.return_, 1) := by decide +kernel
theorem dX5_write_10 : decode cX5_write 10 = .ok (.aload_n 0, 1) := by decide +kernel
theorem dX5_write_11 : decode cX5_write 11 = .ok (.getfield 9, 3) := by decide +kernel
theorem dX5_write_14 : decode cX5_write 14 = .ok (.aload_n 0, 1) := by decide +kernel
theorem dX5_write_15 : decode cX5_write 15 = .ok (.getfield 15, 3) := by decide +kernel
theorem dX5_write_18 : decode cX5_write 18 = .ok (.iload_n 1, 1) := by decide +kernel
theorem dX5_write_19 : decode cX5_write 19 = .ok (.iastore, 1) := by decide +kernel
theorem dX5_write_20 : decode cX5_write 20 = .ok (.aload_n 0, 1) := by decide +kernel
theorem dX5_write_21 : decode cX5_write 21 = .ok (.dup, 1) := by decide +kernel
theorem dX5_write_22 : decode cX5_write 22 = .ok (.getfield 15, 3) := by decide +kernel
theorem dX5_write_25 : decode cX5_write 25 = .ok (.iconst 1, 1) := by decide +kernel
theorem dX5_write_26 : decode cX5_write 26 = .ok (.iadd, 1) := by decide +kernel
theorem dX5_write_27 : decode cX5_write 27 = .ok (.putfield 15, 3) := by decide +kernel
theorem dX5_write_30 : decode cX5_write 30 = .ok (.return_, 1) := by decide +kernel
theorem dX5_readInto_0 : decode cX5_readInto 0 = .ok (.aload_n 1, 1) := by decide +kernel
theorem dX5_readInto_1 : decode cX5_readInto 1 = .ok (.invokevirtual 19, 3) := by decide +kernel
theorem dX5_readInto_4 : decode cX5_readInto 4 = .ok (.aload_n 0, 1) := by decide +kernel
theorem dX5_readInto_5 : decode cX5_readInto 5 = .ok (.iconst 0, 1) := by decide +kernel
theorem dX5_readInto_6 : decode cX5_readInto 6 = .ok (.putfield 24, 3) := by decide +kernel
theorem dX5_readInto_9 : decode cX5_readInto 9 = .ok (.iconst 0, 1) := by decide +kernel
theorem dX5_readInto_10 : decode cX5_readInto 10 = .ok (.istore_n 2, 1) := by decide +kernel
theorem dX5_readInto_11 : decode cX5_readInto 11 = .ok (.aload_n 0, 1) := by decide +kernel
theorem dX5_readInto_12 : decode cX5_readInto 12 = .ok (.invokevirtual 27, 3) := by decide +kernel
theorem dX5_readInto_15 : decode cX5_readInto 15 = .ok (.aload_n 0, 1) := by decide +kernel
theorem dX5_readInto_16 : decode cX5_readInto 16 = .ok (.getfield 30, 3) := by decide +kernel
theorem dX5_readInto_19 : decode cX5_readInto 19 = .ok (.iconst (-1), 1) := by decide +kernel
theorem dX5_readInto_20 : decode cX5_readInto 20 = .ok (.if_icmp .eq 35, 3) := by decide +kernel
theorem dX5_readInto_23 : decode cX5_readInto 23 = .ok (.iload_n 2, 1) := by decide +kernel
theorem dX5_readInto_24 : decode cX5_readInto 24 = .ok (.bipush 120, 2) := by decide +kernel
theorem dX5_readInto_26 : decode cX5_readInto 26 = .ok (.if_icmp .ge 29, 3) := by decide +kernel
theorem dX5_readInto_29 : decode cX5_readInto 29 = .ok (.aload_n 0, 1) := by decide +kernel
theorem dX5_readInto_30 : decode cX5_readInto 30 = .ok (.aload_n 1, 1) := by decide +kernel
theorem dX5_readInto_31 : decode cX5_readInto 31 = .ok (.invokevirtual 33, 3) := by decide +kernel
theorem dX5_readInto_34 : decode cX5_readInto 34 = .ok (.ifCond .ne 11, 3) := by decide +kernel
theorem dX5_readInto_37 : decode cX5_readInto 37 = .ok (.bipush (-10), 2) := by decide +kernel
theorem dX5_readInto_39 : decode cX5_readInto 39 = .ok (.aload_n 0, 1) := by decide +kernel
theorem dX5_readInto_40 : decode cX5_readInto 40 = .ok (.getfield 37, 3) := by decide +kernel
theorem dX5_readInto_43 : decode cX5_readInto 43 = .ok (.isub, 1) := by decide +kernel
theorem dX5_readInto_44 : decode cX5_readInto 44 = .ok (.ireturn, 1) := by decide +kernel
theorem dX5_readInto_45 : decode cX5_readInto 45 = .ok (.iinc 2 1, 3) := by decide +kernel
theorem dX5_readInto_48 : decode cX5_readInto 48 = .ok (.aload_n 0, 1) := by decide +kernel
theorem dX5_readInto_49 : decode cX5_readInto 49 = .ok (.invokevirtual 27, 3) := by decide +kernel
theorem dX5_readInto_52 : decode cX5_readInto 52 = .ok (.goto (-37), 3) := by decide +kernel
theorem dX5_readInto_55 : decode cX5_readInto 55 = .ok (.iload_n 2, 1) := by decide +kernel
theorem dX5_readInto_56 : decode cX5_readInto 56 = .ok (.ireturn, 1) := by decide +kernel
theorem dX5_readItem_0 : decode cX5_readItem 0 = .ok (.aload_n 0, 1) := by decide +kernel
theorem dX5_readItem_1 : decode cX5_readItem 1 = .ok (.getfield 30, 3) := by decide +kernel
theorem dX5_readItem_4 : decode cX5_readItem 4 = .ok (.lookupswitch 85 #[(99, 57), (108, 36), (112, 79)], 36) := by decide +kernel
theorem dX5_readItem_40 : decode cX5_readItem 40 = .ok (.aload_n 1, 1) := by decide +kernel
theorem dX5_readItem_41 : decode cX5_readItem 41 = .ok (.getfield 40, 3) := by decide +kernel
theorem dX5_readItem_44 : decode cX5_readItem 44 = .ok (.ifCond .ne 15, 3) := by decide +kernel
theorem dX5_readItem_47 : decode cX5_readItem 47 = .ok (.aload_n 0, 1) := by decide +kernel
theorem dX5_readItem_48 : decode cX5_readItem 48 = .ok (.aload_n 1, 1) := by decide +kernel
theorem dX5_readItem_49 : decode cX5_readItem 49 = .ok (.invokevirtual 43, 3) := by decide +kernel
theorem dX5_readItem_52 : decode cX5_readItem 52 = .ok (.ifCond .eq 7, 3) := by decide +kernel
theorem dX5_readItem_55 : decode cX5_readItem 55 = .ok (.iconst 1, 1) := by decide +kernel
theorem dX5_readItem_56 : decode cX5_readItem 56 = .ok (.goto 4, 3) := by decide +kernel
theorem dX5_readItem_59 : decode cX5_readItem 59 = .ok (.iconst 0, 1) := by decide +kernel
theorem dX5_readItem_60 : decode cX5_readItem 60 = .ok (.ireturn, 1) := by decide +kernel
theorem dX5_readItem_61 : decode cX5_readItem 61 = .ok (.aload_n 1, 1) := by decide +kernel
theorem dX5_readItem_62 : decode cX5_readItem 62 = .ok (.getfield 46, 3) := by decide +kernel
theorem dX5_readItem_65 : decode cX5_readItem 65 = .ok (.iconst 5, 1) := by decide +kernel
theorem dX5_readItem_66 : decode cX5_readItem 66 = .ok (.if_icmp .ge 15, 3) := by decide +kernel
theorem dX5_readItem_69 : decode cX5_readItem 69 = .ok (.aload_n 0, 1) := by decide +kernel
theorem dX5_readItem_70 : decode cX5_readItem 70 = .ok (.aload_n 1, 1) := by decide +kernel
theorem dX5_readItem_71 : decode cX5_readItem 71 = .ok (.invokevirtual 49, 3) := by decide +kernel
theorem dX5_readItem_74 : decode cX5_readItem 74 = .ok (.ifCond .eq 7, 3) := by decide +kernel
theorem dX5_readItem_77 : decode cX5_readItem 77 = .ok (.iconst 1, 1) := by decide +kernel
theorem dX5_readItem_78 : decode cX5_readItem 78 = .ok (.goto 4, 3) := by decide +kernel
theorem dX5_readItem_81 : decode cX5_readItem 81 = .ok (.iconst 0, 1) := by decide +kernel
theorem dX5_readItem_82 : decode cX5_readItem 82 = .ok (.ireturn, 1) := by decide +kernel
theorem dX5_readItem_83 : decode cX5_readItem 83 = .ok (.aload_n 0, 1) := by decide +kernel
theorem dX5_readItem_84 : decode cX5_readItem 84 = .ok (.aload_n 1, 1) := by decide +kernel
theorem dX5_readItem_85 : decode cX5_readItem 85 = .ok (.invokevirtual 52, 3) := by decide +kernel
theorem dX5_readItem_88 : decode cX5_readItem 88 = .ok (.ireturn, 1) := by decide +kernel
theorem dX5_readItem_89 : decode cX5_readItem 89 = .ok (.iconst 0, 1) := by decide +kernel
theorem dX5_readItem_90 : decode cX5_readItem 90 = .ok (.ireturn, 1) := by decide +kernel
theorem dX5_readPromenade_0 : decode cX5_readPromenade 0 = .ok (.aload_n 0, 1) := by decide +kernel
theorem dX5_readPromenade_1 : decode cX5_readPromenade 1 = .ok (.invokevirtual 27, 3) := by decide +kernel
theorem dX5_readPromenade_4 : decode cX5_readPromenade 4 = .ok (.iconst 0, 1) := by decide +kernel
theorem dX5_readPromenade_5 : decode cX5_readPromenade 5 = .ok (.istore_n 2, 1) := by decide +kernel
theorem dX5_readPromenade_6 : decode cX5_readPromenade 6 = .ok (.iload_n 2, 1) := by decide +kernel
theorem dX5_readPromenade_7 : decode cX5_readPromenade 7 = .ok (.bipush 16, 2) := by decide +kernel
theorem dX5_readPromenade_9 : decode cX5_readPromenade 9 = .ok (.if_icmp .ge 28, 3) := by decide +kernel
theorem dX5_readPromenade_12 : decode cX5_readPromenade 12 = .ok (.aload_n 0, 1) := by decide +kernel
theorem dX5_readPromenade_13 : decode cX5_readPromenade 13 = .ok (.invokevirtual 55, 3) := by decide +kernel
theorem dX5_readPromenade_16 : decode cX5_readPromenade 16 = .ok (.ifCond .le 21, 3) := by decide +kernel
theorem dX5_readPromenade_19 : decode cX5_readPromenade 19 = .ok (.aload_n 1, 1) := by decide +kernel
theorem dX5_readPromenade_20 : decode cX5_readPromenade 20 = .ok (.aload_n 0, 1) := by decide +kernel
theorem dX5_readPromenade_21 : decode cX5_readPromenade 21 = .ok (.invokevirtual 55, 3) := by decide +kernel
theorem dX5_readPromenade_24 : decode cX5_readPromenade 24 = .ok (.invokevirtual 59, 3) := by decide +kernel
theorem dX5_readPromenade_27 : decode cX5_readPromenade 27 = .ok (.aload_n 0, 1) := by decide +kernel
theorem dX5_readPromenade_28 : decode cX5_readPromenade 28 = .ok (.invokevirtual 27, 3) := by decide +kernel
theorem dX5_readPromenade_31 : decode cX5_readPromenade 31 = .ok (.iinc 2 1, 3) := by decide +kernel
theorem dX5_readPromenade_34 : decode cX5_readPromenade 34 = .ok (.goto (-28), 3) := by decide +kernel
theorem dX5_readPromenade_37 : decode cX5_readPromenade 37 = .ok (.aload_n 1, 1) := by decide +kernel
theorem dX5_readPromenade_38 : decode cX5_readPromenade 38 = .ok (.getfield 40, 3) := by decide +kernel
theorem dX5_readPromenade_41 : decode cX5_readPromenade 41 = .ok (.ifCond .le 16, 3) := by decide +kernel
theorem dX5_readPromenade_44 : decode cX5_readPromenade 44 = .ok (.aload_n 0, 1) := by decide +kernel
theorem dX5_readPromenade_45 : decode cX5_readPromenade 45 = .ok (.getfield 30, 3) := by decide +kernel
theorem dX5_readPromenade_48 : decode cX5_readPromenade 48 = .ok (.bipush 59, 2) := by decide +kernel
theorem dX5_readPromenade_50 : decode cX5_readPromenade 50 = .ok (.if_icmp .ne 7, 3) := by decide +kernel
theorem dX5_readPromenade_53 : decode cX5_readPromenade 53 = .ok (.iconst 1, 1) := by decide +kernel
theorem dX5_readPromenade_54 : decode cX5_readPromenade 54 = .ok (.goto 4, 3) := by decide +kernel
theorem dX5_readPromenade_57 : decode cX5_readPromenade 57 = .ok (.iconst 0, 1) := by decide +kernel
theorem dX5_readPromenade_58 : decode cX5_readPromenade 58 = .ok (.ireturn, 1) := by decide +kernel
theorem dX5_costOfToken_0 : decode cX5_costOfToken 0 = .ok (.aload_n 0, 1) := by decide +kernel
theorem dX5_costOfToken_1 : decode cX5_costOfToken 1 = .ok (.getfield 30, 3) := by decide +kernel
theorem dX5_costOfToken_4 : decode cX5_costOfToken 4 = .ok (.lookupswitch 54 #[(98, 51), (100, 49), (102, 44), (117, 46)], 44) := by decide +kernel
theorem dX5_costOfToken_48 : decode cX5_costOfToken 48 = .ok (.iconst 4, 1) := by decide +kernel
theorem dX5_costOfToken_49 : decode cX5_costOfToken 49 = .ok (.ireturn, 1) := by decide +kernel
theorem dX5_costOfToken_50 : decode cX5_costOfToken 50 = .ok (.bipush 8, 2) := by decide +kernel
theorem dX5_costOfToken_52 : decode cX5_costOfToken 52 = .ok (.ireturn, 1) := by decide +kernel
theorem dX5_costOfToken_53 : decode cX5_costOfToken 53 = .ok (.iconst 2, 1) := by decide +kernel
theorem dX5_costOfToken_54 : decode cX5_costOfToken 54 = .ok (.ireturn, 1) := by decide +kernel
theorem dX5_costOfToken_55 : decode cX5_costOfToken 55 = .ok (.bipush 6, 2) := by decide +kernel
theorem dX5_costOfToken_57 : decode cX5_costOfToken 57 = .ok (.ireturn, 1) := by decide +kernel
theorem dX5_costOfToken_58 : decode cX5_costOfToken 58 = .ok (.iconst 0, 1) := by decide +kernel
theorem dX5_costOfToken_59 : decode cX5_costOfToken 59 = .ok (.ireturn, 1) := by decide +kernel
theorem dX5_readChair_0 : decode cX5_readChair 0 = .ok (.aload_n 0, 1) := by decide +kernel
theorem dX5_readChair_1 : decode cX5_readChair 1 = .ok (.iconst 1, 1) := by decide +kernel
theorem dX5_readChair_2 : decode cX5_readChair 2 = .ok (.bipush 9, 2) := by decide +kernel
theorem dX5_readChair_4 : decode cX5_readChair 4 = .ok (.invokevirtual 63, 3) := by decide +kernel
theorem dX5_readChair_7 : decode cX5_readChair 7 = .ok (.ifCond .ne 5, 3) := by decide +kernel
theorem dX5_readChair_10 : decode cX5_readChair 10 = .ok (.iconst 0, 1) := by decide +kernel
theorem dX5_readChair_11 : decode cX5_readChair 11 = .ok (.ireturn, 1) := by decide +kernel
theorem dX5_readChair_12 : decode cX5_readChair 12 = .ok (.aload_n 0, 1) := by decide +kernel
theorem dX5_readChair_13 : decode cX5_readChair 13 = .ok (.getfield 67, 3) := by decide +kernel
theorem dX5_readChair_16 : decode cX5_readChair 16 = .ok (.istore_n 2, 1) := by decide +kernel
theorem dX5_readChair_17 : decode cX5_readChair 17 = .ok (.aload_n 0, 1) := by decide +kernel
theorem dX5_readChair_18 : decode cX5_readChair 18 = .ok (.iconst 0, 1) := by decide +kernel
theorem dX5_readChair_19 : decode cX5_readChair 19 = .ok (.iconst 3, 1) := by decide +kernel
theorem dX5_readChair_20 : decode cX5_readChair 20 = .ok (.invokevirtual 63, 3) := by decide +kernel
theorem dX5_readChair_23 : decode cX5_readChair 23 = .ok (.ifCond .ne 5, 3) := by decide +kernel
theorem dX5_readChair_26 : decode cX5_readChair 26 = .ok (.iconst 0, 1) := by decide +kernel
theorem dX5_readChair_27 : decode cX5_readChair 27 = .ok (.ireturn, 1) := by decide +kernel
theorem dX5_readChair_28 : decode cX5_readChair 28 = .ok (.aload_n 1, 1) := by decide +kernel
theorem dX5_readChair_29 : decode cX5_readChair 29 = .ok (.iload_n 2, 1) := by decide +kernel
theorem dX5_readChair_30 : decode cX5_readChair 30 = .ok (.aload_n 0, 1) := by decide +kernel
theorem dX5_readChair_31 : decode cX5_readChair 31 = .ok (.getfield 67, 3) := by decide +kernel
theorem dX5_readChair_34 : decode cX5_readChair 34 = .ok (.invokevirtual 70, 3) := by decide +kernel
theorem dX5_readChair_37 : decode cX5_readChair 37 = .ok (.aload_n 0, 1) := by decide +kernel
theorem dX5_readChair_38 : decode cX5_readChair 38 = .ok (.invokevirtual 74, 3) := by decide +kernel
theorem dX5_readChair_41 : decode cX5_readChair 41 = .ok (.ireturn, 1) := by decide +kernel
theorem dX5_readPusher_0 : decode cX5_readPusher 0 = .ok (.aload_n 0, 1) := by decide +kernel
theorem dX5_readPusher_1 : decode cX5_readPusher 1 = .ok (.iconst 0, 1) := by decide +kernel
theorem dX5_readPusher_2 : decode cX5_readPusher 2 = .ok (.aload_n 1, 1) := by decide +kernel
theorem dX5_readPusher_3 : decode cX5_readPusher 3 = .ok (.getfield 46, 3) := by decide +kernel
theorem dX5_readPusher_6 : decode cX5_readPusher 6 = .ok (.iconst 1, 1) := by decide +kernel
theorem dX5_readPusher_7 : decode cX5_readPusher 7 = .ok (.isub, 1) := by decide +kernel
theorem dX5_readPusher_8 : decode cX5_readPusher 8 = .ok (.invokevirtual 63, 3) := by decide +kernel
theorem dX5_readPusher_11 : decode cX5_readPusher 11 = .ok (.ifCond .ne 5, 3) := by decide +kernel
theorem dX5_readPusher_14 : decode cX5_readPusher 14 = .ok (.iconst 0, 1) := by decide +kernel
theorem dX5_readPusher_15 : decode cX5_readPusher 15 = .ok (.ireturn, 1) := by decide +kernel
theorem dX5_readPusher_16 : decode cX5_readPusher 16 = .ok (.aload_n 0, 1) := by decide +kernel
theorem dX5_readPusher_17 : decode cX5_readPusher 17 = .ok (.getfield 67, 3) := by decide +kernel
theorem dX5_readPusher_20 : decode cX5_readPusher 20 = .ok (.istore_n 2, 1) := by decide +kernel
theorem dX5_readPusher_21 : decode cX5_readPusher 21 = .ok (.aload_n 0, 1) := by decide +kernel
theorem dX5_readPusher_22 : decode cX5_readPusher 22 = .ok (.iconst 1, 1) := by decide +kernel
theorem dX5_readPusher_23 : decode cX5_readPusher 23 = .ok (.bipush 9, 2) := by decide +kernel
theorem dX5_readPusher_25 : decode cX5_readPusher 25 = .ok (.invokevirtual 63, 3) := by decide +kernel
theorem dX5_readPusher_28 : decode cX5_readPusher 28 = .ok (.ifCond .ne 5, 3) := by decide +kernel
theorem dX5_readPusher_31 : decode cX5_readPusher 31 = .ok (.iconst 0, 1) := by decide +kernel
theorem dX5_readPusher_32 : decode cX5_readPusher 32 = .ok (.ireturn, 1) := by decide +kernel
theorem dX5_readPusher_33 : decode cX5_readPusher 33 = .ok (.iload_n 2, 1) := by decide +kernel
theorem dX5_readPusher_34 : decode cX5_readPusher 34 = .ok (.ifCond .lt 21, 3) := by decide +kernel
theorem dX5_readPusher_37 : decode cX5_readPusher 37 = .ok (.iload_n 2, 1) := by decide +kernel
theorem dX5_readPusher_38 : decode cX5_readPusher 38 = .ok (.aload_n 1, 1) := by decide +kernel
theorem dX5_readPusher_39 : decode cX5_readPusher 39 = .ok (.getfield 46, 3) := by decide +kernel
theorem dX5_readPusher_42 : decode cX5_readPusher 42 = .ok (.if_icmp .ge 13, 3) := by decide +kernel
theorem dX5_readPusher_45 : decode cX5_readPusher 45 = .ok (.aload_n 1, 1) := by decide +kernel
theorem dX5_readPusher_46 : decode cX5_readPusher 46 = .ok (.getfield 78, 3) := by decide +kernel
theorem dX5_readPusher_49 : decode cX5_readPusher 49 = .ok (.iload_n 2, 1) := by decide +kernel
theorem dX5_readPusher_50 : decode cX5_readPusher 50 = .ok (.aload_n 0, 1) := by decide +kernel
theorem dX5_readPusher_51 : decode cX5_readPusher 51 = .ok (.getfield 67, 3) := by decide +kernel
theorem dX5_readPusher_54 : decode cX5_readPusher 54 = .ok (.iastore, 1) := by decide +kernel
theorem dX5_readPusher_55 : decode cX5_readPusher 55 = .ok (.aload_n 0, 1) := by decide +kernel
theorem dX5_readPusher_56 : decode cX5_readPusher 56 = .ok (.invokevirtual 74, 3) := by decide +kernel
theorem dX5_readPusher_59 : decode cX5_readPusher 59 = .ok (.ireturn, 1) := by decide +kernel
theorem dX5_readNumber_0 : decode cX5_readNumber 0 = .ok (.aload_n 0, 1) := by decide +kernel
theorem dX5_readNumber_1 : decode cX5_readNumber 1 = .ok (.invokevirtual 27, 3) := by decide +kernel
theorem dX5_readNumber_4 : decode cX5_readNumber 4 = .ok (.aload_n 0, 1) := by decide +kernel
theorem dX5_readNumber_5 : decode cX5_readNumber 5 = .ok (.getfield 30, 3) := by decide +kernel
theorem dX5_readNumber_8 : decode cX5_readNumber 8 = .ok (.bipush (-2), 2) := by decide +kernel
theorem dX5_readNumber_10 : decode cX5_readNumber 10 = .ok (.if_icmp .ne 23, 3) := by decide +kernel
theorem dX5_readNumber_13 : decode cX5_readNumber 13 = .ok (.aload_n 0, 1) := by decide +kernel
theorem dX5_readNumber_14 : decode cX5_readNumber 14 = .ok (.getfield 67, 3) := by decide +kernel
theorem dX5_readNumber_17 : decode cX5_readNumber 17 = .ok (.iload_n 1, 1) := by decide +kernel
theorem dX5_readNumber_18 : decode cX5_readNumber 18 = .ok (.if_icmp .lt 15, 3) := by decide +kernel
theorem dX5_readNumber_21 : decode cX5_readNumber 21 = .ok (.aload_n 0, 1) := by decide +kernel
theorem dX5_readNumber_22 : decode cX5_readNumber 22 = .ok (.getfield 67, 3) := by decide +kernel
theorem dX5_readNumber_25 : decode cX5_readNumber 25 = .ok (.iload_n 2, 1) := by decide +kernel
theorem dX5_readNumber_26 : decode cX5_readNumber 26 = .ok (.if_icmp .gt 7, 3) := by decide +kernel
theorem dX5_readNumber_29 : decode cX5_readNumber 29 = .ok (.iconst 1, 1) := by decide +kernel
theorem dX5_readNumber_30 : decode cX5_readNumber 30 = .ok (.goto 4, 3) := by decide +kernel
theorem dX5_readNumber_33 : decode cX5_readNumber 33 = .ok (.iconst 0, 1) := by decide +kernel
theorem dX5_readNumber_34 : decode cX5_readNumber 34 = .ok (.ireturn, 1) := by decide +kernel
theorem dX5_readEnd_0 : decode cX5_readEnd 0 = .ok (.aload_n 0, 1) := by decide +kernel
theorem dX5_readEnd_1 : decode cX5_readEnd 1 = .ok (.invokevirtual 27, 3) := by decide +kernel
theorem dX5_readEnd_4 : decode cX5_readEnd 4 = .ok (.aload_n 0, 1) := by decide +kernel
theorem dX5_readEnd_5 : decode cX5_readEnd 5 = .ok (.getfield 30, 3) := by decide +kernel
theorem dX5_readEnd_8 : decode cX5_readEnd 8 = .ok (.bipush 59, 2) := by decide +kernel
theorem dX5_readEnd_10 : decode cX5_readEnd 10 = .ok (.if_icmp .ne 7, 3) := by decide +kernel
theorem dX5_readEnd_13 : decode cX5_readEnd 13 = .ok (.iconst 1, 1) := by decide +kernel
theorem dX5_readEnd_14 : decode cX5_readEnd 14 = .ok (.goto 4, 3) := by decide +kernel
theorem dX5_readEnd_17 : decode cX5_readEnd 17 = .ok (.iconst 0, 1) := by decide +kernel
theorem dX5_readEnd_18 : decode cX5_readEnd 18 = .ok (.ireturn, 1) := by decide +kernel
theorem dX5_readToken_0 : decode cX5_readToken 0 = .ok (.aload_n 0, 1) := by decide +kernel
theorem dX5_readToken_1 : decode cX5_readToken 1 = .ok (.getfield 24, 3) := by decide +kernel
theorem dX5_readToken_4 : decode cX5_readToken 4 = .ok (.aload_n 0, 1) := by decide +kernel
theorem dX5_readToken_5 : decode cX5_readToken 5 = .ok (.getfield 15, 3) := by decide +kernel
theorem dX5_readToken_8 : decode cX5_readToken 8 = .ok (.if_icmp .ge 30, 3) := by decide +kernel
theorem dX5_readToken_11 : decode cX5_readToken 11 = .ok (.aload_n 0, 1) := by decide +kernel
theorem dX5_readToken_12 : decode cX5_readToken 12 = .ok (.getfield 9, 3) := by decide +kernel
theorem dX5_readToken_15 : decode cX5_readToken 15 = .ok (.aload_n 0, 1) := by decide +kernel
theorem dX5_readToken_16 : decode cX5_readToken 16 = .ok (.getfield 24, 3) := by decide +kernel
theorem dX5_readToken_19 : decode cX5_readToken 19 = .ok (.iaload, 1) := by decide +kernel
theorem dX5_readToken_20 : decode cX5_readToken 20 = .ok (.bipush 32, 2) := by decide +kernel
theorem dX5_readToken_22 : decode cX5_readToken 22 = .ok (.if_icmp .ne 16, 3) := by decide +kernel
theorem dX5_readToken_25 : decode cX5_readToken 25 = .ok (.aload_n 0, 1) := by decide +kernel
theorem dX5_readToken_26 : decode cX5_readToken 26 = .ok (.dup, 1) := by decide +kernel
theorem dX5_readToken_27 : decode cX5_readToken 27 = .ok (.getfield 24, 3) := by decide +kernel
theorem dX5_readToken_30 : decode cX5_readToken 30 = .ok (.iconst 1, 1) := by decide +kernel
theorem dX5_readToken_31 : decode cX5_readToken 31 = .ok (.iadd, 1) := by decide +kernel
theorem dX5_readToken_32 : decode cX5_readToken 32 = .ok (.putfield 24, 3) := by decide +kernel
theorem dX5_readToken_35 : decode cX5_readToken 35 = .ok (.goto (-35), 3) := by decide +kernel
theorem dX5_readToken_38 : decode cX5_readToken 38 = .ok (.aload_n 0, 1) := by decide +kernel
theorem dX5_readToken_39 : decode cX5_readToken 39 = .ok (.aload_n 0, 1) := by decide +kernel
theorem dX5_readToken_40 : decode cX5_readToken 40 = .ok (.getfield 24, 3) := by decide +kernel
theorem dX5_readToken_43 : decode cX5_readToken 43 = .ok (.putfield 37, 3) := by decide +kernel
theorem dX5_readToken_46 : decode cX5_readToken 46 = .ok (.aload_n 0, 1) := by decide +kernel
theorem dX5_readToken_47 : decode cX5_readToken 47 = .ok (.getfield 24, 3) := by decide +kernel
theorem dX5_readToken_50 : decode cX5_readToken 50 = .ok (.aload_n 0, 1) := by decide +kernel
theorem dX5_readToken_51 : decode cX5_readToken 51 = .ok (.getfield 15, 3) := by decide +kernel
theorem dX5_readToken_54 : decode cX5_readToken 54 = .ok (.if_icmp .lt 11, 3) := by decide +kernel
theorem dX5_readToken_57 : decode cX5_readToken 57 = .ok (.aload_n 0, 1) := by decide +kernel
theorem dX5_readToken_58 : decode cX5_readToken 58 = .ok (.iconst (-1), 1) := by decide +kernel
theorem dX5_readToken_59 : decode cX5_readToken 59 = .ok (.putfield 30, 3) := by decide +kernel
theorem dX5_readToken_62 : decode cX5_readToken 62 = .ok (.goto 44, 3) := by decide +kernel
theorem dX5_readToken_65 : decode cX5_readToken 65 = .ok (.aload_n 0, 1) := by decide +kernel
theorem dX5_readToken_66 : decode cX5_readToken 66 = .ok (.aload_n 0, 1) := by decide +kernel
theorem dX5_readToken_67 : decode cX5_readToken 67 = .ok (.getfield 24, 3) := by decide +kernel
theorem dX5_readToken_70 : decode cX5_readToken 70 = .ok (.invokevirtual 81, 3) := by decide +kernel
theorem dX5_readToken_73 : decode cX5_readToken 73 = .ok (.ifCond .eq 10, 3) := by decide +kernel
theorem dX5_readToken_76 : decode cX5_readToken 76 = .ok (.aload_n 0, 1) := by decide +kernel
theorem dX5_readToken_77 : decode cX5_readToken 77 = .ok (.invokevirtual 85, 3) := by decide +kernel
theorem dX5_readToken_80 : decode cX5_readToken 80 = .ok (.goto 26, 3) := by decide +kernel
theorem dX5_readToken_83 : decode cX5_readToken 83 = .ok (.aload_n 0, 1) := by decide +kernel
theorem dX5_readToken_84 : decode cX5_readToken 84 = .ok (.aload_n 0, 1) := by decide +kernel
theorem dX5_readToken_85 : decode cX5_readToken 85 = .ok (.getfield 9, 3) := by decide +kernel
theorem dX5_readToken_88 : decode cX5_readToken 88 = .ok (.aload_n 0, 1) := by decide +kernel
theorem dX5_readToken_89 : decode cX5_readToken 89 = .ok (.getfield 24, 3) := by decide +kernel
theorem dX5_readToken_92 : decode cX5_readToken 92 = .ok (.iaload, 1) := by decide +kernel
theorem dX5_readToken_93 : decode cX5_readToken 93 = .ok (.putfield 30, 3) := by decide +kernel
theorem dX5_readToken_96 : decode cX5_readToken 96 = .ok (.aload_n 0, 1) := by decide +kernel
theorem dX5_readToken_97 : decode cX5_readToken 97 = .ok (.dup, 1) := by decide +kernel
theorem dX5_readToken_98 : decode cX5_readToken 98 = .ok (.getfield 24, 3) := by decide +kernel
theorem dX5_readToken_101 : decode cX5_readToken 101 = .ok (.iconst 1, 1) := by decide +kernel
theorem dX5_readToken_102 : decode cX5_readToken 102 = .ok (.iadd, 1) := by decide +kernel
theorem dX5_readToken_103 : decode cX5_readToken 103 = .ok (.putfield 24, 3) := by decide +kernel
theorem dX5_readToken_106 : decode cX5_readToken 106 = .ok (.return_, 1) := by decide +kernel
theorem dX5_readDigits_0 : decode cX5_readDigits 0 = .ok (.aload_n 0, 1) := by decide +kernel
theorem dX5_readDigits_1 : decode cX5_readDigits 1 = .ok (.bipush (-2), 2) := by decide +kernel
theorem dX5_readDigits_3 : decode cX5_readDigits 3 = .ok (.putfield 30, 3) := by decide +kernel
theorem dX5_readDigits_6 : decode cX5_readDigits 6 = .ok (.aload_n 0, 1) := by decide +kernel
theorem dX5_readDigits_7 : decode cX5_readDigits 7 = .ok (.iconst 0, 1) := by decide +kernel
theorem dX5_readDigits_8 : decode cX5_readDigits 8 = .ok (.putfield 67, 3) := by decide +kernel
theorem dX5_readDigits_11 : decode cX5_readDigits 11 = .ok (.aload_n 0, 1) := by decide +kernel
theorem dX5_readDigits_12 : decode cX5_readDigits 12 = .ok (.getfield 24, 3) := by decide +kernel
theorem dX5_readDigits_15 : decode cX5_readDigits 15 = .ok (.aload_n 0, 1) := by decide +kernel
theorem dX5_readDigits_16 : decode cX5_readDigits 16 = .ok (.getfield 15, 3) := by decide +kernel
theorem dX5_readDigits_19 : decode cX5_readDigits 19 = .ok (.if_icmp .ge 118, 3) := by decide +kernel
theorem dX5_readDigits_22 : decode cX5_readDigits 22 = .ok (.aload_n 0, 1) := by decide +kernel
theorem dX5_readDigits_23 : decode cX5_readDigits 23 = .ok (.aload_n 0, 1) := by decide +kernel
theorem dX5_readDigits_24 : decode cX5_readDigits 24 = .ok (.getfield 24, 3) := by decide +kernel
theorem dX5_readDigits_27 : decode cX5_readDigits 27 = .ok (.invokevirtual 81, 3) := by decide +kernel
theorem dX5_readDigits_30 : decode cX5_readDigits 30 = .ok (.ifCond .eq 107, 3) := by decide +kernel
theorem dX5_readDigits_33 : decode cX5_readDigits 33 = .ok (.aload_n 0, 1) := by decide +kernel
theorem dX5_readDigits_34 : decode cX5_readDigits 34 = .ok (.getfield 24, 3) := by decide +kernel
theorem dX5_readDigits_37 : decode cX5_readDigits 37 = .ok (.aload_n 0, 1) := by decide +kernel
theorem dX5_readDigits_38 : decode cX5_readDigits 38 = .ok (.getfield 37, 3) := by decide +kernel
theorem dX5_readDigits_41 : decode cX5_readDigits 41 = .ok (.isub, 1) := by decide +kernel
theorem dX5_readDigits_42 : decode cX5_readDigits 42 = .ok (.iconst 2, 1) := by decide +kernel
theorem dX5_readDigits_43 : decode cX5_readDigits 43 = .ok (.if_icmp .lt 7, 3) := by decide +kernel
theorem dX5_readDigits_46 : decode cX5_readDigits 46 = .ok (.iconst 1, 1) := by decide +kernel
theorem dX5_readDigits_47 : decode cX5_readDigits 47 = .ok (.goto 4, 3) := by decide +kernel
theorem dX5_readDigits_50 : decode cX5_readDigits 50 = .ok (.iconst 0, 1) := by decide +kernel
theorem dX5_readDigits_51 : decode cX5_readDigits 51 = .ok (.istore_n 1, 1) := by decide +kernel
theorem dX5_readDigits_52 : decode cX5_readDigits 52 = .ok (.aload_n 0, 1) := by decide +kernel
theorem dX5_readDigits_53 : decode cX5_readDigits 53 = .ok (.getfield 24, 3) := by decide +kernel
theorem dX5_readDigits_56 : decode cX5_readDigits 56 = .ok (.aload_n 0, 1) := by decide +kernel
theorem dX5_readDigits_57 : decode cX5_readDigits 57 = .ok (.getfield 37, 3) := by decide +kernel
theorem dX5_readDigits_60 : decode cX5_readDigits 60 = .ok (.if_icmp .le 14, 3) := by decide +kernel
theorem dX5_readDigits_63 : decode cX5_readDigits 63 = .ok (.aload_n 0, 1) := by decide +kernel
theorem dX5_readDigits_64 : decode cX5_readDigits 64 = .ok (.getfield 67, 3) := by decide +kernel
theorem dX5_readDigits_67 : decode cX5_readDigits 67 = .ok (.ifCond .ne 7, 3) := by decide +kernel
theorem dX5_readDigits_70 : decode cX5_readDigits 70 = .ok (.iconst 1, 1) := by decide +kernel
theorem dX5_readDigits_71 : decode cX5_readDigits 71 = .ok (.goto 4, 3) := by decide +kernel
theorem dX5_readDigits_74 : decode cX5_readDigits 74 = .ok (.iconst 0, 1) := by decide +kernel
theorem dX5_readDigits_75 : decode cX5_readDigits 75 = .ok (.istore_n 2, 1) := by decide +kernel
theorem dX5_readDigits_76 : decode cX5_readDigits 76 = .ok (.iload_n 1, 1) := by decide +kernel
theorem dX5_readDigits_77 : decode cX5_readDigits 77 = .ok (.ifCond .ne 15, 3) := by decide +kernel
theorem dX5_readDigits_80 : decode cX5_readDigits 80 = .ok (.iload_n 2, 1) := by decide +kernel
theorem dX5_readDigits_81 : decode cX5_readDigits 81 = .ok (.ifCond .ne 11, 3) := by decide +kernel
theorem dX5_readDigits_84 : decode cX5_readDigits 84 = .ok (.aload_n 0, 1) := by decide +kernel
theorem dX5_readDigits_85 : decode cX5_readDigits 85 = .ok (.getfield 67, 3) := by decide +kernel
theorem dX5_readDigits_88 : decode cX5_readDigits 88 = .ok (.iconst (-1), 1) := by decide +kernel
theorem dX5_readDigits_89 : decode cX5_readDigits 89 = .ok (.if_icmp .ne 11, 3) := by decide +kernel
theorem dX5_readDigits_92 : decode cX5_readDigits 92 = .ok (.aload_n 0, 1) := by decide +kernel
theorem dX5_readDigits_93 : decode cX5_readDigits 93 = .ok (.iconst (-1), 1) := by decide +kernel
theorem dX5_readDigits_94 : decode cX5_readDigits 94 = .ok (.putfield 67, 3) := by decide +kernel
theorem dX5_readDigits_97 : decode cX5_readDigits 97 = .ok (.goto 27, 3) := by decide +kernel
theorem dX5_readDigits_100 : decode cX5_readDigits 100 = .ok (.aload_n 0, 1) := by decide +kernel
theorem dX5_readDigits_101 : decode cX5_readDigits 101 = .ok (.bipush 10, 2) := by decide +kernel
theorem dX5_readDigits_103 : decode cX5_readDigits 103 = .ok (.aload_n 0, 1) := by decide +kernel
theorem dX5_readDigits_104 : decode cX5_readDigits 104 = .ok (.getfield 67, 3) := by decide +kernel
theorem dX5_readDigits_107 : decode cX5_readDigits 107 = .ok (.imul, 1) := by decide +kernel
theorem dX5_readDigits_108 : decode cX5_readDigits 108 = .ok (.aload_n 0, 1) := by decide +kernel
theorem dX5_readDigits_109 : decode cX5_readDigits 109 = .ok (.getfield 9, 3) := by decide +kernel
theorem dX5_readDigits_112 : decode cX5_readDigits 112 = .ok (.aload_n 0, 1) := by decide +kernel
theorem dX5_readDigits_113 : decode cX5_readDigits 113 = .ok (.getfield 24, 3) := by decide +kernel
theorem dX5_readDigits_116 : decode cX5_readDigits 116 = .ok (.iaload, 1) := by decide +kernel
theorem dX5_readDigits_117 : decode cX5_readDigits 117 = .ok (.iadd, 1) := by decide +kernel
theorem dX5_readDigits_118 : decode cX5_readDigits 118 = .ok (.bipush 48, 2) := by decide +kernel
theorem dX5_readDigits_120 : decode cX5_readDigits 120 = .ok (.isub, 1) := by decide +kernel
theorem dX5_readDigits_121 : decode cX5_readDigits 121 = .ok (.putfield 67, 3) := by decide +kernel
theorem dX5_readDigits_124 : decode cX5_readDigits 124 = .ok (.aload_n 0, 1) := by decide +kernel
theorem dX5_readDigits_125 : decode cX5_readDigits 125 = .ok (.dup, 1) := by decide +kernel
theorem dX5_readDigits_126 : decode cX5_readDigits 126 = .ok (.getfield 24, 3) := by decide +kernel
theorem dX5_readDigits_129 : decode cX5_readDigits 129 = .ok (.iconst 1, 1) := by decide +kernel
theorem dX5_readDigits_130 : decode cX5_readDigits 130 = .ok (.iadd, 1) := by decide +kernel
theorem dX5_readDigits_131 : decode cX5_readDigits 131 = .ok (.putfield 24, 3) := by decide +kernel
theorem dX5_readDigits_134 : decode cX5_readDigits 134 = .ok (.goto (-123), 3) := by decide +kernel
theorem dX5_readDigits_137 : decode cX5_readDigits 137 = .ok (.return_, 1) := by decide +kernel
theorem dX5_isDigitAt_0 : decode cX5_isDigitAt 0 = .ok (.aload_n 0, 1) := by decide +kernel
theorem dX5_isDigitAt_1 : decode cX5_isDigitAt 1 = .ok (.getfield 9, 3) := by decide +kernel
theorem dX5_isDigitAt_4 : decode cX5_isDigitAt 4 = .ok (.iload_n 1, 1) := by decide +kernel
theorem dX5_isDigitAt_5 : decode cX5_isDigitAt 5 = .ok (.iaload, 1) := by decide +kernel
theorem dX5_isDigitAt_6 : decode cX5_isDigitAt 6 = .ok (.bipush 48, 2) := by decide +kernel
theorem dX5_isDigitAt_8 : decode cX5_isDigitAt 8 = .ok (.if_icmp .lt 18, 3) := by decide +kernel
theorem dX5_isDigitAt_11 : decode cX5_isDigitAt 11 = .ok (.aload_n 0, 1) := by decide +kernel
theorem dX5_isDigitAt_12 : decode cX5_isDigitAt 12 = .ok (.getfield 9, 3) := by decide +kernel
theorem dX5_isDigitAt_15 : decode cX5_isDigitAt 15 = .ok (.iload_n 1, 1) := by decide +kernel
theorem dX5_isDigitAt_16 : decode cX5_isDigitAt 16 = .ok (.iaload, 1) := by decide +kernel
theorem dX5_isDigitAt_17 : decode cX5_isDigitAt 17 = .ok (.bipush 57, 2) := by decide +kernel
theorem dX5_isDigitAt_19 : decode cX5_isDigitAt 19 = .ok (.if_icmp .gt 7, 3) := by decide +kernel
theorem dX5_isDigitAt_22 : decode cX5_isDigitAt 22 = .ok (.iconst 1, 1) := by decide +kernel
theorem dX5_isDigitAt_23 : decode cX5_isDigitAt 23 = .ok (.goto 4, 3) := by decide +kernel
theorem dX5_isDigitAt_26 : decode cX5_isDigitAt 26 = .ok (.iconst 0, 1) := by decide +kernel
theorem dX5_isDigitAt_27 : decode cX5_isDigitAt 27 = .ok (.ireturn, 1) := by decide +kernel
theorem dX6_init_0 : decode cX6_init 0 = .ok (.aload_n 0, 1) := by decide +kernel
theorem dX6_init_1 : decode cX6_init 1 = .ok (.invokespecial 3, 3) := by decide +kernel
theorem dX6_init_4 : decode cX6_init 4 = .ok (.aload_n 0, 1) := by decide +kernel
theorem dX6_init_5 : decode cX6_init 5 = .ok (.bipush 16, 2) := by decide +kernel
theorem dX6_init_7 : decode cX6_init 7 = .ok (.newarray .int, 2) := by decide +kernel
theorem dX6_init_9 : decode cX6_init 9 = .ok (.putfield 9, 3) := by decide +kernel
theorem dX6_init_12 : decode cX6_init 12 = .ok (.aload_n 0, 1) := by decide +kernel
theorem dX6_init_13 : decode cX6_init 13 = .ok (.iconst 5, 1) := by decide +kernel
theorem dX6_init_14 : decode cX6_init 14 = .ok (.newarray .int, 2) := by decide +kernel
theorem dX6_init_16 : decode cX6_init 16 = .ok (.putfield 15, 3) := by decide +kernel
theorem dX6_init_19 : decode cX6_init 19 = .ok (.aload_n 0, 1) := by decide +kernel
theorem dX6_init_20 : decode cX6_init 20 = .ok (.iconst 5, 1) := by decide +kernel
theorem dX6_init_21 : decode cX6_init 21 = .ok (.newarray .int, 2) := by decide +kernel
theorem dX6_init_23 : decode cX6_init 23 = .ok (.putfield 18, 3) := by decide +kernel
theorem dX6_init_26 : decode cX6_init 26 = .ok (.aload_n 0, 1) := by decide +kernel
theorem dX6_init_27 : decode cX6_init 27 = .ok (.iconst 5, 1) := by decide +kernel
theorem dX6_init_28 : decode cX6_init 28 = .ok (.newarray .int, 2) := by decide +kernel
theorem dX6_init_30 : decode cX6_init 30 = .ok (.putfield 21, 3) := by decide +kernel
theorem dX6_init_33 : decode cX6_init 33 = .ok (.return_, 1) := by decide +kernel
theorem dX6_empty_0 : decode cX6_empty 0 = .ok (.aload_n 0, 1) := by decide +kernel
theorem dX6_empty_1 : decode cX6_empty 1 = .ok (.iconst 0, 1) := by decide +kernel
theorem dX6_empty_2 : decode cX6_empty 2 = .ok (.putfield 24, 3) := by decide +kernel
theorem dX6_empty_5 : decode cX6_empty 5 = .ok (.aload_n 0, 1) := by decide +kernel
theorem dX6_empty_6 : decode cX6_empty 6 = .ok (.iconst 0, 1) := by decide +kernel
theorem dX6_empty_7 : decode cX6_empty 7 = .ok (.putfield 28, 3) := by decide +kernel
theorem dX6_empty_10 : decode cX6_empty 10 = .ok (.aload_n 0, 1) := by decide +kernel
theorem dX6_empty_11 : decode cX6_empty 11 = .ok (.iconst 0, 1) := by decide +kernel
theorem dX6_empty_12 : decode cX6_empty 12 = .ok (.putfield 31, 3) := by decide +kernel
theorem dX6_empty_15 : decode cX6_empty 15 = .ok (.return_, 1) := by decide +kernel
theorem dX6_become_0 : decode cX6_become 0 = .ok (.aload_n 1, 1) := by decide +kernel
theorem dX6_become_1 : decode cX6_become 1 = .ok (.getfield 9, 3) := by decide +kernel
theorem dX6_become_4 : decode cX6_become 4 = .ok (.iconst 0, 1) := by decide +kernel
theorem dX6_become_5 : decode cX6_become 5 = .ok (.aload_n 0, 1) := by decide +kernel
theorem dX6_become_6 : decode cX6_become 6 = .ok (.getfield 9, 3) := by decide +kernel
theorem dX6_become_9 : decode cX6_become 9 = .ok (.iconst 0, 1) := by decide +kernel
theorem dX6_become_10 : decode cX6_become 10 = .ok (.bipush 16, 2) := by decide +kernel
theorem dX6_become_12 : decode cX6_become 12 = .ok (.invokestatic 34, 3) := by decide +kernel
theorem dX6_become_15 : decode cX6_become 15 = .ok (.aload_n 1, 1) := by decide +kernel
theorem dX6_become_16 : decode cX6_become 16 = .ok (.getfield 15, 3) := by decide +kernel
theorem dX6_become_19 : decode cX6_become 19 = .ok (.iconst 0, 1) := by decide +kernel
theorem dX6_become_20 : decode cX6_become 20 = .ok (.aload_n 0, 1) := by decide +kernel
theorem dX6_become_21 : decode cX6_become 21 = .ok (.getfield 15, 3) := by decide +kernel
theorem dX6_become_24 : decode cX6_become 24 = .ok (.iconst 0, 1) := by decide +kernel
theorem dX6_become_25 : decode cX6_become 25 = .ok (.iconst 5, 1) := by decide +kernel
theorem dX6_become_26 : decode cX6_become 26 = .ok (.invokestatic 34, 3) := by decide +kernel
theorem dX6_become_29 : decode cX6_become 29 = .ok (.aload_n 1, 1) := by decide +kernel
theorem dX6_become_30 : decode cX6_become 30 = .ok (.getfield 18, 3) := by decide +kernel
theorem dX6_become_33 : decode cX6_become 33 = .ok (.iconst 0, 1) := by decide +kernel
theorem dX6_become_34 : decode cX6_become 34 = .ok (.aload_n 0, 1) := by decide +kernel
theorem dX6_become_35 : decode cX6_become 35 = .ok (.getfield 18, 3) := by decide +kernel
theorem dX6_become_38 : decode cX6_become 38 = .ok (.iconst 0, 1) := by decide +kernel
theorem dX6_become_39 : decode cX6_become 39 = .ok (.iconst 5, 1) := by decide +kernel
theorem dX6_become_40 : decode cX6_become 40 = .ok (.invokestatic 34, 3) := by decide +kernel
theorem dX6_become_43 : decode cX6_become 43 = .ok (.aload_n 1, 1) := by decide +kernel
theorem dX6_become_44 : decode cX6_become 44 = .ok (.getfield 21, 3) := by decide +kernel
theorem dX6_become_47 : decode cX6_become 47 = .ok (.iconst 0, 1) := by decide +kernel
theorem dX6_become_48 : decode cX6_become 48 = .ok (.aload_n 0, 1) := by decide +kernel
theorem dX6_become_49 : decode cX6_become 49 = .ok (.getfield 21, 3) := by decide +kernel
theorem dX6_become_52 : decode cX6_become 52 = .ok (.iconst 0, 1) := by decide +kernel
theorem dX6_become_53 : decode cX6_become 53 = .ok (.iconst 5, 1) := by decide +kernel
theorem dX6_become_54 : decode cX6_become 54 = .ok (.invokestatic 34, 3) := by decide +kernel
theorem dX6_become_57 : decode cX6_become 57 = .ok (.aload_n 0, 1) := by decide +kernel
theorem dX6_become_58 : decode cX6_become 58 = .ok (.aload_n 1, 1) := by decide +kernel
theorem dX6_become_59 : decode cX6_become 59 = .ok (.getfield 24, 3) := by decide +kernel
theorem dX6_become_62 : decode cX6_become 62 = .ok (.putfield 24, 3) := by decide +kernel
theorem dX6_become_65 : decode cX6_become 65 = .ok (.aload_n 0, 1) := by decide +kernel
theorem dX6_become_66 : decode cX6_become 66 = .ok (.aload_n 1, 1) := by decide +kernel
theorem dX6_become_67 : decode cX6_become 67 = .ok (.getfield 28, 3) := by decide +kernel
theorem dX6_become_70 : decode cX6_become 70 = .ok (.putfield 28, 3) := by decide +kernel
theorem dX6_become_73 : decode cX6_become 73 = .ok (.aload_n 0, 1) := by decide +kernel
theorem dX6_become_74 : decode cX6_become 74 = .ok (.aload_n 1, 1) := by decide +kernel
theorem dX6_become_75 : decode cX6_become 75 = .ok (.getfield 31, 3) := by decide +kernel
theorem dX6_become_78 : decode cX6_become 78 = .ok (.putfield 31, 3) := by decide +kernel
theorem dX6_become_81 : decode cX6_become 81 = .ok (.return_, 1) := by decide +kernel
theorem dX6_hasRace_0 : decode cX6_hasRace 0 = .ok (.aload_n 0, 1) := by decide +kernel
theorem dX6_hasRace_1 : decode cX6_hasRace 1 = .ok (.getfield 24, 3) := by decide +kernel
theorem dX6_hasRace_4 : decode cX6_hasRace 4 = .ok (.ifCond .le 14, 3) := by decide +kernel
theorem dX6_hasRace_7 : decode cX6_hasRace 7 = .ok (.aload_n 0, 1) := by decide +kernel
theorem dX6_hasRace_8 : decode cX6_hasRace 8 = .ok (.getfield 28, 3) := by decide +kernel
theorem dX6_hasRace_11 : decode cX6_hasRace 11 = .ok (.ifCond .le 7, 3) := by decide +kernel
theorem dX6_hasRace_14 : decode cX6_hasRace 14 = .ok (.iconst 1, 1) := by decide +kernel
theorem dX6_hasRace_15 : decode cX6_hasRace 15 = .ok (.goto 4, 3) := by decide +kernel
theorem dX6_hasRace_18 : decode cX6_hasRace 18 = .ok (.iconst 0, 1) := by decide +kernel
theorem dX6_hasRace_19 : decode cX6_hasRace 19 = .ok (.ireturn, 1) := by decide +kernel
theorem dX6_addCell_0 : decode cX6_addCell 0 = .ok (.aload_n 0, 1) := by decide +kernel
theorem dX6_addCell_1 : decode cX6_addCell 1 = .ok (.getfield 24, 3) := by decide +kernel
theorem dX6_addCell_4 : decode cX6_addCell 4 = .ok (.bipush 16, 2) := by decide +kernel
theorem dX6_addCell_6 : decode cX6_addCell 6 = .ok (.if_icmp .lt 4, 3) := by decide +kernel
theorem dX6_addCell_9 : decode cX6_addCell 9 = .ok (.return_, 1) := by decide +kernel
theorem dX6_addCell_10 : decode cX6_addCell 10 = .ok (.aload_n 0, 1) := by decide +kernel
theorem dX6_addCell_11 : decode cX6_addCell 11 = .ok (.getfield 9, 3) := by decide +kernel
theorem dX6_addCell_14 : decode cX6_addCell 14 = .ok (.aload_n 0, 1) := by decide +kernel
theorem dX6_addCell_15 : decode cX6_addCell 15 = .ok (.getfield 24, 3) := by decide +kernel
theorem dX6_addCell_18 : decode cX6_addCell 18 = .ok (.iload_n 1, 1) := by decide +kernel
theorem dX6_addCell_19 : decode cX6_addCell 19 = .ok (.iastore, 1) := by decide +kernel
theorem dX6_addCell_20 : decode cX6_addCell 20 = .ok (.aload_n 0, 1) := by decide +kernel
theorem dX6_addCell_21 : decode cX6_addCell 21 = .ok (.dup, 1) := by decide +kernel
theorem dX6_addCell_22 : decode cX6_addCell 22 = .ok (.getfield 24, 3) := by decide +kernel
theorem dX6_addCell_25 : decode cX6_addCell 25 = .ok (.iconst 1, 1) := by decide +kernel
theorem dX6_addCell_26 : decode cX6_addCell 26 = .ok (.iadd, 1) := by decide +kernel
theorem dX6_addCell_27 : decode cX6_addCell 27 = .ok (.putfield 24, 3) := by decide +kernel
theorem dX6_addCell_30 : decode cX6_addCell 30 = .ok (.aload_n 0, 1) := by decide +kernel
theorem dX6_addCell_31 : decode cX6_addCell 31 = .ok (.dup, 1) := by decide +kernel
theorem dX6_addCell_32 : decode cX6_addCell 32 = .ok (.getfield 31, 3) := by decide +kernel
theorem dX6_addCell_35 : decode cX6_addCell 35 = .ok (.iload_n 1, 1) := by decide +kernel
theorem dX6_addCell_36 : decode cX6_addCell 36 = .ok (.iadd, 1) := by decide +kernel
theorem dX6_addCell_37 : decode cX6_addCell 37 = .ok (.putfield 31, 3) := by decide +kernel
theorem dX6_addCell_40 : decode cX6_addCell 40 = .ok (.return_, 1) := by decide +kernel
theorem dX6_addChair_0 : decode cX6_addChair 0 = .ok (.aload_n 0, 1) := by decide +kernel
theorem dX6_addChair_1 : decode cX6_addChair 1 = .ok (.getfield 28, 3) := by decide +kernel
theorem dX6_addChair_4 : decode cX6_addChair 4 = .ok (.iconst 5, 1) := by decide +kernel
theorem dX6_addChair_5 : decode cX6_addChair 5 = .ok (.if_icmp .lt 4, 3) := by decide +kernel
theorem dX6_addChair_8 : decode cX6_addChair 8 = .ok (.return_, 1) := by decide +kernel
theorem dX6_addChair_9 : decode cX6_addChair 9 = .ok (.aload_n 0, 1) := by decide +kernel
theorem dX6_addChair_10 : decode cX6_addChair 10 = .ok (.getfield 15, 3) := by decide +kernel
theorem dX6_addChair_13 : decode cX6_addChair 13 = .ok (.aload_n 0, 1) := by decide +kernel
theorem dX6_addChair_14 : decode cX6_addChair 14 = .ok (.getfield 28, 3) := by decide +kernel
theorem dX6_addChair_17 : decode cX6_addChair 17 = .ok (.iload_n 1, 1) := by decide +kernel
theorem dX6_addChair_18 : decode cX6_addChair 18 = .ok (.iastore, 1) := by decide +kernel
theorem dX6_addChair_19 : decode cX6_addChair 19 = .ok (.aload_n 0, 1) := by decide +kernel
theorem dX6_addChair_20 : decode cX6_addChair 20 = .ok (.getfield 18, 3) := by decide +kernel
theorem dX6_addChair_23 : decode cX6_addChair 23 = .ok (.aload_n 0, 1) := by decide +kernel
theorem dX6_addChair_24 : decode cX6_addChair 24 = .ok (.getfield 28, 3) := by decide +kernel
theorem dX6_addChair_27 : decode cX6_addChair 27 = .ok (.iload_n 2, 1) := by decide +kernel
theorem dX6_addChair_28 : decode cX6_addChair 28 = .ok (.iastore, 1) := by decide +kernel
theorem dX6_addChair_29 : decode cX6_addChair 29 = .ok (.aload_n 0, 1) := by decide +kernel
theorem dX6_addChair_30 : decode cX6_addChair 30 = .ok (.getfield 21, 3) := by decide +kernel
theorem dX6_addChair_33 : decode cX6_addChair 33 = .ok (.aload_n 0, 1) := by decide +kernel
theorem dX6_addChair_34 : decode cX6_addChair 34 = .ok (.getfield 28, 3) := by decide +kernel
theorem dX6_addChair_37 : decode cX6_addChair 37 = .ok (.iconst 5, 1) := by decide +kernel
theorem dX6_addChair_38 : decode cX6_addChair 38 = .ok (.iastore, 1) := by decide +kernel
theorem dX6_addChair_39 : decode cX6_addChair 39 = .ok (.aload_n 0, 1) := by decide +kernel
theorem dX6_addChair_40 : decode cX6_addChair 40 = .ok (.dup, 1) := by decide +kernel
theorem dX6_addChair_41 : decode cX6_addChair 41 = .ok (.getfield 28, 3) := by decide +kernel
theorem dX6_addChair_44 : decode cX6_addChair 44 = .ok (.iconst 1, 1) := by decide +kernel
theorem dX6_addChair_45 : decode cX6_addChair 45 = .ok (.iadd, 1) := by decide +kernel
theorem dX6_addChair_46 : decode cX6_addChair 46 = .ok (.putfield 28, 3) := by decide +kernel
theorem dX6_addChair_49 : decode cX6_addChair 49 = .ok (.return_, 1) := by decide +kernel
theorem dX6_strengthOf_0 : decode cX6_strengthOf 0 = .ok (.iload_n 1, 1) := by decide +kernel
theorem dX6_strengthOf_1 : decode cX6_strengthOf 1 = .ok (.ifCond .lt 20, 3) := by decide +kernel
theorem dX6_strengthOf_4 : decode cX6_strengthOf 4 = .ok (.iload_n 1, 1) := by decide +kernel
theorem dX6_strengthOf_5 : decode cX6_strengthOf 5 = .ok (.aload_n 0, 1) := by decide +kernel
theorem dX6_strengthOf_6 : decode cX6_strengthOf 6 = .ok (.getfield 28, 3) := by decide +kernel
theorem dX6_strengthOf_9 : decode cX6_strengthOf 9 = .ok (.if_icmp .ge 12, 3) := by decide +kernel
theorem dX6_strengthOf_12 : decode cX6_strengthOf 12 = .ok (.aload_n 0, 1) := by decide +kernel
theorem dX6_strengthOf_13 : decode cX6_strengthOf 13 = .ok (.getfield 21, 3) := by decide +kernel
theorem dX6_strengthOf_16 : decode cX6_strengthOf 16 = .ok (.iload_n 1, 1) := by decide +kernel
theorem dX6_strengthOf_17 : decode cX6_strengthOf 17 = .ok (.iaload, 1) := by decide +kernel
theorem dX6_strengthOf_18 : decode cX6_strengthOf 18 = .ok (.goto 4, 3) := by decide +kernel
theorem dX6_strengthOf_21 : decode cX6_strengthOf 21 = .ok (.iconst 5, 1) := by decide +kernel
theorem dX6_strengthOf_22 : decode cX6_strengthOf 22 = .ok (.ireturn, 1) := by decide +kernel
theorem dX6_gainBy_0 : decode cX6_gainBy 0 = .ok (.iconst 1, 1) := by decide +kernel
theorem dX6_gainBy_1 : decode cX6_gainBy 1 = .ok (.iconst 2, 1) := by decide +kernel
theorem dX6_gainBy_2 : decode cX6_gainBy 2 = .ok (.iload_n 2, 1) := by decide +kernel
theorem dX6_gainBy_3 : decode cX6_gainBy 3 = .ok (.imul, 1) := by decide +kernel
theorem dX6_gainBy_4 : decode cX6_gainBy 4 = .ok (.aload_n 0, 1) := by decide +kernel
theorem dX6_gainBy_5 : decode cX6_gainBy 5 = .ok (.getfield 15, 3) := by decide +kernel
theorem dX6_gainBy_8 : decode cX6_gainBy 8 = .ok (.iload_n 1, 1) := by decide +kernel
theorem dX6_gainBy_9 : decode cX6_gainBy 9 = .ok (.iaload, 1) := by decide +kernel
theorem dX6_gainBy_10 : decode cX6_gainBy 10 = .ok (.isub, 1) := by decide +kernel
theorem dX6_gainBy_11 : decode cX6_gainBy 11 = .ok (.invokestatic 40, 3) := by decide +kernel
theorem dX6_gainBy_14 : decode cX6_gainBy 14 = .ok (.istore 4, 2) := by decide +kernel
theorem dX6_gainBy_16 : decode cX6_gainBy 16 = .ok (.iload_n 3, 1) := by decide +kernel
theorem dX6_gainBy_17 : decode cX6_gainBy 17 = .ok (.ifCond .eq 10, 3) := by decide +kernel
theorem dX6_gainBy_20 : decode cX6_gainBy 20 = .ok (.iload 4, 2) := by decide +kernel
theorem dX6_gainBy_22 : decode cX6_gainBy 22 = .ok (.iconst 3, 1) := by decide +kernel
theorem dX6_gainBy_23 : decode cX6_gainBy 23 = .ok (.iadd, 1) := by decide +kernel
theorem dX6_gainBy_24 : decode cX6_gainBy 24 = .ok (.goto 5, 3) := by decide +kernel
theorem dX6_gainBy_27 : decode cX6_gainBy 27 = .ok (.iload 4, 2) := by decide +kernel
theorem dX6_gainBy_29 : decode cX6_gainBy 29 = .ok (.ireturn, 1) := by decide +kernel
theorem dX6_minutesBy_0 : decode cX6_minutesBy 0 = .ok (.iload_n 1, 1) := by decide +kernel
theorem dX6_minutesBy_1 : decode cX6_minutesBy 1 = .ok (.iconst 1, 1) := by decide +kernel
theorem dX6_minutesBy_2 : decode cX6_minutesBy 2 = .ok (.if_icmp .ge 7, 3) := by decide +kernel
theorem dX6_minutesBy_5 : decode cX6_minutesBy 5 = .ok (.iconst 0, 1) := by decide +kernel
theorem dX6_minutesBy_6 : decode cX6_minutesBy 6 = .ok (.goto 13, 3) := by decide +kernel
theorem dX6_minutesBy_9 : decode cX6_minutesBy 9 = .ok (.aload_n 0, 1) := by decide +kernel
theorem dX6_minutesBy_10 : decode cX6_minutesBy 10 = .ok (.getfield 31, 3) := by decide +kernel
theorem dX6_minutesBy_13 : decode cX6_minutesBy 13 = .ok (.iload_n 1, 1) := by decide +kernel
theorem dX6_minutesBy_14 : decode cX6_minutesBy 14 = .ok (.iadd, 1) := by decide +kernel
theorem dX6_minutesBy_15 : decode cX6_minutesBy 15 = .ok (.iconst 1, 1) := by decide +kernel
theorem dX6_minutesBy_16 : decode cX6_minutesBy 16 = .ok (.isub, 1) := by decide +kernel
theorem dX6_minutesBy_17 : decode cX6_minutesBy 17 = .ok (.iload_n 1, 1) := by decide +kernel
theorem dX6_minutesBy_18 : decode cX6_minutesBy 18 = .ok (.idiv, 1) := by decide +kernel
theorem dX6_minutesBy_19 : decode cX6_minutesBy 19 = .ok (.ireturn, 1) := by decide +kernel
theorem dX7_init_0 : decode cX7_init 0 = .ok (.aload_n 0, 1) := by decide +kernel
theorem dX7_init_1 : decode cX7_init 1 = .ok (.invokespecial 3, 3) := by decide +kernel
theorem dX7_init_4 : decode cX7_init 4 = .ok (.aload_n 0, 1) := by decide +kernel
theorem dX7_init_5 : decode cX7_init 5 = .ok (.bipush 6, 2) := by decide +kernel
theorem dX7_init_7 : decode cX7_init 7 = .ok (.newarray .int, 2) := by decide +kernel
theorem dX7_init_9 : decode cX7_init 9 = .ok (.putfield 9, 3) := by decide +kernel
theorem dX7_init_12 : decode cX7_init 12 = .ok (.aload_n 0, 1) := by decide +kernel
theorem dX7_init_13 : decode cX7_init 13 = .ok (.bipush 6, 2) := by decide +kernel
theorem dX7_init_15 : decode cX7_init 15 = .ok (.newarray .int, 2) := by decide +kernel
theorem dX7_init_17 : decode cX7_init 17 = .ok (.putfield 15, 3) := by decide +kernel
theorem dX7_init_20 : decode cX7_init 20 = .ok (.return_, 1) := by decide +kernel
theorem dX7_note_0 : decode cX7_note 0 = .ok (.aload_n 0, 1) := by decide +kernel
theorem dX7_note_1 : decode cX7_note 1 = .ok (.getfield 18, 3) := by decide +kernel
theorem dX7_note_4 : decode cX7_note 4 = .ok (.bipush 6, 2) := by decide +kernel
theorem dX7_note_6 : decode cX7_note 6 = .ok (.if_icmp .lt 4, 3) := by decide +kernel
theorem dX7_note_9 : decode cX7_note 9 = .ok (.return_, 1) := by decide +kernel
theorem dX7_note_10 : decode cX7_note 10 = .ok (.aload_n 0, 1) := by decide +kernel
theorem dX7_note_11 : decode cX7_note 11 = .ok (.getfield 9, 3) := by decide +kernel
theorem dX7_note_14 : decode cX7_note 14 = .ok (.aload_n 0, 1) := by decide +kernel
theorem dX7_note_15 : decode cX7_note 15 = .ok (.getfield 18, 3) := by decide +kernel
theorem dX7_note_18 : decode cX7_note 18 = .ok (.iload_n 1, 1) := by decide +kernel
theorem dX7_note_19 : decode cX7_note 19 = .ok (.iastore, 1) := by decide +kernel
theorem dX7_note_20 : decode cX7_note 20 = .ok (.aload_n 0, 1) := by decide +kernel
theorem dX7_note_21 : decode cX7_note 21 = .ok (.getfield 15, 3) := by decide +kernel
theorem dX7_note_24 : decode cX7_note 24 = .ok (.aload_n 0, 1) := by decide +kernel
theorem dX7_note_25 : decode cX7_note 25 = .ok (.getfield 18, 3) := by decide +kernel
theorem dX7_note_28 : decode cX7_note 28 = .ok (.iload_n 2, 1) := by decide +kernel
theorem dX7_note_29 : decode cX7_note 29 = .ok (.iastore, 1) := by decide +kernel
theorem dX7_note_30 : decode cX7_note 30 = .ok (.aload_n 0, 1) := by decide +kernel
theorem dX7_note_31 : decode cX7_note 31 = .ok (.dup, 1) := by decide +kernel
theorem dX7_note_32 : decode cX7_note 32 = .ok (.getfield 18, 3) := by decide +kernel
theorem dX7_note_35 : decode cX7_note 35 = .ok (.iconst 1, 1) := by decide +kernel
theorem dX7_note_36 : decode cX7_note 36 = .ok (.iadd, 1) := by decide +kernel
theorem dX7_note_37 : decode cX7_note 37 = .ok (.putfield 18, 3) := by decide +kernel
theorem dX7_note_40 : decode cX7_note 40 = .ok (.return_, 1) := by decide +kernel
theorem dX7_suspects_0 : decode cX7_suspects 0 = .ok (.iconst 0, 1) := by decide +kernel
theorem dX7_suspects_1 : decode cX7_suspects 1 = .ok (.istore 4, 2) := by decide +kernel
theorem dX7_suspects_3 : decode cX7_suspects 3 = .ok (.iconst 0, 1) := by decide +kernel
theorem dX7_suspects_4 : decode cX7_suspects 4 = .ok (.istore 5, 2) := by decide +kernel
theorem dX7_suspects_6 : decode cX7_suspects 6 = .ok (.iload 5, 2) := by decide +kernel
theorem dX7_suspects_8 : decode cX7_suspects 8 = .ok (.aload_n 2, 1) := by decide +kernel
theorem dX7_suspects_9 : decode cX7_suspects 9 = .ok (.getfield 22, 3) := by decide +kernel
theorem dX7_suspects_12 : decode cX7_suspects 12 = .ok (.if_icmp .ge 47, 3) := by decide +kernel
theorem dX7_suspects_15 : decode cX7_suspects 15 = .ok (.aload_n 0, 1) := by decide +kernel
theorem dX7_suspects_16 : decode cX7_suspects 16 = .ok (.iconst 0, 1) := by decide +kernel
theorem dX7_suspects_17 : decode cX7_suspects 17 = .ok (.aload_n 2, 1) := by decide +kernel
theorem dX7_suspects_18 : decode cX7_suspects 18 = .ok (.aload_n 3, 1) := by decide +kernel
theorem dX7_suspects_19 : decode cX7_suspects 19 = .ok (.iload 5, 2) := by decide +kernel
theorem dX7_suspects_21 : decode cX7_suspects 21 = .ok (.invokevirtual 27, 3) := by decide +kernel
theorem dX7_suspects_24 : decode cX7_suspects 24 = .ok (.istore 6, 2) := by decide +kernel
theorem dX7_suspects_26 : decode cX7_suspects 26 = .ok (.iload 6, 2) := by decide +kernel
theorem dX7_suspects_28 : decode cX7_suspects 28 = .ok (.ifCond .ne 25, 3) := by decide +kernel
theorem dX7_suspects_31 : decode cX7_suspects 31 = .ok (.aload_n 0, 1) := by decide +kernel
theorem dX7_suspects_32 : decode cX7_suspects 32 = .ok (.iconst 1, 1) := by decide +kernel
theorem dX7_suspects_33 : decode cX7_suspects 33 = .ok (.aload_n 2, 1) := by decide +kernel
theorem dX7_suspects_34 : decode cX7_suspects 34 = .ok (.aload_n 3, 1) := by decide +kernel
theorem dX7_suspects_35 : decode cX7_suspects 35 = .ok (.iload 5, 2) := by decide +kernel
theorem dX7_suspects_37 : decode cX7_suspects 37 = .ok (.invokevirtual 27, 3) := by decide +kernel
theorem dX7_suspects_40 : decode cX7_suspects 40 = .ok (.iload_n 1, 1) := by decide +kernel
theorem dX7_suspects_41 : decode cX7_suspects 41 = .ok (.if_icmp .ne 12, 3) := by decide +kernel
theorem dX7_suspects_44 : decode cX7_suspects 44 = .ok (.iload 4, 2) := by decide +kernel
theorem dX7_suspects_46 : decode cX7_suspects 46 = .ok (.iconst 1, 1) := by decide +kernel
theorem dX7_suspects_47 : decode cX7_suspects 47 = .ok (.iload 5, 2) := by decide +kernel
theorem dX7_suspects_49 : decode cX7_suspects 49 = .ok (.ishl, 1) := by decide +kernel
theorem dX7_suspects_50 : decode cX7_suspects 50 = .ok (.ior, 1) := by decide +kernel
theorem dX7_suspects_51 : decode cX7_suspects 51 = .ok (.istore 4, 2) := by decide +kernel
theorem dX7_suspects_53 : decode cX7_suspects 53 = .ok (.iinc 5 1, 3) := by decide +kernel
theorem dX7_suspects_56 : decode cX7_suspects 56 = .ok (.goto (-50), 3) := by decide +kernel
theorem dX7_suspects_59 : decode cX7_suspects 59 = .ok (.iload 4, 2) := by decide +kernel
theorem dX7_suspects_61 : decode cX7_suspects 61 = .ok (.ireturn, 1) := by decide +kernel
theorem dX7_isAllAsIf_0 : decode cX7_isAllAsIf 0 = .ok (.aload_n 3, 1) := by decide +kernel
theorem dX7_isAllAsIf_1 : decode cX7_isAllAsIf 1 = .ok (.aload_n 2, 1) := by decide +kernel
theorem dX7_isAllAsIf_2 : decode cX7_isAllAsIf 2 = .ok (.iload 4, 2) := by decide +kernel
theorem dX7_isAllAsIf_4 : decode cX7_isAllAsIf 4 = .ok (.iload_n 1, 1) := by decide +kernel
theorem dX7_isAllAsIf_5 : decode cX7_isAllAsIf 5 = .ok (.invokevirtual 31, 3) := by decide +kernel
theorem dX7_isAllAsIf_8 : decode cX7_isAllAsIf 8 = .ok (.istore 5, 2) := by decide +kernel
theorem dX7_isAllAsIf_10 : decode cX7_isAllAsIf 10 = .ok (.iconst 0, 1) := by decide +kernel
theorem dX7_isAllAsIf_11 : decode cX7_isAllAsIf 11 = .ok (.istore 6, 2) := by decide +kernel
theorem dX7_isAllAsIf_13 : decode cX7_isAllAsIf 13 = .ok (.iload 6, 2) := by decide +kernel
theorem dX7_isAllAsIf_15 : decode cX7_isAllAsIf 15 = .ok (.aload_n 0, 1) := by decide +kernel
theorem dX7_isAllAsIf_16 : decode cX7_isAllAsIf 16 = .ok (.getfield 18, 3) := by decide +kernel
theorem dX7_isAllAsIf_19 : decode cX7_isAllAsIf 19 = .ok (.if_icmp .ge 35, 3) := by decide +kernel
theorem dX7_isAllAsIf_22 : decode cX7_isAllAsIf 22 = .ok (.aload_n 0, 1) := by decide +kernel
theorem dX7_isAllAsIf_23 : decode cX7_isAllAsIf 23 = .ok (.getfield 9, 3) := by decide +kernel
theorem dX7_isAllAsIf_26 : decode cX7_isAllAsIf 26 = .ok (.iload 6, 2) := by decide +kernel
theorem dX7_isAllAsIf_28 : decode cX7_isAllAsIf 28 = .ok (.iaload, 1) := by decide +kernel
theorem dX7_isAllAsIf_29 : decode cX7_isAllAsIf 29 = .ok (.iload 4, 2) := by decide +kernel
theorem dX7_isAllAsIf_31 : decode cX7_isAllAsIf 31 = .ok (.if_icmp .ne 17, 3) := by decide +kernel
theorem dX7_isAllAsIf_34 : decode cX7_isAllAsIf 34 = .ok (.aload_n 0, 1) := by decide +kernel
theorem dX7_isAllAsIf_35 : decode cX7_isAllAsIf 35 = .ok (.getfield 15, 3) := by decide +kernel
theorem dX7_isAllAsIf_38 : decode cX7_isAllAsIf 38 = .ok (.iload 6, 2) := by decide +kernel
theorem dX7_isAllAsIf_40 : decode cX7_isAllAsIf 40 = .ok (.iaload, 1) := by decide +kernel
theorem dX7_isAllAsIf_41 : decode cX7_isAllAsIf 41 = .ok (.iload 5, 2) := by decide +kernel
theorem dX7_isAllAsIf_43 : decode cX7_isAllAsIf 43 = .ok (.if_icmp .eq 5, 3) := by decide +kernel
theorem dX7_isAllAsIf_46 : decode cX7_isAllAsIf 46 = .ok (.iconst 0, 1) := by decide +kernel
theorem dX7_isAllAsIf_47 : decode cX7_isAllAsIf 47 = .ok (.ireturn, 1) := by decide +kernel
theorem dX7_isAllAsIf_48 : decode cX7_isAllAsIf 48 = .ok (.iinc 6 1, 3) := by decide +kernel
theorem dX7_isAllAsIf_51 : decode cX7_isAllAsIf 51 = .ok (.goto (-38), 3) := by decide +kernel
theorem dX7_isAllAsIf_54 : decode cX7_isAllAsIf 54 = .ok (.iconst 1, 1) := by decide +kernel
theorem dX7_isAllAsIf_55 : decode cX7_isAllAsIf 55 = .ok (.ireturn, 1) := by decide +kernel
theorem dX8_init_0 : decode cX8_init 0 = .ok (.aload_n 0, 1) := by decide +kernel
theorem dX8_init_1 : decode cX8_init 1 = .ok (.invokespecial 1, 3) := by decide +kernel
theorem dX8_init_4 : decode cX8_init 4 = .ok (.aload_n 0, 1) := by decide +kernel
theorem dX8_init_5 : decode cX8_init 5 = .ok (.new 7, 3) := by decide +kernel
theorem dX8_init_8 : decode cX8_init 8 = .ok (.dup, 1) := by decide +kernel
theorem dX8_init_9 : decode cX8_init 9 = .ok (.invokespecial 9, 3) := by decide +kernel
theorem dX8_init_12 : decode cX8_init 12 = .ok (.putfield 10, 3) := by decide +kernel
theorem dX8_init_15 : decode cX8_init 15 = .ok (.aload_n 0, 1) := by decide +kernel
theorem dX8_init_16 : decode cX8_init 16 = .ok (.new 16, 3) := by decide +kernel
theorem dX8_init_19 : decode cX8_init 19 = .ok (.dup, 1) := by decide +kernel
theorem dX8_init_20 : decode cX8_init 20 = .ok (.invokespecial 18, 3) := by decide +kernel
theorem dX8_init_23 : decode cX8_init 23 = .ok (.putfield 19, 3) := by decide +kernel
theorem dX8_init_26 : decode cX8_init 26 = .ok (.aload_n 0, 1) := by decide +kernel
theorem dX8_init_27 : decode cX8_init 27 = .ok (.new 16, 3) := by decide +kernel
theorem dX8_init_30 : decode cX8_init 30 = .ok (.dup, 1) := by decide +kernel
theorem dX8_init_31 : decode cX8_init 31 = .ok (.invokespecial 18, 3) := by decide +kernel
theorem dX8_init_34 : decode cX8_init 34 = .ok (.putfield 23, 3) := by decide +kernel
theorem dX8_init_37 : decode cX8_init 37 = .ok (.aload_n 0, 1) := by decide +kernel
theorem dX8_init_38 : decode cX8_init 38 = .ok (.new 26, 3) := by decide +kernel
theorem dX8_init_41 : decode cX8_init 41 = .ok (.dup, 1) := by decide +kernel
theorem dX8_init_42 : decode cX8_init 42 = .ok (.invokespecial 28, 3) := by decide +kernel
theorem dX8_init_45 : decode cX8_init 45 = .ok (.putfield 29, 3) := by decide +kernel
theorem dX8_init_48 : decode cX8_init 48 = .ok (.aload_n 0, 1) := by decide +kernel
theorem dX8_init_49 : decode cX8_init 49 = .ok (.new 26, 3) := by decide +kernel
theorem dX8_init_52 : decode cX8_init 52 = .ok (.dup, 1) := by decide +kernel
theorem dX8_init_53 : decode cX8_init 53 = .ok (.invokespecial 28, 3) := by decide +kernel
theorem dX8_init_56 : decode cX8_init 56 = .ok (.putfield 33, 3) := by decide +kernel
theorem dX8_init_59 : decode cX8_init 59 = .ok (.aload_n 0, 1) := by decide +kernel
theorem dX8_init_60 : decode cX8_init 60 = .ok (.new 26, 3) := by decide +kernel
theorem dX8_init_63 : decode cX8_init 63 = .ok (.dup, 1) := by decide +kernel
theorem dX8_init_64 : decode cX8_init 64 = .ok (.invokespecial 28, 3) := by decide +kernel
theorem dX8_init_67 : decode cX8_init 67 = .ok (.putfield 36, 3) := by decide +kernel
theorem dX8_init_70 : decode cX8_init 70 = .ok (.aload_n 0, 1) := by decide +kernel
theorem dX8_init_71 : decode cX8_init 71 = .ok (.new 39, 3) := by decide +kernel
theorem dX8_init_74 : decode cX8_init 74 = .ok (.dup, 1) := by decide +kernel
theorem dX8_init_75 : decode cX8_init 75 = .ok (.invokespecial 41, 3) := by decide +kernel
theorem dX8_init_78 : decode cX8_init 78 = .ok (.putfield 42, 3) := by decide +kernel
theorem dX8_init_81 : decode cX8_init 81 = .ok (.aload_n 0, 1) := by decide +kernel
theorem dX8_init_82 : decode cX8_init 82 = .ok (.new 46, 3) := by decide +kernel
theorem dX8_init_85 : decode cX8_init 85 = .ok (.dup, 1) := by decide +kernel
theorem dX8_init_86 : decode cX8_init 86 = .ok (.invokespecial 48, 3) := by decide +kernel
theorem dX8_init_89 : decode cX8_init 89 = .ok (.putfield 49, 3) := by decide +kernel
theorem dX8_init_92 : decode cX8_init 92 = .ok (.aload_n 0, 1) := by decide +kernel
theorem dX8_init_93 : decode cX8_init 93 = .ok (.new 53, 3) := by decide +kernel
theorem dX8_init_96 : decode cX8_init 96 = .ok (.dup, 1) := by decide +kernel
theorem dX8_init_97 : decode cX8_init 97 = .ok (.aload_n 0, 1) := by decide +kernel
theorem dX8_init_98 : decode cX8_init 98 = .ok (.getfield 19, 3) := by decide +kernel
theorem dX8_init_101 : decode cX8_init 101 = .ok (.aload_n 0, 1) := by decide +kernel
theorem dX8_init_102 : decode cX8_init 102 = .ok (.getfield 29, 3) := by decide +kernel
theorem dX8_init_105 : decode cX8_init 105 = .ok (.invokespecial 55, 3) := by decide +kernel
theorem dX8_init_108 : decode cX8_init 108 = .ok (.putfield 58, 3) := by decide +kernel
theorem dX8_init_111 : decode cX8_init 111 = .ok (.aload_n 0, 1) := by decide +kernel
theorem dX8_init_112 : decode cX8_init 112 = .ok (.new 62, 3) := by decide +kernel
theorem dX8_init_115 : decode cX8_init 115 = .ok (.dup, 1) := by decide +kernel
theorem dX8_init_116 : decode cX8_init 116 = .ok (.aload_n 0, 1) := by decide +kernel
theorem dX8_init_117 : decode cX8_init 117 = .ok (.getfield 19, 3) := by decide +kernel
theorem dX8_init_120 : decode cX8_init 120 = .ok (.aload_n 0, 1) := by decide +kernel
theorem dX8_init_121 : decode cX8_init 121 = .ok (.getfield 29, 3) := by decide +kernel
theorem dX8_init_124 : decode cX8_init 124 = .ok (.invokespecial 64, 3) := by decide +kernel
theorem dX8_init_127 : decode cX8_init 127 = .ok (.putfield 65, 3) := by decide +kernel
theorem dX8_init_130 : decode cX8_init 130 = .ok (.return_, 1) := by decide +kernel
theorem dX8_type_0 : decode cX8_type 0 = .ok (.iload_n 1, 1) := by decide +kernel
theorem dX8_type_1 : decode cX8_type 1 = .ok (.ifCond .lt 10, 3) := by decide +kernel
theorem dX8_type_4 : decode cX8_type 4 = .ok (.iload_n 1, 1) := by decide +kernel
theorem dX8_type_5 : decode cX8_type 5 = .ok (.sipush 255, 3) := by decide +kernel
theorem dX8_type_8 : decode cX8_type 8 = .ok (.if_icmp .le 5, 3) := by decide +kernel
theorem dX8_type_11 : decode cX8_type 11 = .ok (.iconst (-1), 1) := by decide +kernel
theorem dX8_type_12 : decode cX8_type 12 = .ok (.ireturn, 1) := by decide +kernel
theorem dX8_type_13 : decode cX8_type 13 = .ok (.aload_n 0, 1) := by decide +kernel
theorem dX8_type_14 : decode cX8_type 14 = .ok (.getfield 10, 3) := by decide +kernel
theorem dX8_type_17 : decode cX8_type 17 = .ok (.getfield 69, 3) := by decide +kernel
theorem dX8_type_20 : decode cX8_type 20 = .ok (.bipush 120, 2) := by decide +kernel
theorem dX8_type_22 : decode cX8_type 22 = .ok (.if_icmp .lt 6, 3) := by decide +kernel
theorem dX8_type_25 : decode cX8_type 25 = .ok (.bipush (-3), 2) := by decide +kernel
theorem dX8_type_27 : decode cX8_type 27 = .ok (.ireturn, 1) := by decide +kernel
theorem dX8_type_28 : decode cX8_type 28 = .ok (.aload_n 0, 1) := by decide +kernel
theorem dX8_type_29 : decode cX8_type 29 = .ok (.getfield 10, 3) := by decide +kernel
theorem dX8_type_32 : decode cX8_type 32 = .ok (.iload_n 1, 1) := by decide +kernel
theorem dX8_type_33 : decode cX8_type 33 = .ok (.invokevirtual 73, 3) := by decide +kernel
theorem dX8_type_36 : decode cX8_type 36 = .ok (.aload_n 0, 1) := by decide +kernel
theorem dX8_type_37 : decode cX8_type 37 = .ok (.getfield 10, 3) := by decide +kernel
theorem dX8_type_40 : decode cX8_type 40 = .ok (.getfield 69, 3) := by decide +kernel
theorem dX8_type_43 : decode cX8_type 43 = .ok (.ireturn, 1) := by decide +kernel
theorem dX8_clear_0 : decode cX8_clear 0 = .ok (.aload_n 0, 1) := by decide +kernel
theorem dX8_clear_1 : decode cX8_clear 1 = .ok (.getfield 10, 3) := by decide +kernel
theorem dX8_clear_4 : decode cX8_clear 4 = .ok (.getfield 69, 3) := by decide +kernel
theorem dX8_clear_7 : decode cX8_clear 7 = .ok (.istore_n 1, 1) := by decide +kernel
theorem dX8_clear_8 : decode cX8_clear 8 = .ok (.aload_n 0, 1) := by decide +kernel
theorem dX8_clear_9 : decode cX8_clear 9 = .ok (.getfield 10, 3) := by decide +kernel
theorem dX8_clear_12 : decode cX8_clear 12 = .ok (.iconst 0, 1) := by decide +kernel
theorem dX8_clear_13 : decode cX8_clear 13 = .ok (.putfield 69, 3) := by decide +kernel
theorem dX8_clear_16 : decode cX8_clear 16 = .ok (.iload_n 1, 1) := by decide +kernel
theorem dX8_clear_17 : decode cX8_clear 17 = .ok (.ireturn, 1) := by decide +kernel
theorem dX8_spa_0 : decode cX8_spa 0 = .ok (.aload_n 0, 1) := by decide +kernel
theorem dX8_spa_1 : decode cX8_spa 1 = .ok (.getfield 10, 3) := by decide +kernel
theorem dX8_spa_4 : decode cX8_spa 4 = .ok (.aload_n 0, 1) := by decide +kernel
theorem dX8_spa_5 : decode cX8_spa 5 = .ok (.getfield 23, 3) := by decide +kernel
theorem dX8_spa_8 : decode cX8_spa 8 = .ok (.invokevirtual 77, 3) := by decide +kernel
theorem dX8_spa_11 : decode cX8_spa 11 = .ok (.istore_n 1, 1) := by decide +kernel
theorem dX8_spa_12 : decode cX8_spa 12 = .ok (.iload_n 1, 1) := by decide +kernel
theorem dX8_spa_13 : decode cX8_spa 13 = .ok (.ifCond .ge 5, 3) := by decide +kernel
theorem dX8_spa_16 : decode cX8_spa 16 = .ok (.iload_n 1, 1) := by decide +kernel
theorem dX8_spa_17 : decode cX8_spa 17 = .ok (.ireturn, 1) := by decide +kernel
theorem dX8_spa_18 : decode cX8_spa 18 = .ok (.aload_n 0, 1) := by decide +kernel
theorem dX8_spa_19 : decode cX8_spa 19 = .ok (.getfield 19, 3) := by decide +kernel
theorem dX8_spa_22 : decode cX8_spa 22 = .ok (.aload_n 0, 1) := by decide +kernel
theorem dX8_spa_23 : decode cX8_spa 23 = .ok (.getfield 23, 3) := by decide +kernel
theorem dX8_spa_26 : decode cX8_spa 26 = .ok (.invokevirtual 81, 3) := by decide +kernel
theorem dX8_spa_29 : decode cX8_spa 29 = .ok (.aload_n 0, 1) := by decide +kernel
theorem dX8_spa_30 : decode cX8_spa 30 = .ok (.getfield 29, 3) := by decide +kernel
theorem dX8_spa_33 : decode cX8_spa 33 = .ok (.invokevirtual 85, 3) := by decide +kernel
theorem dX8_spa_36 : decode cX8_spa 36 = .ok (.aload_n 0, 1) := by decide +kernel
theorem dX8_spa_37 : decode cX8_spa 37 = .ok (.getfield 42, 3) := by decide +kernel
theorem dX8_spa_40 : decode cX8_spa 40 = .ok (.iconst 0, 1) := by decide +kernel
theorem dX8_spa_41 : decode cX8_spa 41 = .ok (.putfield 88, 3) := by decide +kernel
theorem dX8_spa_44 : decode cX8_spa 44 = .ok (.aload_n 0, 1) := by decide +kernel
theorem dX8_spa_45 : decode cX8_spa 45 = .ok (.getfield 49, 3) := by decide +kernel
theorem dX8_spa_48 : decode cX8_spa 48 = .ok (.iconst 0, 1) := by decide +kernel
theorem dX8_spa_49 : decode cX8_spa 49 = .ok (.putfield 91, 3) := by decide +kernel
theorem dX8_spa_52 : decode cX8_spa 52 = .ok (.aload_n 0, 1) := by decide +kernel
theorem dX8_spa_53 : decode cX8_spa 53 = .ok (.getfield 33, 3) := by decide +kernel
theorem dX8_spa_56 : decode cX8_spa 56 = .ok (.iconst 0, 1) := by decide +kernel
theorem dX8_spa_57 : decode cX8_spa 57 = .ok (.putfield 92, 3) := by decide +kernel
theorem dX8_spa_60 : decode cX8_spa 60 = .ok (.aload_n 0, 1) := by decide +kernel
theorem dX8_spa_61 : decode cX8_spa 61 = .ok (.getfield 36, 3) := by decide +kernel
theorem dX8_spa_64 : decode cX8_spa 64 = .ok (.iconst 0, 1) := by decide +kernel
theorem dX8_spa_65 : decode cX8_spa 65 = .ok (.putfield 92, 3) := by decide +kernel
theorem dX8_spa_68 : decode cX8_spa 68 = .ok (.aload_n 0, 1) := by decide +kernel
theorem dX8_spa_69 : decode cX8_spa 69 = .ok (.getfield 10, 3) := by decide +kernel
theorem dX8_spa_72 : decode cX8_spa 72 = .ok (.iconst 0, 1) := by decide +kernel
theorem dX8_spa_73 : decode cX8_spa 73 = .ok (.putfield 69, 3) := by decide +kernel
theorem dX8_spa_76 : decode cX8_spa 76 = .ok (.iload_n 1, 1) := by decide +kernel
theorem dX8_spa_77 : decode cX8_spa 77 = .ok (.ireturn, 1) := by decide +kernel
theorem dX8_chair_0 : decode cX8_chair 0 = .ok (.aload_n 0, 1) := by decide +kernel
theorem dX8_chair_1 : decode cX8_chair 1 = .ok (.iload_n 1, 1) := by decide +kernel
theorem dX8_chair_2 : decode cX8_chair 2 = .ok (.invokevirtual 96, 3) := by decide +kernel
theorem dX8_chair_5 : decode cX8_chair 5 = .ok (.ifCond .ne 5, 3) := by decide +kernel
theorem dX8_chair_8 : decode cX8_chair 8 = .ok (.iconst (-1), 1) := by decide +kernel
theorem dX8_chair_9 : decode cX8_chair 9 = .ok (.ireturn, 1) := by decide +kernel
theorem dX8_chair_10 : decode cX8_chair 10 = .ok (.iload_n 2, 1) := by decide +kernel
theorem dX8_chair_11 : decode cX8_chair 11 = .ok (.tableswitch 122 0 6 #[41, 51, 61, 71, 81, 99, 112], 41) := by decide +kernel
theorem dX8_chair_52 : decode cX8_chair 52 = .ok (.aload_n 0, 1) := by decide +kernel
theorem dX8_chair_53 : decode cX8_chair 53 = .ok (.getfield 19, 3) := by decide +kernel
theorem dX8_chair_56 : decode cX8_chair 56 = .ok (.getfield 100, 3) := by decide +kernel
theorem dX8_chair_59 : decode cX8_chair 59 = .ok (.iload_n 1, 1) := by decide +kernel
theorem dX8_chair_60 : decode cX8_chair 60 = .ok (.iaload, 1) := by decide +kernel
theorem dX8_chair_61 : decode cX8_chair 61 = .ok (.ireturn, 1) := by decide +kernel
theorem dX8_chair_62 : decode cX8_chair 62 = .ok (.aload_n 0, 1) := by decide +kernel
theorem dX8_chair_63 : decode cX8_chair 63 = .ok (.getfield 19, 3) := by decide +kernel
theorem dX8_chair_66 : decode cX8_chair 66 = .ok (.getfield 104, 3) := by decide +kernel
theorem dX8_chair_69 : decode cX8_chair 69 = .ok (.iload_n 1, 1) := by decide +kernel
theorem dX8_chair_70 : decode cX8_chair 70 = .ok (.iaload, 1) := by decide +kernel
theorem dX8_chair_71 : decode cX8_chair 71 = .ok (.ireturn, 1) := by decide +kernel
theorem dX8_chair_72 : decode cX8_chair 72 = .ok (.aload_n 0, 1) := by decide +kernel
theorem dX8_chair_73 : decode cX8_chair 73 = .ok (.getfield 29, 3) := by decide +kernel
theorem dX8_chair_76 : decode cX8_chair 76 = .ok (.getfield 107, 3) := by decide +kernel
theorem dX8_chair_79 : decode cX8_chair 79 = .ok (.iload_n 1, 1) := by decide +kernel
theorem dX8_chair_80 : decode cX8_chair 80 = .ok (.iaload, 1) := by decide +kernel
theorem dX8_chair_81 : decode cX8_chair 81 = .ok (.ireturn, 1) := by decide +kernel
theorem dX8_chair_82 : decode cX8_chair 82 = .ok (.aload_n 0, 1) := by decide +kernel
theorem dX8_chair_83 : decode cX8_chair 83 = .ok (.getfield 29, 3) := by decide +kernel
theorem dX8_chair_86 : decode cX8_chair 86 = .ok (.getfield 110, 3) := by decide +kernel
theorem dX8_chair_89 : decode cX8_chair 89 = .ok (.iload_n 1, 1) := by decide +kernel
theorem dX8_chair_90 : decode cX8_chair 90 = .ok (.iaload, 1) := by decide +kernel
theorem dX8_chair_91 : decode cX8_chair 91 = .ok (.ireturn, 1) := by decide +kernel
theorem dX8_chair_92 : decode cX8_chair 92 = .ok (.aload_n 0, 1) := by decide +kernel
theorem dX8_chair_93 : decode cX8_chair 93 = .ok (.getfield 29, 3) := by decide +kernel
theorem dX8_chair_96 : decode cX8_chair 96 = .ok (.getfield 113, 3) := by decide +kernel
theorem dX8_chair_99 : decode cX8_chair 99 = .ok (.iload_n 1, 1) := by decide +kernel
theorem dX8_chair_100 : decode cX8_chair 100 = .ok (.baload, 1) := by decide +kernel
theorem dX8_chair_101 : decode cX8_chair 101 = .ok (.ifCond .eq 7, 3) := by decide +kernel
theorem dX8_chair_104 : decode cX8_chair 104 = .ok (.iconst 1, 1) := by decide +kernel
theorem dX8_chair_105 : decode cX8_chair 105 = .ok (.goto 4, 3) := by decide +kernel
theorem dX8_chair_108 : decode cX8_chair 108 = .ok (.iconst 0, 1) := by decide +kernel
theorem dX8_chair_109 : decode cX8_chair 109 = .ok (.ireturn, 1) := by decide +kernel
theorem dX8_chair_110 : decode cX8_chair 110 = .ok (.aload_n 0, 1) := by decide +kernel
theorem dX8_chair_111 : decode cX8_chair 111 = .ok (.getfield 29, 3) := by decide +kernel
theorem dX8_chair_114 : decode cX8_chair 114 = .ok (.aload_n 0, 1) := by decide +kernel
theorem dX8_chair_115 : decode cX8_chair 115 = .ok (.getfield 19, 3) := by decide +kernel
theorem dX8_chair_118 : decode cX8_chair 118 = .ok (.iload_n 1, 1) := by decide +kernel
theorem dX8_chair_119 : decode cX8_chair 119 = .ok (.invokevirtual 117, 3) := by decide +kernel
theorem dX8_chair_122 : decode cX8_chair 122 = .ok (.ireturn, 1) := by decide +kernel
theorem dX8_chair_123 : decode cX8_chair 123 = .ok (.aload_n 0, 1) := by decide +kernel
theorem dX8_chair_124 : decode cX8_chair 124 = .ok (.getfield 29, 3) := by decide +kernel
theorem dX8_chair_127 : decode cX8_chair 127 = .ok (.getfield 121, 3) := by decide +kernel
theorem dX8_chair_130 : decode cX8_chair 130 = .ok (.iload_n 1, 1) := by decide +kernel
theorem dX8_chair_131 : decode cX8_chair 131 = .ok (.iaload, 1) := by decide +kernel
theorem dX8_chair_132 : decode cX8_chair 132 = .ok (.ireturn, 1) := by decide +kernel
theorem dX8_chair_133 : decode cX8_chair 133 = .ok (.iconst (-1), 1) := by decide +kernel
theorem dX8_chair_134 : decode cX8_chair 134 = .ok (.ireturn, 1) := by decide +kernel
theorem dX8_pusher_0 : decode cX8_pusher 0 = .ok (.aload_n 0, 1) := by decide +kernel
theorem dX8_pusher_1 : decode cX8_pusher 1 = .ok (.iload_n 1, 1) := by decide +kernel
theorem dX8_pusher_2 : decode cX8_pusher 2 = .ok (.invokevirtual 96, 3) := by decide +kernel
theorem dX8_pusher_5 : decode cX8_pusher 5 = .ok (.ifCond .eq 15, 3) := by decide +kernel
theorem dX8_pusher_8 : decode cX8_pusher 8 = .ok (.aload_n 0, 1) := by decide +kernel
theorem dX8_pusher_9 : decode cX8_pusher 9 = .ok (.getfield 19, 3) := by decide +kernel
theorem dX8_pusher_12 : decode cX8_pusher 12 = .ok (.getfield 124, 3) := by decide +kernel
theorem dX8_pusher_15 : decode cX8_pusher 15 = .ok (.iload_n 1, 1) := by decide +kernel
theorem dX8_pusher_16 : decode cX8_pusher 16 = .ok (.iaload, 1) := by decide +kernel
theorem dX8_pusher_17 : decode cX8_pusher 17 = .ok (.goto 4, 3) := by decide +kernel
theorem dX8_pusher_20 : decode cX8_pusher 20 = .ok (.iconst (-1), 1) := by decide +kernel
theorem dX8_pusher_21 : decode cX8_pusher 21 = .ok (.ireturn, 1) := by decide +kernel
theorem dX8_cell_0 : decode cX8_cell 0 = .ok (.iload_n 1, 1) := by decide +kernel
theorem dX8_cell_1 : decode cX8_cell 1 = .ok (.ifCond .lt 26, 3) := by decide +kernel
theorem dX8_cell_4 : decode cX8_cell 4 = .ok (.iload_n 1, 1) := by decide +kernel
theorem dX8_cell_5 : decode cX8_cell 5 = .ok (.aload_n 0, 1) := by decide +kernel
theorem dX8_cell_6 : decode cX8_cell 6 = .ok (.getfield 19, 3) := by decide +kernel
theorem dX8_cell_9 : decode cX8_cell 9 = .ok (.getfield 127, 3) := by decide +kernel
theorem dX8_cell_12 : decode cX8_cell 12 = .ok (.if_icmp .ge 15, 3) := by decide +kernel
theorem dX8_cell_15 : decode cX8_cell 15 = .ok (.aload_n 0, 1) := by decide +kernel
theorem dX8_cell_16 : decode cX8_cell 16 = .ok (.getfield 19, 3) := by decide +kernel
theorem dX8_cell_19 : decode cX8_cell 19 = .ok (.getfield 130, 3) := by decide +kernel
theorem dX8_cell_22 : decode cX8_cell 22 = .ok (.iload_n 1, 1) := by decide +kernel
theorem dX8_cell_23 : decode cX8_cell 23 = .ok (.iaload, 1) := by decide +kernel
theorem dX8_cell_24 : decode cX8_cell 24 = .ok (.goto 4, 3) := by decide +kernel
theorem dX8_cell_27 : decode cX8_cell 27 = .ok (.iconst (-1), 1) := by decide +kernel
theorem dX8_cell_28 : decode cX8_cell 28 = .ok (.ireturn, 1) := by decide +kernel
theorem dX8_now_0 : decode cX8_now 0 = .ok (.iload_n 1, 1) := by decide +kernel
theorem dX8_now_1 : decode cX8_now 1 = .ok (.tableswitch 178 0 6 #[43, 51, 74, 96, 108, 139, 170], 43) := by decide +kernel
theorem dX8_now_44 : decode cX8_now 44 = .ok (.aload_n 0, 1) := by decide +kernel
theorem dX8_now_45 : decode cX8_now 45 = .ok (.getfield 29, 3) := by decide +kernel
theorem dX8_now_48 : decode cX8_now 48 = .ok (.getfield 133, 3) := by decide +kernel
theorem dX8_now_51 : decode cX8_now 51 = .ok (.ireturn, 1) := by decide +kernel
theorem dX8_now_52 : decode cX8_now 52 = .ok (.aload_n 0, 1) := by decide +kernel
theorem dX8_now_53 : decode cX8_now 53 = .ok (.getfield 19, 3) := by decide +kernel
theorem dX8_now_56 : decode cX8_now 56 = .ok (.invokevirtual 136, 3) := by decide +kernel
theorem dX8_now_59 : decode cX8_now 59 = .ok (.ifCond .eq 13, 3) := by decide +kernel
theorem dX8_now_62 : decode cX8_now 62 = .ok (.aload_n 0, 1) := by decide +kernel
theorem dX8_now_63 : decode cX8_now 63 = .ok (.getfield 58, 3) := by decide +kernel
theorem dX8_now_66 : decode cX8_now 66 = .ok (.invokevirtual 140, 3) := by decide +kernel
theorem dX8_now_69 : decode cX8_now 69 = .ok (.goto 5, 3) := by decide +kernel
theorem dX8_now_72 : decode cX8_now 72 = .ok (.bipush (-9), 2) := by decide +kernel
theorem dX8_now_74 : decode cX8_now 74 = .ok (.ireturn, 1) := by decide +kernel
theorem dX8_now_75 : decode cX8_now 75 = .ok (.aload_n 0, 1) := by decide +kernel
theorem dX8_now_76 : decode cX8_now 76 = .ok (.getfield 19, 3) := by decide +kernel
theorem dX8_now_79 : decode cX8_now 79 = .ok (.invokevirtual 136, 3) := by decide +kernel
theorem dX8_now_82 : decode cX8_now 82 = .ok (.ifCond .eq 13, 3) := by decide +kernel
theorem dX8_now_85 : decode cX8_now 85 = .ok (.aload_n 0, 1) := by decide +kernel
theorem dX8_now_86 : decode cX8_now 86 = .ok (.getfield 58, 3) := by decide +kernel
theorem dX8_now_89 : decode cX8_now 89 = .ok (.invokevirtual 144, 3) := by decide +kernel
theorem dX8_now_92 : decode cX8_now 92 = .ok (.goto 4, 3) := by decide +kernel
theorem dX8_now_95 : decode cX8_now 95 = .ok (.iconst 0, 1) := by decide +kernel
theorem dX8_now_96 : decode cX8_now 96 = .ok (.ireturn, 1) := by decide +kernel
theorem dX8_now_97 : decode cX8_now 97 = .ok (.aload_n 0, 1) := by decide +kernel
theorem dX8_now_98 : decode cX8_now 98 = .ok (.getfield 29, 3) := by decide +kernel
theorem dX8_now_101 : decode cX8_now 101 = .ok (.aload_n 0, 1) := by decide +kernel
theorem dX8_now_102 : decode cX8_now 102 = .ok (.getfield 19, 3) := by decide +kernel
theorem dX8_now_105 : decode cX8_now 105 = .ok (.invokevirtual 147, 3) := by decide +kernel
theorem dX8_now_108 : decode cX8_now 108 = .ok (.ireturn, 1) := by decide +kernel
theorem dX8_now_109 : decode cX8_now 109 = .ok (.aload_n 0, 1) := by decide +kernel
theorem dX8_now_110 : decode cX8_now 110 = .ok (.getfield 19, 3) := by decide +kernel
theorem dX8_now_113 : decode cX8_now 113 = .ok (.invokevirtual 136, 3) := by decide +kernel
theorem dX8_now_116 : decode cX8_now 116 = .ok (.ifCond .eq 22, 3) := by decide +kernel
theorem dX8_now_119 : decode cX8_now 119 = .ok (.aload_n 0, 1) := by decide +kernel
theorem dX8_now_120 : decode cX8_now 120 = .ok (.getfield 49, 3) := by decide +kernel
theorem dX8_now_123 : decode cX8_now 123 = .ok (.iconst 1, 1) := by decide +kernel
theorem dX8_now_124 : decode cX8_now 124 = .ok (.aload_n 0, 1) := by decide +kernel
theorem dX8_now_125 : decode cX8_now 125 = .ok (.getfield 19, 3) := by decide +kernel
theorem dX8_now_128 : decode cX8_now 128 = .ok (.aload_n 0, 1) := by decide +kernel
theorem dX8_now_129 : decode cX8_now 129 = .ok (.getfield 29, 3) := by decide +kernel
theorem dX8_now_132 : decode cX8_now 132 = .ok (.invokevirtual 150, 3) := by decide +kernel
theorem dX8_now_135 : decode cX8_now 135 = .ok (.goto 4, 3) := by decide +kernel
theorem dX8_now_138 : decode cX8_now 138 = .ok (.iconst 0, 1) := by decide +kernel
theorem dX8_now_139 : decode cX8_now 139 = .ok (.ireturn, 1) := by decide +kernel
theorem dX8_now_140 : decode cX8_now 140 = .ok (.aload_n 0, 1) := by decide +kernel
theorem dX8_now_141 : decode cX8_now 141 = .ok (.getfield 19, 3) := by decide +kernel
theorem dX8_now_144 : decode cX8_now 144 = .ok (.invokevirtual 136, 3) := by decide +kernel
theorem dX8_now_147 : decode cX8_now 147 = .ok (.ifCond .eq 22, 3) := by decide +kernel
theorem dX8_now_150 : decode cX8_now 150 = .ok (.aload_n 0, 1) := by decide +kernel
theorem dX8_now_151 : decode cX8_now 151 = .ok (.getfield 49, 3) := by decide +kernel
theorem dX8_now_154 : decode cX8_now 154 = .ok (.iconst 0, 1) := by decide +kernel
theorem dX8_now_155 : decode cX8_now 155 = .ok (.aload_n 0, 1) := by decide +kernel
theorem dX8_now_156 : decode cX8_now 156 = .ok (.getfield 19, 3) := by decide +kernel
theorem dX8_now_159 : decode cX8_now 159 = .ok (.aload_n 0, 1) := by decide +kernel
theorem dX8_now_160 : decode cX8_now 160 = .ok (.getfield 29, 3) := by decide +kernel
theorem dX8_now_163 : decode cX8_now 163 = .ok (.invokevirtual 150, 3) := by decide +kernel
theorem dX8_now_166 : decode cX8_now 166 = .ok (.goto 4, 3) := by decide +kernel
theorem dX8_now_169 : decode cX8_now 169 = .ok (.iconst 0, 1) := by decide +kernel
theorem dX8_now_170 : decode cX8_now 170 = .ok (.ireturn, 1) := by decide +kernel
theorem dX8_now_171 : decode cX8_now 171 = .ok (.aload_n 0, 1) := by decide +kernel
theorem dX8_now_172 : decode cX8_now 172 = .ok (.getfield 42, 3) := by decide +kernel
theorem dX8_now_175 : decode cX8_now 175 = .ok (.getfield 88, 3) := by decide +kernel
theorem dX8_now_178 : decode cX8_now 178 = .ok (.ireturn, 1) := by decide +kernel
theorem dX8_now_179 : decode cX8_now 179 = .ok (.iconst (-1), 1) := by decide +kernel
theorem dX8_now_180 : decode cX8_now 180 = .ok (.ireturn, 1) := by decide +kernel
theorem dX8_tuesday_0 : decode cX8_tuesday 0 = .ok (.aload_n 0, 1) := by decide +kernel
theorem dX8_tuesday_1 : decode cX8_tuesday 1 = .ok (.getfield 19, 3) := by decide +kernel
theorem dX8_tuesday_4 : decode cX8_tuesday 4 = .ok (.invokevirtual 136, 3) := by decide +kernel
theorem dX8_tuesday_7 : decode cX8_tuesday 7 = .ok (.ifCond .eq 16, 3) := by decide +kernel
theorem dX8_tuesday_10 : decode cX8_tuesday 10 = .ok (.aload_n 0, 1) := by decide +kernel
theorem dX8_tuesday_11 : decode cX8_tuesday 11 = .ok (.getfield 29, 3) := by decide +kernel
theorem dX8_tuesday_14 : decode cX8_tuesday 14 = .ok (.getfield 133, 3) := by decide +kernel
theorem dX8_tuesday_17 : decode cX8_tuesday 17 = .ok (.sipush 999, 3) := by decide +kernel
theorem dX8_tuesday_20 : decode cX8_tuesday 20 = .ok (.if_icmp .lt 6, 3) := by decide +kernel
theorem dX8_tuesday_23 : decode cX8_tuesday 23 = .ok (.bipush (-2), 2) := by decide +kernel
theorem dX8_tuesday_25 : decode cX8_tuesday 25 = .ok (.ireturn, 1) := by decide +kernel
theorem dX8_tuesday_26 : decode cX8_tuesday 26 = .ok (.aload_n 0, 1) := by decide +kernel
theorem dX8_tuesday_27 : decode cX8_tuesday 27 = .ok (.getfield 58, 3) := by decide +kernel
theorem dX8_tuesday_30 : decode cX8_tuesday 30 = .ok (.invokevirtual 140, 3) := by decide +kernel
theorem dX8_tuesday_33 : decode cX8_tuesday 33 = .ok (.istore_n 1, 1) := by decide +kernel
theorem dX8_tuesday_34 : decode cX8_tuesday 34 = .ok (.aload_n 0, 1) := by decide +kernel
theorem dX8_tuesday_35 : decode cX8_tuesday 35 = .ok (.iload_n 1, 1) := by decide +kernel
theorem dX8_tuesday_36 : decode cX8_tuesday 36 = .ok (.invokevirtual 96, 3) := by decide +kernel
theorem dX8_tuesday_39 : decode cX8_tuesday 39 = .ok (.ifCond .ne 6, 3) := by decide +kernel
theorem dX8_tuesday_42 : decode cX8_tuesday 42 = .ok (.bipush (-2), 2) := by decide +kernel
theorem dX8_tuesday_44 : decode cX8_tuesday 44 = .ok (.ireturn, 1) := by decide +kernel
theorem dX8_tuesday_45 : decode cX8_tuesday 45 = .ok (.aload_n 0, 1) := by decide +kernel
theorem dX8_tuesday_46 : decode cX8_tuesday 46 = .ok (.getfield 29, 3) := by decide +kernel
theorem dX8_tuesday_49 : decode cX8_tuesday 49 = .ok (.getfield 121, 3) := by decide +kernel
theorem dX8_tuesday_52 : decode cX8_tuesday 52 = .ok (.iload_n 1, 1) := by decide +kernel
theorem dX8_tuesday_53 : decode cX8_tuesday 53 = .ok (.dup2, 1) := by decide +kernel
theorem dX8_tuesday_54 : decode cX8_tuesday 54 = .ok (.iaload, 1) := by decide +kernel
theorem dX8_tuesday_55 : decode cX8_tuesday 55 = .ok (.iconst 1, 1) := by decide +kernel
theorem dX8_tuesday_56 : decode cX8_tuesday 56 = .ok (.iadd, 1) := by decide +kernel
theorem dX8_tuesday_57 : decode cX8_tuesday 57 = .ok (.iastore, 1) := by decide +kernel
theorem dX8_tuesday_58 : decode cX8_tuesday 58 = .ok (.aload_n 0, 1) := by decide +kernel
theorem dX8_tuesday_59 : decode cX8_tuesday 59 = .ok (.getfield 29, 3) := by decide +kernel
theorem dX8_tuesday_62 : decode cX8_tuesday 62 = .ok (.dup, 1) := by decide +kernel
theorem dX8_tuesday_63 : decode cX8_tuesday 63 = .ok (.getfield 133, 3) := by decide +kernel
theorem dX8_tuesday_66 : decode cX8_tuesday 66 = .ok (.iconst 1, 1) := by decide +kernel
theorem dX8_tuesday_67 : decode cX8_tuesday 67 = .ok (.iadd, 1) := by decide +kernel
theorem dX8_tuesday_68 : decode cX8_tuesday 68 = .ok (.putfield 133, 3) := by decide +kernel
theorem dX8_tuesday_71 : decode cX8_tuesday 71 = .ok (.aload_n 0, 1) := by decide +kernel
theorem dX8_tuesday_72 : decode cX8_tuesday 72 = .ok (.getfield 42, 3) := by decide +kernel
theorem dX8_tuesday_75 : decode cX8_tuesday 75 = .ok (.iconst 0, 1) := by decide +kernel
theorem dX8_tuesday_76 : decode cX8_tuesday 76 = .ok (.iload_n 1, 1) := by decide +kernel
theorem dX8_tuesday_77 : decode cX8_tuesday 77 = .ok (.iconst 0, 1) := by decide +kernel
theorem dX8_tuesday_78 : decode cX8_tuesday 78 = .ok (.invokevirtual 154, 3) := by decide +kernel
theorem dX8_tuesday_81 : decode cX8_tuesday 81 = .ok (.iload_n 1, 1) := by decide +kernel
theorem dX8_tuesday_82 : decode cX8_tuesday 82 = .ok (.ireturn, 1) := by decide +kernel
theorem dX8_changes_0 : decode cX8_changes 0 = .ok (.aload_n 0, 1) := by decide +kernel
theorem dX8_changes_1 : decode cX8_changes 1 = .ok (.iload_n 1, 1) := by decide +kernel
theorem dX8_changes_2 : decode cX8_changes 2 = .ok (.invokevirtual 96, 3) := by decide +kernel
theorem dX8_changes_5 : decode cX8_changes 5 = .ok (.ifCond .eq 16, 3) := by decide +kernel
theorem dX8_changes_8 : decode cX8_changes 8 = .ok (.aload_n 0, 1) := by decide +kernel
theorem dX8_changes_9 : decode cX8_changes 9 = .ok (.iload_n 2, 1) := by decide +kernel
theorem dX8_changes_10 : decode cX8_changes 10 = .ok (.invokevirtual 96, 3) := by decide +kernel
theorem dX8_changes_13 : decode cX8_changes 13 = .ok (.ifCond .eq 8, 3) := by decide +kernel
theorem dX8_changes_16 : decode cX8_changes 16 = .ok (.iload_n 1, 1) := by decide +kernel
theorem dX8_changes_17 : decode cX8_changes 17 = .ok (.iload_n 2, 1) := by decide +kernel
theorem dX8_changes_18 : decode cX8_changes 18 = .ok (.if_icmp .ne 5, 3) := by decide +kernel
theorem dX8_changes_21 : decode cX8_changes 21 = .ok (.iconst (-1), 1) := by decide +kernel
theorem dX8_changes_22 : decode cX8_changes 22 = .ok (.ireturn, 1) := by decide +kernel
theorem dX8_changes_23 : decode cX8_changes 23 = .ok (.aload_n 0, 1) := by decide +kernel
theorem dX8_changes_24 : decode cX8_changes 24 = .ok (.getfield 29, 3) := by decide +kernel
theorem dX8_changes_27 : decode cX8_changes 27 = .ok (.iload_n 1, 1) := by decide +kernel
theorem dX8_changes_28 : decode cX8_changes 28 = .ok (.iload_n 2, 1) := by decide +kernel
theorem dX8_changes_29 : decode cX8_changes 29 = .ok (.invokevirtual 158, 3) := by decide +kernel
theorem dX8_changes_32 : decode cX8_changes 32 = .ok (.aload_n 0, 1) := by decide +kernel
theorem dX8_changes_33 : decode cX8_changes 33 = .ok (.getfield 42, 3) := by decide +kernel
theorem dX8_changes_36 : decode cX8_changes 36 = .ok (.iconst 1, 1) := by decide +kernel
theorem dX8_changes_37 : decode cX8_changes 37 = .ok (.iload_n 1, 1) := by decide +kernel
theorem dX8_changes_38 : decode cX8_changes 38 = .ok (.iload_n 2, 1) := by decide +kernel
theorem dX8_changes_39 : decode cX8_changes 39 = .ok (.invokevirtual 154, 3) := by decide +kernel
theorem dX8_changes_42 : decode cX8_changes 42 = .ok (.aload_n 0, 1) := by decide +kernel
theorem dX8_changes_43 : decode cX8_changes 43 = .ok (.getfield 29, 3) := by decide +kernel
theorem dX8_changes_46 : decode cX8_changes 46 = .ok (.getfield 107, 3) := by decide +kernel
theorem dX8_changes_49 : decode cX8_changes 49 = .ok (.iload_n 1, 1) := by decide +kernel
theorem dX8_changes_50 : decode cX8_changes 50 = .ok (.iaload, 1) := by decide +kernel
theorem dX8_changes_51 : decode cX8_changes 51 = .ok (.ireturn, 1) := by decide +kernel
theorem dX8_sets_0 : decode cX8_sets 0 = .ok (.aload_n 0, 1) := by decide +kernel
theorem dX8_sets_1 : decode cX8_sets 1 = .ok (.iload_n 1, 1) := by decide +kernel
theorem dX8_sets_2 : decode cX8_sets 2 = .ok (.invokevirtual 96, 3) := by decide +kernel
theorem dX8_sets_5 : decode cX8_sets 5 = .ok (.ifCond .eq 12, 3) := by decide +kernel
theorem dX8_sets_8 : decode cX8_sets 8 = .ok (.iload_n 2, 1) := by decide +kernel
theorem dX8_sets_9 : decode cX8_sets 9 = .ok (.ifCond .lt 8, 3) := by decide +kernel
theorem dX8_sets_12 : decode cX8_sets 12 = .ok (.iload_n 2, 1) := by decide +kernel
theorem dX8_sets_13 : decode cX8_sets 13 = .ok (.iconst 5, 1) := by decide +kernel
theorem dX8_sets_14 : decode cX8_sets 14 = .ok (.if_icmp .le 5, 3) := by decide +kernel
theorem dX8_sets_17 : decode cX8_sets 17 = .ok (.iconst (-1), 1) := by decide +kernel
theorem dX8_sets_18 : decode cX8_sets 18 = .ok (.ireturn, 1) := by decide +kernel
theorem dX8_sets_19 : decode cX8_sets 19 = .ok (.aload_n 0, 1) := by decide +kernel
theorem dX8_sets_20 : decode cX8_sets 20 = .ok (.getfield 29, 3) := by decide +kernel
theorem dX8_sets_23 : decode cX8_sets 23 = .ok (.getfield 110, 3) := by decide +kernel
theorem dX8_sets_26 : decode cX8_sets 26 = .ok (.iload_n 1, 1) := by decide +kernel
theorem dX8_sets_27 : decode cX8_sets 27 = .ok (.iaload, 1) := by decide +kernel
theorem dX8_sets_28 : decode cX8_sets 28 = .ok (.istore_n 3, 1) := by decide +kernel
theorem dX8_sets_29 : decode cX8_sets 29 = .ok (.iload_n 3, 1) := by decide +kernel
theorem dX8_sets_30 : decode cX8_sets 30 = .ok (.iload_n 2, 1) := by decide +kernel
theorem dX8_sets_31 : decode cX8_sets 31 = .ok (.if_icmp .ne 6, 3) := by decide +kernel
theorem dX8_sets_34 : decode cX8_sets 34 = .ok (.bipush (-2), 2) := by decide +kernel
theorem dX8_sets_36 : decode cX8_sets 36 = .ok (.ireturn, 1) := by decide +kernel
theorem dX8_sets_37 : decode cX8_sets 37 = .ok (.aload_n 0, 1) := by decide +kernel
theorem dX8_sets_38 : decode cX8_sets 38 = .ok (.getfield 29, 3) := by decide +kernel
theorem dX8_sets_41 : decode cX8_sets 41 = .ok (.getfield 110, 3) := by decide +kernel
theorem dX8_sets_44 : decode cX8_sets 44 = .ok (.iload_n 1, 1) := by decide +kernel
theorem dX8_sets_45 : decode cX8_sets 45 = .ok (.iload_n 2, 1) := by decide +kernel
theorem dX8_sets_46 : decode cX8_sets 46 = .ok (.iastore, 1) := by decide +kernel
theorem dX8_sets_47 : decode cX8_sets 47 = .ok (.aload_n 0, 1) := by decide +kernel
theorem dX8_sets_48 : decode cX8_sets 48 = .ok (.getfield 42, 3) := by decide +kernel
theorem dX8_sets_51 : decode cX8_sets 51 = .ok (.iconst 2, 1) := by decide +kernel
theorem dX8_sets_52 : decode cX8_sets 52 = .ok (.iload_n 1, 1) := by decide +kernel
theorem dX8_sets_53 : decode cX8_sets 53 = .ok (.iload_n 3, 1) := by decide +kernel
theorem dX8_sets_54 : decode cX8_sets 54 = .ok (.invokevirtual 154, 3) := by decide +kernel
theorem dX8_sets_57 : decode cX8_sets 57 = .ok (.iload_n 3, 1) := by decide +kernel
theorem dX8_sets_58 : decode cX8_sets 58 = .ok (.ireturn, 1) := by decide +kernel
theorem dX8_greases_0 : decode cX8_greases 0 = .ok (.aload_n 0, 1) := by decide +kernel
theorem dX8_greases_1 : decode cX8_greases 1 = .ok (.iload_n 1, 1) := by decide +kernel
theorem dX8_greases_2 : decode cX8_greases 2 = .ok (.invokevirtual 96, 3) := by decide +kernel
theorem dX8_greases_5 : decode cX8_greases 5 = .ok (.ifCond .eq 12, 3) := by decide +kernel
theorem dX8_greases_8 : decode cX8_greases 8 = .ok (.iload_n 2, 1) := by decide +kernel
theorem dX8_greases_9 : decode cX8_greases 9 = .ok (.ifCond .lt 8, 3) := by decide +kernel
theorem dX8_greases_12 : decode cX8_greases 12 = .ok (.iload_n 2, 1) := by decide +kernel
theorem dX8_greases_13 : decode cX8_greases 13 = .ok (.iconst 1, 1) := by decide +kernel
theorem dX8_greases_14 : decode cX8_greases 14 = .ok (.if_icmp .le 5, 3) := by decide +kernel
theorem dX8_greases_17 : decode cX8_greases 17 = .ok (.iconst (-1), 1) := by decide +kernel
theorem dX8_greases_18 : decode cX8_greases 18 = .ok (.ireturn, 1) := by decide +kernel
theorem dX8_greases_19 : decode cX8_greases 19 = .ok (.iload_n 2, 1) := by decide +kernel
theorem dX8_greases_20 : decode cX8_greases 20 = .ok (.iconst 1, 1) := by decide +kernel
theorem dX8_greases_21 : decode cX8_greases 21 = .ok (.if_icmp .ne 7, 3) := by decide +kernel
theorem dX8_greases_24 : decode cX8_greases 24 = .ok (.iconst 1, 1) := by decide +kernel
theorem dX8_greases_25 : decode cX8_greases 25 = .ok (.goto 4, 3) := by decide +kernel
theorem dX8_greases_28 : decode cX8_greases 28 = .ok (.iconst 0, 1) := by decide +kernel
theorem dX8_greases_29 : decode cX8_greases 29 = .ok (.istore_n 3, 1) := by decide +kernel
theorem dX8_greases_30 : decode cX8_greases 30 = .ok (.aload_n 0, 1) := by decide +kernel
theorem dX8_greases_31 : decode cX8_greases 31 = .ok (.getfield 29, 3) := by decide +kernel
theorem dX8_greases_34 : decode cX8_greases 34 = .ok (.getfield 113, 3) := by decide +kernel
theorem dX8_greases_37 : decode cX8_greases 37 = .ok (.iload_n 1, 1) := by decide +kernel
theorem dX8_greases_38 : decode cX8_greases 38 = .ok (.baload, 1) := by decide +kernel
theorem dX8_greases_39 : decode cX8_greases 39 = .ok (.iload_n 3, 1) := by decide +kernel
theorem dX8_greases_40 : decode cX8_greases 40 = .ok (.if_icmp .ne 6, 3) := by decide +kernel
theorem dX8_greases_43 : decode cX8_greases 43 = .ok (.bipush (-2), 2) := by decide +kernel
theorem dX8_greases_45 : decode cX8_greases 45 = .ok (.ireturn, 1) := by decide +kernel
theorem dX8_greases_46 : decode cX8_greases 46 = .ok (.aload_n 0, 1) := by decide +kernel
theorem dX8_greases_47 : decode cX8_greases 47 = .ok (.getfield 29, 3) := by decide +kernel
theorem dX8_greases_50 : decode cX8_greases 50 = .ok (.getfield 113, 3) := by decide +kernel
theorem dX8_greases_53 : decode cX8_greases 53 = .ok (.iload_n 1, 1) := by decide +kernel
theorem dX8_greases_54 : decode cX8_greases 54 = .ok (.iload_n 3, 1) := by decide +kernel
theorem dX8_greases_55 : decode cX8_greases 55 = .ok (.bastore, 1) := by decide +kernel
theorem dX8_greases_56 : decode cX8_greases 56 = .ok (.aload_n 0, 1) := by decide +kernel
theorem dX8_greases_57 : decode cX8_greases 57 = .ok (.getfield 42, 3) := by decide +kernel
theorem dX8_greases_60 : decode cX8_greases 60 = .ok (.iconst 3, 1) := by decide +kernel
theorem dX8_greases_61 : decode cX8_greases 61 = .ok (.iload_n 1, 1) := by decide +kernel
theorem dX8_greases_62 : decode cX8_greases 62 = .ok (.iconst 0, 1) := by decide +kernel
theorem dX8_greases_63 : decode cX8_greases 63 = .ok (.invokevirtual 154, 3) := by decide +kernel
theorem dX8_greases_66 : decode cX8_greases 66 = .ok (.aload_n 0, 1) := by decide +kernel
theorem dX8_greases_67 : decode cX8_greases 67 = .ok (.getfield 29, 3) := by decide +kernel
theorem dX8_greases_70 : decode cX8_greases 70 = .ok (.aload_n 0, 1) := by decide +kernel
theorem dX8_greases_71 : decode cX8_greases 71 = .ok (.getfield 19, 3) := by decide +kernel
theorem dX8_greases_74 : decode cX8_greases 74 = .ok (.getfield 162, 3) := by decide +kernel
theorem dX8_greases_77 : decode cX8_greases 77 = .ok (.invokevirtual 165, 3) := by decide +kernel
theorem dX8_greases_80 : decode cX8_greases 80 = .ok (.ireturn, 1) := by decide +kernel
theorem dX8_undo_0 : decode cX8_undo 0 = .ok (.aload_n 0, 1) := by decide +kernel
theorem dX8_undo_1 : decode cX8_undo 1 = .ok (.getfield 42, 3) := by decide +kernel
theorem dX8_undo_4 : decode cX8_undo 4 = .ok (.getfield 88, 3) := by decide +kernel
theorem dX8_undo_7 : decode cX8_undo 7 = .ok (.iconst 1, 1) := by decide +kernel
theorem dX8_undo_8 : decode cX8_undo 8 = .ok (.if_icmp .ge 6, 3) := by decide +kernel
theorem dX8_undo_11 : decode cX8_undo 11 = .ok (.bipush (-2), 2) := by decide +kernel
theorem dX8_undo_13 : decode cX8_undo 13 = .ok (.ireturn, 1) := by decide +kernel
theorem dX8_undo_14 : decode cX8_undo 14 = .ok (.aload_n 0, 1) := by decide +kernel
theorem dX8_undo_15 : decode cX8_undo 15 = .ok (.getfield 42, 3) := by decide +kernel
theorem dX8_undo_18 : decode cX8_undo 18 = .ok (.aload_n 0, 1) := by decide +kernel
theorem dX8_undo_19 : decode cX8_undo 19 = .ok (.getfield 29, 3) := by decide +kernel
theorem dX8_undo_22 : decode cX8_undo 22 = .ok (.invokevirtual 169, 3) := by decide +kernel
theorem dX8_undo_25 : decode cX8_undo 25 = .ok (.aload_n 0, 1) := by decide +kernel
theorem dX8_undo_26 : decode cX8_undo 26 = .ok (.getfield 42, 3) := by decide +kernel
theorem dX8_undo_29 : decode cX8_undo 29 = .ok (.getfield 88, 3) := by decide +kernel
theorem dX8_undo_32 : decode cX8_undo 32 = .ok (.ireturn, 1) := by decide +kernel
theorem dX8_time_0 : decode cX8_time 0 = .ok (.aload_n 0, 1) := by decide +kernel
theorem dX8_time_1 : decode cX8_time 1 = .ok (.iload_n 1, 1) := by decide +kernel
theorem dX8_time_2 : decode cX8_time 2 = .ok (.invokevirtual 96, 3) := by decide +kernel
theorem dX8_time_5 : decode cX8_time 5 = .ok (.ifCond .ne 5, 3) := by decide +kernel
theorem dX8_time_8 : decode cX8_time 8 = .ok (.iconst (-1), 1) := by decide +kernel
theorem dX8_time_9 : decode cX8_time 9 = .ok (.ireturn, 1) := by decide +kernel
theorem dX8_time_10 : decode cX8_time 10 = .ok (.aload_n 0, 1) := by decide +kernel
theorem dX8_time_11 : decode cX8_time 11 = .ok (.getfield 19, 3) := by decide +kernel
theorem dX8_time_14 : decode cX8_time 14 = .ok (.invokevirtual 136, 3) := by decide +kernel
theorem dX8_time_17 : decode cX8_time 17 = .ok (.ifCond .ne 6, 3) := by decide +kernel
theorem dX8_time_20 : decode cX8_time 20 = .ok (.bipush (-2), 2) := by decide +kernel
theorem dX8_time_22 : decode cX8_time 22 = .ok (.ireturn, 1) := by decide +kernel
theorem dX8_time_23 : decode cX8_time 23 = .ok (.aload_n 0, 1) := by decide +kernel
theorem dX8_time_24 : decode cX8_time 24 = .ok (.getfield 58, 3) := by decide +kernel
theorem dX8_time_27 : decode cX8_time 27 = .ok (.iload_n 1, 1) := by decide +kernel
theorem dX8_time_28 : decode cX8_time 28 = .ok (.invokevirtual 173, 3) := by decide +kernel
theorem dX8_time_31 : decode cX8_time 31 = .ok (.ireturn, 1) := by decide +kernel
theorem dX8_place_0 : decode cX8_place 0 = .ok (.aload_n 0, 1) := by decide +kernel
theorem dX8_place_1 : decode cX8_place 1 = .ok (.iload_n 1, 1) := by decide +kernel
theorem dX8_place_2 : decode cX8_place 2 = .ok (.invokevirtual 96, 3) := by decide +kernel
theorem dX8_place_5 : decode cX8_place 5 = .ok (.ifCond .ne 5, 3) := by decide +kernel
theorem dX8_place_8 : decode cX8_place 8 = .ok (.iconst (-1), 1) := by decide +kernel
theorem dX8_place_9 : decode cX8_place 9 = .ok (.ireturn, 1) := by decide +kernel
theorem dX8_place_10 : decode cX8_place 10 = .ok (.aload_n 0, 1) := by decide +kernel
theorem dX8_place_11 : decode cX8_place 11 = .ok (.getfield 19, 3) := by decide +kernel
theorem dX8_place_14 : decode cX8_place 14 = .ok (.invokevirtual 136, 3) := by decide +kernel
theorem dX8_place_17 : decode cX8_place 17 = .ok (.ifCond .ne 6, 3) := by decide +kernel
theorem dX8_place_20 : decode cX8_place 20 = .ok (.bipush (-2), 2) := by decide +kernel
theorem dX8_place_22 : decode cX8_place 22 = .ok (.ireturn, 1) := by decide +kernel
theorem dX8_place_23 : decode cX8_place 23 = .ok (.aload_n 0, 1) := by decide +kernel
theorem dX8_place_24 : decode cX8_place 24 = .ok (.getfield 58, 3) := by decide +kernel
theorem dX8_place_27 : decode cX8_place 27 = .ok (.iload_n 1, 1) := by decide +kernel
theorem dX8_place_28 : decode cX8_place 28 = .ok (.invokevirtual 176, 3) := by decide +kernel
theorem dX8_place_31 : decode cX8_place 31 = .ok (.ireturn, 1) := by decide +kernel
theorem dX8_alone_0 : decode cX8_alone 0 = .ok (.aload_n 0, 1) := by decide +kernel
theorem dX8_alone_1 : decode cX8_alone 1 = .ok (.iload_n 1, 1) := by decide +kernel
theorem dX8_alone_2 : decode cX8_alone 2 = .ok (.invokevirtual 96, 3) := by decide +kernel
theorem dX8_alone_5 : decode cX8_alone 5 = .ok (.ifCond .ne 5, 3) := by decide +kernel
theorem dX8_alone_8 : decode cX8_alone 8 = .ok (.iconst (-1), 1) := by decide +kernel
theorem dX8_alone_9 : decode cX8_alone 9 = .ok (.ireturn, 1) := by decide +kernel
theorem dX8_alone_10 : decode cX8_alone 10 = .ok (.aload_n 0, 1) := by decide +kernel
theorem dX8_alone_11 : decode cX8_alone 11 = .ok (.getfield 19, 3) := by decide +kernel
theorem dX8_alone_14 : decode cX8_alone 14 = .ok (.invokevirtual 136, 3) := by decide +kernel
theorem dX8_alone_17 : decode cX8_alone 17 = .ok (.ifCond .ne 6, 3) := by decide +kernel
theorem dX8_alone_20 : decode cX8_alone 20 = .ok (.bipush (-2), 2) := by decide +kernel
theorem dX8_alone_22 : decode cX8_alone 22 = .ok (.ireturn, 1) := by decide +kernel
theorem dX8_alone_23 : decode cX8_alone 23 = .ok (.aload_n 0, 1) := by decide +kernel
theorem dX8_alone_24 : decode cX8_alone 24 = .ok (.getfield 29, 3) := by decide +kernel
theorem dX8_alone_27 : decode cX8_alone 27 = .ok (.aload_n 0, 1) := by decide +kernel
theorem dX8_alone_28 : decode cX8_alone 28 = .ok (.getfield 19, 3) := by decide +kernel
theorem dX8_alone_31 : decode cX8_alone 31 = .ok (.iload_n 1, 1) := by decide +kernel
theorem dX8_alone_32 : decode cX8_alone 32 = .ok (.aload_n 0, 1) := by decide +kernel
theorem dX8_alone_33 : decode cX8_alone 33 = .ok (.getfield 29, 3) := by decide +kernel
theorem dX8_alone_36 : decode cX8_alone 36 = .ok (.getfield 113, 3) := by decide +kernel
theorem dX8_alone_39 : decode cX8_alone 39 = .ok (.iload_n 1, 1) := by decide +kernel
theorem dX8_alone_40 : decode cX8_alone 40 = .ok (.baload, 1) := by decide +kernel
theorem dX8_alone_41 : decode cX8_alone 41 = .ok (.invokevirtual 179, 3) := by decide +kernel
theorem dX8_alone_44 : decode cX8_alone 44 = .ok (.ireturn, 1) := by decide +kernel
theorem dX8_king_0 : decode cX8_king 0 = .ok (.aload_n 0, 1) := by decide +kernel
theorem dX8_king_1 : decode cX8_king 1 = .ok (.iload_n 1, 1) := by decide +kernel
theorem dX8_king_2 : decode cX8_king 2 = .ok (.invokevirtual 96, 3) := by decide +kernel
theorem dX8_king_5 : decode cX8_king 5 = .ok (.ifCond .eq 16, 3) := by decide +kernel
theorem dX8_king_8 : decode cX8_king 8 = .ok (.iload_n 2, 1) := by decide +kernel
theorem dX8_king_9 : decode cX8_king 9 = .ok (.iconst (-1), 1) := by decide +kernel
theorem dX8_king_10 : decode cX8_king 10 = .ok (.if_icmp .eq 13, 3) := by decide +kernel
theorem dX8_king_13 : decode cX8_king 13 = .ok (.aload_n 0, 1) := by decide +kernel
theorem dX8_king_14 : decode cX8_king 14 = .ok (.iload_n 2, 1) := by decide +kernel
theorem dX8_king_15 : decode cX8_king 15 = .ok (.invokevirtual 96, 3) := by decide +kernel
theorem dX8_king_18 : decode cX8_king 18 = .ok (.ifCond .ne 5, 3) := by decide +kernel
theorem dX8_king_21 : decode cX8_king 21 = .ok (.iconst (-1), 1) := by decide +kernel
theorem dX8_king_22 : decode cX8_king 22 = .ok (.ireturn, 1) := by decide +kernel
theorem dX8_king_23 : decode cX8_king 23 = .ok (.aload_n 0, 1) := by decide +kernel
theorem dX8_king_24 : decode cX8_king 24 = .ok (.getfield 19, 3) := by decide +kernel
theorem dX8_king_27 : decode cX8_king 27 = .ok (.invokevirtual 136, 3) := by decide +kernel
theorem dX8_king_30 : decode cX8_king 30 = .ok (.ifCond .ne 6, 3) := by decide +kernel
theorem dX8_king_33 : decode cX8_king 33 = .ok (.bipush (-2), 2) := by decide +kernel
theorem dX8_king_35 : decode cX8_king 35 = .ok (.ireturn, 1) := by decide +kernel
theorem dX8_king_36 : decode cX8_king 36 = .ok (.aload_n 0, 1) := by decide +kernel
theorem dX8_king_37 : decode cX8_king 37 = .ok (.getfield 58, 3) := by decide +kernel
theorem dX8_king_40 : decode cX8_king 40 = .ok (.iload_n 1, 1) := by decide +kernel
theorem dX8_king_41 : decode cX8_king 41 = .ok (.invokevirtual 183, 3) := by decide +kernel
theorem dX8_king_44 : decode cX8_king 44 = .ok (.istore_n 3, 1) := by decide +kernel
theorem dX8_king_45 : decode cX8_king 45 = .ok (.iload_n 3, 1) := by decide +kernel
theorem dX8_king_46 : decode cX8_king 46 = .ok (.bipush (-9), 2) := by decide +kernel
theorem dX8_king_48 : decode cX8_king 48 = .ok (.if_icmp .eq 8, 3) := by decide +kernel
theorem dX8_king_51 : decode cX8_king 51 = .ok (.iload_n 2, 1) := by decide +kernel
theorem dX8_king_52 : decode cX8_king 52 = .ok (.iconst (-1), 1) := by decide +kernel
theorem dX8_king_53 : decode cX8_king 53 = .ok (.if_icmp .ne 7, 3) := by decide +kernel
theorem dX8_king_56 : decode cX8_king 56 = .ok (.iload_n 3, 1) := by decide +kernel
theorem dX8_king_57 : decode cX8_king 57 = .ok (.goto 11, 3) := by decide +kernel
theorem dX8_king_60 : decode cX8_king 60 = .ok (.aload_n 0, 1) := by decide +kernel
theorem dX8_king_61 : decode cX8_king 61 = .ok (.getfield 58, 3) := by decide +kernel
theorem dX8_king_64 : decode cX8_king 64 = .ok (.iload_n 2, 1) := by decide +kernel
theorem dX8_king_65 : decode cX8_king 65 = .ok (.invokevirtual 186, 3) := by decide +kernel
theorem dX8_king_68 : decode cX8_king 68 = .ok (.ireturn, 1) := by decide +kernel
theorem dX8_fair_0 : decode cX8_fair 0 = .ok (.iload_n 1, 1) := by decide +kernel
theorem dX8_fair_1 : decode cX8_fair 1 = .ok (.iconst (-1), 1) := by decide +kernel
theorem dX8_fair_2 : decode cX8_fair 2 = .ok (.if_icmp .eq 13, 3) := by decide +kernel
theorem dX8_fair_5 : decode cX8_fair 5 = .ok (.aload_n 0, 1) := by decide +kernel
theorem dX8_fair_6 : decode cX8_fair 6 = .ok (.iload_n 1, 1) := by decide +kernel
theorem dX8_fair_7 : decode cX8_fair 7 = .ok (.invokevirtual 96, 3) := by decide +kernel
theorem dX8_fair_10 : decode cX8_fair 10 = .ok (.ifCond .ne 5, 3) := by decide +kernel
theorem dX8_fair_13 : decode cX8_fair 13 = .ok (.iconst (-1), 1) := by decide +kernel
theorem dX8_fair_14 : decode cX8_fair 14 = .ok (.ireturn, 1) := by decide +kernel
theorem dX8_fair_15 : decode cX8_fair 15 = .ok (.aload_n 0, 1) := by decide +kernel
theorem dX8_fair_16 : decode cX8_fair 16 = .ok (.getfield 19, 3) := by decide +kernel
theorem dX8_fair_19 : decode cX8_fair 19 = .ok (.invokevirtual 136, 3) := by decide +kernel
theorem dX8_fair_22 : decode cX8_fair 22 = .ok (.ifCond .ne 6, 3) := by decide +kernel
theorem dX8_fair_25 : decode cX8_fair 25 = .ok (.bipush (-2), 2) := by decide +kernel
theorem dX8_fair_27 : decode cX8_fair 27 = .ok (.ireturn, 1) := by decide +kernel
theorem dX8_fair_28 : decode cX8_fair 28 = .ok (.aload_n 0, 1) := by decide +kernel
theorem dX8_fair_29 : decode cX8_fair 29 = .ok (.getfield 58, 3) := by decide +kernel
theorem dX8_fair_32 : decode cX8_fair 32 = .ok (.invokevirtual 189, 3) := by decide +kernel
theorem dX8_fair_35 : decode cX8_fair 35 = .ok (.istore_n 2, 1) := by decide +kernel
theorem dX8_fair_36 : decode cX8_fair 36 = .ok (.iload_n 1, 1) := by decide +kernel
theorem dX8_fair_37 : decode cX8_fair 37 = .ok (.iconst (-1), 1) := by decide +kernel
theorem dX8_fair_38 : decode cX8_fair 38 = .ok (.if_icmp .ne 14, 3) := by decide +kernel
theorem dX8_fair_41 : decode cX8_fair 41 = .ok (.aload_n 0, 1) := by decide +kernel
theorem dX8_fair_42 : decode cX8_fair 42 = .ok (.getfield 58, 3) := by decide +kernel
theorem dX8_fair_45 : decode cX8_fair 45 = .ok (.iload_n 2, 1) := by decide +kernel
theorem dX8_fair_46 : decode cX8_fair 46 = .ok (.invokevirtual 192, 3) := by decide +kernel
theorem dX8_fair_49 : decode cX8_fair 49 = .ok (.goto 12, 3) := by decide +kernel
theorem dX8_fair_52 : decode cX8_fair 52 = .ok (.aload_n 0, 1) := by decide +kernel
theorem dX8_fair_53 : decode cX8_fair 53 = .ok (.getfield 58, 3) := by decide +kernel
theorem dX8_fair_56 : decode cX8_fair 56 = .ok (.iload_n 2, 1) := by decide +kernel
theorem dX8_fair_57 : decode cX8_fair 57 = .ok (.iload_n 1, 1) := by decide +kernel
theorem dX8_fair_58 : decode cX8_fair 58 = .ok (.invokevirtual 195, 3) := by decide +kernel
theorem dX8_fair_61 : decode cX8_fair 61 = .ok (.ireturn, 1) := by decide +kernel
theorem dX8_odds_0 : decode cX8_odds 0 = .ok (.aload_n 0, 1) := by decide +kernel
theorem dX8_odds_1 : decode cX8_odds 1 = .ok (.iload_n 1, 1) := by decide +kernel
theorem dX8_odds_2 : decode cX8_odds 2 = .ok (.invokevirtual 96, 3) := by decide +kernel
theorem dX8_odds_5 : decode cX8_odds 5 = .ok (.ifCond .eq 22, 3) := by decide +kernel
theorem dX8_odds_8 : decode cX8_odds 8 = .ok (.iload_n 2, 1) := by decide +kernel
theorem dX8_odds_9 : decode cX8_odds 9 = .ok (.ifCond .lt 18, 3) := by decide +kernel
theorem dX8_odds_12 : decode cX8_odds 12 = .ok (.iload_n 2, 1) := by decide +kernel
theorem dX8_odds_13 : decode cX8_odds 13 = .ok (.bipush 10, 2) := by decide +kernel
theorem dX8_odds_15 : decode cX8_odds 15 = .ok (.if_icmp .gt 12, 3) := by decide +kernel
theorem dX8_odds_18 : decode cX8_odds 18 = .ok (.iload_n 3, 1) := by decide +kernel
theorem dX8_odds_19 : decode cX8_odds 19 = .ok (.ifCond .lt 8, 3) := by decide +kernel
theorem dX8_odds_22 : decode cX8_odds 22 = .ok (.iload_n 3, 1) := by decide +kernel
theorem dX8_odds_23 : decode cX8_odds 23 = .ok (.iconst 1, 1) := by decide +kernel
theorem dX8_odds_24 : decode cX8_odds 24 = .ok (.if_icmp .le 5, 3) := by decide +kernel
theorem dX8_odds_27 : decode cX8_odds 27 = .ok (.iconst (-1), 1) := by decide +kernel
theorem dX8_odds_28 : decode cX8_odds 28 = .ok (.ireturn, 1) := by decide +kernel
theorem dX8_odds_29 : decode cX8_odds 29 = .ok (.aload_n 0, 1) := by decide +kernel
theorem dX8_odds_30 : decode cX8_odds 30 = .ok (.getfield 19, 3) := by decide +kernel
theorem dX8_odds_33 : decode cX8_odds 33 = .ok (.invokevirtual 136, 3) := by decide +kernel
theorem dX8_odds_36 : decode cX8_odds 36 = .ok (.ifCond .ne 6, 3) := by decide +kernel
theorem dX8_odds_39 : decode cX8_odds 39 = .ok (.bipush (-2), 2) := by decide +kernel
theorem dX8_odds_41 : decode cX8_odds 41 = .ok (.ireturn, 1) := by decide +kernel
theorem dX8_odds_42 : decode cX8_odds 42 = .ok (.aload_n 0, 1) := by decide +kernel
theorem dX8_odds_43 : decode cX8_odds 43 = .ok (.getfield 58, 3) := by decide +kernel
theorem dX8_odds_46 : decode cX8_odds 46 = .ok (.iload_n 1, 1) := by decide +kernel
theorem dX8_odds_47 : decode cX8_odds 47 = .ok (.iload_n 2, 1) := by decide +kernel
theorem dX8_odds_48 : decode cX8_odds 48 = .ok (.invokevirtual 199, 3) := by decide +kernel
theorem dX8_odds_51 : decode cX8_odds 51 = .ok (.istore 4, 2) := by decide +kernel
theorem dX8_odds_53 : decode cX8_odds 53 = .ok (.aload_n 0, 1) := by decide +kernel
theorem dX8_odds_54 : decode cX8_odds 54 = .ok (.getfield 58, 3) := by decide +kernel
theorem dX8_odds_57 : decode cX8_odds 57 = .ok (.invokevirtual 202, 3) := by decide +kernel
theorem dX8_odds_60 : decode cX8_odds 60 = .ok (.istore 5, 2) := by decide +kernel
theorem dX8_odds_62 : decode cX8_odds 62 = .ok (.iload 5, 2) := by decide +kernel
theorem dX8_odds_64 : decode cX8_odds 64 = .ok (.iload 4, 2) := by decide +kernel
theorem dX8_odds_66 : decode cX8_odds 66 = .ok (.invokestatic 205, 3) := by decide +kernel
theorem dX8_odds_69 : decode cX8_odds 69 = .ok (.istore 6, 2) := by decide +kernel
theorem dX8_odds_71 : decode cX8_odds 71 = .ok (.iload 6, 2) := by decide +kernel
theorem dX8_odds_73 : decode cX8_odds 73 = .ok (.iconst 1, 1) := by decide +kernel
theorem dX8_odds_74 : decode cX8_odds 74 = .ok (.if_icmp .ge 6, 3) := by decide +kernel
theorem dX8_odds_77 : decode cX8_odds 77 = .ok (.bipush (-2), 2) := by decide +kernel
theorem dX8_odds_79 : decode cX8_odds 79 = .ok (.ireturn, 1) := by decide +kernel
theorem dX8_odds_80 : decode cX8_odds 80 = .ok (.iload_n 3, 1) := by decide +kernel
theorem dX8_odds_81 : decode cX8_odds 81 = .ok (.ifCond .ne 8, 3) := by decide +kernel
theorem dX8_odds_84 : decode cX8_odds 84 = .ok (.iload 4, 2) := by decide +kernel
theorem dX8_odds_86 : decode cX8_odds 86 = .ok (.goto 5, 3) := by decide +kernel
theorem dX8_odds_89 : decode cX8_odds 89 = .ok (.iload 5, 2) := by decide +kernel
theorem dX8_odds_91 : decode cX8_odds 91 = .ok (.iload 6, 2) := by decide +kernel
theorem dX8_odds_93 : decode cX8_odds 93 = .ok (.idiv, 1) := by decide +kernel
theorem dX8_odds_94 : decode cX8_odds 94 = .ok (.ireturn, 1) := by decide +kernel
theorem dX8_times_0 : decode cX8_times 0 = .ok (.aload_n 0, 1) := by decide +kernel
theorem dX8_times_1 : decode cX8_times 1 = .ok (.iload_n 1, 1) := by decide +kernel
theorem dX8_times_2 : decode cX8_times 2 = .ok (.invokevirtual 96, 3) := by decide +kernel
theorem dX8_times_5 : decode cX8_times 5 = .ok (.ifCond .eq 15, 3) := by decide +kernel
theorem dX8_times_8 : decode cX8_times 8 = .ok (.iload_n 2, 1) := by decide +kernel
theorem dX8_times_9 : decode cX8_times 9 = .ok (.iconst 1, 1) := by decide +kernel
theorem dX8_times_10 : decode cX8_times 10 = .ok (.if_icmp .lt 10, 3) := by decide +kernel
theorem dX8_times_13 : decode cX8_times 13 = .ok (.iload_n 2, 1) := by decide +kernel
theorem dX8_times_14 : decode cX8_times 14 = .ok (.sipush 200, 3) := by decide +kernel
theorem dX8_times_17 : decode cX8_times 17 = .ok (.if_icmp .le 5, 3) := by decide +kernel
theorem dX8_times_20 : decode cX8_times 20 = .ok (.iconst (-1), 1) := by decide +kernel
theorem dX8_times_21 : decode cX8_times 21 = .ok (.ireturn, 1) := by decide +kernel
theorem dX8_times_22 : decode cX8_times 22 = .ok (.aload_n 0, 1) := by decide +kernel
theorem dX8_times_23 : decode cX8_times 23 = .ok (.getfield 19, 3) := by decide +kernel
theorem dX8_times_26 : decode cX8_times 26 = .ok (.invokevirtual 136, 3) := by decide +kernel
theorem dX8_times_29 : decode cX8_times 29 = .ok (.ifCond .ne 6, 3) := by decide +kernel
theorem dX8_times_32 : decode cX8_times 32 = .ok (.bipush (-2), 2) := by decide +kernel
theorem dX8_times_34 : decode cX8_times 34 = .ok (.ireturn, 1) := by decide +kernel
theorem dX8_times_35 : decode cX8_times 35 = .ok (.aload_n 0, 1) := by decide +kernel
theorem dX8_times_36 : decode cX8_times 36 = .ok (.getfield 49, 3) := by decide +kernel
theorem dX8_times_39 : decode cX8_times 39 = .ok (.getfield 91, 3) := by decide +kernel
theorem dX8_times_42 : decode cX8_times 42 = .ok (.bipush 6, 2) := by decide +kernel
theorem dX8_times_44 : decode cX8_times 44 = .ok (.if_icmp .lt 6, 3) := by decide +kernel
theorem dX8_times_47 : decode cX8_times 47 = .ok (.bipush (-3), 2) := by decide +kernel
theorem dX8_times_49 : decode cX8_times 49 = .ok (.ireturn, 1) := by decide +kernel
theorem dX8_times_50 : decode cX8_times 50 = .ok (.aload_n 0, 1) := by decide +kernel
theorem dX8_times_51 : decode cX8_times 51 = .ok (.getfield 49, 3) := by decide +kernel
theorem dX8_times_54 : decode cX8_times 54 = .ok (.iload_n 1, 1) := by decide +kernel
theorem dX8_times_55 : decode cX8_times 55 = .ok (.iload_n 2, 1) := by decide +kernel
theorem dX8_times_56 : decode cX8_times 56 = .ok (.invokevirtual 208, 3) := by decide +kernel
theorem dX8_times_59 : decode cX8_times 59 = .ok (.aload_n 0, 1) := by decide +kernel
theorem dX8_times_60 : decode cX8_times 60 = .ok (.getfield 49, 3) := by decide +kernel
theorem dX8_times_63 : decode cX8_times 63 = .ok (.getfield 91, 3) := by decide +kernel
theorem dX8_times_66 : decode cX8_times 66 = .ok (.ireturn, 1) := by decide +kernel
theorem dX8_forget_0 : decode cX8_forget 0 = .ok (.aload_n 0, 1) := by decide +kernel
theorem dX8_forget_1 : decode cX8_forget 1 = .ok (.getfield 49, 3) := by decide +kernel
theorem dX8_forget_4 : decode cX8_forget 4 = .ok (.getfield 91, 3) := by decide +kernel
theorem dX8_forget_7 : decode cX8_forget 7 = .ok (.istore_n 1, 1) := by decide +kernel
theorem dX8_forget_8 : decode cX8_forget 8 = .ok (.aload_n 0, 1) := by decide +kernel
theorem dX8_forget_9 : decode cX8_forget 9 = .ok (.getfield 49, 3) := by decide +kernel
theorem dX8_forget_12 : decode cX8_forget 12 = .ok (.iconst 0, 1) := by decide +kernel
theorem dX8_forget_13 : decode cX8_forget 13 = .ok (.putfield 91, 3) := by decide +kernel
theorem dX8_forget_16 : decode cX8_forget 16 = .ok (.iload_n 1, 1) := by decide +kernel
theorem dX8_forget_17 : decode cX8_forget 17 = .ok (.ireturn, 1) := by decide +kernel
theorem dX8_rate_0 : decode cX8_rate 0 = .ok (.aload_n 0, 1) := by decide +kernel
theorem dX8_rate_1 : decode cX8_rate 1 = .ok (.iload_n 2, 1) := by decide +kernel
theorem dX8_rate_2 : decode cX8_rate 2 = .ok (.invokevirtual 96, 3) := by decide +kernel
theorem dX8_rate_5 : decode cX8_rate 5 = .ok (.ifCond .ne 6, 3) := by decide +kernel
theorem dX8_rate_8 : decode cX8_rate 8 = .ok (.ldc 211, 2) := by decide +kernel
theorem dX8_rate_10 : decode cX8_rate 10 = .ok (.ireturn, 1) := by decide +kernel
theorem dX8_rate_11 : decode cX8_rate 11 = .ok (.iload_n 1, 1) := by decide +kernel
theorem dX8_rate_12 : decode cX8_rate 12 = .ok (.tableswitch 94 0 5 #[40, 49, 58, 67, 76, 85], 40) := by decide +kernel
theorem dX8_rate_52 : decode cX8_rate 52 = .ok (.aload_n 0, 1) := by decide +kernel
theorem dX8_rate_53 : decode cX8_rate 53 = .ok (.getfield 65, 3) := by decide +kernel
theorem dX8_rate_56 : decode cX8_rate 56 = .ok (.iload_n 2, 1) := by decide +kernel
theorem dX8_rate_57 : decode cX8_rate 57 = .ok (.invokevirtual 212, 3) := by decide +kernel
theorem dX8_rate_60 : decode cX8_rate 60 = .ok (.ireturn, 1) := by decide +kernel
theorem dX8_rate_61 : decode cX8_rate 61 = .ok (.aload_n 0, 1) := by decide +kernel
theorem dX8_rate_62 : decode cX8_rate 62 = .ok (.getfield 65, 3) := by decide +kernel
theorem dX8_rate_65 : decode cX8_rate 65 = .ok (.iload_n 2, 1) := by decide +kernel
theorem dX8_rate_66 : decode cX8_rate 66 = .ok (.invokevirtual 215, 3) := by decide +kernel
theorem dX8_rate_69 : decode cX8_rate 69 = .ok (.ireturn, 1) := by decide +kernel
theorem dX8_rate_70 : decode cX8_rate 70 = .ok (.aload_n 0, 1) := by decide +kernel
theorem dX8_rate_71 : decode cX8_rate 71 = .ok (.getfield 65, 3) := by decide +kernel
theorem dX8_rate_74 : decode cX8_rate 74 = .ok (.iload_n 2, 1) := by decide +kernel
theorem dX8_rate_75 : decode cX8_rate 75 = .ok (.invokevirtual 218, 3) := by decide +kernel
theorem dX8_rate_78 : decode cX8_rate 78 = .ok (.ireturn, 1) := by decide +kernel
theorem dX8_rate_79 : decode cX8_rate 79 = .ok (.aload_n 0, 1) := by decide +kernel
theorem dX8_rate_80 : decode cX8_rate 80 = .ok (.getfield 65, 3) := by decide +kernel
theorem dX8_rate_83 : decode cX8_rate 83 = .ok (.iload_n 2, 1) := by decide +kernel
theorem dX8_rate_84 : decode cX8_rate 84 = .ok (.invokevirtual 221, 3) := by decide +kernel
theorem dX8_rate_87 : decode cX8_rate 87 = .ok (.ireturn, 1) := by decide +kernel
theorem dX8_rate_88 : decode cX8_rate 88 = .ok (.aload_n 0, 1) := by decide +kernel
theorem dX8_rate_89 : decode cX8_rate 89 = .ok (.getfield 65, 3) := by decide +kernel
theorem dX8_rate_92 : decode cX8_rate 92 = .ok (.iload_n 2, 1) := by decide +kernel
theorem dX8_rate_93 : decode cX8_rate 93 = .ok (.invokevirtual 224, 3) := by decide +kernel
theorem dX8_rate_96 : decode cX8_rate 96 = .ok (.ireturn, 1) := by decide +kernel
theorem dX8_rate_97 : decode cX8_rate 97 = .ok (.aload_n 0, 1) := by decide +kernel
theorem dX8_rate_98 : decode cX8_rate 98 = .ok (.getfield 65, 3) := by decide +kernel
theorem dX8_rate_101 : decode cX8_rate 101 = .ok (.iload_n 2, 1) := by decide +kernel
theorem dX8_rate_102 : decode cX8_rate 102 = .ok (.invokevirtual 227, 3) := by decide +kernel
theorem dX8_rate_105 : decode cX8_rate 105 = .ok (.ireturn, 1) := by decide +kernel
theorem dX8_rate_106 : decode cX8_rate 106 = .ok (.ldc 211, 2) := by decide +kernel
theorem dX8_rate_108 : decode cX8_rate 108 = .ok (.ireturn, 1) := by decide +kernel
theorem dX8_keep_0 : decode cX8_keep 0 = .ok (.iload_n 1, 1) := by decide +kernel
theorem dX8_keep_1 : decode cX8_keep 1 = .ok (.ifCond .lt 8, 3) := by decide +kernel
theorem dX8_keep_4 : decode cX8_keep 4 = .ok (.iload_n 1, 1) := by decide +kernel
theorem dX8_keep_5 : decode cX8_keep 5 = .ok (.iconst 1, 1) := by decide +kernel
theorem dX8_keep_6 : decode cX8_keep 6 = .ok (.if_icmp .le 5, 3) := by decide +kernel
theorem dX8_keep_9 : decode cX8_keep 9 = .ok (.iconst (-1), 1) := by decide +kernel
theorem dX8_keep_10 : decode cX8_keep 10 = .ok (.ireturn, 1) := by decide +kernel
theorem dX8_keep_11 : decode cX8_keep 11 = .ok (.aload_n 0, 1) := by decide +kernel
theorem dX8_keep_12 : decode cX8_keep 12 = .ok (.iload_n 1, 1) := by decide +kernel
theorem dX8_keep_13 : decode cX8_keep 13 = .ok (.invokevirtual 230, 3) := by decide +kernel
theorem dX8_keep_16 : decode cX8_keep 16 = .ok (.astore_n 2, 1) := by decide +kernel
theorem dX8_keep_17 : decode cX8_keep 17 = .ok (.aload_n 2, 1) := by decide +kernel
theorem dX8_keep_18 : decode cX8_keep 18 = .ok (.aload_n 0, 1) := by decide +kernel
theorem dX8_keep_19 : decode cX8_keep 19 = .ok (.getfield 29, 3) := by decide +kernel
theorem dX8_keep_22 : decode cX8_keep 22 = .ok (.invokevirtual 234, 3) := by decide +kernel
theorem dX8_keep_25 : decode cX8_keep 25 = .ok (.aload_n 2, 1) := by decide +kernel
theorem dX8_keep_26 : decode cX8_keep 26 = .ok (.iconst 1, 1) := by decide +kernel
theorem dX8_keep_27 : decode cX8_keep 27 = .ok (.putfield 92, 3) := by decide +kernel
theorem dX8_keep_30 : decode cX8_keep 30 = .ok (.aload_n 0, 1) := by decide +kernel
theorem dX8_keep_31 : decode cX8_keep 31 = .ok (.getfield 29, 3) := by decide +kernel
theorem dX8_keep_34 : decode cX8_keep 34 = .ok (.getfield 133, 3) := by decide +kernel
theorem dX8_keep_37 : decode cX8_keep 37 = .ok (.ireturn, 1) := by decide +kernel
theorem dX8_back_0 : decode cX8_back 0 = .ok (.iload_n 1, 1) := by decide +kernel
theorem dX8_back_1 : decode cX8_back 1 = .ok (.ifCond .lt 8, 3) := by decide +kernel
theorem dX8_back_4 : decode cX8_back 4 = .ok (.iload_n 1, 1) := by decide +kernel
theorem dX8_back_5 : decode cX8_back 5 = .ok (.iconst 1, 1) := by decide +kernel
theorem dX8_back_6 : decode cX8_back 6 = .ok (.if_icmp .le 5, 3) := by decide +kernel
theorem dX8_back_9 : decode cX8_back 9 = .ok (.iconst (-1), 1) := by decide +kernel
theorem dX8_back_10 : decode cX8_back 10 = .ok (.ireturn, 1) := by decide +kernel
theorem dX8_back_11 : decode cX8_back 11 = .ok (.aload_n 0, 1) := by decide +kernel
theorem dX8_back_12 : decode cX8_back 12 = .ok (.iload_n 1, 1) := by decide +kernel
theorem dX8_back_13 : decode cX8_back 13 = .ok (.invokevirtual 230, 3) := by decide +kernel
theorem dX8_back_16 : decode cX8_back 16 = .ok (.astore_n 2, 1) := by decide +kernel
theorem dX8_back_17 : decode cX8_back 17 = .ok (.aload_n 2, 1) := by decide +kernel
theorem dX8_back_18 : decode cX8_back 18 = .ok (.getfield 92, 3) := by decide +kernel
theorem dX8_back_21 : decode cX8_back 21 = .ok (.ifCond .ne 6, 3) := by decide +kernel
theorem dX8_back_24 : decode cX8_back 24 = .ok (.bipush (-2), 2) := by decide +kernel
theorem dX8_back_26 : decode cX8_back 26 = .ok (.ireturn, 1) := by decide +kernel
theorem dX8_back_27 : decode cX8_back 27 = .ok (.aload_n 0, 1) := by decide +kernel
theorem dX8_back_28 : decode cX8_back 28 = .ok (.getfield 29, 3) := by decide +kernel
theorem dX8_back_31 : decode cX8_back 31 = .ok (.aload_n 2, 1) := by decide +kernel
theorem dX8_back_32 : decode cX8_back 32 = .ok (.invokevirtual 234, 3) := by decide +kernel
theorem dX8_back_35 : decode cX8_back 35 = .ok (.aload_n 0, 1) := by decide +kernel
theorem dX8_back_36 : decode cX8_back 36 = .ok (.getfield 42, 3) := by decide +kernel
theorem dX8_back_39 : decode cX8_back 39 = .ok (.iconst 0, 1) := by decide +kernel
theorem dX8_back_40 : decode cX8_back 40 = .ok (.putfield 88, 3) := by decide +kernel
theorem dX8_back_43 : decode cX8_back 43 = .ok (.aload_n 0, 1) := by decide +kernel
theorem dX8_back_44 : decode cX8_back 44 = .ok (.getfield 29, 3) := by decide +kernel
theorem dX8_back_47 : decode cX8_back 47 = .ok (.getfield 133, 3) := by decide +kernel
theorem dX8_back_50 : decode cX8_back 50 = .ok (.ireturn, 1) := by decide +kernel
theorem dX8_count_0 : decode cX8_count 0 = .ok (.iload_n 1, 1) := by decide +kernel
theorem dX8_count_1 : decode cX8_count 1 = .ok (.tableswitch 63 0 3 #[31, 39, 47, 55], 31) := by decide +kernel
theorem dX8_count_32 : decode cX8_count 32 = .ok (.aload_n 0, 1) := by decide +kernel
theorem dX8_count_33 : decode cX8_count 33 = .ok (.getfield 19, 3) := by decide +kernel
theorem dX8_count_36 : decode cX8_count 36 = .ok (.getfield 127, 3) := by decide +kernel
theorem dX8_count_39 : decode cX8_count 39 = .ok (.ireturn, 1) := by decide +kernel
theorem dX8_count_40 : decode cX8_count 40 = .ok (.aload_n 0, 1) := by decide +kernel
theorem dX8_count_41 : decode cX8_count 41 = .ok (.getfield 19, 3) := by decide +kernel
theorem dX8_count_44 : decode cX8_count 44 = .ok (.getfield 162, 3) := by decide +kernel
theorem dX8_count_47 : decode cX8_count 47 = .ok (.ireturn, 1) := by decide +kernel
theorem dX8_count_48 : decode cX8_count 48 = .ok (.aload_n 0, 1) := by decide +kernel
theorem dX8_count_49 : decode cX8_count 49 = .ok (.getfield 49, 3) := by decide +kernel
theorem dX8_count_52 : decode cX8_count 52 = .ok (.getfield 91, 3) := by decide +kernel
theorem dX8_count_55 : decode cX8_count 55 = .ok (.ireturn, 1) := by decide +kernel
theorem dX8_count_56 : decode cX8_count 56 = .ok (.aload_n 0, 1) := by decide +kernel
theorem dX8_count_57 : decode cX8_count 57 = .ok (.getfield 10, 3) := by decide +kernel
theorem dX8_count_60 : decode cX8_count 60 = .ok (.getfield 69, 3) := by decide +kernel
theorem dX8_count_63 : decode cX8_count 63 = .ok (.ireturn, 1) := by decide +kernel
theorem dX8_count_64 : decode cX8_count 64 = .ok (.iconst (-1), 1) := by decide +kernel
theorem dX8_count_65 : decode cX8_count 65 = .ok (.ireturn, 1) := by decide +kernel
theorem dX8_trace_0 : decode cX8_trace 0 = .ok (.aload_n 0, 1) := by decide +kernel
theorem dX8_trace_1 : decode cX8_trace 1 = .ok (.getfield 65, 3) := by decide +kernel
theorem dX8_trace_4 : decode cX8_trace 4 = .ok (.getfield 236, 3) := by decide +kernel
theorem dX8_trace_7 : decode cX8_trace 7 = .ok (.lreturn, 1) := by decide +kernel
theorem dX8_isChair_0 : decode cX8_isChair 0 = .ok (.iload_n 1, 1) := by decide +kernel
theorem dX8_isChair_1 : decode cX8_isChair 1 = .ok (.ifCond .lt 18, 3) := by decide +kernel
theorem dX8_isChair_4 : decode cX8_isChair 4 = .ok (.iload_n 1, 1) := by decide +kernel
theorem dX8_isChair_5 : decode cX8_isChair 5 = .ok (.aload_n 0, 1) := by decide +kernel
theorem dX8_isChair_6 : decode cX8_isChair 6 = .ok (.getfield 19, 3) := by decide +kernel
theorem dX8_isChair_9 : decode cX8_isChair 9 = .ok (.getfield 162, 3) := by decide +kernel
theorem dX8_isChair_12 : decode cX8_isChair 12 = .ok (.if_icmp .ge 7, 3) := by decide +kernel
theorem dX8_isChair_15 : decode cX8_isChair 15 = .ok (.iconst 1, 1) := by decide +kernel
theorem dX8_isChair_16 : decode cX8_isChair 16 = .ok (.goto 4, 3) := by decide +kernel
theorem dX8_isChair_19 : decode cX8_isChair 19 = .ok (.iconst 0, 1) := by decide +kernel
theorem dX8_isChair_20 : decode cX8_isChair 20 = .ok (.ireturn, 1) := by decide +kernel
theorem dX8_imageOf_0 : decode cX8_imageOf 0 = .ok (.iload_n 1, 1) := by decide +kernel
theorem dX8_imageOf_1 : decode cX8_imageOf 1 = .ok (.ifCond .ne 10, 3) := by decide +kernel
theorem dX8_imageOf_4 : decode cX8_imageOf 4 = .ok (.aload_n 0, 1) := by decide +kernel
theorem dX8_imageOf_5 : decode cX8_imageOf 5 = .ok (.getfield 33, 3) := by decide +kernel
theorem dX8_imageOf_8 : decode cX8_imageOf 8 = .ok (.goto 7, 3) := by decide +kernel
theorem dX8_imageOf_11 : decode cX8_imageOf 11 = .ok (.aload_n 0, 1) := by decide +kernel
theorem dX8_imageOf_12 : decode cX8_imageOf 12 = .ok (.getfield 36, 3) := by decide +kernel
theorem dX8_imageOf_15 : decode cX8_imageOf 15 = .ok (.areturn, 1) := by decide +kernel
theorem dX8_commonDivisor_0 : decode cX8_commonDivisor 0 = .ok (.iload_n 0, 1) := by decide +kernel
theorem dX8_commonDivisor_1 : decode cX8_commonDivisor 1 = .ok (.istore_n 2, 1) := by decide +kernel
theorem dX8_commonDivisor_2 : decode cX8_commonDivisor 2 = .ok (.iload_n 1, 1) := by decide +kernel
theorem dX8_commonDivisor_3 : decode cX8_commonDivisor 3 = .ok (.istore_n 3, 1) := by decide +kernel
theorem dX8_commonDivisor_4 : decode cX8_commonDivisor 4 = .ok (.iconst 0, 1) := by decide +kernel
theorem dX8_commonDivisor_5 : decode cX8_commonDivisor 5 = .ok (.istore 4, 2) := by decide +kernel
theorem dX8_commonDivisor_7 : decode cX8_commonDivisor 7 = .ok (.iload 4, 2) := by decide +kernel
theorem dX8_commonDivisor_9 : decode cX8_commonDivisor 9 = .ok (.bipush 100, 2) := by decide +kernel
theorem dX8_commonDivisor_11 : decode cX8_commonDivisor 11 = .ok (.if_icmp .ge 23, 3) := by decide +kernel
theorem dX8_commonDivisor_14 : decode cX8_commonDivisor 14 = .ok (.iload_n 3, 1) := by decide +kernel
theorem dX8_commonDivisor_15 : decode cX8_commonDivisor 15 = .ok (.ifCond .eq 19, 3) := by decide +kernel
theorem dX8_commonDivisor_18 : decode cX8_commonDivisor 18 = .ok (.iload_n 2, 1) := by decide +kernel
theorem dX8_commonDivisor_19 : decode cX8_commonDivisor 19 = .ok (.iload_n 3, 1) := by decide +kernel
theorem dX8_commonDivisor_20 : decode cX8_commonDivisor 20 = .ok (.irem, 1) := by decide +kernel
theorem dX8_commonDivisor_21 : decode cX8_commonDivisor 21 = .ok (.istore 5, 2) := by decide +kernel
theorem dX8_commonDivisor_23 : decode cX8_commonDivisor 23 = .ok (.iload_n 3, 1) := by decide +kernel
theorem dX8_commonDivisor_24 : decode cX8_commonDivisor 24 = .ok (.istore_n 2, 1) := by decide +kernel
theorem dX8_commonDivisor_25 : decode cX8_commonDivisor 25 = .ok (.iload 5, 2) := by decide +kernel
theorem dX8_commonDivisor_27 : decode cX8_commonDivisor 27 = .ok (.istore_n 3, 1) := by decide +kernel
theorem dX8_commonDivisor_28 : decode cX8_commonDivisor 28 = .ok (.iinc 4 1, 3) := by decide +kernel
theorem dX8_commonDivisor_31 : decode cX8_commonDivisor 31 = .ok (.goto (-24), 3) := by decide +kernel
theorem dX8_commonDivisor_34 : decode cX8_commonDivisor 34 = .ok (.iload_n 2, 1) := by decide +kernel
theorem dX8_commonDivisor_35 : decode cX8_commonDivisor 35 = .ok (.ireturn, 1) := by decide +kernel
end
section
theorem dX9_init_0 : decode cX9_init 0 = .ok (.aload_n 0, 1) := by decide +kernel
theorem dX9_init_1 : decode cX9_init 1 = .ok (.invokespecial 1, 3) := by decide +kernel
theorem dX9_init_4 : decode cX9_init 4 = .ok (.aload_n 0, 1) := by decide +kernel
theorem dX9_init_5 : decode cX9_init 5 = .ok (.bipush 16, 2) := by decide +kernel
theorem dX9_init_7 : decode cX9_init 7 = .ok (.newarray .int, 2) := by decide +kernel
theorem dX9_init_9 : decode cX9_init 9 = .ok (.putfield 7, 3) := by decide +kernel
theorem dX9_init_12 : decode cX9_init 12 = .ok (.aload_n 0, 1) := by decide +kernel
theorem dX9_init_13 : decode cX9_init 13 = .ok (.bipush 10, 2) := by decide +kernel
theorem dX9_init_15 : decode cX9_init 15 = .ok (.newarray .int, 2) := by decide +kernel
theorem dX9_init_17 : decode cX9_init 17 = .ok (.putfield 13, 3) := by decide +kernel
theorem dX9_init_20 : decode cX9_init 20 = .ok (.aload_n 0, 1) := by decide +kernel
theorem dX9_init_21 : decode cX9_init 21 = .ok (.iconst 5, 1) := by decide +kernel
theorem dX9_init_22 : decode cX9_init 22 = .ok (.newarray .int, 2) := by decide +kernel
theorem dX9_init_24 : decode cX9_init 24 = .ok (.putfield 16, 3) := by decide +kernel
theorem dX9_init_27 : decode cX9_init 27 = .ok (.aload_n 0, 1) := by decide +kernel
theorem dX9_init_28 : decode cX9_init 28 = .ok (.bipush 17, 2) := by decide +kernel
theorem dX9_init_30 : decode cX9_init 30 = .ok (.newarray .int, 2) := by decide +kernel
theorem dX9_init_32 : decode cX9_init 32 = .ok (.putfield 19, 3) := by decide +kernel
theorem dX9_init_35 : decode cX9_init 35 = .ok (.aload_n 0, 1) := by decide +kernel
theorem dX9_init_36 : decode cX9_init 36 = .ok (.sipush 170, 3) := by decide +kernel
theorem dX9_init_39 : decode cX9_init 39 = .ok (.newarray .int, 2) := by decide +kernel
theorem dX9_init_41 : decode cX9_init 41 = .ok (.putfield 22, 3) := by decide +kernel
theorem dX9_init_44 : decode cX9_init 44 = .ok (.aload_n 0, 1) := by decide +kernel
theorem dX9_init_45 : decode cX9_init 45 = .ok (.bipush 34, 2) := by decide +kernel
theorem dX9_init_47 : decode cX9_init 47 = .ok (.newarray .int, 2) := by decide +kernel
theorem dX9_init_49 : decode cX9_init 49 = .ok (.putfield 25, 3) := by decide +kernel
theorem dX9_init_52 : decode cX9_init 52 = .ok (.aload_n 0, 1) := by decide +kernel
theorem dX9_init_53 : decode cX9_init 53 = .ok (.iconst 2, 1) := by decide +kernel
theorem dX9_init_54 : decode cX9_init 54 = .ok (.newarray .boolean, 2) := by decide +kernel
theorem dX9_init_56 : decode cX9_init 56 = .ok (.putfield 28, 3) := by decide +kernel
theorem dX9_init_59 : decode cX9_init 59 = .ok (.aload_n 0, 1) := by decide +kernel
theorem dX9_init_60 : decode cX9_init 60 = .ok (.bipush 12, 2) := by decide +kernel
theorem dX9_init_62 : decode cX9_init 62 = .ok (.newarray .int, 2) := by decide +kernel
theorem dX9_init_64 : decode cX9_init 64 = .ok (.putfield 32, 3) := by decide +kernel
theorem dX9_init_67 : decode cX9_init 67 = .ok (.aload_n 0, 1) := by decide +kernel
theorem dX9_init_68 : decode cX9_init 68 = .ok (.bipush 120, 2) := by decide +kernel
theorem dX9_init_70 : decode cX9_init 70 = .ok (.newarray .int, 2) := by decide +kernel
theorem dX9_init_72 : decode cX9_init 72 = .ok (.putfield 35, 3) := by decide +kernel
theorem dX9_init_75 : decode cX9_init 75 = .ok (.aload_n 0, 1) := by decide +kernel
theorem dX9_init_76 : decode cX9_init 76 = .ok (.bipush 16, 2) := by decide +kernel
theorem dX9_init_78 : decode cX9_init 78 = .ok (.newarray .int, 2) := by decide +kernel
theorem dX9_init_80 : decode cX9_init 80 = .ok (.putfield 38, 3) := by decide +kernel
theorem dX9_init_83 : decode cX9_init 83 = .ok (.aload_n 0, 1) := by decide +kernel
theorem dX9_init_84 : decode cX9_init 84 = .ok (.bipush 10, 2) := by decide +kernel
theorem dX9_init_86 : decode cX9_init 86 = .ok (.newarray .int, 2) := by decide +kernel
theorem dX9_init_88 : decode cX9_init 88 = .ok (.putfield 41, 3) := by decide +kernel
theorem dX9_init_91 : decode cX9_init 91 = .ok (.aload_n 0, 1) := by decide +kernel
theorem dX9_init_92 : decode cX9_init 92 = .ok (.iconst 5, 1) := by decide +kernel
theorem dX9_init_93 : decode cX9_init 93 = .ok (.newarray .int, 2) := by decide +kernel
theorem dX9_init_95 : decode cX9_init 95 = .ok (.putfield 44, 3) := by decide +kernel
theorem dX9_init_98 : decode cX9_init 98 = .ok (.aload_n 0, 1) := by decide +kernel
theorem dX9_init_99 : decode cX9_init 99 = .ok (.bipush 17, 2) := by decide +kernel
theorem dX9_init_101 : decode cX9_init 101 = .ok (.newarray .int, 2) := by decide +kernel
theorem dX9_init_103 : decode cX9_init 103 = .ok (.putfield 47, 3) := by decide +kernel
theorem dX9_init_106 : decode cX9_init 106 = .ok (.aload_n 0, 1) := by decide +kernel
theorem dX9_init_107 : decode cX9_init 107 = .ok (.iconst 5, 1) := by decide +kernel
theorem dX9_init_108 : decode cX9_init 108 = .ok (.newarray .int, 2) := by decide +kernel
theorem dX9_init_110 : decode cX9_init 110 = .ok (.putfield 50, 3) := by decide +kernel
theorem dX9_init_113 : decode cX9_init 113 = .ok (.aload_n 0, 1) := by decide +kernel
theorem dX9_init_114 : decode cX9_init 114 = .ok (.iconst 5, 1) := by decide +kernel
theorem dX9_init_115 : decode cX9_init 115 = .ok (.newarray .int, 2) := by decide +kernel
theorem dX9_init_117 : decode cX9_init 117 = .ok (.putfield 53, 3) := by decide +kernel
theorem dX9_init_120 : decode cX9_init 120 = .ok (.aload_n 0, 1) := by decide +kernel
theorem dX9_init_121 : decode cX9_init 121 = .ok (.iconst 5, 1) := by decide +kernel
theorem dX9_init_122 : decode cX9_init 122 = .ok (.newarray .int, 2) := by decide +kernel
theorem dX9_init_124 : decode cX9_init 124 = .ok (.putfield 56, 3) := by decide +kernel
theorem dX9_init_127 : decode cX9_init 127 = .ok (.aload_n 0, 1) := by decide +kernel
theorem dX9_init_128 : decode cX9_init 128 = .ok (.iconst 5, 1) := by decide +kernel
theorem dX9_init_129 : decode cX9_init 129 = .ok (.newarray .int, 2) := by decide +kernel
theorem dX9_init_131 : decode cX9_init 131 = .ok (.putfield 59, 3) := by decide +kernel
theorem dX9_init_134 : decode cX9_init 134 = .ok (.aload_n 0, 1) := by decide +kernel
theorem dX9_init_135 : decode cX9_init 135 = .ok (.bipush 25, 2) := by decide +kernel
theorem dX9_init_137 : decode cX9_init 137 = .ok (.newarray .int, 2) := by decide +kernel
theorem dX9_init_139 : decode cX9_init 139 = .ok (.putfield 62, 3) := by decide +kernel
theorem dX9_init_142 : decode cX9_init 142 = .ok (.aload_n 0, 1) := by decide +kernel
theorem dX9_init_143 : decode cX9_init 143 = .ok (.iconst 5, 1) := by decide +kernel
theorem dX9_init_144 : decode cX9_init 144 = .ok (.newarray .int, 2) := by decide +kernel
theorem dX9_init_146 : decode cX9_init 146 = .ok (.putfield 65, 3) := by decide +kernel
theorem dX9_init_149 : decode cX9_init 149 = .ok (.aload_n 0, 1) := by decide +kernel
theorem dX9_init_150 : decode cX9_init 150 = .ok (.iconst 5, 1) := by decide +kernel
theorem dX9_init_151 : decode cX9_init 151 = .ok (.newarray .int, 2) := by decide +kernel
theorem dX9_init_153 : decode cX9_init 153 = .ok (.putfield 68, 3) := by decide +kernel
theorem dX9_init_156 : decode cX9_init 156 = .ok (.aload_n 0, 1) := by decide +kernel
theorem dX9_init_157 : decode cX9_init 157 = .ok (.iconst 5, 1) := by decide +kernel
theorem dX9_init_158 : decode cX9_init 158 = .ok (.newarray .int, 2) := by decide +kernel
theorem dX9_init_160 : decode cX9_init 160 = .ok (.putfield 71, 3) := by decide +kernel
theorem dX9_init_163 : decode cX9_init 163 = .ok (.return_, 1) := by decide +kernel
theorem dX9_in_0 : decode cX9_in 0 = .ok (.iload_n 0, 1) := by decide +kernel
theorem dX9_in_1 : decode cX9_in 1 = .ok (.iload_n 1, 1) := by decide +kernel
theorem dX9_in_2 : decode cX9_in 2 = .ok (.if_icmp .lt 12, 3) := by decide +kernel
theorem dX9_in_5 : decode cX9_in 5 = .ok (.iload_n 0, 1) := by decide +kernel
theorem dX9_in_6 : decode cX9_in 6 = .ok (.iload_n 2, 1) := by decide +kernel
theorem dX9_in_7 : decode cX9_in 7 = .ok (.if_icmp .gt 7, 3) := by decide +kernel
theorem dX9_in_10 : decode cX9_in 10 = .ok (.iconst 1, 1) := by decide +kernel
theorem dX9_in_11 : decode cX9_in 11 = .ok (.goto 4, 3) := by decide +kernel
theorem dX9_in_14 : decode cX9_in 14 = .ok (.iconst 0, 1) := by decide +kernel
theorem dX9_in_15 : decode cX9_in 15 = .ok (.ireturn, 1) := by decide +kernel
theorem dX9_has_0 : decode cX9_has 0 = .ok (.iload_n 0, 1) := by decide +kernel
theorem dX9_has_1 : decode cX9_has 1 = .ok (.iload_n 1, 1) := by decide +kernel
theorem dX9_has_2 : decode cX9_has 2 = .ok (.ishr, 1) := by decide +kernel
theorem dX9_has_3 : decode cX9_has 3 = .ok (.iconst 1, 1) := by decide +kernel
theorem dX9_has_4 : decode cX9_has 4 = .ok (.iand, 1) := by decide +kernel
theorem dX9_has_5 : decode cX9_has 5 = .ok (.iconst 1, 1) := by decide +kernel
theorem dX9_has_6 : decode cX9_has 6 = .ok (.if_icmp .ne 7, 3) := by decide +kernel
theorem dX9_has_9 : decode cX9_has 9 = .ok (.iconst 1, 1) := by decide +kernel
theorem dX9_has_10 : decode cX9_has 10 = .ok (.goto 4, 3) := by decide +kernel
theorem dX9_has_13 : decode cX9_has 13 = .ok (.iconst 0, 1) := by decide +kernel
theorem dX9_has_14 : decode cX9_has 14 = .ok (.ireturn, 1) := by decide +kernel
theorem dX9_isChair_0 : decode cX9_isChair 0 = .ok (.iload_n 1, 1) := by decide +kernel
theorem dX9_isChair_1 : decode cX9_isChair 1 = .ok (.iconst 0, 1) := by decide +kernel
theorem dX9_isChair_2 : decode cX9_isChair 2 = .ok (.aload_n 0, 1) := by decide +kernel
theorem dX9_isChair_3 : decode cX9_isChair 3 = .ok (.getfield 74, 3) := by decide +kernel
theorem dX9_isChair_6 : decode cX9_isChair 6 = .ok (.iconst 1, 1) := by decide +kernel
theorem dX9_isChair_7 : decode cX9_isChair 7 = .ok (.isub, 1) := by decide +kernel
theorem dX9_isChair_8 : decode cX9_isChair 8 = .ok (.invokestatic 78, 3) := by decide +kernel
theorem dX9_isChair_11 : decode cX9_isChair 11 = .ok (.ireturn, 1) := by decide +kernel
theorem dX9_isRace_0 : decode cX9_isRace 0 = .ok (.aload_n 0, 1) := by decide +kernel
theorem dX9_isRace_1 : decode cX9_isRace 1 = .ok (.getfield 81, 3) := by decide +kernel
theorem dX9_isRace_4 : decode cX9_isRace 4 = .ok (.ifCond .le 14, 3) := by decide +kernel
theorem dX9_isRace_7 : decode cX9_isRace 7 = .ok (.aload_n 0, 1) := by decide +kernel
theorem dX9_isRace_8 : decode cX9_isRace 8 = .ok (.getfield 74, 3) := by decide +kernel
theorem dX9_isRace_11 : decode cX9_isRace 11 = .ok (.ifCond .le 7, 3) := by decide +kernel
theorem dX9_isRace_14 : decode cX9_isRace 14 = .ok (.iconst 1, 1) := by decide +kernel
theorem dX9_isRace_15 : decode cX9_isRace 15 = .ok (.goto 4, 3) := by decide +kernel
theorem dX9_isRace_18 : decode cX9_isRace 18 = .ok (.iconst 0, 1) := by decide +kernel
theorem dX9_isRace_19 : decode cX9_isRace 19 = .ok (.ireturn, 1) := by decide +kernel
theorem dX9_copy_0 : decode cX9_copy 0 = .ok (.iconst 0, 1) := by decide +kernel
theorem dX9_copy_1 : decode cX9_copy 1 = .ok (.istore 4, 2) := by decide +kernel
theorem dX9_copy_3 : decode cX9_copy 3 = .ok (.iload 4, 2) := by decide +kernel
theorem dX9_copy_5 : decode cX9_copy 5 = .ok (.bipush 17, 2) := by decide +kernel
theorem dX9_copy_7 : decode cX9_copy 7 = .ok (.if_icmp .ge 21, 3) := by decide +kernel
theorem dX9_copy_10 : decode cX9_copy 10 = .ok (.aload_n 0, 1) := by decide +kernel
theorem dX9_copy_11 : decode cX9_copy 11 = .ok (.iload_n 1, 1) := by decide +kernel
theorem dX9_copy_12 : decode cX9_copy 12 = .ok (.iload 4, 2) := by decide +kernel
theorem dX9_copy_14 : decode cX9_copy 14 = .ok (.iadd, 1) := by decide +kernel
theorem dX9_copy_15 : decode cX9_copy 15 = .ok (.aload_n 2, 1) := by decide +kernel
theorem dX9_copy_16 : decode cX9_copy 16 = .ok (.iload_n 3, 1) := by decide +kernel
theorem dX9_copy_17 : decode cX9_copy 17 = .ok (.iload 4, 2) := by decide +kernel
theorem dX9_copy_19 : decode cX9_copy 19 = .ok (.iadd, 1) := by decide +kernel
theorem dX9_copy_20 : decode cX9_copy 20 = .ok (.iaload, 1) := by decide +kernel
theorem dX9_copy_21 : decode cX9_copy 21 = .ok (.iastore, 1) := by decide +kernel
theorem dX9_copy_22 : decode cX9_copy 22 = .ok (.iinc 4 1, 3) := by decide +kernel
theorem dX9_copy_25 : decode cX9_copy 25 = .ok (.goto (-22), 3) := by decide +kernel
theorem dX9_copy_28 : decode cX9_copy 28 = .ok (.return_, 1) := by decide +kernel
theorem dX9_type_0 : decode cX9_type 0 = .ok (.iload_n 1, 1) := by decide +kernel
theorem dX9_type_1 : decode cX9_type 1 = .ok (.iconst 0, 1) := by decide +kernel
theorem dX9_type_2 : decode cX9_type 2 = .ok (.sipush 255, 3) := by decide +kernel
theorem dX9_type_5 : decode cX9_type 5 = .ok (.invokestatic 78, 3) := by decide +kernel
theorem dX9_type_8 : decode cX9_type 8 = .ok (.ifCond .ne 5, 3) := by decide +kernel
theorem dX9_type_11 : decode cX9_type 11 = .ok (.iconst (-1), 1) := by decide +kernel
theorem dX9_type_12 : decode cX9_type 12 = .ok (.ireturn, 1) := by decide +kernel
theorem dX9_type_13 : decode cX9_type 13 = .ok (.aload_n 0, 1) := by decide +kernel
theorem dX9_type_14 : decode cX9_type 14 = .ok (.getfield 84, 3) := by decide +kernel
theorem dX9_type_17 : decode cX9_type 17 = .ok (.bipush 120, 2) := by decide +kernel
theorem dX9_type_19 : decode cX9_type 19 = .ok (.if_icmp .ne 6, 3) := by decide +kernel
theorem dX9_type_22 : decode cX9_type 22 = .ok (.bipush (-3), 2) := by decide +kernel
theorem dX9_type_24 : decode cX9_type 24 = .ok (.ireturn, 1) := by decide +kernel
theorem dX9_type_25 : decode cX9_type 25 = .ok (.aload_n 0, 1) := by decide +kernel
theorem dX9_type_26 : decode cX9_type 26 = .ok (.getfield 35, 3) := by decide +kernel
theorem dX9_type_29 : decode cX9_type 29 = .ok (.aload_n 0, 1) := by decide +kernel
theorem dX9_type_30 : decode cX9_type 30 = .ok (.getfield 84, 3) := by decide +kernel
theorem dX9_type_33 : decode cX9_type 33 = .ok (.iload_n 1, 1) := by decide +kernel
theorem dX9_type_34 : decode cX9_type 34 = .ok (.iastore, 1) := by decide +kernel
theorem dX9_type_35 : decode cX9_type 35 = .ok (.aload_n 0, 1) := by decide +kernel
theorem dX9_type_36 : decode cX9_type 36 = .ok (.dup, 1) := by decide +kernel
theorem dX9_type_37 : decode cX9_type 37 = .ok (.getfield 84, 3) := by decide +kernel
theorem dX9_type_40 : decode cX9_type 40 = .ok (.iconst 1, 1) := by decide +kernel
theorem dX9_type_41 : decode cX9_type 41 = .ok (.iadd, 1) := by decide +kernel
theorem dX9_type_42 : decode cX9_type 42 = .ok (.putfield 84, 3) := by decide +kernel
theorem dX9_type_45 : decode cX9_type 45 = .ok (.aload_n 0, 1) := by decide +kernel
theorem dX9_type_46 : decode cX9_type 46 = .ok (.getfield 84, 3) := by decide +kernel
theorem dX9_type_49 : decode cX9_type 49 = .ok (.ireturn, 1) := by decide +kernel
theorem dX9_clear_0 : decode cX9_clear 0 = .ok (.aload_n 0, 1) := by decide +kernel
theorem dX9_clear_1 : decode cX9_clear 1 = .ok (.getfield 84, 3) := by decide +kernel
theorem dX9_clear_4 : decode cX9_clear 4 = .ok (.istore_n 1, 1) := by decide +kernel
theorem dX9_clear_5 : decode cX9_clear 5 = .ok (.aload_n 0, 1) := by decide +kernel
theorem dX9_clear_6 : decode cX9_clear 6 = .ok (.iconst 0, 1) := by decide +kernel
theorem dX9_clear_7 : decode cX9_clear 7 = .ok (.putfield 84, 3) := by decide +kernel
theorem dX9_clear_10 : decode cX9_clear 10 = .ok (.iload_n 1, 1) := by decide +kernel
theorem dX9_clear_11 : decode cX9_clear 11 = .ok (.ireturn, 1) := by decide +kernel
theorem dX9_letterAt_0 : decode cX9_letterAt 0 = .ok (.iload_n 1, 1) := by decide +kernel
theorem dX9_letterAt_1 : decode cX9_letterAt 1 = .ok (.aload_n 0, 1) := by decide +kernel
theorem dX9_letterAt_2 : decode cX9_letterAt 2 = .ok (.getfield 84, 3) := by decide +kernel
theorem dX9_letterAt_5 : decode cX9_letterAt 5 = .ok (.if_icmp .ge 12, 3) := by decide +kernel
theorem dX9_letterAt_8 : decode cX9_letterAt 8 = .ok (.aload_n 0, 1) := by decide +kernel
theorem dX9_letterAt_9 : decode cX9_letterAt 9 = .ok (.getfield 35, 3) := by decide +kernel
theorem dX9_letterAt_12 : decode cX9_letterAt 12 = .ok (.iload_n 1, 1) := by decide +kernel
theorem dX9_letterAt_13 : decode cX9_letterAt 13 = .ok (.iaload, 1) := by decide +kernel
theorem dX9_letterAt_14 : decode cX9_letterAt 14 = .ok (.goto 4, 3) := by decide +kernel
theorem dX9_letterAt_17 : decode cX9_letterAt 17 = .ok (.iconst (-1), 1) := by decide +kernel
theorem dX9_letterAt_18 : decode cX9_letterAt 18 = .ok (.ireturn, 1) := by decide +kernel
theorem dX9_isFigure_0 : decode cX9_isFigure 0 = .ok (.iload_n 0, 1) := by decide +kernel
theorem dX9_isFigure_1 : decode cX9_isFigure 1 = .ok (.bipush 48, 2) := by decide +kernel
theorem dX9_isFigure_3 : decode cX9_isFigure 3 = .ok (.bipush 57, 2) := by decide +kernel
theorem dX9_isFigure_5 : decode cX9_isFigure 5 = .ok (.invokestatic 78, 3) := by decide +kernel
theorem dX9_isFigure_8 : decode cX9_isFigure 8 = .ok (.ireturn, 1) := by decide +kernel
theorem dX9_isLetter_0 : decode cX9_isLetter 0 = .ok (.iload_n 0, 1) := by decide +kernel
theorem dX9_isLetter_1 : decode cX9_isLetter 1 = .ok (.invokestatic 87, 3) := by decide +kernel
theorem dX9_isLetter_4 : decode cX9_isLetter 4 = .ok (.ifCond .gt 21, 3) := by decide +kernel
theorem dX9_isLetter_7 : decode cX9_isLetter 7 = .ok (.iload_n 0, 1) := by decide +kernel
theorem dX9_isLetter_8 : decode cX9_isLetter 8 = .ok (.bipush 108, 2) := by decide +kernel
theorem dX9_isLetter_10 : decode cX9_isLetter 10 = .ok (.if_icmp .eq 15, 3) := by decide +kernel
theorem dX9_isLetter_13 : decode cX9_isLetter 13 = .ok (.iload_n 0, 1) := by decide +kernel
theorem dX9_isLetter_14 : decode cX9_isLetter 14 = .ok (.bipush 99, 2) := by decide +kernel
theorem dX9_isLetter_16 : decode cX9_isLetter 16 = .ok (.if_icmp .eq 9, 3) := by decide +kernel
theorem dX9_isLetter_19 : decode cX9_isLetter 19 = .ok (.iload_n 0, 1) := by decide +kernel
theorem dX9_isLetter_20 : decode cX9_isLetter 20 = .ok (.bipush 112, 2) := by decide +kernel
theorem dX9_isLetter_22 : decode cX9_isLetter 22 = .ok (.if_icmp .ne 7, 3) := by decide +kernel
theorem dX9_isLetter_25 : decode cX9_isLetter 25 = .ok (.iconst 1, 1) := by decide +kernel
theorem dX9_isLetter_26 : decode cX9_isLetter 26 = .ok (.goto 4, 3) := by decide +kernel
theorem dX9_isLetter_29 : decode cX9_isLetter 29 = .ok (.iconst 0, 1) := by decide +kernel
theorem dX9_isLetter_30 : decode cX9_isLetter 30 = .ok (.ireturn, 1) := by decide +kernel
theorem dX9_costOf_0 : decode cX9_costOf 0 = .ok (.iload_n 0, 1) := by decide +kernel
theorem dX9_costOf_1 : decode cX9_costOf 1 = .ok (.lookupswitch 53 #[(98, 50), (100, 48), (102, 43), (117, 45)], 43) := by decide +kernel
theorem dX9_costOf_44 : decode cX9_costOf 44 = .ok (.iconst 4, 1) := by decide +kernel
theorem dX9_costOf_45 : decode cX9_costOf 45 = .ok (.ireturn, 1) := by decide +kernel
theorem dX9_costOf_46 : decode cX9_costOf 46 = .ok (.bipush 8, 2) := by decide +kernel
theorem dX9_costOf_48 : decode cX9_costOf 48 = .ok (.ireturn, 1) := by decide +kernel
theorem dX9_costOf_49 : decode cX9_costOf 49 = .ok (.iconst 2, 1) := by decide +kernel
theorem dX9_costOf_50 : decode cX9_costOf 50 = .ok (.ireturn, 1) := by decide +kernel
theorem dX9_costOf_51 : decode cX9_costOf 51 = .ok (.bipush 6, 2) := by decide +kernel
theorem dX9_costOf_53 : decode cX9_costOf 53 = .ok (.ireturn, 1) := by decide +kernel
theorem dX9_costOf_54 : decode cX9_costOf 54 = .ok (.iconst 0, 1) := by decide +kernel
theorem dX9_costOf_55 : decode cX9_costOf 55 = .ok (.ireturn, 1) := by decide +kernel
theorem dX9_next_0 : decode cX9_next 0 = .ok (.aload_n 0, 1) := by decide +kernel
theorem dX9_next_1 : decode cX9_next 1 = .ok (.aload_n 0, 1) := by decide +kernel
theorem dX9_next_2 : decode cX9_next 2 = .ok (.getfield 91, 3) := by decide +kernel
theorem dX9_next_5 : decode cX9_next 5 = .ok (.invokevirtual 94, 3) := by decide +kernel
theorem dX9_next_8 : decode cX9_next 8 = .ok (.bipush 32, 2) := by decide +kernel
theorem dX9_next_10 : decode cX9_next 10 = .ok (.if_icmp .ne 16, 3) := by decide +kernel
theorem dX9_next_13 : decode cX9_next 13 = .ok (.aload_n 0, 1) := by decide +kernel
theorem dX9_next_14 : decode cX9_next 14 = .ok (.dup, 1) := by decide +kernel
theorem dX9_next_15 : decode cX9_next 15 = .ok (.getfield 91, 3) := by decide +kernel
theorem dX9_next_18 : decode cX9_next 18 = .ok (.iconst 1, 1) := by decide +kernel
theorem dX9_next_19 : decode cX9_next 19 = .ok (.iadd, 1) := by decide +kernel
theorem dX9_next_20 : decode cX9_next 20 = .ok (.putfield 91, 3) := by decide +kernel
theorem dX9_next_23 : decode cX9_next 23 = .ok (.goto (-23), 3) := by decide +kernel
theorem dX9_next_26 : decode cX9_next 26 = .ok (.aload_n 0, 1) := by decide +kernel
theorem dX9_next_27 : decode cX9_next 27 = .ok (.aload_n 0, 1) := by decide +kernel
theorem dX9_next_28 : decode cX9_next 28 = .ok (.getfield 91, 3) := by decide +kernel
theorem dX9_next_31 : decode cX9_next 31 = .ok (.putfield 97, 3) := by decide +kernel
theorem dX9_next_34 : decode cX9_next 34 = .ok (.aload_n 0, 1) := by decide +kernel
theorem dX9_next_35 : decode cX9_next 35 = .ok (.aload_n 0, 1) := by decide +kernel
theorem dX9_next_36 : decode cX9_next 36 = .ok (.getfield 91, 3) := by decide +kernel
theorem dX9_next_39 : decode cX9_next 39 = .ok (.invokevirtual 94, 3) := by decide +kernel
theorem dX9_next_42 : decode cX9_next 42 = .ok (.istore_n 1, 1) := by decide +kernel
theorem dX9_next_43 : decode cX9_next 43 = .ok (.aload_n 0, 1) := by decide +kernel
theorem dX9_next_44 : decode cX9_next 44 = .ok (.iconst 0, 1) := by decide +kernel
theorem dX9_next_45 : decode cX9_next 45 = .ok (.putfield 100, 3) := by decide +kernel
theorem dX9_next_48 : decode cX9_next 48 = .ok (.iload_n 1, 1) := by decide +kernel
theorem dX9_next_49 : decode cX9_next 49 = .ok (.ifCond .ge 11, 3) := by decide +kernel
theorem dX9_next_52 : decode cX9_next 52 = .ok (.aload_n 0, 1) := by decide +kernel
theorem dX9_next_53 : decode cX9_next 53 = .ok (.iconst 0, 1) := by decide +kernel
theorem dX9_next_54 : decode cX9_next 54 = .ok (.putfield 103, 3) := by decide +kernel
theorem dX9_next_57 : decode cX9_next 57 = .ok (.goto 157, 3) := by decide +kernel
theorem dX9_next_60 : decode cX9_next 60 = .ok (.iload_n 1, 1) := by decide +kernel
theorem dX9_next_61 : decode cX9_next 61 = .ok (.invokestatic 106, 3) := by decide +kernel
theorem dX9_next_64 : decode cX9_next 64 = .ok (.ifCond .eq 109, 3) := by decide +kernel
theorem dX9_next_67 : decode cX9_next 67 = .ok (.aload_n 0, 1) := by decide +kernel
theorem dX9_next_68 : decode cX9_next 68 = .ok (.aload_n 0, 1) := by decide +kernel
theorem dX9_next_69 : decode cX9_next 69 = .ok (.getfield 91, 3) := by decide +kernel
theorem dX9_next_72 : decode cX9_next 72 = .ok (.invokevirtual 94, 3) := by decide +kernel
theorem dX9_next_75 : decode cX9_next 75 = .ok (.invokestatic 106, 3) := by decide +kernel
theorem dX9_next_78 : decode cX9_next 78 = .ok (.ifCond .eq 55, 3) := by decide +kernel
theorem dX9_next_81 : decode cX9_next 81 = .ok (.aload_n 0, 1) := by decide +kernel
theorem dX9_next_82 : decode cX9_next 82 = .ok (.aload_n 0, 1) := by decide +kernel
theorem dX9_next_83 : decode cX9_next 83 = .ok (.getfield 100, 3) := by decide +kernel
theorem dX9_next_86 : decode cX9_next 86 = .ok (.bipush 99, 2) := by decide +kernel
theorem dX9_next_88 : decode cX9_next 88 = .ok (.if_icmp .le 10, 3) := by decide +kernel
theorem dX9_next_91 : decode cX9_next 91 = .ok (.aload_n 0, 1) := by decide +kernel
theorem dX9_next_92 : decode cX9_next 92 = .ok (.getfield 100, 3) := by decide +kernel
theorem dX9_next_95 : decode cX9_next 95 = .ok (.goto 22, 3) := by decide +kernel
theorem dX9_next_98 : decode cX9_next 98 = .ok (.bipush 10, 2) := by decide +kernel
theorem dX9_next_100 : decode cX9_next 100 = .ok (.aload_n 0, 1) := by decide +kernel
theorem dX9_next_101 : decode cX9_next 101 = .ok (.getfield 100, 3) := by decide +kernel
theorem dX9_next_104 : decode cX9_next 104 = .ok (.imul, 1) := by decide +kernel
theorem dX9_next_105 : decode cX9_next 105 = .ok (.aload_n 0, 1) := by decide +kernel
theorem dX9_next_106 : decode cX9_next 106 = .ok (.aload_n 0, 1) := by decide +kernel
theorem dX9_next_107 : decode cX9_next 107 = .ok (.getfield 91, 3) := by decide +kernel
theorem dX9_next_110 : decode cX9_next 110 = .ok (.invokevirtual 94, 3) := by decide +kernel
theorem dX9_next_113 : decode cX9_next 113 = .ok (.iadd, 1) := by decide +kernel
theorem dX9_next_114 : decode cX9_next 114 = .ok (.bipush 48, 2) := by decide +kernel
theorem dX9_next_116 : decode cX9_next 116 = .ok (.isub, 1) := by decide +kernel
theorem dX9_next_117 : decode cX9_next 117 = .ok (.putfield 100, 3) := by decide +kernel
theorem dX9_next_120 : decode cX9_next 120 = .ok (.aload_n 0, 1) := by decide +kernel
theorem dX9_next_121 : decode cX9_next 121 = .ok (.dup, 1) := by decide +kernel
theorem dX9_next_122 : decode cX9_next 122 = .ok (.getfield 91, 3) := by decide +kernel
theorem dX9_next_125 : decode cX9_next 125 = .ok (.iconst 1, 1) := by decide +kernel
theorem dX9_next_126 : decode cX9_next 126 = .ok (.iadd, 1) := by decide +kernel
theorem dX9_next_127 : decode cX9_next 127 = .ok (.putfield 91, 3) := by decide +kernel
theorem dX9_next_130 : decode cX9_next 130 = .ok (.goto (-63), 3) := by decide +kernel
theorem dX9_next_133 : decode cX9_next 133 = .ok (.aload_n 0, 1) := by decide +kernel
theorem dX9_next_134 : decode cX9_next 134 = .ok (.aload_n 0, 1) := by decide +kernel
theorem dX9_next_135 : decode cX9_next 135 = .ok (.getfield 100, 3) := by decide +kernel
theorem dX9_next_138 : decode cX9_next 138 = .ok (.bipush 99, 2) := by decide +kernel
theorem dX9_next_140 : decode cX9_next 140 = .ok (.if_icmp .gt 22, 3) := by decide +kernel
theorem dX9_next_143 : decode cX9_next 143 = .ok (.iload_n 1, 1) := by decide +kernel
theorem dX9_next_144 : decode cX9_next 144 = .ok (.bipush 48, 2) := by decide +kernel
theorem dX9_next_146 : decode cX9_next 146 = .ok (.if_icmp .ne 20, 3) := by decide +kernel
theorem dX9_next_149 : decode cX9_next 149 = .ok (.aload_n 0, 1) := by decide +kernel
theorem dX9_next_150 : decode cX9_next 150 = .ok (.getfield 91, 3) := by decide +kernel
theorem dX9_next_153 : decode cX9_next 153 = .ok (.aload_n 0, 1) := by decide +kernel
theorem dX9_next_154 : decode cX9_next 154 = .ok (.getfield 97, 3) := by decide +kernel
theorem dX9_next_157 : decode cX9_next 157 = .ok (.isub, 1) := by decide +kernel
theorem dX9_next_158 : decode cX9_next 158 = .ok (.iconst 1, 1) := by decide +kernel
theorem dX9_next_159 : decode cX9_next 159 = .ok (.if_icmp .le 7, 3) := by decide +kernel
theorem dX9_next_162 : decode cX9_next 162 = .ok (.iconst 4, 1) := by decide +kernel
theorem dX9_next_163 : decode cX9_next 163 = .ok (.goto 4, 3) := by decide +kernel
theorem dX9_next_166 : decode cX9_next 166 = .ok (.iconst 2, 1) := by decide +kernel
theorem dX9_next_167 : decode cX9_next 167 = .ok (.putfield 103, 3) := by decide +kernel
theorem dX9_next_170 : decode cX9_next 170 = .ok (.goto 44, 3) := by decide +kernel
theorem dX9_next_173 : decode cX9_next 173 = .ok (.aload_n 0, 1) := by decide +kernel
theorem dX9_next_174 : decode cX9_next 174 = .ok (.iload_n 1, 1) := by decide +kernel
theorem dX9_next_175 : decode cX9_next 175 = .ok (.invokestatic 110, 3) := by decide +kernel
theorem dX9_next_178 : decode cX9_next 178 = .ok (.ifCond .eq 7, 3) := by decide +kernel
theorem dX9_next_181 : decode cX9_next 181 = .ok (.iconst 1, 1) := by decide +kernel
theorem dX9_next_182 : decode cX9_next 182 = .ok (.goto 14, 3) := by decide +kernel
theorem dX9_next_185 : decode cX9_next 185 = .ok (.iload_n 1, 1) := by decide +kernel
theorem dX9_next_186 : decode cX9_next 186 = .ok (.bipush 59, 2) := by decide +kernel
theorem dX9_next_188 : decode cX9_next 188 = .ok (.if_icmp .ne 7, 3) := by decide +kernel
theorem dX9_next_191 : decode cX9_next 191 = .ok (.iconst 3, 1) := by decide +kernel
theorem dX9_next_192 : decode cX9_next 192 = .ok (.goto 4, 3) := by decide +kernel
theorem dX9_next_195 : decode cX9_next 195 = .ok (.iconst 4, 1) := by decide +kernel
theorem dX9_next_196 : decode cX9_next 196 = .ok (.putfield 103, 3) := by decide +kernel
theorem dX9_next_199 : decode cX9_next 199 = .ok (.aload_n 0, 1) := by decide +kernel
theorem dX9_next_200 : decode cX9_next 200 = .ok (.iload_n 1, 1) := by decide +kernel
theorem dX9_next_201 : decode cX9_next 201 = .ok (.putfield 100, 3) := by decide +kernel
theorem dX9_next_204 : decode cX9_next 204 = .ok (.aload_n 0, 1) := by decide +kernel
theorem dX9_next_205 : decode cX9_next 205 = .ok (.dup, 1) := by decide +kernel
theorem dX9_next_206 : decode cX9_next 206 = .ok (.getfield 91, 3) := by decide +kernel
theorem dX9_next_209 : decode cX9_next 209 = .ok (.iconst 1, 1) := by decide +kernel
theorem dX9_next_210 : decode cX9_next 210 = .ok (.iadd, 1) := by decide +kernel
theorem dX9_next_211 : decode cX9_next 211 = .ok (.putfield 91, 3) := by decide +kernel
theorem dX9_next_214 : decode cX9_next 214 = .ok (.return_, 1) := by decide +kernel
theorem dX9_takes_0 : decode cX9_takes 0 = .ok (.aload_n 0, 1) := by decide +kernel
theorem dX9_takes_1 : decode cX9_takes 1 = .ok (.getfield 113, 3) := by decide +kernel
theorem dX9_takes_4 : decode cX9_takes 4 = .ok (.ifCond .ne 27, 3) := by decide +kernel
theorem dX9_takes_7 : decode cX9_takes 7 = .ok (.aload_n 0, 1) := by decide +kernel
theorem dX9_takes_8 : decode cX9_takes 8 = .ok (.getfield 103, 3) := by decide +kernel
theorem dX9_takes_11 : decode cX9_takes 11 = .ok (.iconst 2, 1) := by decide +kernel
theorem dX9_takes_12 : decode cX9_takes 12 = .ok (.if_icmp .ne 19, 3) := by decide +kernel
theorem dX9_takes_15 : decode cX9_takes 15 = .ok (.aload_n 0, 1) := by decide +kernel
theorem dX9_takes_16 : decode cX9_takes 16 = .ok (.getfield 100, 3) := by decide +kernel
theorem dX9_takes_19 : decode cX9_takes 19 = .ok (.iload_n 1, 1) := by decide +kernel
theorem dX9_takes_20 : decode cX9_takes 20 = .ok (.iload_n 2, 1) := by decide +kernel
theorem dX9_takes_21 : decode cX9_takes 21 = .ok (.invokestatic 78, 3) := by decide +kernel
theorem dX9_takes_24 : decode cX9_takes 24 = .ok (.ifCond .eq 7, 3) := by decide +kernel
theorem dX9_takes_27 : decode cX9_takes 27 = .ok (.iconst 1, 1) := by decide +kernel
theorem dX9_takes_28 : decode cX9_takes 28 = .ok (.goto 4, 3) := by decide +kernel
theorem dX9_takes_31 : decode cX9_takes 31 = .ok (.iconst 0, 1) := by decide +kernel
theorem dX9_takes_32 : decode cX9_takes 32 = .ok (.istore_n 3, 1) := by decide +kernel
theorem dX9_takes_33 : decode cX9_takes 33 = .ok (.aload_n 0, 1) := by decide +kernel
theorem dX9_takes_34 : decode cX9_takes 34 = .ok (.iload_n 3, 1) := by decide +kernel
theorem dX9_takes_35 : decode cX9_takes 35 = .ok (.ifCond .ne 7, 3) := by decide +kernel
theorem dX9_takes_38 : decode cX9_takes 38 = .ok (.iconst 1, 1) := by decide +kernel
theorem dX9_takes_39 : decode cX9_takes 39 = .ok (.goto 4, 3) := by decide +kernel
theorem dX9_takes_42 : decode cX9_takes 42 = .ok (.iconst 0, 1) := by decide +kernel
theorem dX9_takes_43 : decode cX9_takes 43 = .ok (.putfield 113, 3) := by decide +kernel
theorem dX9_takes_46 : decode cX9_takes 46 = .ok (.aload_n 0, 1) := by decide +kernel
theorem dX9_takes_47 : decode cX9_takes 47 = .ok (.getfield 100, 3) := by decide +kernel
theorem dX9_takes_50 : decode cX9_takes 50 = .ok (.istore 4, 2) := by decide +kernel
theorem dX9_takes_52 : decode cX9_takes 52 = .ok (.iload_n 3, 1) := by decide +kernel
theorem dX9_takes_53 : decode cX9_takes 53 = .ok (.ifCond .eq 7, 3) := by decide +kernel
theorem dX9_takes_56 : decode cX9_takes 56 = .ok (.aload_n 0, 1) := by decide +kernel
theorem dX9_takes_57 : decode cX9_takes 57 = .ok (.invokevirtual 117, 3) := by decide +kernel
theorem dX9_takes_60 : decode cX9_takes 60 = .ok (.iload_n 3, 1) := by decide +kernel
theorem dX9_takes_61 : decode cX9_takes 61 = .ok (.ifCond .eq 8, 3) := by decide +kernel
theorem dX9_takes_64 : decode cX9_takes 64 = .ok (.iload 4, 2) := by decide +kernel
theorem dX9_takes_66 : decode cX9_takes 66 = .ok (.goto 4, 3) := by decide +kernel
theorem dX9_takes_69 : decode cX9_takes 69 = .ok (.iconst 0, 1) := by decide +kernel
theorem dX9_takes_70 : decode cX9_takes 70 = .ok (.ireturn, 1) := by decide +kernel
theorem dX9_readCells_0 : decode cX9_readCells 0 = .ok (.aload_n 0, 1) := by decide +kernel
theorem dX9_readCells_1 : decode cX9_readCells 1 = .ok (.getfield 113, 3) := by decide +kernel
theorem dX9_readCells_4 : decode cX9_readCells 4 = .ok (.ifCond .ne 94, 3) := by decide +kernel
theorem dX9_readCells_7 : decode cX9_readCells 7 = .ok (.aload_n 0, 1) := by decide +kernel
theorem dX9_readCells_8 : decode cX9_readCells 8 = .ok (.getfield 103, 3) := by decide +kernel
theorem dX9_readCells_11 : decode cX9_readCells 11 = .ok (.iconst 3, 1) := by decide +kernel
theorem dX9_readCells_12 : decode cX9_readCells 12 = .ok (.if_icmp .ne 10, 3) := by decide +kernel
theorem dX9_readCells_15 : decode cX9_readCells 15 = .ok (.aload_n 0, 1) := by decide +kernel
theorem dX9_readCells_16 : decode cX9_readCells 16 = .ok (.getfield 120, 3) := by decide +kernel
theorem dX9_readCells_19 : decode cX9_readCells 19 = .ok (.ifCond .ne 79, 3) := by decide +kernel
theorem dX9_readCells_22 : decode cX9_readCells 22 = .ok (.aload_n 0, 1) := by decide +kernel
theorem dX9_readCells_23 : decode cX9_readCells 23 = .ok (.getfield 103, 3) := by decide +kernel
theorem dX9_readCells_26 : decode cX9_readCells 26 = .ok (.iconst 1, 1) := by decide +kernel
theorem dX9_readCells_27 : decode cX9_readCells 27 = .ok (.if_icmp .ne 13, 3) := by decide +kernel
theorem dX9_readCells_30 : decode cX9_readCells 30 = .ok (.aload_n 0, 1) := by decide +kernel
theorem dX9_readCells_31 : decode cX9_readCells 31 = .ok (.getfield 100, 3) := by decide +kernel
theorem dX9_readCells_34 : decode cX9_readCells 34 = .ok (.invokestatic 87, 3) := by decide +kernel
theorem dX9_readCells_37 : decode cX9_readCells 37 = .ok (.goto 4, 3) := by decide +kernel
theorem dX9_readCells_40 : decode cX9_readCells 40 = .ok (.iconst 0, 1) := by decide +kernel
theorem dX9_readCells_41 : decode cX9_readCells 41 = .ok (.istore_n 1, 1) := by decide +kernel
theorem dX9_readCells_42 : decode cX9_readCells 42 = .ok (.aload_n 0, 1) := by decide +kernel
theorem dX9_readCells_43 : decode cX9_readCells 43 = .ok (.iload_n 1, 1) := by decide +kernel
theorem dX9_readCells_44 : decode cX9_readCells 44 = .ok (.ifCond .eq 12, 3) := by decide +kernel
theorem dX9_readCells_47 : decode cX9_readCells 47 = .ok (.aload_n 0, 1) := by decide +kernel
theorem dX9_readCells_48 : decode cX9_readCells 48 = .ok (.getfield 120, 3) := by decide +kernel
theorem dX9_readCells_51 : decode cX9_readCells 51 = .ok (.bipush 16, 2) := by decide +kernel
theorem dX9_readCells_53 : decode cX9_readCells 53 = .ok (.if_icmp .ne 7, 3) := by decide +kernel
theorem dX9_readCells_56 : decode cX9_readCells 56 = .ok (.iconst 1, 1) := by decide +kernel
theorem dX9_readCells_57 : decode cX9_readCells 57 = .ok (.goto 4, 3) := by decide +kernel
theorem dX9_readCells_60 : decode cX9_readCells 60 = .ok (.iconst 0, 1) := by decide +kernel
theorem dX9_readCells_61 : decode cX9_readCells 61 = .ok (.putfield 113, 3) := by decide +kernel
theorem dX9_readCells_64 : decode cX9_readCells 64 = .ok (.aload_n 0, 1) := by decide +kernel
theorem dX9_readCells_65 : decode cX9_readCells 65 = .ok (.getfield 113, 3) := by decide +kernel
theorem dX9_readCells_68 : decode cX9_readCells 68 = .ok (.ifCond .ne 27, 3) := by decide +kernel
theorem dX9_readCells_71 : decode cX9_readCells 71 = .ok (.aload_n 0, 1) := by decide +kernel
theorem dX9_readCells_72 : decode cX9_readCells 72 = .ok (.getfield 38, 3) := by decide +kernel
theorem dX9_readCells_75 : decode cX9_readCells 75 = .ok (.aload_n 0, 1) := by decide +kernel
theorem dX9_readCells_76 : decode cX9_readCells 76 = .ok (.getfield 120, 3) := by decide +kernel
theorem dX9_readCells_79 : decode cX9_readCells 79 = .ok (.iload_n 1, 1) := by decide +kernel
theorem dX9_readCells_80 : decode cX9_readCells 80 = .ok (.iastore, 1) := by decide +kernel
theorem dX9_readCells_81 : decode cX9_readCells 81 = .ok (.aload_n 0, 1) := by decide +kernel
theorem dX9_readCells_82 : decode cX9_readCells 82 = .ok (.dup, 1) := by decide +kernel
theorem dX9_readCells_83 : decode cX9_readCells 83 = .ok (.getfield 120, 3) := by decide +kernel
theorem dX9_readCells_86 : decode cX9_readCells 86 = .ok (.iconst 1, 1) := by decide +kernel
theorem dX9_readCells_87 : decode cX9_readCells 87 = .ok (.iadd, 1) := by decide +kernel
theorem dX9_readCells_88 : decode cX9_readCells 88 = .ok (.putfield 120, 3) := by decide +kernel
theorem dX9_readCells_91 : decode cX9_readCells 91 = .ok (.aload_n 0, 1) := by decide +kernel
theorem dX9_readCells_92 : decode cX9_readCells 92 = .ok (.invokevirtual 117, 3) := by decide +kernel
theorem dX9_readCells_95 : decode cX9_readCells 95 = .ok (.goto (-95), 3) := by decide +kernel
theorem dX9_readCells_98 : decode cX9_readCells 98 = .ok (.return_, 1) := by decide +kernel
theorem dX9_readChair_0 : decode cX9_readChair 0 = .ok (.aload_n 0, 1) := by decide +kernel
theorem dX9_readChair_1 : decode cX9_readChair 1 = .ok (.getfield 41, 3) := by decide +kernel
theorem dX9_readChair_4 : decode cX9_readChair 4 = .ok (.iconst 2, 1) := by decide +kernel
theorem dX9_readChair_5 : decode cX9_readChair 5 = .ok (.aload_n 0, 1) := by decide +kernel
theorem dX9_readChair_6 : decode cX9_readChair 6 = .ok (.getfield 123, 3) := by decide +kernel
theorem dX9_readChair_9 : decode cX9_readChair 9 = .ok (.imul, 1) := by decide +kernel
theorem dX9_readChair_10 : decode cX9_readChair 10 = .ok (.aload_n 0, 1) := by decide +kernel
theorem dX9_readChair_11 : decode cX9_readChair 11 = .ok (.iconst 1, 1) := by decide +kernel
theorem dX9_readChair_12 : decode cX9_readChair 12 = .ok (.bipush 9, 2) := by decide +kernel
theorem dX9_readChair_14 : decode cX9_readChair 14 = .ok (.invokevirtual 126, 3) := by decide +kernel
theorem dX9_readChair_17 : decode cX9_readChair 17 = .ok (.iastore, 1) := by decide +kernel
theorem dX9_readChair_18 : decode cX9_readChair 18 = .ok (.aload_n 0, 1) := by decide +kernel
theorem dX9_readChair_19 : decode cX9_readChair 19 = .ok (.getfield 41, 3) := by decide +kernel
theorem dX9_readChair_22 : decode cX9_readChair 22 = .ok (.iconst 2, 1) := by decide +kernel
theorem dX9_readChair_23 : decode cX9_readChair 23 = .ok (.aload_n 0, 1) := by decide +kernel
theorem dX9_readChair_24 : decode cX9_readChair 24 = .ok (.getfield 123, 3) := by decide +kernel
theorem dX9_readChair_27 : decode cX9_readChair 27 = .ok (.imul, 1) := by decide +kernel
theorem dX9_readChair_28 : decode cX9_readChair 28 = .ok (.iconst 1, 1) := by decide +kernel
theorem dX9_readChair_29 : decode cX9_readChair 29 = .ok (.iadd, 1) := by decide +kernel
theorem dX9_readChair_30 : decode cX9_readChair 30 = .ok (.aload_n 0, 1) := by decide +kernel
theorem dX9_readChair_31 : decode cX9_readChair 31 = .ok (.iconst 0, 1) := by decide +kernel
theorem dX9_readChair_32 : decode cX9_readChair 32 = .ok (.iconst 3, 1) := by decide +kernel
theorem dX9_readChair_33 : decode cX9_readChair 33 = .ok (.invokevirtual 126, 3) := by decide +kernel
theorem dX9_readChair_36 : decode cX9_readChair 36 = .ok (.iastore, 1) := by decide +kernel
theorem dX9_readChair_37 : decode cX9_readChair 37 = .ok (.aload_n 0, 1) := by decide +kernel
theorem dX9_readChair_38 : decode cX9_readChair 38 = .ok (.getfield 44, 3) := by decide +kernel
theorem dX9_readChair_41 : decode cX9_readChair 41 = .ok (.aload_n 0, 1) := by decide +kernel
theorem dX9_readChair_42 : decode cX9_readChair 42 = .ok (.getfield 123, 3) := by decide +kernel
theorem dX9_readChair_45 : decode cX9_readChair 45 = .ok (.iconst 5, 1) := by decide +kernel
theorem dX9_readChair_46 : decode cX9_readChair 46 = .ok (.iastore, 1) := by decide +kernel
theorem dX9_readChair_47 : decode cX9_readChair 47 = .ok (.aload_n 0, 1) := by decide +kernel
theorem dX9_readChair_48 : decode cX9_readChair 48 = .ok (.dup, 1) := by decide +kernel
theorem dX9_readChair_49 : decode cX9_readChair 49 = .ok (.getfield 123, 3) := by decide +kernel
theorem dX9_readChair_52 : decode cX9_readChair 52 = .ok (.iconst 1, 1) := by decide +kernel
theorem dX9_readChair_53 : decode cX9_readChair 53 = .ok (.iadd, 1) := by decide +kernel
theorem dX9_readChair_54 : decode cX9_readChair 54 = .ok (.putfield 123, 3) := by decide +kernel
theorem dX9_readChair_57 : decode cX9_readChair 57 = .ok (.return_, 1) := by decide +kernel
theorem dX9_readPusher_0 : decode cX9_readPusher 0 = .ok (.aload_n 0, 1) := by decide +kernel
theorem dX9_readPusher_1 : decode cX9_readPusher 1 = .ok (.iconst 0, 1) := by decide +kernel
theorem dX9_readPusher_2 : decode cX9_readPusher 2 = .ok (.aload_n 0, 1) := by decide +kernel
theorem dX9_readPusher_3 : decode cX9_readPusher 3 = .ok (.getfield 123, 3) := by decide +kernel
theorem dX9_readPusher_6 : decode cX9_readPusher 6 = .ok (.iconst 1, 1) := by decide +kernel
theorem dX9_readPusher_7 : decode cX9_readPusher 7 = .ok (.isub, 1) := by decide +kernel
theorem dX9_readPusher_8 : decode cX9_readPusher 8 = .ok (.invokevirtual 126, 3) := by decide +kernel
theorem dX9_readPusher_11 : decode cX9_readPusher 11 = .ok (.istore_n 1, 1) := by decide +kernel
theorem dX9_readPusher_12 : decode cX9_readPusher 12 = .ok (.aload_n 0, 1) := by decide +kernel
theorem dX9_readPusher_13 : decode cX9_readPusher 13 = .ok (.iconst 1, 1) := by decide +kernel
theorem dX9_readPusher_14 : decode cX9_readPusher 14 = .ok (.bipush 9, 2) := by decide +kernel
theorem dX9_readPusher_16 : decode cX9_readPusher 16 = .ok (.invokevirtual 126, 3) := by decide +kernel
theorem dX9_readPusher_19 : decode cX9_readPusher 19 = .ok (.istore_n 2, 1) := by decide +kernel
theorem dX9_readPusher_20 : decode cX9_readPusher 20 = .ok (.aload_n 0, 1) := by decide +kernel
theorem dX9_readPusher_21 : decode cX9_readPusher 21 = .ok (.getfield 113, 3) := by decide +kernel
theorem dX9_readPusher_24 : decode cX9_readPusher 24 = .ok (.ifCond .ne 10, 3) := by decide +kernel
theorem dX9_readPusher_27 : decode cX9_readPusher 27 = .ok (.aload_n 0, 1) := by decide +kernel
theorem dX9_readPusher_28 : decode cX9_readPusher 28 = .ok (.getfield 44, 3) := by decide +kernel
theorem dX9_readPusher_31 : decode cX9_readPusher 31 = .ok (.iload_n 1, 1) := by decide +kernel
theorem dX9_readPusher_32 : decode cX9_readPusher 32 = .ok (.iload_n 2, 1) := by decide +kernel
theorem dX9_readPusher_33 : decode cX9_readPusher 33 = .ok (.iastore, 1) := by decide +kernel
theorem dX9_readPusher_34 : decode cX9_readPusher 34 = .ok (.return_, 1) := by decide +kernel
theorem dX9_readItem_0 : decode cX9_readItem 0 = .ok (.aload_n 0, 1) := by decide +kernel
theorem dX9_readItem_1 : decode cX9_readItem 1 = .ok (.getfield 100, 3) := by decide +kernel
theorem dX9_readItem_4 : decode cX9_readItem 4 = .ok (.istore_n 1, 1) := by decide +kernel
theorem dX9_readItem_5 : decode cX9_readItem 5 = .ok (.iload_n 1, 1) := by decide +kernel
theorem dX9_readItem_6 : decode cX9_readItem 6 = .ok (.bipush 108, 2) := by decide +kernel
theorem dX9_readItem_8 : decode cX9_readItem 8 = .ok (.if_icmp .ne 18, 3) := by decide +kernel
theorem dX9_readItem_11 : decode cX9_readItem 11 = .ok (.aload_n 0, 1) := by decide +kernel
theorem dX9_readItem_12 : decode cX9_readItem 12 = .ok (.getfield 120, 3) := by decide +kernel
theorem dX9_readItem_15 : decode cX9_readItem 15 = .ok (.ifCond .ne 7, 3) := by decide +kernel
theorem dX9_readItem_18 : decode cX9_readItem 18 = .ok (.iconst 1, 1) := by decide +kernel
theorem dX9_readItem_19 : decode cX9_readItem 19 = .ok (.goto 40, 3) := by decide +kernel
theorem dX9_readItem_22 : decode cX9_readItem 22 = .ok (.iconst 0, 1) := by decide +kernel
theorem dX9_readItem_23 : decode cX9_readItem 23 = .ok (.goto 36, 3) := by decide +kernel
theorem dX9_readItem_26 : decode cX9_readItem 26 = .ok (.iload_n 1, 1) := by decide +kernel
theorem dX9_readItem_27 : decode cX9_readItem 27 = .ok (.bipush 99, 2) := by decide +kernel
theorem dX9_readItem_29 : decode cX9_readItem 29 = .ok (.if_icmp .ne 19, 3) := by decide +kernel
theorem dX9_readItem_32 : decode cX9_readItem 32 = .ok (.aload_n 0, 1) := by decide +kernel
theorem dX9_readItem_33 : decode cX9_readItem 33 = .ok (.getfield 123, 3) := by decide +kernel
theorem dX9_readItem_36 : decode cX9_readItem 36 = .ok (.iconst 5, 1) := by decide +kernel
theorem dX9_readItem_37 : decode cX9_readItem 37 = .ok (.if_icmp .ge 7, 3) := by decide +kernel
theorem dX9_readItem_40 : decode cX9_readItem 40 = .ok (.iconst 1, 1) := by decide +kernel
theorem dX9_readItem_41 : decode cX9_readItem 41 = .ok (.goto 18, 3) := by decide +kernel
theorem dX9_readItem_44 : decode cX9_readItem 44 = .ok (.iconst 0, 1) := by decide +kernel
theorem dX9_readItem_45 : decode cX9_readItem 45 = .ok (.goto 14, 3) := by decide +kernel
theorem dX9_readItem_48 : decode cX9_readItem 48 = .ok (.iload_n 1, 1) := by decide +kernel
theorem dX9_readItem_49 : decode cX9_readItem 49 = .ok (.bipush 112, 2) := by decide +kernel
theorem dX9_readItem_51 : decode cX9_readItem 51 = .ok (.if_icmp .ne 7, 3) := by decide +kernel
theorem dX9_readItem_54 : decode cX9_readItem 54 = .ok (.iconst 1, 1) := by decide +kernel
theorem dX9_readItem_55 : decode cX9_readItem 55 = .ok (.goto 4, 3) := by decide +kernel
theorem dX9_readItem_58 : decode cX9_readItem 58 = .ok (.iconst 0, 1) := by decide +kernel
theorem dX9_readItem_59 : decode cX9_readItem 59 = .ok (.istore_n 2, 1) := by decide +kernel
theorem dX9_readItem_60 : decode cX9_readItem 60 = .ok (.aload_n 0, 1) := by decide +kernel
theorem dX9_readItem_61 : decode cX9_readItem 61 = .ok (.getfield 103, 3) := by decide +kernel
theorem dX9_readItem_64 : decode cX9_readItem 64 = .ok (.iconst 1, 1) := by decide +kernel
theorem dX9_readItem_65 : decode cX9_readItem 65 = .ok (.if_icmp .ne 7, 3) := by decide +kernel
theorem dX9_readItem_68 : decode cX9_readItem 68 = .ok (.iload_n 2, 1) := by decide +kernel
theorem dX9_readItem_69 : decode cX9_readItem 69 = .ok (.ifCond .ne 9, 3) := by decide +kernel
theorem dX9_readItem_72 : decode cX9_readItem 72 = .ok (.aload_n 0, 1) := by decide +kernel
theorem dX9_readItem_73 : decode cX9_readItem 73 = .ok (.iconst 1, 1) := by decide +kernel
theorem dX9_readItem_74 : decode cX9_readItem 74 = .ok (.putfield 113, 3) := by decide +kernel
theorem dX9_readItem_77 : decode cX9_readItem 77 = .ok (.return_, 1) := by decide +kernel
theorem dX9_readItem_78 : decode cX9_readItem 78 = .ok (.aload_n 0, 1) := by decide +kernel
theorem dX9_readItem_79 : decode cX9_readItem 79 = .ok (.invokevirtual 117, 3) := by decide +kernel
theorem dX9_readItem_82 : decode cX9_readItem 82 = .ok (.iload_n 1, 1) := by decide +kernel
theorem dX9_readItem_83 : decode cX9_readItem 83 = .ok (.bipush 108, 2) := by decide +kernel
theorem dX9_readItem_85 : decode cX9_readItem 85 = .ok (.if_icmp .ne 10, 3) := by decide +kernel
theorem dX9_readItem_88 : decode cX9_readItem 88 = .ok (.aload_n 0, 1) := by decide +kernel
theorem dX9_readItem_89 : decode cX9_readItem 89 = .ok (.invokevirtual 130, 3) := by decide +kernel
theorem dX9_readItem_92 : decode cX9_readItem 92 = .ok (.goto 20, 3) := by decide +kernel
theorem dX9_readItem_95 : decode cX9_readItem 95 = .ok (.iload_n 1, 1) := by decide +kernel
theorem dX9_readItem_96 : decode cX9_readItem 96 = .ok (.bipush 99, 2) := by decide +kernel
theorem dX9_readItem_98 : decode cX9_readItem 98 = .ok (.if_icmp .ne 10, 3) := by decide +kernel
theorem dX9_readItem_101 : decode cX9_readItem 101 = .ok (.aload_n 0, 1) := by decide +kernel
theorem dX9_readItem_102 : decode cX9_readItem 102 = .ok (.invokevirtual 133, 3) := by decide +kernel
theorem dX9_readItem_105 : decode cX9_readItem 105 = .ok (.goto 7, 3) := by decide +kernel
theorem dX9_readItem_108 : decode cX9_readItem 108 = .ok (.aload_n 0, 1) := by decide +kernel
theorem dX9_readItem_109 : decode cX9_readItem 109 = .ok (.invokevirtual 136, 3) := by decide +kernel
theorem dX9_readItem_112 : decode cX9_readItem 112 = .ok (.aload_n 0, 1) := by decide +kernel
theorem dX9_readItem_113 : decode cX9_readItem 113 = .ok (.aload_n 0, 1) := by decide +kernel
theorem dX9_readItem_114 : decode cX9_readItem 114 = .ok (.getfield 113, 3) := by decide +kernel
theorem dX9_readItem_117 : decode cX9_readItem 117 = .ok (.ifCond .ne 11, 3) := by decide +kernel
theorem dX9_readItem_120 : decode cX9_readItem 120 = .ok (.aload_n 0, 1) := by decide +kernel
theorem dX9_readItem_121 : decode cX9_readItem 121 = .ok (.getfield 103, 3) := by decide +kernel
theorem dX9_readItem_124 : decode cX9_readItem 124 = .ok (.iconst 3, 1) := by decide +kernel
theorem dX9_readItem_125 : decode cX9_readItem 125 = .ok (.if_icmp .eq 7, 3) := by decide +kernel
theorem dX9_readItem_128 : decode cX9_readItem 128 = .ok (.iconst 1, 1) := by decide +kernel
theorem dX9_readItem_129 : decode cX9_readItem 129 = .ok (.goto 4, 3) := by decide +kernel
theorem dX9_readItem_132 : decode cX9_readItem 132 = .ok (.iconst 0, 1) := by decide +kernel
theorem dX9_readItem_133 : decode cX9_readItem 133 = .ok (.putfield 113, 3) := by decide +kernel
theorem dX9_readItem_136 : decode cX9_readItem 136 = .ok (.aload_n 0, 1) := by decide +kernel
theorem dX9_readItem_137 : decode cX9_readItem 137 = .ok (.getfield 113, 3) := by decide +kernel
theorem dX9_readItem_140 : decode cX9_readItem 140 = .ok (.ifCond .ne 7, 3) := by decide +kernel
theorem dX9_readItem_143 : decode cX9_readItem 143 = .ok (.aload_n 0, 1) := by decide +kernel
theorem dX9_readItem_144 : decode cX9_readItem 144 = .ok (.invokevirtual 117, 3) := by decide +kernel
theorem dX9_readItem_147 : decode cX9_readItem 147 = .ok (.return_, 1) := by decide +kernel
theorem dX9_spa_0 : decode cX9_spa 0 = .ok (.aload_n 0, 1) := by decide +kernel
theorem dX9_spa_1 : decode cX9_spa 1 = .ok (.iconst 0, 1) := by decide +kernel
theorem dX9_spa_2 : decode cX9_spa 2 = .ok (.putfield 91, 3) := by decide +kernel
theorem dX9_spa_5 : decode cX9_spa 5 = .ok (.aload_n 0, 1) := by decide +kernel
theorem dX9_spa_6 : decode cX9_spa 6 = .ok (.iconst 0, 1) := by decide +kernel
theorem dX9_spa_7 : decode cX9_spa 7 = .ok (.putfield 113, 3) := by decide +kernel
theorem dX9_spa_10 : decode cX9_spa 10 = .ok (.aload_n 0, 1) := by decide +kernel
theorem dX9_spa_11 : decode cX9_spa 11 = .ok (.iconst 0, 1) := by decide +kernel
theorem dX9_spa_12 : decode cX9_spa 12 = .ok (.putfield 139, 3) := by decide +kernel
theorem dX9_spa_15 : decode cX9_spa 15 = .ok (.aload_n 0, 1) := by decide +kernel
theorem dX9_spa_16 : decode cX9_spa 16 = .ok (.iconst 0, 1) := by decide +kernel
theorem dX9_spa_17 : decode cX9_spa 17 = .ok (.putfield 120, 3) := by decide +kernel
theorem dX9_spa_20 : decode cX9_spa 20 = .ok (.aload_n 0, 1) := by decide +kernel
theorem dX9_spa_21 : decode cX9_spa 21 = .ok (.iconst 0, 1) := by decide +kernel
theorem dX9_spa_22 : decode cX9_spa 22 = .ok (.putfield 123, 3) := by decide +kernel
theorem dX9_spa_25 : decode cX9_spa 25 = .ok (.aload_n 0, 1) := by decide +kernel
theorem dX9_spa_26 : decode cX9_spa 26 = .ok (.invokevirtual 117, 3) := by decide +kernel
theorem dX9_spa_29 : decode cX9_spa 29 = .ok (.aload_n 0, 1) := by decide +kernel
theorem dX9_spa_30 : decode cX9_spa 30 = .ok (.getfield 103, 3) := by decide +kernel
theorem dX9_spa_33 : decode cX9_spa 33 = .ok (.ifCond .eq 27, 3) := by decide +kernel
theorem dX9_spa_36 : decode cX9_spa 36 = .ok (.aload_n 0, 1) := by decide +kernel
theorem dX9_spa_37 : decode cX9_spa 37 = .ok (.getfield 113, 3) := by decide +kernel
theorem dX9_spa_40 : decode cX9_spa 40 = .ok (.ifCond .ne 20, 3) := by decide +kernel
theorem dX9_spa_43 : decode cX9_spa 43 = .ok (.aload_n 0, 1) := by decide +kernel
theorem dX9_spa_44 : decode cX9_spa 44 = .ok (.invokevirtual 142, 3) := by decide +kernel
theorem dX9_spa_47 : decode cX9_spa 47 = .ok (.aload_n 0, 1) := by decide +kernel
theorem dX9_spa_48 : decode cX9_spa 48 = .ok (.dup, 1) := by decide +kernel
theorem dX9_spa_49 : decode cX9_spa 49 = .ok (.getfield 139, 3) := by decide +kernel
theorem dX9_spa_52 : decode cX9_spa 52 = .ok (.iconst 1, 1) := by decide +kernel
theorem dX9_spa_53 : decode cX9_spa 53 = .ok (.iadd, 1) := by decide +kernel
theorem dX9_spa_54 : decode cX9_spa 54 = .ok (.putfield 139, 3) := by decide +kernel
theorem dX9_spa_57 : decode cX9_spa 57 = .ok (.goto (-28), 3) := by decide +kernel
theorem dX9_spa_60 : decode cX9_spa 60 = .ok (.aload_n 0, 1) := by decide +kernel
theorem dX9_spa_61 : decode cX9_spa 61 = .ok (.getfield 113, 3) := by decide +kernel
theorem dX9_spa_64 : decode cX9_spa 64 = .ok (.ifCond .eq 11, 3) := by decide +kernel
theorem dX9_spa_67 : decode cX9_spa 67 = .ok (.bipush (-10), 2) := by decide +kernel
theorem dX9_spa_69 : decode cX9_spa 69 = .ok (.aload_n 0, 1) := by decide +kernel
theorem dX9_spa_70 : decode cX9_spa 70 = .ok (.getfield 97, 3) := by decide +kernel
theorem dX9_spa_73 : decode cX9_spa 73 = .ok (.isub, 1) := by decide +kernel
theorem dX9_spa_74 : decode cX9_spa 74 = .ok (.ireturn, 1) := by decide +kernel
theorem dX9_spa_75 : decode cX9_spa 75 = .ok (.aload_n 0, 1) := by decide +kernel
theorem dX9_spa_76 : decode cX9_spa 76 = .ok (.invokevirtual 145, 3) := by decide +kernel
theorem dX9_spa_79 : decode cX9_spa 79 = .ok (.aload_n 0, 1) := by decide +kernel
theorem dX9_spa_80 : decode cX9_spa 80 = .ok (.getfield 139, 3) := by decide +kernel
theorem dX9_spa_83 : decode cX9_spa 83 = .ok (.ireturn, 1) := by decide +kernel
theorem dX9_settles_0 : decode cX9_settles 0 = .ok (.aload_n 0, 1) := by decide +kernel
theorem dX9_settles_1 : decode cX9_settles 1 = .ok (.aload_n 0, 1) := by decide +kernel
theorem dX9_settles_2 : decode cX9_settles 2 = .ok (.getfield 120, 3) := by decide +kernel
theorem dX9_settles_5 : decode cX9_settles 5 = .ok (.putfield 81, 3) := by decide +kernel
theorem dX9_settles_8 : decode cX9_settles 8 = .ok (.iconst 0, 1) := by decide +kernel
theorem dX9_settles_9 : decode cX9_settles 9 = .ok (.istore_n 1, 1) := by decide +kernel
theorem dX9_settles_10 : decode cX9_settles 10 = .ok (.iload_n 1, 1) := by decide +kernel
theorem dX9_settles_11 : decode cX9_settles 11 = .ok (.bipush 16, 2) := by decide +kernel
theorem dX9_settles_13 : decode cX9_settles 13 = .ok (.if_icmp .ge 21, 3) := by decide +kernel
theorem dX9_settles_16 : decode cX9_settles 16 = .ok (.aload_n 0, 1) := by decide +kernel
theorem dX9_settles_17 : decode cX9_settles 17 = .ok (.getfield 7, 3) := by decide +kernel
theorem dX9_settles_20 : decode cX9_settles 20 = .ok (.iload_n 1, 1) := by decide +kernel
theorem dX9_settles_21 : decode cX9_settles 21 = .ok (.aload_n 0, 1) := by decide +kernel
theorem dX9_settles_22 : decode cX9_settles 22 = .ok (.getfield 38, 3) := by decide +kernel
theorem dX9_settles_25 : decode cX9_settles 25 = .ok (.iload_n 1, 1) := by decide +kernel
theorem dX9_settles_26 : decode cX9_settles 26 = .ok (.iaload, 1) := by decide +kernel
theorem dX9_settles_27 : decode cX9_settles 27 = .ok (.iastore, 1) := by decide +kernel
theorem dX9_settles_28 : decode cX9_settles 28 = .ok (.iinc 1 1, 3) := by decide +kernel
theorem dX9_settles_31 : decode cX9_settles 31 = .ok (.goto (-21), 3) := by decide +kernel
theorem dX9_settles_34 : decode cX9_settles 34 = .ok (.aload_n 0, 1) := by decide +kernel
theorem dX9_settles_35 : decode cX9_settles 35 = .ok (.aload_n 0, 1) := by decide +kernel
theorem dX9_settles_36 : decode cX9_settles 36 = .ok (.getfield 123, 3) := by decide +kernel
theorem dX9_settles_39 : decode cX9_settles 39 = .ok (.putfield 74, 3) := by decide +kernel
theorem dX9_settles_42 : decode cX9_settles 42 = .ok (.iconst 0, 1) := by decide +kernel
theorem dX9_settles_43 : decode cX9_settles 43 = .ok (.istore_n 1, 1) := by decide +kernel
theorem dX9_settles_44 : decode cX9_settles 44 = .ok (.iload_n 1, 1) := by decide +kernel
theorem dX9_settles_45 : decode cX9_settles 45 = .ok (.iconst 5, 1) := by decide +kernel
theorem dX9_settles_46 : decode cX9_settles 46 = .ok (.if_icmp .ge 57, 3) := by decide +kernel
theorem dX9_settles_49 : decode cX9_settles 49 = .ok (.aload_n 0, 1) := by decide +kernel
theorem dX9_settles_50 : decode cX9_settles 50 = .ok (.getfield 13, 3) := by decide +kernel
theorem dX9_settles_53 : decode cX9_settles 53 = .ok (.iconst 2, 1) := by decide +kernel
theorem dX9_settles_54 : decode cX9_settles 54 = .ok (.iload_n 1, 1) := by decide +kernel
theorem dX9_settles_55 : decode cX9_settles 55 = .ok (.imul, 1) := by decide +kernel
theorem dX9_settles_56 : decode cX9_settles 56 = .ok (.aload_n 0, 1) := by decide +kernel
theorem dX9_settles_57 : decode cX9_settles 57 = .ok (.getfield 41, 3) := by decide +kernel
theorem dX9_settles_60 : decode cX9_settles 60 = .ok (.iconst 2, 1) := by decide +kernel
theorem dX9_settles_61 : decode cX9_settles 61 = .ok (.iload_n 1, 1) := by decide +kernel
theorem dX9_settles_62 : decode cX9_settles 62 = .ok (.imul, 1) := by decide +kernel
theorem dX9_settles_63 : decode cX9_settles 63 = .ok (.iaload, 1) := by decide +kernel
theorem dX9_settles_64 : decode cX9_settles 64 = .ok (.iastore, 1) := by decide +kernel
theorem dX9_settles_65 : decode cX9_settles 65 = .ok (.aload_n 0, 1) := by decide +kernel
theorem dX9_settles_66 : decode cX9_settles 66 = .ok (.getfield 13, 3) := by decide +kernel
theorem dX9_settles_69 : decode cX9_settles 69 = .ok (.iconst 2, 1) := by decide +kernel
theorem dX9_settles_70 : decode cX9_settles 70 = .ok (.iload_n 1, 1) := by decide +kernel
theorem dX9_settles_71 : decode cX9_settles 71 = .ok (.imul, 1) := by decide +kernel
theorem dX9_settles_72 : decode cX9_settles 72 = .ok (.iconst 1, 1) := by decide +kernel
theorem dX9_settles_73 : decode cX9_settles 73 = .ok (.iadd, 1) := by decide +kernel
theorem dX9_settles_74 : decode cX9_settles 74 = .ok (.aload_n 0, 1) := by decide +kernel
theorem dX9_settles_75 : decode cX9_settles 75 = .ok (.getfield 41, 3) := by decide +kernel
theorem dX9_settles_78 : decode cX9_settles 78 = .ok (.iconst 2, 1) := by decide +kernel
theorem dX9_settles_79 : decode cX9_settles 79 = .ok (.iload_n 1, 1) := by decide +kernel
theorem dX9_settles_80 : decode cX9_settles 80 = .ok (.imul, 1) := by decide +kernel
theorem dX9_settles_81 : decode cX9_settles 81 = .ok (.iconst 1, 1) := by decide +kernel
theorem dX9_settles_82 : decode cX9_settles 82 = .ok (.iadd, 1) := by decide +kernel
theorem dX9_settles_83 : decode cX9_settles 83 = .ok (.iaload, 1) := by decide +kernel
theorem dX9_settles_84 : decode cX9_settles 84 = .ok (.iastore, 1) := by decide +kernel
theorem dX9_settles_85 : decode cX9_settles 85 = .ok (.aload_n 0, 1) := by decide +kernel
theorem dX9_settles_86 : decode cX9_settles 86 = .ok (.getfield 16, 3) := by decide +kernel
theorem dX9_settles_89 : decode cX9_settles 89 = .ok (.iload_n 1, 1) := by decide +kernel
theorem dX9_settles_90 : decode cX9_settles 90 = .ok (.aload_n 0, 1) := by decide +kernel
theorem dX9_settles_91 : decode cX9_settles 91 = .ok (.getfield 44, 3) := by decide +kernel
theorem dX9_settles_94 : decode cX9_settles 94 = .ok (.iload_n 1, 1) := by decide +kernel
theorem dX9_settles_95 : decode cX9_settles 95 = .ok (.iaload, 1) := by decide +kernel
theorem dX9_settles_96 : decode cX9_settles 96 = .ok (.iastore, 1) := by decide +kernel
theorem dX9_settles_97 : decode cX9_settles 97 = .ok (.iinc 1 1, 3) := by decide +kernel
theorem dX9_settles_100 : decode cX9_settles 100 = .ok (.goto (-56), 3) := by decide +kernel
theorem dX9_settles_103 : decode cX9_settles 103 = .ok (.iconst 0, 1) := by decide +kernel
theorem dX9_settles_104 : decode cX9_settles 104 = .ok (.istore_n 1, 1) := by decide +kernel
theorem dX9_settles_105 : decode cX9_settles 105 = .ok (.iload_n 1, 1) := by decide +kernel
theorem dX9_settles_106 : decode cX9_settles 106 = .ok (.bipush 17, 2) := by decide +kernel
theorem dX9_settles_108 : decode cX9_settles 108 = .ok (.if_icmp .ge 25, 3) := by decide +kernel
theorem dX9_settles_111 : decode cX9_settles 111 = .ok (.aload_n 0, 1) := by decide +kernel
theorem dX9_settles_112 : decode cX9_settles 112 = .ok (.getfield 19, 3) := by decide +kernel
theorem dX9_settles_115 : decode cX9_settles 115 = .ok (.iload_n 1, 1) := by decide +kernel
theorem dX9_settles_116 : decode cX9_settles 116 = .ok (.iload_n 1, 1) := by decide +kernel
theorem dX9_settles_117 : decode cX9_settles 117 = .ok (.iconst 5, 1) := by decide +kernel
theorem dX9_settles_118 : decode cX9_settles 118 = .ok (.if_icmp .ge 7, 3) := by decide +kernel
theorem dX9_settles_121 : decode cX9_settles 121 = .ok (.iload_n 1, 1) := by decide +kernel
theorem dX9_settles_122 : decode cX9_settles 122 = .ok (.goto 4, 3) := by decide +kernel
theorem dX9_settles_125 : decode cX9_settles 125 = .ok (.iconst 0, 1) := by decide +kernel
theorem dX9_settles_126 : decode cX9_settles 126 = .ok (.iastore, 1) := by decide +kernel
theorem dX9_settles_127 : decode cX9_settles 127 = .ok (.iinc 1 1, 3) := by decide +kernel
theorem dX9_settles_130 : decode cX9_settles 130 = .ok (.goto (-25), 3) := by decide +kernel
theorem dX9_settles_133 : decode cX9_settles 133 = .ok (.aload_n 0, 1) := by decide +kernel
theorem dX9_settles_134 : decode cX9_settles 134 = .ok (.iconst 0, 1) := by decide +kernel
theorem dX9_settles_135 : decode cX9_settles 135 = .ok (.putfield 148, 3) := by decide +kernel
theorem dX9_settles_138 : decode cX9_settles 138 = .ok (.aload_n 0, 1) := by decide +kernel
theorem dX9_settles_139 : decode cX9_settles 139 = .ok (.iconst 0, 1) := by decide +kernel
theorem dX9_settles_140 : decode cX9_settles 140 = .ok (.putfield 151, 3) := by decide +kernel
theorem dX9_settles_143 : decode cX9_settles 143 = .ok (.aload_n 0, 1) := by decide +kernel
theorem dX9_settles_144 : decode cX9_settles 144 = .ok (.getfield 28, 3) := by decide +kernel
theorem dX9_settles_147 : decode cX9_settles 147 = .ok (.iconst 0, 1) := by decide +kernel
theorem dX9_settles_148 : decode cX9_settles 148 = .ok (.iconst 0, 1) := by decide +kernel
theorem dX9_settles_149 : decode cX9_settles 149 = .ok (.bastore, 1) := by decide +kernel
theorem dX9_settles_150 : decode cX9_settles 150 = .ok (.aload_n 0, 1) := by decide +kernel
theorem dX9_settles_151 : decode cX9_settles 151 = .ok (.getfield 28, 3) := by decide +kernel
theorem dX9_settles_154 : decode cX9_settles 154 = .ok (.iconst 1, 1) := by decide +kernel
theorem dX9_settles_155 : decode cX9_settles 155 = .ok (.iconst 0, 1) := by decide +kernel
theorem dX9_settles_156 : decode cX9_settles 156 = .ok (.bastore, 1) := by decide +kernel
theorem dX9_settles_157 : decode cX9_settles 157 = .ok (.aload_n 0, 1) := by decide +kernel
theorem dX9_settles_158 : decode cX9_settles 158 = .ok (.iconst 0, 1) := by decide +kernel
theorem dX9_settles_159 : decode cX9_settles 159 = .ok (.putfield 84, 3) := by decide +kernel
theorem dX9_settles_162 : decode cX9_settles 162 = .ok (.return_, 1) := by decide +kernel
theorem dX9_asItIs_0 : decode cX9_asItIs 0 = .ok (.aload_n 0, 1) := by decide +kernel
theorem dX9_asItIs_1 : decode cX9_asItIs 1 = .ok (.getfield 47, 3) := by decide +kernel
theorem dX9_asItIs_4 : decode cX9_asItIs 4 = .ok (.iconst 0, 1) := by decide +kernel
theorem dX9_asItIs_5 : decode cX9_asItIs 5 = .ok (.aload_n 0, 1) := by decide +kernel
theorem dX9_asItIs_6 : decode cX9_asItIs 6 = .ok (.getfield 19, 3) := by decide +kernel
theorem dX9_asItIs_9 : decode cX9_asItIs 9 = .ok (.iconst 0, 1) := by decide +kernel
theorem dX9_asItIs_10 : decode cX9_asItIs 10 = .ok (.invokestatic 154, 3) := by decide +kernel
theorem dX9_asItIs_13 : decode cX9_asItIs 13 = .ok (.return_, 1) := by decide +kernel
theorem dX9_gainOf_0 : decode cX9_gainOf 0 = .ok (.aload_n 0, 1) := by decide +kernel
theorem dX9_gainOf_1 : decode cX9_gainOf 1 = .ok (.getfield 47, 3) := by decide +kernel
theorem dX9_gainOf_4 : decode cX9_gainOf 4 = .ok (.iconst 0, 1) := by decide +kernel
theorem dX9_gainOf_5 : decode cX9_gainOf 5 = .ok (.iload_n 1, 1) := by decide +kernel
theorem dX9_gainOf_6 : decode cX9_gainOf 6 = .ok (.iadd, 1) := by decide +kernel
theorem dX9_gainOf_7 : decode cX9_gainOf 7 = .ok (.iaload, 1) := by decide +kernel
theorem dX9_gainOf_8 : decode cX9_gainOf 8 = .ok (.istore_n 3, 1) := by decide +kernel
theorem dX9_gainOf_9 : decode cX9_gainOf 9 = .ok (.iconst 2, 1) := by decide +kernel
theorem dX9_gainOf_10 : decode cX9_gainOf 10 = .ok (.iload_n 2, 1) := by decide +kernel
theorem dX9_gainOf_11 : decode cX9_gainOf 11 = .ok (.iload_n 3, 1) := by decide +kernel
theorem dX9_gainOf_12 : decode cX9_gainOf 12 = .ok (.invokestatic 158, 3) := by decide +kernel
theorem dX9_gainOf_15 : decode cX9_gainOf 15 = .ok (.ifCond .eq 7, 3) := by decide +kernel
theorem dX9_gainOf_18 : decode cX9_gainOf 18 = .ok (.iconst 1, 1) := by decide +kernel
theorem dX9_gainOf_19 : decode cX9_gainOf 19 = .ok (.goto 9, 3) := by decide +kernel
theorem dX9_gainOf_22 : decode cX9_gainOf 22 = .ok (.aload_n 0, 1) := by decide +kernel
theorem dX9_gainOf_23 : decode cX9_gainOf 23 = .ok (.getfield 16, 3) := by decide +kernel
theorem dX9_gainOf_26 : decode cX9_gainOf 26 = .ok (.iload_n 3, 1) := by decide +kernel
theorem dX9_gainOf_27 : decode cX9_gainOf 27 = .ok (.iaload, 1) := by decide +kernel
theorem dX9_gainOf_28 : decode cX9_gainOf 28 = .ok (.imul, 1) := by decide +kernel
theorem dX9_gainOf_29 : decode cX9_gainOf 29 = .ok (.aload_n 0, 1) := by decide +kernel
theorem dX9_gainOf_30 : decode cX9_gainOf 30 = .ok (.getfield 13, 3) := by decide +kernel
theorem dX9_gainOf_33 : decode cX9_gainOf 33 = .ok (.iconst 2, 1) := by decide +kernel
theorem dX9_gainOf_34 : decode cX9_gainOf 34 = .ok (.iload_n 1, 1) := by decide +kernel
theorem dX9_gainOf_35 : decode cX9_gainOf 35 = .ok (.imul, 1) := by decide +kernel
theorem dX9_gainOf_36 : decode cX9_gainOf 36 = .ok (.iaload, 1) := by decide +kernel
theorem dX9_gainOf_37 : decode cX9_gainOf 37 = .ok (.isub, 1) := by decide +kernel
theorem dX9_gainOf_38 : decode cX9_gainOf 38 = .ok (.istore 4, 2) := by decide +kernel
theorem dX9_gainOf_40 : decode cX9_gainOf 40 = .ok (.iload 4, 2) := by decide +kernel
theorem dX9_gainOf_42 : decode cX9_gainOf 42 = .ok (.iconst 1, 1) := by decide +kernel
theorem dX9_gainOf_43 : decode cX9_gainOf 43 = .ok (.if_icmp .ge 7, 3) := by decide +kernel
theorem dX9_gainOf_46 : decode cX9_gainOf 46 = .ok (.iconst 1, 1) := by decide +kernel
theorem dX9_gainOf_47 : decode cX9_gainOf 47 = .ok (.goto 5, 3) := by decide +kernel
theorem dX9_gainOf_50 : decode cX9_gainOf 50 = .ok (.iload 4, 2) := by decide +kernel
theorem dX9_gainOf_52 : decode cX9_gainOf 52 = .ok (.aload_n 0, 1) := by decide +kernel
theorem dX9_gainOf_53 : decode cX9_gainOf 53 = .ok (.getfield 47, 3) := by decide +kernel
theorem dX9_gainOf_56 : decode cX9_gainOf 56 = .ok (.bipush 10, 2) := by decide +kernel
theorem dX9_gainOf_58 : decode cX9_gainOf 58 = .ok (.iaload, 1) := by decide +kernel
theorem dX9_gainOf_59 : decode cX9_gainOf 59 = .ok (.iload_n 1, 1) := by decide +kernel
theorem dX9_gainOf_60 : decode cX9_gainOf 60 = .ok (.invokestatic 158, 3) := by decide +kernel
theorem dX9_gainOf_63 : decode cX9_gainOf 63 = .ok (.ifCond .eq 7, 3) := by decide +kernel
theorem dX9_gainOf_66 : decode cX9_gainOf 66 = .ok (.iconst 3, 1) := by decide +kernel
theorem dX9_gainOf_67 : decode cX9_gainOf 67 = .ok (.goto 4, 3) := by decide +kernel
theorem dX9_gainOf_70 : decode cX9_gainOf 70 = .ok (.iconst 0, 1) := by decide +kernel
theorem dX9_gainOf_71 : decode cX9_gainOf 71 = .ok (.iadd, 1) := by decide +kernel
theorem dX9_gainOf_72 : decode cX9_gainOf 72 = .ok (.ireturn, 1) := by decide +kernel
theorem dX9_isTaken_0 : decode cX9_isTaken 0 = .ok (.iconst 0, 1) := by decide +kernel
theorem dX9_isTaken_1 : decode cX9_isTaken 1 = .ok (.istore_n 3, 1) := by decide +kernel
theorem dX9_isTaken_2 : decode cX9_isTaken 2 = .ok (.iconst 0, 1) := by decide +kernel
theorem dX9_isTaken_3 : decode cX9_isTaken 3 = .ok (.istore 4, 2) := by decide +kernel
theorem dX9_isTaken_5 : decode cX9_isTaken 5 = .ok (.iload 4, 2) := by decide +kernel
theorem dX9_isTaken_7 : decode cX9_isTaken 7 = .ok (.aload_n 0, 1) := by decide +kernel
theorem dX9_isTaken_8 : decode cX9_isTaken 8 = .ok (.getfield 74, 3) := by decide +kernel
theorem dX9_isTaken_11 : decode cX9_isTaken 11 = .ok (.if_icmp .ge 46, 3) := by decide +kernel
theorem dX9_isTaken_14 : decode cX9_isTaken 14 = .ok (.iload_n 3, 1) := by decide +kernel
theorem dX9_isTaken_15 : decode cX9_isTaken 15 = .ok (.ifCond .ne 30, 3) := by decide +kernel
theorem dX9_isTaken_18 : decode cX9_isTaken 18 = .ok (.iload 4, 2) := by decide +kernel
theorem dX9_isTaken_20 : decode cX9_isTaken 20 = .ok (.iload_n 2, 1) := by decide +kernel
theorem dX9_isTaken_21 : decode cX9_isTaken 21 = .ok (.if_icmp .eq 28, 3) := by decide +kernel
theorem dX9_isTaken_24 : decode cX9_isTaken 24 = .ok (.aload_n 0, 1) := by decide +kernel
theorem dX9_isTaken_25 : decode cX9_isTaken 25 = .ok (.getfield 56, 3) := by decide +kernel
theorem dX9_isTaken_28 : decode cX9_isTaken 28 = .ok (.iload 4, 2) := by decide +kernel
theorem dX9_isTaken_30 : decode cX9_isTaken 30 = .ok (.iaload, 1) := by decide +kernel
theorem dX9_isTaken_31 : decode cX9_isTaken 31 = .ok (.ifCond .ne 18, 3) := by decide +kernel
theorem dX9_isTaken_34 : decode cX9_isTaken 34 = .ok (.aload_n 0, 1) := by decide +kernel
theorem dX9_isTaken_35 : decode cX9_isTaken 35 = .ok (.getfield 50, 3) := by decide +kernel
theorem dX9_isTaken_38 : decode cX9_isTaken 38 = .ok (.iload 4, 2) := by decide +kernel
theorem dX9_isTaken_40 : decode cX9_isTaken 40 = .ok (.iaload, 1) := by decide +kernel
theorem dX9_isTaken_41 : decode cX9_isTaken 41 = .ok (.iload_n 1, 1) := by decide +kernel
theorem dX9_isTaken_42 : decode cX9_isTaken 42 = .ok (.if_icmp .ne 7, 3) := by decide +kernel
theorem dX9_isTaken_45 : decode cX9_isTaken 45 = .ok (.iconst 1, 1) := by decide +kernel
theorem dX9_isTaken_46 : decode cX9_isTaken 46 = .ok (.goto 4, 3) := by decide +kernel
theorem dX9_isTaken_49 : decode cX9_isTaken 49 = .ok (.iconst 0, 1) := by decide +kernel
theorem dX9_isTaken_50 : decode cX9_isTaken 50 = .ok (.istore_n 3, 1) := by decide +kernel
theorem dX9_isTaken_51 : decode cX9_isTaken 51 = .ok (.iinc 4 1, 3) := by decide +kernel
theorem dX9_isTaken_54 : decode cX9_isTaken 54 = .ok (.goto (-49), 3) := by decide +kernel
theorem dX9_isTaken_57 : decode cX9_isTaken 57 = .ok (.iload_n 3, 1) := by decide +kernel
theorem dX9_isTaken_58 : decode cX9_isTaken 58 = .ok (.ireturn, 1) := by decide +kernel
theorem dX9_goes_0 : decode cX9_goes 0 = .ok (.aload_n 0, 1) := by decide +kernel
theorem dX9_goes_1 : decode cX9_goes 1 = .ok (.getfield 53, 3) := by decide +kernel
theorem dX9_goes_4 : decode cX9_goes 4 = .ok (.iload_n 1, 1) := by decide +kernel
theorem dX9_goes_5 : decode cX9_goes 5 = .ok (.dup2, 1) := by decide +kernel
theorem dX9_goes_6 : decode cX9_goes 6 = .ok (.iaload, 1) := by decide +kernel
theorem dX9_goes_7 : decode cX9_goes 7 = .ok (.iload_n 3, 1) := by decide +kernel
theorem dX9_goes_8 : decode cX9_goes 8 = .ok (.iadd, 1) := by decide +kernel
theorem dX9_goes_9 : decode cX9_goes 9 = .ok (.iastore, 1) := by decide +kernel
theorem dX9_goes_10 : decode cX9_goes 10 = .ok (.iconst 1, 1) := by decide +kernel
theorem dX9_goes_11 : decode cX9_goes 11 = .ok (.istore 4, 2) := by decide +kernel
theorem dX9_goes_13 : decode cX9_goes 13 = .ok (.iload 4, 2) := by decide +kernel
theorem dX9_goes_15 : decode cX9_goes 15 = .ok (.ifCond .eq 171, 3) := by decide +kernel
theorem dX9_goes_18 : decode cX9_goes 18 = .ok (.aload_n 0, 1) := by decide +kernel
theorem dX9_goes_19 : decode cX9_goes 19 = .ok (.getfield 53, 3) := by decide +kernel
theorem dX9_goes_22 : decode cX9_goes 22 = .ok (.iload_n 1, 1) := by decide +kernel
theorem dX9_goes_23 : decode cX9_goes 23 = .ok (.iaload, 1) := by decide +kernel
theorem dX9_goes_24 : decode cX9_goes 24 = .ok (.aload_n 0, 1) := by decide +kernel
theorem dX9_goes_25 : decode cX9_goes 25 = .ok (.getfield 7, 3) := by decide +kernel
theorem dX9_goes_28 : decode cX9_goes 28 = .ok (.aload_n 0, 1) := by decide +kernel
theorem dX9_goes_29 : decode cX9_goes 29 = .ok (.getfield 50, 3) := by decide +kernel
theorem dX9_goes_32 : decode cX9_goes 32 = .ok (.iload_n 1, 1) := by decide +kernel
theorem dX9_goes_33 : decode cX9_goes 33 = .ok (.iaload, 1) := by decide +kernel
theorem dX9_goes_34 : decode cX9_goes 34 = .ok (.iaload, 1) := by decide +kernel
theorem dX9_goes_35 : decode cX9_goes 35 = .ok (.if_icmp .lt 151, 3) := by decide +kernel
theorem dX9_goes_38 : decode cX9_goes 38 = .ok (.aload_n 0, 1) := by decide +kernel
theorem dX9_goes_39 : decode cX9_goes 39 = .ok (.getfield 50, 3) := by decide +kernel
theorem dX9_goes_42 : decode cX9_goes 42 = .ok (.iload_n 1, 1) := by decide +kernel
theorem dX9_goes_43 : decode cX9_goes 43 = .ok (.iaload, 1) := by decide +kernel
theorem dX9_goes_44 : decode cX9_goes 44 = .ok (.iconst 1, 1) := by decide +kernel
theorem dX9_goes_45 : decode cX9_goes 45 = .ok (.iadd, 1) := by decide +kernel
theorem dX9_goes_46 : decode cX9_goes 46 = .ok (.istore 5, 2) := by decide +kernel
theorem dX9_goes_48 : decode cX9_goes 48 = .ok (.iload 5, 2) := by decide +kernel
theorem dX9_goes_50 : decode cX9_goes 50 = .ok (.aload_n 0, 1) := by decide +kernel
theorem dX9_goes_51 : decode cX9_goes 51 = .ok (.getfield 81, 3) := by decide +kernel
theorem dX9_goes_54 : decode cX9_goes 54 = .ok (.if_icmp .ne 56, 3) := by decide +kernel
theorem dX9_goes_57 : decode cX9_goes 57 = .ok (.aload_n 0, 1) := by decide +kernel
theorem dX9_goes_58 : decode cX9_goes 58 = .ok (.getfield 53, 3) := by decide +kernel
theorem dX9_goes_61 : decode cX9_goes 61 = .ok (.iload_n 1, 1) := by decide +kernel
theorem dX9_goes_62 : decode cX9_goes 62 = .ok (.dup2, 1) := by decide +kernel
theorem dX9_goes_63 : decode cX9_goes 63 = .ok (.iaload, 1) := by decide +kernel
theorem dX9_goes_64 : decode cX9_goes 64 = .ok (.aload_n 0, 1) := by decide +kernel
theorem dX9_goes_65 : decode cX9_goes 65 = .ok (.getfield 7, 3) := by decide +kernel
theorem dX9_goes_68 : decode cX9_goes 68 = .ok (.aload_n 0, 1) := by decide +kernel
theorem dX9_goes_69 : decode cX9_goes 69 = .ok (.getfield 50, 3) := by decide +kernel
theorem dX9_goes_72 : decode cX9_goes 72 = .ok (.iload_n 1, 1) := by decide +kernel
theorem dX9_goes_73 : decode cX9_goes 73 = .ok (.iaload, 1) := by decide +kernel
theorem dX9_goes_74 : decode cX9_goes 74 = .ok (.iaload, 1) := by decide +kernel
theorem dX9_goes_75 : decode cX9_goes 75 = .ok (.isub, 1) := by decide +kernel
theorem dX9_goes_76 : decode cX9_goes 76 = .ok (.iastore, 1) := by decide +kernel
theorem dX9_goes_77 : decode cX9_goes 77 = .ok (.aload_n 0, 1) := by decide +kernel
theorem dX9_goes_78 : decode cX9_goes 78 = .ok (.getfield 56, 3) := by decide +kernel
theorem dX9_goes_81 : decode cX9_goes 81 = .ok (.iload_n 1, 1) := by decide +kernel
theorem dX9_goes_82 : decode cX9_goes 82 = .ok (.iload_n 2, 1) := by decide +kernel
theorem dX9_goes_83 : decode cX9_goes 83 = .ok (.iastore, 1) := by decide +kernel
theorem dX9_goes_84 : decode cX9_goes 84 = .ok (.aload_n 0, 1) := by decide +kernel
theorem dX9_goes_85 : decode cX9_goes 85 = .ok (.getfield 59, 3) := by decide +kernel
theorem dX9_goes_88 : decode cX9_goes 88 = .ok (.aload_n 0, 1) := by decide +kernel
theorem dX9_goes_89 : decode cX9_goes 89 = .ok (.getfield 162, 3) := by decide +kernel
theorem dX9_goes_92 : decode cX9_goes 92 = .ok (.iload_n 1, 1) := by decide +kernel
theorem dX9_goes_93 : decode cX9_goes 93 = .ok (.iastore, 1) := by decide +kernel
theorem dX9_goes_94 : decode cX9_goes 94 = .ok (.aload_n 0, 1) := by decide +kernel
theorem dX9_goes_95 : decode cX9_goes 95 = .ok (.dup, 1) := by decide +kernel
theorem dX9_goes_96 : decode cX9_goes 96 = .ok (.getfield 162, 3) := by decide +kernel
theorem dX9_goes_99 : decode cX9_goes 99 = .ok (.iconst 1, 1) := by decide +kernel
theorem dX9_goes_100 : decode cX9_goes 100 = .ok (.iadd, 1) := by decide +kernel
theorem dX9_goes_101 : decode cX9_goes 101 = .ok (.putfield 162, 3) := by decide +kernel
theorem dX9_goes_104 : decode cX9_goes 104 = .ok (.iconst 0, 1) := by decide +kernel
theorem dX9_goes_105 : decode cX9_goes 105 = .ok (.istore 4, 2) := by decide +kernel
theorem dX9_goes_107 : decode cX9_goes 107 = .ok (.goto 76, 3) := by decide +kernel
theorem dX9_goes_110 : decode cX9_goes 110 = .ok (.aload_n 0, 1) := by decide +kernel
theorem dX9_goes_111 : decode cX9_goes 111 = .ok (.getfield 7, 3) := by decide +kernel
theorem dX9_goes_114 : decode cX9_goes 114 = .ok (.iload 5, 2) := by decide +kernel
theorem dX9_goes_116 : decode cX9_goes 116 = .ok (.iaload, 1) := by decide +kernel
theorem dX9_goes_117 : decode cX9_goes 117 = .ok (.bipush 6, 2) := by decide +kernel
theorem dX9_goes_119 : decode cX9_goes 119 = .ok (.if_icmp .ne 36, 3) := by decide +kernel
theorem dX9_goes_122 : decode cX9_goes 122 = .ok (.aload_n 0, 1) := by decide +kernel
theorem dX9_goes_123 : decode cX9_goes 123 = .ok (.iload 5, 2) := by decide +kernel
theorem dX9_goes_125 : decode cX9_goes 125 = .ok (.iload_n 1, 1) := by decide +kernel
theorem dX9_goes_126 : decode cX9_goes 126 = .ok (.invokevirtual 165, 3) := by decide +kernel
theorem dX9_goes_129 : decode cX9_goes 129 = .ok (.ifCond .eq 26, 3) := by decide +kernel
theorem dX9_goes_132 : decode cX9_goes 132 = .ok (.aload_n 0, 1) := by decide +kernel
theorem dX9_goes_133 : decode cX9_goes 133 = .ok (.getfield 53, 3) := by decide +kernel
theorem dX9_goes_136 : decode cX9_goes 136 = .ok (.iload_n 1, 1) := by decide +kernel
theorem dX9_goes_137 : decode cX9_goes 137 = .ok (.aload_n 0, 1) := by decide +kernel
theorem dX9_goes_138 : decode cX9_goes 138 = .ok (.getfield 7, 3) := by decide +kernel
theorem dX9_goes_141 : decode cX9_goes 141 = .ok (.aload_n 0, 1) := by decide +kernel
theorem dX9_goes_142 : decode cX9_goes 142 = .ok (.getfield 50, 3) := by decide +kernel
theorem dX9_goes_145 : decode cX9_goes 145 = .ok (.iload_n 1, 1) := by decide +kernel
theorem dX9_goes_146 : decode cX9_goes 146 = .ok (.iaload, 1) := by decide +kernel
theorem dX9_goes_147 : decode cX9_goes 147 = .ok (.iaload, 1) := by decide +kernel
theorem dX9_goes_148 : decode cX9_goes 148 = .ok (.iastore, 1) := by decide +kernel
theorem dX9_goes_149 : decode cX9_goes 149 = .ok (.iconst 0, 1) := by decide +kernel
theorem dX9_goes_150 : decode cX9_goes 150 = .ok (.istore 4, 2) := by decide +kernel
theorem dX9_goes_152 : decode cX9_goes 152 = .ok (.goto 31, 3) := by decide +kernel
theorem dX9_goes_155 : decode cX9_goes 155 = .ok (.aload_n 0, 1) := by decide +kernel
theorem dX9_goes_156 : decode cX9_goes 156 = .ok (.getfield 53, 3) := by decide +kernel
theorem dX9_goes_159 : decode cX9_goes 159 = .ok (.iload_n 1, 1) := by decide +kernel
theorem dX9_goes_160 : decode cX9_goes 160 = .ok (.dup2, 1) := by decide +kernel
theorem dX9_goes_161 : decode cX9_goes 161 = .ok (.iaload, 1) := by decide +kernel
theorem dX9_goes_162 : decode cX9_goes 162 = .ok (.aload_n 0, 1) := by decide +kernel
theorem dX9_goes_163 : decode cX9_goes 163 = .ok (.getfield 7, 3) := by decide +kernel
theorem dX9_goes_166 : decode cX9_goes 166 = .ok (.aload_n 0, 1) := by decide +kernel
theorem dX9_goes_167 : decode cX9_goes 167 = .ok (.getfield 50, 3) := by decide +kernel
theorem dX9_goes_170 : decode cX9_goes 170 = .ok (.iload_n 1, 1) := by decide +kernel
theorem dX9_goes_171 : decode cX9_goes 171 = .ok (.iaload, 1) := by decide +kernel
theorem dX9_goes_172 : decode cX9_goes 172 = .ok (.iaload, 1) := by decide +kernel
theorem dX9_goes_173 : decode cX9_goes 173 = .ok (.isub, 1) := by decide +kernel
theorem dX9_goes_174 : decode cX9_goes 174 = .ok (.iastore, 1) := by decide +kernel
theorem dX9_goes_175 : decode cX9_goes 175 = .ok (.aload_n 0, 1) := by decide +kernel
theorem dX9_goes_176 : decode cX9_goes 176 = .ok (.getfield 50, 3) := by decide +kernel
theorem dX9_goes_179 : decode cX9_goes 179 = .ok (.iload_n 1, 1) := by decide +kernel
theorem dX9_goes_180 : decode cX9_goes 180 = .ok (.iload 5, 2) := by decide +kernel
theorem dX9_goes_182 : decode cX9_goes 182 = .ok (.iastore, 1) := by decide +kernel
theorem dX9_goes_183 : decode cX9_goes 183 = .ok (.goto (-170), 3) := by decide +kernel
theorem dX9_goes_186 : decode cX9_goes 186 = .ok (.return_, 1) := by decide +kernel
theorem dX9_races_0 : decode cX9_races 0 = .ok (.iconst 0, 1) := by decide +kernel
theorem dX9_races_1 : decode cX9_races 1 = .ok (.istore_n 2, 1) := by decide +kernel
theorem dX9_races_2 : decode cX9_races 2 = .ok (.iload_n 2, 1) := by decide +kernel
theorem dX9_races_3 : decode cX9_races 3 = .ok (.aload_n 0, 1) := by decide +kernel
theorem dX9_races_4 : decode cX9_races 4 = .ok (.getfield 74, 3) := by decide +kernel
theorem dX9_races_7 : decode cX9_races 7 = .ok (.if_icmp .ge 30, 3) := by decide +kernel
theorem dX9_races_10 : decode cX9_races 10 = .ok (.aload_n 0, 1) := by decide +kernel
theorem dX9_races_11 : decode cX9_races 11 = .ok (.getfield 50, 3) := by decide +kernel
theorem dX9_races_14 : decode cX9_races 14 = .ok (.iload_n 2, 1) := by decide +kernel
theorem dX9_races_15 : decode cX9_races 15 = .ok (.iconst 0, 1) := by decide +kernel
theorem dX9_races_16 : decode cX9_races 16 = .ok (.iastore, 1) := by decide +kernel
theorem dX9_races_17 : decode cX9_races 17 = .ok (.aload_n 0, 1) := by decide +kernel
theorem dX9_races_18 : decode cX9_races 18 = .ok (.getfield 53, 3) := by decide +kernel
theorem dX9_races_21 : decode cX9_races 21 = .ok (.iload_n 2, 1) := by decide +kernel
theorem dX9_races_22 : decode cX9_races 22 = .ok (.iconst 0, 1) := by decide +kernel
theorem dX9_races_23 : decode cX9_races 23 = .ok (.iastore, 1) := by decide +kernel
theorem dX9_races_24 : decode cX9_races 24 = .ok (.aload_n 0, 1) := by decide +kernel
theorem dX9_races_25 : decode cX9_races 25 = .ok (.getfield 56, 3) := by decide +kernel
theorem dX9_races_28 : decode cX9_races 28 = .ok (.iload_n 2, 1) := by decide +kernel
theorem dX9_races_29 : decode cX9_races 29 = .ok (.iconst 0, 1) := by decide +kernel
theorem dX9_races_30 : decode cX9_races 30 = .ok (.iastore, 1) := by decide +kernel
theorem dX9_races_31 : decode cX9_races 31 = .ok (.iinc 2 1, 3) := by decide +kernel
theorem dX9_races_34 : decode cX9_races 34 = .ok (.goto (-32), 3) := by decide +kernel
theorem dX9_races_37 : decode cX9_races 37 = .ok (.aload_n 0, 1) := by decide +kernel
theorem dX9_races_38 : decode cX9_races 38 = .ok (.iconst 0, 1) := by decide +kernel
theorem dX9_races_39 : decode cX9_races 39 = .ok (.putfield 162, 3) := by decide +kernel
theorem dX9_races_42 : decode cX9_races 42 = .ok (.iconst 1, 1) := by decide +kernel
theorem dX9_races_43 : decode cX9_races 43 = .ok (.istore_n 2, 1) := by decide +kernel
theorem dX9_races_44 : decode cX9_races 44 = .ok (.aload_n 0, 1) := by decide +kernel
theorem dX9_races_45 : decode cX9_races 45 = .ok (.getfield 162, 3) := by decide +kernel
theorem dX9_races_48 : decode cX9_races 48 = .ok (.aload_n 0, 1) := by decide +kernel
theorem dX9_races_49 : decode cX9_races 49 = .ok (.getfield 74, 3) := by decide +kernel
theorem dX9_races_52 : decode cX9_races 52 = .ok (.if_icmp .ge 58, 3) := by decide +kernel
theorem dX9_races_55 : decode cX9_races 55 = .ok (.iconst 0, 1) := by decide +kernel
theorem dX9_races_56 : decode cX9_races 56 = .ok (.istore_n 3, 1) := by decide +kernel
theorem dX9_races_57 : decode cX9_races 57 = .ok (.iload_n 3, 1) := by decide +kernel
theorem dX9_races_58 : decode cX9_races 58 = .ok (.aload_n 0, 1) := by decide +kernel
theorem dX9_races_59 : decode cX9_races 59 = .ok (.getfield 74, 3) := by decide +kernel
theorem dX9_races_62 : decode cX9_races 62 = .ok (.if_icmp .ge 42, 3) := by decide +kernel
theorem dX9_races_65 : decode cX9_races 65 = .ok (.aload_n 0, 1) := by decide +kernel
theorem dX9_races_66 : decode cX9_races 66 = .ok (.getfield 56, 3) := by decide +kernel
theorem dX9_races_69 : decode cX9_races 69 = .ok (.iload_n 3, 1) := by decide +kernel
theorem dX9_races_70 : decode cX9_races 70 = .ok (.iaload, 1) := by decide +kernel
theorem dX9_races_71 : decode cX9_races 71 = .ok (.ifCond .ne 27, 3) := by decide +kernel
theorem dX9_races_74 : decode cX9_races 74 = .ok (.aload_n 0, 1) := by decide +kernel
theorem dX9_races_75 : decode cX9_races 75 = .ok (.getfield 47, 3) := by decide +kernel
theorem dX9_races_78 : decode cX9_races 78 = .ok (.iconst 5, 1) := by decide +kernel
theorem dX9_races_79 : decode cX9_races 79 = .ok (.iload_n 3, 1) := by decide +kernel
theorem dX9_races_80 : decode cX9_races 80 = .ok (.iadd, 1) := by decide +kernel
theorem dX9_races_81 : decode cX9_races 81 = .ok (.iaload, 1) := by decide +kernel
theorem dX9_races_82 : decode cX9_races 82 = .ok (.iload_n 2, 1) := by decide +kernel
theorem dX9_races_83 : decode cX9_races 83 = .ok (.if_icmp .ge 15, 3) := by decide +kernel
theorem dX9_races_86 : decode cX9_races 86 = .ok (.aload_n 0, 1) := by decide +kernel
theorem dX9_races_87 : decode cX9_races 87 = .ok (.iload_n 3, 1) := by decide +kernel
theorem dX9_races_88 : decode cX9_races 88 = .ok (.iload_n 2, 1) := by decide +kernel
theorem dX9_races_89 : decode cX9_races 89 = .ok (.aload_n 0, 1) := by decide +kernel
theorem dX9_races_90 : decode cX9_races 90 = .ok (.iload_n 3, 1) := by decide +kernel
theorem dX9_races_91 : decode cX9_races 91 = .ok (.iload_n 1, 1) := by decide +kernel
theorem dX9_races_92 : decode cX9_races 92 = .ok (.invokevirtual 168, 3) := by decide +kernel
theorem dX9_races_95 : decode cX9_races 95 = .ok (.invokevirtual 171, 3) := by decide +kernel
theorem dX9_races_98 : decode cX9_races 98 = .ok (.iinc 3 1, 3) := by decide +kernel
theorem dX9_races_101 : decode cX9_races 101 = .ok (.goto (-44), 3) := by decide +kernel
theorem dX9_races_104 : decode cX9_races 104 = .ok (.iinc 2 1, 3) := by decide +kernel
theorem dX9_races_107 : decode cX9_races 107 = .ok (.goto (-63), 3) := by decide +kernel
theorem dX9_races_110 : decode cX9_races 110 = .ok (.return_, 1) := by decide +kernel
theorem dX9_aloneOf_0 : decode cX9_aloneOf 0 = .ok (.iconst 0, 1) := by decide +kernel
theorem dX9_aloneOf_1 : decode cX9_aloneOf 1 = .ok (.istore_n 2, 1) := by decide +kernel
theorem dX9_aloneOf_2 : decode cX9_aloneOf 2 = .ok (.iconst 0, 1) := by decide +kernel
theorem dX9_aloneOf_3 : decode cX9_aloneOf 3 = .ok (.istore_n 3, 1) := by decide +kernel
theorem dX9_aloneOf_4 : decode cX9_aloneOf 4 = .ok (.aload_n 0, 1) := by decide +kernel
theorem dX9_aloneOf_5 : decode cX9_aloneOf 5 = .ok (.getfield 47, 3) := by decide +kernel
theorem dX9_aloneOf_8 : decode cX9_aloneOf 8 = .ok (.iconst 5, 1) := by decide +kernel
theorem dX9_aloneOf_9 : decode cX9_aloneOf 9 = .ok (.iload_n 1, 1) := by decide +kernel
theorem dX9_aloneOf_10 : decode cX9_aloneOf 10 = .ok (.iadd, 1) := by decide +kernel
theorem dX9_aloneOf_11 : decode cX9_aloneOf 11 = .ok (.iaload, 1) := by decide +kernel
theorem dX9_aloneOf_12 : decode cX9_aloneOf 12 = .ok (.istore 4, 2) := by decide +kernel
theorem dX9_aloneOf_14 : decode cX9_aloneOf 14 = .ok (.iload_n 2, 1) := by decide +kernel
theorem dX9_aloneOf_15 : decode cX9_aloneOf 15 = .ok (.aload_n 0, 1) := by decide +kernel
theorem dX9_aloneOf_16 : decode cX9_aloneOf 16 = .ok (.getfield 81, 3) := by decide +kernel
theorem dX9_aloneOf_19 : decode cX9_aloneOf 19 = .ok (.if_icmp .ge 48, 3) := by decide +kernel
theorem dX9_aloneOf_22 : decode cX9_aloneOf 22 = .ok (.iinc 4 1, 3) := by decide +kernel
theorem dX9_aloneOf_25 : decode cX9_aloneOf 25 = .ok (.iload_n 3, 1) := by decide +kernel
theorem dX9_aloneOf_26 : decode cX9_aloneOf 26 = .ok (.aload_n 0, 1) := by decide +kernel
theorem dX9_aloneOf_27 : decode cX9_aloneOf 27 = .ok (.iload_n 1, 1) := by decide +kernel
theorem dX9_aloneOf_28 : decode cX9_aloneOf 28 = .ok (.iconst 0, 1) := by decide +kernel
theorem dX9_aloneOf_29 : decode cX9_aloneOf 29 = .ok (.invokevirtual 168, 3) := by decide +kernel
theorem dX9_aloneOf_32 : decode cX9_aloneOf 32 = .ok (.iadd, 1) := by decide +kernel
theorem dX9_aloneOf_33 : decode cX9_aloneOf 33 = .ok (.istore_n 3, 1) := by decide +kernel
theorem dX9_aloneOf_34 : decode cX9_aloneOf 34 = .ok (.iload_n 2, 1) := by decide +kernel
theorem dX9_aloneOf_35 : decode cX9_aloneOf 35 = .ok (.aload_n 0, 1) := by decide +kernel
theorem dX9_aloneOf_36 : decode cX9_aloneOf 36 = .ok (.getfield 81, 3) := by decide +kernel
theorem dX9_aloneOf_39 : decode cX9_aloneOf 39 = .ok (.if_icmp .ge (-25), 3) := by decide +kernel
theorem dX9_aloneOf_42 : decode cX9_aloneOf 42 = .ok (.iload_n 3, 1) := by decide +kernel
theorem dX9_aloneOf_43 : decode cX9_aloneOf 43 = .ok (.aload_n 0, 1) := by decide +kernel
theorem dX9_aloneOf_44 : decode cX9_aloneOf 44 = .ok (.getfield 7, 3) := by decide +kernel
theorem dX9_aloneOf_47 : decode cX9_aloneOf 47 = .ok (.iload_n 2, 1) := by decide +kernel
theorem dX9_aloneOf_48 : decode cX9_aloneOf 48 = .ok (.iaload, 1) := by decide +kernel
theorem dX9_aloneOf_49 : decode cX9_aloneOf 49 = .ok (.if_icmp .lt (-35), 3) := by decide +kernel
theorem dX9_aloneOf_52 : decode cX9_aloneOf 52 = .ok (.iload_n 3, 1) := by decide +kernel
theorem dX9_aloneOf_53 : decode cX9_aloneOf 53 = .ok (.aload_n 0, 1) := by decide +kernel
theorem dX9_aloneOf_54 : decode cX9_aloneOf 54 = .ok (.getfield 7, 3) := by decide +kernel
theorem dX9_aloneOf_57 : decode cX9_aloneOf 57 = .ok (.iload_n 2, 1) := by decide +kernel
theorem dX9_aloneOf_58 : decode cX9_aloneOf 58 = .ok (.iaload, 1) := by decide +kernel
theorem dX9_aloneOf_59 : decode cX9_aloneOf 59 = .ok (.isub, 1) := by decide +kernel
theorem dX9_aloneOf_60 : decode cX9_aloneOf 60 = .ok (.istore_n 3, 1) := by decide +kernel
theorem dX9_aloneOf_61 : decode cX9_aloneOf 61 = .ok (.iinc 2 1, 3) := by decide +kernel
theorem dX9_aloneOf_64 : decode cX9_aloneOf 64 = .ok (.goto (-30), 3) := by decide +kernel
theorem dX9_aloneOf_67 : decode cX9_aloneOf 67 = .ok (.iload 4, 2) := by decide +kernel
theorem dX9_aloneOf_69 : decode cX9_aloneOf 69 = .ok (.ireturn, 1) := by decide +kernel
theorem dX9_chair_0 : decode cX9_chair 0 = .ok (.aload_n 0, 1) := by decide +kernel
theorem dX9_chair_1 : decode cX9_chair 1 = .ok (.iload_n 1, 1) := by decide +kernel
theorem dX9_chair_2 : decode cX9_chair 2 = .ok (.invokevirtual 175, 3) := by decide +kernel
theorem dX9_chair_5 : decode cX9_chair 5 = .ok (.ifCond .ne 5, 3) := by decide +kernel
theorem dX9_chair_8 : decode cX9_chair 8 = .ok (.iconst (-1), 1) := by decide +kernel
theorem dX9_chair_9 : decode cX9_chair 9 = .ok (.ireturn, 1) := by decide +kernel
theorem dX9_chair_10 : decode cX9_chair 10 = .ok (.aload_n 0, 1) := by decide +kernel
theorem dX9_chair_11 : decode cX9_chair 11 = .ok (.invokevirtual 178, 3) := by decide +kernel
theorem dX9_chair_14 : decode cX9_chair 14 = .ok (.iload_n 2, 1) := by decide +kernel
theorem dX9_chair_15 : decode cX9_chair 15 = .ok (.tableswitch 107 0 6 #[41, 41, 52, 61, 70, 90, 97], 41) := by decide +kernel
theorem dX9_chair_56 : decode cX9_chair 56 = .ok (.aload_n 0, 1) := by decide +kernel
theorem dX9_chair_57 : decode cX9_chair 57 = .ok (.getfield 13, 3) := by decide +kernel
theorem dX9_chair_60 : decode cX9_chair 60 = .ok (.iconst 2, 1) := by decide +kernel
theorem dX9_chair_61 : decode cX9_chair 61 = .ok (.iload_n 1, 1) := by decide +kernel
theorem dX9_chair_62 : decode cX9_chair 62 = .ok (.imul, 1) := by decide +kernel
theorem dX9_chair_63 : decode cX9_chair 63 = .ok (.iload_n 2, 1) := by decide +kernel
theorem dX9_chair_64 : decode cX9_chair 64 = .ok (.iadd, 1) := by decide +kernel
theorem dX9_chair_65 : decode cX9_chair 65 = .ok (.iaload, 1) := by decide +kernel
theorem dX9_chair_66 : decode cX9_chair 66 = .ok (.ireturn, 1) := by decide +kernel
theorem dX9_chair_67 : decode cX9_chair 67 = .ok (.aload_n 0, 1) := by decide +kernel
theorem dX9_chair_68 : decode cX9_chair 68 = .ok (.getfield 19, 3) := by decide +kernel
theorem dX9_chair_71 : decode cX9_chair 71 = .ok (.iconst 0, 1) := by decide +kernel
theorem dX9_chair_72 : decode cX9_chair 72 = .ok (.iload_n 1, 1) := by decide +kernel
theorem dX9_chair_73 : decode cX9_chair 73 = .ok (.iadd, 1) := by decide +kernel
theorem dX9_chair_74 : decode cX9_chair 74 = .ok (.iaload, 1) := by decide +kernel
theorem dX9_chair_75 : decode cX9_chair 75 = .ok (.ireturn, 1) := by decide +kernel
theorem dX9_chair_76 : decode cX9_chair 76 = .ok (.aload_n 0, 1) := by decide +kernel
theorem dX9_chair_77 : decode cX9_chair 77 = .ok (.getfield 19, 3) := by decide +kernel
theorem dX9_chair_80 : decode cX9_chair 80 = .ok (.iconst 5, 1) := by decide +kernel
theorem dX9_chair_81 : decode cX9_chair 81 = .ok (.iload_n 1, 1) := by decide +kernel
theorem dX9_chair_82 : decode cX9_chair 82 = .ok (.iadd, 1) := by decide +kernel
theorem dX9_chair_83 : decode cX9_chair 83 = .ok (.iaload, 1) := by decide +kernel
theorem dX9_chair_84 : decode cX9_chair 84 = .ok (.ireturn, 1) := by decide +kernel
theorem dX9_chair_85 : decode cX9_chair 85 = .ok (.aload_n 0, 1) := by decide +kernel
theorem dX9_chair_86 : decode cX9_chair 86 = .ok (.getfield 19, 3) := by decide +kernel
theorem dX9_chair_89 : decode cX9_chair 89 = .ok (.bipush 10, 2) := by decide +kernel
theorem dX9_chair_91 : decode cX9_chair 91 = .ok (.iaload, 1) := by decide +kernel
theorem dX9_chair_92 : decode cX9_chair 92 = .ok (.iload_n 1, 1) := by decide +kernel
theorem dX9_chair_93 : decode cX9_chair 93 = .ok (.invokestatic 158, 3) := by decide +kernel
theorem dX9_chair_96 : decode cX9_chair 96 = .ok (.ifCond .eq 7, 3) := by decide +kernel
theorem dX9_chair_99 : decode cX9_chair 99 = .ok (.iconst 1, 1) := by decide +kernel
theorem dX9_chair_100 : decode cX9_chair 100 = .ok (.goto 4, 3) := by decide +kernel
theorem dX9_chair_103 : decode cX9_chair 103 = .ok (.iconst 0, 1) := by decide +kernel
theorem dX9_chair_104 : decode cX9_chair 104 = .ok (.ireturn, 1) := by decide +kernel
theorem dX9_chair_105 : decode cX9_chair 105 = .ok (.aload_n 0, 1) := by decide +kernel
theorem dX9_chair_106 : decode cX9_chair 106 = .ok (.iload_n 1, 1) := by decide +kernel
theorem dX9_chair_107 : decode cX9_chair 107 = .ok (.iconst 0, 1) := by decide +kernel
theorem dX9_chair_108 : decode cX9_chair 108 = .ok (.invokevirtual 168, 3) := by decide +kernel
theorem dX9_chair_111 : decode cX9_chair 111 = .ok (.ireturn, 1) := by decide +kernel
theorem dX9_chair_112 : decode cX9_chair 112 = .ok (.aload_n 0, 1) := by decide +kernel
theorem dX9_chair_113 : decode cX9_chair 113 = .ok (.getfield 19, 3) := by decide +kernel
theorem dX9_chair_116 : decode cX9_chair 116 = .ok (.bipush 12, 2) := by decide +kernel
theorem dX9_chair_118 : decode cX9_chair 118 = .ok (.iload_n 1, 1) := by decide +kernel
theorem dX9_chair_119 : decode cX9_chair 119 = .ok (.iadd, 1) := by decide +kernel
theorem dX9_chair_120 : decode cX9_chair 120 = .ok (.iaload, 1) := by decide +kernel
theorem dX9_chair_121 : decode cX9_chair 121 = .ok (.ireturn, 1) := by decide +kernel
theorem dX9_chair_122 : decode cX9_chair 122 = .ok (.iconst (-1), 1) := by decide +kernel
theorem dX9_chair_123 : decode cX9_chair 123 = .ok (.ireturn, 1) := by decide +kernel
theorem dX9_pusher_0 : decode cX9_pusher 0 = .ok (.aload_n 0, 1) := by decide +kernel
theorem dX9_pusher_1 : decode cX9_pusher 1 = .ok (.iload_n 1, 1) := by decide +kernel
theorem dX9_pusher_2 : decode cX9_pusher 2 = .ok (.invokevirtual 175, 3) := by decide +kernel
theorem dX9_pusher_5 : decode cX9_pusher 5 = .ok (.ifCond .eq 12, 3) := by decide +kernel
theorem dX9_pusher_8 : decode cX9_pusher 8 = .ok (.aload_n 0, 1) := by decide +kernel
theorem dX9_pusher_9 : decode cX9_pusher 9 = .ok (.getfield 16, 3) := by decide +kernel
theorem dX9_pusher_12 : decode cX9_pusher 12 = .ok (.iload_n 1, 1) := by decide +kernel
theorem dX9_pusher_13 : decode cX9_pusher 13 = .ok (.iaload, 1) := by decide +kernel
theorem dX9_pusher_14 : decode cX9_pusher 14 = .ok (.goto 4, 3) := by decide +kernel
theorem dX9_pusher_17 : decode cX9_pusher 17 = .ok (.iconst (-1), 1) := by decide +kernel
theorem dX9_pusher_18 : decode cX9_pusher 18 = .ok (.ireturn, 1) := by decide +kernel
theorem dX9_cell_0 : decode cX9_cell 0 = .ok (.iload_n 1, 1) := by decide +kernel
theorem dX9_cell_1 : decode cX9_cell 1 = .ok (.iconst 0, 1) := by decide +kernel
theorem dX9_cell_2 : decode cX9_cell 2 = .ok (.aload_n 0, 1) := by decide +kernel
theorem dX9_cell_3 : decode cX9_cell 3 = .ok (.getfield 81, 3) := by decide +kernel
theorem dX9_cell_6 : decode cX9_cell 6 = .ok (.iconst 1, 1) := by decide +kernel
theorem dX9_cell_7 : decode cX9_cell 7 = .ok (.isub, 1) := by decide +kernel
theorem dX9_cell_8 : decode cX9_cell 8 = .ok (.invokestatic 78, 3) := by decide +kernel
theorem dX9_cell_11 : decode cX9_cell 11 = .ok (.ifCond .eq 12, 3) := by decide +kernel
theorem dX9_cell_14 : decode cX9_cell 14 = .ok (.aload_n 0, 1) := by decide +kernel
theorem dX9_cell_15 : decode cX9_cell 15 = .ok (.getfield 7, 3) := by decide +kernel
theorem dX9_cell_18 : decode cX9_cell 18 = .ok (.iload_n 1, 1) := by decide +kernel
theorem dX9_cell_19 : decode cX9_cell 19 = .ok (.iaload, 1) := by decide +kernel
theorem dX9_cell_20 : decode cX9_cell 20 = .ok (.goto 4, 3) := by decide +kernel
theorem dX9_cell_23 : decode cX9_cell 23 = .ok (.iconst (-1), 1) := by decide +kernel
theorem dX9_cell_24 : decode cX9_cell 24 = .ok (.ireturn, 1) := by decide +kernel
theorem dX9_ruled_0 : decode cX9_ruled 0 = .ok (.bipush (-9), 2) := by decide +kernel
theorem dX9_ruled_2 : decode cX9_ruled 2 = .ok (.istore_n 1, 1) := by decide +kernel
theorem dX9_ruled_3 : decode cX9_ruled 3 = .ok (.iconst 0, 1) := by decide +kernel
theorem dX9_ruled_4 : decode cX9_ruled 4 = .ok (.istore_n 2, 1) := by decide +kernel
theorem dX9_ruled_5 : decode cX9_ruled 5 = .ok (.iconst 0, 1) := by decide +kernel
theorem dX9_ruled_6 : decode cX9_ruled 6 = .ok (.istore_n 3, 1) := by decide +kernel
theorem dX9_ruled_7 : decode cX9_ruled 7 = .ok (.iload_n 3, 1) := by decide +kernel
theorem dX9_ruled_8 : decode cX9_ruled 8 = .ok (.iconst 4, 1) := by decide +kernel
theorem dX9_ruled_9 : decode cX9_ruled 9 = .ok (.if_icmp .ge 89, 3) := by decide +kernel
theorem dX9_ruled_12 : decode cX9_ruled 12 = .ok (.iconst 0, 1) := by decide +kernel
theorem dX9_ruled_13 : decode cX9_ruled 13 = .ok (.istore 4, 2) := by decide +kernel
theorem dX9_ruled_15 : decode cX9_ruled 15 = .ok (.iconst 0, 1) := by decide +kernel
theorem dX9_ruled_16 : decode cX9_ruled 16 = .ok (.istore 5, 2) := by decide +kernel
theorem dX9_ruled_18 : decode cX9_ruled 18 = .ok (.iload 5, 2) := by decide +kernel
theorem dX9_ruled_20 : decode cX9_ruled 20 = .ok (.aload_n 0, 1) := by decide +kernel
theorem dX9_ruled_21 : decode cX9_ruled 21 = .ok (.getfield 74, 3) := by decide +kernel
theorem dX9_ruled_24 : decode cX9_ruled 24 = .ok (.if_icmp .ge 43, 3) := by decide +kernel
theorem dX9_ruled_27 : decode cX9_ruled 27 = .ok (.iload 4, 2) := by decide +kernel
theorem dX9_ruled_29 : decode cX9_ruled 29 = .ok (.aload_n 0, 1) := by decide +kernel
theorem dX9_ruled_30 : decode cX9_ruled 30 = .ok (.getfield 13, 3) := by decide +kernel
theorem dX9_ruled_33 : decode cX9_ruled 33 = .ok (.iconst 2, 1) := by decide +kernel
theorem dX9_ruled_34 : decode cX9_ruled 34 = .ok (.iload 5, 2) := by decide +kernel
theorem dX9_ruled_36 : decode cX9_ruled 36 = .ok (.imul, 1) := by decide +kernel
theorem dX9_ruled_37 : decode cX9_ruled 37 = .ok (.iconst 1, 1) := by decide +kernel
theorem dX9_ruled_38 : decode cX9_ruled 38 = .ok (.iadd, 1) := by decide +kernel
theorem dX9_ruled_39 : decode cX9_ruled 39 = .ok (.iaload, 1) := by decide +kernel
theorem dX9_ruled_40 : decode cX9_ruled 40 = .ok (.iload_n 3, 1) := by decide +kernel
theorem dX9_ruled_41 : decode cX9_ruled 41 = .ok (.if_icmp .ne 16, 3) := by decide +kernel
theorem dX9_ruled_44 : decode cX9_ruled 44 = .ok (.aload_n 0, 1) := by decide +kernel
theorem dX9_ruled_45 : decode cX9_ruled 45 = .ok (.getfield 19, 3) := by decide +kernel
theorem dX9_ruled_48 : decode cX9_ruled 48 = .ok (.bipush 12, 2) := by decide +kernel
theorem dX9_ruled_50 : decode cX9_ruled 50 = .ok (.iload 5, 2) := by decide +kernel
theorem dX9_ruled_52 : decode cX9_ruled 52 = .ok (.iadd, 1) := by decide +kernel
theorem dX9_ruled_53 : decode cX9_ruled 53 = .ok (.iaload, 1) := by decide +kernel
theorem dX9_ruled_54 : decode cX9_ruled 54 = .ok (.goto 4, 3) := by decide +kernel
theorem dX9_ruled_57 : decode cX9_ruled 57 = .ok (.iconst 0, 1) := by decide +kernel
theorem dX9_ruled_58 : decode cX9_ruled 58 = .ok (.iadd, 1) := by decide +kernel
theorem dX9_ruled_59 : decode cX9_ruled 59 = .ok (.istore 4, 2) := by decide +kernel
theorem dX9_ruled_61 : decode cX9_ruled 61 = .ok (.iinc 5 1, 3) := by decide +kernel
theorem dX9_ruled_64 : decode cX9_ruled 64 = .ok (.goto (-46), 3) := by decide +kernel
theorem dX9_ruled_67 : decode cX9_ruled 67 = .ok (.iload 4, 2) := by decide +kernel
theorem dX9_ruled_69 : decode cX9_ruled 69 = .ok (.iload_n 2, 1) := by decide +kernel
theorem dX9_ruled_70 : decode cX9_ruled 70 = .ok (.if_icmp .le 7, 3) := by decide +kernel
theorem dX9_ruled_73 : decode cX9_ruled 73 = .ok (.iload_n 3, 1) := by decide +kernel
theorem dX9_ruled_74 : decode cX9_ruled 74 = .ok (.goto 4, 3) := by decide +kernel
theorem dX9_ruled_77 : decode cX9_ruled 77 = .ok (.iload_n 1, 1) := by decide +kernel
theorem dX9_ruled_78 : decode cX9_ruled 78 = .ok (.istore_n 1, 1) := by decide +kernel
theorem dX9_ruled_79 : decode cX9_ruled 79 = .ok (.iload 4, 2) := by decide +kernel
theorem dX9_ruled_81 : decode cX9_ruled 81 = .ok (.iload_n 2, 1) := by decide +kernel
theorem dX9_ruled_82 : decode cX9_ruled 82 = .ok (.if_icmp .le 8, 3) := by decide +kernel
theorem dX9_ruled_85 : decode cX9_ruled 85 = .ok (.iload 4, 2) := by decide +kernel
theorem dX9_ruled_87 : decode cX9_ruled 87 = .ok (.goto 4, 3) := by decide +kernel
theorem dX9_ruled_90 : decode cX9_ruled 90 = .ok (.iload_n 2, 1) := by decide +kernel
theorem dX9_ruled_91 : decode cX9_ruled 91 = .ok (.istore_n 2, 1) := by decide +kernel
theorem dX9_ruled_92 : decode cX9_ruled 92 = .ok (.iinc 3 1, 3) := by decide +kernel
theorem dX9_ruled_95 : decode cX9_ruled 95 = .ok (.goto (-88), 3) := by decide +kernel
theorem dX9_ruled_98 : decode cX9_ruled 98 = .ok (.iload_n 1, 1) := by decide +kernel
theorem dX9_ruled_99 : decode cX9_ruled 99 = .ok (.ireturn, 1) := by decide +kernel
theorem dX9_isSo_0 : decode cX9_isSo 0 = .ok (.aload_n 0, 1) := by decide +kernel
theorem dX9_isSo_1 : decode cX9_isSo 1 = .ok (.invokevirtual 178, 3) := by decide +kernel
theorem dX9_isSo_4 : decode cX9_isSo 4 = .ok (.aload_n 0, 1) := by decide +kernel
theorem dX9_isSo_5 : decode cX9_isSo 5 = .ok (.getfield 47, 3) := by decide +kernel
theorem dX9_isSo_8 : decode cX9_isSo 8 = .ok (.bipush 10, 2) := by decide +kernel
theorem dX9_isSo_10 : decode cX9_isSo 10 = .ok (.iload_n 2, 1) := by decide +kernel
theorem dX9_isSo_11 : decode cX9_isSo 11 = .ok (.ifCond .eq 9, 3) := by decide +kernel
theorem dX9_isSo_14 : decode cX9_isSo 14 = .ok (.iconst 1, 1) := by decide +kernel
theorem dX9_isSo_15 : decode cX9_isSo 15 = .ok (.iload_n 1, 1) := by decide +kernel
theorem dX9_isSo_16 : decode cX9_isSo 16 = .ok (.ishl, 1) := by decide +kernel
theorem dX9_isSo_17 : decode cX9_isSo 17 = .ok (.goto 4, 3) := by decide +kernel
theorem dX9_isSo_20 : decode cX9_isSo 20 = .ok (.iconst 0, 1) := by decide +kernel
theorem dX9_isSo_21 : decode cX9_isSo 21 = .ok (.iastore, 1) := by decide +kernel
theorem dX9_isSo_22 : decode cX9_isSo 22 = .ok (.iconst 1, 1) := by decide +kernel
theorem dX9_isSo_23 : decode cX9_isSo 23 = .ok (.istore_n 3, 1) := by decide +kernel
theorem dX9_isSo_24 : decode cX9_isSo 24 = .ok (.iconst 0, 1) := by decide +kernel
theorem dX9_isSo_25 : decode cX9_isSo 25 = .ok (.istore 4, 2) := by decide +kernel
theorem dX9_isSo_27 : decode cX9_isSo 27 = .ok (.iload 4, 2) := by decide +kernel
theorem dX9_isSo_29 : decode cX9_isSo 29 = .ok (.aload_n 0, 1) := by decide +kernel
theorem dX9_isSo_30 : decode cX9_isSo 30 = .ok (.getfield 151, 3) := by decide +kernel
theorem dX9_isSo_33 : decode cX9_isSo 33 = .ok (.if_icmp .ge 51, 3) := by decide +kernel
theorem dX9_isSo_36 : decode cX9_isSo 36 = .ok (.iload_n 3, 1) := by decide +kernel
theorem dX9_isSo_37 : decode cX9_isSo 37 = .ok (.ifCond .eq 39, 3) := by decide +kernel
theorem dX9_isSo_40 : decode cX9_isSo 40 = .ok (.aload_n 0, 1) := by decide +kernel
theorem dX9_isSo_41 : decode cX9_isSo 41 = .ok (.getfield 32, 3) := by decide +kernel
theorem dX9_isSo_44 : decode cX9_isSo 44 = .ok (.iconst 2, 1) := by decide +kernel
theorem dX9_isSo_45 : decode cX9_isSo 45 = .ok (.iload 4, 2) := by decide +kernel
theorem dX9_isSo_47 : decode cX9_isSo 47 = .ok (.imul, 1) := by decide +kernel
theorem dX9_isSo_48 : decode cX9_isSo 48 = .ok (.iaload, 1) := by decide +kernel
theorem dX9_isSo_49 : decode cX9_isSo 49 = .ok (.iload_n 1, 1) := by decide +kernel
theorem dX9_isSo_50 : decode cX9_isSo 50 = .ok (.if_icmp .ne 22, 3) := by decide +kernel
theorem dX9_isSo_53 : decode cX9_isSo 53 = .ok (.aload_n 0, 1) := by decide +kernel
theorem dX9_isSo_54 : decode cX9_isSo 54 = .ok (.getfield 32, 3) := by decide +kernel
theorem dX9_isSo_57 : decode cX9_isSo 57 = .ok (.iconst 2, 1) := by decide +kernel
theorem dX9_isSo_58 : decode cX9_isSo 58 = .ok (.iload 4, 2) := by decide +kernel
theorem dX9_isSo_60 : decode cX9_isSo 60 = .ok (.imul, 1) := by decide +kernel
theorem dX9_isSo_61 : decode cX9_isSo 61 = .ok (.iconst 1, 1) := by decide +kernel
theorem dX9_isSo_62 : decode cX9_isSo 62 = .ok (.iadd, 1) := by decide +kernel
theorem dX9_isSo_63 : decode cX9_isSo 63 = .ok (.iaload, 1) := by decide +kernel
theorem dX9_isSo_64 : decode cX9_isSo 64 = .ok (.aload_n 0, 1) := by decide +kernel
theorem dX9_isSo_65 : decode cX9_isSo 65 = .ok (.iload_n 1, 1) := by decide +kernel
theorem dX9_isSo_66 : decode cX9_isSo 66 = .ok (.invokevirtual 181, 3) := by decide +kernel
theorem dX9_isSo_69 : decode cX9_isSo 69 = .ok (.if_icmp .ne 7, 3) := by decide +kernel
theorem dX9_isSo_72 : decode cX9_isSo 72 = .ok (.iconst 1, 1) := by decide +kernel
theorem dX9_isSo_73 : decode cX9_isSo 73 = .ok (.goto 4, 3) := by decide +kernel
theorem dX9_isSo_76 : decode cX9_isSo 76 = .ok (.iconst 0, 1) := by decide +kernel
theorem dX9_isSo_77 : decode cX9_isSo 77 = .ok (.istore_n 3, 1) := by decide +kernel
theorem dX9_isSo_78 : decode cX9_isSo 78 = .ok (.iinc 4 1, 3) := by decide +kernel
theorem dX9_isSo_81 : decode cX9_isSo 81 = .ok (.goto (-54), 3) := by decide +kernel
theorem dX9_isSo_84 : decode cX9_isSo 84 = .ok (.iload_n 3, 1) := by decide +kernel
theorem dX9_isSo_85 : decode cX9_isSo 85 = .ok (.ireturn, 1) := by decide +kernel
theorem dX9_suspects_0 : decode cX9_suspects 0 = .ok (.iconst 0, 1) := by decide +kernel
theorem dX9_suspects_1 : decode cX9_suspects 1 = .ok (.istore_n 2, 1) := by decide +kernel
theorem dX9_suspects_2 : decode cX9_suspects 2 = .ok (.iconst 0, 1) := by decide +kernel
theorem dX9_suspects_3 : decode cX9_suspects 3 = .ok (.istore_n 3, 1) := by decide +kernel
theorem dX9_suspects_4 : decode cX9_suspects 4 = .ok (.iload_n 3, 1) := by decide +kernel
theorem dX9_suspects_5 : decode cX9_suspects 5 = .ok (.aload_n 0, 1) := by decide +kernel
theorem dX9_suspects_6 : decode cX9_suspects 6 = .ok (.getfield 151, 3) := by decide +kernel
theorem dX9_suspects_9 : decode cX9_suspects 9 = .ok (.if_icmp .ge 70, 3) := by decide +kernel
theorem dX9_suspects_12 : decode cX9_suspects 12 = .ok (.aload_n 0, 1) := by decide +kernel
theorem dX9_suspects_13 : decode cX9_suspects 13 = .ok (.invokevirtual 184, 3) := by decide +kernel
theorem dX9_suspects_16 : decode cX9_suspects 16 = .ok (.ifCond .eq 63, 3) := by decide +kernel
theorem dX9_suspects_19 : decode cX9_suspects 19 = .ok (.aload_n 0, 1) := by decide +kernel
theorem dX9_suspects_20 : decode cX9_suspects 20 = .ok (.getfield 32, 3) := by decide +kernel
theorem dX9_suspects_23 : decode cX9_suspects 23 = .ok (.iconst 2, 1) := by decide +kernel
theorem dX9_suspects_24 : decode cX9_suspects 24 = .ok (.iload_n 3, 1) := by decide +kernel
theorem dX9_suspects_25 : decode cX9_suspects 25 = .ok (.imul, 1) := by decide +kernel
theorem dX9_suspects_26 : decode cX9_suspects 26 = .ok (.iaload, 1) := by decide +kernel
theorem dX9_suspects_27 : decode cX9_suspects 27 = .ok (.istore 4, 2) := by decide +kernel
theorem dX9_suspects_29 : decode cX9_suspects 29 = .ok (.aload_n 0, 1) := by decide +kernel
theorem dX9_suspects_30 : decode cX9_suspects 30 = .ok (.iload 4, 2) := by decide +kernel
theorem dX9_suspects_32 : decode cX9_suspects 32 = .ok (.iconst 0, 1) := by decide +kernel
theorem dX9_suspects_33 : decode cX9_suspects 33 = .ok (.invokevirtual 188, 3) := by decide +kernel
theorem dX9_suspects_36 : decode cX9_suspects 36 = .ok (.ifCond .ne 18, 3) := by decide +kernel
theorem dX9_suspects_39 : decode cX9_suspects 39 = .ok (.aload_n 0, 1) := by decide +kernel
theorem dX9_suspects_40 : decode cX9_suspects 40 = .ok (.iload 4, 2) := by decide +kernel
theorem dX9_suspects_42 : decode cX9_suspects 42 = .ok (.iconst 1, 1) := by decide +kernel
theorem dX9_suspects_43 : decode cX9_suspects 43 = .ok (.invokevirtual 188, 3) := by decide +kernel
theorem dX9_suspects_46 : decode cX9_suspects 46 = .ok (.iload_n 1, 1) := by decide +kernel
theorem dX9_suspects_47 : decode cX9_suspects 47 = .ok (.if_icmp .ne 7, 3) := by decide +kernel
theorem dX9_suspects_50 : decode cX9_suspects 50 = .ok (.iconst 1, 1) := by decide +kernel
theorem dX9_suspects_51 : decode cX9_suspects 51 = .ok (.goto 4, 3) := by decide +kernel
theorem dX9_suspects_54 : decode cX9_suspects 54 = .ok (.iconst 0, 1) := by decide +kernel
theorem dX9_suspects_55 : decode cX9_suspects 55 = .ok (.istore 5, 2) := by decide +kernel
theorem dX9_suspects_57 : decode cX9_suspects 57 = .ok (.iload_n 2, 1) := by decide +kernel
theorem dX9_suspects_58 : decode cX9_suspects 58 = .ok (.iload 5, 2) := by decide +kernel
theorem dX9_suspects_60 : decode cX9_suspects 60 = .ok (.ifCond .eq 10, 3) := by decide +kernel
theorem dX9_suspects_63 : decode cX9_suspects 63 = .ok (.iconst 1, 1) := by decide +kernel
theorem dX9_suspects_64 : decode cX9_suspects 64 = .ok (.iload 4, 2) := by decide +kernel
theorem dX9_suspects_66 : decode cX9_suspects 66 = .ok (.ishl, 1) := by decide +kernel
theorem dX9_suspects_67 : decode cX9_suspects 67 = .ok (.goto 4, 3) := by decide +kernel
theorem dX9_suspects_70 : decode cX9_suspects 70 = .ok (.iconst 0, 1) := by decide +kernel
theorem dX9_suspects_71 : decode cX9_suspects 71 = .ok (.ior, 1) := by decide +kernel
theorem dX9_suspects_72 : decode cX9_suspects 72 = .ok (.istore_n 2, 1) := by decide +kernel
theorem dX9_suspects_73 : decode cX9_suspects 73 = .ok (.iinc 3 1, 3) := by decide +kernel
theorem dX9_suspects_76 : decode cX9_suspects 76 = .ok (.goto (-72), 3) := by decide +kernel
theorem dX9_suspects_79 : decode cX9_suspects 79 = .ok (.iload_n 2, 1) := by decide +kernel
theorem dX9_suspects_80 : decode cX9_suspects 80 = .ok (.ireturn, 1) := by decide +kernel
theorem dX9_first_0 : decode cX9_first 0 = .ok (.aload_n 0, 1) := by decide +kernel
theorem dX9_first_1 : decode cX9_first 1 = .ok (.invokevirtual 178, 3) := by decide +kernel
theorem dX9_first_4 : decode cX9_first 4 = .ok (.aload_n 0, 1) := by decide +kernel
theorem dX9_first_5 : decode cX9_first 5 = .ok (.iconst 0, 1) := by decide +kernel
theorem dX9_first_6 : decode cX9_first 6 = .ok (.invokevirtual 192, 3) := by decide +kernel
theorem dX9_first_9 : decode cX9_first 9 = .ok (.aload_n 0, 1) := by decide +kernel
theorem dX9_first_10 : decode cX9_first 10 = .ok (.getfield 59, 3) := by decide +kernel
theorem dX9_first_13 : decode cX9_first 13 = .ok (.iconst 0, 1) := by decide +kernel
theorem dX9_first_14 : decode cX9_first 14 = .ok (.iaload, 1) := by decide +kernel
theorem dX9_first_15 : decode cX9_first 15 = .ok (.ireturn, 1) := by decide +kernel
theorem dX9_now_0 : decode cX9_now 0 = .ok (.iload_n 1, 1) := by decide +kernel
theorem dX9_now_1 : decode cX9_now 1 = .ok (.tableswitch 95 0 6 #[43, 51, 68, 73, 78, 84, 90], 43) := by decide +kernel
theorem dX9_now_44 : decode cX9_now 44 = .ok (.aload_n 0, 1) := by decide +kernel
theorem dX9_now_45 : decode cX9_now 45 = .ok (.getfield 19, 3) := by decide +kernel
theorem dX9_now_48 : decode cX9_now 48 = .ok (.bipush 11, 2) := by decide +kernel
theorem dX9_now_50 : decode cX9_now 50 = .ok (.iaload, 1) := by decide +kernel
theorem dX9_now_51 : decode cX9_now 51 = .ok (.ireturn, 1) := by decide +kernel
theorem dX9_now_52 : decode cX9_now 52 = .ok (.aload_n 0, 1) := by decide +kernel
theorem dX9_now_53 : decode cX9_now 53 = .ok (.invokevirtual 184, 3) := by decide +kernel
theorem dX9_now_56 : decode cX9_now 56 = .ok (.ifCond .eq 10, 3) := by decide +kernel
theorem dX9_now_59 : decode cX9_now 59 = .ok (.aload_n 0, 1) := by decide +kernel
theorem dX9_now_60 : decode cX9_now 60 = .ok (.invokevirtual 196, 3) := by decide +kernel
theorem dX9_now_63 : decode cX9_now 63 = .ok (.goto 5, 3) := by decide +kernel
theorem dX9_now_66 : decode cX9_now 66 = .ok (.bipush (-9), 2) := by decide +kernel
theorem dX9_now_68 : decode cX9_now 68 = .ok (.ireturn, 1) := by decide +kernel
theorem dX9_now_69 : decode cX9_now 69 = .ok (.aload_n 0, 1) := by decide +kernel
theorem dX9_now_70 : decode cX9_now 70 = .ok (.invokevirtual 200, 3) := by decide +kernel
theorem dX9_now_73 : decode cX9_now 73 = .ok (.ireturn, 1) := by decide +kernel
theorem dX9_now_74 : decode cX9_now 74 = .ok (.aload_n 0, 1) := by decide +kernel
theorem dX9_now_75 : decode cX9_now 75 = .ok (.invokevirtual 203, 3) := by decide +kernel
theorem dX9_now_78 : decode cX9_now 78 = .ok (.ireturn, 1) := by decide +kernel
theorem dX9_now_79 : decode cX9_now 79 = .ok (.aload_n 0, 1) := by decide +kernel
theorem dX9_now_80 : decode cX9_now 80 = .ok (.iconst 1, 1) := by decide +kernel
theorem dX9_now_81 : decode cX9_now 81 = .ok (.invokevirtual 206, 3) := by decide +kernel
theorem dX9_now_84 : decode cX9_now 84 = .ok (.ireturn, 1) := by decide +kernel
theorem dX9_now_85 : decode cX9_now 85 = .ok (.aload_n 0, 1) := by decide +kernel
theorem dX9_now_86 : decode cX9_now 86 = .ok (.iconst 0, 1) := by decide +kernel
theorem dX9_now_87 : decode cX9_now 87 = .ok (.invokevirtual 206, 3) := by decide +kernel
theorem dX9_now_90 : decode cX9_now 90 = .ok (.ireturn, 1) := by decide +kernel
theorem dX9_now_91 : decode cX9_now 91 = .ok (.aload_n 0, 1) := by decide +kernel
theorem dX9_now_92 : decode cX9_now 92 = .ok (.getfield 148, 3) := by decide +kernel
theorem dX9_now_95 : decode cX9_now 95 = .ok (.ireturn, 1) := by decide +kernel
theorem dX9_now_96 : decode cX9_now 96 = .ok (.iconst (-1), 1) := by decide +kernel
theorem dX9_now_97 : decode cX9_now 97 = .ok (.ireturn, 1) := by decide +kernel
theorem dX9_remembers_0 : decode cX9_remembers 0 = .ok (.aload_n 0, 1) := by decide +kernel
theorem dX9_remembers_1 : decode cX9_remembers 1 = .ok (.getfield 148, 3) := by decide +kernel
theorem dX9_remembers_4 : decode cX9_remembers 4 = .ok (.bipush 10, 2) := by decide +kernel
theorem dX9_remembers_6 : decode cX9_remembers 6 = .ok (.if_icmp .ne 43, 3) := by decide +kernel
theorem dX9_remembers_9 : decode cX9_remembers 9 = .ok (.iconst 0, 1) := by decide +kernel
theorem dX9_remembers_10 : decode cX9_remembers 10 = .ok (.istore_n 1, 1) := by decide +kernel
theorem dX9_remembers_11 : decode cX9_remembers 11 = .ok (.iload_n 1, 1) := by decide +kernel
theorem dX9_remembers_12 : decode cX9_remembers 12 = .ok (.sipush 153, 3) := by decide +kernel
theorem dX9_remembers_15 : decode cX9_remembers 15 = .ok (.if_icmp .ge 24, 3) := by decide +kernel
theorem dX9_remembers_18 : decode cX9_remembers 18 = .ok (.aload_n 0, 1) := by decide +kernel
theorem dX9_remembers_19 : decode cX9_remembers 19 = .ok (.getfield 22, 3) := by decide +kernel
theorem dX9_remembers_22 : decode cX9_remembers 22 = .ok (.iload_n 1, 1) := by decide +kernel
theorem dX9_remembers_23 : decode cX9_remembers 23 = .ok (.aload_n 0, 1) := by decide +kernel
theorem dX9_remembers_24 : decode cX9_remembers 24 = .ok (.getfield 22, 3) := by decide +kernel
theorem dX9_remembers_27 : decode cX9_remembers 27 = .ok (.iload_n 1, 1) := by decide +kernel
theorem dX9_remembers_28 : decode cX9_remembers 28 = .ok (.bipush 17, 2) := by decide +kernel
theorem dX9_remembers_30 : decode cX9_remembers 30 = .ok (.iadd, 1) := by decide +kernel
theorem dX9_remembers_31 : decode cX9_remembers 31 = .ok (.iaload, 1) := by decide +kernel
theorem dX9_remembers_32 : decode cX9_remembers 32 = .ok (.iastore, 1) := by decide +kernel
theorem dX9_remembers_33 : decode cX9_remembers 33 = .ok (.iinc 1 1, 3) := by decide +kernel
theorem dX9_remembers_36 : decode cX9_remembers 36 = .ok (.goto (-25), 3) := by decide +kernel
theorem dX9_remembers_39 : decode cX9_remembers 39 = .ok (.aload_n 0, 1) := by decide +kernel
theorem dX9_remembers_40 : decode cX9_remembers 40 = .ok (.dup, 1) := by decide +kernel
theorem dX9_remembers_41 : decode cX9_remembers 41 = .ok (.getfield 148, 3) := by decide +kernel
theorem dX9_remembers_44 : decode cX9_remembers 44 = .ok (.iconst 1, 1) := by decide +kernel
theorem dX9_remembers_45 : decode cX9_remembers 45 = .ok (.isub, 1) := by decide +kernel
theorem dX9_remembers_46 : decode cX9_remembers 46 = .ok (.putfield 148, 3) := by decide +kernel
theorem dX9_remembers_49 : decode cX9_remembers 49 = .ok (.aload_n 0, 1) := by decide +kernel
theorem dX9_remembers_50 : decode cX9_remembers 50 = .ok (.getfield 22, 3) := by decide +kernel
theorem dX9_remembers_53 : decode cX9_remembers 53 = .ok (.bipush 17, 2) := by decide +kernel
theorem dX9_remembers_55 : decode cX9_remembers 55 = .ok (.aload_n 0, 1) := by decide +kernel
theorem dX9_remembers_56 : decode cX9_remembers 56 = .ok (.getfield 148, 3) := by decide +kernel
theorem dX9_remembers_59 : decode cX9_remembers 59 = .ok (.imul, 1) := by decide +kernel
theorem dX9_remembers_60 : decode cX9_remembers 60 = .ok (.aload_n 0, 1) := by decide +kernel
theorem dX9_remembers_61 : decode cX9_remembers 61 = .ok (.getfield 19, 3) := by decide +kernel
theorem dX9_remembers_64 : decode cX9_remembers 64 = .ok (.iconst 0, 1) := by decide +kernel
theorem dX9_remembers_65 : decode cX9_remembers 65 = .ok (.invokestatic 154, 3) := by decide +kernel
theorem dX9_remembers_68 : decode cX9_remembers 68 = .ok (.aload_n 0, 1) := by decide +kernel
theorem dX9_remembers_69 : decode cX9_remembers 69 = .ok (.dup, 1) := by decide +kernel
theorem dX9_remembers_70 : decode cX9_remembers 70 = .ok (.getfield 148, 3) := by decide +kernel
theorem dX9_remembers_73 : decode cX9_remembers 73 = .ok (.iconst 1, 1) := by decide +kernel
theorem dX9_remembers_74 : decode cX9_remembers 74 = .ok (.iadd, 1) := by decide +kernel
theorem dX9_remembers_75 : decode cX9_remembers 75 = .ok (.putfield 148, 3) := by decide +kernel
theorem dX9_remembers_78 : decode cX9_remembers 78 = .ok (.return_, 1) := by decide +kernel
theorem dX9_tuesday_0 : decode cX9_tuesday 0 = .ok (.aload_n 0, 1) := by decide +kernel
theorem dX9_tuesday_1 : decode cX9_tuesday 1 = .ok (.invokevirtual 184, 3) := by decide +kernel
theorem dX9_tuesday_4 : decode cX9_tuesday 4 = .ok (.ifCond .eq 16, 3) := by decide +kernel
theorem dX9_tuesday_7 : decode cX9_tuesday 7 = .ok (.aload_n 0, 1) := by decide +kernel
theorem dX9_tuesday_8 : decode cX9_tuesday 8 = .ok (.getfield 19, 3) := by decide +kernel
theorem dX9_tuesday_11 : decode cX9_tuesday 11 = .ok (.bipush 11, 2) := by decide +kernel
theorem dX9_tuesday_13 : decode cX9_tuesday 13 = .ok (.iaload, 1) := by decide +kernel
theorem dX9_tuesday_14 : decode cX9_tuesday 14 = .ok (.sipush 999, 3) := by decide +kernel
theorem dX9_tuesday_17 : decode cX9_tuesday 17 = .ok (.if_icmp .ne 6, 3) := by decide +kernel
theorem dX9_tuesday_20 : decode cX9_tuesday 20 = .ok (.bipush (-2), 2) := by decide +kernel
theorem dX9_tuesday_22 : decode cX9_tuesday 22 = .ok (.ireturn, 1) := by decide +kernel
theorem dX9_tuesday_23 : decode cX9_tuesday 23 = .ok (.aload_n 0, 1) := by decide +kernel
theorem dX9_tuesday_24 : decode cX9_tuesday 24 = .ok (.invokevirtual 210, 3) := by decide +kernel
theorem dX9_tuesday_27 : decode cX9_tuesday 27 = .ok (.aload_n 0, 1) := by decide +kernel
theorem dX9_tuesday_28 : decode cX9_tuesday 28 = .ok (.invokevirtual 196, 3) := by decide +kernel
theorem dX9_tuesday_31 : decode cX9_tuesday 31 = .ok (.istore_n 1, 1) := by decide +kernel
theorem dX9_tuesday_32 : decode cX9_tuesday 32 = .ok (.aload_n 0, 1) := by decide +kernel
theorem dX9_tuesday_33 : decode cX9_tuesday 33 = .ok (.getfield 19, 3) := by decide +kernel
theorem dX9_tuesday_36 : decode cX9_tuesday 36 = .ok (.bipush 11, 2) := by decide +kernel
theorem dX9_tuesday_38 : decode cX9_tuesday 38 = .ok (.dup2, 1) := by decide +kernel
theorem dX9_tuesday_39 : decode cX9_tuesday 39 = .ok (.iaload, 1) := by decide +kernel
theorem dX9_tuesday_40 : decode cX9_tuesday 40 = .ok (.iconst 1, 1) := by decide +kernel
theorem dX9_tuesday_41 : decode cX9_tuesday 41 = .ok (.iadd, 1) := by decide +kernel
theorem dX9_tuesday_42 : decode cX9_tuesday 42 = .ok (.iastore, 1) := by decide +kernel
theorem dX9_tuesday_43 : decode cX9_tuesday 43 = .ok (.aload_n 0, 1) := by decide +kernel
theorem dX9_tuesday_44 : decode cX9_tuesday 44 = .ok (.getfield 19, 3) := by decide +kernel
theorem dX9_tuesday_47 : decode cX9_tuesday 47 = .ok (.bipush 12, 2) := by decide +kernel
theorem dX9_tuesday_49 : decode cX9_tuesday 49 = .ok (.iload_n 1, 1) := by decide +kernel
theorem dX9_tuesday_50 : decode cX9_tuesday 50 = .ok (.iadd, 1) := by decide +kernel
theorem dX9_tuesday_51 : decode cX9_tuesday 51 = .ok (.dup2, 1) := by decide +kernel
theorem dX9_tuesday_52 : decode cX9_tuesday 52 = .ok (.iaload, 1) := by decide +kernel
theorem dX9_tuesday_53 : decode cX9_tuesday 53 = .ok (.iconst 1, 1) := by decide +kernel
theorem dX9_tuesday_54 : decode cX9_tuesday 54 = .ok (.iadd, 1) := by decide +kernel
theorem dX9_tuesday_55 : decode cX9_tuesday 55 = .ok (.iastore, 1) := by decide +kernel
theorem dX9_tuesday_56 : decode cX9_tuesday 56 = .ok (.iload_n 1, 1) := by decide +kernel
theorem dX9_tuesday_57 : decode cX9_tuesday 57 = .ok (.ireturn, 1) := by decide +kernel
theorem dX9_changes_0 : decode cX9_changes 0 = .ok (.aload_n 0, 1) := by decide +kernel
theorem dX9_changes_1 : decode cX9_changes 1 = .ok (.iload_n 1, 1) := by decide +kernel
theorem dX9_changes_2 : decode cX9_changes 2 = .ok (.invokevirtual 175, 3) := by decide +kernel
theorem dX9_changes_5 : decode cX9_changes 5 = .ok (.ifCond .eq 16, 3) := by decide +kernel
theorem dX9_changes_8 : decode cX9_changes 8 = .ok (.aload_n 0, 1) := by decide +kernel
theorem dX9_changes_9 : decode cX9_changes 9 = .ok (.iload_n 2, 1) := by decide +kernel
theorem dX9_changes_10 : decode cX9_changes 10 = .ok (.invokevirtual 175, 3) := by decide +kernel
theorem dX9_changes_13 : decode cX9_changes 13 = .ok (.ifCond .eq 8, 3) := by decide +kernel
theorem dX9_changes_16 : decode cX9_changes 16 = .ok (.iload_n 1, 1) := by decide +kernel
theorem dX9_changes_17 : decode cX9_changes 17 = .ok (.iload_n 2, 1) := by decide +kernel
theorem dX9_changes_18 : decode cX9_changes 18 = .ok (.if_icmp .ne 5, 3) := by decide +kernel
theorem dX9_changes_21 : decode cX9_changes 21 = .ok (.iconst (-1), 1) := by decide +kernel
theorem dX9_changes_22 : decode cX9_changes 22 = .ok (.ireturn, 1) := by decide +kernel
theorem dX9_changes_23 : decode cX9_changes 23 = .ok (.aload_n 0, 1) := by decide +kernel
theorem dX9_changes_24 : decode cX9_changes 24 = .ok (.invokevirtual 210, 3) := by decide +kernel
theorem dX9_changes_27 : decode cX9_changes 27 = .ok (.aload_n 0, 1) := by decide +kernel
theorem dX9_changes_28 : decode cX9_changes 28 = .ok (.getfield 19, 3) := by decide +kernel
theorem dX9_changes_31 : decode cX9_changes 31 = .ok (.iconst 0, 1) := by decide +kernel
theorem dX9_changes_32 : decode cX9_changes 32 = .ok (.iload_n 1, 1) := by decide +kernel
theorem dX9_changes_33 : decode cX9_changes 33 = .ok (.iadd, 1) := by decide +kernel
theorem dX9_changes_34 : decode cX9_changes 34 = .ok (.iaload, 1) := by decide +kernel
theorem dX9_changes_35 : decode cX9_changes 35 = .ok (.istore_n 3, 1) := by decide +kernel
theorem dX9_changes_36 : decode cX9_changes 36 = .ok (.aload_n 0, 1) := by decide +kernel
theorem dX9_changes_37 : decode cX9_changes 37 = .ok (.getfield 19, 3) := by decide +kernel
theorem dX9_changes_40 : decode cX9_changes 40 = .ok (.iconst 0, 1) := by decide +kernel
theorem dX9_changes_41 : decode cX9_changes 41 = .ok (.iload_n 1, 1) := by decide +kernel
theorem dX9_changes_42 : decode cX9_changes 42 = .ok (.iadd, 1) := by decide +kernel
theorem dX9_changes_43 : decode cX9_changes 43 = .ok (.aload_n 0, 1) := by decide +kernel
theorem dX9_changes_44 : decode cX9_changes 44 = .ok (.getfield 19, 3) := by decide +kernel
theorem dX9_changes_47 : decode cX9_changes 47 = .ok (.iconst 0, 1) := by decide +kernel
theorem dX9_changes_48 : decode cX9_changes 48 = .ok (.iload_n 2, 1) := by decide +kernel
theorem dX9_changes_49 : decode cX9_changes 49 = .ok (.iadd, 1) := by decide +kernel
theorem dX9_changes_50 : decode cX9_changes 50 = .ok (.iaload, 1) := by decide +kernel
theorem dX9_changes_51 : decode cX9_changes 51 = .ok (.iastore, 1) := by decide +kernel
theorem dX9_changes_52 : decode cX9_changes 52 = .ok (.aload_n 0, 1) := by decide +kernel
theorem dX9_changes_53 : decode cX9_changes 53 = .ok (.getfield 19, 3) := by decide +kernel
theorem dX9_changes_56 : decode cX9_changes 56 = .ok (.iconst 0, 1) := by decide +kernel
theorem dX9_changes_57 : decode cX9_changes 57 = .ok (.iload_n 2, 1) := by decide +kernel
theorem dX9_changes_58 : decode cX9_changes 58 = .ok (.iadd, 1) := by decide +kernel
theorem dX9_changes_59 : decode cX9_changes 59 = .ok (.iload_n 3, 1) := by decide +kernel
theorem dX9_changes_60 : decode cX9_changes 60 = .ok (.iastore, 1) := by decide +kernel
theorem dX9_changes_61 : decode cX9_changes 61 = .ok (.aload_n 0, 1) := by decide +kernel
theorem dX9_changes_62 : decode cX9_changes 62 = .ok (.getfield 19, 3) := by decide +kernel
theorem dX9_changes_65 : decode cX9_changes 65 = .ok (.iconst 0, 1) := by decide +kernel
theorem dX9_changes_66 : decode cX9_changes 66 = .ok (.iload_n 1, 1) := by decide +kernel
theorem dX9_changes_67 : decode cX9_changes 67 = .ok (.iadd, 1) := by decide +kernel
theorem dX9_changes_68 : decode cX9_changes 68 = .ok (.iaload, 1) := by decide +kernel
theorem dX9_changes_69 : decode cX9_changes 69 = .ok (.ireturn, 1) := by decide +kernel
theorem dX9_sets_0 : decode cX9_sets 0 = .ok (.aload_n 0, 1) := by decide +kernel
theorem dX9_sets_1 : decode cX9_sets 1 = .ok (.iload_n 1, 1) := by decide +kernel
theorem dX9_sets_2 : decode cX9_sets 2 = .ok (.invokevirtual 175, 3) := by decide +kernel
theorem dX9_sets_5 : decode cX9_sets 5 = .ok (.ifCond .eq 12, 3) := by decide +kernel
theorem dX9_sets_8 : decode cX9_sets 8 = .ok (.iload_n 2, 1) := by decide +kernel
theorem dX9_sets_9 : decode cX9_sets 9 = .ok (.iconst 0, 1) := by decide +kernel
theorem dX9_sets_10 : decode cX9_sets 10 = .ok (.iconst 5, 1) := by decide +kernel
theorem dX9_sets_11 : decode cX9_sets 11 = .ok (.invokestatic 78, 3) := by decide +kernel
theorem dX9_sets_14 : decode cX9_sets 14 = .ok (.ifCond .ne 5, 3) := by decide +kernel
theorem dX9_sets_17 : decode cX9_sets 17 = .ok (.iconst (-1), 1) := by decide +kernel
theorem dX9_sets_18 : decode cX9_sets 18 = .ok (.ireturn, 1) := by decide +kernel
theorem dX9_sets_19 : decode cX9_sets 19 = .ok (.aload_n 0, 1) := by decide +kernel
theorem dX9_sets_20 : decode cX9_sets 20 = .ok (.getfield 19, 3) := by decide +kernel
theorem dX9_sets_23 : decode cX9_sets 23 = .ok (.iconst 5, 1) := by decide +kernel
theorem dX9_sets_24 : decode cX9_sets 24 = .ok (.iload_n 1, 1) := by decide +kernel
theorem dX9_sets_25 : decode cX9_sets 25 = .ok (.iadd, 1) := by decide +kernel
theorem dX9_sets_26 : decode cX9_sets 26 = .ok (.iaload, 1) := by decide +kernel
theorem dX9_sets_27 : decode cX9_sets 27 = .ok (.istore_n 3, 1) := by decide +kernel
theorem dX9_sets_28 : decode cX9_sets 28 = .ok (.iload_n 3, 1) := by decide +kernel
theorem dX9_sets_29 : decode cX9_sets 29 = .ok (.iload_n 2, 1) := by decide +kernel
theorem dX9_sets_30 : decode cX9_sets 30 = .ok (.if_icmp .ne 6, 3) := by decide +kernel
theorem dX9_sets_33 : decode cX9_sets 33 = .ok (.bipush (-2), 2) := by decide +kernel
theorem dX9_sets_35 : decode cX9_sets 35 = .ok (.ireturn, 1) := by decide +kernel
theorem dX9_sets_36 : decode cX9_sets 36 = .ok (.aload_n 0, 1) := by decide +kernel
theorem dX9_sets_37 : decode cX9_sets 37 = .ok (.invokevirtual 210, 3) := by decide +kernel
theorem dX9_sets_40 : decode cX9_sets 40 = .ok (.aload_n 0, 1) := by decide +kernel
theorem dX9_sets_41 : decode cX9_sets 41 = .ok (.getfield 19, 3) := by decide +kernel
theorem dX9_sets_44 : decode cX9_sets 44 = .ok (.iconst 5, 1) := by decide +kernel
theorem dX9_sets_45 : decode cX9_sets 45 = .ok (.iload_n 1, 1) := by decide +kernel
theorem dX9_sets_46 : decode cX9_sets 46 = .ok (.iadd, 1) := by decide +kernel
theorem dX9_sets_47 : decode cX9_sets 47 = .ok (.iload_n 2, 1) := by decide +kernel
theorem dX9_sets_48 : decode cX9_sets 48 = .ok (.iastore, 1) := by decide +kernel
theorem dX9_sets_49 : decode cX9_sets 49 = .ok (.iload_n 3, 1) := by decide +kernel
theorem dX9_sets_50 : decode cX9_sets 50 = .ok (.ireturn, 1) := by decide +kernel
theorem dX9_greases_0 : decode cX9_greases 0 = .ok (.aload_n 0, 1) := by decide +kernel
theorem dX9_greases_1 : decode cX9_greases 1 = .ok (.iload_n 1, 1) := by decide +kernel
theorem dX9_greases_2 : decode cX9_greases 2 = .ok (.invokevirtual 175, 3) := by decide +kernel
theorem dX9_greases_5 : decode cX9_greases 5 = .ok (.ifCond .eq 12, 3) := by decide +kernel
theorem dX9_greases_8 : decode cX9_greases 8 = .ok (.iload_n 2, 1) := by decide +kernel
theorem dX9_greases_9 : decode cX9_greases 9 = .ok (.iconst 0, 1) := by decide +kernel
theorem dX9_greases_10 : decode cX9_greases 10 = .ok (.iconst 1, 1) := by decide +kernel
theorem dX9_greases_11 : decode cX9_greases 11 = .ok (.invokestatic 78, 3) := by decide +kernel
theorem dX9_greases_14 : decode cX9_greases 14 = .ok (.ifCond .ne 5, 3) := by decide +kernel
theorem dX9_greases_17 : decode cX9_greases 17 = .ok (.iconst (-1), 1) := by decide +kernel
theorem dX9_greases_18 : decode cX9_greases 18 = .ok (.ireturn, 1) := by decide +kernel
theorem dX9_greases_19 : decode cX9_greases 19 = .ok (.aload_n 0, 1) := by decide +kernel
theorem dX9_greases_20 : decode cX9_greases 20 = .ok (.getfield 19, 3) := by decide +kernel
theorem dX9_greases_23 : decode cX9_greases 23 = .ok (.bipush 10, 2) := by decide +kernel
theorem dX9_greases_25 : decode cX9_greases 25 = .ok (.iaload, 1) := by decide +kernel
theorem dX9_greases_26 : decode cX9_greases 26 = .ok (.iload_n 1, 1) := by decide +kernel
theorem dX9_greases_27 : decode cX9_greases 27 = .ok (.invokestatic 158, 3) := by decide +kernel
theorem dX9_greases_30 : decode cX9_greases 30 = .ok (.iload_n 2, 1) := by decide +kernel
theorem dX9_greases_31 : decode cX9_greases 31 = .ok (.iconst 1, 1) := by decide +kernel
theorem dX9_greases_32 : decode cX9_greases 32 = .ok (.if_icmp .ne 7, 3) := by decide +kernel
theorem dX9_greases_35 : decode cX9_greases 35 = .ok (.iconst 1, 1) := by decide +kernel
theorem dX9_greases_36 : decode cX9_greases 36 = .ok (.goto 4, 3) := by decide +kernel
theorem dX9_greases_39 : decode cX9_greases 39 = .ok (.iconst 0, 1) := by decide +kernel
theorem dX9_greases_40 : decode cX9_greases 40 = .ok (.if_icmp .ne 6, 3) := by decide +kernel
theorem dX9_greases_43 : decode cX9_greases 43 = .ok (.bipush (-2), 2) := by decide +kernel
theorem dX9_greases_45 : decode cX9_greases 45 = .ok (.ireturn, 1) := by decide +kernel
theorem dX9_greases_46 : decode cX9_greases 46 = .ok (.aload_n 0, 1) := by decide +kernel
theorem dX9_greases_47 : decode cX9_greases 47 = .ok (.invokevirtual 210, 3) := by decide +kernel
theorem dX9_greases_50 : decode cX9_greases 50 = .ok (.aload_n 0, 1) := by decide +kernel
theorem dX9_greases_51 : decode cX9_greases 51 = .ok (.getfield 19, 3) := by decide +kernel
theorem dX9_greases_54 : decode cX9_greases 54 = .ok (.bipush 10, 2) := by decide +kernel
theorem dX9_greases_56 : decode cX9_greases 56 = .ok (.dup2, 1) := by decide +kernel
theorem dX9_greases_57 : decode cX9_greases 57 = .ok (.iaload, 1) := by decide +kernel
theorem dX9_greases_58 : decode cX9_greases 58 = .ok (.iconst 1, 1) := by decide +kernel
theorem dX9_greases_59 : decode cX9_greases 59 = .ok (.iload_n 1, 1) := by decide +kernel
theorem dX9_greases_60 : decode cX9_greases 60 = .ok (.ishl, 1) := by decide +kernel
theorem dX9_greases_61 : decode cX9_greases 61 = .ok (.ixor, 1) := by decide +kernel
theorem dX9_greases_62 : decode cX9_greases 62 = .ok (.iastore, 1) := by decide +kernel
theorem dX9_greases_63 : decode cX9_greases 63 = .ok (.iconst 0, 1) := by decide +kernel
theorem dX9_greases_64 : decode cX9_greases 64 = .ok (.istore_n 3, 1) := by decide +kernel
theorem dX9_greases_65 : decode cX9_greases 65 = .ok (.iconst 0, 1) := by decide +kernel
theorem dX9_greases_66 : decode cX9_greases 66 = .ok (.istore 4, 2) := by decide +kernel
theorem dX9_greases_68 : decode cX9_greases 68 = .ok (.iload 4, 2) := by decide +kernel
theorem dX9_greases_70 : decode cX9_greases 70 = .ok (.aload_n 0, 1) := by decide +kernel
theorem dX9_greases_71 : decode cX9_greases 71 = .ok (.getfield 74, 3) := by decide +kernel
theorem dX9_greases_74 : decode cX9_greases 74 = .ok (.if_icmp .ge 24, 3) := by decide +kernel
theorem dX9_greases_77 : decode cX9_greases 77 = .ok (.iload_n 3, 1) := by decide +kernel
theorem dX9_greases_78 : decode cX9_greases 78 = .ok (.aload_n 0, 1) := by decide +kernel
theorem dX9_greases_79 : decode cX9_greases 79 = .ok (.getfield 19, 3) := by decide +kernel
theorem dX9_greases_82 : decode cX9_greases 82 = .ok (.bipush 10, 2) := by decide +kernel
theorem dX9_greases_84 : decode cX9_greases 84 = .ok (.iaload, 1) := by decide +kernel
theorem dX9_greases_85 : decode cX9_greases 85 = .ok (.iload 4, 2) := by decide +kernel
theorem dX9_greases_87 : decode cX9_greases 87 = .ok (.ishr, 1) := by decide +kernel
theorem dX9_greases_88 : decode cX9_greases 88 = .ok (.iconst 1, 1) := by decide +kernel
theorem dX9_greases_89 : decode cX9_greases 89 = .ok (.iand, 1) := by decide +kernel
theorem dX9_greases_90 : decode cX9_greases 90 = .ok (.iadd, 1) := by decide +kernel
theorem dX9_greases_91 : decode cX9_greases 91 = .ok (.istore_n 3, 1) := by decide +kernel
theorem dX9_greases_92 : decode cX9_greases 92 = .ok (.iinc 4 1, 3) := by decide +kernel
theorem dX9_greases_95 : decode cX9_greases 95 = .ok (.goto (-27), 3) := by decide +kernel
theorem dX9_greases_98 : decode cX9_greases 98 = .ok (.iload_n 3, 1) := by decide +kernel
theorem dX9_greases_99 : decode cX9_greases 99 = .ok (.ireturn, 1) := by decide +kernel
theorem dX9_undo_0 : decode cX9_undo 0 = .ok (.aload_n 0, 1) := by decide +kernel
theorem dX9_undo_1 : decode cX9_undo 1 = .ok (.getfield 148, 3) := by decide +kernel
theorem dX9_undo_4 : decode cX9_undo 4 = .ok (.ifCond .ne 6, 3) := by decide +kernel
theorem dX9_undo_7 : decode cX9_undo 7 = .ok (.bipush (-2), 2) := by decide +kernel
theorem dX9_undo_9 : decode cX9_undo 9 = .ok (.ireturn, 1) := by decide +kernel
theorem dX9_undo_10 : decode cX9_undo 10 = .ok (.aload_n 0, 1) := by decide +kernel
theorem dX9_undo_11 : decode cX9_undo 11 = .ok (.dup, 1) := by decide +kernel
theorem dX9_undo_12 : decode cX9_undo 12 = .ok (.getfield 148, 3) := by decide +kernel
theorem dX9_undo_15 : decode cX9_undo 15 = .ok (.iconst 1, 1) := by decide +kernel
theorem dX9_undo_16 : decode cX9_undo 16 = .ok (.isub, 1) := by decide +kernel
theorem dX9_undo_17 : decode cX9_undo 17 = .ok (.putfield 148, 3) := by decide +kernel
theorem dX9_undo_20 : decode cX9_undo 20 = .ok (.aload_n 0, 1) := by decide +kernel
theorem dX9_undo_21 : decode cX9_undo 21 = .ok (.getfield 19, 3) := by decide +kernel
theorem dX9_undo_24 : decode cX9_undo 24 = .ok (.iconst 0, 1) := by decide +kernel
theorem dX9_undo_25 : decode cX9_undo 25 = .ok (.aload_n 0, 1) := by decide +kernel
theorem dX9_undo_26 : decode cX9_undo 26 = .ok (.getfield 22, 3) := by decide +kernel
theorem dX9_undo_29 : decode cX9_undo 29 = .ok (.bipush 17, 2) := by decide +kernel
theorem dX9_undo_31 : decode cX9_undo 31 = .ok (.aload_n 0, 1) := by decide +kernel
theorem dX9_undo_32 : decode cX9_undo 32 = .ok (.getfield 148, 3) := by decide +kernel
theorem dX9_undo_35 : decode cX9_undo 35 = .ok (.imul, 1) := by decide +kernel
theorem dX9_undo_36 : decode cX9_undo 36 = .ok (.invokestatic 154, 3) := by decide +kernel
theorem dX9_undo_39 : decode cX9_undo 39 = .ok (.aload_n 0, 1) := by decide +kernel
theorem dX9_undo_40 : decode cX9_undo 40 = .ok (.getfield 148, 3) := by decide +kernel
theorem dX9_undo_43 : decode cX9_undo 43 = .ok (.ireturn, 1) := by decide +kernel
theorem dX9_time_0 : decode cX9_time 0 = .ok (.aload_n 0, 1) := by decide +kernel
theorem dX9_time_1 : decode cX9_time 1 = .ok (.iload_n 1, 1) := by decide +kernel
theorem dX9_time_2 : decode cX9_time 2 = .ok (.invokevirtual 175, 3) := by decide +kernel
theorem dX9_time_5 : decode cX9_time 5 = .ok (.ifCond .ne 5, 3) := by decide +kernel
theorem dX9_time_8 : decode cX9_time 8 = .ok (.iconst (-1), 1) := by decide +kernel
theorem dX9_time_9 : decode cX9_time 9 = .ok (.ireturn, 1) := by decide +kernel
theorem dX9_time_10 : decode cX9_time 10 = .ok (.aload_n 0, 1) := by decide +kernel
theorem dX9_time_11 : decode cX9_time 11 = .ok (.invokevirtual 184, 3) := by decide +kernel
theorem dX9_time_14 : decode cX9_time 14 = .ok (.ifCond .ne 6, 3) := by decide +kernel
theorem dX9_time_17 : decode cX9_time 17 = .ok (.bipush (-2), 2) := by decide +kernel
theorem dX9_time_19 : decode cX9_time 19 = .ok (.ireturn, 1) := by decide +kernel
theorem dX9_time_20 : decode cX9_time 20 = .ok (.aload_n 0, 1) := by decide +kernel
theorem dX9_time_21 : decode cX9_time 21 = .ok (.invokevirtual 178, 3) := by decide +kernel
theorem dX9_time_24 : decode cX9_time 24 = .ok (.aload_n 0, 1) := by decide +kernel
theorem dX9_time_25 : decode cX9_time 25 = .ok (.iconst 0, 1) := by decide +kernel
theorem dX9_time_26 : decode cX9_time 26 = .ok (.invokevirtual 192, 3) := by decide +kernel
theorem dX9_time_29 : decode cX9_time 29 = .ok (.aload_n 0, 1) := by decide +kernel
theorem dX9_time_30 : decode cX9_time 30 = .ok (.getfield 56, 3) := by decide +kernel
theorem dX9_time_33 : decode cX9_time 33 = .ok (.iload_n 1, 1) := by decide +kernel
theorem dX9_time_34 : decode cX9_time 34 = .ok (.iaload, 1) := by decide +kernel
theorem dX9_time_35 : decode cX9_time 35 = .ok (.ireturn, 1) := by decide +kernel
theorem dX9_place_0 : decode cX9_place 0 = .ok (.aload_n 0, 1) := by decide +kernel
theorem dX9_place_1 : decode cX9_place 1 = .ok (.iload_n 1, 1) := by decide +kernel
theorem dX9_place_2 : decode cX9_place 2 = .ok (.invokevirtual 175, 3) := by decide +kernel
theorem dX9_place_5 : decode cX9_place 5 = .ok (.ifCond .ne 5, 3) := by decide +kernel
theorem dX9_place_8 : decode cX9_place 8 = .ok (.iconst (-1), 1) := by decide +kernel
theorem dX9_place_9 : decode cX9_place 9 = .ok (.ireturn, 1) := by decide +kernel
theorem dX9_place_10 : decode cX9_place 10 = .ok (.aload_n 0, 1) := by decide +kernel
theorem dX9_place_11 : decode cX9_place 11 = .ok (.invokevirtual 184, 3) := by decide +kernel
theorem dX9_place_14 : decode cX9_place 14 = .ok (.ifCond .ne 6, 3) := by decide +kernel
theorem dX9_place_17 : decode cX9_place 17 = .ok (.bipush (-2), 2) := by decide +kernel
theorem dX9_place_19 : decode cX9_place 19 = .ok (.ireturn, 1) := by decide +kernel
theorem dX9_place_20 : decode cX9_place 20 = .ok (.aload_n 0, 1) := by decide +kernel
theorem dX9_place_21 : decode cX9_place 21 = .ok (.invokevirtual 178, 3) := by decide +kernel
theorem dX9_place_24 : decode cX9_place 24 = .ok (.aload_n 0, 1) := by decide +kernel
theorem dX9_place_25 : decode cX9_place 25 = .ok (.iconst 0, 1) := by decide +kernel
theorem dX9_place_26 : decode cX9_place 26 = .ok (.invokevirtual 192, 3) := by decide +kernel
theorem dX9_place_29 : decode cX9_place 29 = .ok (.aload_n 0, 1) := by decide +kernel
theorem dX9_place_30 : decode cX9_place 30 = .ok (.getfield 59, 3) := by decide +kernel
theorem dX9_place_33 : decode cX9_place 33 = .ok (.iload_n 1, 1) := by decide +kernel
theorem dX9_place_34 : decode cX9_place 34 = .ok (.iaload, 1) := by decide +kernel
theorem dX9_place_35 : decode cX9_place 35 = .ok (.ireturn, 1) := by decide +kernel
theorem dX9_alone_0 : decode cX9_alone 0 = .ok (.aload_n 0, 1) := by decide +kernel
theorem dX9_alone_1 : decode cX9_alone 1 = .ok (.iload_n 1, 1) := by decide +kernel
theorem dX9_alone_2 : decode cX9_alone 2 = .ok (.invokevirtual 175, 3) := by decide +kernel
theorem dX9_alone_5 : decode cX9_alone 5 = .ok (.ifCond .ne 5, 3) := by decide +kernel
theorem dX9_alone_8 : decode cX9_alone 8 = .ok (.iconst (-1), 1) := by decide +kernel
theorem dX9_alone_9 : decode cX9_alone 9 = .ok (.ireturn, 1) := by decide +kernel
theorem dX9_alone_10 : decode cX9_alone 10 = .ok (.aload_n 0, 1) := by decide +kernel
theorem dX9_alone_11 : decode cX9_alone 11 = .ok (.invokevirtual 184, 3) := by decide +kernel
theorem dX9_alone_14 : decode cX9_alone 14 = .ok (.ifCond .ne 6, 3) := by decide +kernel
theorem dX9_alone_17 : decode cX9_alone 17 = .ok (.bipush (-2), 2) := by decide +kernel
theorem dX9_alone_19 : decode cX9_alone 19 = .ok (.ireturn, 1) := by decide +kernel
theorem dX9_alone_20 : decode cX9_alone 20 = .ok (.aload_n 0, 1) := by decide +kernel
theorem dX9_alone_21 : decode cX9_alone 21 = .ok (.invokevirtual 178, 3) := by decide +kernel
theorem dX9_alone_24 : decode cX9_alone 24 = .ok (.aload_n 0, 1) := by decide +kernel
theorem dX9_alone_25 : decode cX9_alone 25 = .ok (.iload_n 1, 1) := by decide +kernel
theorem dX9_alone_26 : decode cX9_alone 26 = .ok (.invokevirtual 181, 3) := by decide +kernel
theorem dX9_alone_29 : decode cX9_alone 29 = .ok (.ireturn, 1) := by decide +kernel
theorem dX9_isWay_0 : decode cX9_isWay 0 = .ok (.iconst 0, 1) := by decide +kernel
theorem dX9_isWay_1 : decode cX9_isWay 1 = .ok (.istore_n 2, 1) := by decide +kernel
theorem dX9_isWay_2 : decode cX9_isWay 2 = .ok (.iload_n 0, 1) := by decide +kernel
theorem dX9_isWay_3 : decode cX9_isWay 3 = .ok (.istore_n 3, 1) := by decide +kernel
theorem dX9_isWay_4 : decode cX9_isWay 4 = .ok (.iconst 0, 1) := by decide +kernel
theorem dX9_isWay_5 : decode cX9_isWay 5 = .ok (.istore 4, 2) := by decide +kernel
theorem dX9_isWay_7 : decode cX9_isWay 7 = .ok (.iload 4, 2) := by decide +kernel
theorem dX9_isWay_9 : decode cX9_isWay 9 = .ok (.iload_n 1, 1) := by decide +kernel
theorem dX9_isWay_10 : decode cX9_isWay 10 = .ok (.if_icmp .ge 21, 3) := by decide +kernel
theorem dX9_isWay_13 : decode cX9_isWay 13 = .ok (.iload_n 2, 1) := by decide +kernel
theorem dX9_isWay_14 : decode cX9_isWay 14 = .ok (.iconst 1, 1) := by decide +kernel
theorem dX9_isWay_15 : decode cX9_isWay 15 = .ok (.iload_n 3, 1) := by decide +kernel
theorem dX9_isWay_16 : decode cX9_isWay 16 = .ok (.iload_n 1, 1) := by decide +kernel
theorem dX9_isWay_17 : decode cX9_isWay 17 = .ok (.irem, 1) := by decide +kernel
theorem dX9_isWay_18 : decode cX9_isWay 18 = .ok (.ishl, 1) := by decide +kernel
theorem dX9_isWay_19 : decode cX9_isWay 19 = .ok (.ior, 1) := by decide +kernel
theorem dX9_isWay_20 : decode cX9_isWay 20 = .ok (.istore_n 2, 1) := by decide +kernel
theorem dX9_isWay_21 : decode cX9_isWay 21 = .ok (.iload_n 3, 1) := by decide +kernel
theorem dX9_isWay_22 : decode cX9_isWay 22 = .ok (.iload_n 1, 1) := by decide +kernel
theorem dX9_isWay_23 : decode cX9_isWay 23 = .ok (.idiv, 1) := by decide +kernel
theorem dX9_isWay_24 : decode cX9_isWay 24 = .ok (.istore_n 3, 1) := by decide +kernel
theorem dX9_isWay_25 : decode cX9_isWay 25 = .ok (.iinc 4 1, 3) := by decide +kernel
theorem dX9_isWay_28 : decode cX9_isWay 28 = .ok (.goto (-21), 3) := by decide +kernel
theorem dX9_isWay_31 : decode cX9_isWay 31 = .ok (.iload_n 2, 1) := by decide +kernel
theorem dX9_isWay_32 : decode cX9_isWay 32 = .ok (.iconst 1, 1) := by decide +kernel
theorem dX9_isWay_33 : decode cX9_isWay 33 = .ok (.iload_n 1, 1) := by decide +kernel
theorem dX9_isWay_34 : decode cX9_isWay 34 = .ok (.ishl, 1) := by decide +kernel
theorem dX9_isWay_35 : decode cX9_isWay 35 = .ok (.iconst 1, 1) := by decide +kernel
theorem dX9_isWay_36 : decode cX9_isWay 36 = .ok (.isub, 1) := by decide +kernel
theorem dX9_isWay_37 : decode cX9_isWay 37 = .ok (.if_icmp .ne 7, 3) := by decide +kernel
theorem dX9_isWay_40 : decode cX9_isWay 40 = .ok (.iconst 1, 1) := by decide +kernel
theorem dX9_isWay_41 : decode cX9_isWay 41 = .ok (.goto 4, 3) := by decide +kernel
theorem dX9_isWay_44 : decode cX9_isWay 44 = .ok (.iconst 0, 1) := by decide +kernel
theorem dX9_isWay_45 : decode cX9_isWay 45 = .ok (.ireturn, 1) := by decide +kernel
theorem dX9_findKings_0 : decode cX9_findKings 0 = .ok (.iconst 1, 1) := by decide +kernel
theorem dX9_findKings_1 : decode cX9_findKings 1 = .ok (.istore_n 1, 1) := by decide +kernel
theorem dX9_findKings_2 : decode cX9_findKings 2 = .ok (.iconst 0, 1) := by decide +kernel
theorem dX9_findKings_3 : decode cX9_findKings 3 = .ok (.istore_n 2, 1) := by decide +kernel
theorem dX9_findKings_4 : decode cX9_findKings 4 = .ok (.iload_n 2, 1) := by decide +kernel
theorem dX9_findKings_5 : decode cX9_findKings 5 = .ok (.aload_n 0, 1) := by decide +kernel
theorem dX9_findKings_6 : decode cX9_findKings 6 = .ok (.getfield 74, 3) := by decide +kernel
theorem dX9_findKings_9 : decode cX9_findKings 9 = .ok (.if_icmp .ge 24, 3) := by decide +kernel
theorem dX9_findKings_12 : decode cX9_findKings 12 = .ok (.iload_n 1, 1) := by decide +kernel
theorem dX9_findKings_13 : decode cX9_findKings 13 = .ok (.aload_n 0, 1) := by decide +kernel
theorem dX9_findKings_14 : decode cX9_findKings 14 = .ok (.getfield 74, 3) := by decide +kernel
theorem dX9_findKings_17 : decode cX9_findKings 17 = .ok (.imul, 1) := by decide +kernel
theorem dX9_findKings_18 : decode cX9_findKings 18 = .ok (.istore_n 1, 1) := by decide +kernel
theorem dX9_findKings_19 : decode cX9_findKings 19 = .ok (.aload_n 0, 1) := by decide +kernel
theorem dX9_findKings_20 : decode cX9_findKings 20 = .ok (.getfield 65, 3) := by decide +kernel
theorem dX9_findKings_23 : decode cX9_findKings 23 = .ok (.iload_n 2, 1) := by decide +kernel
theorem dX9_findKings_24 : decode cX9_findKings 24 = .ok (.bipush (-9), 2) := by decide +kernel
theorem dX9_findKings_26 : decode cX9_findKings 26 = .ok (.iastore, 1) := by decide +kernel
theorem dX9_findKings_27 : decode cX9_findKings 27 = .ok (.iinc 2 1, 3) := by decide +kernel
theorem dX9_findKings_30 : decode cX9_findKings 30 = .ok (.goto (-26), 3) := by decide +kernel
theorem dX9_findKings_33 : decode cX9_findKings 33 = .ok (.aload_n 0, 1) := by decide +kernel
theorem dX9_findKings_34 : decode cX9_findKings 34 = .ok (.invokevirtual 178, 3) := by decide +kernel
theorem dX9_findKings_37 : decode cX9_findKings 37 = .ok (.iconst 0, 1) := by decide +kernel
theorem dX9_findKings_38 : decode cX9_findKings 38 = .ok (.istore_n 2, 1) := by decide +kernel
theorem dX9_findKings_39 : decode cX9_findKings 39 = .ok (.iload_n 2, 1) := by decide +kernel
theorem dX9_findKings_40 : decode cX9_findKings 40 = .ok (.iload_n 1, 1) := by decide +kernel
theorem dX9_findKings_41 : decode cX9_findKings 41 = .ok (.if_icmp .ge 180, 3) := by decide +kernel
theorem dX9_findKings_44 : decode cX9_findKings 44 = .ok (.iload_n 2, 1) := by decide +kernel
theorem dX9_findKings_45 : decode cX9_findKings 45 = .ok (.aload_n 0, 1) := by decide +kernel
theorem dX9_findKings_46 : decode cX9_findKings 46 = .ok (.getfield 74, 3) := by decide +kernel
theorem dX9_findKings_49 : decode cX9_findKings 49 = .ok (.invokestatic 213, 3) := by decide +kernel
theorem dX9_findKings_52 : decode cX9_findKings 52 = .ok (.ifCond .eq 163, 3) := by decide +kernel
theorem dX9_findKings_55 : decode cX9_findKings 55 = .ok (.iload_n 2, 1) := by decide +kernel
theorem dX9_findKings_56 : decode cX9_findKings 56 = .ok (.istore_n 3, 1) := by decide +kernel
theorem dX9_findKings_57 : decode cX9_findKings 57 = .ok (.iconst 0, 1) := by decide +kernel
theorem dX9_findKings_58 : decode cX9_findKings 58 = .ok (.istore 4, 2) := by decide +kernel
theorem dX9_findKings_60 : decode cX9_findKings 60 = .ok (.aload_n 0, 1) := by decide +kernel
theorem dX9_findKings_61 : decode cX9_findKings 61 = .ok (.getfield 74, 3) := by decide +kernel
theorem dX9_findKings_64 : decode cX9_findKings 64 = .ok (.iconst 1, 1) := by decide +kernel
theorem dX9_findKings_65 : decode cX9_findKings 65 = .ok (.isub, 1) := by decide +kernel
theorem dX9_findKings_66 : decode cX9_findKings 66 = .ok (.istore 5, 2) := by decide +kernel
theorem dX9_findKings_68 : decode cX9_findKings 68 = .ok (.iload 5, 2) := by decide +kernel
theorem dX9_findKings_70 : decode cX9_findKings 70 = .ok (.ifCond .lt 62, 3) := by decide +kernel
theorem dX9_findKings_73 : decode cX9_findKings 73 = .ok (.aload_n 0, 1) := by decide +kernel
theorem dX9_findKings_74 : decode cX9_findKings 74 = .ok (.getfield 47, 3) := by decide +kernel
theorem dX9_findKings_77 : decode cX9_findKings 77 = .ok (.iconst 0, 1) := by decide +kernel
theorem dX9_findKings_78 : decode cX9_findKings 78 = .ok (.iload 5, 2) := by decide +kernel
theorem dX9_findKings_80 : decode cX9_findKings 80 = .ok (.iadd, 1) := by decide +kernel
theorem dX9_findKings_81 : decode cX9_findKings 81 = .ok (.iload_n 3, 1) := by decide +kernel
theorem dX9_findKings_82 : decode cX9_findKings 82 = .ok (.aload_n 0, 1) := by decide +kernel
theorem dX9_findKings_83 : decode cX9_findKings 83 = .ok (.getfield 74, 3) := by decide +kernel
theorem dX9_findKings_86 : decode cX9_findKings 86 = .ok (.irem, 1) := by decide +kernel
theorem dX9_findKings_87 : decode cX9_findKings 87 = .ok (.iastore, 1) := by decide +kernel
theorem dX9_findKings_88 : decode cX9_findKings 88 = .ok (.iload_n 3, 1) := by decide +kernel
theorem dX9_findKings_89 : decode cX9_findKings 89 = .ok (.aload_n 0, 1) := by decide +kernel
theorem dX9_findKings_90 : decode cX9_findKings 90 = .ok (.getfield 74, 3) := by decide +kernel
theorem dX9_findKings_93 : decode cX9_findKings 93 = .ok (.idiv, 1) := by decide +kernel
theorem dX9_findKings_94 : decode cX9_findKings 94 = .ok (.istore_n 3, 1) := by decide +kernel
theorem dX9_findKings_95 : decode cX9_findKings 95 = .ok (.iload 4, 2) := by decide +kernel
theorem dX9_findKings_97 : decode cX9_findKings 97 = .ok (.aload_n 0, 1) := by decide +kernel
theorem dX9_findKings_98 : decode cX9_findKings 98 = .ok (.getfield 47, 3) := by decide +kernel
theorem dX9_findKings_101 : decode cX9_findKings 101 = .ok (.iconst 0, 1) := by decide +kernel
theorem dX9_findKings_102 : decode cX9_findKings 102 = .ok (.iload 5, 2) := by decide +kernel
theorem dX9_findKings_104 : decode cX9_findKings 104 = .ok (.iadd, 1) := by decide +kernel
theorem dX9_findKings_105 : decode cX9_findKings 105 = .ok (.iaload, 1) := by decide +kernel
theorem dX9_findKings_106 : decode cX9_findKings 106 = .ok (.aload_n 0, 1) := by decide +kernel
theorem dX9_findKings_107 : decode cX9_findKings 107 = .ok (.getfield 19, 3) := by decide +kernel
theorem dX9_findKings_110 : decode cX9_findKings 110 = .ok (.iconst 0, 1) := by decide +kernel
theorem dX9_findKings_111 : decode cX9_findKings 111 = .ok (.iload 5, 2) := by decide +kernel
theorem dX9_findKings_113 : decode cX9_findKings 113 = .ok (.iadd, 1) := by decide +kernel
theorem dX9_findKings_114 : decode cX9_findKings 114 = .ok (.iaload, 1) := by decide +kernel
theorem dX9_findKings_115 : decode cX9_findKings 115 = .ok (.if_icmp .ne 7, 3) := by decide +kernel
theorem dX9_findKings_118 : decode cX9_findKings 118 = .ok (.iconst 0, 1) := by decide +kernel
theorem dX9_findKings_119 : decode cX9_findKings 119 = .ok (.goto 4, 3) := by decide +kernel
theorem dX9_findKings_122 : decode cX9_findKings 122 = .ok (.iconst 1, 1) := by decide +kernel
theorem dX9_findKings_123 : decode cX9_findKings 123 = .ok (.iadd, 1) := by decide +kernel
theorem dX9_findKings_124 : decode cX9_findKings 124 = .ok (.istore 4, 2) := by decide +kernel
theorem dX9_findKings_126 : decode cX9_findKings 126 = .ok (.iinc 5 (-1), 3) := by decide +kernel
theorem dX9_findKings_129 : decode cX9_findKings 129 = .ok (.goto (-61), 3) := by decide +kernel
theorem dX9_findKings_132 : decode cX9_findKings 132 = .ok (.aload_n 0, 1) := by decide +kernel
theorem dX9_findKings_133 : decode cX9_findKings 133 = .ok (.iconst 0, 1) := by decide +kernel
theorem dX9_findKings_134 : decode cX9_findKings 134 = .ok (.invokevirtual 192, 3) := by decide +kernel
theorem dX9_findKings_137 : decode cX9_findKings 137 = .ok (.aload_n 0, 1) := by decide +kernel
theorem dX9_findKings_138 : decode cX9_findKings 138 = .ok (.getfield 59, 3) := by decide +kernel
theorem dX9_findKings_141 : decode cX9_findKings 141 = .ok (.iconst 0, 1) := by decide +kernel
theorem dX9_findKings_142 : decode cX9_findKings 142 = .ok (.iaload, 1) := by decide +kernel
theorem dX9_findKings_143 : decode cX9_findKings 143 = .ok (.istore 5, 2) := by decide +kernel
theorem dX9_findKings_145 : decode cX9_findKings 145 = .ok (.aload_n 0, 1) := by decide +kernel
theorem dX9_findKings_146 : decode cX9_findKings 146 = .ok (.getfield 65, 3) := by decide +kernel
theorem dX9_findKings_149 : decode cX9_findKings 149 = .ok (.iload 5, 2) := by decide +kernel
theorem dX9_findKings_151 : decode cX9_findKings 151 = .ok (.iaload, 1) := by decide +kernel
theorem dX9_findKings_152 : decode cX9_findKings 152 = .ok (.ifCond .lt 15, 3) := by decide +kernel
theorem dX9_findKings_155 : decode cX9_findKings 155 = .ok (.iload 4, 2) := by decide +kernel
theorem dX9_findKings_157 : decode cX9_findKings 157 = .ok (.aload_n 0, 1) := by decide +kernel
theorem dX9_findKings_158 : decode cX9_findKings 158 = .ok (.getfield 65, 3) := by decide +kernel
theorem dX9_findKings_161 : decode cX9_findKings 161 = .ok (.iload 5, 2) := by decide +kernel
theorem dX9_findKings_163 : decode cX9_findKings 163 = .ok (.iaload, 1) := by decide +kernel
theorem dX9_findKings_164 : decode cX9_findKings 164 = .ok (.if_icmp .ge 51, 3) := by decide +kernel
theorem dX9_findKings_167 : decode cX9_findKings 167 = .ok (.aload_n 0, 1) := by decide +kernel
theorem dX9_findKings_168 : decode cX9_findKings 168 = .ok (.getfield 65, 3) := by decide +kernel
theorem dX9_findKings_171 : decode cX9_findKings 171 = .ok (.iload 5, 2) := by decide +kernel
theorem dX9_findKings_173 : decode cX9_findKings 173 = .ok (.iload 4, 2) := by decide +kernel
theorem dX9_findKings_175 : decode cX9_findKings 175 = .ok (.iastore, 1) := by decide +kernel
theorem dX9_findKings_176 : decode cX9_findKings 176 = .ok (.iconst 0, 1) := by decide +kernel
theorem dX9_findKings_177 : decode cX9_findKings 177 = .ok (.istore 6, 2) := by decide +kernel
theorem dX9_findKings_179 : decode cX9_findKings 179 = .ok (.iload 6, 2) := by decide +kernel
theorem dX9_findKings_181 : decode cX9_findKings 181 = .ok (.aload_n 0, 1) := by decide +kernel
theorem dX9_findKings_182 : decode cX9_findKings 182 = .ok (.getfield 74, 3) := by decide +kernel
theorem dX9_findKings_185 : decode cX9_findKings 185 = .ok (.if_icmp .ge 30, 3) := by decide +kernel
theorem dX9_findKings_188 : decode cX9_findKings 188 = .ok (.aload_n 0, 1) := by decide +kernel
theorem dX9_findKings_189 : decode cX9_findKings 189 = .ok (.getfield 62, 3) := by decide +kernel
theorem dX9_findKings_192 : decode cX9_findKings 192 = .ok (.iconst 5, 1) := by decide +kernel
theorem dX9_findKings_193 : decode cX9_findKings 193 = .ok (.iload 5, 2) := by decide +kernel
theorem dX9_findKings_195 : decode cX9_findKings 195 = .ok (.imul, 1) := by decide +kernel
theorem dX9_findKings_196 : decode cX9_findKings 196 = .ok (.iload 6, 2) := by decide +kernel
theorem dX9_findKings_198 : decode cX9_findKings 198 = .ok (.iadd, 1) := by decide +kernel
theorem dX9_findKings_199 : decode cX9_findKings 199 = .ok (.aload_n 0, 1) := by decide +kernel
theorem dX9_findKings_200 : decode cX9_findKings 200 = .ok (.getfield 47, 3) := by decide +kernel
theorem dX9_findKings_203 : decode cX9_findKings 203 = .ok (.iconst 0, 1) := by decide +kernel
theorem dX9_findKings_204 : decode cX9_findKings 204 = .ok (.iload 6, 2) := by decide +kernel
theorem dX9_findKings_206 : decode cX9_findKings 206 = .ok (.iadd, 1) := by decide +kernel
theorem dX9_findKings_207 : decode cX9_findKings 207 = .ok (.iaload, 1) := by decide +kernel
theorem dX9_findKings_208 : decode cX9_findKings 208 = .ok (.iastore, 1) := by decide +kernel
theorem dX9_findKings_209 : decode cX9_findKings 209 = .ok (.iinc 6 1, 3) := by decide +kernel
theorem dX9_findKings_212 : decode cX9_findKings 212 = .ok (.goto (-33), 3) := by decide +kernel
theorem dX9_findKings_215 : decode cX9_findKings 215 = .ok (.iinc 2 1, 3) := by decide +kernel
theorem dX9_findKings_218 : decode cX9_findKings 218 = .ok (.goto (-179), 3) := by decide +kernel
theorem dX9_findKings_221 : decode cX9_findKings 221 = .ok (.return_, 1) := by decide +kernel
theorem dX9_kings_0 : decode cX9_kings 0 = .ok (.iconst 0, 1) := by decide +kernel
theorem dX9_kings_1 : decode cX9_kings 1 = .ok (.istore_n 1, 1) := by decide +kernel
theorem dX9_kings_2 : decode cX9_kings 2 = .ok (.aload_n 0, 1) := by decide +kernel
theorem dX9_kings_3 : decode cX9_kings 3 = .ok (.invokevirtual 184, 3) := by decide +kernel
theorem dX9_kings_6 : decode cX9_kings 6 = .ok (.ifCond .eq 42, 3) := by decide +kernel
theorem dX9_kings_9 : decode cX9_kings 9 = .ok (.aload_n 0, 1) := by decide +kernel
theorem dX9_kings_10 : decode cX9_kings 10 = .ok (.invokevirtual 216, 3) := by decide +kernel
theorem dX9_kings_13 : decode cX9_kings 13 = .ok (.iconst 0, 1) := by decide +kernel
theorem dX9_kings_14 : decode cX9_kings 14 = .ok (.istore_n 2, 1) := by decide +kernel
theorem dX9_kings_15 : decode cX9_kings 15 = .ok (.iload_n 2, 1) := by decide +kernel
theorem dX9_kings_16 : decode cX9_kings 16 = .ok (.aload_n 0, 1) := by decide +kernel
theorem dX9_kings_17 : decode cX9_kings 17 = .ok (.getfield 74, 3) := by decide +kernel
theorem dX9_kings_20 : decode cX9_kings 20 = .ok (.if_icmp .ge 28, 3) := by decide +kernel
theorem dX9_kings_23 : decode cX9_kings 23 = .ok (.iload_n 1, 1) := by decide +kernel
theorem dX9_kings_24 : decode cX9_kings 24 = .ok (.aload_n 0, 1) := by decide +kernel
theorem dX9_kings_25 : decode cX9_kings 25 = .ok (.getfield 65, 3) := by decide +kernel
theorem dX9_kings_28 : decode cX9_kings 28 = .ok (.iload_n 2, 1) := by decide +kernel
theorem dX9_kings_29 : decode cX9_kings 29 = .ok (.iaload, 1) := by decide +kernel
theorem dX9_kings_30 : decode cX9_kings 30 = .ok (.ifCond .lt 9, 3) := by decide +kernel
theorem dX9_kings_33 : decode cX9_kings 33 = .ok (.iconst 1, 1) := by decide +kernel
theorem dX9_kings_34 : decode cX9_kings 34 = .ok (.iload_n 2, 1) := by decide +kernel
theorem dX9_kings_35 : decode cX9_kings 35 = .ok (.ishl, 1) := by decide +kernel
theorem dX9_kings_36 : decode cX9_kings 36 = .ok (.goto 4, 3) := by decide +kernel
theorem dX9_kings_39 : decode cX9_kings 39 = .ok (.iconst 0, 1) := by decide +kernel
theorem dX9_kings_40 : decode cX9_kings 40 = .ok (.ior, 1) := by decide +kernel
theorem dX9_kings_41 : decode cX9_kings 41 = .ok (.istore_n 1, 1) := by decide +kernel
theorem dX9_kings_42 : decode cX9_kings 42 = .ok (.iinc 2 1, 3) := by decide +kernel
theorem dX9_kings_45 : decode cX9_kings 45 = .ok (.goto (-30), 3) := by decide +kernel
theorem dX9_kings_48 : decode cX9_kings 48 = .ok (.iload_n 1, 1) := by decide +kernel
theorem dX9_kings_49 : decode cX9_kings 49 = .ok (.ireturn, 1) := by decide +kernel
theorem dX9_king_0 : decode cX9_king 0 = .ok (.aload_n 0, 1) := by decide +kernel
theorem dX9_king_1 : decode cX9_king 1 = .ok (.iload_n 1, 1) := by decide +kernel
theorem dX9_king_2 : decode cX9_king 2 = .ok (.invokevirtual 175, 3) := by decide +kernel
theorem dX9_king_5 : decode cX9_king 5 = .ok (.ifCond .eq 17, 3) := by decide +kernel
theorem dX9_king_8 : decode cX9_king 8 = .ok (.iload_n 2, 1) := by decide +kernel
theorem dX9_king_9 : decode cX9_king 9 = .ok (.iconst (-1), 1) := by decide +kernel
theorem dX9_king_10 : decode cX9_king 10 = .ok (.aload_n 0, 1) := by decide +kernel
theorem dX9_king_11 : decode cX9_king 11 = .ok (.getfield 74, 3) := by decide +kernel
theorem dX9_king_14 : decode cX9_king 14 = .ok (.iconst 1, 1) := by decide +kernel
theorem dX9_king_15 : decode cX9_king 15 = .ok (.isub, 1) := by decide +kernel
theorem dX9_king_16 : decode cX9_king 16 = .ok (.invokestatic 78, 3) := by decide +kernel
theorem dX9_king_19 : decode cX9_king 19 = .ok (.ifCond .ne 5, 3) := by decide +kernel
theorem dX9_king_22 : decode cX9_king 22 = .ok (.iconst (-1), 1) := by decide +kernel
theorem dX9_king_23 : decode cX9_king 23 = .ok (.ireturn, 1) := by decide +kernel
theorem dX9_king_24 : decode cX9_king 24 = .ok (.aload_n 0, 1) := by decide +kernel
theorem dX9_king_25 : decode cX9_king 25 = .ok (.invokevirtual 184, 3) := by decide +kernel
theorem dX9_king_28 : decode cX9_king 28 = .ok (.ifCond .ne 6, 3) := by decide +kernel
theorem dX9_king_31 : decode cX9_king 31 = .ok (.bipush (-2), 2) := by decide +kernel
theorem dX9_king_33 : decode cX9_king 33 = .ok (.ireturn, 1) := by decide +kernel
theorem dX9_king_34 : decode cX9_king 34 = .ok (.aload_n 0, 1) := by decide +kernel
theorem dX9_king_35 : decode cX9_king 35 = .ok (.invokevirtual 216, 3) := by decide +kernel
theorem dX9_king_38 : decode cX9_king 38 = .ok (.aload_n 0, 1) := by decide +kernel
theorem dX9_king_39 : decode cX9_king 39 = .ok (.getfield 65, 3) := by decide +kernel
theorem dX9_king_42 : decode cX9_king 42 = .ok (.iload_n 1, 1) := by decide +kernel
theorem dX9_king_43 : decode cX9_king 43 = .ok (.iaload, 1) := by decide +kernel
theorem dX9_king_44 : decode cX9_king 44 = .ok (.ifCond .ge 8, 3) := by decide +kernel
theorem dX9_king_47 : decode cX9_king 47 = .ok (.bipush (-9), 2) := by decide +kernel
theorem dX9_king_49 : decode cX9_king 49 = .ok (.goto 26, 3) := by decide +kernel
theorem dX9_king_52 : decode cX9_king 52 = .ok (.iload_n 2, 1) := by decide +kernel
theorem dX9_king_53 : decode cX9_king 53 = .ok (.ifCond .ge 12, 3) := by decide +kernel
theorem dX9_king_56 : decode cX9_king 56 = .ok (.aload_n 0, 1) := by decide +kernel
theorem dX9_king_57 : decode cX9_king 57 = .ok (.getfield 65, 3) := by decide +kernel
theorem dX9_king_60 : decode cX9_king 60 = .ok (.iload_n 1, 1) := by decide +kernel
theorem dX9_king_61 : decode cX9_king 61 = .ok (.iaload, 1) := by decide +kernel
theorem dX9_king_62 : decode cX9_king 62 = .ok (.goto 13, 3) := by decide +kernel
theorem dX9_king_65 : decode cX9_king 65 = .ok (.aload_n 0, 1) := by decide +kernel
theorem dX9_king_66 : decode cX9_king 66 = .ok (.getfield 62, 3) := by decide +kernel
theorem dX9_king_69 : decode cX9_king 69 = .ok (.iconst 5, 1) := by decide +kernel
theorem dX9_king_70 : decode cX9_king 70 = .ok (.iload_n 1, 1) := by decide +kernel
theorem dX9_king_71 : decode cX9_king 71 = .ok (.imul, 1) := by decide +kernel
theorem dX9_king_72 : decode cX9_king 72 = .ok (.iload_n 2, 1) := by decide +kernel
theorem dX9_king_73 : decode cX9_king 73 = .ok (.iadd, 1) := by decide +kernel
theorem dX9_king_74 : decode cX9_king 74 = .ok (.iaload, 1) := by decide +kernel
theorem dX9_king_75 : decode cX9_king 75 = .ok (.ireturn, 1) := by decide +kernel
theorem dX9_fair_0 : decode cX9_fair 0 = .ok (.iload_n 1, 1) := by decide +kernel
theorem dX9_fair_1 : decode cX9_fair 1 = .ok (.iconst (-1), 1) := by decide +kernel
theorem dX9_fair_2 : decode cX9_fair 2 = .ok (.aload_n 0, 1) := by decide +kernel
theorem dX9_fair_3 : decode cX9_fair 3 = .ok (.getfield 74, 3) := by decide +kernel
theorem dX9_fair_6 : decode cX9_fair 6 = .ok (.iconst 1, 1) := by decide +kernel
theorem dX9_fair_7 : decode cX9_fair 7 = .ok (.isub, 1) := by decide +kernel
theorem dX9_fair_8 : decode cX9_fair 8 = .ok (.invokestatic 78, 3) := by decide +kernel
theorem dX9_fair_11 : decode cX9_fair 11 = .ok (.ifCond .ne 5, 3) := by decide +kernel
theorem dX9_fair_14 : decode cX9_fair 14 = .ok (.iconst (-1), 1) := by decide +kernel
theorem dX9_fair_15 : decode cX9_fair 15 = .ok (.ireturn, 1) := by decide +kernel
theorem dX9_fair_16 : decode cX9_fair 16 = .ok (.aload_n 0, 1) := by decide +kernel
theorem dX9_fair_17 : decode cX9_fair 17 = .ok (.invokevirtual 184, 3) := by decide +kernel
theorem dX9_fair_20 : decode cX9_fair 20 = .ok (.ifCond .ne 6, 3) := by decide +kernel
theorem dX9_fair_23 : decode cX9_fair 23 = .ok (.bipush (-2), 2) := by decide +kernel
theorem dX9_fair_25 : decode cX9_fair 25 = .ok (.ireturn, 1) := by decide +kernel
theorem dX9_fair_26 : decode cX9_fair 26 = .ok (.iconst 1, 1) := by decide +kernel
theorem dX9_fair_27 : decode cX9_fair 27 = .ok (.istore_n 2, 1) := by decide +kernel
theorem dX9_fair_28 : decode cX9_fair 28 = .ok (.aload_n 0, 1) := by decide +kernel
theorem dX9_fair_29 : decode cX9_fair 29 = .ok (.invokevirtual 178, 3) := by decide +kernel
theorem dX9_fair_32 : decode cX9_fair 32 = .ok (.iconst 0, 1) := by decide +kernel
theorem dX9_fair_33 : decode cX9_fair 33 = .ok (.istore_n 3, 1) := by decide +kernel
theorem dX9_fair_34 : decode cX9_fair 34 = .ok (.iload_n 3, 1) := by decide +kernel
theorem dX9_fair_35 : decode cX9_fair 35 = .ok (.aload_n 0, 1) := by decide +kernel
theorem dX9_fair_36 : decode cX9_fair 36 = .ok (.getfield 74, 3) := by decide +kernel
theorem dX9_fair_39 : decode cX9_fair 39 = .ok (.if_icmp .ge 34, 3) := by decide +kernel
theorem dX9_fair_42 : decode cX9_fair 42 = .ok (.aload_n 0, 1) := by decide +kernel
theorem dX9_fair_43 : decode cX9_fair 43 = .ok (.getfield 47, 3) := by decide +kernel
theorem dX9_fair_46 : decode cX9_fair 46 = .ok (.iconst 5, 1) := by decide +kernel
theorem dX9_fair_47 : decode cX9_fair 47 = .ok (.iload_n 3, 1) := by decide +kernel
theorem dX9_fair_48 : decode cX9_fair 48 = .ok (.iadd, 1) := by decide +kernel
theorem dX9_fair_49 : decode cX9_fair 49 = .ok (.iconst 0, 1) := by decide +kernel
theorem dX9_fair_50 : decode cX9_fair 50 = .ok (.iastore, 1) := by decide +kernel
theorem dX9_fair_51 : decode cX9_fair 51 = .ok (.aload_n 0, 1) := by decide +kernel
theorem dX9_fair_52 : decode cX9_fair 52 = .ok (.getfield 71, 3) := by decide +kernel
theorem dX9_fair_55 : decode cX9_fair 55 = .ok (.iload_n 3, 1) := by decide +kernel
theorem dX9_fair_56 : decode cX9_fair 56 = .ok (.aload_n 0, 1) := by decide +kernel
theorem dX9_fair_57 : decode cX9_fair 57 = .ok (.iload_n 3, 1) := by decide +kernel
theorem dX9_fair_58 : decode cX9_fair 58 = .ok (.invokevirtual 181, 3) := by decide +kernel
theorem dX9_fair_61 : decode cX9_fair 61 = .ok (.iastore, 1) := by decide +kernel
theorem dX9_fair_62 : decode cX9_fair 62 = .ok (.iload_n 2, 1) := by decide +kernel
theorem dX9_fair_63 : decode cX9_fair 63 = .ok (.bipush 6, 2) := by decide +kernel
theorem dX9_fair_65 : decode cX9_fair 65 = .ok (.imul, 1) := by decide +kernel
theorem dX9_fair_66 : decode cX9_fair 66 = .ok (.istore_n 2, 1) := by decide +kernel
theorem dX9_fair_67 : decode cX9_fair 67 = .ok (.iinc 3 1, 3) := by decide +kernel
theorem dX9_fair_70 : decode cX9_fair 70 = .ok (.goto (-36), 3) := by decide +kernel
theorem dX9_fair_73 : decode cX9_fair 73 = .ok (.iconst (-1), 1) := by decide +kernel
theorem dX9_fair_74 : decode cX9_fair 74 = .ok (.istore_n 3, 1) := by decide +kernel
theorem dX9_fair_75 : decode cX9_fair 75 = .ok (.iconst 0, 1) := by decide +kernel
theorem dX9_fair_76 : decode cX9_fair 76 = .ok (.istore 4, 2) := by decide +kernel
theorem dX9_fair_78 : decode cX9_fair 78 = .ok (.iconst 0, 1) := by decide +kernel
theorem dX9_fair_79 : decode cX9_fair 79 = .ok (.istore 5, 2) := by decide +kernel
theorem dX9_fair_81 : decode cX9_fair 81 = .ok (.iload 5, 2) := by decide +kernel
theorem dX9_fair_83 : decode cX9_fair 83 = .ok (.iload_n 2, 1) := by decide +kernel
theorem dX9_fair_84 : decode cX9_fair 84 = .ok (.if_icmp .ge 212, 3) := by decide +kernel
theorem dX9_fair_87 : decode cX9_fair 87 = .ok (.iload 5, 2) := by decide +kernel
theorem dX9_fair_89 : decode cX9_fair 89 = .ok (.istore 6, 2) := by decide +kernel
theorem dX9_fair_91 : decode cX9_fair 91 = .ok (.sipush 10000, 3) := by decide +kernel
theorem dX9_fair_94 : decode cX9_fair 94 = .ok (.istore 7, 2) := by decide +kernel
theorem dX9_fair_96 : decode cX9_fair 96 = .ok (.iconst 0, 1) := by decide +kernel
theorem dX9_fair_97 : decode cX9_fair 97 = .ok (.istore 8, 2) := by decide +kernel
theorem dX9_fair_99 : decode cX9_fair 99 = .ok (.iconst 0, 1) := by decide +kernel
theorem dX9_fair_100 : decode cX9_fair 100 = .ok (.istore 9, 2) := by decide +kernel
theorem dX9_fair_102 : decode cX9_fair 102 = .ok (.aload_n 0, 1) := by decide +kernel
theorem dX9_fair_103 : decode cX9_fair 103 = .ok (.getfield 74, 3) := by decide +kernel
theorem dX9_fair_106 : decode cX9_fair 106 = .ok (.iconst 1, 1) := by decide +kernel
theorem dX9_fair_107 : decode cX9_fair 107 = .ok (.isub, 1) := by decide +kernel
theorem dX9_fair_108 : decode cX9_fair 108 = .ok (.istore 10, 2) := by decide +kernel
theorem dX9_fair_110 : decode cX9_fair 110 = .ok (.iload 10, 2) := by decide +kernel
theorem dX9_fair_112 : decode cX9_fair 112 = .ok (.ifCond .lt 105, 3) := by decide +kernel
theorem dX9_fair_115 : decode cX9_fair 115 = .ok (.iload 6, 2) := by decide +kernel
theorem dX9_fair_117 : decode cX9_fair 117 = .ok (.bipush 6, 2) := by decide +kernel
theorem dX9_fair_119 : decode cX9_fair 119 = .ok (.irem, 1) := by decide +kernel
theorem dX9_fair_120 : decode cX9_fair 120 = .ok (.istore 11, 2) := by decide +kernel
theorem dX9_fair_122 : decode cX9_fair 122 = .ok (.iload 6, 2) := by decide +kernel
theorem dX9_fair_124 : decode cX9_fair 124 = .ok (.bipush 6, 2) := by decide +kernel
theorem dX9_fair_126 : decode cX9_fair 126 = .ok (.idiv, 1) := by decide +kernel
theorem dX9_fair_127 : decode cX9_fair 127 = .ok (.istore 6, 2) := by decide +kernel
theorem dX9_fair_129 : decode cX9_fair 129 = .ok (.aload_n 0, 1) := by decide +kernel
theorem dX9_fair_130 : decode cX9_fair 130 = .ok (.getfield 47, 3) := by decide +kernel
theorem dX9_fair_133 : decode cX9_fair 133 = .ok (.iconst 5, 1) := by decide +kernel
theorem dX9_fair_134 : decode cX9_fair 134 = .ok (.iload 10, 2) := by decide +kernel
theorem dX9_fair_136 : decode cX9_fair 136 = .ok (.iadd, 1) := by decide +kernel
theorem dX9_fair_137 : decode cX9_fair 137 = .ok (.iload 11, 2) := by decide +kernel
theorem dX9_fair_139 : decode cX9_fair 139 = .ok (.iastore, 1) := by decide +kernel
theorem dX9_fair_140 : decode cX9_fair 140 = .ok (.iload 9, 2) := by decide +kernel
theorem dX9_fair_142 : decode cX9_fair 142 = .ok (.iload 11, 2) := by decide +kernel
theorem dX9_fair_144 : decode cX9_fair 144 = .ok (.iadd, 1) := by decide +kernel
theorem dX9_fair_145 : decode cX9_fair 145 = .ok (.istore 9, 2) := by decide +kernel
theorem dX9_fair_147 : decode cX9_fair 147 = .ok (.aload_n 0, 1) := by decide +kernel
theorem dX9_fair_148 : decode cX9_fair 148 = .ok (.getfield 71, 3) := by decide +kernel
theorem dX9_fair_151 : decode cX9_fair 151 = .ok (.iload 10, 2) := by decide +kernel
theorem dX9_fair_153 : decode cX9_fair 153 = .ok (.iaload, 1) := by decide +kernel
theorem dX9_fair_154 : decode cX9_fair 154 = .ok (.iload 11, 2) := by decide +kernel
theorem dX9_fair_156 : decode cX9_fair 156 = .ok (.iadd, 1) := by decide +kernel
theorem dX9_fair_157 : decode cX9_fair 157 = .ok (.iload 7, 2) := by decide +kernel
theorem dX9_fair_159 : decode cX9_fair 159 = .ok (.if_icmp .ge 16, 3) := by decide +kernel
theorem dX9_fair_162 : decode cX9_fair 162 = .ok (.aload_n 0, 1) := by decide +kernel
theorem dX9_fair_163 : decode cX9_fair 163 = .ok (.getfield 71, 3) := by decide +kernel
theorem dX9_fair_166 : decode cX9_fair 166 = .ok (.iload 10, 2) := by decide +kernel
theorem dX9_fair_168 : decode cX9_fair 168 = .ok (.iaload, 1) := by decide +kernel
theorem dX9_fair_169 : decode cX9_fair 169 = .ok (.iload 11, 2) := by decide +kernel
theorem dX9_fair_171 : decode cX9_fair 171 = .ok (.iadd, 1) := by decide +kernel
theorem dX9_fair_172 : decode cX9_fair 172 = .ok (.goto 5, 3) := by decide +kernel
theorem dX9_fair_175 : decode cX9_fair 175 = .ok (.iload 7, 2) := by decide +kernel
theorem dX9_fair_177 : decode cX9_fair 177 = .ok (.istore 7, 2) := by decide +kernel
theorem dX9_fair_179 : decode cX9_fair 179 = .ok (.aload_n 0, 1) := by decide +kernel
theorem dX9_fair_180 : decode cX9_fair 180 = .ok (.getfield 71, 3) := by decide +kernel
theorem dX9_fair_183 : decode cX9_fair 183 = .ok (.iload 10, 2) := by decide +kernel
theorem dX9_fair_185 : decode cX9_fair 185 = .ok (.iaload, 1) := by decide +kernel
theorem dX9_fair_186 : decode cX9_fair 186 = .ok (.iload 11, 2) := by decide +kernel
theorem dX9_fair_188 : decode cX9_fair 188 = .ok (.iadd, 1) := by decide +kernel
theorem dX9_fair_189 : decode cX9_fair 189 = .ok (.iload 8, 2) := by decide +kernel
theorem dX9_fair_191 : decode cX9_fair 191 = .ok (.if_icmp .le 16, 3) := by decide +kernel
theorem dX9_fair_194 : decode cX9_fair 194 = .ok (.aload_n 0, 1) := by decide +kernel
theorem dX9_fair_195 : decode cX9_fair 195 = .ok (.getfield 71, 3) := by decide +kernel
theorem dX9_fair_198 : decode cX9_fair 198 = .ok (.iload 10, 2) := by decide +kernel
theorem dX9_fair_200 : decode cX9_fair 200 = .ok (.iaload, 1) := by decide +kernel
theorem dX9_fair_201 : decode cX9_fair 201 = .ok (.iload 11, 2) := by decide +kernel
theorem dX9_fair_203 : decode cX9_fair 203 = .ok (.iadd, 1) := by decide +kernel
theorem dX9_fair_204 : decode cX9_fair 204 = .ok (.goto 5, 3) := by decide +kernel
theorem dX9_fair_207 : decode cX9_fair 207 = .ok (.iload 8, 2) := by decide +kernel
theorem dX9_fair_209 : decode cX9_fair 209 = .ok (.istore 8, 2) := by decide +kernel
theorem dX9_fair_211 : decode cX9_fair 211 = .ok (.iinc 10 (-1), 3) := by decide +kernel
theorem dX9_fair_214 : decode cX9_fair 214 = .ok (.goto (-104), 3) := by decide +kernel
theorem dX9_fair_217 : decode cX9_fair 217 = .ok (.iload_n 3, 1) := by decide +kernel
theorem dX9_fair_218 : decode cX9_fair 218 = .ok (.ifCond .lt 28, 3) := by decide +kernel
theorem dX9_fair_221 : decode cX9_fair 221 = .ok (.iload 8, 2) := by decide +kernel
theorem dX9_fair_223 : decode cX9_fair 223 = .ok (.iload 7, 2) := by decide +kernel
theorem dX9_fair_225 : decode cX9_fair 225 = .ok (.isub, 1) := by decide +kernel
theorem dX9_fair_226 : decode cX9_fair 226 = .ok (.iload_n 3, 1) := by decide +kernel
theorem dX9_fair_227 : decode cX9_fair 227 = .ok (.if_icmp .lt 19, 3) := by decide +kernel
theorem dX9_fair_230 : decode cX9_fair 230 = .ok (.iload 8, 2) := by decide +kernel
theorem dX9_fair_232 : decode cX9_fair 232 = .ok (.iload 7, 2) := by decide +kernel
theorem dX9_fair_234 : decode cX9_fair 234 = .ok (.isub, 1) := by decide +kernel
theorem dX9_fair_235 : decode cX9_fair 235 = .ok (.iload_n 3, 1) := by decide +kernel
theorem dX9_fair_236 : decode cX9_fair 236 = .ok (.if_icmp .ne 54, 3) := by decide +kernel
theorem dX9_fair_239 : decode cX9_fair 239 = .ok (.iload 9, 2) := by decide +kernel
theorem dX9_fair_241 : decode cX9_fair 241 = .ok (.iload 4, 2) := by decide +kernel
theorem dX9_fair_243 : decode cX9_fair 243 = .ok (.if_icmp .ge 47, 3) := by decide +kernel
theorem dX9_fair_246 : decode cX9_fair 246 = .ok (.iload 8, 2) := by decide +kernel
theorem dX9_fair_248 : decode cX9_fair 248 = .ok (.iload 7, 2) := by decide +kernel
theorem dX9_fair_250 : decode cX9_fair 250 = .ok (.isub, 1) := by decide +kernel
theorem dX9_fair_251 : decode cX9_fair 251 = .ok (.istore_n 3, 1) := by decide +kernel
theorem dX9_fair_252 : decode cX9_fair 252 = .ok (.iload 9, 2) := by decide +kernel
theorem dX9_fair_254 : decode cX9_fair 254 = .ok (.istore 4, 2) := by decide +kernel
theorem dX9_fair_256 : decode cX9_fair 256 = .ok (.iconst 0, 1) := by decide +kernel
theorem dX9_fair_257 : decode cX9_fair 257 = .ok (.istore 10, 2) := by decide +kernel
theorem dX9_fair_259 : decode cX9_fair 259 = .ok (.iload 10, 2) := by decide +kernel
theorem dX9_fair_261 : decode cX9_fair 261 = .ok (.aload_n 0, 1) := by decide +kernel
theorem dX9_fair_262 : decode cX9_fair 262 = .ok (.getfield 74, 3) := by decide +kernel
theorem dX9_fair_265 : decode cX9_fair 265 = .ok (.if_icmp .ge 25, 3) := by decide +kernel
theorem dX9_fair_268 : decode cX9_fair 268 = .ok (.aload_n 0, 1) := by decide +kernel
theorem dX9_fair_269 : decode cX9_fair 269 = .ok (.getfield 68, 3) := by decide +kernel
theorem dX9_fair_272 : decode cX9_fair 272 = .ok (.iload 10, 2) := by decide +kernel
theorem dX9_fair_274 : decode cX9_fair 274 = .ok (.aload_n 0, 1) := by decide +kernel
theorem dX9_fair_275 : decode cX9_fair 275 = .ok (.getfield 47, 3) := by decide +kernel
theorem dX9_fair_278 : decode cX9_fair 278 = .ok (.iconst 5, 1) := by decide +kernel
theorem dX9_fair_279 : decode cX9_fair 279 = .ok (.iload 10, 2) := by decide +kernel
theorem dX9_fair_281 : decode cX9_fair 281 = .ok (.iadd, 1) := by decide +kernel
theorem dX9_fair_282 : decode cX9_fair 282 = .ok (.iaload, 1) := by decide +kernel
theorem dX9_fair_283 : decode cX9_fair 283 = .ok (.iastore, 1) := by decide +kernel
theorem dX9_fair_284 : decode cX9_fair 284 = .ok (.iinc 10 1, 3) := by decide +kernel
theorem dX9_fair_287 : decode cX9_fair 287 = .ok (.goto (-28), 3) := by decide +kernel
theorem dX9_fair_290 : decode cX9_fair 290 = .ok (.iinc 5 1, 3) := by decide +kernel
theorem dX9_fair_293 : decode cX9_fair 293 = .ok (.goto (-212), 3) := by decide +kernel
theorem dX9_fair_296 : decode cX9_fair 296 = .ok (.iload_n 1, 1) := by decide +kernel
theorem dX9_fair_297 : decode cX9_fair 297 = .ok (.ifCond .ge 7, 3) := by decide +kernel
theorem dX9_fair_300 : decode cX9_fair 300 = .ok (.iload_n 3, 1) := by decide +kernel
theorem dX9_fair_301 : decode cX9_fair 301 = .ok (.goto 9, 3) := by decide +kernel
theorem dX9_fair_304 : decode cX9_fair 304 = .ok (.aload_n 0, 1) := by decide +kernel
theorem dX9_fair_305 : decode cX9_fair 305 = .ok (.getfield 68, 3) := by decide +kernel
theorem dX9_fair_308 : decode cX9_fair 308 = .ok (.iload_n 1, 1) := by decide +kernel
theorem dX9_fair_309 : decode cX9_fair 309 = .ok (.iaload, 1) := by decide +kernel
theorem dX9_fair_310 : decode cX9_fair 310 = .ok (.ireturn, 1) := by decide +kernel
theorem dX9_odds_0 : decode cX9_odds 0 = .ok (.aload_n 0, 1) := by decide +kernel
theorem dX9_odds_1 : decode cX9_odds 1 = .ok (.iload_n 1, 1) := by decide +kernel
theorem dX9_odds_2 : decode cX9_odds 2 = .ok (.invokevirtual 175, 3) := by decide +kernel
theorem dX9_odds_5 : decode cX9_odds 5 = .ok (.ifCond .eq 22, 3) := by decide +kernel
theorem dX9_odds_8 : decode cX9_odds 8 = .ok (.iload_n 2, 1) := by decide +kernel
theorem dX9_odds_9 : decode cX9_odds 9 = .ok (.iconst 0, 1) := by decide +kernel
theorem dX9_odds_10 : decode cX9_odds 10 = .ok (.bipush 10, 2) := by decide +kernel
theorem dX9_odds_12 : decode cX9_odds 12 = .ok (.invokestatic 78, 3) := by decide +kernel
theorem dX9_odds_15 : decode cX9_odds 15 = .ok (.ifCond .eq 12, 3) := by decide +kernel
theorem dX9_odds_18 : decode cX9_odds 18 = .ok (.iload_n 3, 1) := by decide +kernel
theorem dX9_odds_19 : decode cX9_odds 19 = .ok (.iconst 0, 1) := by decide +kernel
theorem dX9_odds_20 : decode cX9_odds 20 = .ok (.iconst 1, 1) := by decide +kernel
theorem dX9_odds_21 : decode cX9_odds 21 = .ok (.invokestatic 78, 3) := by decide +kernel
theorem dX9_odds_24 : decode cX9_odds 24 = .ok (.ifCond .ne 5, 3) := by decide +kernel
theorem dX9_odds_27 : decode cX9_odds 27 = .ok (.iconst (-1), 1) := by decide +kernel
theorem dX9_odds_28 : decode cX9_odds 28 = .ok (.ireturn, 1) := by decide +kernel
theorem dX9_odds_29 : decode cX9_odds 29 = .ok (.aload_n 0, 1) := by decide +kernel
theorem dX9_odds_30 : decode cX9_odds 30 = .ok (.invokevirtual 184, 3) := by decide +kernel
theorem dX9_odds_33 : decode cX9_odds 33 = .ok (.ifCond .ne 6, 3) := by decide +kernel
theorem dX9_odds_36 : decode cX9_odds 36 = .ok (.bipush (-2), 2) := by decide +kernel
theorem dX9_odds_38 : decode cX9_odds 38 = .ok (.ireturn, 1) := by decide +kernel
theorem dX9_odds_39 : decode cX9_odds 39 = .ok (.iconst 1, 1) := by decide +kernel
theorem dX9_odds_40 : decode cX9_odds 40 = .ok (.istore 4, 2) := by decide +kernel
theorem dX9_odds_42 : decode cX9_odds 42 = .ok (.iconst 0, 1) := by decide +kernel
theorem dX9_odds_43 : decode cX9_odds 43 = .ok (.istore 5, 2) := by decide +kernel
theorem dX9_odds_45 : decode cX9_odds 45 = .ok (.iload 5, 2) := by decide +kernel
theorem dX9_odds_47 : decode cX9_odds 47 = .ok (.aload_n 0, 1) := by decide +kernel
theorem dX9_odds_48 : decode cX9_odds 48 = .ok (.getfield 74, 3) := by decide +kernel
theorem dX9_odds_51 : decode cX9_odds 51 = .ok (.if_icmp .ge 16, 3) := by decide +kernel
theorem dX9_odds_54 : decode cX9_odds 54 = .ok (.iload 4, 2) := by decide +kernel
theorem dX9_odds_56 : decode cX9_odds 56 = .ok (.bipush 10, 2) := by decide +kernel
theorem dX9_odds_58 : decode cX9_odds 58 = .ok (.imul, 1) := by decide +kernel
theorem dX9_odds_59 : decode cX9_odds 59 = .ok (.istore 4, 2) := by decide +kernel
theorem dX9_odds_61 : decode cX9_odds 61 = .ok (.iinc 5 1, 3) := by decide +kernel
theorem dX9_odds_64 : decode cX9_odds 64 = .ok (.goto (-19), 3) := by decide +kernel
theorem dX9_odds_67 : decode cX9_odds 67 = .ok (.iconst 0, 1) := by decide +kernel
theorem dX9_odds_68 : decode cX9_odds 68 = .ok (.istore 5, 2) := by decide +kernel
theorem dX9_odds_70 : decode cX9_odds 70 = .ok (.aload_n 0, 1) := by decide +kernel
theorem dX9_odds_71 : decode cX9_odds 71 = .ok (.invokevirtual 178, 3) := by decide +kernel
theorem dX9_odds_74 : decode cX9_odds 74 = .ok (.iconst 0, 1) := by decide +kernel
theorem dX9_odds_75 : decode cX9_odds 75 = .ok (.istore 6, 2) := by decide +kernel
theorem dX9_odds_77 : decode cX9_odds 77 = .ok (.iload 6, 2) := by decide +kernel
theorem dX9_odds_79 : decode cX9_odds 79 = .ok (.iconst 1, 1) := by decide +kernel
theorem dX9_odds_80 : decode cX9_odds 80 = .ok (.aload_n 0, 1) := by decide +kernel
theorem dX9_odds_81 : decode cX9_odds 81 = .ok (.getfield 74, 3) := by decide +kernel
theorem dX9_odds_84 : decode cX9_odds 84 = .ok (.ishl, 1) := by decide +kernel
theorem dX9_odds_85 : decode cX9_odds 85 = .ok (.if_icmp .ge 80, 3) := by decide +kernel
theorem dX9_odds_88 : decode cX9_odds 88 = .ok (.iconst 1, 1) := by decide +kernel
theorem dX9_odds_89 : decode cX9_odds 89 = .ok (.istore 7, 2) := by decide +kernel
theorem dX9_odds_91 : decode cX9_odds 91 = .ok (.iconst 0, 1) := by decide +kernel
theorem dX9_odds_92 : decode cX9_odds 92 = .ok (.istore 8, 2) := by decide +kernel
theorem dX9_odds_94 : decode cX9_odds 94 = .ok (.iload 8, 2) := by decide +kernel
theorem dX9_odds_96 : decode cX9_odds 96 = .ok (.aload_n 0, 1) := by decide +kernel
theorem dX9_odds_97 : decode cX9_odds 97 = .ok (.getfield 74, 3) := by decide +kernel
theorem dX9_odds_100 : decode cX9_odds 100 = .ok (.if_icmp .ge 32, 3) := by decide +kernel
theorem dX9_odds_103 : decode cX9_odds 103 = .ok (.iload 7, 2) := by decide +kernel
theorem dX9_odds_105 : decode cX9_odds 105 = .ok (.iload 6, 2) := by decide +kernel
theorem dX9_odds_107 : decode cX9_odds 107 = .ok (.iload 8, 2) := by decide +kernel
theorem dX9_odds_109 : decode cX9_odds 109 = .ok (.invokestatic 158, 3) := by decide +kernel
theorem dX9_odds_112 : decode cX9_odds 112 = .ok (.ifCond .eq 7, 3) := by decide +kernel
theorem dX9_odds_115 : decode cX9_odds 115 = .ok (.iload_n 2, 1) := by decide +kernel
theorem dX9_odds_116 : decode cX9_odds 116 = .ok (.goto 7, 3) := by decide +kernel
theorem dX9_odds_119 : decode cX9_odds 119 = .ok (.bipush 10, 2) := by decide +kernel
theorem dX9_odds_121 : decode cX9_odds 121 = .ok (.iload_n 2, 1) := by decide +kernel
theorem dX9_odds_122 : decode cX9_odds 122 = .ok (.isub, 1) := by decide +kernel
theorem dX9_odds_123 : decode cX9_odds 123 = .ok (.imul, 1) := by decide +kernel
theorem dX9_odds_124 : decode cX9_odds 124 = .ok (.istore 7, 2) := by decide +kernel
theorem dX9_odds_126 : decode cX9_odds 126 = .ok (.iinc 8 1, 3) := by decide +kernel
theorem dX9_odds_129 : decode cX9_odds 129 = .ok (.goto (-35), 3) := by decide +kernel
theorem dX9_odds_132 : decode cX9_odds 132 = .ok (.aload_n 0, 1) := by decide +kernel
theorem dX9_odds_133 : decode cX9_odds 133 = .ok (.iload 6, 2) := by decide +kernel
theorem dX9_odds_135 : decode cX9_odds 135 = .ok (.invokevirtual 192, 3) := by decide +kernel
theorem dX9_odds_138 : decode cX9_odds 138 = .ok (.iload 5, 2) := by decide +kernel
theorem dX9_odds_140 : decode cX9_odds 140 = .ok (.aload_n 0, 1) := by decide +kernel
theorem dX9_odds_141 : decode cX9_odds 141 = .ok (.getfield 59, 3) := by decide +kernel
theorem dX9_odds_144 : decode cX9_odds 144 = .ok (.iconst 0, 1) := by decide +kernel
theorem dX9_odds_145 : decode cX9_odds 145 = .ok (.iaload, 1) := by decide +kernel
theorem dX9_odds_146 : decode cX9_odds 146 = .ok (.iload_n 1, 1) := by decide +kernel
theorem dX9_odds_147 : decode cX9_odds 147 = .ok (.if_icmp .ne 8, 3) := by decide +kernel
theorem dX9_odds_150 : decode cX9_odds 150 = .ok (.iload 7, 2) := by decide +kernel
theorem dX9_odds_152 : decode cX9_odds 152 = .ok (.goto 4, 3) := by decide +kernel
theorem dX9_odds_155 : decode cX9_odds 155 = .ok (.iconst 0, 1) := by decide +kernel
theorem dX9_odds_156 : decode cX9_odds 156 = .ok (.iadd, 1) := by decide +kernel
theorem dX9_odds_157 : decode cX9_odds 157 = .ok (.istore 5, 2) := by decide +kernel
theorem dX9_odds_159 : decode cX9_odds 159 = .ok (.iinc 6 1, 3) := by decide +kernel
theorem dX9_odds_162 : decode cX9_odds 162 = .ok (.goto (-85), 3) := by decide +kernel
theorem dX9_odds_165 : decode cX9_odds 165 = .ok (.iload 5, 2) := by decide +kernel
theorem dX9_odds_167 : decode cX9_odds 167 = .ok (.istore 6, 2) := by decide +kernel
theorem dX9_odds_169 : decode cX9_odds 169 = .ok (.iload 4, 2) := by decide +kernel
theorem dX9_odds_171 : decode cX9_odds 171 = .ok (.istore 7, 2) := by decide +kernel
theorem dX9_odds_173 : decode cX9_odds 173 = .ok (.iload 7, 2) := by decide +kernel
theorem dX9_odds_175 : decode cX9_odds 175 = .ok (.ifCond .le 21, 3) := by decide +kernel
theorem dX9_odds_178 : decode cX9_odds 178 = .ok (.iload 6, 2) := by decide +kernel
theorem dX9_odds_180 : decode cX9_odds 180 = .ok (.iload 7, 2) := by decide +kernel
theorem dX9_odds_182 : decode cX9_odds 182 = .ok (.irem, 1) := by decide +kernel
theorem dX9_odds_183 : decode cX9_odds 183 = .ok (.istore 8, 2) := by decide +kernel
theorem dX9_odds_185 : decode cX9_odds 185 = .ok (.iload 7, 2) := by decide +kernel
theorem dX9_odds_187 : decode cX9_odds 187 = .ok (.istore 6, 2) := by decide +kernel
theorem dX9_odds_189 : decode cX9_odds 189 = .ok (.iload 8, 2) := by decide +kernel
theorem dX9_odds_191 : decode cX9_odds 191 = .ok (.istore 7, 2) := by decide +kernel
theorem dX9_odds_193 : decode cX9_odds 193 = .ok (.goto (-20), 3) := by decide +kernel
theorem dX9_odds_196 : decode cX9_odds 196 = .ok (.iload_n 3, 1) := by decide +kernel
theorem dX9_odds_197 : decode cX9_odds 197 = .ok (.ifCond .ne 8, 3) := by decide +kernel
theorem dX9_odds_200 : decode cX9_odds 200 = .ok (.iload 5, 2) := by decide +kernel
theorem dX9_odds_202 : decode cX9_odds 202 = .ok (.goto 5, 3) := by decide +kernel
theorem dX9_odds_205 : decode cX9_odds 205 = .ok (.iload 4, 2) := by decide +kernel
theorem dX9_odds_207 : decode cX9_odds 207 = .ok (.iload 6, 2) := by decide +kernel
theorem dX9_odds_209 : decode cX9_odds 209 = .ok (.idiv, 1) := by decide +kernel
theorem dX9_odds_210 : decode cX9_odds 210 = .ok (.ireturn, 1) := by decide +kernel
theorem dX9_times_0 : decode cX9_times 0 = .ok (.aload_n 0, 1) := by decide +kernel
theorem dX9_times_1 : decode cX9_times 1 = .ok (.iload_n 1, 1) := by decide +kernel
theorem dX9_times_2 : decode cX9_times 2 = .ok (.invokevirtual 175, 3) := by decide +kernel
theorem dX9_times_5 : decode cX9_times 5 = .ok (.ifCond .eq 14, 3) := by decide +kernel
theorem dX9_times_8 : decode cX9_times 8 = .ok (.iload_n 2, 1) := by decide +kernel
theorem dX9_times_9 : decode cX9_times 9 = .ok (.iconst 1, 1) := by decide +kernel
theorem dX9_times_10 : decode cX9_times 10 = .ok (.sipush 200, 3) := by decide +kernel
theorem dX9_times_13 : decode cX9_times 13 = .ok (.invokestatic 78, 3) := by decide +kernel
theorem dX9_times_16 : decode cX9_times 16 = .ok (.ifCond .ne 5, 3) := by decide +kernel
theorem dX9_times_19 : decode cX9_times 19 = .ok (.iconst (-1), 1) := by decide +kernel
theorem dX9_times_20 : decode cX9_times 20 = .ok (.ireturn, 1) := by decide +kernel
theorem dX9_times_21 : decode cX9_times 21 = .ok (.aload_n 0, 1) := by decide +kernel
theorem dX9_times_22 : decode cX9_times 22 = .ok (.invokevirtual 184, 3) := by decide +kernel
theorem dX9_times_25 : decode cX9_times 25 = .ok (.ifCond .ne 6, 3) := by decide +kernel
theorem dX9_times_28 : decode cX9_times 28 = .ok (.bipush (-2), 2) := by decide +kernel
theorem dX9_times_30 : decode cX9_times 30 = .ok (.ireturn, 1) := by decide +kernel
theorem dX9_times_31 : decode cX9_times 31 = .ok (.aload_n 0, 1) := by decide +kernel
theorem dX9_times_32 : decode cX9_times 32 = .ok (.getfield 151, 3) := by decide +kernel
theorem dX9_times_35 : decode cX9_times 35 = .ok (.bipush 6, 2) := by decide +kernel
theorem dX9_times_37 : decode cX9_times 37 = .ok (.if_icmp .ne 6, 3) := by decide +kernel
theorem dX9_times_40 : decode cX9_times 40 = .ok (.bipush (-3), 2) := by decide +kernel
theorem dX9_times_42 : decode cX9_times 42 = .ok (.ireturn, 1) := by decide +kernel
theorem dX9_times_43 : decode cX9_times 43 = .ok (.aload_n 0, 1) := by decide +kernel
theorem dX9_times_44 : decode cX9_times 44 = .ok (.getfield 32, 3) := by decide +kernel
theorem dX9_times_47 : decode cX9_times 47 = .ok (.iconst 2, 1) := by decide +kernel
theorem dX9_times_48 : decode cX9_times 48 = .ok (.aload_n 0, 1) := by decide +kernel
theorem dX9_times_49 : decode cX9_times 49 = .ok (.getfield 151, 3) := by decide +kernel
theorem dX9_times_52 : decode cX9_times 52 = .ok (.imul, 1) := by decide +kernel
theorem dX9_times_53 : decode cX9_times 53 = .ok (.iload_n 1, 1) := by decide +kernel
theorem dX9_times_54 : decode cX9_times 54 = .ok (.iastore, 1) := by decide +kernel
theorem dX9_times_55 : decode cX9_times 55 = .ok (.aload_n 0, 1) := by decide +kernel
theorem dX9_times_56 : decode cX9_times 56 = .ok (.getfield 32, 3) := by decide +kernel
theorem dX9_times_59 : decode cX9_times 59 = .ok (.iconst 2, 1) := by decide +kernel
theorem dX9_times_60 : decode cX9_times 60 = .ok (.aload_n 0, 1) := by decide +kernel
theorem dX9_times_61 : decode cX9_times 61 = .ok (.getfield 151, 3) := by decide +kernel
theorem dX9_times_64 : decode cX9_times 64 = .ok (.imul, 1) := by decide +kernel
theorem dX9_times_65 : decode cX9_times 65 = .ok (.iconst 1, 1) := by decide +kernel
theorem dX9_times_66 : decode cX9_times 66 = .ok (.iadd, 1) := by decide +kernel
theorem dX9_times_67 : decode cX9_times 67 = .ok (.iload_n 2, 1) := by decide +kernel
theorem dX9_times_68 : decode cX9_times 68 = .ok (.iastore, 1) := by decide +kernel
theorem dX9_times_69 : decode cX9_times 69 = .ok (.aload_n 0, 1) := by decide +kernel
theorem dX9_times_70 : decode cX9_times 70 = .ok (.dup, 1) := by decide +kernel
theorem dX9_times_71 : decode cX9_times 71 = .ok (.getfield 151, 3) := by decide +kernel
theorem dX9_times_74 : decode cX9_times 74 = .ok (.iconst 1, 1) := by decide +kernel
theorem dX9_times_75 : decode cX9_times 75 = .ok (.iadd, 1) := by decide +kernel
theorem dX9_times_76 : decode cX9_times 76 = .ok (.putfield 151, 3) := by decide +kernel
theorem dX9_times_79 : decode cX9_times 79 = .ok (.aload_n 0, 1) := by decide +kernel
theorem dX9_times_80 : decode cX9_times 80 = .ok (.getfield 151, 3) := by decide +kernel
theorem dX9_times_83 : decode cX9_times 83 = .ok (.ireturn, 1) := by decide +kernel
theorem dX9_forget_0 : decode cX9_forget 0 = .ok (.aload_n 0, 1) := by decide +kernel
theorem dX9_forget_1 : decode cX9_forget 1 = .ok (.getfield 151, 3) := by decide +kernel
theorem dX9_forget_4 : decode cX9_forget 4 = .ok (.istore_n 1, 1) := by decide +kernel
theorem dX9_forget_5 : decode cX9_forget 5 = .ok (.aload_n 0, 1) := by decide +kernel
theorem dX9_forget_6 : decode cX9_forget 6 = .ok (.iconst 0, 1) := by decide +kernel
theorem dX9_forget_7 : decode cX9_forget 7 = .ok (.putfield 151, 3) := by decide +kernel
theorem dX9_forget_10 : decode cX9_forget 10 = .ok (.iload_n 1, 1) := by decide +kernel
theorem dX9_forget_11 : decode cX9_forget 11 = .ok (.ireturn, 1) := by decide +kernel
theorem dX9_rate_0 : decode cX9_rate 0 = .ok (.iload_n 1, 1) := by decide +kernel
theorem dX9_rate_1 : decode cX9_rate 1 = .ok (.iconst 0, 1) := by decide +kernel
theorem dX9_rate_2 : decode cX9_rate 2 = .ok (.iconst 5, 1) := by decide +kernel
theorem dX9_rate_3 : decode cX9_rate 3 = .ok (.invokestatic 78, 3) := by decide +kernel
theorem dX9_rate_6 : decode cX9_rate 6 = .ok (.ifCond .eq 11, 3) := by decide +kernel
theorem dX9_rate_9 : decode cX9_rate 9 = .ok (.aload_n 0, 1) := by decide +kernel
theorem dX9_rate_10 : decode cX9_rate 10 = .ok (.iload_n 2, 1) := by decide +kernel
theorem dX9_rate_11 : decode cX9_rate 11 = .ok (.invokevirtual 175, 3) := by decide +kernel
theorem dX9_rate_14 : decode cX9_rate 14 = .ok (.ifCond .ne 6, 3) := by decide +kernel
theorem dX9_rate_17 : decode cX9_rate 17 = .ok (.ldc 219, 2) := by decide +kernel
theorem dX9_rate_19 : decode cX9_rate 19 = .ok (.ireturn, 1) := by decide +kernel
theorem dX9_rate_20 : decode cX9_rate 20 = .ok (.aload_n 0, 1) := by decide +kernel
theorem dX9_rate_21 : decode cX9_rate 21 = .ok (.invokevirtual 178, 3) := by decide +kernel
theorem dX9_rate_24 : decode cX9_rate 24 = .ok (.aload_n 0, 1) := by decide +kernel
theorem dX9_rate_25 : decode cX9_rate 25 = .ok (.getfield 13, 3) := by decide +kernel
theorem dX9_rate_28 : decode cX9_rate 28 = .ok (.iconst 2, 1) := by decide +kernel
theorem dX9_rate_29 : decode cX9_rate 29 = .ok (.iload_n 2, 1) := by decide +kernel
theorem dX9_rate_30 : decode cX9_rate 30 = .ok (.imul, 1) := by decide +kernel
theorem dX9_rate_31 : decode cX9_rate 31 = .ok (.iaload, 1) := by decide +kernel
theorem dX9_rate_32 : decode cX9_rate 32 = .ok (.istore_n 3, 1) := by decide +kernel
theorem dX9_rate_33 : decode cX9_rate 33 = .ok (.iload_n 3, 1) := by decide +kernel
theorem dX9_rate_34 : decode cX9_rate 34 = .ok (.aload_n 0, 1) := by decide +kernel
theorem dX9_rate_35 : decode cX9_rate 35 = .ok (.getfield 19, 3) := by decide +kernel
theorem dX9_rate_38 : decode cX9_rate 38 = .ok (.iconst 5, 1) := by decide +kernel
theorem dX9_rate_39 : decode cX9_rate 39 = .ok (.iload_n 2, 1) := by decide +kernel
theorem dX9_rate_40 : decode cX9_rate 40 = .ok (.iadd, 1) := by decide +kernel
theorem dX9_rate_41 : decode cX9_rate 41 = .ok (.iaload, 1) := by decide +kernel
theorem dX9_rate_42 : decode cX9_rate 42 = .ok (.iadd, 1) := by decide +kernel
theorem dX9_rate_43 : decode cX9_rate 43 = .ok (.istore 4, 2) := by decide +kernel
theorem dX9_rate_45 : decode cX9_rate 45 = .ok (.iload_n 3, 1) := by decide +kernel
theorem dX9_rate_46 : decode cX9_rate 46 = .ok (.aload_n 0, 1) := by decide +kernel
theorem dX9_rate_47 : decode cX9_rate 47 = .ok (.iload_n 2, 1) := by decide +kernel
theorem dX9_rate_48 : decode cX9_rate 48 = .ok (.iconst 0, 1) := by decide +kernel
theorem dX9_rate_49 : decode cX9_rate 49 = .ok (.invokevirtual 168, 3) := by decide +kernel
theorem dX9_rate_52 : decode cX9_rate 52 = .ok (.isub, 1) := by decide +kernel
theorem dX9_rate_53 : decode cX9_rate 53 = .ok (.istore 5, 2) := by decide +kernel
theorem dX9_rate_55 : decode cX9_rate 55 = .ok (.iload_n 1, 1) := by decide +kernel
theorem dX9_rate_56 : decode cX9_rate 56 = .ok (.tableswitch 122 1 5 #[36, 51, 66, 83, 100], 36) := by decide +kernel
theorem dX9_rate_92 : decode cX9_rate 92 = .ok (.aload_n 0, 1) := by decide +kernel
theorem dX9_rate_93 : decode cX9_rate 93 = .ok (.dup, 1) := by decide +kernel
theorem dX9_rate_94 : decode cX9_rate 94 = .ok (.getfield 220, 3) := by decide +kernel
theorem dX9_rate_97 : decode cX9_rate 97 = .ok (.ldc2_w 224, 3) := by decide +kernel
theorem dX9_rate_100 : decode cX9_rate 100 = .ok (.ladd, 1) := by decide +kernel
theorem dX9_rate_101 : decode cX9_rate 101 = .ok (.putfield 220, 3) := by decide +kernel
theorem dX9_rate_104 : decode cX9_rate 104 = .ok (.iload 4, 2) := by decide +kernel
theorem dX9_rate_106 : decode cX9_rate 106 = .ok (.ireturn, 1) := by decide +kernel
theorem dX9_rate_107 : decode cX9_rate 107 = .ok (.aload_n 0, 1) := by decide +kernel
theorem dX9_rate_108 : decode cX9_rate 108 = .ok (.dup, 1) := by decide +kernel
theorem dX9_rate_109 : decode cX9_rate 109 = .ok (.getfield 220, 3) := by decide +kernel
theorem dX9_rate_112 : decode cX9_rate 112 = .ok (.ldc2_w 226, 3) := by decide +kernel
theorem dX9_rate_115 : decode cX9_rate 115 = .ok (.ladd, 1) := by decide +kernel
theorem dX9_rate_116 : decode cX9_rate 116 = .ok (.putfield 220, 3) := by decide +kernel
theorem dX9_rate_119 : decode cX9_rate 119 = .ok (.iload 5, 2) := by decide +kernel
theorem dX9_rate_121 : decode cX9_rate 121 = .ok (.ireturn, 1) := by decide +kernel
theorem dX9_rate_122 : decode cX9_rate 122 = .ok (.aload_n 0, 1) := by decide +kernel
theorem dX9_rate_123 : decode cX9_rate 123 = .ok (.dup, 1) := by decide +kernel
theorem dX9_rate_124 : decode cX9_rate 124 = .ok (.getfield 220, 3) := by decide +kernel
theorem dX9_rate_127 : decode cX9_rate 127 = .ok (.ldc2_w 228, 3) := by decide +kernel
theorem dX9_rate_130 : decode cX9_rate 130 = .ok (.ladd, 1) := by decide +kernel
theorem dX9_rate_131 : decode cX9_rate 131 = .ok (.putfield 220, 3) := by decide +kernel
theorem dX9_rate_134 : decode cX9_rate 134 = .ok (.iconst 2, 1) := by decide +kernel
theorem dX9_rate_135 : decode cX9_rate 135 = .ok (.iload 4, 2) := by decide +kernel
theorem dX9_rate_137 : decode cX9_rate 137 = .ok (.imul, 1) := by decide +kernel
theorem dX9_rate_138 : decode cX9_rate 138 = .ok (.ireturn, 1) := by decide +kernel
theorem dX9_rate_139 : decode cX9_rate 139 = .ok (.aload_n 0, 1) := by decide +kernel
theorem dX9_rate_140 : decode cX9_rate 140 = .ok (.dup, 1) := by decide +kernel
theorem dX9_rate_141 : decode cX9_rate 141 = .ok (.getfield 220, 3) := by decide +kernel
theorem dX9_rate_144 : decode cX9_rate 144 = .ok (.ldc2_w 230, 3) := by decide +kernel
theorem dX9_rate_147 : decode cX9_rate 147 = .ok (.ladd, 1) := by decide +kernel
theorem dX9_rate_148 : decode cX9_rate 148 = .ok (.putfield 220, 3) := by decide +kernel
theorem dX9_rate_151 : decode cX9_rate 151 = .ok (.iload 5, 2) := by decide +kernel
theorem dX9_rate_153 : decode cX9_rate 153 = .ok (.iload_n 2, 1) := by decide +kernel
theorem dX9_rate_154 : decode cX9_rate 154 = .ok (.iadd, 1) := by decide +kernel
theorem dX9_rate_155 : decode cX9_rate 155 = .ok (.ireturn, 1) := by decide +kernel
theorem dX9_rate_156 : decode cX9_rate 156 = .ok (.aload_n 0, 1) := by decide +kernel
theorem dX9_rate_157 : decode cX9_rate 157 = .ok (.dup, 1) := by decide +kernel
theorem dX9_rate_158 : decode cX9_rate 158 = .ok (.getfield 220, 3) := by decide +kernel
theorem dX9_rate_161 : decode cX9_rate 161 = .ok (.ldc2_w 232, 3) := by decide +kernel
theorem dX9_rate_164 : decode cX9_rate 164 = .ok (.ladd, 1) := by decide +kernel
theorem dX9_rate_165 : decode cX9_rate 165 = .ok (.putfield 220, 3) := by decide +kernel
theorem dX9_rate_168 : decode cX9_rate 168 = .ok (.iload_n 3, 1) := by decide +kernel
theorem dX9_rate_169 : decode cX9_rate 169 = .ok (.aload_n 0, 1) := by decide +kernel
theorem dX9_rate_170 : decode cX9_rate 170 = .ok (.getfield 19, 3) := by decide +kernel
theorem dX9_rate_173 : decode cX9_rate 173 = .ok (.bipush 11, 2) := by decide +kernel
theorem dX9_rate_175 : decode cX9_rate 175 = .ok (.iaload, 1) := by decide +kernel
theorem dX9_rate_176 : decode cX9_rate 176 = .ok (.iadd, 1) := by decide +kernel
theorem dX9_rate_177 : decode cX9_rate 177 = .ok (.ireturn, 1) := by decide +kernel
theorem dX9_rate_178 : decode cX9_rate 178 = .ok (.aload_n 0, 1) := by decide +kernel
theorem dX9_rate_179 : decode cX9_rate 179 = .ok (.dup, 1) := by decide +kernel
theorem dX9_rate_180 : decode cX9_rate 180 = .ok (.getfield 220, 3) := by decide +kernel
theorem dX9_rate_183 : decode cX9_rate 183 = .ok (.lconst 1, 1) := by decide +kernel
theorem dX9_rate_184 : decode cX9_rate 184 = .ok (.ladd, 1) := by decide +kernel
theorem dX9_rate_185 : decode cX9_rate 185 = .ok (.putfield 220, 3) := by decide +kernel
theorem dX9_rate_188 : decode cX9_rate 188 = .ok (.iload_n 3, 1) := by decide +kernel
theorem dX9_rate_189 : decode cX9_rate 189 = .ok (.ireturn, 1) := by decide +kernel
theorem dX9_keep_0 : decode cX9_keep 0 = .ok (.iload_n 1, 1) := by decide +kernel
theorem dX9_keep_1 : decode cX9_keep 1 = .ok (.iconst 0, 1) := by decide +kernel
theorem dX9_keep_2 : decode cX9_keep 2 = .ok (.iconst 1, 1) := by decide +kernel
theorem dX9_keep_3 : decode cX9_keep 3 = .ok (.invokestatic 78, 3) := by decide +kernel
theorem dX9_keep_6 : decode cX9_keep 6 = .ok (.ifCond .ne 5, 3) := by decide +kernel
theorem dX9_keep_9 : decode cX9_keep 9 = .ok (.iconst (-1), 1) := by decide +kernel
theorem dX9_keep_10 : decode cX9_keep 10 = .ok (.ireturn, 1) := by decide +kernel
theorem dX9_keep_11 : decode cX9_keep 11 = .ok (.aload_n 0, 1) := by decide +kernel
theorem dX9_keep_12 : decode cX9_keep 12 = .ok (.getfield 25, 3) := by decide +kernel
theorem dX9_keep_15 : decode cX9_keep 15 = .ok (.bipush 17, 2) := by decide +kernel
theorem dX9_keep_17 : decode cX9_keep 17 = .ok (.iload_n 1, 1) := by decide +kernel
theorem dX9_keep_18 : decode cX9_keep 18 = .ok (.imul, 1) := by decide +kernel
theorem dX9_keep_19 : decode cX9_keep 19 = .ok (.aload_n 0, 1) := by decide +kernel
theorem dX9_keep_20 : decode cX9_keep 20 = .ok (.getfield 19, 3) := by decide +kernel
theorem dX9_keep_23 : decode cX9_keep 23 = .ok (.iconst 0, 1) := by decide +kernel
theorem dX9_keep_24 : decode cX9_keep 24 = .ok (.invokestatic 154, 3) := by decide +kernel
theorem dX9_keep_27 : decode cX9_keep 27 = .ok (.aload_n 0, 1) := by decide +kernel
theorem dX9_keep_28 : decode cX9_keep 28 = .ok (.getfield 28, 3) := by decide +kernel
theorem dX9_keep_31 : decode cX9_keep 31 = .ok (.iload_n 1, 1) := by decide +kernel
theorem dX9_keep_32 : decode cX9_keep 32 = .ok (.iconst 1, 1) := by decide +kernel
theorem dX9_keep_33 : decode cX9_keep 33 = .ok (.bastore, 1) := by decide +kernel
theorem dX9_keep_34 : decode cX9_keep 34 = .ok (.aload_n 0, 1) := by decide +kernel
theorem dX9_keep_35 : decode cX9_keep 35 = .ok (.getfield 19, 3) := by decide +kernel
theorem dX9_keep_38 : decode cX9_keep 38 = .ok (.bipush 11, 2) := by decide +kernel
theorem dX9_keep_40 : decode cX9_keep 40 = .ok (.iaload, 1) := by decide +kernel
theorem dX9_keep_41 : decode cX9_keep 41 = .ok (.ireturn, 1) := by decide +kernel
theorem dX9_back_0 : decode cX9_back 0 = .ok (.iload_n 1, 1) := by decide +kernel
theorem dX9_back_1 : decode cX9_back 1 = .ok (.iconst 0, 1) := by decide +kernel
theorem dX9_back_2 : decode cX9_back 2 = .ok (.iconst 1, 1) := by decide +kernel
theorem dX9_back_3 : decode cX9_back 3 = .ok (.invokestatic 78, 3) := by decide +kernel
theorem dX9_back_6 : decode cX9_back 6 = .ok (.ifCond .ne 5, 3) := by decide +kernel
theorem dX9_back_9 : decode cX9_back 9 = .ok (.iconst (-1), 1) := by decide +kernel
theorem dX9_back_10 : decode cX9_back 10 = .ok (.ireturn, 1) := by decide +kernel
theorem dX9_back_11 : decode cX9_back 11 = .ok (.aload_n 0, 1) := by decide +kernel
theorem dX9_back_12 : decode cX9_back 12 = .ok (.getfield 28, 3) := by decide +kernel
theorem dX9_back_15 : decode cX9_back 15 = .ok (.iload_n 1, 1) := by decide +kernel
theorem dX9_back_16 : decode cX9_back 16 = .ok (.baload, 1) := by decide +kernel
theorem dX9_back_17 : decode cX9_back 17 = .ok (.ifCond .ne 6, 3) := by decide +kernel
theorem dX9_back_20 : decode cX9_back 20 = .ok (.bipush (-2), 2) := by decide +kernel
theorem dX9_back_22 : decode cX9_back 22 = .ok (.ireturn, 1) := by decide +kernel
theorem dX9_back_23 : decode cX9_back 23 = .ok (.aload_n 0, 1) := by decide +kernel
theorem dX9_back_24 : decode cX9_back 24 = .ok (.getfield 19, 3) := by decide +kernel
theorem dX9_back_27 : decode cX9_back 27 = .ok (.iconst 0, 1) := by decide +kernel
theorem dX9_back_28 : decode cX9_back 28 = .ok (.aload_n 0, 1) := by decide +kernel
theorem dX9_back_29 : decode cX9_back 29 = .ok (.getfield 25, 3) := by decide +kernel
theorem dX9_back_32 : decode cX9_back 32 = .ok (.bipush 17, 2) := by decide +kernel
theorem dX9_back_34 : decode cX9_back 34 = .ok (.iload_n 1, 1) := by decide +kernel
theorem dX9_back_35 : decode cX9_back 35 = .ok (.imul, 1) := by decide +kernel
theorem dX9_back_36 : decode cX9_back 36 = .ok (.invokestatic 154, 3) := by decide +kernel
theorem dX9_back_39 : decode cX9_back 39 = .ok (.aload_n 0, 1) := by decide +kernel
theorem dX9_back_40 : decode cX9_back 40 = .ok (.iconst 0, 1) := by decide +kernel
theorem dX9_back_41 : decode cX9_back 41 = .ok (.putfield 148, 3) := by decide +kernel
theorem dX9_back_44 : decode cX9_back 44 = .ok (.aload_n 0, 1) := by decide +kernel
theorem dX9_back_45 : decode cX9_back 45 = .ok (.getfield 19, 3) := by decide +kernel
theorem dX9_back_48 : decode cX9_back 48 = .ok (.bipush 11, 2) := by decide +kernel
theorem dX9_back_50 : decode cX9_back 50 = .ok (.iaload, 1) := by decide +kernel
theorem dX9_back_51 : decode cX9_back 51 = .ok (.ireturn, 1) := by decide +kernel
theorem dX9_count_0 : decode cX9_count 0 = .ok (.iload_n 1, 1) := by decide +kernel
theorem dX9_count_1 : decode cX9_count 1 = .ok (.tableswitch 51 0 3 #[31, 36, 41, 46], 31) := by decide +kernel
theorem dX9_count_32 : decode cX9_count 32 = .ok (.aload_n 0, 1) := by decide +kernel
theorem dX9_count_33 : decode cX9_count 33 = .ok (.getfield 81, 3) := by decide +kernel
theorem dX9_count_36 : decode cX9_count 36 = .ok (.ireturn, 1) := by decide +kernel
theorem dX9_count_37 : decode cX9_count 37 = .ok (.aload_n 0, 1) := by decide +kernel
theorem dX9_count_38 : decode cX9_count 38 = .ok (.getfield 74, 3) := by decide +kernel
theorem dX9_count_41 : decode cX9_count 41 = .ok (.ireturn, 1) := by decide +kernel
theorem dX9_count_42 : decode cX9_count 42 = .ok (.aload_n 0, 1) := by decide +kernel
theorem dX9_count_43 : decode cX9_count 43 = .ok (.getfield 151, 3) := by decide +kernel
theorem dX9_count_46 : decode cX9_count 46 = .ok (.ireturn, 1) := by decide +kernel
theorem dX9_count_47 : decode cX9_count 47 = .ok (.aload_n 0, 1) := by decide +kernel
theorem dX9_count_48 : decode cX9_count 48 = .ok (.getfield 84, 3) := by decide +kernel
theorem dX9_count_51 : decode cX9_count 51 = .ok (.ireturn, 1) := by decide +kernel
theorem dX9_count_52 : decode cX9_count 52 = .ok (.iconst (-1), 1) := by decide +kernel
theorem dX9_count_53 : decode cX9_count 53 = .ok (.ireturn, 1) := by decide +kernel
theorem dX9_trace_0 : decode cX9_trace 0 = .ok (.aload_n 0, 1) := by decide +kernel
theorem dX9_trace_1 : decode cX9_trace 1 = .ok (.getfield 220, 3) := by decide +kernel
theorem dX9_trace_4 : decode cX9_trace 4 = .ok (.lreturn, 1) := by decide +kernel
end
section
theorem dL_law_0 : decode cL_law 0 = .ok (.new 7, 3) := by decide +kernel
theorem dL_law_3 : decode cL_law 3 = .ok (.dup, 1) := by decide +kernel
theorem dL_law_4 : decode cL_law 4 = .ok (.invokespecial 9, 3) := by decide +kernel
theorem dL_law_7 : decode cL_law 7 = .ok (.astore_n 1, 1) := by decide +kernel
theorem dL_law_8 : decode cL_law 8 = .ok (.new 10, 3) := by decide +kernel
theorem dL_law_11 : decode cL_law 11 = .ok (.dup, 1) := by decide +kernel
theorem dL_law_12 : decode cL_law 12 = .ok (.invokespecial 12, 3) := by decide +kernel
theorem dL_law_15 : decode cL_law 15 = .ok (.astore_n 2, 1) := by decide +kernel
theorem dL_law_16 : decode cL_law 16 = .ok (.iconst 0, 1) := by decide +kernel
theorem dL_law_17 : decode cL_law 17 = .ok (.istore_n 3, 1) := by decide +kernel
theorem dL_law_18 : decode cL_law 18 = .ok (.iload_n 3, 1) := by decide +kernel
theorem dL_law_19 : decode cL_law 19 = .ok (.aload_n 0, 1) := by decide +kernel
theorem dL_law_20 : decode cL_law 20 = .ok (.arraylength, 1) := by decide +kernel
theorem dL_law_21 : decode cL_law 21 = .ok (.iconst 4, 1) := by decide +kernel
theorem dL_law_22 : decode cL_law 22 = .ok (.isub, 1) := by decide +kernel
theorem dL_law_23 : decode cL_law 23 = .ok (.if_icmp .gt 737, 3) := by decide +kernel
theorem dL_law_26 : decode cL_law 26 = .ok (.aload_n 0, 1) := by decide +kernel
theorem dL_law_27 : decode cL_law 27 = .ok (.iload_n 3, 1) := by decide +kernel
theorem dL_law_28 : decode cL_law 28 = .ok (.iaload, 1) := by decide +kernel
theorem dL_law_29 : decode cL_law 29 = .ok (.bipush 31, 2) := by decide +kernel
theorem dL_law_31 : decode cL_law 31 = .ok (.iand, 1) := by decide +kernel
theorem dL_law_32 : decode cL_law 32 = .ok (.tableswitch 722 0 24 #[116, 139, 152, 165, 198, 221, 244, 267, 280, 313, 346, 379, 392, 415, 438, 461, 494, 517, 560, 593, 606, 639, 662, 685, 708], 116) := by decide +kernel
theorem dL_law_148 : decode cL_law 148 = .ok (.aload_n 1, 1) := by decide +kernel
theorem dL_law_149 : decode cL_law 149 = .ok (.aload_n 0, 1) := by decide +kernel
theorem dL_law_150 : decode cL_law 150 = .ok (.iload_n 3, 1) := by decide +kernel
theorem dL_law_151 : decode cL_law 151 = .ok (.iconst 1, 1) := by decide +kernel
theorem dL_law_152 : decode cL_law 152 = .ok (.iadd, 1) := by decide +kernel
theorem dL_law_153 : decode cL_law 153 = .ok (.iaload, 1) := by decide +kernel
theorem dL_law_154 : decode cL_law 154 = .ok (.invokevirtual 13, 3) := by decide +kernel
theorem dL_law_157 : decode cL_law 157 = .ok (.aload_n 2, 1) := by decide +kernel
theorem dL_law_158 : decode cL_law 158 = .ok (.aload_n 0, 1) := by decide +kernel
theorem dL_law_159 : decode cL_law 159 = .ok (.iload_n 3, 1) := by decide +kernel
theorem dL_law_160 : decode cL_law 160 = .ok (.iconst 1, 1) := by decide +kernel
theorem dL_law_161 : decode cL_law 161 = .ok (.iadd, 1) := by decide +kernel
theorem dL_law_162 : decode cL_law 162 = .ok (.iaload, 1) := by decide +kernel
theorem dL_law_163 : decode cL_law 163 = .ok (.invokevirtual 17, 3) := by decide +kernel
theorem dL_law_166 : decode cL_law 166 = .ok (.if_icmp .eq 588, 3) := by decide +kernel
theorem dL_law_169 : decode cL_law 169 = .ok (.iconst 0, 1) := by decide +kernel
theorem dL_law_170 : decode cL_law 170 = .ok (.ireturn, 1) := by decide +kernel
theorem dL_law_171 : decode cL_law 171 = .ok (.aload_n 1, 1) := by decide +kernel
theorem dL_law_172 : decode cL_law 172 = .ok (.invokevirtual 18, 3) := by decide +kernel
theorem dL_law_175 : decode cL_law 175 = .ok (.aload_n 2, 1) := by decide +kernel
theorem dL_law_176 : decode cL_law 176 = .ok (.invokevirtual 22, 3) := by decide +kernel
theorem dL_law_179 : decode cL_law 179 = .ok (.if_icmp .eq 575, 3) := by decide +kernel
theorem dL_law_182 : decode cL_law 182 = .ok (.iconst 0, 1) := by decide +kernel
theorem dL_law_183 : decode cL_law 183 = .ok (.ireturn, 1) := by decide +kernel
theorem dL_law_184 : decode cL_law 184 = .ok (.aload_n 1, 1) := by decide +kernel
theorem dL_law_185 : decode cL_law 185 = .ok (.invokevirtual 23, 3) := by decide +kernel
theorem dL_law_188 : decode cL_law 188 = .ok (.aload_n 2, 1) := by decide +kernel
theorem dL_law_189 : decode cL_law 189 = .ok (.invokevirtual 26, 3) := by decide +kernel
theorem dL_law_192 : decode cL_law 192 = .ok (.if_icmp .eq 562, 3) := by decide +kernel
theorem dL_law_195 : decode cL_law 195 = .ok (.iconst 0, 1) := by decide +kernel
theorem dL_law_196 : decode cL_law 196 = .ok (.ireturn, 1) := by decide +kernel
theorem dL_law_197 : decode cL_law 197 = .ok (.aload_n 1, 1) := by decide +kernel
theorem dL_law_198 : decode cL_law 198 = .ok (.aload_n 0, 1) := by decide +kernel
theorem dL_law_199 : decode cL_law 199 = .ok (.iload_n 3, 1) := by decide +kernel
theorem dL_law_200 : decode cL_law 200 = .ok (.iconst 1, 1) := by decide +kernel
theorem dL_law_201 : decode cL_law 201 = .ok (.iadd, 1) := by decide +kernel
theorem dL_law_202 : decode cL_law 202 = .ok (.iaload, 1) := by decide +kernel
theorem dL_law_203 : decode cL_law 203 = .ok (.aload_n 0, 1) := by decide +kernel
theorem dL_law_204 : decode cL_law 204 = .ok (.iload_n 3, 1) := by decide +kernel
theorem dL_law_205 : decode cL_law 205 = .ok (.iconst 2, 1) := by decide +kernel
theorem dL_law_206 : decode cL_law 206 = .ok (.iadd, 1) := by decide +kernel
theorem dL_law_207 : decode cL_law 207 = .ok (.iaload, 1) := by decide +kernel
theorem dL_law_208 : decode cL_law 208 = .ok (.invokevirtual 27, 3) := by decide +kernel
theorem dL_law_211 : decode cL_law 211 = .ok (.aload_n 2, 1) := by decide +kernel
theorem dL_law_212 : decode cL_law 212 = .ok (.aload_n 0, 1) := by decide +kernel
theorem dL_law_213 : decode cL_law 213 = .ok (.iload_n 3, 1) := by decide +kernel
theorem dL_law_214 : decode cL_law 214 = .ok (.iconst 1, 1) := by decide +kernel
theorem dL_law_215 : decode cL_law 215 = .ok (.iadd, 1) := by decide +kernel
theorem dL_law_216 : decode cL_law 216 = .ok (.iaload, 1) := by decide +kernel
theorem dL_law_217 : decode cL_law 217 = .ok (.aload_n 0, 1) := by decide +kernel
theorem dL_law_218 : decode cL_law 218 = .ok (.iload_n 3, 1) := by decide +kernel
theorem dL_law_219 : decode cL_law 219 = .ok (.iconst 2, 1) := by decide +kernel
theorem dL_law_220 : decode cL_law 220 = .ok (.iadd, 1) := by decide +kernel
theorem dL_law_221 : decode cL_law 221 = .ok (.iaload, 1) := by decide +kernel
theorem dL_law_222 : decode cL_law 222 = .ok (.invokevirtual 31, 3) := by decide +kernel
theorem dL_law_225 : decode cL_law 225 = .ok (.if_icmp .eq 529, 3) := by decide +kernel
theorem dL_law_228 : decode cL_law 228 = .ok (.iconst 0, 1) := by decide +kernel
theorem dL_law_229 : decode cL_law 229 = .ok (.ireturn, 1) := by decide +kernel
theorem dL_law_230 : decode cL_law 230 = .ok (.aload_n 1, 1) := by decide +kernel
theorem dL_law_231 : decode cL_law 231 = .ok (.aload_n 0, 1) := by decide +kernel
theorem dL_law_232 : decode cL_law 232 = .ok (.iload_n 3, 1) := by decide +kernel
theorem dL_law_233 : decode cL_law 233 = .ok (.iconst 1, 1) := by decide +kernel
theorem dL_law_234 : decode cL_law 234 = .ok (.iadd, 1) := by decide +kernel
theorem dL_law_235 : decode cL_law 235 = .ok (.iaload, 1) := by decide +kernel
theorem dL_law_236 : decode cL_law 236 = .ok (.invokevirtual 32, 3) := by decide +kernel
theorem dL_law_239 : decode cL_law 239 = .ok (.aload_n 2, 1) := by decide +kernel
theorem dL_law_240 : decode cL_law 240 = .ok (.aload_n 0, 1) := by decide +kernel
theorem dL_law_241 : decode cL_law 241 = .ok (.iload_n 3, 1) := by decide +kernel
theorem dL_law_242 : decode cL_law 242 = .ok (.iconst 1, 1) := by decide +kernel
theorem dL_law_243 : decode cL_law 243 = .ok (.iadd, 1) := by decide +kernel
theorem dL_law_244 : decode cL_law 244 = .ok (.iaload, 1) := by decide +kernel
theorem dL_law_245 : decode cL_law 245 = .ok (.invokevirtual 35, 3) := by decide +kernel
theorem dL_law_248 : decode cL_law 248 = .ok (.if_icmp .eq 506, 3) := by decide +kernel
theorem dL_law_251 : decode cL_law 251 = .ok (.iconst 0, 1) := by decide +kernel
theorem dL_law_252 : decode cL_law 252 = .ok (.ireturn, 1) := by decide +kernel
theorem dL_law_253 : decode cL_law 253 = .ok (.aload_n 1, 1) := by decide +kernel
theorem dL_law_254 : decode cL_law 254 = .ok (.aload_n 0, 1) := by decide +kernel
theorem dL_law_255 : decode cL_law 255 = .ok (.iload_n 3, 1) := by decide +kernel
theorem dL_law_256 : decode cL_law 256 = .ok (.iconst 1, 1) := by decide +kernel
theorem dL_law_257 : decode cL_law 257 = .ok (.iadd, 1) := by decide +kernel
theorem dL_law_258 : decode cL_law 258 = .ok (.iaload, 1) := by decide +kernel
theorem dL_law_259 : decode cL_law 259 = .ok (.invokevirtual 36, 3) := by decide +kernel
theorem dL_law_262 : decode cL_law 262 = .ok (.aload_n 2, 1) := by decide +kernel
theorem dL_law_263 : decode cL_law 263 = .ok (.aload_n 0, 1) := by decide +kernel
theorem dL_law_264 : decode cL_law 264 = .ok (.iload_n 3, 1) := by decide +kernel
theorem dL_law_265 : decode cL_law 265 = .ok (.iconst 1, 1) := by decide +kernel
theorem dL_law_266 : decode cL_law 266 = .ok (.iadd, 1) := by decide +kernel
theorem dL_law_267 : decode cL_law 267 = .ok (.iaload, 1) := by decide +kernel
theorem dL_law_268 : decode cL_law 268 = .ok (.invokevirtual 39, 3) := by decide +kernel
theorem dL_law_271 : decode cL_law 271 = .ok (.if_icmp .eq 483, 3) := by decide +kernel
theorem dL_law_274 : decode cL_law 274 = .ok (.iconst 0, 1) := by decide +kernel
theorem dL_law_275 : decode cL_law 275 = .ok (.ireturn, 1) := by decide +kernel
theorem dL_law_276 : decode cL_law 276 = .ok (.aload_n 1, 1) := by decide +kernel
theorem dL_law_277 : decode cL_law 277 = .ok (.aload_n 0, 1) := by decide +kernel
theorem dL_law_278 : decode cL_law 278 = .ok (.iload_n 3, 1) := by decide +kernel
theorem dL_law_279 : decode cL_law 279 = .ok (.iconst 1, 1) := by decide +kernel
theorem dL_law_280 : decode cL_law 280 = .ok (.iadd, 1) := by decide +kernel
theorem dL_law_281 : decode cL_law 281 = .ok (.iaload, 1) := by decide +kernel
theorem dL_law_282 : decode cL_law 282 = .ok (.invokevirtual 40, 3) := by decide +kernel
theorem dL_law_285 : decode cL_law 285 = .ok (.aload_n 2, 1) := by decide +kernel
theorem dL_law_286 : decode cL_law 286 = .ok (.aload_n 0, 1) := by decide +kernel
theorem dL_law_287 : decode cL_law 287 = .ok (.iload_n 3, 1) := by decide +kernel
theorem dL_law_288 : decode cL_law 288 = .ok (.iconst 1, 1) := by decide +kernel
theorem dL_law_289 : decode cL_law 289 = .ok (.iadd, 1) := by decide +kernel
theorem dL_law_290 : decode cL_law 290 = .ok (.iaload, 1) := by decide +kernel
theorem dL_law_291 : decode cL_law 291 = .ok (.invokevirtual 43, 3) := by decide +kernel
theorem dL_law_294 : decode cL_law 294 = .ok (.if_icmp .eq 460, 3) := by decide +kernel
theorem dL_law_297 : decode cL_law 297 = .ok (.iconst 0, 1) := by decide +kernel
theorem dL_law_298 : decode cL_law 298 = .ok (.ireturn, 1) := by decide +kernel
theorem dL_law_299 : decode cL_law 299 = .ok (.aload_n 1, 1) := by decide +kernel
theorem dL_law_300 : decode cL_law 300 = .ok (.invokevirtual 44, 3) := by decide +kernel
theorem dL_law_303 : decode cL_law 303 = .ok (.aload_n 2, 1) := by decide +kernel
theorem dL_law_304 : decode cL_law 304 = .ok (.invokevirtual 47, 3) := by decide +kernel
theorem dL_law_307 : decode cL_law 307 = .ok (.if_icmp .eq 447, 3) := by decide +kernel
theorem dL_law_310 : decode cL_law 310 = .ok (.iconst 0, 1) := by decide +kernel
theorem dL_law_311 : decode cL_law 311 = .ok (.ireturn, 1) := by decide +kernel
theorem dL_law_312 : decode cL_law 312 = .ok (.aload_n 1, 1) := by decide +kernel
theorem dL_law_313 : decode cL_law 313 = .ok (.aload_n 0, 1) := by decide +kernel
theorem dL_law_314 : decode cL_law 314 = .ok (.iload_n 3, 1) := by decide +kernel
theorem dL_law_315 : decode cL_law 315 = .ok (.iconst 1, 1) := by decide +kernel
theorem dL_law_316 : decode cL_law 316 = .ok (.iadd, 1) := by decide +kernel
theorem dL_law_317 : decode cL_law 317 = .ok (.iaload, 1) := by decide +kernel
theorem dL_law_318 : decode cL_law 318 = .ok (.aload_n 0, 1) := by decide +kernel
theorem dL_law_319 : decode cL_law 319 = .ok (.iload_n 3, 1) := by decide +kernel
theorem dL_law_320 : decode cL_law 320 = .ok (.iconst 2, 1) := by decide +kernel
theorem dL_law_321 : decode cL_law 321 = .ok (.iadd, 1) := by decide +kernel
theorem dL_law_322 : decode cL_law 322 = .ok (.iaload, 1) := by decide +kernel
theorem dL_law_323 : decode cL_law 323 = .ok (.invokevirtual 48, 3) := by decide +kernel
theorem dL_law_326 : decode cL_law 326 = .ok (.aload_n 2, 1) := by decide +kernel
theorem dL_law_327 : decode cL_law 327 = .ok (.aload_n 0, 1) := by decide +kernel
theorem dL_law_328 : decode cL_law 328 = .ok (.iload_n 3, 1) := by decide +kernel
theorem dL_law_329 : decode cL_law 329 = .ok (.iconst 1, 1) := by decide +kernel
theorem dL_law_330 : decode cL_law 330 = .ok (.iadd, 1) := by decide +kernel
theorem dL_law_331 : decode cL_law 331 = .ok (.iaload, 1) := by decide +kernel
theorem dL_law_332 : decode cL_law 332 = .ok (.aload_n 0, 1) := by decide +kernel
theorem dL_law_333 : decode cL_law 333 = .ok (.iload_n 3, 1) := by decide +kernel
theorem dL_law_334 : decode cL_law 334 = .ok (.iconst 2, 1) := by decide +kernel
theorem dL_law_335 : decode cL_law 335 = .ok (.iadd, 1) := by decide +kernel
theorem dL_law_336 : decode cL_law 336 = .ok (.iaload, 1) := by decide +kernel
theorem dL_law_337 : decode cL_law 337 = .ok (.invokevirtual 51, 3) := by decide +kernel
theorem dL_law_340 : decode cL_law 340 = .ok (.if_icmp .eq 414, 3) := by decide +kernel
theorem dL_law_343 : decode cL_law 343 = .ok (.iconst 0, 1) := by decide +kernel
theorem dL_law_344 : decode cL_law 344 = .ok (.ireturn, 1) := by decide +kernel
theorem dL_law_345 : decode cL_law 345 = .ok (.aload_n 1, 1) := by decide +kernel
theorem dL_law_346 : decode cL_law 346 = .ok (.aload_n 0, 1) := by decide +kernel
theorem dL_law_347 : decode cL_law 347 = .ok (.iload_n 3, 1) := by decide +kernel
theorem dL_law_348 : decode cL_law 348 = .ok (.iconst 1, 1) := by decide +kernel
theorem dL_law_349 : decode cL_law 349 = .ok (.iadd, 1) := by decide +kernel
theorem dL_law_350 : decode cL_law 350 = .ok (.iaload, 1) := by decide +kernel
theorem dL_law_351 : decode cL_law 351 = .ok (.aload_n 0, 1) := by decide +kernel
theorem dL_law_352 : decode cL_law 352 = .ok (.iload_n 3, 1) := by decide +kernel
theorem dL_law_353 : decode cL_law 353 = .ok (.iconst 2, 1) := by decide +kernel
theorem dL_law_354 : decode cL_law 354 = .ok (.iadd, 1) := by decide +kernel
theorem dL_law_355 : decode cL_law 355 = .ok (.iaload, 1) := by decide +kernel
theorem dL_law_356 : decode cL_law 356 = .ok (.invokevirtual 52, 3) := by decide +kernel
theorem dL_law_359 : decode cL_law 359 = .ok (.aload_n 2, 1) := by decide +kernel
theorem dL_law_360 : decode cL_law 360 = .ok (.aload_n 0, 1) := by decide +kernel
theorem dL_law_361 : decode cL_law 361 = .ok (.iload_n 3, 1) := by decide +kernel
theorem dL_law_362 : decode cL_law 362 = .ok (.iconst 1, 1) := by decide +kernel
theorem dL_law_363 : decode cL_law 363 = .ok (.iadd, 1) := by decide +kernel
theorem dL_law_364 : decode cL_law 364 = .ok (.iaload, 1) := by decide +kernel
theorem dL_law_365 : decode cL_law 365 = .ok (.aload_n 0, 1) := by decide +kernel
theorem dL_law_366 : decode cL_law 366 = .ok (.iload_n 3, 1) := by decide +kernel
theorem dL_law_367 : decode cL_law 367 = .ok (.iconst 2, 1) := by decide +kernel
theorem dL_law_368 : decode cL_law 368 = .ok (.iadd, 1) := by decide +kernel
theorem dL_law_369 : decode cL_law 369 = .ok (.iaload, 1) := by decide +kernel
theorem dL_law_370 : decode cL_law 370 = .ok (.invokevirtual 55, 3) := by decide +kernel
theorem dL_law_373 : decode cL_law 373 = .ok (.if_icmp .eq 381, 3) := by decide +kernel
theorem dL_law_376 : decode cL_law 376 = .ok (.iconst 0, 1) := by decide +kernel
theorem dL_law_377 : decode cL_law 377 = .ok (.ireturn, 1) := by decide +kernel
theorem dL_law_378 : decode cL_law 378 = .ok (.aload_n 1, 1) := by decide +kernel
theorem dL_law_379 : decode cL_law 379 = .ok (.aload_n 0, 1) := by decide +kernel
theorem dL_law_380 : decode cL_law 380 = .ok (.iload_n 3, 1) := by decide +kernel
theorem dL_law_381 : decode cL_law 381 = .ok (.iconst 1, 1) := by decide +kernel
theorem dL_law_382 : decode cL_law 382 = .ok (.iadd, 1) := by decide +kernel
theorem dL_law_383 : decode cL_law 383 = .ok (.iaload, 1) := by decide +kernel
theorem dL_law_384 : decode cL_law 384 = .ok (.aload_n 0, 1) := by decide +kernel
theorem dL_law_385 : decode cL_law 385 = .ok (.iload_n 3, 1) := by decide +kernel
theorem dL_law_386 : decode cL_law 386 = .ok (.iconst 2, 1) := by decide +kernel
theorem dL_law_387 : decode cL_law 387 = .ok (.iadd, 1) := by decide +kernel
theorem dL_law_388 : decode cL_law 388 = .ok (.iaload, 1) := by decide +kernel
theorem dL_law_389 : decode cL_law 389 = .ok (.invokevirtual 56, 3) := by decide +kernel
theorem dL_law_392 : decode cL_law 392 = .ok (.aload_n 2, 1) := by decide +kernel
theorem dL_law_393 : decode cL_law 393 = .ok (.aload_n 0, 1) := by decide +kernel
theorem dL_law_394 : decode cL_law 394 = .ok (.iload_n 3, 1) := by decide +kernel
theorem dL_law_395 : decode cL_law 395 = .ok (.iconst 1, 1) := by decide +kernel
theorem dL_law_396 : decode cL_law 396 = .ok (.iadd, 1) := by decide +kernel
theorem dL_law_397 : decode cL_law 397 = .ok (.iaload, 1) := by decide +kernel
theorem dL_law_398 : decode cL_law 398 = .ok (.aload_n 0, 1) := by decide +kernel
theorem dL_law_399 : decode cL_law 399 = .ok (.iload_n 3, 1) := by decide +kernel
theorem dL_law_400 : decode cL_law 400 = .ok (.iconst 2, 1) := by decide +kernel
theorem dL_law_401 : decode cL_law 401 = .ok (.iadd, 1) := by decide +kernel
theorem dL_law_402 : decode cL_law 402 = .ok (.iaload, 1) := by decide +kernel
theorem dL_law_403 : decode cL_law 403 = .ok (.invokevirtual 59, 3) := by decide +kernel
theorem dL_law_406 : decode cL_law 406 = .ok (.if_icmp .eq 348, 3) := by decide +kernel
theorem dL_law_409 : decode cL_law 409 = .ok (.iconst 0, 1) := by decide +kernel
theorem dL_law_410 : decode cL_law 410 = .ok (.ireturn, 1) := by decide +kernel
theorem dL_law_411 : decode cL_law 411 = .ok (.aload_n 1, 1) := by decide +kernel
theorem dL_law_412 : decode cL_law 412 = .ok (.invokevirtual 60, 3) := by decide +kernel
theorem dL_law_415 : decode cL_law 415 = .ok (.aload_n 2, 1) := by decide +kernel
theorem dL_law_416 : decode cL_law 416 = .ok (.invokevirtual 63, 3) := by decide +kernel
theorem dL_law_419 : decode cL_law 419 = .ok (.if_icmp .eq 335, 3) := by decide +kernel
theorem dL_law_422 : decode cL_law 422 = .ok (.iconst 0, 1) := by decide +kernel
theorem dL_law_423 : decode cL_law 423 = .ok (.ireturn, 1) := by decide +kernel
theorem dL_law_424 : decode cL_law 424 = .ok (.aload_n 1, 1) := by decide +kernel
theorem dL_law_425 : decode cL_law 425 = .ok (.aload_n 0, 1) := by decide +kernel
theorem dL_law_426 : decode cL_law 426 = .ok (.iload_n 3, 1) := by decide +kernel
theorem dL_law_427 : decode cL_law 427 = .ok (.iconst 1, 1) := by decide +kernel
theorem dL_law_428 : decode cL_law 428 = .ok (.iadd, 1) := by decide +kernel
theorem dL_law_429 : decode cL_law 429 = .ok (.iaload, 1) := by decide +kernel
theorem dL_law_430 : decode cL_law 430 = .ok (.invokevirtual 64, 3) := by decide +kernel
theorem dL_law_433 : decode cL_law 433 = .ok (.aload_n 2, 1) := by decide +kernel
theorem dL_law_434 : decode cL_law 434 = .ok (.aload_n 0, 1) := by decide +kernel
theorem dL_law_435 : decode cL_law 435 = .ok (.iload_n 3, 1) := by decide +kernel
theorem dL_law_436 : decode cL_law 436 = .ok (.iconst 1, 1) := by decide +kernel
theorem dL_law_437 : decode cL_law 437 = .ok (.iadd, 1) := by decide +kernel
theorem dL_law_438 : decode cL_law 438 = .ok (.iaload, 1) := by decide +kernel
theorem dL_law_439 : decode cL_law 439 = .ok (.invokevirtual 67, 3) := by decide +kernel
theorem dL_law_442 : decode cL_law 442 = .ok (.if_icmp .eq 312, 3) := by decide +kernel
theorem dL_law_445 : decode cL_law 445 = .ok (.iconst 0, 1) := by decide +kernel
theorem dL_law_446 : decode cL_law 446 = .ok (.ireturn, 1) := by decide +kernel
theorem dL_law_447 : decode cL_law 447 = .ok (.aload_n 1, 1) := by decide +kernel
theorem dL_law_448 : decode cL_law 448 = .ok (.aload_n 0, 1) := by decide +kernel
theorem dL_law_449 : decode cL_law 449 = .ok (.iload_n 3, 1) := by decide +kernel
theorem dL_law_450 : decode cL_law 450 = .ok (.iconst 1, 1) := by decide +kernel
theorem dL_law_451 : decode cL_law 451 = .ok (.iadd, 1) := by decide +kernel
theorem dL_law_452 : decode cL_law 452 = .ok (.iaload, 1) := by decide +kernel
theorem dL_law_453 : decode cL_law 453 = .ok (.invokevirtual 68, 3) := by decide +kernel
theorem dL_law_456 : decode cL_law 456 = .ok (.aload_n 2, 1) := by decide +kernel
theorem dL_law_457 : decode cL_law 457 = .ok (.aload_n 0, 1) := by decide +kernel
theorem dL_law_458 : decode cL_law 458 = .ok (.iload_n 3, 1) := by decide +kernel
theorem dL_law_459 : decode cL_law 459 = .ok (.iconst 1, 1) := by decide +kernel
theorem dL_law_460 : decode cL_law 460 = .ok (.iadd, 1) := by decide +kernel
theorem dL_law_461 : decode cL_law 461 = .ok (.iaload, 1) := by decide +kernel
theorem dL_law_462 : decode cL_law 462 = .ok (.invokevirtual 71, 3) := by decide +kernel
theorem dL_law_465 : decode cL_law 465 = .ok (.if_icmp .eq 289, 3) := by decide +kernel
theorem dL_law_468 : decode cL_law 468 = .ok (.iconst 0, 1) := by decide +kernel
theorem dL_law_469 : decode cL_law 469 = .ok (.ireturn, 1) := by decide +kernel
theorem dL_law_470 : decode cL_law 470 = .ok (.aload_n 1, 1) := by decide +kernel
theorem dL_law_471 : decode cL_law 471 = .ok (.aload_n 0, 1) := by decide +kernel
theorem dL_law_472 : decode cL_law 472 = .ok (.iload_n 3, 1) := by decide +kernel
theorem dL_law_473 : decode cL_law 473 = .ok (.iconst 1, 1) := by decide +kernel
theorem dL_law_474 : decode cL_law 474 = .ok (.iadd, 1) := by decide +kernel
theorem dL_law_475 : decode cL_law 475 = .ok (.iaload, 1) := by decide +kernel
theorem dL_law_476 : decode cL_law 476 = .ok (.invokevirtual 72, 3) := by decide +kernel
theorem dL_law_479 : decode cL_law 479 = .ok (.aload_n 2, 1) := by decide +kernel
theorem dL_law_480 : decode cL_law 480 = .ok (.aload_n 0, 1) := by decide +kernel
theorem dL_law_481 : decode cL_law 481 = .ok (.iload_n 3, 1) := by decide +kernel
theorem dL_law_482 : decode cL_law 482 = .ok (.iconst 1, 1) := by decide +kernel
theorem dL_law_483 : decode cL_law 483 = .ok (.iadd, 1) := by decide +kernel
theorem dL_law_484 : decode cL_law 484 = .ok (.iaload, 1) := by decide +kernel
theorem dL_law_485 : decode cL_law 485 = .ok (.invokevirtual 75, 3) := by decide +kernel
theorem dL_law_488 : decode cL_law 488 = .ok (.if_icmp .eq 266, 3) := by decide +kernel
theorem dL_law_491 : decode cL_law 491 = .ok (.iconst 0, 1) := by decide +kernel
theorem dL_law_492 : decode cL_law 492 = .ok (.ireturn, 1) := by decide +kernel
theorem dL_law_493 : decode cL_law 493 = .ok (.aload_n 1, 1) := by decide +kernel
theorem dL_law_494 : decode cL_law 494 = .ok (.aload_n 0, 1) := by decide +kernel
theorem dL_law_495 : decode cL_law 495 = .ok (.iload_n 3, 1) := by decide +kernel
theorem dL_law_496 : decode cL_law 496 = .ok (.iconst 1, 1) := by decide +kernel
theorem dL_law_497 : decode cL_law 497 = .ok (.iadd, 1) := by decide +kernel
theorem dL_law_498 : decode cL_law 498 = .ok (.iaload, 1) := by decide +kernel
theorem dL_law_499 : decode cL_law 499 = .ok (.aload_n 0, 1) := by decide +kernel
theorem dL_law_500 : decode cL_law 500 = .ok (.iload_n 3, 1) := by decide +kernel
theorem dL_law_501 : decode cL_law 501 = .ok (.iconst 2, 1) := by decide +kernel
theorem dL_law_502 : decode cL_law 502 = .ok (.iadd, 1) := by decide +kernel
theorem dL_law_503 : decode cL_law 503 = .ok (.iaload, 1) := by decide +kernel
theorem dL_law_504 : decode cL_law 504 = .ok (.invokevirtual 76, 3) := by decide +kernel
theorem dL_law_507 : decode cL_law 507 = .ok (.aload_n 2, 1) := by decide +kernel
theorem dL_law_508 : decode cL_law 508 = .ok (.aload_n 0, 1) := by decide +kernel
theorem dL_law_509 : decode cL_law 509 = .ok (.iload_n 3, 1) := by decide +kernel
theorem dL_law_510 : decode cL_law 510 = .ok (.iconst 1, 1) := by decide +kernel
theorem dL_law_511 : decode cL_law 511 = .ok (.iadd, 1) := by decide +kernel
theorem dL_law_512 : decode cL_law 512 = .ok (.iaload, 1) := by decide +kernel
theorem dL_law_513 : decode cL_law 513 = .ok (.aload_n 0, 1) := by decide +kernel
theorem dL_law_514 : decode cL_law 514 = .ok (.iload_n 3, 1) := by decide +kernel
theorem dL_law_515 : decode cL_law 515 = .ok (.iconst 2, 1) := by decide +kernel
theorem dL_law_516 : decode cL_law 516 = .ok (.iadd, 1) := by decide +kernel
theorem dL_law_517 : decode cL_law 517 = .ok (.iaload, 1) := by decide +kernel
theorem dL_law_518 : decode cL_law 518 = .ok (.invokevirtual 79, 3) := by decide +kernel
theorem dL_law_521 : decode cL_law 521 = .ok (.if_icmp .eq 233, 3) := by decide +kernel
theorem dL_law_524 : decode cL_law 524 = .ok (.iconst 0, 1) := by decide +kernel
theorem dL_law_525 : decode cL_law 525 = .ok (.ireturn, 1) := by decide +kernel
theorem dL_law_526 : decode cL_law 526 = .ok (.aload_n 1, 1) := by decide +kernel
theorem dL_law_527 : decode cL_law 527 = .ok (.aload_n 0, 1) := by decide +kernel
theorem dL_law_528 : decode cL_law 528 = .ok (.iload_n 3, 1) := by decide +kernel
theorem dL_law_529 : decode cL_law 529 = .ok (.iconst 1, 1) := by decide +kernel
theorem dL_law_530 : decode cL_law 530 = .ok (.iadd, 1) := by decide +kernel
theorem dL_law_531 : decode cL_law 531 = .ok (.iaload, 1) := by decide +kernel
theorem dL_law_532 : decode cL_law 532 = .ok (.invokevirtual 80, 3) := by decide +kernel
theorem dL_law_535 : decode cL_law 535 = .ok (.aload_n 2, 1) := by decide +kernel
theorem dL_law_536 : decode cL_law 536 = .ok (.aload_n 0, 1) := by decide +kernel
theorem dL_law_537 : decode cL_law 537 = .ok (.iload_n 3, 1) := by decide +kernel
theorem dL_law_538 : decode cL_law 538 = .ok (.iconst 1, 1) := by decide +kernel
theorem dL_law_539 : decode cL_law 539 = .ok (.iadd, 1) := by decide +kernel
theorem dL_law_540 : decode cL_law 540 = .ok (.iaload, 1) := by decide +kernel
theorem dL_law_541 : decode cL_law 541 = .ok (.invokevirtual 83, 3) := by decide +kernel
theorem dL_law_544 : decode cL_law 544 = .ok (.if_icmp .eq 210, 3) := by decide +kernel
theorem dL_law_547 : decode cL_law 547 = .ok (.iconst 0, 1) := by decide +kernel
theorem dL_law_548 : decode cL_law 548 = .ok (.ireturn, 1) := by decide +kernel
theorem dL_law_549 : decode cL_law 549 = .ok (.aload_n 1, 1) := by decide +kernel
theorem dL_law_550 : decode cL_law 550 = .ok (.aload_n 0, 1) := by decide +kernel
theorem dL_law_551 : decode cL_law 551 = .ok (.iload_n 3, 1) := by decide +kernel
theorem dL_law_552 : decode cL_law 552 = .ok (.iconst 1, 1) := by decide +kernel
theorem dL_law_553 : decode cL_law 553 = .ok (.iadd, 1) := by decide +kernel
theorem dL_law_554 : decode cL_law 554 = .ok (.iaload, 1) := by decide +kernel
theorem dL_law_555 : decode cL_law 555 = .ok (.aload_n 0, 1) := by decide +kernel
theorem dL_law_556 : decode cL_law 556 = .ok (.iload_n 3, 1) := by decide +kernel
theorem dL_law_557 : decode cL_law 557 = .ok (.iconst 2, 1) := by decide +kernel
theorem dL_law_558 : decode cL_law 558 = .ok (.iadd, 1) := by decide +kernel
theorem dL_law_559 : decode cL_law 559 = .ok (.iaload, 1) := by decide +kernel
theorem dL_law_560 : decode cL_law 560 = .ok (.aload_n 0, 1) := by decide +kernel
theorem dL_law_561 : decode cL_law 561 = .ok (.iload_n 3, 1) := by decide +kernel
theorem dL_law_562 : decode cL_law 562 = .ok (.iconst 3, 1) := by decide +kernel
theorem dL_law_563 : decode cL_law 563 = .ok (.iadd, 1) := by decide +kernel
theorem dL_law_564 : decode cL_law 564 = .ok (.iaload, 1) := by decide +kernel
theorem dL_law_565 : decode cL_law 565 = .ok (.invokevirtual 84, 3) := by decide +kernel
theorem dL_law_568 : decode cL_law 568 = .ok (.aload_n 2, 1) := by decide +kernel
theorem dL_law_569 : decode cL_law 569 = .ok (.aload_n 0, 1) := by decide +kernel
theorem dL_law_570 : decode cL_law 570 = .ok (.iload_n 3, 1) := by decide +kernel
theorem dL_law_571 : decode cL_law 571 = .ok (.iconst 1, 1) := by decide +kernel
theorem dL_law_572 : decode cL_law 572 = .ok (.iadd, 1) := by decide +kernel
theorem dL_law_573 : decode cL_law 573 = .ok (.iaload, 1) := by decide +kernel
theorem dL_law_574 : decode cL_law 574 = .ok (.aload_n 0, 1) := by decide +kernel
theorem dL_law_575 : decode cL_law 575 = .ok (.iload_n 3, 1) := by decide +kernel
theorem dL_law_576 : decode cL_law 576 = .ok (.iconst 2, 1) := by decide +kernel
theorem dL_law_577 : decode cL_law 577 = .ok (.iadd, 1) := by decide +kernel
theorem dL_law_578 : decode cL_law 578 = .ok (.iaload, 1) := by decide +kernel
theorem dL_law_579 : decode cL_law 579 = .ok (.aload_n 0, 1) := by decide +kernel
theorem dL_law_580 : decode cL_law 580 = .ok (.iload_n 3, 1) := by decide +kernel
theorem dL_law_581 : decode cL_law 581 = .ok (.iconst 3, 1) := by decide +kernel
theorem dL_law_582 : decode cL_law 582 = .ok (.iadd, 1) := by decide +kernel
theorem dL_law_583 : decode cL_law 583 = .ok (.iaload, 1) := by decide +kernel
theorem dL_law_584 : decode cL_law 584 = .ok (.invokevirtual 88, 3) := by decide +kernel
theorem dL_law_587 : decode cL_law 587 = .ok (.if_icmp .eq 167, 3) := by decide +kernel
theorem dL_law_590 : decode cL_law 590 = .ok (.iconst 0, 1) := by decide +kernel
theorem dL_law_591 : decode cL_law 591 = .ok (.ireturn, 1) := by decide +kernel
theorem dL_law_592 : decode cL_law 592 = .ok (.aload_n 1, 1) := by decide +kernel
theorem dL_law_593 : decode cL_law 593 = .ok (.aload_n 0, 1) := by decide +kernel
theorem dL_law_594 : decode cL_law 594 = .ok (.iload_n 3, 1) := by decide +kernel
theorem dL_law_595 : decode cL_law 595 = .ok (.iconst 1, 1) := by decide +kernel
theorem dL_law_596 : decode cL_law 596 = .ok (.iadd, 1) := by decide +kernel
theorem dL_law_597 : decode cL_law 597 = .ok (.iaload, 1) := by decide +kernel
theorem dL_law_598 : decode cL_law 598 = .ok (.aload_n 0, 1) := by decide +kernel
theorem dL_law_599 : decode cL_law 599 = .ok (.iload_n 3, 1) := by decide +kernel
theorem dL_law_600 : decode cL_law 600 = .ok (.iconst 2, 1) := by decide +kernel
theorem dL_law_601 : decode cL_law 601 = .ok (.iadd, 1) := by decide +kernel
theorem dL_law_602 : decode cL_law 602 = .ok (.iaload, 1) := by decide +kernel
theorem dL_law_603 : decode cL_law 603 = .ok (.invokevirtual 89, 3) := by decide +kernel
theorem dL_law_606 : decode cL_law 606 = .ok (.aload_n 2, 1) := by decide +kernel
theorem dL_law_607 : decode cL_law 607 = .ok (.aload_n 0, 1) := by decide +kernel
theorem dL_law_608 : decode cL_law 608 = .ok (.iload_n 3, 1) := by decide +kernel
theorem dL_law_609 : decode cL_law 609 = .ok (.iconst 1, 1) := by decide +kernel
theorem dL_law_610 : decode cL_law 610 = .ok (.iadd, 1) := by decide +kernel
theorem dL_law_611 : decode cL_law 611 = .ok (.iaload, 1) := by decide +kernel
theorem dL_law_612 : decode cL_law 612 = .ok (.aload_n 0, 1) := by decide +kernel
theorem dL_law_613 : decode cL_law 613 = .ok (.iload_n 3, 1) := by decide +kernel
theorem dL_law_614 : decode cL_law 614 = .ok (.iconst 2, 1) := by decide +kernel
theorem dL_law_615 : decode cL_law 615 = .ok (.iadd, 1) := by decide +kernel
theorem dL_law_616 : decode cL_law 616 = .ok (.iaload, 1) := by decide +kernel
theorem dL_law_617 : decode cL_law 617 = .ok (.invokevirtual 92, 3) := by decide +kernel
theorem dL_law_620 : decode cL_law 620 = .ok (.if_icmp .eq 134, 3) := by decide +kernel
theorem dL_law_623 : decode cL_law 623 = .ok (.iconst 0, 1) := by decide +kernel
theorem dL_law_624 : decode cL_law 624 = .ok (.ireturn, 1) := by decide +kernel
theorem dL_law_625 : decode cL_law 625 = .ok (.aload_n 1, 1) := by decide +kernel
theorem dL_law_626 : decode cL_law 626 = .ok (.invokevirtual 93, 3) := by decide +kernel
theorem dL_law_629 : decode cL_law 629 = .ok (.aload_n 2, 1) := by decide +kernel
theorem dL_law_630 : decode cL_law 630 = .ok (.invokevirtual 96, 3) := by decide +kernel
theorem dL_law_633 : decode cL_law 633 = .ok (.if_icmp .eq 121, 3) := by decide +kernel
theorem dL_law_636 : decode cL_law 636 = .ok (.iconst 0, 1) := by decide +kernel
theorem dL_law_637 : decode cL_law 637 = .ok (.ireturn, 1) := by decide +kernel
theorem dL_law_638 : decode cL_law 638 = .ok (.aload_n 1, 1) := by decide +kernel
theorem dL_law_639 : decode cL_law 639 = .ok (.aload_n 0, 1) := by decide +kernel
theorem dL_law_640 : decode cL_law 640 = .ok (.iload_n 3, 1) := by decide +kernel
theorem dL_law_641 : decode cL_law 641 = .ok (.iconst 1, 1) := by decide +kernel
theorem dL_law_642 : decode cL_law 642 = .ok (.iadd, 1) := by decide +kernel
theorem dL_law_643 : decode cL_law 643 = .ok (.iaload, 1) := by decide +kernel
theorem dL_law_644 : decode cL_law 644 = .ok (.aload_n 0, 1) := by decide +kernel
theorem dL_law_645 : decode cL_law 645 = .ok (.iload_n 3, 1) := by decide +kernel
theorem dL_law_646 : decode cL_law 646 = .ok (.iconst 2, 1) := by decide +kernel
theorem dL_law_647 : decode cL_law 647 = .ok (.iadd, 1) := by decide +kernel
theorem dL_law_648 : decode cL_law 648 = .ok (.iaload, 1) := by decide +kernel
theorem dL_law_649 : decode cL_law 649 = .ok (.invokevirtual 97, 3) := by decide +kernel
theorem dL_law_652 : decode cL_law 652 = .ok (.aload_n 2, 1) := by decide +kernel
theorem dL_law_653 : decode cL_law 653 = .ok (.aload_n 0, 1) := by decide +kernel
theorem dL_law_654 : decode cL_law 654 = .ok (.iload_n 3, 1) := by decide +kernel
theorem dL_law_655 : decode cL_law 655 = .ok (.iconst 1, 1) := by decide +kernel
theorem dL_law_656 : decode cL_law 656 = .ok (.iadd, 1) := by decide +kernel
theorem dL_law_657 : decode cL_law 657 = .ok (.iaload, 1) := by decide +kernel
theorem dL_law_658 : decode cL_law 658 = .ok (.aload_n 0, 1) := by decide +kernel
theorem dL_law_659 : decode cL_law 659 = .ok (.iload_n 3, 1) := by decide +kernel
theorem dL_law_660 : decode cL_law 660 = .ok (.iconst 2, 1) := by decide +kernel
theorem dL_law_661 : decode cL_law 661 = .ok (.iadd, 1) := by decide +kernel
theorem dL_law_662 : decode cL_law 662 = .ok (.iaload, 1) := by decide +kernel
theorem dL_law_663 : decode cL_law 663 = .ok (.invokevirtual 100, 3) := by decide +kernel
theorem dL_law_666 : decode cL_law 666 = .ok (.if_icmp .eq 88, 3) := by decide +kernel
theorem dL_law_669 : decode cL_law 669 = .ok (.iconst 0, 1) := by decide +kernel
theorem dL_law_670 : decode cL_law 670 = .ok (.ireturn, 1) := by decide +kernel
theorem dL_law_671 : decode cL_law 671 = .ok (.aload_n 1, 1) := by decide +kernel
theorem dL_law_672 : decode cL_law 672 = .ok (.aload_n 0, 1) := by decide +kernel
theorem dL_law_673 : decode cL_law 673 = .ok (.iload_n 3, 1) := by decide +kernel
theorem dL_law_674 : decode cL_law 674 = .ok (.iconst 1, 1) := by decide +kernel
theorem dL_law_675 : decode cL_law 675 = .ok (.iadd, 1) := by decide +kernel
theorem dL_law_676 : decode cL_law 676 = .ok (.iaload, 1) := by decide +kernel
theorem dL_law_677 : decode cL_law 677 = .ok (.invokevirtual 101, 3) := by decide +kernel
theorem dL_law_680 : decode cL_law 680 = .ok (.aload_n 2, 1) := by decide +kernel
theorem dL_law_681 : decode cL_law 681 = .ok (.aload_n 0, 1) := by decide +kernel
theorem dL_law_682 : decode cL_law 682 = .ok (.iload_n 3, 1) := by decide +kernel
theorem dL_law_683 : decode cL_law 683 = .ok (.iconst 1, 1) := by decide +kernel
theorem dL_law_684 : decode cL_law 684 = .ok (.iadd, 1) := by decide +kernel
theorem dL_law_685 : decode cL_law 685 = .ok (.iaload, 1) := by decide +kernel
theorem dL_law_686 : decode cL_law 686 = .ok (.invokevirtual 104, 3) := by decide +kernel
theorem dL_law_689 : decode cL_law 689 = .ok (.if_icmp .eq 65, 3) := by decide +kernel
theorem dL_law_692 : decode cL_law 692 = .ok (.iconst 0, 1) := by decide +kernel
theorem dL_law_693 : decode cL_law 693 = .ok (.ireturn, 1) := by decide +kernel
theorem dL_law_694 : decode cL_law 694 = .ok (.aload_n 1, 1) := by decide +kernel
theorem dL_law_695 : decode cL_law 695 = .ok (.aload_n 0, 1) := by decide +kernel
theorem dL_law_696 : decode cL_law 696 = .ok (.iload_n 3, 1) := by decide +kernel
theorem dL_law_697 : decode cL_law 697 = .ok (.iconst 1, 1) := by decide +kernel
theorem dL_law_698 : decode cL_law 698 = .ok (.iadd, 1) := by decide +kernel
theorem dL_law_699 : decode cL_law 699 = .ok (.iaload, 1) := by decide +kernel
theorem dL_law_700 : decode cL_law 700 = .ok (.invokevirtual 105, 3) := by decide +kernel
theorem dL_law_703 : decode cL_law 703 = .ok (.aload_n 2, 1) := by decide +kernel
theorem dL_law_704 : decode cL_law 704 = .ok (.aload_n 0, 1) := by decide +kernel
theorem dL_law_705 : decode cL_law 705 = .ok (.iload_n 3, 1) := by decide +kernel
theorem dL_law_706 : decode cL_law 706 = .ok (.iconst 1, 1) := by decide +kernel
theorem dL_law_707 : decode cL_law 707 = .ok (.iadd, 1) := by decide +kernel
theorem dL_law_708 : decode cL_law 708 = .ok (.iaload, 1) := by decide +kernel
theorem dL_law_709 : decode cL_law 709 = .ok (.invokevirtual 108, 3) := by decide +kernel
theorem dL_law_712 : decode cL_law 712 = .ok (.if_icmp .eq 42, 3) := by decide +kernel
theorem dL_law_715 : decode cL_law 715 = .ok (.iconst 0, 1) := by decide +kernel
theorem dL_law_716 : decode cL_law 716 = .ok (.ireturn, 1) := by decide +kernel
theorem dL_law_717 : decode cL_law 717 = .ok (.aload_n 1, 1) := by decide +kernel
theorem dL_law_718 : decode cL_law 718 = .ok (.aload_n 0, 1) := by decide +kernel
theorem dL_law_719 : decode cL_law 719 = .ok (.iload_n 3, 1) := by decide +kernel
theorem dL_law_720 : decode cL_law 720 = .ok (.iconst 1, 1) := by decide +kernel
theorem dL_law_721 : decode cL_law 721 = .ok (.iadd, 1) := by decide +kernel
theorem dL_law_722 : decode cL_law 722 = .ok (.iaload, 1) := by decide +kernel
theorem dL_law_723 : decode cL_law 723 = .ok (.invokevirtual 109, 3) := by decide +kernel
theorem dL_law_726 : decode cL_law 726 = .ok (.aload_n 2, 1) := by decide +kernel
theorem dL_law_727 : decode cL_law 727 = .ok (.aload_n 0, 1) := by decide +kernel
theorem dL_law_728 : decode cL_law 728 = .ok (.iload_n 3, 1) := by decide +kernel
theorem dL_law_729 : decode cL_law 729 = .ok (.iconst 1, 1) := by decide +kernel
theorem dL_law_730 : decode cL_law 730 = .ok (.iadd, 1) := by decide +kernel
theorem dL_law_731 : decode cL_law 731 = .ok (.iaload, 1) := by decide +kernel
theorem dL_law_732 : decode cL_law 732 = .ok (.invokevirtual 112, 3) := by decide +kernel
theorem dL_law_735 : decode cL_law 735 = .ok (.if_icmp .eq 19, 3) := by decide +kernel
theorem dL_law_738 : decode cL_law 738 = .ok (.iconst 0, 1) := by decide +kernel
theorem dL_law_739 : decode cL_law 739 = .ok (.ireturn, 1) := by decide +kernel
theorem dL_law_740 : decode cL_law 740 = .ok (.aload_n 1, 1) := by decide +kernel
theorem dL_law_741 : decode cL_law 741 = .ok (.invokevirtual 113, 3) := by decide +kernel
theorem dL_law_744 : decode cL_law 744 = .ok (.aload_n 2, 1) := by decide +kernel
theorem dL_law_745 : decode cL_law 745 = .ok (.invokevirtual 117, 3) := by decide +kernel
theorem dL_law_748 : decode cL_law 748 = .ok (.lcmp, 1) := by decide +kernel
theorem dL_law_749 : decode cL_law 749 = .ok (.ifCond .eq 5, 3) := by decide +kernel
theorem dL_law_752 : decode cL_law 752 = .ok (.iconst 0, 1) := by decide +kernel
theorem dL_law_753 : decode cL_law 753 = .ok (.ireturn, 1) := by decide +kernel
theorem dL_law_754 : decode cL_law 754 = .ok (.iinc 3 4, 3) := by decide +kernel
theorem dL_law_757 : decode cL_law 757 = .ok (.goto (-739), 3) := by decide +kernel
theorem dL_law_760 : decode cL_law 760 = .ok (.iconst 1, 1) := by decide +kernel
theorem dL_law_761 : decode cL_law 761 = .ok (.ireturn, 1) := by decide +kernel
end
section
/-! THE LIGHT JUDGEMENT Ev: a method's frame over a world of fixed shape whose numbers are a function of place and slot. Rows below lift the kit's rows once; all later walks use them. -/
def gw_tbl : List Cond := lw_tbl.filter goodWord
theorem gw_in {w : Cond} (i : Nat) (h : lw_tbl[i]? = some w) (g : goodWord w = true) : w ∈ gw_tbl := List.mem_filter.mpr ⟨List.mem_of_getElem? h, g⟩
abbrev R32 (x : Int) : Prop := -2147483648 ≤ x ∧ x < 2147483648
theorem q_toI {x : Int} (h : R32 x) : (Int32.ofInt x).toInt = x := by
  obtain ⟨h1, h2⟩ := h
  rw [Int32.toInt_ofInt]
  exact Int.bmod_eq_of_le (by show -((4294967296 : Int) / 2) ≤ _; omega) (by show _ < ((4294967296 : Int) + 1) / 2; omega)
theorem q_asI (x : Int32) : Int32.ofInt x.toInt = x := by
  apply Int32.toInt_inj.mp
  rw [Int32.toInt_ofInt]
  have h1 := Int32.le_toInt x
  have h2 := Int32.toInt_lt x
  exact Int.bmod_eq_of_le (by show -((4294967296 : Int) / 2) ≤ _; omega) (by show _ < ((4294967296 : Int) + 1) / 2; omega)
theorem q_rng (x : Int32) : R32 x.toInt := ⟨by have := Int32.le_toInt x; omega, by have := Int32.toInt_lt x; omega⟩
theorem q_lt {x y : Int} (hx : R32 x) (hy : R32 y) : Int32.ofInt x < Int32.ofInt y ↔ x < y := by rw [Int32.lt_iff_toInt_lt, q_toI hx, q_toI hy]
theorem q_le {x y : Int} (hx : R32 x) (hy : R32 y) : Int32.ofInt x ≤ Int32.ofInt y ↔ x ≤ y := by rw [Int32.le_iff_toInt_le, q_toI hx, q_toI hy]
theorem q_eq {x y : Int} (hx : R32 x) (hy : R32 y) : Int32.ofInt x = Int32.ofInt y ↔ x = y := by rw [← Int32.toInt_inj, q_toI hx, q_toI hy]
theorem q_nI {x : Int} (h0 : 0 ≤ x) : Int32.ofInt x = nI x.toNat := by
  show _ = Int32.ofNat _
  rw [← Int32.ofInt_eq_ofNat]
  congr 1
  omega
theorem q_nat (n : Nat) : nI n = Int32.ofInt (n : Int) := by
  show Int32.ofNat _ = _
  rw [Int32.ofInt_eq_ofNat]
theorem q_in {i : Int} {n : Nat} (h0 : 0 ≤ i) (h1 : i < n) (hn : n < 2147483648) : vp_in (Int32.ofInt i) n := by
  rw [vp_in_iff, q_toI ⟨by omega, by omega⟩]
  exact ⟨h0, h1⟩
theorem q_cl {i : Int} (h0 : 0 ≤ i) (h1 : i < 2147483648) : (Int32.ofInt i).toNatClampNeg = i.toNat := by
  show (Int32.ofInt i).toInt.toNat = _
  rw [q_toI ⟨by omega, by omega⟩]

abbrev AV : Type := Int ⊕ (Nat ⊕ Int)
abbrev vi (z : Int) : AV := .inl z
abbrev vr (k : Nat) : AV := .inr (.inl k)
abbrev vl (z : Int) : AV := .inr (.inr z)
abbrev Hp : Type := Nat → Int → Int
def up (f : Int → Int) (i v : Int) : Int → Int := fun b => if b = i then v else f b
def hput (h : Hp) (k : Nat) (f : Int → Int) : Hp := fun a => if a = k then f else h a
theorem up_s {f : Int → Int} {i v : Int} : up f i v i = v := if_pos rfl
theorem up_n {f : Int → Int} {i v j : Int} (h : j ≠ i) : up f i v j = f j := if_neg h
theorem hput_s {h : Hp} {k : Nat} {f : Int → Int} : hput h k f k = f := if_pos rfl
theorem hput_n {h : Hp} {k a : Nat} {f : Int → Int} (n : a ≠ k) : hput h k f a = h a := if_neg n
def cv (ad : Nat → Nat) : AV → Value
  | .inl z => .int (Int32.ofInt z)
  | .inr (.inl k) => .ref (ad k)
  | .inr (.inr z) => .long (Int64.ofInt z)
/-- a slot: inl 0 an int, inl 1 a long, inl 2 a boolean; inr t a reference to place t. A cell: an array (its kind, its length), or an object (its class, its slots) -/
abbrev SK : Type := Nat ⊕ Nat
abbrev CS : Type := (Nat × Nat) ⊕ (Nat × List SK)
def cslot (ad : Nat → Nat) (f : Int → Int) (j : Nat) : SK → Value
  | .inr t => .ref (ad t)
  | .inl k => if k = 1 then .long (Int64.ofInt (f j)) else .int (Int32.ofInt (f j))
def cel (cA : Nat → ClassId) (ad : Nat → Nat) (f : Int → Int) : CS → va_E
  | .inl a => .inl (cA a.1, a.2, .inl (fun i => Int32.ofInt (f i)))
  | .inr o => .inr (o.1, o.2.mapIdx (fun j x => cslot ad f j x))
def wld (cA : Nat → ClassId) (ad : Nat → Nat) (sh : List CS) (h : Hp) : va_W := sh.mapIdx (fun k x => (ad k, cel cA ad (h k) x))
theorem wld_at {cA : Nat → ClassId} {ad : Nat → Nat} {sh : List CS} {h : Hp} {k : Nat} {x : CS} (hk : sh[k]? = some x) : (wld cA ad sh h)[k]? = some (ad k, cel cA ad (h k) x) := by
  unfold wld
  rw [List.getElem?_mapIdx, hk]
  rfl
theorem wld_inv {cA : Nat → ClassId} {ad : Nat → Nat} {sh : List CS} {h : Hp} {k : Nat} {q : Nat × va_E} (hk : (wld cA ad sh h)[k]? = some q) : ∃ x, sh[k]? = some x ∧ q = (ad k, cel cA ad (h k) x) := by
  unfold wld at hk
  rw [List.getElem?_mapIdx] at hk
  cases hx : sh[k]? with
  | none => rw [hx] at hk; cases hk
  | some x => rw [hx] at hk; exact ⟨x, rfl, (Option.some.inj hk).symm⟩
theorem wld_set {cA : Nat → ClassId} {ad : Nat → Nat} {sh : List CS} {h : Hp} {k : Nat} {x : CS} (hk : sh[k]? = some x) (f : Int → Int) : (wld cA ad sh h).set k (ad k, cel cA ad f x) = wld cA ad sh (hput h k f) := by
  apply List.ext_getElem?
  intro i
  rw [List.getElem?_set]
  by_cases e : k = i
  · subst e
    rw [wld_at (h := hput h k f) hk, hput_s]
    have hl : k < (wld cA ad sh h).length := by
      unfold wld
      rw [List.length_mapIdx]
      exact (List.getElem?_eq_some_iff.mp hk).1
    simp [hl]
  · rw [if_neg e]
    unfold wld
    rw [List.getElem?_mapIdx, List.getElem?_mapIdx, hput_n (fun q => e q.symm)]
theorem wld_D {cA : Nat → ClassId} {ad : Nat → Nat} {sh : List CS} {h h2 : Hp} {A : Nat → Prop} (hD : va_D A (wld cA ad sh h)) : va_D A (wld cA ad sh h2) := by
  refine ⟨fun i j p q hi hj e => ?_, fun k q hk => ?_⟩
  · obtain ⟨x, hx, rfl⟩ := wld_inv hi
    obtain ⟨y, hy, rfl⟩ := wld_inv hj
    exact hD.1 i j (ad i, cel cA ad (h i) x) (ad j, cel cA ad (h j) y) (wld_at hx) (wld_at hy) e
  · obtain ⟨x, hx, rfl⟩ := wld_inv hk
    exact hD.2 k (ad k, cel cA ad (h k) x) (wld_at hx)
theorem wld_A {cA : Nat → ClassId} {ad : Nat → Nat} {sh : List CS} {h : Hp} (h2 : Hp) {sz q : Nat} (hA : va_A (wld cA ad sh h) sz q) : va_A (wld cA ad sh h2) sz q := by
  rcases hA with ⟨k, e, hk⟩ | hA
  · obtain ⟨x, hx, he⟩ := wld_inv hk
    cases he
    exact Or.inl ⟨k, _, wld_at hx⟩
  · exact Or.inr hA
/-- a method: its name, bytes, locals, answer, room -/
abbrev MI : Type := MethodName × ByteArray × Nat × Option FieldType × Room
abbrev tyC (cA : Nat → ClassId) : List (ClassId × FieldType) := [(cA 0, .int), (cA 1, .boolean)]
def Cx (M : MI) (p : Program) (s : State) (m : MethodId) (args : Array Value) (meth : Method) (c : Code) (D : va_G) (cA : Nat → ClassId) : Prop :=
  p.tables.exec = Jvm.exec ∧ c.code = M.2.1 ∧ c.maxLocals = M.2.2.1 ∧ meth.sig.returnType = M.2.2.2.1 ∧ s.vm.findClass M.1.cls = some m.cls ∧ meth.locks = false ∧ (∀ w ∈ gw_tbl, w.before args s = true) ∧ va_K D vwCl (tyC cA) s
def Lk (ad : Nat → Nat) (n : Nat) (las : Array Slot) (ls : List (Option AV)) : Prop := las.size = n ∧ lv_wf las ∧ ls.length = n ∧ ∀ (i : Nat) (v : AV), ls[i]? = some (some v) → las[i]? = some (.val (cv ad v)) ∧ (cv ad v).category = 1
def QQ (cA : Nat → ClassId) (ad : Nat → Nat) (D : va_G) (sh : List CS) (post : Option AV → Hp → Prop) (A : Nat → Prop) : Array Value → State → Outcome → State → Prop := fun _ st0 o t => (∃ (v : Option AV) (h : Hp), o = .returned (v.map (cv ad)) ∧ post v h ∧ va_P D vwCl (wld cA ad sh h) t.heap) ∧ va_F A st0 t
def Ev (sh : List CS) (M : MI) (pc : Nat) (ls : List (Option AV)) (st : List AV) (h : Hp) (post : Option AV → Hp → Prop) : Prop :=
  ∀ (p : Program) (l : Launch) (e : Env) (s : State) (m : MethodId) (args : Array Value) (below : List Frame) (meth : Method) (c : Code) (D : va_G) (cA : Nat → ClassId) (ad : Nat → Nat) (A : Nat → Prop) (H : Heap) (locs : List Loc) (las : Array Slot),
    Cx M p s m args meth c D cA → va_P D vwCl (wld cA ad sh h) H → va_D A (wld cA ad sh h) → va_S A s.heap H locs → (∀ q, s.heap.size ≤ q → A q) → Lk ad M.2.2.1 las ls →
    W p l e M.2.2.2.2 s m args below meth c H locs 0 0 (MQ below (QQ cA ad D sh post A) args s 0 0 A) (F0 m pc las (st.map (cv ad)))
theorem Lk.list {ad : Nat → Nat} {n : Nat} {las : Array Slot} {ls : List (Option AV)} (h : Lk ad n las ls) : lv_has las n ((List.range n).filterMap (fun i => (ls[i]?.join).map (fun v => (i, cv ad v)))) := by
  refine ⟨h.1, h.2.1, fun q hq => ?_⟩
  obtain ⟨i, hi, he⟩ := List.mem_filterMap.mp hq
  cases hv : ls[i]? with
  | none => rw [hv] at he; cases he
  | some o =>
    cases o with
    | none => rw [hv] at he; cases he
    | some v =>
      rw [hv] at he
      have he := Option.some.inj he
      subst he
      exact (h.2.2.2 i v hv).1
theorem Lk.set {ad : Nat → Nat} {n : Nat} {las las' : Array Slot} {ls : List (Option AV)} {i : Nat} {v : AV} (h : Lk ad n las ls) (hc : (cv ad v).category = 1) (h' : lv_has las' n ((i, cv ad v) :: ((List.range n).filterMap (fun i => (ls[i]?.join).map (fun v => (i, cv ad v)))).filter (fun q => !(q.1 == i) && !(q.1 + 1 == i && q.2.category == 2)))) : Lk ad n las' (ls.set i (some v)) := by
  refine ⟨h'.1, h'.2.1, by rw [List.length_set]; exact h.2.2.1, fun j w hj => ?_⟩
  rw [List.getElem?_set] at hj
  by_cases e : i = j
  · subst e
    rw [if_pos rfl] at hj
    split at hj
    · cases hj
      exact ⟨h'.2.2 _ List.mem_cons_self, hc⟩
    · cases hj
  · rw [if_neg e] at hj
    have hw := h.2.2.2 j w hj
    refine ⟨h'.2.2 (j, cv ad w) (List.mem_cons_of_mem _ (List.mem_filter.mpr ⟨List.mem_filterMap.mpr ⟨j, ?_, by rw [hj]; rfl⟩, ?_⟩)), hw.2⟩
    · rw [List.mem_range, ← h.2.2.1]
      exact (List.getElem?_eq_some_iff.mp hj).1
    · have : (j == i) = false := by simp; omega
      simp [this, hw.2]
theorem Lk.lt {ad : Nat → Nat} {n : Nat} {las : Array Slot} {ls : List (Option AV)} {i : Nat} (h : Lk ad n las ls) (hi : i < ls.length) : i < n := by rw [← h.2.2.1]; exact hi
end
section
section EVR
variable {sh : List CS} {M : MI} {pc : Nat} {ls : List (Option AV)} {st : List AV} {h : Hp} {post : Option AV → Hp → Prop}
theorem ev_iconst (n : Nat) {v : Int} (hd : decode M.2.1 pc = .ok (.iconst v, 1)) (hn : pc + 1 = n) (k : Ev sh M n ls (vi v :: st) h post) : Ev sh M pc ls st h post := by
  subst hn
  intro p l e s m args below meth c D cA ad A H locs las C hP hD hS hA hl
  exact lv_iconst C.1 C.2.1 hd rfl (k p l e s m args below meth c D cA ad A H locs las C hP hD hS hA hl)
theorem ev_bipush (n : Nat) {v : Int} (hd : decode M.2.1 pc = .ok (.bipush v, 2)) (hn : pc + 2 = n) (hv : (Int8.ofInt v).toInt32 = Int32.ofInt v) (k : Ev sh M n ls (vi v :: st) h post) : Ev sh M pc ls st h post := by
  subst hn
  intro p l e s m args below meth c D cA ad A H locs las C hP hD hS hA hl
  exact lv_bipush C.1 C.2.1 hd hv (k p l e s m args below meth c D cA ad A H locs las C hP hD hS hA hl)
theorem ev_sipush (n : Nat) {v : Int} (hd : decode M.2.1 pc = .ok (.sipush v, 3)) (hn : pc + 3 = n) (hv : (Int16.ofInt v).toInt32 = Int32.ofInt v) (k : Ev sh M n ls (vi v :: st) h post) : Ev sh M pc ls st h post := by
  subst hn
  intro p l e s m args below meth c D cA ad A H locs las C hP hD hS hA hl
  exact lv_sipush C.1 C.2.1 hd hv (k p l e s m args below meth c D cA ad A H locs las C hP hD hS hA hl)
theorem ev_lconst (n : Nat) {f : Fin 2} (v : Int) (hd : decode M.2.1 pc = .ok (.lconst f, 1)) (hn : pc + 1 = n) (hv : Int64.ofNat (f : Nat) = Int64.ofInt v) (k : Ev sh M n ls (vl v :: st) h post) : Ev sh M pc ls st h post := by
  subst hn
  intro p l e s m args below meth c D cA ad A H locs las C hP hD hS hA hl
  exact lv_lconst C.1 C.2.1 hd hv (k p l e s m args below meth c D cA ad A H locs las C hP hD hS hA hl)
theorem ev_ldc (n : Nat) {i : Nat} (v : Int) {w : Int32} (hw : Cond.constant M.1.cls i w ∈ gw_tbl) (hv : w = Int32.ofInt v) (hd : decode M.2.1 pc = .ok (.ldc i, 2)) (hn : pc + 2 = n) (k : Ev sh M n ls (vi v :: st) h post) : Ev sh M pc ls st h post := by
  subst hn
  subst hv
  intro p l e s m args below meth c D cA ad A H locs las C hP hD hS hA hl
  exact lv_ldc C.1 C.2.1 C.2.2.2.2.1 (C.2.2.2.2.2.2.1 _ hw) hd (k p l e s m args below meth c D cA ad A H locs las C hP hD hS hA hl)
theorem ev_ldc2 (n : Nat) {i : Nat} (v : Int) {w : Int64} (hw : Cond.constantLong M.1.cls i w ∈ gw_tbl) (hv : w = Int64.ofInt v) (hd : decode M.2.1 pc = .ok (.ldc2_w i, 3)) (hn : pc + 3 = n) (k : Ev sh M n ls (vl v :: st) h post) : Ev sh M pc ls st h post := by
  subst hn
  subst hv
  intro p l e s m args below meth c D cA ad A H locs las C hP hD hS hA hl
  exact lv_ldc2 C.1 C.2.1 C.2.2.2.2.1 (C.2.2.2.2.2.2.1 _ hw) hd (k p l e s m args below meth c D cA ad A H locs las C hP hD hS hA hl)
theorem ev_iload_n (n : Nat) {f : Fin 4} {x : Int} (hd : decode M.2.1 pc = .ok (.iload_n f, 1)) (hn : pc + 1 = n) (hx : ls[(f : Nat)]? = some (some (vi x))) (k : Ev sh M n ls (vi x :: st) h post) : Ev sh M pc ls st h post := by
  subst hn
  intro p l e s m args below meth c D cA ad A H locs las C hP hD hS hA hl
  exact lv_iload_n C.1 C.2.1 hd rfl (hl.2.2.2 _ _ hx).1 (k p l e s m args below meth c D cA ad A H locs las C hP hD hS hA hl)
theorem ev_iload (n : Nat) {i : Nat} {x : Int} (hd : decode M.2.1 pc = .ok (.iload i, 2)) (hn : pc + 2 = n) (hx : ls[i]? = some (some (vi x))) (k : Ev sh M n ls (vi x :: st) h post) : Ev sh M pc ls st h post := by
  subst hn
  intro p l e s m args below meth c D cA ad A H locs las C hP hD hS hA hl
  exact lv_iload C.1 C.2.1 hd (hl.2.2.2 _ _ hx).1 (k p l e s m args below meth c D cA ad A H locs las C hP hD hS hA hl)
theorem ev_aload_n (n : Nat) {f : Fin 4} {x : Nat} (hd : decode M.2.1 pc = .ok (.aload_n f, 1)) (hn : pc + 1 = n) (hx : ls[(f : Nat)]? = some (some (vr x))) (k : Ev sh M n ls (vr x :: st) h post) : Ev sh M pc ls st h post := by
  subst hn
  intro p l e s m args below meth c D cA ad A H locs las C hP hD hS hA hl
  exact lv_aload_n C.1 C.2.1 hd rfl (hl.2.2.2 _ _ hx).1 (k p l e s m args below meth c D cA ad A H locs las C hP hD hS hA hl)
theorem ev_istore_n (n : Nat) {f : Fin 4} {x : Int} (hd : decode M.2.1 pc = .ok (.istore_n f, 1)) (hn : pc + 1 = n) (hi : (f : Nat) < ls.length) (k : Ev sh M n (ls.set (f : Nat) (some (vi x))) st h post) : Ev sh M pc ls (vi x :: st) h post := by
  subst hn
  intro p l e s m args below meth c D cA ad A H locs las C hP hD hS hA hl
  exact lv_istore_n C.1 C.2.1 hd rfl hl.list (hl.lt hi) rfl (fun las' h' => k p l e s m args below meth c D cA ad A H locs las' C hP hD hS hA (hl.set (v := vi x) rfl h'))
theorem ev_istore (n : Nat) {i : Nat} {x : Int} (hd : decode M.2.1 pc = .ok (.istore i, 2)) (hn : pc + 2 = n) (hi : i < ls.length) (k : Ev sh M n (ls.set i (some (vi x))) st h post) : Ev sh M pc ls (vi x :: st) h post := by
  subst hn
  intro p l e s m args below meth c D cA ad A H locs las C hP hD hS hA hl
  exact lv_istore C.1 C.2.1 hd hl.list (hl.lt hi) rfl (fun las' h' => k p l e s m args below meth c D cA ad A H locs las' C hP hD hS hA (hl.set (v := vi x) rfl h'))
theorem ev_astore_n (n : Nat) {f : Fin 4} {x : Nat} (hd : decode M.2.1 pc = .ok (.astore_n f, 1)) (hn : pc + 1 = n) (hi : (f : Nat) < ls.length) (k : Ev sh M n (ls.set (f : Nat) (some (vr x))) st h post) : Ev sh M pc ls (vr x :: st) h post := by
  subst hn
  intro p l e s m args below meth c D cA ad A H locs las C hP hD hS hA hl
  exact lv_astore_n C.1 C.2.1 hd rfl hl.list (hl.lt hi) rfl (fun las' h' => k p l e s m args below meth c D cA ad A H locs las' C hP hD hS hA (hl.set (v := vr x) rfl h'))
theorem ev_iinc (n : Nat) {i : Nat} {d x : Int} (hd : decode M.2.1 pc = .ok (.iinc i d, 3)) (hn : pc + 3 = n) (hx : ls[i]? = some (some (vi x))) (k : Ev sh M n (ls.set i (some (vi (x + d)))) st h post) : Ev sh M pc ls st h post := by
  subst hn
  intro p l e s m args below meth c D cA ad A H locs las C hP hD hS hA hl
  have hi : i < ls.length := (List.getElem?_eq_some_iff.mp hx).1
  have hm : (i, cv ad (vi x)) ∈ (List.range M.2.2.1).filterMap (fun i => (ls[i]?.join).map (fun v => (i, cv ad v))) := List.mem_filterMap.mpr ⟨i, List.mem_range.mpr (hl.lt hi), by rw [hx]; rfl⟩
  obtain ⟨j, hj⟩ := List.getElem?_of_mem hm
  exact lv_iinc C.1 C.2.1 hd hl.list hj (Int32.ofInt_add x d).symm (hl.lt hi) rfl (fun las' h' => k p l e s m args below meth c D cA ad A H locs las' C hP hD hS hA (hl.set (v := vi (x + d)) rfl h'))
theorem ev_iadd (n : Nat) {x y : Int} (hd : decode M.2.1 pc = .ok (.iadd, 1)) (hn : pc + 1 = n) (k : Ev sh M n ls (vi (x + y) :: st) h post) : Ev sh M pc ls (vi y :: vi x :: st) h post := by
  subst hn
  intro p l e s m args below meth c D cA ad A H locs las C hP hD hS hA hl
  refine lv_iadd C.1 C.2.1 hd ?_
  rw [← Int32.ofInt_add]
  exact k p l e s m args below meth c D cA ad A H locs las C hP hD hS hA hl
theorem ev_isub (n : Nat) {x y : Int} (hd : decode M.2.1 pc = .ok (.isub, 1)) (hn : pc + 1 = n) (k : Ev sh M n ls (vi (x - y) :: st) h post) : Ev sh M pc ls (vi y :: vi x :: st) h post := by
  subst hn
  intro p l e s m args below meth c D cA ad A H locs las C hP hD hS hA hl
  refine lv_isub C.1 C.2.1 hd ?_
  rw [← Int32.ofInt_sub]
  exact k p l e s m args below meth c D cA ad A H locs las C hP hD hS hA hl
theorem ev_imul (n : Nat) {x y : Int} (hd : decode M.2.1 pc = .ok (.imul, 1)) (hn : pc + 1 = n) (k : Ev sh M n ls (vi (x * y) :: st) h post) : Ev sh M pc ls (vi y :: vi x :: st) h post := by
  subst hn
  intro p l e s m args below meth c D cA ad A H locs las C hP hD hS hA hl
  refine lv_imul C.1 C.2.1 hd ?_
  rw [← Int32.ofInt_mul]
  exact k p l e s m args below meth c D cA ad A H locs las C hP hD hS hA hl
theorem ev_ladd (n : Nat) {x y : Int} (hd : decode M.2.1 pc = .ok (.ladd, 1)) (hn : pc + 1 = n) (k : Ev sh M n ls (vl (x + y) :: st) h post) : Ev sh M pc ls (vl y :: vl x :: st) h post := by
  subst hn
  intro p l e s m args below meth c D cA ad A H locs las C hP hD hS hA hl
  refine lv_ladd C.1 C.2.1 hd ?_
  rw [← Int64.ofInt_add]
  exact k p l e s m args below meth c D cA ad A H locs las C hP hD hS hA hl
theorem q_n0 {y : Int} (hy : 0 < y) (hy2 : y < 2147483648) : ¬ Int32.ofInt y = 0 := by
  intro q
  have := (q_eq (x := y) (y := 0) ⟨by omega, by omega⟩ ⟨by omega, by omega⟩).mp q
  omega
theorem q_div {x y : Int} (hx : 0 ≤ x) (hx2 : x < 2147483648) (hy : 0 < y) (hy2 : y < 2147483648) : Int32.ofInt x / Int32.ofInt y = Int32.ofInt (x / y) := by
  rw [q_nI hx, q_nI (by omega : 0 ≤ y), pk_div (by omega) (by omega) (by omega), q_nat]
  congr 1
  rw [Int.natCast_ediv, Int.toNat_of_nonneg hx, Int.toNat_of_nonneg (by omega)]
theorem q_rem {x y : Int} (hx : 0 ≤ x) (hx2 : x < 2147483648) (hy : 0 < y) (hy2 : y < 2147483648) : Int32.ofInt x - Int32.ofInt x / Int32.ofInt y * Int32.ofInt y = Int32.ofInt (x % y) := by
  rw [q_nI hx, q_nI (by omega : 0 ≤ y), pk_rem (by omega) (by omega) (by omega), q_nat]
  congr 1
  rw [Int.natCast_emod, Int.toNat_of_nonneg hx, Int.toNat_of_nonneg (by omega)]
theorem ev_idiv (n : Nat) {x y : Int} (hd : decode M.2.1 pc = .ok (.idiv, 1)) (hn : pc + 1 = n) (hx : 0 ≤ x ∧ x < 2147483648) (hy : 0 < y ∧ y < 2147483648) (k : Ev sh M n ls (vi (x / y) :: st) h post) : Ev sh M pc ls (vi y :: vi x :: st) h post := by
  subst hn
  intro p l e s m args below meth c D cA ad A H locs las C hP hD hS hA hl
  refine lv_idiv C.1 C.2.1 hd (q_n0 hy.1 hy.2) ?_
  rw [q_div hx.1 hx.2 hy.1 hy.2]
  exact k p l e s m args below meth c D cA ad A H locs las C hP hD hS hA hl
theorem ev_irem (n : Nat) {x y : Int} (hd : decode M.2.1 pc = .ok (.irem, 1)) (hn : pc + 1 = n) (hx : 0 ≤ x ∧ x < 2147483648) (hy : 0 < y ∧ y < 2147483648) (k : Ev sh M n ls (vi (x % y) :: st) h post) : Ev sh M pc ls (vi y :: vi x :: st) h post := by
  subst hn
  intro p l e s m args below meth c D cA ad A H locs las C hP hD hS hA hl
  refine lv_irem C.1 C.2.1 hd (q_n0 hy.1 hy.2) ?_
  rw [q_rem hx.1 hx.2 hy.1 hy.2]
  exact k p l e s m args below meth c D cA ad A H locs las C hP hD hS hA hl
theorem q_sm : ∀ k : Fin 32, ((nI k.val &&& 31).toBitVec.smod 32).toNat = k.val := by decide +kernel
theorem q_shl {x y : Int} (hx : 0 ≤ x) (hy : 0 ≤ y) (hy2 : y < 32) (hz : x * 2 ^ y.toNat < 4294967296) : Int32.ofInt x <<< (Int32.ofInt y &&& 31) = Int32.ofInt (x * 2 ^ y.toNat) := by
  have hz2 : x.toNat * 2 ^ y.toNat < 2 ^ 32 := by
    have : ((x.toNat * 2 ^ y.toNat : Nat) : Int) < 4294967296 := by
      rw [Int.natCast_mul, Int.toNat_of_nonneg hx, Int.natCast_pow]; exact hz
    omega
  rw [q_nI hx, q_nI hy, pk_shlN _ y.toNat (q_sm ⟨y.toNat, by omega⟩) hz2, q_nat]
  congr 1
  rw [Int.natCast_mul, Int.toNat_of_nonneg hx, Int.natCast_pow]
  rfl
theorem q_shr {x y : Int} (hx : 0 ≤ x) (hx2 : x < 2147483648) (hy : 0 ≤ y) (hy2 : y < 32) : Int32.ofInt x >>> (Int32.ofInt y &&& 31) = Int32.ofInt (x / 2 ^ y.toNat) := by
  rw [q_nI hx, q_nI hy, pk_shrN (by omega) _ y.toNat (q_sm ⟨y.toNat, by omega⟩), q_nat]
  congr 1
  rw [Int.natCast_ediv, Int.toNat_of_nonneg hx, Int.natCast_pow]
  rfl
theorem ev_ishl (n : Nat) {x y : Int} (hd : decode M.2.1 pc = .ok (.ishl, 1)) (hn : pc + 1 = n) (hx : 0 ≤ x) (hy : 0 ≤ y ∧ y < 32) (hz : x * 2 ^ y.toNat < 4294967296) (k : Ev sh M n ls (vi (x * 2 ^ y.toNat) :: st) h post) : Ev sh M pc ls (vi y :: vi x :: st) h post := by
  subst hn
  intro p l e s m args below meth c D cA ad A H locs las C hP hD hS hA hl
  refine lv_ishl C.1 C.2.1 hd ?_
  rw [q_shl hx hy.1 hy.2 hz]
  exact k p l e s m args below meth c D cA ad A H locs las C hP hD hS hA hl
theorem ev_ishr (n : Nat) {x y : Int} (hd : decode M.2.1 pc = .ok (.ishr, 1)) (hn : pc + 1 = n) (hx : 0 ≤ x ∧ x < 2147483648) (hy : 0 ≤ y ∧ y < 32) (k : Ev sh M n ls (vi (x / 2 ^ y.toNat) :: st) h post) : Ev sh M pc ls (vi y :: vi x :: st) h post := by
  subst hn
  intro p l e s m args below meth c D cA ad A H locs las C hP hD hS hA hl
  refine lv_ishr C.1 C.2.1 hd ?_
  rw [q_shr hx.1 hx.2 hy.1 hy.2]
  exact k p l e s m args below meth c D cA ad A H locs las C hP hD hS hA hl
theorem q_bv (a : Nat) : (nI a).toBitVec = BitVec.ofNat 32 a := by first | rfl | (show (Int32.ofNat a).toBitVec = _; simp [Int32.toBitVec_ofNat'])
theorem q_and (a b : Nat) : nI a &&& nI b = nI (a &&& b) := Int32.toBitVec_inj.mp (by rw [Int32.toBitVec_and, q_bv, q_bv, q_bv, BitVec.ofNat_and])
theorem q_or (a b : Nat) : nI a ||| nI b = nI (a ||| b) := Int32.toBitVec_inj.mp (by rw [Int32.toBitVec_or, q_bv, q_bv, q_bv, BitVec.ofNat_or])
theorem q_xor (a b : Nat) : nI a ^^^ nI b = nI (a ^^^ b) := Int32.toBitVec_inj.mp (by rw [Int32.toBitVec_xor, q_bv, q_bv, q_bv, BitVec.ofNat_xor])
theorem ev_iand (n : Nat) {x y : Int} (hd : decode M.2.1 pc = .ok (.iand, 1)) (hn : pc + 1 = n) (hx : 0 ≤ x) (hy : 0 ≤ y) (k : Ev sh M n ls (vi ((x.toNat &&& y.toNat : Nat) : Int) :: st) h post) : Ev sh M pc ls (vi y :: vi x :: st) h post := by
  subst hn
  intro p l e s m args below meth c D cA ad A H locs las C hP hD hS hA hl
  refine lv_iand C.1 C.2.1 hd ?_
  rw [q_nI hx, q_nI hy, q_and, q_nat]
  exact k p l e s m args below meth c D cA ad A H locs las C hP hD hS hA hl
theorem ev_ior (n : Nat) {x y : Int} (hd : decode M.2.1 pc = .ok (.ior, 1)) (hn : pc + 1 = n) (hx : 0 ≤ x) (hy : 0 ≤ y) (k : Ev sh M n ls (vi ((x.toNat ||| y.toNat : Nat) : Int) :: st) h post) : Ev sh M pc ls (vi y :: vi x :: st) h post := by
  subst hn
  intro p l e s m args below meth c D cA ad A H locs las C hP hD hS hA hl
  refine lv_ior C.1 C.2.1 hd ?_
  rw [q_nI hx, q_nI hy, q_or, q_nat]
  exact k p l e s m args below meth c D cA ad A H locs las C hP hD hS hA hl
theorem ev_ixor (n : Nat) {x y : Int} (hd : decode M.2.1 pc = .ok (.ixor, 1)) (hn : pc + 1 = n) (hx : 0 ≤ x) (hy : 0 ≤ y) (k : Ev sh M n ls (vi ((x.toNat ^^^ y.toNat : Nat) : Int) :: st) h post) : Ev sh M pc ls (vi y :: vi x :: st) h post := by
  subst hn
  intro p l e s m args below meth c D cA ad A H locs las C hP hD hS hA hl
  refine lv_ixor C.1 C.2.1 hd ?_
  rw [q_nI hx, q_nI hy, q_xor, q_nat]
  exact k p l e s m args below meth c D cA ad A H locs las C hP hD hS hA hl
theorem ev_dup_i (n : Nat) {x : Int} (hd : decode M.2.1 pc = .ok (.dup, 1)) (hn : pc + 1 = n) (k : Ev sh M n ls (vi x :: vi x :: st) h post) : Ev sh M pc ls (vi x :: st) h post := by
  subst hn
  intro p l e s m args below meth c D cA ad A H locs las C hP hD hS hA hl
  exact lv_dup C.1 C.2.1 hd rfl (k p l e s m args below meth c D cA ad A H locs las C hP hD hS hA hl)
theorem ev_dup_r (n : Nat) {x : Nat} (hd : decode M.2.1 pc = .ok (.dup, 1)) (hn : pc + 1 = n) (k : Ev sh M n ls (vr x :: vr x :: st) h post) : Ev sh M pc ls (vr x :: st) h post := by
  subst hn
  intro p l e s m args below meth c D cA ad A H locs las C hP hD hS hA hl
  exact lv_dup C.1 C.2.1 hd rfl (k p l e s m args below meth c D cA ad A H locs las C hP hD hS hA hl)
theorem ev_dup2 (n : Nat) {x : Int} {y : Nat} (hd : decode M.2.1 pc = .ok (.dup2, 1)) (hn : pc + 1 = n) (k : Ev sh M n ls (vi x :: vr y :: vi x :: vr y :: st) h post) : Ev sh M pc ls (vi x :: vr y :: st) h post := by
  subst hn
  intro p l e s m args below meth c D cA ad A H locs las C hP hD hS hA hl
  exact lv_dup2_11 C.1 C.2.1 hd rfl rfl (k p l e s m args below meth c D cA ad A H locs las C hP hD hS hA hl)
theorem ev_goto (n : Nat) {off : Int} (hd : decode M.2.1 pc = .ok (.goto off, 3)) (hn : (pc : Int) + off = (n : Int)) (k : Ev sh M n ls st h post) : Ev sh M pc ls st h post := by
  intro p l e s m args below meth c D cA ad A H locs las C hP hD hS hA hl
  exact lv_goto C.1 C.2.1 hd hn (k p l e s m args below meth c D cA ad A H locs las C hP hD hS hA hl)
theorem q_z : (0 : Int32) = Int32.ofInt 0 := by decide +kernel
theorem ev_icmp_eq (n t : Nat) {x y : Int} {off : Int} (hd : decode M.2.1 pc = .ok (.if_icmp .eq off, 3)) (hn : pc + 3 = n) (ht : (pc : Int) + off = (t : Int)) (hx : R32 x) (hy : R32 y) (kt : x = y → Ev sh M t ls st h post) (kf : ¬ x = y → Ev sh M n ls st h post) : Ev sh M pc ls (vi y :: vi x :: st) h post := by
  subst hn
  intro p l e s m args below meth c D cA ad A H locs las C hP hD hS hA hl
  exact lv_icmp_eq C.1 C.2.1 hd ht (fun q => kt (by exact ((q_eq hx hy).mp q)) p l e s m args below meth c D cA ad A H locs las C hP hD hS hA hl) (fun q => kf (by exact (fun w => q ((q_eq hx hy).mpr w))) p l e s m args below meth c D cA ad A H locs las C hP hD hS hA hl)
theorem ev_if_eq (n t : Nat) {x : Int} {off : Int} (hd : decode M.2.1 pc = .ok (.ifCond .eq off, 3)) (hn : pc + 3 = n) (ht : (pc : Int) + off = (t : Int)) (hx : R32 x) (kt : x = 0 → Ev sh M t ls st h post) (kf : ¬ x = 0 → Ev sh M n ls st h post) : Ev sh M pc ls (vi x :: st) h post := by
  subst hn
  have hy : R32 0 := ⟨by decide, by decide⟩
  intro p l e s m args below meth c D cA ad A H locs las C hP hD hS hA hl
  exact lv_if_eq C.1 C.2.1 hd ht (fun q => kt (by rw [q_z] at q; exact ((q_eq hx hy).mp q)) p l e s m args below meth c D cA ad A H locs las C hP hD hS hA hl) (fun q => kf (by rw [q_z] at q; exact (fun w => q ((q_eq hx hy).mpr w))) p l e s m args below meth c D cA ad A H locs las C hP hD hS hA hl)
theorem ev_icmp_ne (n t : Nat) {x y : Int} {off : Int} (hd : decode M.2.1 pc = .ok (.if_icmp .ne off, 3)) (hn : pc + 3 = n) (ht : (pc : Int) + off = (t : Int)) (hx : R32 x) (hy : R32 y) (kt : ¬ x = y → Ev sh M t ls st h post) (kf : x = y → Ev sh M n ls st h post) : Ev sh M pc ls (vi y :: vi x :: st) h post := by
  subst hn
  intro p l e s m args below meth c D cA ad A H locs las C hP hD hS hA hl
  exact lv_icmp_ne C.1 C.2.1 hd ht (fun q => kt (by exact (fun w => q ((q_eq hx hy).mpr w))) p l e s m args below meth c D cA ad A H locs las C hP hD hS hA hl) (fun q => kf (by exact ((q_eq hx hy).mp q)) p l e s m args below meth c D cA ad A H locs las C hP hD hS hA hl)
theorem ev_if_ne (n t : Nat) {x : Int} {off : Int} (hd : decode M.2.1 pc = .ok (.ifCond .ne off, 3)) (hn : pc + 3 = n) (ht : (pc : Int) + off = (t : Int)) (hx : R32 x) (kt : ¬ x = 0 → Ev sh M t ls st h post) (kf : x = 0 → Ev sh M n ls st h post) : Ev sh M pc ls (vi x :: st) h post := by
  subst hn
  have hy : R32 0 := ⟨by decide, by decide⟩
  intro p l e s m args below meth c D cA ad A H locs las C hP hD hS hA hl
  exact lv_if_ne C.1 C.2.1 hd ht (fun q => kt (by rw [q_z] at q; exact (fun w => q ((q_eq hx hy).mpr w))) p l e s m args below meth c D cA ad A H locs las C hP hD hS hA hl) (fun q => kf (by rw [q_z] at q; exact ((q_eq hx hy).mp q)) p l e s m args below meth c D cA ad A H locs las C hP hD hS hA hl)
theorem ev_icmp_lt (n t : Nat) {x y : Int} {off : Int} (hd : decode M.2.1 pc = .ok (.if_icmp .lt off, 3)) (hn : pc + 3 = n) (ht : (pc : Int) + off = (t : Int)) (hx : R32 x) (hy : R32 y) (kt : x < y → Ev sh M t ls st h post) (kf : ¬ x < y → Ev sh M n ls st h post) : Ev sh M pc ls (vi y :: vi x :: st) h post := by
  subst hn
  intro p l e s m args below meth c D cA ad A H locs las C hP hD hS hA hl
  exact lv_icmp_lt C.1 C.2.1 hd ht (fun q => kt (by exact ((q_lt hx hy).mp q)) p l e s m args below meth c D cA ad A H locs las C hP hD hS hA hl) (fun q => kf (by exact (fun w => q ((q_lt hx hy).mpr w))) p l e s m args below meth c D cA ad A H locs las C hP hD hS hA hl)
theorem ev_if_lt (n t : Nat) {x : Int} {off : Int} (hd : decode M.2.1 pc = .ok (.ifCond .lt off, 3)) (hn : pc + 3 = n) (ht : (pc : Int) + off = (t : Int)) (hx : R32 x) (kt : x < 0 → Ev sh M t ls st h post) (kf : ¬ x < 0 → Ev sh M n ls st h post) : Ev sh M pc ls (vi x :: st) h post := by
  subst hn
  have hy : R32 0 := ⟨by decide, by decide⟩
  intro p l e s m args below meth c D cA ad A H locs las C hP hD hS hA hl
  exact lv_if_lt C.1 C.2.1 hd ht (fun q => kt (by rw [q_z] at q; exact ((q_lt hx hy).mp q)) p l e s m args below meth c D cA ad A H locs las C hP hD hS hA hl) (fun q => kf (by rw [q_z] at q; exact (fun w => q ((q_lt hx hy).mpr w))) p l e s m args below meth c D cA ad A H locs las C hP hD hS hA hl)
theorem ev_icmp_ge (n t : Nat) {x y : Int} {off : Int} (hd : decode M.2.1 pc = .ok (.if_icmp .ge off, 3)) (hn : pc + 3 = n) (ht : (pc : Int) + off = (t : Int)) (hx : R32 x) (hy : R32 y) (kt : y ≤ x → Ev sh M t ls st h post) (kf : ¬ y ≤ x → Ev sh M n ls st h post) : Ev sh M pc ls (vi y :: vi x :: st) h post := by
  subst hn
  intro p l e s m args below meth c D cA ad A H locs las C hP hD hS hA hl
  exact lv_icmp_ge C.1 C.2.1 hd ht (fun q => kt (by exact ((q_le hy hx).mp q)) p l e s m args below meth c D cA ad A H locs las C hP hD hS hA hl) (fun q => kf (by exact (fun w => q ((q_le hy hx).mpr w))) p l e s m args below meth c D cA ad A H locs las C hP hD hS hA hl)
theorem ev_if_ge (n t : Nat) {x : Int} {off : Int} (hd : decode M.2.1 pc = .ok (.ifCond .ge off, 3)) (hn : pc + 3 = n) (ht : (pc : Int) + off = (t : Int)) (hx : R32 x) (kt : 0 ≤ x → Ev sh M t ls st h post) (kf : ¬ 0 ≤ x → Ev sh M n ls st h post) : Ev sh M pc ls (vi x :: st) h post := by
  subst hn
  have hy : R32 0 := ⟨by decide, by decide⟩
  intro p l e s m args below meth c D cA ad A H locs las C hP hD hS hA hl
  exact lv_if_ge C.1 C.2.1 hd ht (fun q => kt (by rw [q_z] at q; exact ((q_le hy hx).mp q)) p l e s m args below meth c D cA ad A H locs las C hP hD hS hA hl) (fun q => kf (by rw [q_z] at q; exact (fun w => q ((q_le hy hx).mpr w))) p l e s m args below meth c D cA ad A H locs las C hP hD hS hA hl)
theorem ev_icmp_gt (n t : Nat) {x y : Int} {off : Int} (hd : decode M.2.1 pc = .ok (.if_icmp .gt off, 3)) (hn : pc + 3 = n) (ht : (pc : Int) + off = (t : Int)) (hx : R32 x) (hy : R32 y) (kt : y < x → Ev sh M t ls st h post) (kf : ¬ y < x → Ev sh M n ls st h post) : Ev sh M pc ls (vi y :: vi x :: st) h post := by
  subst hn
  intro p l e s m args below meth c D cA ad A H locs las C hP hD hS hA hl
  exact lv_icmp_gt C.1 C.2.1 hd ht (fun q => kt (by exact ((q_lt hy hx).mp q)) p l e s m args below meth c D cA ad A H locs las C hP hD hS hA hl) (fun q => kf (by exact (fun w => q ((q_lt hy hx).mpr w))) p l e s m args below meth c D cA ad A H locs las C hP hD hS hA hl)
theorem ev_if_gt (n t : Nat) {x : Int} {off : Int} (hd : decode M.2.1 pc = .ok (.ifCond .gt off, 3)) (hn : pc + 3 = n) (ht : (pc : Int) + off = (t : Int)) (hx : R32 x) (kt : 0 < x → Ev sh M t ls st h post) (kf : ¬ 0 < x → Ev sh M n ls st h post) : Ev sh M pc ls (vi x :: st) h post := by
  subst hn
  have hy : R32 0 := ⟨by decide, by decide⟩
  intro p l e s m args below meth c D cA ad A H locs las C hP hD hS hA hl
  exact lv_if_gt C.1 C.2.1 hd ht (fun q => kt (by rw [q_z] at q; exact ((q_lt hy hx).mp q)) p l e s m args below meth c D cA ad A H locs las C hP hD hS hA hl) (fun q => kf (by rw [q_z] at q; exact (fun w => q ((q_lt hy hx).mpr w))) p l e s m args below meth c D cA ad A H locs las C hP hD hS hA hl)
theorem ev_icmp_le (n t : Nat) {x y : Int} {off : Int} (hd : decode M.2.1 pc = .ok (.if_icmp .le off, 3)) (hn : pc + 3 = n) (ht : (pc : Int) + off = (t : Int)) (hx : R32 x) (hy : R32 y) (kt : x ≤ y → Ev sh M t ls st h post) (kf : ¬ x ≤ y → Ev sh M n ls st h post) : Ev sh M pc ls (vi y :: vi x :: st) h post := by
  subst hn
  intro p l e s m args below meth c D cA ad A H locs las C hP hD hS hA hl
  exact lv_icmp_le C.1 C.2.1 hd ht (fun q => kt (by exact ((q_le hx hy).mp q)) p l e s m args below meth c D cA ad A H locs las C hP hD hS hA hl) (fun q => kf (by exact (fun w => q ((q_le hx hy).mpr w))) p l e s m args below meth c D cA ad A H locs las C hP hD hS hA hl)
theorem ev_if_le (n t : Nat) {x : Int} {off : Int} (hd : decode M.2.1 pc = .ok (.ifCond .le off, 3)) (hn : pc + 3 = n) (ht : (pc : Int) + off = (t : Int)) (hx : R32 x) (kt : x ≤ 0 → Ev sh M t ls st h post) (kf : ¬ x ≤ 0 → Ev sh M n ls st h post) : Ev sh M pc ls (vi x :: st) h post := by
  subst hn
  have hy : R32 0 := ⟨by decide, by decide⟩
  intro p l e s m args below meth c D cA ad A H locs las C hP hD hS hA hl
  exact lv_if_le C.1 C.2.1 hd ht (fun q => kt (by rw [q_z] at q; exact ((q_le hx hy).mp q)) p l e s m args below meth c D cA ad A H locs las C hP hD hS hA hl) (fun q => kf (by rw [q_z] at q; exact (fun w => q ((q_le hx hy).mpr w))) p l e s m args below meth c D cA ad A H locs las C hP hD hS hA hl)
theorem ev_tswIn (t : Nat) {x d lo hi off : Int} {offs : Array Int} {len : Nat} (hd : decode M.2.1 pc = .ok (.tableswitch d lo hi offs, len)) (hx : R32 x) (h1 : ¬ x < lo) (h2 : ¬ hi < x) (ho : offs[(x - lo).toNat]? = some off) (ht : (pc : Int) + off = (t : Int)) (k : Ev sh M t ls st h post) : Ev sh M pc ls (vi x :: st) h post := by
  intro p l e s m args below meth c D cA ad A H locs las C hP hD hS hA hl
  exact lv_tableIn C.1 C.2.1 hd (by rw [q_toI hx]; exact h1) (by rw [q_toI hx]; exact h2) (by rw [q_toI hx]; exact ho) ht (k p l e s m args below meth c D cA ad A H locs las C hP hD hS hA hl)
theorem ev_tswOut (t : Nat) {x d lo hi : Int} {offs : Array Int} {len : Nat} (hd : decode M.2.1 pc = .ok (.tableswitch d lo hi offs, len)) (hx : R32 x) (h1 : x < lo ∨ hi < x) (ht : (pc : Int) + d = (t : Int)) (k : Ev sh M t ls st h post) : Ev sh M pc ls (vi x :: st) h post := by
  intro p l e s m args below meth c D cA ad A H locs las C hP hD hS hA hl
  exact lv_tableOut C.1 C.2.1 hd (by rw [q_toI hx]; exact h1) ht (k p l e s m args below meth c D cA ad A H locs las C hP hD hS hA hl)
theorem ev_lsw (t : Nat) {x d off : Int} {ps : Array (Int × Int)} {len : Nat} (hd : decode M.2.1 pc = .ok (.lookupswitch d ps, len)) (hx : R32 x) (hp : (ps.toList.zip (ps.toList.drop 1)).all (fun (a, next) => a.1 < next.1) = true) (ho : Op.lookupswitch.offset ps.toList d x = off) (ht : (pc : Int) + off = (t : Int)) (k : Ev sh M t ls st h post) : Ev sh M pc ls (vi x :: st) h post := by
  intro p l e s m args below meth c D cA ad A H locs las C hP hD hS hA hl
  exact lv_lookup C.1 C.2.1 hd hp (by rw [q_toI hx]; exact ho) ht (k p l e s m args below meth c D cA ad A H locs las C hP hD hS hA hl)
theorem ev_ireturn {x : Int} (hr : M.2.2.2.1 = some .int) (hd : decode M.2.1 pc = .ok (.ireturn, 1)) (hp : post (some (vi x)) h) : Ev sh M pc ls [vi x] h post := by
  intro p l e s m args below meth c D cA ad A H locs las C hP hD hS hA hl
  have hlk := C.2.2.2.2.2.1
  exact W.iret C.1 C.2.1 (C.2.2.2.1.trans hr) (fun t ht hW => ⟨⟨some (vi x), h, rfl, hp, by rw [ht]; exact hP⟩, hS.F ht⟩) hS.2.2 hd
theorem ev_zreturn {x : Int} (hr : M.2.2.2.1 = some .boolean) (hd : decode M.2.1 pc = .ok (.ireturn, 1)) (hx : x = 0 ∨ x = 1) (hp : post (some (vi x)) h) : Ev sh M pc ls [vi x] h post := by
  intro p l e s m args below meth c D cA ad A H locs las C hP hD hS hA hl
  have hlk := C.2.2.2.2.2.1
  exact W.zret C.1 C.2.1 (C.2.2.2.1.trans hr) (by rcases hx with rfl | rfl <;> decide +kernel) (fun t ht hW => ⟨⟨some (vi x), h, rfl, hp, by rw [ht]; exact hP⟩, hS.F ht⟩) hS.2.2 hd
theorem ev_lreturn {x : Int} (hr : M.2.2.2.1 = some .long) (hd : decode M.2.1 pc = .ok (.lreturn, 1)) (hp : post (some (vl x)) h) : Ev sh M pc ls [vl x] h post := by
  intro p l e s m args below meth c D cA ad A H locs las C hP hD hS hA hl
  have hlk := C.2.2.2.2.2.1
  exact W.lret C.1 C.2.1 (C.2.2.2.1.trans hr) (fun t ht hW => ⟨⟨some (vl x), h, rfl, hp, by rw [ht]; exact hP⟩, hS.F ht⟩) hS.2.2 hd
theorem ev_areturn {x : Nat} {N : String} (hr : M.2.2.2.1 = some (.object N)) (hd : decode M.2.1 pc = .ok (.areturn, 1)) (hp : post (some (vr x)) h) : Ev sh M pc ls [vr x] h post := by
  intro p l e s m args below meth c D cA ad A H locs las C hP hD hS hA hl
  have hlk := C.2.2.2.2.2.1
  exact W.aret C.1 C.2.1 (C.2.2.2.1.trans hr) (Or.inl ⟨N, rfl⟩) (Or.inr ⟨_, rfl⟩) (fun t ht hW => ⟨⟨some (vr x), h, rfl, hp, by rw [ht]; exact hP⟩, hS.F ht⟩) hS.2.2 hd
theorem ev_return (hr : M.2.2.2.1 = none) (hd : decode M.2.1 pc = .ok (.return_, 1)) (hp : post none h) : Ev sh M pc ls [] h post := by
  intro p l e s m args below meth c D cA ad A H locs las C hP hD hS hA hl
  have hlk := C.2.2.2.2.2.1
  exact W.vret C.1 C.2.1 (C.2.2.2.1.trans hr) (fun t ht hW => ⟨⟨none, h, rfl, hp, by rw [ht]; exact hP⟩, hS.F ht⟩) hS.2.2 hd
/-- a field's link: class own's entry i names slot j of class ci -/
def FL (own : String) (i ci j : Nat) : Prop := ∃ (C : String) (T : u_T) (N : Nat) (ty : Nat → FieldType), vwCl[ci]? = some (C, T, N) ∧ j < N ∧ (∀ w ∈ u_ws C T N, w ∈ gw_tbl) ∧ (Cond.fieldLink own i (T j).1 (T j).2.1 (T j).2.2.1) ∈ gw_tbl ∧ (∀ k, k < N → parseFieldDescriptor (T k).2.2.1 = some (ty k)) ∧ (∀ a, a < N → ∀ b, b < N → a ≠ b → (T a).2.1 ≠ (T b).2.1)
/-- and it may be written: its type -/
def FP (own : String) (i ci j : Nat) (t : FieldType) : Prop := ∃ (C : String) (T : u_T) (N : Nat) (ty : Nat → FieldType), vwCl[ci]? = some (C, T, N) ∧ j < N ∧ (∀ w ∈ u_ws C T N, w ∈ gw_tbl) ∧ (Cond.fieldLink own i (T j).1 (T j).2.1 (T j).2.2.1) ∈ gw_tbl ∧ (∀ k, k < N → parseFieldDescriptor (T k).2.2.1 = some (ty k)) ∧ (∀ a, a < N → ∀ b, b < N → a ≠ b → (T a).2.1 ≠ (T b).2.1) ∧ (T j).2.2.2 = false ∧ parseFieldDescriptor (T j).2.2.1 = some t
theorem ev_get {own : String} (n : Nat) {i ci j q : Nat} {sl : List SK} {x : SK} (hL : FL own i ci j) (ho : own = M.1.cls) (hd : decode M.2.1 pc = .ok (.getfield i, 3)) (hn : pc + 3 = n) (hq : sh[q]? = some (.inr (ci, sl))) (hx : sl[j]? = some x) {v : AV} (hv : ∀ ad, cslot ad (h q) j x = cv ad v) (k : Ev sh M n ls (v :: st) h post) : Ev sh M pc ls (vr q :: st) h post := by
  subst hn
  subst ho
  obtain ⟨C0, T, N, ty, h1, h2, h3, h4, -, -⟩ := hL
  intro p l e s m args below meth c D cA ad A H locs las C hP hD hS hA hl
  refine va_get C.1 C.2.1 C.2.2.2.2.2.2.1 h3 C.2.2.2.2.1 C.2.2.2.2.2.2.2 hP q (wld_at hq) h1 j h2 (C.2.2.2.2.2.2.1 _ h4) (fun _ w => w) (v := cv ad v) ?_ hd (k p l e s m args below meth c D cA ad A H locs las C hP hD hS hA hl)
  rw [List.getElem?_mapIdx, hx, ← hv ad]
  rfl
theorem ev_getI {own : String} (n : Nat) (z : Int) {i ci j q : Nat} {sl : List SK} {b : Nat} (hL : FL own i ci j) (ho : own = M.1.cls) (hd : decode M.2.1 pc = .ok (.getfield i, 3)) (hn : pc + 3 = n) (hq : sh[q]? = some (.inr (ci, sl))) (hx : sl[j]? = some (.inl b)) (hb : ¬ b = 1) (hz : (j : Int) = z) (k : Ev sh M n ls (vi (h q z) :: st) h post) : Ev sh M pc ls (vr q :: st) h post := ev_get n hL ho hd hn hq hx (fun ad => by show (if b = 1 then _ else _) = _; rw [if_neg hb, hz]; rfl) k
theorem ev_getL {own : String} (n : Nat) (z : Int) {i ci j q : Nat} {sl : List SK} (hL : FL own i ci j) (ho : own = M.1.cls) (hd : decode M.2.1 pc = .ok (.getfield i, 3)) (hn : pc + 3 = n) (hq : sh[q]? = some (.inr (ci, sl))) (hx : sl[j]? = some (.inl 1)) (hz : (j : Int) = z) (k : Ev sh M n ls (vl (h q z) :: st) h post) : Ev sh M pc ls (vr q :: st) h post := ev_get n hL ho hd hn hq hx (fun ad => by subst hz; rfl) k
theorem ev_getR {own : String} (n : Nat) {i ci j q t : Nat} {sl : List SK} (hL : FL own i ci j) (ho : own = M.1.cls) (hd : decode M.2.1 pc = .ok (.getfield i, 3)) (hn : pc + 3 = n) (hq : sh[q]? = some (.inr (ci, sl))) (hx : sl[j]? = some (.inr t)) (k : Ev sh M n ls (vr t :: st) h post) : Ev sh M pc ls (vr q :: st) h post := ev_get n hL ho hd hn hq hx (fun ad => rfl) k
theorem q_setslot {ad : Nat → Nat} {f : Int → Int} {sl : List SK} {j : Nat} {b : Nat} (v : Int) (hx : sl[j]? = some (.inl b)) : (sl.mapIdx (fun i x => cslot ad f i x)).set j (cslot ad (fun _ => v) j (.inl b)) = sl.mapIdx (fun i x => cslot ad (up f (j : Int) v) i x) := by
  apply List.ext_getElem?
  intro i
  rw [List.getElem?_set, List.getElem?_mapIdx, List.getElem?_mapIdx]
  by_cases e : j = i
  · subst e
    have hl : j < (sl.mapIdx (fun i x => cslot ad f i x)).length := by
      rw [List.length_mapIdx]
      exact (List.getElem?_eq_some_iff.mp hx).1
    rw [if_pos rfl, if_pos hl, hx]
    simp [cslot, up]
  · rw [if_neg e]
    cases hs : sl[i]? with
    | none => rfl
    | some x =>
      have hne : ¬ (i : Int) = (j : Int) := by omega
      cases x with
      | inl b2 => simp [cslot, up, hne]
      | inr t => simp [cslot]
theorem ev_put {own : String} (n : Nat) {i ci j q b : Nat} {sl : List SK} {ty : FieldType} {x : AV} {z : Int} (hL : FP own i ci j ty) (ho : own = M.1.cls) (hd : decode M.2.1 pc = .ok (.putfield i, 3)) (hn : pc + 3 = n) (hq : sh[q]? = some (.inr (ci, sl))) (hx : sl[j]? = some (.inl b)) (hv : ∀ ad, cv ad x = cslot ad (fun _ => z) j (.inl b)) (hnar : ∀ ad, narrow ty (cv ad x) = cv ad x) (hfit : ∀ ad, fits ty (cv ad x) = true) (k : Ev sh M n ls st (hput h q (up (h q) j z)) post) : Ev sh M pc ls (x :: vr q :: st) h post := by
  subst hn
  subst ho
  obtain ⟨C0, T, N, ty0, h1, h2, h3, h4, h5, h6, h7, h8⟩ := hL
  intro p l e s m args below meth c D cA ad A H locs las C hP hD hS hA hl
  refine va_put C.1 C.2.1 C.2.2.2.2.2.2.1 h3 ty0 h5 h6 C.2.2.2.2.1 C.2.2.2.2.2.2.2 hP hD hS q (wld_at hq) h1 j h2 (C.2.2.2.2.2.2.1 _ h4) (fun _ w => w) h7 (ty := ty) (v := cv ad x) h8 (hnar ad) (hfit ad) (by rw [List.length_mapIdx]; exact (List.getElem?_eq_some_iff.mp hx).1) hd (fun H1 locs1 hP1 hD1 hS1 => ?_)
  have hw : (wld cA ad sh h).set q (ad q, .inr (ci, (sl.mapIdx (fun j x => cslot ad (h q) j x)).set j (cv ad x))) = wld cA ad sh (hput h q (up (h q) j z)) := by
    rw [← wld_set hq]
    show _ = (wld cA ad sh h).set q (ad q, Sum.inr (ci, sl.mapIdx (fun i x => cslot ad (up (h q) j z) i x)))
    rw [← q_setslot z hx, hv ad]
  exact k p l e s m args below meth c D cA ad A H1 locs1 las C (hw ▸ hP1) (hw ▸ hD1) hS1 hA hl
theorem ev_putI {own : String} (n : Nat) (w : Int) {i ci j q : Nat} {sl : List SK} {z : Int} (hL : FP own i ci j .int) (ho : own = M.1.cls) (hd : decode M.2.1 pc = .ok (.putfield i, 3)) (hn : pc + 3 = n) (hq : sh[q]? = some (.inr (ci, sl))) (hx : sl[j]? = some (.inl 0)) (hw : (j : Int) = w) (k : Ev sh M n ls st (hput h q (up (h q) w z)) post) : Ev sh M pc ls (vi z :: vr q :: st) h post := ev_put n hL ho hd hn hq hx (fun ad => rfl) (fun ad => rfl) (fun ad => rfl) (hw ▸ k)
theorem ev_putL {own : String} (n : Nat) (w : Int) {i ci j q : Nat} {sl : List SK} {z : Int} (hL : FP own i ci j .long) (ho : own = M.1.cls) (hd : decode M.2.1 pc = .ok (.putfield i, 3)) (hn : pc + 3 = n) (hq : sh[q]? = some (.inr (ci, sl))) (hx : sl[j]? = some (.inl 1)) (hw : (j : Int) = w) (k : Ev sh M n ls st (hput h q (up (h q) w z)) post) : Ev sh M pc ls (vl z :: vr q :: st) h post := ev_put n hL ho hd hn hq hx (fun ad => rfl) (fun ad => rfl) (fun ad => rfl) (hw ▸ k)
theorem ev_putZ {own : String} (n : Nat) (w : Int) {i ci j q : Nat} {sl : List SK} {z : Int} (hL : FP own i ci j .boolean) (ho : own = M.1.cls) (hd : decode M.2.1 pc = .ok (.putfield i, 3)) (hn : pc + 3 = n) (hq : sh[q]? = some (.inr (ci, sl))) (hx : sl[j]? = some (.inl 2)) (hz : z = 0 ∨ z = 1) (hw : (j : Int) = w) (k : Ev sh M n ls st (hput h q (up (h q) w z)) post) : Ev sh M pc ls (vi z :: vr q :: st) h post := ev_put n hL ho hd hn hq hx (fun ad => rfl) (fun ad => by rcases hz with rfl | rfl <;> (show narrow .boolean (.int _) = .int _; decide +kernel)) (fun ad => by rcases hz with rfl | rfl <;> (show fits .boolean (.int _) = true; decide +kernel)) (hw ▸ k)
theorem ev_iald (n : Nat) {q N : Nat} {i : Int} (hd : decode M.2.1 pc = .ok (.iaload, 1)) (hn : pc + 1 = n) (hq : sh[q]? = some (.inl (0, N))) (hN : N < 2147483648) (hi : 0 ≤ i ∧ i < N) (k : Ev sh M n ls (vi (h q i) :: st) h post) : Ev sh M pc ls (vi i :: vr q :: st) h post := by
  subst hn
  intro p l e s m args below meth c D cA ad A H locs las C hP hD hS hA hl
  refine va_iald C.1 C.2.1 C.2.2.2.2.2.2.2 hP q 0 (wld_at hq) rfl (q_in hi.1 hi.2 hN) hd ?_
  rw [q_cl hi.1 (by omega), Int.toNat_of_nonneg hi.1]
  exact k p l e s m args below meth c D cA ad A H locs las C hP hD hS hA hl
theorem ev_zald (n : Nat) {q N : Nat} {i : Int} (hd : decode M.2.1 pc = .ok (.baload, 1)) (hn : pc + 1 = n) (hq : sh[q]? = some (.inl (1, N))) (hN : N < 2147483648) (hi : 0 ≤ i ∧ i < N) (k : Ev sh M n ls (vi (h q i) :: st) h post) : Ev sh M pc ls (vi i :: vr q :: st) h post := by
  subst hn
  intro p l e s m args below meth c D cA ad A H locs las C hP hD hS hA hl
  refine va_zald C.1 C.2.1 C.2.2.2.2.2.2.2 hP q 1 (wld_at hq) rfl (q_in hi.1 hi.2 hN) hd ?_
  rw [q_cl hi.1 (by omega), Int.toNat_of_nonneg hi.1]
  exact k p l e s m args below meth c D cA ad A H locs las C hP hD hS hA hl
theorem q_updA {f : Int → Int} {i v : Int} (h0 : 0 ≤ i) : upd (fun j : Nat => Int32.ofInt (f j)) i.toNat (Int32.ofInt v) = fun j : Nat => Int32.ofInt (up f i v j) := by
  funext j
  unfold upd up
  by_cases e : j = i.toNat
  · rw [if_pos e, if_pos (by omega)]
  · rw [if_neg e, if_neg (by omega)]
theorem ev_iast (n : Nat) {q N : Nat} {i v : Int} (hd : decode M.2.1 pc = .ok (.iastore, 1)) (hn : pc + 1 = n) (hq : sh[q]? = some (.inl (0, N))) (hN : N < 2147483648) (hi : 0 ≤ i ∧ i < N) (k : Ev sh M n ls st (hput h q (up (h q) i v)) post) : Ev sh M pc ls (vi v :: vi i :: vr q :: st) h post := by
  subst hn
  intro p l e s m args below meth c D cA ad A H locs las C hP hD hS hA hl
  refine va_iast C.1 C.2.1 C.2.2.2.2.2.2.2 hP hD hS q 0 (wld_at hq) rfl (q_in hi.1 hi.2 hN) hd (fun H1 locs1 hP1 hD1 hS1 => ?_)
  have hw : (wld cA ad sh h).set q (ad q, .inl (cA 0, N, .inl (upd (fun j : Nat => Int32.ofInt (h q j)) (Int32.ofInt i).toNatClampNeg (Int32.ofInt v)))) = wld cA ad sh (hput h q (up (h q) i v)) := by
    rw [← wld_set hq, q_cl hi.1 (by omega), q_updA hi.1]
    rfl
  exact k p l e s m args below meth c D cA ad A H1 locs1 las C (hw ▸ hP1) (hw ▸ hD1) hS1 hA hl
theorem ev_zast (n : Nat) {q N : Nat} {i v : Int} (hd : decode M.2.1 pc = .ok (.bastore, 1)) (hn : pc + 1 = n) (hq : sh[q]? = some (.inl (1, N))) (hN : N < 2147483648) (hi : 0 ≤ i ∧ i < N) (hv : v = 0 ∨ v = 1) (k : Ev sh M n ls st (hput h q (up (h q) i v)) post) : Ev sh M pc ls (vi v :: vi i :: vr q :: st) h post := by
  subst hn
  intro p l e s m args below meth c D cA ad A H locs las C hP hD hS hA hl
  refine va_zast C.1 C.2.1 C.2.2.2.2.2.2.2 hP hD hS q 1 (wld_at hq) rfl (q_in hi.1 hi.2 hN) hd (fun H1 locs1 hP1 hD1 hS1 => ?_)
  have hnv : vp_nar .boolean (Int32.ofInt v) = Int32.ofInt v := by rcases hv with rfl | rfl <;> decide +kernel
  have hw : (wld cA ad sh h).set q (ad q, .inl (cA 1, N, .inl (upd (fun j : Nat => Int32.ofInt (h q j)) (Int32.ofInt i).toNatClampNeg (vp_nar .boolean (Int32.ofInt v))))) = wld cA ad sh (hput h q (up (h q) i v)) := by
    rw [hnv, ← wld_set hq, q_cl hi.1 (by omega), q_updA hi.1]
    rfl
  exact k p l e s m args below meth c D cA ad A H1 locs1 las C (hw ▸ hP1) (hw ▸ hD1) hS1 hA hl
end EVR
end
section
/-- what a call of M' from M takes of the tables, and the room -/
def CB (M M' : MI) (i n : Nat) : Prop := Cond.methodLink M.1.cls i M'.1 ∈ gw_tbl ∧ Cond.code M'.1 M'.2.1 M'.2.2.1 M'.2.2.2.1 ∈ gw_tbl ∧ Cond.initialized M'.1.cls ∈ gw_tbl ∧ (M'.1.cls ≠ "java/lang/invoke/MethodHandle" ∧ M'.1.cls ≠ "java/lang/invoke/VarHandle" ∧ (parseMethodDescriptor M'.1.desc).map (fun d => d.parameters.length) = some n) ∧ (M'.2.2.2.2.frames + 1 ≤ M.2.2.2.2.frames ∧ 8 + (M'.2.2.1 + 11) + M'.2.2.2.2.locals ≤ M.2.2.2.2.locals) ∧ M'.2.2.2.2.cells = 0 ∧ M'.2.2.2.2.slots = 0 ∧ plainName M'.1.cls = true
def CV (M M' : MI) (i n : Nat) : Prop := CB M M' i n ∧ Cond.instanceMethod M'.1 ∈ gw_tbl ∧ Cond.selects M'.1.cls M'.1 M'.1 ∈ gw_tbl
def CT (M M' : MI) (i n : Nat) : Prop := CB M M' i n ∧ Cond.static M'.1 ∈ gw_tbl
theorem tb_in {M' : MI} (h : Cond.code M'.1 M'.2.1 M'.2.2.1 M'.2.2.2.1 ∈ gw_tbl) : GoodIn gw_tbl (Cond.code M'.1 M'.2.1 M'.2.2.1 M'.2.2.2.1 :: gw_tbl) := by
  intro w hw
  have hm : w ∈ gw_tbl := by
    rcases List.mem_cons.mp hw with e | e
    · rw [e]; exact h
    · exact e
  exact ⟨hm, good_of_word (List.mem_filter.mp hm).2⟩
/-- the contract that a walk of the whole method gives -/
def PcW (D : va_G) (cA : Nat → ClassId) (ad : Nat → Nat) (sh : List CS) (h : Hp) (sz : Nat) (as : List AV) : Array Value → State → Prop := va_Pc (as.map (cv ad)) (fun U => U.heap.size = sz ∧ va_P D vwCl (wld cA ad sh h) U.heap ∧ va_K D vwCl (tyC cA) U ∧ va_D (fun _ => True) (wld cA ad sh h))
theorem q_sl (ad : Nat → Nat) : ∀ as : List AV, (∀ v ∈ as, ∀ z, v ≠ vl z) → lg_sl (as.map (cv ad)) = as.map (fun v => Slot.val (cv ad v)) := by
  intro as
  induction as with
  | nil => intro _; rfl
  | cons v t ih =>
    intro hv
    have h1 : (cv ad v).category = 1 := by
      rcases v with z | k | z
      · rfl
      · rfl
      · exact absurd rfl (hv _ List.mem_cons_self z)
    have h2 := ih (fun w hw => hv w (List.mem_cons_of_mem _ hw))
    unfold lg_sl at h2 ⊢
    rw [List.map_cons, List.flatMap_cons, h2, h1]
    rfl
theorem ev_met {sh : List CS} {M : MI} {ls : List (Option AV)} {h : Hp} {post : Option AV → Hp → Prop} (as : List AV) (hls : as.map some ++ List.replicate (M.2.2.1 - as.length) none = ls) (has : as.length ≤ M.2.2.1) (hnl : ∀ v ∈ as, ∀ z, v ≠ vl z) (hpn : plainName M.1.cls = true) (k : Ev sh M 0 ls [] h post) (l : Launch) (D : va_G) (cA : Nat → ClassId) (ad : Nat → Nat) (sz : Nat) : Met l M.1 (Cond.code M.1 M.2.1 M.2.2.1 M.2.2.2.1 :: gw_tbl) M.2.2.2.2 (PcW D cA ad sh h sz as) (QQ cA ad D sh post (va_A (wld cA ad sh h) sz)) 0 0 (va_A (wld cA ad sh h) sz) := by
  refine Met.ofW (cc := M.2.1) (maxL := M.2.2.1) (ret := M.2.2.2.1) hpn rfl ?_
  intro p e s m args below meth c s₁ B hml hv
  obtain ⟨rfl, hsz, hP, hK, hD0⟩ := hv
  have hts := atoms_spec (ws := Cond.code M.1 M.2.1 M.2.2.1 M.2.2.2.1 :: gw_tbl) B.pre
  subst hsz
  have hl := lv_entry (as.map (cv ad)) (n := M.2.2.1) (by rw [q_sl ad as hnl, List.length_map]; exact has)
  rw [lg_entry_eq]
  refine k p l e s m _ below meth c D cA ad _ s.heap [] _ ⟨B.exec, B.bytes, hml, B.returns, findClass_of_methodNamed B.named, B.notSynchronized, fun w hw => hts w (List.mem_cons_of_mem _ hw), hK⟩ hP (hD0.self (sz := s.heap.size)) va_S.rf (fun q hq => Or.inr hq) ⟨hl.1, hl.2.1, ?_, ?_⟩
  · rw [← hls]
    simp
    omega
  · intro i v hi
    rw [← hls] at hi
    rw [q_sl ad as hnl]
    rw [List.getElem?_append] at hi
    simp only [List.length_map] at hi
    split at hi
    · rename_i hlt
      rw [List.getElem?_map] at hi
      cases hv : as[i]? with
      | none => rw [hv] at hi; cases hi
      | some w =>
        rw [hv] at hi
        cases hi
        refine ⟨?_, ?_⟩
        · rw [List.getElem?_toArray, List.getElem?_append]
          simp only [List.length_map, hlt, if_true, List.getElem?_map, hv]
          rfl
        · rcases v with z | k | z
          · rfl
          · rfl
          · exact absurd rfl (hnl _ (List.mem_of_getElem? hv) z)
    · rw [List.getElem?_replicate] at hi
      split at hi
      · cases hi
      · cases hi
section EVC
variable {sh : List CS} {M : MI} {pc : Nat} {ls : List (Option AV)} {st : List AV} {h : Hp} {post : Option AV → Hp → Prop}
theorem q_rest {R : Room} {p : Program} {l : Launch} {e : Env} {s : State} {m : MethodId} {args : Array Value} {below : List Frame} {meth : Method} {c : Code} {H : Heap} {locs : List Loc} {Q : State → Prop} {D : va_G} {cA : Nat → ClassId} {ad : Nat → Nat} {A : Nat → Prop} {las : Array Slot} {st0 : List Value} {a : Array Value} {post' : Option AV → Hp → Prop} {pc0 : Nat}
    (hr : va_Run p l e R s m args below meth c H locs 0 0 0 0 (F0 m pc0 las st0) (st.map (cv ad)) (QQ cA ad D sh post' (va_A (wld cA ad sh h) H.size) a) (va_A (wld cA ad sh h) H.size)) (hD : va_D A (wld cA ad sh h)) (hS : va_S A s.heap H locs) (hA : ∀ q, s.heap.size ≤ q → A q)
    (kk : ∀ (v : Option AV) (h' : Hp) (H1 : Heap) (locs1 : List Loc), post' v h' → va_P D vwCl (wld cA ad sh h') H1 → va_D A (wld cA ad sh h') → va_S A s.heap H1 locs1 → W p l e R s m args below meth c H1 locs1 0 0 Q (F0 m (pc0 + 3) las ((v.toList ++ st).map (cv ad)))) : W p l e R s m args below meth c H locs 0 0 Q (F0 m pc0 las st0) := by
  have hin : ∀ q, va_A (wld cA ad sh h) H.size q → A q := by
    intro q hq
    rcases hq with ⟨k, e, hk⟩ | hq
    · exact hD.2 k _ hk
    · exact hA q (Nat.le_trans hS.1 hq)
  intro T hT X
  obtain ⟨v, st₀, t, T', L, h0, X', hL, e1, e2, ⟨⟨v2, h', hv, hp, hb⟩, hz, hk⟩, stp⟩ := hr T hT X
  rw [h0] at hz hk
  have hv : v = v2.map (cv ad) := by cases hv; rfl
  subst hv
  obtain ⟨t2, a1, b1⟩ := kk v2 h' T'.heap (locs ++ L) hp (by rw [e1]; exact hb) (wld_D hD)
    ⟨Nat.le_trans hS.1 (by rw [e1]; exact hz), fun q h1 h2 => by rw [e1, hk q (Nat.lt_of_lt_of_le h1 hS.1) (fun z => h2 (hin q z))]; exact hS.2.1 q h1 h2, fun q hq => by
      rcases List.mem_append.mp hq with h | h
      · exact hS.2.2 q h
      · exact hin _ (hL q h)⟩ T' rfl X'
  refine ⟨t2, stp t2 ?_, b1⟩
  have e3 : (v2.toList ++ st).map (cv ad) = (v2.map (cv ad)).toList ++ st.map (cv ad) := by
    cases v2 <;> rfl
  rw [e3] at a1
  exact a1
theorem q_cat {ad : Nat → Nat} (hst : st.length ≤ 4) : ((st.map (cv ad)).map fun v => v.category).sum ≤ 8 := by
  have : ∀ s2 : List AV, ((s2.map (cv ad)).map fun v => v.category).sum ≤ 2 * s2.length := by
    intro s2
    induction s2 with
    | nil => exact Nat.le_refl 0
    | cons v t ih =>
      have hc : (cv ad v).category ≤ 2 := by rcases lv_cat (cv ad v) with h | h <;> omega
      simp only [List.map_cons, List.sum_cons, List.length_cons]
      omega
  have := this st
  omega
theorem ev_callV {M' : MI} (n : Nat) {i b ci : Nat} {sl : List SK} {q : vw_C} (as : List AV) {ls' : List (Option AV)} {post' : Option AV → Hp → Prop} (hc : CV M M' i as.length) (hd : decode M.2.1 pc = .ok (.invokevirtual i, 3)) (hn : pc + 3 = n) (hb : sh[b]? = some (.inr (ci, sl))) (hq : vwCl[ci]? = some q) (hq2 : q.1 = M'.1.cls) (hls : (vr b :: as).map some ++ List.replicate (M'.2.2.1 - (vr b :: as).length) none = ls') (has : (vr b :: as).length ≤ M'.2.2.1) (hnl : ∀ v ∈ as, ∀ z, v ≠ vl z) (hst : st.length ≤ 4) (kc : Ev sh M' 0 ls' [] h post') (k : ∀ v h', post' v h' → Ev sh M n ls (v.toList ++ st) h' post) : Ev sh M pc ls (as.reverse ++ vr b :: st) h post := by
  subst hn
  obtain ⟨⟨c1, c2, c3, c4, c5, c6, c7, c8⟩, c9, c10⟩ := hc
  intro p l e s m args below meth c D cA ad A H locs las C hP hD hS hA hl
  obtain ⟨hx, hbb, hml, hr, hown, hlk, hts, hK⟩ := C
  have hM := ev_met (vr b :: as) hls has (fun v hv z => by rcases List.mem_cons.mp hv with e | e; (subst e; intro w; cases w); exact hnl v e z) c8 kc l D cA ad H.size
  have hrun := va_runV (g := F0 m pc las ((as.reverse ++ vr b :: st).map (cv ad))) (As := as.map (cv ad)) (b := ad b) (rest := st.map (cv ad)) (C := M'.1.cls) (R := M.2.2.2.2) (bytes := M'.2.1) (maxL := M'.2.2.1) (ret := M'.2.2.2.1) (n := as.length) (index := i) (cells := 0) (slots := 0) (p := p) (l := l) (e := e) (below := below) (meth := meth) (locs := locs) ⟨hx, hbb, hml, hown, hts⟩ hM ⟨callB_of as.length hts (tb_in c2) rfl c6 c7 (hts _ c3) (hts _ c1) c4 c5, hts _ c9, hts _ c10⟩ ⟨fun a U g mk w => by obtain ⟨w0, w1, wP, wK, wD⟩ := w; exact ⟨w0, w1, wP, va_K.moved (u := U) (U := U.calling g mk a) (Vm.Alike.refl U.vm) wK, wD⟩, by rw [← hq2]; exact va_recv hK hP hq (wld_at hb), fun U hU hW => ⟨rfl, by rw [hU], by rw [hU]; exact hP, va_K.moved hW.alike hK, hD.weaken (fun _ _ _ _ => trivial)⟩⟩ rfl (by rw [List.length_map]) hl.1 (by show (as.reverse ++ vr b :: st).map (cv ad) = _; simp [cv]) (lv_room (q_cat hst)) hd ⟨Nat.zero_le _, Nat.zero_le _⟩
  exact q_rest hrun hD hS hA (fun v h' H1 locs1 hp hP1 hD1 hS1 => k v h' hp p l e s m args below meth c D cA ad A H1 locs1 las ⟨hx, hbb, hml, hr, hown, hlk, hts, hK⟩ hP1 hD1 hS1 hA hl)
theorem ev_callS {M' : MI} (n : Nat) {i : Nat} (as : List AV) {ls' : List (Option AV)} {post' : Option AV → Hp → Prop} (hc : CT M M' i as.length) (hd : decode M.2.1 pc = .ok (.invokestatic i, 3)) (hn : pc + 3 = n) (hls : as.map some ++ List.replicate (M'.2.2.1 - as.length) none = ls') (has : as.length ≤ M'.2.2.1) (hnl : ∀ v ∈ as, ∀ z, v ≠ vl z) (hst : st.length ≤ 4) (kc : Ev sh M' 0 ls' [] h post') (k : ∀ v h', post' v h' → Ev sh M n ls (v.toList ++ st) h' post) : Ev sh M pc ls (as.reverse ++ st) h post := by
  subst hn
  obtain ⟨⟨c1, c2, c3, c4, c5, c6, c7, c8⟩, c9⟩ := hc
  intro p l e s m args below meth c D cA ad A H locs las C hP hD hS hA hl
  obtain ⟨hx, hbb, hml, hr, hown, hlk, hts, hK⟩ := C
  have hM := ev_met as hls has hnl c8 kc l D cA ad H.size
  have hrun := va_runS (g := F0 m pc las ((as.reverse ++ st).map (cv ad))) (As := as.map (cv ad)) (rest := st.map (cv ad)) (R := M.2.2.2.2) (bytes := M'.2.1) (maxL := M'.2.2.1) (ret := M'.2.2.2.1) (n := as.length) (index := i) (cells := 0) (slots := 0) (p := p) (l := l) (e := e) (below := below) (meth := meth) (locs := locs) ⟨hx, hbb, hml, hown, hts⟩ hM ⟨callB_of as.length hts (tb_in c2) rfl c6 c7 (hts _ c3) (hts _ c1) c4 c5, hts _ c9⟩ ⟨fun a U g mk w => by obtain ⟨w0, w1, wP, wK, wD⟩ := w; exact ⟨w0, w1, wP, va_K.moved (u := U) (U := U.calling g mk a) (Vm.Alike.refl U.vm) wK, wD⟩, fun U hU hW => ⟨rfl, by rw [hU], by rw [hU]; exact hP, va_K.moved hW.alike hK, hD.weaken (fun _ _ _ _ => trivial)⟩⟩ rfl (by rw [List.length_map]) hl.1 (by show (as.reverse ++ st).map (cv ad) = _; simp) (lv_room (q_cat hst)) hd ⟨Nat.zero_le _, Nat.zero_le _⟩
  exact q_rest hrun hD hS hA (fun v h' H1 locs1 hp hP1 hD1 hS1 => k v h' hp p l e s m args below meth c D cA ad A H1 locs1 las ⟨hx, hbb, hml, hr, hown, hlk, hts, hK⟩ hP1 hD1 hS1 hA hl)
/-- Math.max, Math.min, System.arraycopy -/
def CM (M : MI) (i : Nat) : Prop := (Cond.methodLink M.1.cls i Lib.Math.max.name ∈ gw_tbl) ∧ Cond.static Lib.Math.max.name ∈ gw_tbl ∧ Cond.initialized "java/lang/Math" ∈ gw_tbl ∧ Cond.code Lib.Math.max.name Lib.Math.max.code 2 (some .int) ∈ gw_tbl ∧ 1 ≤ M.2.2.2.2.frames ∧ 21 ≤ M.2.2.2.2.locals
def CN (M : MI) (i : Nat) : Prop := (Cond.methodLink M.1.cls i Lib.Math.min.name ∈ gw_tbl) ∧ Cond.static Lib.Math.min.name ∈ gw_tbl ∧ Cond.initialized "java/lang/Math" ∈ gw_tbl ∧ Cond.code Lib.Math.min.name Lib.Math.min.code 2 (some .int) ∈ gw_tbl ∧ 1 ≤ M.2.2.2.2.frames ∧ 21 ≤ M.2.2.2.2.locals
def CA (M : MI) (i : Nat) : Prop := (Cond.methodLink M.1.cls i arraycopyName ∈ gw_tbl) ∧ Cond.native arraycopyName ∈ gw_tbl ∧ Cond.static arraycopyName ∈ gw_tbl ∧ Cond.initialized "java/lang/System" ∈ gw_tbl ∧ 1 ≤ M.2.2.2.2.frames ∧ nativeFrameWords "java/lang/System" "arraycopy" 5 + 11 ≤ M.2.2.2.2.locals
theorem ev_max (n : Nat) {i : Nat} {x y : Int} (hc : CM M i) (hd : decode M.2.1 pc = .ok (.invokestatic i, 3)) (hn : pc + 3 = n) (hx : R32 x) (hy : R32 y) (hst : st.length ≤ 4) (k : Ev sh M n ls (vi (if x < y then y else x) :: st) h post) : Ev sh M pc ls (vi y :: vi x :: st) h post := by
  subst hn
  obtain ⟨c1, c2, c3, c4, c5, c6⟩ := hc
  intro p l e s m args below meth c D cA ad A H locs las C hP hD hS hA hl
  have hts := C.2.2.2.2.2.2.1
  have hcat := q_cat (ad := ad) hst
  refine va_mmax C.1 C.2.1 (C.2.2.1.trans hl.1.symm) C.2.2.2.2.1 (hts _ c1) (hts _ c2) (hts _ c3) (hts _ c4) c5 (by omega) (Nat.zero_le _) (Nat.zero_le _) hd ?_
  have e2 : (if Int32.ofInt x < Int32.ofInt y then Int32.ofInt y else Int32.ofInt x) = Int32.ofInt (if x < y then y else x) := by
    by_cases q : x < y
    · rw [if_pos q, if_pos ((q_lt hx hy).mpr q)]
    · rw [if_neg q, if_neg (fun w => q ((q_lt hx hy).mp w))]
  rw [e2]
  exact k p l e s m args below meth c D cA ad A H locs las C hP hD hS hA hl
theorem ev_min (n : Nat) {i : Nat} {x y : Int} (hc : CN M i) (hd : decode M.2.1 pc = .ok (.invokestatic i, 3)) (hn : pc + 3 = n) (hx : R32 x) (hy : R32 y) (hst : st.length ≤ 4) (k : Ev sh M n ls (vi (if y < x then y else x) :: st) h post) : Ev sh M pc ls (vi y :: vi x :: st) h post := by
  subst hn
  obtain ⟨c1, c2, c3, c4, c5, c6⟩ := hc
  intro p l e s m args below meth c D cA ad A H locs las C hP hD hS hA hl
  have hts := C.2.2.2.2.2.2.1
  have hcat := q_cat (ad := ad) hst
  refine va_mmin C.1 C.2.1 (C.2.2.1.trans hl.1.symm) C.2.2.2.2.1 (hts _ c1) (hts _ c2) (hts _ c3) (hts _ c4) c5 (by omega) (Nat.zero_le _) (Nat.zero_le _) hd ?_
  have e2 : (if Int32.ofInt y < Int32.ofInt x then Int32.ofInt y else Int32.ofInt x) = Int32.ofInt (if y < x then y else x) := by
    by_cases q : y < x
    · rw [if_pos q, if_pos ((q_lt hy hx).mpr q)]
    · rw [if_neg q, if_neg (fun w => q ((q_lt hy hx).mp w))]
  rw [e2]
  exact k p l e s m args below meth c D cA ad A H locs las C hP hD hS hA hl
/-- a stretch of n from sp of f laid over g from dp on -/
def cpy (f g : Int → Int) (sp dp n : Int) : Int → Int := fun k => if dp ≤ k ∧ k < dp + n then f (sp + (k - dp)) else g k
theorem ev_copy (n : Nat) {i a b Na Nb : Nat} {sp dp m : Int} (hc : CA M i) (hd : decode M.2.1 pc = .ok (.invokestatic i, 3)) (hn : pc + 3 = n) (ha : sh[a]? = some (.inl (0, Na))) (hb : sh[b]? = some (.inl (0, Nb))) (hNa : Na < 2147483648) (hNb : Nb < 2147483648) (h1 : 0 ≤ sp) (h2 : 0 ≤ dp) (h3 : 0 ≤ m) (h4 : sp + m ≤ Na) (h5 : dp + m ≤ Nb) (hst : st = []) (k : Ev sh M n ls st (hput h b (cpy (h a) (h b) sp dp m)) post) : Ev sh M pc ls (vi m :: vi dp :: vr b :: vi sp :: vr a :: st) h post := by
  subst hn
  subst hst
  obtain ⟨c1, c2, c3, c4, c5, c6⟩ := hc
  intro p l e s m0 args below meth c D cA ad A H locs las C hP hD hS hA hl
  have hts := C.2.2.2.2.2.2.1
  have e1 := q_cl h1 (by omega)
  have e2 := q_cl h2 (by omega)
  have e3 := q_cl h3 (by omega)
  have nn : ∀ {z : Int}, 0 ≤ z → z < 2147483648 → ¬ Int32.ofInt z < 0 := fun {z} a b w => by
    rw [q_z] at w
    have := (q_lt ⟨by omega, by omega⟩ ⟨by decide, by decide⟩).mp w
    omega
  refine va_copyi C.1 C.2.1 (C.2.2.1.trans hl.1.symm) C.2.2.2.2.1 (hts _ c1) (hts _ c2) (hts _ c3) (hts _ c4) C.2.2.2.2.2.2.2 hP hD hS a b 0 0 (wld_at ha) (wld_at hb) rfl rfl rfl (nn h1 (by omega)) (nn h2 (by omega)) (nn h3 (by omega)) (by rw [e1, e3]; omega) (by rw [e2, e3]; omega) (fun _ _ => rfl) c5 (by show 0 + _ ≤ _; omega) hd (fun H1 locs1 hP1 hD1 hS1 => ?_)
  have hw : (wld cA ad sh h).set b (ad b, .inl (cA 0, Nb, .inl (va_cpy (fun j : Nat => Int32.ofInt (h a j)) (fun j : Nat => Int32.ofInt (h b j)) (Int32.ofInt sp).toNatClampNeg (Int32.ofInt dp).toNatClampNeg (Int32.ofInt m).toNatClampNeg))) = wld cA ad sh (hput h b (cpy (h a) (h b) sp dp m)) := by
    rw [← wld_set hb, e1, e2, e3]
    show _ = (wld cA ad sh h).set b (ad b, Sum.inl (cA 0, Nb, Sum.inl (fun j : Nat => Int32.ofInt (cpy (h a) (h b) sp dp m j))))
    have e4 : va_cpy (fun j : Nat => Int32.ofInt (h a j)) (fun j : Nat => Int32.ofInt (h b j)) sp.toNat dp.toNat m.toNat = fun j : Nat => Int32.ofInt (cpy (h a) (h b) sp dp m j) := by
      funext j
      unfold va_cpy cpy
      by_cases q : dp ≤ j ∧ j < dp + m
      · have e5 : ((sp.toNat + (j - dp.toNat) : Nat) : Int) = sp + (j - dp) := by omega
        rw [if_pos q, if_pos (by omega), ← e5]
      · rw [if_neg q, if_neg (by omega)]
    rw [e4]
  exact k p l e s m0 args below meth c D cA ad A H1 locs1 las C (hw ▸ hP1) (hw ▸ hD1) hS1 hA hl
end EVC
end
section
theorem inX0 : ∀ w ∈ u_ws RX0 TX0 6, w ∈ gw_tbl := by decide +kernel
theorem inX1 : ∀ w ∈ u_ws RX1 TX1 4, w ∈ gw_tbl := by decide +kernel
theorem inX2 : ∀ w ∈ u_ws RX2 TX2 6, w ∈ gw_tbl := by decide +kernel
theorem inX3 : ∀ w ∈ u_ws RX3 TX3 3, w ∈ gw_tbl := by decide +kernel
theorem inX4 : ∀ w ∈ u_ws RX4 TX4 6, w ∈ gw_tbl := by decide +kernel
theorem inX5 : ∀ w ∈ u_ws RX5 TX5 6, w ∈ gw_tbl := by decide +kernel
theorem inX6 : ∀ w ∈ u_ws RX6 TX6 7, w ∈ gw_tbl := by decide +kernel
theorem inX7 : ∀ w ∈ u_ws RX7 TX7 3, w ∈ gw_tbl := by decide +kernel
theorem inX8 : ∀ w ∈ u_ws RX8 TX8 10, w ∈ gw_tbl := by decide +kernel
theorem inX9 : ∀ w ∈ u_ws RX9 TX9 36, w ∈ gw_tbl := by decide +kernel
abbrev mX8_type : MI := (yX8_type, cX8_type, 2, some .int, { frames := 1, cells := 0, slots := 0, locals := 21 })
abbrev mX8_clear : MI := (yX8_clear, cX8_clear, 2, some .int, { frames := 0, cells := 0, slots := 0, locals := 0 })
abbrev mX8_spa : MI := (yX8_spa, cX8_spa, 2, some .int, { frames := 7, cells := 0, slots := 0, locals := 150 })
abbrev mX8_chair : MI := (yX8_chair, cX8_chair, 3, some .int, { frames := 3, cells := 0, slots := 0, locals := 67 })
abbrev mX8_pusher : MI := (yX8_pusher, cX8_pusher, 2, some .int, { frames := 1, cells := 0, slots := 0, locals := 21 })
abbrev mX8_cell : MI := (yX8_cell, cX8_cell, 2, some .int, { frames := 0, cells := 0, slots := 0, locals := 0 })
abbrev mX8_now : MI := (yX8_now, cX8_now, 2, some .int, { frames := 6, cells := 0, slots := 0, locals := 148 })
abbrev mX8_tuesday : MI := (yX8_tuesday, cX8_tuesday, 2, some .int, { frames := 6, cells := 0, slots := 0, locals := 143 })
abbrev mX8_changes : MI := (yX8_changes, cX8_changes, 3, some .int, { frames := 3, cells := 0, slots := 0, locals := 83 })
abbrev mX8_sets : MI := (yX8_sets, cX8_sets, 4, some .int, { frames := 3, cells := 0, slots := 0, locals := 83 })
abbrev mX8_greases : MI := (yX8_greases, cX8_greases, 4, some .int, { frames := 3, cells := 0, slots := 0, locals := 83 })
abbrev mX8_undo : MI := (yX8_undo, cX8_undo, 1, some .int, { frames := 2, cells := 0, slots := 0, locals := 46 })
abbrev mX8_time : MI := (yX8_time, cX8_time, 2, some .int, { frames := 5, cells := 0, slots := 0, locals := 122 })
abbrev mX8_place : MI := (yX8_place, cX8_place, 2, some .int, { frames := 5, cells := 0, slots := 0, locals := 122 })
abbrev mX8_alone : MI := (yX8_alone, cX8_alone, 2, some .int, { frames := 3, cells := 0, slots := 0, locals := 69 })
abbrev mX8_king : MI := (yX8_king, cX8_king, 4, some .int, { frames := 6, cells := 0, slots := 0, locals := 148 })
abbrev mX8_fair : MI := (yX8_fair, cX8_fair, 3, some .int, { frames := 4, cells := 0, slots := 0, locals := 93 })
abbrev mX8_odds : MI := (yX8_odds, cX8_odds, 7, some .int, { frames := 6, cells := 0, slots := 0, locals := 148 })
abbrev mX8_times : MI := (yX8_times, cX8_times, 3, some .int, { frames := 1, cells := 0, slots := 0, locals := 22 })
abbrev mX8_forget : MI := (yX8_forget, cX8_forget, 2, some .int, { frames := 0, cells := 0, slots := 0, locals := 0 })
abbrev mX8_rate : MI := (yX8_rate, cX8_rate, 3, some .int, { frames := 5, cells := 0, slots := 0, locals := 109 })
abbrev mX8_keep : MI := (yX8_keep, cX8_keep, 3, some .int, { frames := 1, cells := 0, slots := 0, locals := 22 })
abbrev mX8_back : MI := (yX8_back, cX8_back, 3, some .int, { frames := 1, cells := 0, slots := 0, locals := 22 })
abbrev mX8_count : MI := (yX8_count, cX8_count, 2, some .int, { frames := 0, cells := 0, slots := 0, locals := 0 })
abbrev mX8_trace : MI := (yX8_trace, cX8_trace, 1, some .long, { frames := 0, cells := 0, slots := 0, locals := 0 })
abbrev mX8_isChair : MI := (yX8_isChair, cX8_isChair, 2, some .boolean, { frames := 0, cells := 0, slots := 0, locals := 0 })
abbrev mX8_imageOf : MI := (yX8_imageOf, cX8_imageOf, 2, some (.object "ChairRegents$Day"), { frames := 0, cells := 0, slots := 0, locals := 0 })
abbrev mX8_commonDivisor : MI := (yX8_commonDivisor, cX8_commonDivisor, 6, some .int, { frames := 0, cells := 0, slots := 0, locals := 0 })
abbrev mX9_in : MI := (yX9_in, cX9_in, 3, some .boolean, { frames := 0, cells := 0, slots := 0, locals := 0 })
abbrev mX9_has : MI := (yX9_has, cX9_has, 2, some .boolean, { frames := 0, cells := 0, slots := 0, locals := 0 })
abbrev mX9_isChair : MI := (yX9_isChair, cX9_isChair, 2, some .boolean, { frames := 1, cells := 0, slots := 0, locals := 22 })
abbrev mX9_isRace : MI := (yX9_isRace, cX9_isRace, 1, some .boolean, { frames := 0, cells := 0, slots := 0, locals := 0 })
abbrev mX9_copy : MI := (yX9_copy, cX9_copy, 5, none, { frames := 0, cells := 0, slots := 0, locals := 0 })
abbrev mX9_type : MI := (yX9_type, cX9_type, 2, some .int, { frames := 1, cells := 0, slots := 0, locals := 22 })
abbrev mX9_clear : MI := (yX9_clear, cX9_clear, 2, some .int, { frames := 0, cells := 0, slots := 0, locals := 0 })
abbrev mX9_letterAt : MI := (yX9_letterAt, cX9_letterAt, 2, some .int, { frames := 0, cells := 0, slots := 0, locals := 0 })
abbrev mX9_isFigure : MI := (yX9_isFigure, cX9_isFigure, 1, some .boolean, { frames := 1, cells := 0, slots := 0, locals := 22 })
abbrev mX9_isLetter : MI := (yX9_isLetter, cX9_isLetter, 1, some .boolean, { frames := 1, cells := 0, slots := 0, locals := 20 })
abbrev mX9_costOf : MI := (yX9_costOf, cX9_costOf, 1, some .int, { frames := 0, cells := 0, slots := 0, locals := 0 })
abbrev mX9_next : MI := (yX9_next, cX9_next, 2, none, { frames := 2, cells := 0, slots := 0, locals := 42 })
abbrev mX9_takes : MI := (yX9_takes, cX9_takes, 5, some .int, { frames := 3, cells := 0, slots := 0, locals := 63 })
abbrev mX9_readCells : MI := (yX9_readCells, cX9_readCells, 2, none, { frames := 3, cells := 0, slots := 0, locals := 63 })
abbrev mX9_readChair : MI := (yX9_readChair, cX9_readChair, 1, none, { frames := 4, cells := 0, slots := 0, locals := 87 })
abbrev mX9_readPusher : MI := (yX9_readPusher, cX9_readPusher, 3, none, { frames := 4, cells := 0, slots := 0, locals := 87 })
abbrev mX9_readItem : MI := (yX9_readItem, cX9_readItem, 3, none, { frames := 5, cells := 0, slots := 0, locals := 109 })
abbrev mX9_spa : MI := (yX9_spa, cX9_spa, 1, some .int, { frames := 6, cells := 0, slots := 0, locals := 131 })
abbrev mX9_settles : MI := (yX9_settles, cX9_settles, 2, none, { frames := 0, cells := 0, slots := 0, locals := 0 })
abbrev mX9_asItIs : MI := (yX9_asItIs, cX9_asItIs, 1, none, { frames := 1, cells := 0, slots := 0, locals := 24 })
abbrev mX9_gainOf : MI := (yX9_gainOf, cX9_gainOf, 5, some .int, { frames := 1, cells := 0, slots := 0, locals := 21 })
abbrev mX9_isTaken : MI := (yX9_isTaken, cX9_isTaken, 5, some .boolean, { frames := 0, cells := 0, slots := 0, locals := 0 })
abbrev mX9_goes : MI := (yX9_goes, cX9_goes, 6, none, { frames := 1, cells := 0, slots := 0, locals := 24 })
abbrev mX9_races : MI := (yX9_races, cX9_races, 4, none, { frames := 2, cells := 0, slots := 0, locals := 49 })
abbrev mX9_aloneOf : MI := (yX9_aloneOf, cX9_aloneOf, 5, some .int, { frames := 2, cells := 0, slots := 0, locals := 45 })
abbrev mX9_chair : MI := (yX9_chair, cX9_chair, 3, some .int, { frames := 2, cells := 0, slots := 0, locals := 45 })
abbrev mX9_pusher : MI := (yX9_pusher, cX9_pusher, 2, some .int, { frames := 2, cells := 0, slots := 0, locals := 43 })
abbrev mX9_cell : MI := (yX9_cell, cX9_cell, 2, some .int, { frames := 1, cells := 0, slots := 0, locals := 22 })
abbrev mX9_ruled : MI := (yX9_ruled, cX9_ruled, 6, some .int, { frames := 0, cells := 0, slots := 0, locals := 0 })
abbrev mX9_isSo : MI := (yX9_isSo, cX9_isSo, 5, some .boolean, { frames := 3, cells := 0, slots := 0, locals := 69 })
abbrev mX9_suspects : MI := (yX9_suspects, cX9_suspects, 6, some .int, { frames := 4, cells := 0, slots := 0, locals := 93 })
abbrev mX9_first : MI := (yX9_first, cX9_first, 1, some .int, { frames := 3, cells := 0, slots := 0, locals := 72 })
abbrev mX9_now : MI := (yX9_now, cX9_now, 2, some .int, { frames := 5, cells := 0, slots := 0, locals := 120 })
abbrev mX9_remembers : MI := (yX9_remembers, cX9_remembers, 2, none, { frames := 1, cells := 0, slots := 0, locals := 24 })
abbrev mX9_tuesday : MI := (yX9_tuesday, cX9_tuesday, 2, some .int, { frames := 4, cells := 0, slots := 0, locals := 92 })
abbrev mX9_changes : MI := (yX9_changes, cX9_changes, 4, some .int, { frames := 2, cells := 0, slots := 0, locals := 45 })
abbrev mX9_sets : MI := (yX9_sets, cX9_sets, 4, some .int, { frames := 2, cells := 0, slots := 0, locals := 45 })
abbrev mX9_greases : MI := (yX9_greases, cX9_greases, 5, some .int, { frames := 2, cells := 0, slots := 0, locals := 45 })
abbrev mX9_undo : MI := (yX9_undo, cX9_undo, 1, some .int, { frames := 1, cells := 0, slots := 0, locals := 24 })
abbrev mX9_time : MI := (yX9_time, cX9_time, 2, some .int, { frames := 3, cells := 0, slots := 0, locals := 72 })
abbrev mX9_place : MI := (yX9_place, cX9_place, 2, some .int, { frames := 3, cells := 0, slots := 0, locals := 72 })
abbrev mX9_alone : MI := (yX9_alone, cX9_alone, 2, some .int, { frames := 3, cells := 0, slots := 0, locals := 69 })
abbrev mX9_isWay : MI := (yX9_isWay, cX9_isWay, 5, some .boolean, { frames := 0, cells := 0, slots := 0, locals := 0 })
abbrev mX9_findKings : MI := (yX9_findKings, cX9_findKings, 7, none, { frames := 3, cells := 0, slots := 0, locals := 72 })
abbrev mX9_kings : MI := (yX9_kings, cX9_kings, 3, some .int, { frames := 4, cells := 0, slots := 0, locals := 98 })
abbrev mX9_king : MI := (yX9_king, cX9_king, 3, some .int, { frames := 4, cells := 0, slots := 0, locals := 98 })
abbrev mX9_fair : MI := (yX9_fair, cX9_fair, 12, some .int, { frames := 3, cells := 0, slots := 0, locals := 69 })
abbrev mX9_odds : MI := (yX9_odds, cX9_odds, 9, some .int, { frames := 3, cells := 0, slots := 0, locals := 72 })
abbrev mX9_times : MI := (yX9_times, cX9_times, 3, some .int, { frames := 2, cells := 0, slots := 0, locals := 43 })
abbrev mX9_forget : MI := (yX9_forget, cX9_forget, 2, some .int, { frames := 0, cells := 0, slots := 0, locals := 0 })
abbrev mX9_rate : MI := (yX9_rate, cX9_rate, 6, some .int, { frames := 2, cells := 0, slots := 0, locals := 45 })
abbrev mX9_keep : MI := (yX9_keep, cX9_keep, 2, some .int, { frames := 1, cells := 0, slots := 0, locals := 24 })
abbrev mX9_back : MI := (yX9_back, cX9_back, 2, some .int, { frames := 1, cells := 0, slots := 0, locals := 24 })
abbrev mX9_count : MI := (yX9_count, cX9_count, 2, some .int, { frames := 0, cells := 0, slots := 0, locals := 0 })
abbrev mX9_trace : MI := (yX9_trace, cX9_trace, 1, some .long, { frames := 0, cells := 0, slots := 0, locals := 0 })
abbrev mX0_start : MI := (yX0_start, cX0_start, 2, none, { frames := 0, cells := 0, slots := 0, locals := 0 })
abbrev mX0_become : MI := (yX0_become, cX0_become, 3, none, { frames := 0, cells := 0, slots := 0, locals := 0 })
abbrev mX0_exchange : MI := (yX0_exchange, cX0_exchange, 4, none, { frames := 0, cells := 0, slots := 0, locals := 0 })
abbrev mX0_greasedCount : MI := (yX0_greasedCount, cX0_greasedCount, 4, some .int, { frames := 0, cells := 0, slots := 0, locals := 0 })
abbrev mX0_gainOf : MI := (yX0_gainOf, cX0_gainOf, 3, some .int, { frames := 2, cells := 0, slots := 0, locals := 45 })
abbrev mX0_aloneOf : MI := (yX0_aloneOf, cX0_aloneOf, 5, some .int, { frames := 2, cells := 0, slots := 0, locals := 45 })
abbrev mX0_ruledMost : MI := (yX0_ruledMost, cX0_ruledMost, 4, some .int, { frames := 1, cells := 0, slots := 0, locals := 24 })
abbrev mX0_weeksOf : MI := (yX0_weeksOf, cX0_weeksOf, 5, some .int, { frames := 0, cells := 0, slots := 0, locals := 0 })
abbrev mX1_add : MI := (yX1_add, cX1_add, 4, none, { frames := 2, cells := 0, slots := 0, locals := 60 })
abbrev mX1_takeBackLatest : MI := (yX1_takeBackLatest, cX1_takeBackLatest, 4, none, { frames := 1, cells := 0, slots := 0, locals := 23 })
abbrev mX1_dropOldest : MI := (yX1_dropOldest, cX1_dropOldest, 1, none, { frames := 1, cells := 0, slots := 0, locals := 40 })
abbrev mX2_winner : MI := (yX2_winner, cX2_winner, 1, some .int, { frames := 5, cells := 0, slots := 0, locals := 123 })
abbrev mX2_timeOf : MI := (yX2_timeOf, cX2_timeOf, 2, some .int, { frames := 4, cells := 0, slots := 0, locals := 101 })
abbrev mX2_placed : MI := (yX2_placed, cX2_placed, 2, some .int, { frames := 4, cells := 0, slots := 0, locals := 101 })
abbrev mX2_kings : MI := (yX2_kings, cX2_kings, 6, some .int, { frames := 5, cells := 0, slots := 0, locals := 123 })
abbrev mX2_findKing : MI := (yX2_findKing, cX2_findKing, 6, some .int, { frames := 5, cells := 0, slots := 0, locals := 123 })
abbrev mX2_kingsPusher : MI := (yX2_kingsPusher, cX2_kingsPusher, 2, some .int, { frames := 0, cells := 0, slots := 0, locals := 0 })
abbrev mX2_fairGoal : MI := (yX2_fairGoal, cX2_fairGoal, 5, some .int, { frames := 3, cells := 0, slots := 0, locals := 69 })
abbrev mX2_handicapFor : MI := (yX2_handicapFor, cX2_handicapFor, 4, some .int, { frames := 1, cells := 0, slots := 0, locals := 21 })
abbrev mX2_spreadFor : MI := (yX2_spreadFor, cX2_spreadFor, 6, some .int, { frames := 2, cells := 0, slots := 0, locals := 44 })
abbrev mX2_winsIn : MI := (yX2_winsIn, cX2_winsIn, 6, some .int, { frames := 5, cells := 0, slots := 0, locals := 123 })
abbrev mX2_allIn : MI := (yX2_allIn, cX2_allIn, 3, some .int, { frames := 0, cells := 0, slots := 0, locals := 0 })
abbrev mX2_weightOf : MI := (yX2_weightOf, cX2_weightOf, 5, some .int, { frames := 1, cells := 0, slots := 0, locals := 21 })
abbrev mX2_isIll : MI := (yX2_isIll, cX2_isIll, 2, some .boolean, { frames := 0, cells := 0, slots := 0, locals := 0 })
abbrev mX2_winnerBy : MI := (yX2_winnerBy, cX2_winnerBy, 3, some .int, { frames := 4, cells := 0, slots := 0, locals := 101 })
abbrev mX2_raceBy : MI := (yX2_raceBy, cX2_raceBy, 7, none, { frames := 3, cells := 0, slots := 0, locals := 75 })
abbrev mX2_startWays : MI := (yX2_startWays, cX2_startWays, 2, none, { frames := 0, cells := 0, slots := 0, locals := 0 })
abbrev mX2_changedByWay : MI := (yX2_changedByWay, cX2_changedByWay, 3, some .int, { frames := 0, cells := 0, slots := 0, locals := 0 })
abbrev mX2_toNextWay : MI := (yX2_toNextWay, cX2_toNextWay, 5, some .boolean, { frames := 1, cells := 0, slots := 0, locals := 23 })
abbrev mX2_swapInWay : MI := (yX2_swapInWay, cX2_swapInWay, 4, none, { frames := 0, cells := 0, slots := 0, locals := 0 })
abbrev mX3_asChair : MI := (yX3_asChair, cX3_asChair, 2, some .int, { frames := 0, cells := 0, slots := 0, locals := 0 })
abbrev mX3_asWidow : MI := (yX3_asWidow, cX3_asWidow, 2, some .int, { frames := 1, cells := 0, slots := 0, locals := 21 })
abbrev mX3_asAunt : MI := (yX3_asAunt, cX3_asAunt, 2, some .int, { frames := 3, cells := 0, slots := 0, locals := 67 })
abbrev mX3_asPug : MI := (yX3_asPug, cX3_asPug, 2, some .int, { frames := 2, cells := 0, slots := 0, locals := 42 })
abbrev mX3_asVeil : MI := (yX3_asVeil, cX3_asVeil, 2, some .int, { frames := 4, cells := 0, slots := 0, locals := 88 })
abbrev mX3_asInfant : MI := (yX3_asInfant, cX3_asInfant, 2, some .int, { frames := 1, cells := 0, slots := 0, locals := 21 })
abbrev mX4_go : MI := (yX4_go, cX4_go, 7, none, { frames := 2, cells := 0, slots := 0, locals := 49 })
abbrev mX4_inAs : MI := (yX4_inAs, cX4_inAs, 2, some .int, { frames := 0, cells := 0, slots := 0, locals := 0 })
abbrev mX4_move : MI := (yX4_move, cX4_move, 6, none, { frames := 1, cells := 0, slots := 0, locals := 24 })
abbrev mX4_isBlocked : MI := (yX4_isBlocked, cX4_isBlocked, 5, some .boolean, { frames := 0, cells := 0, slots := 0, locals := 0 })
abbrev mX4_arrive : MI := (yX4_arrive, cX4_arrive, 3, none, { frames := 0, cells := 0, slots := 0, locals := 0 })
abbrev mX5_write : MI := (yX5_write, cX5_write, 2, none, { frames := 0, cells := 0, slots := 0, locals := 0 })
abbrev mX5_readInto : MI := (yX5_readInto, cX5_readInto, 3, some .int, { frames := 6, cells := 0, slots := 0, locals := 128 })
abbrev mX5_readItem : MI := (yX5_readItem, cX5_readItem, 2, some .boolean, { frames := 5, cells := 0, slots := 0, locals := 107 })
abbrev mX5_readPromenade : MI := (yX5_readPromenade, cX5_readPromenade, 3, some .boolean, { frames := 3, cells := 0, slots := 0, locals := 63 })
abbrev mX5_costOfToken : MI := (yX5_costOfToken, cX5_costOfToken, 1, some .int, { frames := 0, cells := 0, slots := 0, locals := 0 })
abbrev mX5_readChair : MI := (yX5_readChair, cX5_readChair, 3, some .boolean, { frames := 4, cells := 0, slots := 0, locals := 85 })
abbrev mX5_readPusher : MI := (yX5_readPusher, cX5_readPusher, 3, some .boolean, { frames := 4, cells := 0, slots := 0, locals := 85 })
abbrev mX5_readNumber : MI := (yX5_readNumber, cX5_readNumber, 3, some .boolean, { frames := 3, cells := 0, slots := 0, locals := 63 })
abbrev mX5_readEnd : MI := (yX5_readEnd, cX5_readEnd, 1, some .boolean, { frames := 3, cells := 0, slots := 0, locals := 63 })
abbrev mX5_readToken : MI := (yX5_readToken, cX5_readToken, 1, none, { frames := 2, cells := 0, slots := 0, locals := 43 })
abbrev mX5_readDigits : MI := (yX5_readDigits, cX5_readDigits, 3, none, { frames := 1, cells := 0, slots := 0, locals := 21 })
abbrev mX5_isDigitAt : MI := (yX5_isDigitAt, cX5_isDigitAt, 2, some .boolean, { frames := 0, cells := 0, slots := 0, locals := 0 })
abbrev mX6_empty : MI := (yX6_empty, cX6_empty, 1, none, { frames := 0, cells := 0, slots := 0, locals := 0 })
abbrev mX6_become : MI := (yX6_become, cX6_become, 2, none, { frames := 1, cells := 0, slots := 0, locals := 40 })
abbrev mX6_hasRace : MI := (yX6_hasRace, cX6_hasRace, 1, some .boolean, { frames := 0, cells := 0, slots := 0, locals := 0 })
abbrev mX6_addCell : MI := (yX6_addCell, cX6_addCell, 2, none, { frames := 0, cells := 0, slots := 0, locals := 0 })
abbrev mX6_addChair : MI := (yX6_addChair, cX6_addChair, 3, none, { frames := 0, cells := 0, slots := 0, locals := 0 })
abbrev mX6_strengthOf : MI := (yX6_strengthOf, cX6_strengthOf, 2, some .int, { frames := 0, cells := 0, slots := 0, locals := 0 })
abbrev mX6_gainBy : MI := (yX6_gainBy, cX6_gainBy, 5, some .int, { frames := 1, cells := 0, slots := 0, locals := 21 })
abbrev mX6_minutesBy : MI := (yX6_minutesBy, cX6_minutesBy, 2, some .int, { frames := 0, cells := 0, slots := 0, locals := 0 })
abbrev mX7_note : MI := (yX7_note, cX7_note, 3, none, { frames := 0, cells := 0, slots := 0, locals := 0 })
abbrev mX7_suspects : MI := (yX7_suspects, cX7_suspects, 7, some .int, { frames := 4, cells := 0, slots := 0, locals := 95 })
abbrev mX7_isAllAsIf : MI := (yX7_isAllAsIf, cX7_isAllAsIf, 7, some .boolean, { frames := 3, cells := 0, slots := 0, locals := 69 })
theorem fX8_10 : FL RX8 10 8 0 := ⟨RX8, TX8, 10, tyX8, rfl, by decide, inX8, gw_in 287 (by decide +kernel) (by decide +kernel), tyX8_ok, nmX8⟩
theorem fX8_69 : FL RX8 69 5 1 := ⟨RX5, TX5, 6, tyX5, rfl, by decide, inX5, gw_in 77 (by decide +kernel) (by decide +kernel), tyX5_ok, nmX5⟩
theorem pX8_69 : FP RX8 69 5 1 .int := ⟨RX5, TX5, 6, tyX5, rfl, by decide, inX5, gw_in 77 (by decide +kernel) (by decide +kernel), tyX5_ok, nmX5, rfl, by decide +kernel⟩
theorem fX8_23 : FL RX8 23 8 2 := ⟨RX8, TX8, 10, tyX8, rfl, by decide, inX8, gw_in 289 (by decide +kernel) (by decide +kernel), tyX8_ok, nmX8⟩
theorem fX8_19 : FL RX8 19 8 1 := ⟨RX8, TX8, 10, tyX8, rfl, by decide, inX8, gw_in 288 (by decide +kernel) (by decide +kernel), tyX8_ok, nmX8⟩
theorem fX8_29 : FL RX8 29 8 3 := ⟨RX8, TX8, 10, tyX8, rfl, by decide, inX8, gw_in 290 (by decide +kernel) (by decide +kernel), tyX8_ok, nmX8⟩
theorem fX8_42 : FL RX8 42 8 6 := ⟨RX8, TX8, 10, tyX8, rfl, by decide, inX8, gw_in 293 (by decide +kernel) (by decide +kernel), tyX8_ok, nmX8⟩
theorem fX8_88 : FL RX8 88 1 3 := ⟨RX1, TX1, 4, tyX1, rfl, by decide, inX1, gw_in 191 (by decide +kernel) (by decide +kernel), tyX1_ok, nmX1⟩
theorem pX8_88 : FP RX8 88 1 3 .int := ⟨RX1, TX1, 4, tyX1, rfl, by decide, inX1, gw_in 191 (by decide +kernel) (by decide +kernel), tyX1_ok, nmX1, rfl, by decide +kernel⟩
theorem fX8_49 : FL RX8 49 8 7 := ⟨RX8, TX8, 10, tyX8, rfl, by decide, inX8, gw_in 294 (by decide +kernel) (by decide +kernel), tyX8_ok, nmX8⟩
theorem fX8_91 : FL RX8 91 7 2 := ⟨RX7, TX7, 3, tyX7, rfl, by decide, inX7, gw_in 210 (by decide +kernel) (by decide +kernel), tyX7_ok, nmX7⟩
theorem pX8_91 : FP RX8 91 7 2 .int := ⟨RX7, TX7, 3, tyX7, rfl, by decide, inX7, gw_in 210 (by decide +kernel) (by decide +kernel), tyX7_ok, nmX7, rfl, by decide +kernel⟩
theorem fX8_33 : FL RX8 33 8 4 := ⟨RX8, TX8, 10, tyX8, rfl, by decide, inX8, gw_in 291 (by decide +kernel) (by decide +kernel), tyX8_ok, nmX8⟩
theorem fX8_92 : FL RX8 92 0 5 := ⟨RX0, TX0, 6, tyX0, rfl, by decide, inX0, gw_in 166 (by decide +kernel) (by decide +kernel), tyX0_ok, nmX0⟩
theorem pX8_92 : FP RX8 92 0 5 .boolean := ⟨RX0, TX0, 6, tyX0, rfl, by decide, inX0, gw_in 166 (by decide +kernel) (by decide +kernel), tyX0_ok, nmX0, rfl, by decide +kernel⟩
theorem fX8_36 : FL RX8 36 8 5 := ⟨RX8, TX8, 10, tyX8, rfl, by decide, inX8, gw_in 292 (by decide +kernel) (by decide +kernel), tyX8_ok, nmX8⟩
theorem fX8_100 : FL RX8 100 6 1 := ⟨RX6, TX6, 7, tyX6, rfl, by decide, inX6, gw_in 107 (by decide +kernel) (by decide +kernel), tyX6_ok, nmX6⟩
theorem fX8_104 : FL RX8 104 6 2 := ⟨RX6, TX6, 7, tyX6, rfl, by decide, inX6, gw_in 109 (by decide +kernel) (by decide +kernel), tyX6_ok, nmX6⟩
theorem fX8_107 : FL RX8 107 0 0 := ⟨RX0, TX0, 6, tyX0, rfl, by decide, inX0, gw_in 149 (by decide +kernel) (by decide +kernel), tyX0_ok, nmX0⟩
theorem fX8_110 : FL RX8 110 0 1 := ⟨RX0, TX0, 6, tyX0, rfl, by decide, inX0, gw_in 153 (by decide +kernel) (by decide +kernel), tyX0_ok, nmX0⟩
theorem fX8_113 : FL RX8 113 0 2 := ⟨RX0, TX0, 6, tyX0, rfl, by decide, inX0, gw_in 157 (by decide +kernel) (by decide +kernel), tyX0_ok, nmX0⟩
theorem fX8_121 : FL RX8 121 0 3 := ⟨RX0, TX0, 6, tyX0, rfl, by decide, inX0, gw_in 161 (by decide +kernel) (by decide +kernel), tyX0_ok, nmX0⟩
theorem fX8_124 : FL RX8 124 6 3 := ⟨RX6, TX6, 7, tyX6, rfl, by decide, inX6, gw_in 112 (by decide +kernel) (by decide +kernel), tyX6_ok, nmX6⟩
theorem fX8_127 : FL RX8 127 6 4 := ⟨RX6, TX6, 7, tyX6, rfl, by decide, inX6, gw_in 117 (by decide +kernel) (by decide +kernel), tyX6_ok, nmX6⟩
theorem fX8_130 : FL RX8 130 6 0 := ⟨RX6, TX6, 7, tyX6, rfl, by decide, inX6, gw_in 104 (by decide +kernel) (by decide +kernel), tyX6_ok, nmX6⟩
theorem fX8_133 : FL RX8 133 0 4 := ⟨RX0, TX0, 6, tyX0, rfl, by decide, inX0, gw_in 165 (by decide +kernel) (by decide +kernel), tyX0_ok, nmX0⟩
theorem fX8_58 : FL RX8 58 8 8 := ⟨RX8, TX8, 10, tyX8, rfl, by decide, inX8, gw_in 295 (by decide +kernel) (by decide +kernel), tyX8_ok, nmX8⟩
theorem pX8_133 : FP RX8 133 0 4 .int := ⟨RX0, TX0, 6, tyX0, rfl, by decide, inX0, gw_in 165 (by decide +kernel) (by decide +kernel), tyX0_ok, nmX0, rfl, by decide +kernel⟩
theorem fX8_162 : FL RX8 162 6 5 := ⟨RX6, TX6, 7, tyX6, rfl, by decide, inX6, gw_in 124 (by decide +kernel) (by decide +kernel), tyX6_ok, nmX6⟩
theorem fX8_65 : FL RX8 65 8 9 := ⟨RX8, TX8, 10, tyX8, rfl, by decide, inX8, gw_in 296 (by decide +kernel) (by decide +kernel), tyX8_ok, nmX8⟩
theorem fX8_236 : FL RX8 236 3 2 := ⟨RX3, TX3, 3, tyX3, rfl, by decide, inX3, gw_in 279 (by decide +kernel) (by decide +kernel), tyX3_ok, nmX3⟩
theorem fX9_74 : FL RX9 74 9 2 := ⟨RX9, TX9, 36, tyX9, rfl, by decide, inX9, gw_in 723 (by decide +kernel) (by decide +kernel), tyX9_ok, nmX9⟩
theorem fX9_81 : FL RX9 81 9 0 := ⟨RX9, TX9, 36, tyX9, rfl, by decide, inX9, gw_in 721 (by decide +kernel) (by decide +kernel), tyX9_ok, nmX9⟩
theorem fX9_84 : FL RX9 84 9 14 := ⟨RX9, TX9, 36, tyX9, rfl, by decide, inX9, gw_in 735 (by decide +kernel) (by decide +kernel), tyX9_ok, nmX9⟩
theorem fX9_35 : FL RX9 35 9 13 := ⟨RX9, TX9, 36, tyX9, rfl, by decide, inX9, gw_in 734 (by decide +kernel) (by decide +kernel), tyX9_ok, nmX9⟩
theorem pX9_84 : FP RX9 84 9 14 .int := ⟨RX9, TX9, 36, tyX9, rfl, by decide, inX9, gw_in 735 (by decide +kernel) (by decide +kernel), tyX9_ok, nmX9, rfl, by decide +kernel⟩
theorem fX9_91 : FL RX9 91 9 15 := ⟨RX9, TX9, 36, tyX9, rfl, by decide, inX9, gw_in 736 (by decide +kernel) (by decide +kernel), tyX9_ok, nmX9⟩
theorem pX9_91 : FP RX9 91 9 15 .int := ⟨RX9, TX9, 36, tyX9, rfl, by decide, inX9, gw_in 736 (by decide +kernel) (by decide +kernel), tyX9_ok, nmX9, rfl, by decide +kernel⟩
theorem fX9_97 : FL RX9 97 9 16 := ⟨RX9, TX9, 36, tyX9, rfl, by decide, inX9, gw_in 737 (by decide +kernel) (by decide +kernel), tyX9_ok, nmX9⟩
theorem pX9_97 : FP RX9 97 9 16 .int := ⟨RX9, TX9, 36, tyX9, rfl, by decide, inX9, gw_in 737 (by decide +kernel) (by decide +kernel), tyX9_ok, nmX9, rfl, by decide +kernel⟩
theorem fX9_100 : FL RX9 100 9 18 := ⟨RX9, TX9, 36, tyX9, rfl, by decide, inX9, gw_in 739 (by decide +kernel) (by decide +kernel), tyX9_ok, nmX9⟩
theorem pX9_100 : FP RX9 100 9 18 .int := ⟨RX9, TX9, 36, tyX9, rfl, by decide, inX9, gw_in 739 (by decide +kernel) (by decide +kernel), tyX9_ok, nmX9, rfl, by decide +kernel⟩
theorem fX9_103 : FL RX9 103 9 17 := ⟨RX9, TX9, 36, tyX9, rfl, by decide, inX9, gw_in 738 (by decide +kernel) (by decide +kernel), tyX9_ok, nmX9⟩
theorem pX9_103 : FP RX9 103 9 17 .int := ⟨RX9, TX9, 36, tyX9, rfl, by decide, inX9, gw_in 738 (by decide +kernel) (by decide +kernel), tyX9_ok, nmX9, rfl, by decide +kernel⟩
theorem fX9_113 : FL RX9 113 9 19 := ⟨RX9, TX9, 36, tyX9, rfl, by decide, inX9, gw_in 740 (by decide +kernel) (by decide +kernel), tyX9_ok, nmX9⟩
theorem pX9_113 : FP RX9 113 9 19 .boolean := ⟨RX9, TX9, 36, tyX9, rfl, by decide, inX9, gw_in 740 (by decide +kernel) (by decide +kernel), tyX9_ok, nmX9, rfl, by decide +kernel⟩
theorem fX9_120 : FL RX9 120 9 21 := ⟨RX9, TX9, 36, tyX9, rfl, by decide, inX9, gw_in 742 (by decide +kernel) (by decide +kernel), tyX9_ok, nmX9⟩
theorem fX9_38 : FL RX9 38 9 22 := ⟨RX9, TX9, 36, tyX9, rfl, by decide, inX9, gw_in 743 (by decide +kernel) (by decide +kernel), tyX9_ok, nmX9⟩
theorem pX9_120 : FP RX9 120 9 21 .int := ⟨RX9, TX9, 36, tyX9, rfl, by decide, inX9, gw_in 742 (by decide +kernel) (by decide +kernel), tyX9_ok, nmX9, rfl, by decide +kernel⟩
theorem fX9_41 : FL RX9 41 9 24 := ⟨RX9, TX9, 36, tyX9, rfl, by decide, inX9, gw_in 745 (by decide +kernel) (by decide +kernel), tyX9_ok, nmX9⟩
theorem fX9_123 : FL RX9 123 9 23 := ⟨RX9, TX9, 36, tyX9, rfl, by decide, inX9, gw_in 744 (by decide +kernel) (by decide +kernel), tyX9_ok, nmX9⟩
theorem fX9_44 : FL RX9 44 9 25 := ⟨RX9, TX9, 36, tyX9, rfl, by decide, inX9, gw_in 746 (by decide +kernel) (by decide +kernel), tyX9_ok, nmX9⟩
theorem pX9_123 : FP RX9 123 9 23 .int := ⟨RX9, TX9, 36, tyX9, rfl, by decide, inX9, gw_in 744 (by decide +kernel) (by decide +kernel), tyX9_ok, nmX9, rfl, by decide +kernel⟩
theorem fX9_139 : FL RX9 139 9 20 := ⟨RX9, TX9, 36, tyX9, rfl, by decide, inX9, gw_in 741 (by decide +kernel) (by decide +kernel), tyX9_ok, nmX9⟩
theorem pX9_139 : FP RX9 139 9 20 .int := ⟨RX9, TX9, 36, tyX9, rfl, by decide, inX9, gw_in 741 (by decide +kernel) (by decide +kernel), tyX9_ok, nmX9, rfl, by decide +kernel⟩
theorem pX9_81 : FP RX9 81 9 0 .int := ⟨RX9, TX9, 36, tyX9, rfl, by decide, inX9, gw_in 721 (by decide +kernel) (by decide +kernel), tyX9_ok, nmX9, rfl, by decide +kernel⟩
theorem fX9_7 : FL RX9 7 9 1 := ⟨RX9, TX9, 36, tyX9, rfl, by decide, inX9, gw_in 722 (by decide +kernel) (by decide +kernel), tyX9_ok, nmX9⟩
theorem pX9_74 : FP RX9 74 9 2 .int := ⟨RX9, TX9, 36, tyX9, rfl, by decide, inX9, gw_in 723 (by decide +kernel) (by decide +kernel), tyX9_ok, nmX9, rfl, by decide +kernel⟩
theorem fX9_13 : FL RX9 13 9 3 := ⟨RX9, TX9, 36, tyX9, rfl, by decide, inX9, gw_in 724 (by decide +kernel) (by decide +kernel), tyX9_ok, nmX9⟩
theorem fX9_16 : FL RX9 16 9 4 := ⟨RX9, TX9, 36, tyX9, rfl, by decide, inX9, gw_in 725 (by decide +kernel) (by decide +kernel), tyX9_ok, nmX9⟩
theorem fX9_19 : FL RX9 19 9 5 := ⟨RX9, TX9, 36, tyX9, rfl, by decide, inX9, gw_in 726 (by decide +kernel) (by decide +kernel), tyX9_ok, nmX9⟩
theorem fX9_148 : FL RX9 148 9 7 := ⟨RX9, TX9, 36, tyX9, rfl, by decide, inX9, gw_in 728 (by decide +kernel) (by decide +kernel), tyX9_ok, nmX9⟩
theorem pX9_148 : FP RX9 148 9 7 .int := ⟨RX9, TX9, 36, tyX9, rfl, by decide, inX9, gw_in 728 (by decide +kernel) (by decide +kernel), tyX9_ok, nmX9, rfl, by decide +kernel⟩
theorem fX9_151 : FL RX9 151 9 10 := ⟨RX9, TX9, 36, tyX9, rfl, by decide, inX9, gw_in 731 (by decide +kernel) (by decide +kernel), tyX9_ok, nmX9⟩
theorem pX9_151 : FP RX9 151 9 10 .int := ⟨RX9, TX9, 36, tyX9, rfl, by decide, inX9, gw_in 731 (by decide +kernel) (by decide +kernel), tyX9_ok, nmX9, rfl, by decide +kernel⟩
theorem fX9_28 : FL RX9 28 9 9 := ⟨RX9, TX9, 36, tyX9, rfl, by decide, inX9, gw_in 730 (by decide +kernel) (by decide +kernel), tyX9_ok, nmX9⟩
theorem fX9_47 : FL RX9 47 9 26 := ⟨RX9, TX9, 36, tyX9, rfl, by decide, inX9, gw_in 747 (by decide +kernel) (by decide +kernel), tyX9_ok, nmX9⟩
theorem fX9_56 : FL RX9 56 9 29 := ⟨RX9, TX9, 36, tyX9, rfl, by decide, inX9, gw_in 750 (by decide +kernel) (by decide +kernel), tyX9_ok, nmX9⟩
theorem fX9_50 : FL RX9 50 9 27 := ⟨RX9, TX9, 36, tyX9, rfl, by decide, inX9, gw_in 748 (by decide +kernel) (by decide +kernel), tyX9_ok, nmX9⟩
theorem fX9_53 : FL RX9 53 9 28 := ⟨RX9, TX9, 36, tyX9, rfl, by decide, inX9, gw_in 749 (by decide +kernel) (by decide +kernel), tyX9_ok, nmX9⟩
theorem fX9_59 : FL RX9 59 9 30 := ⟨RX9, TX9, 36, tyX9, rfl, by decide, inX9, gw_in 751 (by decide +kernel) (by decide +kernel), tyX9_ok, nmX9⟩
theorem fX9_162 : FL RX9 162 9 31 := ⟨RX9, TX9, 36, tyX9, rfl, by decide, inX9, gw_in 752 (by decide +kernel) (by decide +kernel), tyX9_ok, nmX9⟩
theorem pX9_162 : FP RX9 162 9 31 .int := ⟨RX9, TX9, 36, tyX9, rfl, by decide, inX9, gw_in 752 (by decide +kernel) (by decide +kernel), tyX9_ok, nmX9, rfl, by decide +kernel⟩
theorem fX9_32 : FL RX9 32 9 11 := ⟨RX9, TX9, 36, tyX9, rfl, by decide, inX9, gw_in 732 (by decide +kernel) (by decide +kernel), tyX9_ok, nmX9⟩
theorem fX9_22 : FL RX9 22 9 6 := ⟨RX9, TX9, 36, tyX9, rfl, by decide, inX9, gw_in 727 (by decide +kernel) (by decide +kernel), tyX9_ok, nmX9⟩
theorem fX9_65 : FL RX9 65 9 33 := ⟨RX9, TX9, 36, tyX9, rfl, by decide, inX9, gw_in 754 (by decide +kernel) (by decide +kernel), tyX9_ok, nmX9⟩
theorem fX9_62 : FL RX9 62 9 32 := ⟨RX9, TX9, 36, tyX9, rfl, by decide, inX9, gw_in 753 (by decide +kernel) (by decide +kernel), tyX9_ok, nmX9⟩
theorem fX9_71 : FL RX9 71 9 35 := ⟨RX9, TX9, 36, tyX9, rfl, by decide, inX9, gw_in 756 (by decide +kernel) (by decide +kernel), tyX9_ok, nmX9⟩
theorem fX9_68 : FL RX9 68 9 34 := ⟨RX9, TX9, 36, tyX9, rfl, by decide, inX9, gw_in 755 (by decide +kernel) (by decide +kernel), tyX9_ok, nmX9⟩
theorem fX9_220 : FL RX9 220 9 12 := ⟨RX9, TX9, 36, tyX9, rfl, by decide, inX9, gw_in 733 (by decide +kernel) (by decide +kernel), tyX9_ok, nmX9⟩
theorem pX9_220 : FP RX9 220 9 12 .long := ⟨RX9, TX9, 36, tyX9, rfl, by decide, inX9, gw_in 733 (by decide +kernel) (by decide +kernel), tyX9_ok, nmX9, rfl, by decide +kernel⟩
theorem fX9_25 : FL RX9 25 9 8 := ⟨RX9, TX9, 36, tyX9, rfl, by decide, inX9, gw_in 729 (by decide +kernel) (by decide +kernel), tyX9_ok, nmX9⟩
theorem fX0_9 : FL RX0 9 0 0 := ⟨RX0, TX0, 6, tyX0, rfl, by decide, inX0, gw_in 147 (by decide +kernel) (by decide +kernel), tyX0_ok, nmX0⟩
theorem fX0_15 : FL RX0 15 0 1 := ⟨RX0, TX0, 6, tyX0, rfl, by decide, inX0, gw_in 150 (by decide +kernel) (by decide +kernel), tyX0_ok, nmX0⟩
theorem fX0_18 : FL RX0 18 0 2 := ⟨RX0, TX0, 6, tyX0, rfl, by decide, inX0, gw_in 155 (by decide +kernel) (by decide +kernel), tyX0_ok, nmX0⟩
theorem fX0_22 : FL RX0 22 0 3 := ⟨RX0, TX0, 6, tyX0, rfl, by decide, inX0, gw_in 159 (by decide +kernel) (by decide +kernel), tyX0_ok, nmX0⟩
theorem fX0_25 : FL RX0 25 0 4 := ⟨RX0, TX0, 6, tyX0, rfl, by decide, inX0, gw_in 162 (by decide +kernel) (by decide +kernel), tyX0_ok, nmX0⟩
theorem pX0_25 : FP RX0 25 0 4 .int := ⟨RX0, TX0, 6, tyX0, rfl, by decide, inX0, gw_in 162 (by decide +kernel) (by decide +kernel), tyX0_ok, nmX0, rfl, by decide +kernel⟩
theorem fX0_46 : FL RX0 46 6 5 := ⟨RX6, TX6, 7, tyX6, rfl, by decide, inX6, gw_in 123 (by decide +kernel) (by decide +kernel), tyX6_ok, nmX6⟩
theorem fX0_49 : FL RX0 49 6 2 := ⟨RX6, TX6, 7, tyX6, rfl, by decide, inX6, gw_in 110 (by decide +kernel) (by decide +kernel), tyX6_ok, nmX6⟩
theorem fX1_21 : FL RX1 21 1 3 := ⟨RX1, TX1, 4, tyX1, rfl, by decide, inX1, gw_in 190 (by decide +kernel) (by decide +kernel), tyX1_ok, nmX1⟩
theorem fX1_9 : FL RX1 9 1 0 := ⟨RX1, TX1, 4, tyX1, rfl, by decide, inX1, gw_in 187 (by decide +kernel) (by decide +kernel), tyX1_ok, nmX1⟩
theorem fX1_15 : FL RX1 15 1 1 := ⟨RX1, TX1, 4, tyX1, rfl, by decide, inX1, gw_in 188 (by decide +kernel) (by decide +kernel), tyX1_ok, nmX1⟩
theorem fX1_18 : FL RX1 18 1 2 := ⟨RX1, TX1, 4, tyX1, rfl, by decide, inX1, gw_in 189 (by decide +kernel) (by decide +kernel), tyX1_ok, nmX1⟩
theorem pX1_21 : FP RX1 21 1 3 .int := ⟨RX1, TX1, 4, tyX1, rfl, by decide, inX1, gw_in 190 (by decide +kernel) (by decide +kernel), tyX1_ok, nmX1, rfl, by decide +kernel⟩
theorem fX1_28 : FL RX1 28 0 3 := ⟨RX0, TX0, 6, tyX0, rfl, by decide, inX0, gw_in 160 (by decide +kernel) (by decide +kernel), tyX0_ok, nmX0⟩
theorem fX1_33 : FL RX1 33 0 4 := ⟨RX0, TX0, 6, tyX0, rfl, by decide, inX0, gw_in 163 (by decide +kernel) (by decide +kernel), tyX0_ok, nmX0⟩
theorem pX1_33 : FP RX1 33 0 4 .int := ⟨RX0, TX0, 6, tyX0, rfl, by decide, inX0, gw_in 163 (by decide +kernel) (by decide +kernel), tyX0_ok, nmX0, rfl, by decide +kernel⟩
theorem fX1_40 : FL RX1 40 0 1 := ⟨RX0, TX0, 6, tyX0, rfl, by decide, inX0, gw_in 152 (by decide +kernel) (by decide +kernel), tyX0_ok, nmX0⟩
theorem fX1_43 : FL RX1 43 0 2 := ⟨RX0, TX0, 6, tyX0, rfl, by decide, inX0, gw_in 156 (by decide +kernel) (by decide +kernel), tyX0_ok, nmX0⟩
theorem fX2_32 : FL RX2 32 2 1 := ⟨RX2, TX2, 6, tyX2, rfl, by decide, inX2, gw_in 252 (by decide +kernel) (by decide +kernel), tyX2_ok, nmX2⟩
theorem fX2_36 : FL RX2 36 0 0 := ⟨RX0, TX0, 6, tyX0, rfl, by decide, inX0, gw_in 148 (by decide +kernel) (by decide +kernel), tyX0_ok, nmX0⟩
theorem fX2_28 : FL RX2 28 2 0 := ⟨RX2, TX2, 6, tyX2, rfl, by decide, inX2, gw_in 251 (by decide +kernel) (by decide +kernel), tyX2_ok, nmX2⟩
theorem fX2_45 : FL RX2 45 6 5 := ⟨RX6, TX6, 7, tyX6, rfl, by decide, inX6, gw_in 121 (by decide +kernel) (by decide +kernel), tyX6_ok, nmX6⟩
theorem fX2_12 : FL RX2 12 2 2 := ⟨RX2, TX2, 6, tyX2, rfl, by decide, inX2, gw_in 253 (by decide +kernel) (by decide +kernel), tyX2_ok, nmX2⟩
theorem fX2_55 : FL RX2 55 4 1 := ⟨RX4, TX4, 6, tyX4, rfl, by decide, inX4, gw_in 233 (by decide +kernel) (by decide +kernel), tyX4_ok, nmX4⟩
theorem fX2_18 : FL RX2 18 2 3 := ⟨RX2, TX2, 6, tyX2, rfl, by decide, inX2, gw_in 254 (by decide +kernel) (by decide +kernel), tyX2_ok, nmX2⟩
theorem fX2_22 : FL RX2 22 2 4 := ⟨RX2, TX2, 6, tyX2, rfl, by decide, inX2, gw_in 255 (by decide +kernel) (by decide +kernel), tyX2_ok, nmX2⟩
theorem fX2_25 : FL RX2 25 2 5 := ⟨RX2, TX2, 6, tyX2, rfl, by decide, inX2, gw_in 256 (by decide +kernel) (by decide +kernel), tyX2_ok, nmX2⟩
theorem fX2_114 : FL RX2 114 4 0 := ⟨RX4, TX4, 6, tyX4, rfl, by decide, inX4, gw_in 231 (by decide +kernel) (by decide +kernel), tyX4_ok, nmX4⟩
theorem fX2_117 : FL RX2 117 0 2 := ⟨RX0, TX0, 6, tyX0, rfl, by decide, inX0, gw_in 158 (by decide +kernel) (by decide +kernel), tyX0_ok, nmX0⟩
theorem fX2_125 : FL RX2 125 0 1 := ⟨RX0, TX0, 6, tyX0, rfl, by decide, inX0, gw_in 154 (by decide +kernel) (by decide +kernel), tyX0_ok, nmX0⟩
theorem fX3_17 : FL RX3 17 3 2 := ⟨RX3, TX3, 3, tyX3, rfl, by decide, inX3, gw_in 278 (by decide +kernel) (by decide +kernel), tyX3_ok, nmX3⟩
theorem pX3_17 : FP RX3 17 3 2 .long := ⟨RX3, TX3, 3, tyX3, rfl, by decide, inX3, gw_in 278 (by decide +kernel) (by decide +kernel), tyX3_ok, nmX3, rfl, by decide +kernel⟩
theorem fX3_7 : FL RX3 7 3 0 := ⟨RX3, TX3, 3, tyX3, rfl, by decide, inX3, gw_in 276 (by decide +kernel) (by decide +kernel), tyX3_ok, nmX3⟩
theorem fX3_21 : FL RX3 21 6 1 := ⟨RX6, TX6, 7, tyX6, rfl, by decide, inX6, gw_in 106 (by decide +kernel) (by decide +kernel), tyX6_ok, nmX6⟩
theorem fX3_13 : FL RX3 13 3 1 := ⟨RX3, TX3, 3, tyX3, rfl, by decide, inX3, gw_in 277 (by decide +kernel) (by decide +kernel), tyX3_ok, nmX3⟩
theorem fX3_33 : FL RX3 33 0 1 := ⟨RX0, TX0, 6, tyX0, rfl, by decide, inX0, gw_in 151 (by decide +kernel) (by decide +kernel), tyX0_ok, nmX0⟩
theorem fX3_56 : FL RX3 56 0 4 := ⟨RX0, TX0, 6, tyX0, rfl, by decide, inX0, gw_in 164 (by decide +kernel) (by decide +kernel), tyX0_ok, nmX0⟩
theorem fX4_27 : FL RX4 27 4 5 := ⟨RX4, TX4, 6, tyX4, rfl, by decide, inX4, gw_in 237 (by decide +kernel) (by decide +kernel), tyX4_ok, nmX4⟩
theorem pX4_27 : FP RX4 27 4 5 .int := ⟨RX4, TX4, 6, tyX4, rfl, by decide, inX4, gw_in 237 (by decide +kernel) (by decide +kernel), tyX4_ok, nmX4, rfl, by decide +kernel⟩
theorem fX4_31 : FL RX4 31 6 5 := ⟨RX6, TX6, 7, tyX6, rfl, by decide, inX6, gw_in 119 (by decide +kernel) (by decide +kernel), tyX6_ok, nmX6⟩
theorem fX4_18 : FL RX4 18 4 2 := ⟨RX4, TX4, 6, tyX4, rfl, by decide, inX4, gw_in 234 (by decide +kernel) (by decide +kernel), tyX4_ok, nmX4⟩
theorem fX4_21 : FL RX4 21 4 3 := ⟨RX4, TX4, 6, tyX4, rfl, by decide, inX4, gw_in 235 (by decide +kernel) (by decide +kernel), tyX4_ok, nmX4⟩
theorem fX4_15 : FL RX4 15 4 1 := ⟨RX4, TX4, 6, tyX4, rfl, by decide, inX4, gw_in 232 (by decide +kernel) (by decide +kernel), tyX4_ok, nmX4⟩
theorem fX4_36 : FL RX4 36 6 4 := ⟨RX6, TX6, 7, tyX6, rfl, by decide, inX6, gw_in 115 (by decide +kernel) (by decide +kernel), tyX6_ok, nmX6⟩
theorem fX4_24 : FL RX4 24 4 4 := ⟨RX4, TX4, 6, tyX4, rfl, by decide, inX4, gw_in 236 (by decide +kernel) (by decide +kernel), tyX4_ok, nmX4⟩
theorem fX4_9 : FL RX4 9 4 0 := ⟨RX4, TX4, 6, tyX4, rfl, by decide, inX4, gw_in 230 (by decide +kernel) (by decide +kernel), tyX4_ok, nmX4⟩
theorem fX4_43 : FL RX4 43 6 0 := ⟨RX6, TX6, 7, tyX6, rfl, by decide, inX6, gw_in 103 (by decide +kernel) (by decide +kernel), tyX6_ok, nmX6⟩
theorem fX5_15 : FL RX5 15 5 1 := ⟨RX5, TX5, 6, tyX5, rfl, by decide, inX5, gw_in 76 (by decide +kernel) (by decide +kernel), tyX5_ok, nmX5⟩
theorem fX5_9 : FL RX5 9 5 0 := ⟨RX5, TX5, 6, tyX5, rfl, by decide, inX5, gw_in 75 (by decide +kernel) (by decide +kernel), tyX5_ok, nmX5⟩
theorem pX5_15 : FP RX5 15 5 1 .int := ⟨RX5, TX5, 6, tyX5, rfl, by decide, inX5, gw_in 76 (by decide +kernel) (by decide +kernel), tyX5_ok, nmX5, rfl, by decide +kernel⟩
theorem fX5_24 : FL RX5 24 5 2 := ⟨RX5, TX5, 6, tyX5, rfl, by decide, inX5, gw_in 78 (by decide +kernel) (by decide +kernel), tyX5_ok, nmX5⟩
theorem pX5_24 : FP RX5 24 5 2 .int := ⟨RX5, TX5, 6, tyX5, rfl, by decide, inX5, gw_in 78 (by decide +kernel) (by decide +kernel), tyX5_ok, nmX5, rfl, by decide +kernel⟩
theorem fX5_30 : FL RX5 30 5 3 := ⟨RX5, TX5, 6, tyX5, rfl, by decide, inX5, gw_in 79 (by decide +kernel) (by decide +kernel), tyX5_ok, nmX5⟩
theorem fX5_37 : FL RX5 37 5 4 := ⟨RX5, TX5, 6, tyX5, rfl, by decide, inX5, gw_in 80 (by decide +kernel) (by decide +kernel), tyX5_ok, nmX5⟩
theorem fX5_40 : FL RX5 40 6 4 := ⟨RX6, TX6, 7, tyX6, rfl, by decide, inX6, gw_in 116 (by decide +kernel) (by decide +kernel), tyX6_ok, nmX6⟩
theorem fX5_46 : FL RX5 46 6 5 := ⟨RX6, TX6, 7, tyX6, rfl, by decide, inX6, gw_in 122 (by decide +kernel) (by decide +kernel), tyX6_ok, nmX6⟩
theorem fX5_67 : FL RX5 67 5 5 := ⟨RX5, TX5, 6, tyX5, rfl, by decide, inX5, gw_in 81 (by decide +kernel) (by decide +kernel), tyX5_ok, nmX5⟩
theorem fX5_78 : FL RX5 78 6 3 := ⟨RX6, TX6, 7, tyX6, rfl, by decide, inX6, gw_in 113 (by decide +kernel) (by decide +kernel), tyX6_ok, nmX6⟩
theorem pX5_37 : FP RX5 37 5 4 .int := ⟨RX5, TX5, 6, tyX5, rfl, by decide, inX5, gw_in 80 (by decide +kernel) (by decide +kernel), tyX5_ok, nmX5, rfl, by decide +kernel⟩
theorem pX5_30 : FP RX5 30 5 3 .int := ⟨RX5, TX5, 6, tyX5, rfl, by decide, inX5, gw_in 79 (by decide +kernel) (by decide +kernel), tyX5_ok, nmX5, rfl, by decide +kernel⟩
theorem pX5_67 : FP RX5 67 5 5 .int := ⟨RX5, TX5, 6, tyX5, rfl, by decide, inX5, gw_in 81 (by decide +kernel) (by decide +kernel), tyX5_ok, nmX5, rfl, by decide +kernel⟩
theorem fX6_24 : FL RX6 24 6 4 := ⟨RX6, TX6, 7, tyX6, rfl, by decide, inX6, gw_in 114 (by decide +kernel) (by decide +kernel), tyX6_ok, nmX6⟩
theorem pX6_24 : FP RX6 24 6 4 .int := ⟨RX6, TX6, 7, tyX6, rfl, by decide, inX6, gw_in 114 (by decide +kernel) (by decide +kernel), tyX6_ok, nmX6, rfl, by decide +kernel⟩
theorem fX6_28 : FL RX6 28 6 5 := ⟨RX6, TX6, 7, tyX6, rfl, by decide, inX6, gw_in 118 (by decide +kernel) (by decide +kernel), tyX6_ok, nmX6⟩
theorem pX6_28 : FP RX6 28 6 5 .int := ⟨RX6, TX6, 7, tyX6, rfl, by decide, inX6, gw_in 118 (by decide +kernel) (by decide +kernel), tyX6_ok, nmX6, rfl, by decide +kernel⟩
theorem fX6_31 : FL RX6 31 6 6 := ⟨RX6, TX6, 7, tyX6, rfl, by decide, inX6, gw_in 125 (by decide +kernel) (by decide +kernel), tyX6_ok, nmX6⟩
theorem pX6_31 : FP RX6 31 6 6 .int := ⟨RX6, TX6, 7, tyX6, rfl, by decide, inX6, gw_in 125 (by decide +kernel) (by decide +kernel), tyX6_ok, nmX6, rfl, by decide +kernel⟩
theorem fX6_9 : FL RX6 9 6 0 := ⟨RX6, TX6, 7, tyX6, rfl, by decide, inX6, gw_in 102 (by decide +kernel) (by decide +kernel), tyX6_ok, nmX6⟩
theorem fX6_15 : FL RX6 15 6 1 := ⟨RX6, TX6, 7, tyX6, rfl, by decide, inX6, gw_in 105 (by decide +kernel) (by decide +kernel), tyX6_ok, nmX6⟩
theorem fX6_18 : FL RX6 18 6 2 := ⟨RX6, TX6, 7, tyX6, rfl, by decide, inX6, gw_in 108 (by decide +kernel) (by decide +kernel), tyX6_ok, nmX6⟩
theorem fX6_21 : FL RX6 21 6 3 := ⟨RX6, TX6, 7, tyX6, rfl, by decide, inX6, gw_in 111 (by decide +kernel) (by decide +kernel), tyX6_ok, nmX6⟩
theorem fX7_18 : FL RX7 18 7 2 := ⟨RX7, TX7, 3, tyX7, rfl, by decide, inX7, gw_in 209 (by decide +kernel) (by decide +kernel), tyX7_ok, nmX7⟩
theorem fX7_9 : FL RX7 9 7 0 := ⟨RX7, TX7, 3, tyX7, rfl, by decide, inX7, gw_in 207 (by decide +kernel) (by decide +kernel), tyX7_ok, nmX7⟩
theorem fX7_15 : FL RX7 15 7 1 := ⟨RX7, TX7, 3, tyX7, rfl, by decide, inX7, gw_in 208 (by decide +kernel) (by decide +kernel), tyX7_ok, nmX7⟩
theorem pX7_18 : FP RX7 18 7 2 .int := ⟨RX7, TX7, 3, tyX7, rfl, by decide, inX7, gw_in 209 (by decide +kernel) (by decide +kernel), tyX7_ok, nmX7, rfl, by decide +kernel⟩
theorem fX7_22 : FL RX7 22 6 5 := ⟨RX6, TX6, 7, tyX6, rfl, by decide, inX6, gw_in 120 (by decide +kernel) (by decide +kernel), tyX6_ok, nmX6⟩
theorem kX8_type_73 : CV mX8_type mX5_write 73 1 := ⟨⟨gw_in 322 (by decide +kernel) (by decide +kernel), gw_in 325 (by decide +kernel) (by decide +kernel), gw_in 50 (by decide +kernel) (by decide +kernel), by decide +kernel, by decide, rfl, rfl, by decide +kernel⟩, gw_in 323 (by decide +kernel) (by decide +kernel), gw_in 324 (by decide +kernel) (by decide +kernel)⟩
theorem kX8_spa_77 : CV mX8_spa mX5_readInto 77 1 := ⟨⟨gw_in 334 (by decide +kernel) (by decide +kernel), gw_in 337 (by decide +kernel) (by decide +kernel), gw_in 50 (by decide +kernel) (by decide +kernel), by decide +kernel, by decide, rfl, rfl, by decide +kernel⟩, gw_in 335 (by decide +kernel) (by decide +kernel), gw_in 336 (by decide +kernel) (by decide +kernel)⟩
theorem kX8_spa_81 : CV mX8_spa mX6_become 81 1 := ⟨⟨gw_in 390 (by decide +kernel) (by decide +kernel), gw_in 393 (by decide +kernel) (by decide +kernel), gw_in 51 (by decide +kernel) (by decide +kernel), by decide +kernel, by decide, rfl, rfl, by decide +kernel⟩, gw_in 391 (by decide +kernel) (by decide +kernel), gw_in 392 (by decide +kernel) (by decide +kernel)⟩
theorem kX8_spa_85 : CV mX8_spa mX0_start 85 0 := ⟨⟨gw_in 397 (by decide +kernel) (by decide +kernel), gw_in 400 (by decide +kernel) (by decide +kernel), gw_in 52 (by decide +kernel) (by decide +kernel), by decide +kernel, by decide, rfl, rfl, by decide +kernel⟩, gw_in 398 (by decide +kernel) (by decide +kernel), gw_in 399 (by decide +kernel) (by decide +kernel)⟩
theorem kX8_chair_96 : CV mX8_chair mX8_isChair 96 1 := ⟨⟨gw_in 405 (by decide +kernel) (by decide +kernel), gw_in 408 (by decide +kernel) (by decide +kernel), gw_in 49 (by decide +kernel) (by decide +kernel), by decide +kernel, by decide, rfl, rfl, by decide +kernel⟩, gw_in 407 (by decide +kernel) (by decide +kernel), gw_in 10 (by decide +kernel) (by decide +kernel)⟩
theorem kX8_chair_117 : CV mX8_chair mX0_gainOf 117 2 := ⟨⟨gw_in 409 (by decide +kernel) (by decide +kernel), gw_in 412 (by decide +kernel) (by decide +kernel), gw_in 52 (by decide +kernel) (by decide +kernel), by decide +kernel, by decide, rfl, rfl, by decide +kernel⟩, gw_in 410 (by decide +kernel) (by decide +kernel), gw_in 411 (by decide +kernel) (by decide +kernel)⟩
theorem kX8_pusher_96 : CV mX8_pusher mX8_isChair 96 1 := ⟨⟨gw_in 405 (by decide +kernel) (by decide +kernel), gw_in 408 (by decide +kernel) (by decide +kernel), gw_in 49 (by decide +kernel) (by decide +kernel), by decide +kernel, by decide, rfl, rfl, by decide +kernel⟩, gw_in 407 (by decide +kernel) (by decide +kernel), gw_in 10 (by decide +kernel) (by decide +kernel)⟩
theorem kX8_now_136 : CV mX8_now mX6_hasRace 136 0 := ⟨⟨gw_in 436 (by decide +kernel) (by decide +kernel), gw_in 439 (by decide +kernel) (by decide +kernel), gw_in 51 (by decide +kernel) (by decide +kernel), by decide +kernel, by decide, rfl, rfl, by decide +kernel⟩, gw_in 437 (by decide +kernel) (by decide +kernel), gw_in 438 (by decide +kernel) (by decide +kernel)⟩
theorem kX8_now_140 : CV mX8_now mX2_winner 140 0 := ⟨⟨gw_in 440 (by decide +kernel) (by decide +kernel), gw_in 443 (by decide +kernel) (by decide +kernel), gw_in 55 (by decide +kernel) (by decide +kernel), by decide +kernel, by decide, rfl, rfl, by decide +kernel⟩, gw_in 441 (by decide +kernel) (by decide +kernel), gw_in 442 (by decide +kernel) (by decide +kernel)⟩
theorem kX8_now_144 : CV mX8_now mX2_kings 144 0 := ⟨⟨gw_in 477 (by decide +kernel) (by decide +kernel), gw_in 480 (by decide +kernel) (by decide +kernel), gw_in 55 (by decide +kernel) (by decide +kernel), by decide +kernel, by decide, rfl, rfl, by decide +kernel⟩, gw_in 478 (by decide +kernel) (by decide +kernel), gw_in 479 (by decide +kernel) (by decide +kernel)⟩
theorem kX8_now_147 : CV mX8_now mX0_ruledMost 147 1 := ⟨⟨gw_in 493 (by decide +kernel) (by decide +kernel), gw_in 496 (by decide +kernel) (by decide +kernel), gw_in 52 (by decide +kernel) (by decide +kernel), by decide +kernel, by decide, rfl, rfl, by decide +kernel⟩, gw_in 494 (by decide +kernel) (by decide +kernel), gw_in 495 (by decide +kernel) (by decide +kernel)⟩
theorem kX8_now_150 : CV mX8_now mX7_suspects 150 3 := ⟨⟨gw_in 501 (by decide +kernel) (by decide +kernel), gw_in 504 (by decide +kernel) (by decide +kernel), gw_in 54 (by decide +kernel) (by decide +kernel), by decide +kernel, by decide, rfl, rfl, by decide +kernel⟩, gw_in 502 (by decide +kernel) (by decide +kernel), gw_in 503 (by decide +kernel) (by decide +kernel)⟩
theorem kX8_tuesday_136 : CV mX8_tuesday mX6_hasRace 136 0 := ⟨⟨gw_in 436 (by decide +kernel) (by decide +kernel), gw_in 439 (by decide +kernel) (by decide +kernel), gw_in 51 (by decide +kernel) (by decide +kernel), by decide +kernel, by decide, rfl, rfl, by decide +kernel⟩, gw_in 437 (by decide +kernel) (by decide +kernel), gw_in 438 (by decide +kernel) (by decide +kernel)⟩
theorem kX8_tuesday_140 : CV mX8_tuesday mX2_winner 140 0 := ⟨⟨gw_in 440 (by decide +kernel) (by decide +kernel), gw_in 443 (by decide +kernel) (by decide +kernel), gw_in 55 (by decide +kernel) (by decide +kernel), by decide +kernel, by decide, rfl, rfl, by decide +kernel⟩, gw_in 441 (by decide +kernel) (by decide +kernel), gw_in 442 (by decide +kernel) (by decide +kernel)⟩
theorem kX8_tuesday_96 : CV mX8_tuesday mX8_isChair 96 1 := ⟨⟨gw_in 405 (by decide +kernel) (by decide +kernel), gw_in 408 (by decide +kernel) (by decide +kernel), gw_in 49 (by decide +kernel) (by decide +kernel), by decide +kernel, by decide, rfl, rfl, by decide +kernel⟩, gw_in 407 (by decide +kernel) (by decide +kernel), gw_in 10 (by decide +kernel) (by decide +kernel)⟩
theorem kX8_tuesday_154 : CV mX8_tuesday mX1_add 154 3 := ⟨⟨gw_in 521 (by decide +kernel) (by decide +kernel), gw_in 524 (by decide +kernel) (by decide +kernel), gw_in 53 (by decide +kernel) (by decide +kernel), by decide +kernel, by decide, rfl, rfl, by decide +kernel⟩, gw_in 522 (by decide +kernel) (by decide +kernel), gw_in 523 (by decide +kernel) (by decide +kernel)⟩
theorem kX8_changes_96 : CV mX8_changes mX8_isChair 96 1 := ⟨⟨gw_in 405 (by decide +kernel) (by decide +kernel), gw_in 408 (by decide +kernel) (by decide +kernel), gw_in 49 (by decide +kernel) (by decide +kernel), by decide +kernel, by decide, rfl, rfl, by decide +kernel⟩, gw_in 407 (by decide +kernel) (by decide +kernel), gw_in 10 (by decide +kernel) (by decide +kernel)⟩
theorem kX8_changes_158 : CV mX8_changes mX0_exchange 158 2 := ⟨⟨gw_in 534 (by decide +kernel) (by decide +kernel), gw_in 537 (by decide +kernel) (by decide +kernel), gw_in 52 (by decide +kernel) (by decide +kernel), by decide +kernel, by decide, rfl, rfl, by decide +kernel⟩, gw_in 535 (by decide +kernel) (by decide +kernel), gw_in 536 (by decide +kernel) (by decide +kernel)⟩
theorem kX8_changes_154 : CV mX8_changes mX1_add 154 3 := ⟨⟨gw_in 521 (by decide +kernel) (by decide +kernel), gw_in 524 (by decide +kernel) (by decide +kernel), gw_in 53 (by decide +kernel) (by decide +kernel), by decide +kernel, by decide, rfl, rfl, by decide +kernel⟩, gw_in 522 (by decide +kernel) (by decide +kernel), gw_in 523 (by decide +kernel) (by decide +kernel)⟩
theorem kX8_sets_96 : CV mX8_sets mX8_isChair 96 1 := ⟨⟨gw_in 405 (by decide +kernel) (by decide +kernel), gw_in 408 (by decide +kernel) (by decide +kernel), gw_in 49 (by decide +kernel) (by decide +kernel), by decide +kernel, by decide, rfl, rfl, by decide +kernel⟩, gw_in 407 (by decide +kernel) (by decide +kernel), gw_in 10 (by decide +kernel) (by decide +kernel)⟩
theorem kX8_sets_154 : CV mX8_sets mX1_add 154 3 := ⟨⟨gw_in 521 (by decide +kernel) (by decide +kernel), gw_in 524 (by decide +kernel) (by decide +kernel), gw_in 53 (by decide +kernel) (by decide +kernel), by decide +kernel, by decide, rfl, rfl, by decide +kernel⟩, gw_in 522 (by decide +kernel) (by decide +kernel), gw_in 523 (by decide +kernel) (by decide +kernel)⟩
theorem kX8_greases_96 : CV mX8_greases mX8_isChair 96 1 := ⟨⟨gw_in 405 (by decide +kernel) (by decide +kernel), gw_in 408 (by decide +kernel) (by decide +kernel), gw_in 49 (by decide +kernel) (by decide +kernel), by decide +kernel, by decide, rfl, rfl, by decide +kernel⟩, gw_in 407 (by decide +kernel) (by decide +kernel), gw_in 10 (by decide +kernel) (by decide +kernel)⟩
theorem kX8_greases_154 : CV mX8_greases mX1_add 154 3 := ⟨⟨gw_in 521 (by decide +kernel) (by decide +kernel), gw_in 524 (by decide +kernel) (by decide +kernel), gw_in 53 (by decide +kernel) (by decide +kernel), by decide +kernel, by decide, rfl, rfl, by decide +kernel⟩, gw_in 522 (by decide +kernel) (by decide +kernel), gw_in 523 (by decide +kernel) (by decide +kernel)⟩
theorem kX8_greases_165 : CV mX8_greases mX0_greasedCount 165 1 := ⟨⟨gw_in 546 (by decide +kernel) (by decide +kernel), gw_in 549 (by decide +kernel) (by decide +kernel), gw_in 52 (by decide +kernel) (by decide +kernel), by decide +kernel, by decide, rfl, rfl, by decide +kernel⟩, gw_in 547 (by decide +kernel) (by decide +kernel), gw_in 548 (by decide +kernel) (by decide +kernel)⟩
theorem kX8_undo_169 : CV mX8_undo mX1_takeBackLatest 169 1 := ⟨⟨gw_in 554 (by decide +kernel) (by decide +kernel), gw_in 557 (by decide +kernel) (by decide +kernel), gw_in 53 (by decide +kernel) (by decide +kernel), by decide +kernel, by decide, rfl, rfl, by decide +kernel⟩, gw_in 555 (by decide +kernel) (by decide +kernel), gw_in 556 (by decide +kernel) (by decide +kernel)⟩
theorem kX8_time_96 : CV mX8_time mX8_isChair 96 1 := ⟨⟨gw_in 405 (by decide +kernel) (by decide +kernel), gw_in 408 (by decide +kernel) (by decide +kernel), gw_in 49 (by decide +kernel) (by decide +kernel), by decide +kernel, by decide, rfl, rfl, by decide +kernel⟩, gw_in 407 (by decide +kernel) (by decide +kernel), gw_in 10 (by decide +kernel) (by decide +kernel)⟩
theorem kX8_time_136 : CV mX8_time mX6_hasRace 136 0 := ⟨⟨gw_in 436 (by decide +kernel) (by decide +kernel), gw_in 439 (by decide +kernel) (by decide +kernel), gw_in 51 (by decide +kernel) (by decide +kernel), by decide +kernel, by decide, rfl, rfl, by decide +kernel⟩, gw_in 437 (by decide +kernel) (by decide +kernel), gw_in 438 (by decide +kernel) (by decide +kernel)⟩
theorem kX8_time_173 : CV mX8_time mX2_timeOf 173 1 := ⟨⟨gw_in 563 (by decide +kernel) (by decide +kernel), gw_in 566 (by decide +kernel) (by decide +kernel), gw_in 55 (by decide +kernel) (by decide +kernel), by decide +kernel, by decide, rfl, rfl, by decide +kernel⟩, gw_in 564 (by decide +kernel) (by decide +kernel), gw_in 565 (by decide +kernel) (by decide +kernel)⟩
theorem kX8_place_96 : CV mX8_place mX8_isChair 96 1 := ⟨⟨gw_in 405 (by decide +kernel) (by decide +kernel), gw_in 408 (by decide +kernel) (by decide +kernel), gw_in 49 (by decide +kernel) (by decide +kernel), by decide +kernel, by decide, rfl, rfl, by decide +kernel⟩, gw_in 407 (by decide +kernel) (by decide +kernel), gw_in 10 (by decide +kernel) (by decide +kernel)⟩
theorem kX8_place_136 : CV mX8_place mX6_hasRace 136 0 := ⟨⟨gw_in 436 (by decide +kernel) (by decide +kernel), gw_in 439 (by decide +kernel) (by decide +kernel), gw_in 51 (by decide +kernel) (by decide +kernel), by decide +kernel, by decide, rfl, rfl, by decide +kernel⟩, gw_in 437 (by decide +kernel) (by decide +kernel), gw_in 438 (by decide +kernel) (by decide +kernel)⟩
theorem kX8_place_176 : CV mX8_place mX2_placed 176 1 := ⟨⟨gw_in 571 (by decide +kernel) (by decide +kernel), gw_in 574 (by decide +kernel) (by decide +kernel), gw_in 55 (by decide +kernel) (by decide +kernel), by decide +kernel, by decide, rfl, rfl, by decide +kernel⟩, gw_in 572 (by decide +kernel) (by decide +kernel), gw_in 573 (by decide +kernel) (by decide +kernel)⟩
theorem kX8_alone_96 : CV mX8_alone mX8_isChair 96 1 := ⟨⟨gw_in 405 (by decide +kernel) (by decide +kernel), gw_in 408 (by decide +kernel) (by decide +kernel), gw_in 49 (by decide +kernel) (by decide +kernel), by decide +kernel, by decide, rfl, rfl, by decide +kernel⟩, gw_in 407 (by decide +kernel) (by decide +kernel), gw_in 10 (by decide +kernel) (by decide +kernel)⟩
theorem kX8_alone_136 : CV mX8_alone mX6_hasRace 136 0 := ⟨⟨gw_in 436 (by decide +kernel) (by decide +kernel), gw_in 439 (by decide +kernel) (by decide +kernel), gw_in 51 (by decide +kernel) (by decide +kernel), by decide +kernel, by decide, rfl, rfl, by decide +kernel⟩, gw_in 437 (by decide +kernel) (by decide +kernel), gw_in 438 (by decide +kernel) (by decide +kernel)⟩
theorem kX8_alone_179 : CV mX8_alone mX0_aloneOf 179 3 := ⟨⟨gw_in 579 (by decide +kernel) (by decide +kernel), gw_in 512 (by decide +kernel) (by decide +kernel), gw_in 52 (by decide +kernel) (by decide +kernel), by decide +kernel, by decide, rfl, rfl, by decide +kernel⟩, gw_in 510 (by decide +kernel) (by decide +kernel), gw_in 511 (by decide +kernel) (by decide +kernel)⟩
theorem kX8_king_96 : CV mX8_king mX8_isChair 96 1 := ⟨⟨gw_in 405 (by decide +kernel) (by decide +kernel), gw_in 408 (by decide +kernel) (by decide +kernel), gw_in 49 (by decide +kernel) (by decide +kernel), by decide +kernel, by decide, rfl, rfl, by decide +kernel⟩, gw_in 407 (by decide +kernel) (by decide +kernel), gw_in 10 (by decide +kernel) (by decide +kernel)⟩
theorem kX8_king_136 : CV mX8_king mX6_hasRace 136 0 := ⟨⟨gw_in 436 (by decide +kernel) (by decide +kernel), gw_in 439 (by decide +kernel) (by decide +kernel), gw_in 51 (by decide +kernel) (by decide +kernel), by decide +kernel, by decide, rfl, rfl, by decide +kernel⟩, gw_in 437 (by decide +kernel) (by decide +kernel), gw_in 438 (by decide +kernel) (by decide +kernel)⟩
theorem kX8_king_183 : CV mX8_king mX2_findKing 183 1 := ⟨⟨gw_in 584 (by decide +kernel) (by decide +kernel), gw_in 587 (by decide +kernel) (by decide +kernel), gw_in 55 (by decide +kernel) (by decide +kernel), by decide +kernel, by decide, rfl, rfl, by decide +kernel⟩, gw_in 585 (by decide +kernel) (by decide +kernel), gw_in 586 (by decide +kernel) (by decide +kernel)⟩
theorem kX8_king_186 : CV mX8_king mX2_kingsPusher 186 1 := ⟨⟨gw_in 593 (by decide +kernel) (by decide +kernel), gw_in 596 (by decide +kernel) (by decide +kernel), gw_in 55 (by decide +kernel) (by decide +kernel), by decide +kernel, by decide, rfl, rfl, by decide +kernel⟩, gw_in 594 (by decide +kernel) (by decide +kernel), gw_in 595 (by decide +kernel) (by decide +kernel)⟩
theorem kX8_fair_96 : CV mX8_fair mX8_isChair 96 1 := ⟨⟨gw_in 405 (by decide +kernel) (by decide +kernel), gw_in 408 (by decide +kernel) (by decide +kernel), gw_in 49 (by decide +kernel) (by decide +kernel), by decide +kernel, by decide, rfl, rfl, by decide +kernel⟩, gw_in 407 (by decide +kernel) (by decide +kernel), gw_in 10 (by decide +kernel) (by decide +kernel)⟩
theorem kX8_fair_136 : CV mX8_fair mX6_hasRace 136 0 := ⟨⟨gw_in 436 (by decide +kernel) (by decide +kernel), gw_in 439 (by decide +kernel) (by decide +kernel), gw_in 51 (by decide +kernel) (by decide +kernel), by decide +kernel, by decide, rfl, rfl, by decide +kernel⟩, gw_in 437 (by decide +kernel) (by decide +kernel), gw_in 438 (by decide +kernel) (by decide +kernel)⟩
theorem kX8_fair_189 : CV mX8_fair mX2_fairGoal 189 0 := ⟨⟨gw_in 601 (by decide +kernel) (by decide +kernel), gw_in 604 (by decide +kernel) (by decide +kernel), gw_in 55 (by decide +kernel) (by decide +kernel), by decide +kernel, by decide, rfl, rfl, by decide +kernel⟩, gw_in 602 (by decide +kernel) (by decide +kernel), gw_in 603 (by decide +kernel) (by decide +kernel)⟩
theorem kX8_fair_192 : CV mX8_fair mX2_spreadFor 192 1 := ⟨⟨gw_in 620 (by decide +kernel) (by decide +kernel), gw_in 610 (by decide +kernel) (by decide +kernel), gw_in 55 (by decide +kernel) (by decide +kernel), by decide +kernel, by decide, rfl, rfl, by decide +kernel⟩, gw_in 608 (by decide +kernel) (by decide +kernel), gw_in 609 (by decide +kernel) (by decide +kernel)⟩
theorem kX8_fair_195 : CV mX8_fair mX2_handicapFor 195 2 := ⟨⟨gw_in 621 (by decide +kernel) (by decide +kernel), gw_in 615 (by decide +kernel) (by decide +kernel), gw_in 55 (by decide +kernel) (by decide +kernel), by decide +kernel, by decide, rfl, rfl, by decide +kernel⟩, gw_in 613 (by decide +kernel) (by decide +kernel), gw_in 614 (by decide +kernel) (by decide +kernel)⟩
theorem kX8_odds_96 : CV mX8_odds mX8_isChair 96 1 := ⟨⟨gw_in 405 (by decide +kernel) (by decide +kernel), gw_in 408 (by decide +kernel) (by decide +kernel), gw_in 49 (by decide +kernel) (by decide +kernel), by decide +kernel, by decide, rfl, rfl, by decide +kernel⟩, gw_in 407 (by decide +kernel) (by decide +kernel), gw_in 10 (by decide +kernel) (by decide +kernel)⟩
theorem kX8_odds_136 : CV mX8_odds mX6_hasRace 136 0 := ⟨⟨gw_in 436 (by decide +kernel) (by decide +kernel), gw_in 439 (by decide +kernel) (by decide +kernel), gw_in 51 (by decide +kernel) (by decide +kernel), by decide +kernel, by decide, rfl, rfl, by decide +kernel⟩, gw_in 437 (by decide +kernel) (by decide +kernel), gw_in 438 (by decide +kernel) (by decide +kernel)⟩
theorem kX8_odds_199 : CV mX8_odds mX2_winsIn 199 2 := ⟨⟨gw_in 626 (by decide +kernel) (by decide +kernel), gw_in 629 (by decide +kernel) (by decide +kernel), gw_in 55 (by decide +kernel) (by decide +kernel), by decide +kernel, by decide, rfl, rfl, by decide +kernel⟩, gw_in 627 (by decide +kernel) (by decide +kernel), gw_in 628 (by decide +kernel) (by decide +kernel)⟩
theorem kX8_odds_202 : CV mX8_odds mX2_allIn 202 0 := ⟨⟨gw_in 634 (by decide +kernel) (by decide +kernel), gw_in 637 (by decide +kernel) (by decide +kernel), gw_in 55 (by decide +kernel) (by decide +kernel), by decide +kernel, by decide, rfl, rfl, by decide +kernel⟩, gw_in 635 (by decide +kernel) (by decide +kernel), gw_in 636 (by decide +kernel) (by decide +kernel)⟩
theorem kX8_odds_205 : CT mX8_odds mX8_commonDivisor 205 2 := ⟨⟨gw_in 638 (by decide +kernel) (by decide +kernel), gw_in 640 (by decide +kernel) (by decide +kernel), gw_in 49 (by decide +kernel) (by decide +kernel), by decide +kernel, by decide, rfl, rfl, by decide +kernel⟩, gw_in 639 (by decide +kernel) (by decide +kernel)⟩
theorem kX8_times_96 : CV mX8_times mX8_isChair 96 1 := ⟨⟨gw_in 405 (by decide +kernel) (by decide +kernel), gw_in 408 (by decide +kernel) (by decide +kernel), gw_in 49 (by decide +kernel) (by decide +kernel), by decide +kernel, by decide, rfl, rfl, by decide +kernel⟩, gw_in 407 (by decide +kernel) (by decide +kernel), gw_in 10 (by decide +kernel) (by decide +kernel)⟩
theorem kX8_times_136 : CV mX8_times mX6_hasRace 136 0 := ⟨⟨gw_in 436 (by decide +kernel) (by decide +kernel), gw_in 439 (by decide +kernel) (by decide +kernel), gw_in 51 (by decide +kernel) (by decide +kernel), by decide +kernel, by decide, rfl, rfl, by decide +kernel⟩, gw_in 437 (by decide +kernel) (by decide +kernel), gw_in 438 (by decide +kernel) (by decide +kernel)⟩
theorem kX8_times_208 : CV mX8_times mX7_note 208 2 := ⟨⟨gw_in 645 (by decide +kernel) (by decide +kernel), gw_in 648 (by decide +kernel) (by decide +kernel), gw_in 54 (by decide +kernel) (by decide +kernel), by decide +kernel, by decide, rfl, rfl, by decide +kernel⟩, gw_in 646 (by decide +kernel) (by decide +kernel), gw_in 647 (by decide +kernel) (by decide +kernel)⟩
theorem kX8_rate_96 : CV mX8_rate mX8_isChair 96 1 := ⟨⟨gw_in 405 (by decide +kernel) (by decide +kernel), gw_in 408 (by decide +kernel) (by decide +kernel), gw_in 49 (by decide +kernel) (by decide +kernel), by decide +kernel, by decide, rfl, rfl, by decide +kernel⟩, gw_in 407 (by decide +kernel) (by decide +kernel), gw_in 10 (by decide +kernel) (by decide +kernel)⟩
theorem kX8_rate_212 : CV mX8_rate mX3_asChair 212 1 := ⟨⟨gw_in 658 (by decide +kernel) (by decide +kernel), gw_in 661 (by decide +kernel) (by decide +kernel), gw_in 57 (by decide +kernel) (by decide +kernel), by decide +kernel, by decide, rfl, rfl, by decide +kernel⟩, gw_in 659 (by decide +kernel) (by decide +kernel), gw_in 660 (by decide +kernel) (by decide +kernel)⟩
theorem kX8_rate_215 : CV mX8_rate mX3_asWidow 215 1 := ⟨⟨gw_in 662 (by decide +kernel) (by decide +kernel), gw_in 665 (by decide +kernel) (by decide +kernel), gw_in 57 (by decide +kernel) (by decide +kernel), by decide +kernel, by decide, rfl, rfl, by decide +kernel⟩, gw_in 663 (by decide +kernel) (by decide +kernel), gw_in 664 (by decide +kernel) (by decide +kernel)⟩
theorem kX8_rate_218 : CV mX8_rate mX3_asAunt 218 1 := ⟨⟨gw_in 668 (by decide +kernel) (by decide +kernel), gw_in 671 (by decide +kernel) (by decide +kernel), gw_in 57 (by decide +kernel) (by decide +kernel), by decide +kernel, by decide, rfl, rfl, by decide +kernel⟩, gw_in 669 (by decide +kernel) (by decide +kernel), gw_in 670 (by decide +kernel) (by decide +kernel)⟩
theorem kX8_rate_221 : CV mX8_rate mX3_asPug 221 1 := ⟨⟨gw_in 674 (by decide +kernel) (by decide +kernel), gw_in 677 (by decide +kernel) (by decide +kernel), gw_in 57 (by decide +kernel) (by decide +kernel), by decide +kernel, by decide, rfl, rfl, by decide +kernel⟩, gw_in 675 (by decide +kernel) (by decide +kernel), gw_in 676 (by decide +kernel) (by decide +kernel)⟩
theorem kX8_rate_224 : CV mX8_rate mX3_asVeil 224 1 := ⟨⟨gw_in 680 (by decide +kernel) (by decide +kernel), gw_in 683 (by decide +kernel) (by decide +kernel), gw_in 57 (by decide +kernel) (by decide +kernel), by decide +kernel, by decide, rfl, rfl, by decide +kernel⟩, gw_in 681 (by decide +kernel) (by decide +kernel), gw_in 682 (by decide +kernel) (by decide +kernel)⟩
theorem kX8_rate_227 : CV mX8_rate mX3_asInfant 227 1 := ⟨⟨gw_in 686 (by decide +kernel) (by decide +kernel), gw_in 689 (by decide +kernel) (by decide +kernel), gw_in 57 (by decide +kernel) (by decide +kernel), by decide +kernel, by decide, rfl, rfl, by decide +kernel⟩, gw_in 687 (by decide +kernel) (by decide +kernel), gw_in 688 (by decide +kernel) (by decide +kernel)⟩
theorem kX8_keep_230 : CV mX8_keep mX8_imageOf 230 1 := ⟨⟨gw_in 695 (by decide +kernel) (by decide +kernel), gw_in 698 (by decide +kernel) (by decide +kernel), gw_in 49 (by decide +kernel) (by decide +kernel), by decide +kernel, by decide, rfl, rfl, by decide +kernel⟩, gw_in 697 (by decide +kernel) (by decide +kernel), gw_in 24 (by decide +kernel) (by decide +kernel)⟩
theorem kX8_keep_234 : CV mX8_keep mX0_become 234 1 := ⟨⟨gw_in 699 (by decide +kernel) (by decide +kernel), gw_in 702 (by decide +kernel) (by decide +kernel), gw_in 52 (by decide +kernel) (by decide +kernel), by decide +kernel, by decide, rfl, rfl, by decide +kernel⟩, gw_in 700 (by decide +kernel) (by decide +kernel), gw_in 701 (by decide +kernel) (by decide +kernel)⟩
theorem kX8_back_230 : CV mX8_back mX8_imageOf 230 1 := ⟨⟨gw_in 695 (by decide +kernel) (by decide +kernel), gw_in 698 (by decide +kernel) (by decide +kernel), gw_in 49 (by decide +kernel) (by decide +kernel), by decide +kernel, by decide, rfl, rfl, by decide +kernel⟩, gw_in 697 (by decide +kernel) (by decide +kernel), gw_in 24 (by decide +kernel) (by decide +kernel)⟩
theorem kX8_back_234 : CV mX8_back mX0_become 234 1 := ⟨⟨gw_in 699 (by decide +kernel) (by decide +kernel), gw_in 702 (by decide +kernel) (by decide +kernel), gw_in 52 (by decide +kernel) (by decide +kernel), by decide +kernel, by decide, rfl, rfl, by decide +kernel⟩, gw_in 700 (by decide +kernel) (by decide +kernel), gw_in 701 (by decide +kernel) (by decide +kernel)⟩
theorem kX9_isChair_78 : CT mX9_isChair mX9_in 78 3 := ⟨⟨gw_in 834 (by decide +kernel) (by decide +kernel), gw_in 836 (by decide +kernel) (by decide +kernel), gw_in 58 (by decide +kernel) (by decide +kernel), by decide +kernel, by decide, rfl, rfl, by decide +kernel⟩, gw_in 835 (by decide +kernel) (by decide +kernel)⟩
theorem kX9_type_78 : CT mX9_type mX9_in 78 3 := ⟨⟨gw_in 834 (by decide +kernel) (by decide +kernel), gw_in 836 (by decide +kernel) (by decide +kernel), gw_in 58 (by decide +kernel) (by decide +kernel), by decide +kernel, by decide, rfl, rfl, by decide +kernel⟩, gw_in 835 (by decide +kernel) (by decide +kernel)⟩
theorem kX9_isFigure_78 : CT mX9_isFigure mX9_in 78 3 := ⟨⟨gw_in 834 (by decide +kernel) (by decide +kernel), gw_in 836 (by decide +kernel) (by decide +kernel), gw_in 58 (by decide +kernel) (by decide +kernel), by decide +kernel, by decide, rfl, rfl, by decide +kernel⟩, gw_in 835 (by decide +kernel) (by decide +kernel)⟩
theorem kX9_isLetter_87 : CT mX9_isLetter mX9_costOf 87 1 := ⟨⟨gw_in 859 (by decide +kernel) (by decide +kernel), gw_in 861 (by decide +kernel) (by decide +kernel), gw_in 58 (by decide +kernel) (by decide +kernel), by decide +kernel, by decide, rfl, rfl, by decide +kernel⟩, gw_in 860 (by decide +kernel) (by decide +kernel)⟩
theorem kX9_next_94 : CV mX9_next mX9_letterAt 94 1 := ⟨⟨gw_in 849 (by decide +kernel) (by decide +kernel), gw_in 852 (by decide +kernel) (by decide +kernel), gw_in 58 (by decide +kernel) (by decide +kernel), by decide +kernel, by decide, rfl, rfl, by decide +kernel⟩, gw_in 851 (by decide +kernel) (by decide +kernel), gw_in 26 (by decide +kernel) (by decide +kernel)⟩
theorem kX9_next_106 : CT mX9_next mX9_isFigure 106 1 := ⟨⟨gw_in 853 (by decide +kernel) (by decide +kernel), gw_in 855 (by decide +kernel) (by decide +kernel), gw_in 58 (by decide +kernel) (by decide +kernel), by decide +kernel, by decide, rfl, rfl, by decide +kernel⟩, gw_in 854 (by decide +kernel) (by decide +kernel)⟩
theorem kX9_next_110 : CT mX9_next mX9_isLetter 110 1 := ⟨⟨gw_in 856 (by decide +kernel) (by decide +kernel), gw_in 858 (by decide +kernel) (by decide +kernel), gw_in 58 (by decide +kernel) (by decide +kernel), by decide +kernel, by decide, rfl, rfl, by decide +kernel⟩, gw_in 857 (by decide +kernel) (by decide +kernel)⟩
theorem kX9_takes_78 : CT mX9_takes mX9_in 78 3 := ⟨⟨gw_in 834 (by decide +kernel) (by decide +kernel), gw_in 836 (by decide +kernel) (by decide +kernel), gw_in 58 (by decide +kernel) (by decide +kernel), by decide +kernel, by decide, rfl, rfl, by decide +kernel⟩, gw_in 835 (by decide +kernel) (by decide +kernel)⟩
theorem kX9_takes_117 : CV mX9_takes mX9_next 117 0 := ⟨⟨gw_in 845 (by decide +kernel) (by decide +kernel), gw_in 848 (by decide +kernel) (by decide +kernel), gw_in 58 (by decide +kernel) (by decide +kernel), by decide +kernel, by decide, rfl, rfl, by decide +kernel⟩, gw_in 847 (by decide +kernel) (by decide +kernel), gw_in 25 (by decide +kernel) (by decide +kernel)⟩
theorem kX9_readCells_87 : CT mX9_readCells mX9_costOf 87 1 := ⟨⟨gw_in 859 (by decide +kernel) (by decide +kernel), gw_in 861 (by decide +kernel) (by decide +kernel), gw_in 58 (by decide +kernel) (by decide +kernel), by decide +kernel, by decide, rfl, rfl, by decide +kernel⟩, gw_in 860 (by decide +kernel) (by decide +kernel)⟩
theorem kX9_readCells_117 : CV mX9_readCells mX9_next 117 0 := ⟨⟨gw_in 845 (by decide +kernel) (by decide +kernel), gw_in 848 (by decide +kernel) (by decide +kernel), gw_in 58 (by decide +kernel) (by decide +kernel), by decide +kernel, by decide, rfl, rfl, by decide +kernel⟩, gw_in 847 (by decide +kernel) (by decide +kernel), gw_in 25 (by decide +kernel) (by decide +kernel)⟩
theorem kX9_readChair_126 : CV mX9_readChair mX9_takes 126 2 := ⟨⟨gw_in 874 (by decide +kernel) (by decide +kernel), gw_in 877 (by decide +kernel) (by decide +kernel), gw_in 58 (by decide +kernel) (by decide +kernel), by decide +kernel, by decide, rfl, rfl, by decide +kernel⟩, gw_in 876 (by decide +kernel) (by decide +kernel), gw_in 30 (by decide +kernel) (by decide +kernel)⟩
theorem kX9_readPusher_126 : CV mX9_readPusher mX9_takes 126 2 := ⟨⟨gw_in 874 (by decide +kernel) (by decide +kernel), gw_in 877 (by decide +kernel) (by decide +kernel), gw_in 58 (by decide +kernel) (by decide +kernel), by decide +kernel, by decide, rfl, rfl, by decide +kernel⟩, gw_in 876 (by decide +kernel) (by decide +kernel), gw_in 30 (by decide +kernel) (by decide +kernel)⟩
theorem kX9_readItem_117 : CV mX9_readItem mX9_next 117 0 := ⟨⟨gw_in 845 (by decide +kernel) (by decide +kernel), gw_in 848 (by decide +kernel) (by decide +kernel), gw_in 58 (by decide +kernel) (by decide +kernel), by decide +kernel, by decide, rfl, rfl, by decide +kernel⟩, gw_in 847 (by decide +kernel) (by decide +kernel), gw_in 25 (by decide +kernel) (by decide +kernel)⟩
theorem kX9_readItem_130 : CV mX9_readItem mX9_readCells 130 0 := ⟨⟨gw_in 866 (by decide +kernel) (by decide +kernel), gw_in 869 (by decide +kernel) (by decide +kernel), gw_in 58 (by decide +kernel) (by decide +kernel), by decide +kernel, by decide, rfl, rfl, by decide +kernel⟩, gw_in 868 (by decide +kernel) (by decide +kernel), gw_in 28 (by decide +kernel) (by decide +kernel)⟩
theorem kX9_readItem_133 : CV mX9_readItem mX9_readChair 133 0 := ⟨⟨gw_in 870 (by decide +kernel) (by decide +kernel), gw_in 873 (by decide +kernel) (by decide +kernel), gw_in 58 (by decide +kernel) (by decide +kernel), by decide +kernel, by decide, rfl, rfl, by decide +kernel⟩, gw_in 872 (by decide +kernel) (by decide +kernel), gw_in 29 (by decide +kernel) (by decide +kernel)⟩
theorem kX9_readItem_136 : CV mX9_readItem mX9_readPusher 136 0 := ⟨⟨gw_in 878 (by decide +kernel) (by decide +kernel), gw_in 881 (by decide +kernel) (by decide +kernel), gw_in 58 (by decide +kernel) (by decide +kernel), by decide +kernel, by decide, rfl, rfl, by decide +kernel⟩, gw_in 880 (by decide +kernel) (by decide +kernel), gw_in 31 (by decide +kernel) (by decide +kernel)⟩
theorem kX9_spa_117 : CV mX9_spa mX9_next 117 0 := ⟨⟨gw_in 845 (by decide +kernel) (by decide +kernel), gw_in 848 (by decide +kernel) (by decide +kernel), gw_in 58 (by decide +kernel) (by decide +kernel), by decide +kernel, by decide, rfl, rfl, by decide +kernel⟩, gw_in 847 (by decide +kernel) (by decide +kernel), gw_in 25 (by decide +kernel) (by decide +kernel)⟩
theorem kX9_spa_142 : CV mX9_spa mX9_readItem 142 0 := ⟨⟨gw_in 862 (by decide +kernel) (by decide +kernel), gw_in 865 (by decide +kernel) (by decide +kernel), gw_in 58 (by decide +kernel) (by decide +kernel), by decide +kernel, by decide, rfl, rfl, by decide +kernel⟩, gw_in 864 (by decide +kernel) (by decide +kernel), gw_in 27 (by decide +kernel) (by decide +kernel)⟩
theorem kX9_spa_145 : CV mX9_spa mX9_settles 145 0 := ⟨⟨gw_in 882 (by decide +kernel) (by decide +kernel), gw_in 885 (by decide +kernel) (by decide +kernel), gw_in 58 (by decide +kernel) (by decide +kernel), by decide +kernel, by decide, rfl, rfl, by decide +kernel⟩, gw_in 884 (by decide +kernel) (by decide +kernel), gw_in 32 (by decide +kernel) (by decide +kernel)⟩
theorem kX9_asItIs_154 : CT mX9_asItIs mX9_copy 154 4 := ⟨⟨gw_in 898 (by decide +kernel) (by decide +kernel), gw_in 900 (by decide +kernel) (by decide +kernel), gw_in 58 (by decide +kernel) (by decide +kernel), by decide +kernel, by decide, rfl, rfl, by decide +kernel⟩, gw_in 899 (by decide +kernel) (by decide +kernel)⟩
theorem kX9_gainOf_158 : CT mX9_gainOf mX9_has 158 2 := ⟨⟨gw_in 901 (by decide +kernel) (by decide +kernel), gw_in 903 (by decide +kernel) (by decide +kernel), gw_in 58 (by decide +kernel) (by decide +kernel), by decide +kernel, by decide, rfl, rfl, by decide +kernel⟩, gw_in 902 (by decide +kernel) (by decide +kernel)⟩
theorem kX9_goes_165 : CV mX9_goes mX9_isTaken 165 2 := ⟨⟨gw_in 936 (by decide +kernel) (by decide +kernel), gw_in 939 (by decide +kernel) (by decide +kernel), gw_in 58 (by decide +kernel) (by decide +kernel), by decide +kernel, by decide, rfl, rfl, by decide +kernel⟩, gw_in 938 (by decide +kernel) (by decide +kernel), gw_in 40 (by decide +kernel) (by decide +kernel)⟩
theorem kX9_races_168 : CV mX9_races mX9_gainOf 168 2 := ⟨⟨gw_in 904 (by decide +kernel) (by decide +kernel), gw_in 907 (by decide +kernel) (by decide +kernel), gw_in 58 (by decide +kernel) (by decide +kernel), by decide +kernel, by decide, rfl, rfl, by decide +kernel⟩, gw_in 906 (by decide +kernel) (by decide +kernel), gw_in 35 (by decide +kernel) (by decide +kernel)⟩
theorem kX9_races_171 : CV mX9_races mX9_goes 171 3 := ⟨⟨gw_in 932 (by decide +kernel) (by decide +kernel), gw_in 935 (by decide +kernel) (by decide +kernel), gw_in 58 (by decide +kernel) (by decide +kernel), by decide +kernel, by decide, rfl, rfl, by decide +kernel⟩, gw_in 934 (by decide +kernel) (by decide +kernel), gw_in 39 (by decide +kernel) (by decide +kernel)⟩
theorem kX9_aloneOf_168 : CV mX9_aloneOf mX9_gainOf 168 2 := ⟨⟨gw_in 904 (by decide +kernel) (by decide +kernel), gw_in 907 (by decide +kernel) (by decide +kernel), gw_in 58 (by decide +kernel) (by decide +kernel), by decide +kernel, by decide, rfl, rfl, by decide +kernel⟩, gw_in 906 (by decide +kernel) (by decide +kernel), gw_in 35 (by decide +kernel) (by decide +kernel)⟩
theorem kX9_chair_175 : CV mX9_chair mX9_isChair 175 1 := ⟨⟨gw_in 890 (by decide +kernel) (by decide +kernel), gw_in 893 (by decide +kernel) (by decide +kernel), gw_in 58 (by decide +kernel) (by decide +kernel), by decide +kernel, by decide, rfl, rfl, by decide +kernel⟩, gw_in 892 (by decide +kernel) (by decide +kernel), gw_in 33 (by decide +kernel) (by decide +kernel)⟩
theorem kX9_chair_178 : CV mX9_chair mX9_asItIs 178 0 := ⟨⟨gw_in 894 (by decide +kernel) (by decide +kernel), gw_in 897 (by decide +kernel) (by decide +kernel), gw_in 58 (by decide +kernel) (by decide +kernel), by decide +kernel, by decide, rfl, rfl, by decide +kernel⟩, gw_in 896 (by decide +kernel) (by decide +kernel), gw_in 34 (by decide +kernel) (by decide +kernel)⟩
theorem kX9_chair_158 : CT mX9_chair mX9_has 158 2 := ⟨⟨gw_in 901 (by decide +kernel) (by decide +kernel), gw_in 903 (by decide +kernel) (by decide +kernel), gw_in 58 (by decide +kernel) (by decide +kernel), by decide +kernel, by decide, rfl, rfl, by decide +kernel⟩, gw_in 902 (by decide +kernel) (by decide +kernel)⟩
theorem kX9_chair_168 : CV mX9_chair mX9_gainOf 168 2 := ⟨⟨gw_in 904 (by decide +kernel) (by decide +kernel), gw_in 907 (by decide +kernel) (by decide +kernel), gw_in 58 (by decide +kernel) (by decide +kernel), by decide +kernel, by decide, rfl, rfl, by decide +kernel⟩, gw_in 906 (by decide +kernel) (by decide +kernel), gw_in 35 (by decide +kernel) (by decide +kernel)⟩
theorem kX9_pusher_175 : CV mX9_pusher mX9_isChair 175 1 := ⟨⟨gw_in 890 (by decide +kernel) (by decide +kernel), gw_in 893 (by decide +kernel) (by decide +kernel), gw_in 58 (by decide +kernel) (by decide +kernel), by decide +kernel, by decide, rfl, rfl, by decide +kernel⟩, gw_in 892 (by decide +kernel) (by decide +kernel), gw_in 33 (by decide +kernel) (by decide +kernel)⟩
theorem kX9_cell_78 : CT mX9_cell mX9_in 78 3 := ⟨⟨gw_in 834 (by decide +kernel) (by decide +kernel), gw_in 836 (by decide +kernel) (by decide +kernel), gw_in 58 (by decide +kernel) (by decide +kernel), by decide +kernel, by decide, rfl, rfl, by decide +kernel⟩, gw_in 835 (by decide +kernel) (by decide +kernel)⟩
theorem kX9_isSo_178 : CV mX9_isSo mX9_asItIs 178 0 := ⟨⟨gw_in 894 (by decide +kernel) (by decide +kernel), gw_in 897 (by decide +kernel) (by decide +kernel), gw_in 58 (by decide +kernel) (by decide +kernel), by decide +kernel, by decide, rfl, rfl, by decide +kernel⟩, gw_in 896 (by decide +kernel) (by decide +kernel), gw_in 34 (by decide +kernel) (by decide +kernel)⟩
theorem kX9_isSo_181 : CV mX9_isSo mX9_aloneOf 181 1 := ⟨⟨gw_in 963 (by decide +kernel) (by decide +kernel), gw_in 966 (by decide +kernel) (by decide +kernel), gw_in 58 (by decide +kernel) (by decide +kernel), by decide +kernel, by decide, rfl, rfl, by decide +kernel⟩, gw_in 965 (by decide +kernel) (by decide +kernel), gw_in 46 (by decide +kernel) (by decide +kernel)⟩
theorem kX9_suspects_184 : CV mX9_suspects mX9_isRace 184 0 := ⟨⟨gw_in 920 (by decide +kernel) (by decide +kernel), gw_in 923 (by decide +kernel) (by decide +kernel), gw_in 58 (by decide +kernel) (by decide +kernel), by decide +kernel, by decide, rfl, rfl, by decide +kernel⟩, gw_in 922 (by decide +kernel) (by decide +kernel), gw_in 36 (by decide +kernel) (by decide +kernel)⟩
theorem kX9_suspects_188 : CV mX9_suspects mX9_isSo 188 2 := ⟨⟨gw_in 959 (by decide +kernel) (by decide +kernel), gw_in 962 (by decide +kernel) (by decide +kernel), gw_in 58 (by decide +kernel) (by decide +kernel), by decide +kernel, by decide, rfl, rfl, by decide +kernel⟩, gw_in 961 (by decide +kernel) (by decide +kernel), gw_in 45 (by decide +kernel) (by decide +kernel)⟩
theorem kX9_first_178 : CV mX9_first mX9_asItIs 178 0 := ⟨⟨gw_in 894 (by decide +kernel) (by decide +kernel), gw_in 897 (by decide +kernel) (by decide +kernel), gw_in 58 (by decide +kernel) (by decide +kernel), by decide +kernel, by decide, rfl, rfl, by decide +kernel⟩, gw_in 896 (by decide +kernel) (by decide +kernel), gw_in 34 (by decide +kernel) (by decide +kernel)⟩
theorem kX9_first_192 : CV mX9_first mX9_races 192 1 := ⟨⟨gw_in 928 (by decide +kernel) (by decide +kernel), gw_in 931 (by decide +kernel) (by decide +kernel), gw_in 58 (by decide +kernel) (by decide +kernel), by decide +kernel, by decide, rfl, rfl, by decide +kernel⟩, gw_in 930 (by decide +kernel) (by decide +kernel), gw_in 38 (by decide +kernel) (by decide +kernel)⟩
theorem kX9_now_184 : CV mX9_now mX9_isRace 184 0 := ⟨⟨gw_in 920 (by decide +kernel) (by decide +kernel), gw_in 923 (by decide +kernel) (by decide +kernel), gw_in 58 (by decide +kernel) (by decide +kernel), by decide +kernel, by decide, rfl, rfl, by decide +kernel⟩, gw_in 922 (by decide +kernel) (by decide +kernel), gw_in 36 (by decide +kernel) (by decide +kernel)⟩
theorem kX9_now_196 : CV mX9_now mX9_first 196 0 := ⟨⟨gw_in 924 (by decide +kernel) (by decide +kernel), gw_in 927 (by decide +kernel) (by decide +kernel), gw_in 58 (by decide +kernel) (by decide +kernel), by decide +kernel, by decide, rfl, rfl, by decide +kernel⟩, gw_in 926 (by decide +kernel) (by decide +kernel), gw_in 37 (by decide +kernel) (by decide +kernel)⟩
theorem kX9_now_200 : CV mX9_now mX9_kings 200 0 := ⟨⟨gw_in 940 (by decide +kernel) (by decide +kernel), gw_in 943 (by decide +kernel) (by decide +kernel), gw_in 58 (by decide +kernel) (by decide +kernel), by decide +kernel, by decide, rfl, rfl, by decide +kernel⟩, gw_in 942 (by decide +kernel) (by decide +kernel), gw_in 41 (by decide +kernel) (by decide +kernel)⟩
theorem kX9_now_203 : CV mX9_now mX9_ruled 203 0 := ⟨⟨gw_in 951 (by decide +kernel) (by decide +kernel), gw_in 954 (by decide +kernel) (by decide +kernel), gw_in 58 (by decide +kernel) (by decide +kernel), by decide +kernel, by decide, rfl, rfl, by decide +kernel⟩, gw_in 953 (by decide +kernel) (by decide +kernel), gw_in 43 (by decide +kernel) (by decide +kernel)⟩
theorem kX9_now_206 : CV mX9_now mX9_suspects 206 1 := ⟨⟨gw_in 955 (by decide +kernel) (by decide +kernel), gw_in 958 (by decide +kernel) (by decide +kernel), gw_in 58 (by decide +kernel) (by decide +kernel), by decide +kernel, by decide, rfl, rfl, by decide +kernel⟩, gw_in 957 (by decide +kernel) (by decide +kernel), gw_in 44 (by decide +kernel) (by decide +kernel)⟩
theorem kX9_remembers_154 : CT mX9_remembers mX9_copy 154 4 := ⟨⟨gw_in 898 (by decide +kernel) (by decide +kernel), gw_in 900 (by decide +kernel) (by decide +kernel), gw_in 58 (by decide +kernel) (by decide +kernel), by decide +kernel, by decide, rfl, rfl, by decide +kernel⟩, gw_in 899 (by decide +kernel) (by decide +kernel)⟩
theorem kX9_tuesday_184 : CV mX9_tuesday mX9_isRace 184 0 := ⟨⟨gw_in 920 (by decide +kernel) (by decide +kernel), gw_in 923 (by decide +kernel) (by decide +kernel), gw_in 58 (by decide +kernel) (by decide +kernel), by decide +kernel, by decide, rfl, rfl, by decide +kernel⟩, gw_in 922 (by decide +kernel) (by decide +kernel), gw_in 36 (by decide +kernel) (by decide +kernel)⟩
theorem kX9_tuesday_210 : CV mX9_tuesday mX9_remembers 210 0 := ⟨⟨gw_in 971 (by decide +kernel) (by decide +kernel), gw_in 974 (by decide +kernel) (by decide +kernel), gw_in 58 (by decide +kernel) (by decide +kernel), by decide +kernel, by decide, rfl, rfl, by decide +kernel⟩, gw_in 973 (by decide +kernel) (by decide +kernel), gw_in 47 (by decide +kernel) (by decide +kernel)⟩
theorem kX9_tuesday_196 : CV mX9_tuesday mX9_first 196 0 := ⟨⟨gw_in 924 (by decide +kernel) (by decide +kernel), gw_in 927 (by decide +kernel) (by decide +kernel), gw_in 58 (by decide +kernel) (by decide +kernel), by decide +kernel, by decide, rfl, rfl, by decide +kernel⟩, gw_in 926 (by decide +kernel) (by decide +kernel), gw_in 37 (by decide +kernel) (by decide +kernel)⟩
theorem kX9_changes_175 : CV mX9_changes mX9_isChair 175 1 := ⟨⟨gw_in 890 (by decide +kernel) (by decide +kernel), gw_in 893 (by decide +kernel) (by decide +kernel), gw_in 58 (by decide +kernel) (by decide +kernel), by decide +kernel, by decide, rfl, rfl, by decide +kernel⟩, gw_in 892 (by decide +kernel) (by decide +kernel), gw_in 33 (by decide +kernel) (by decide +kernel)⟩
theorem kX9_changes_210 : CV mX9_changes mX9_remembers 210 0 := ⟨⟨gw_in 971 (by decide +kernel) (by decide +kernel), gw_in 974 (by decide +kernel) (by decide +kernel), gw_in 58 (by decide +kernel) (by decide +kernel), by decide +kernel, by decide, rfl, rfl, by decide +kernel⟩, gw_in 973 (by decide +kernel) (by decide +kernel), gw_in 47 (by decide +kernel) (by decide +kernel)⟩
theorem kX9_sets_175 : CV mX9_sets mX9_isChair 175 1 := ⟨⟨gw_in 890 (by decide +kernel) (by decide +kernel), gw_in 893 (by decide +kernel) (by decide +kernel), gw_in 58 (by decide +kernel) (by decide +kernel), by decide +kernel, by decide, rfl, rfl, by decide +kernel⟩, gw_in 892 (by decide +kernel) (by decide +kernel), gw_in 33 (by decide +kernel) (by decide +kernel)⟩
theorem kX9_sets_78 : CT mX9_sets mX9_in 78 3 := ⟨⟨gw_in 834 (by decide +kernel) (by decide +kernel), gw_in 836 (by decide +kernel) (by decide +kernel), gw_in 58 (by decide +kernel) (by decide +kernel), by decide +kernel, by decide, rfl, rfl, by decide +kernel⟩, gw_in 835 (by decide +kernel) (by decide +kernel)⟩
theorem kX9_sets_210 : CV mX9_sets mX9_remembers 210 0 := ⟨⟨gw_in 971 (by decide +kernel) (by decide +kernel), gw_in 974 (by decide +kernel) (by decide +kernel), gw_in 58 (by decide +kernel) (by decide +kernel), by decide +kernel, by decide, rfl, rfl, by decide +kernel⟩, gw_in 973 (by decide +kernel) (by decide +kernel), gw_in 47 (by decide +kernel) (by decide +kernel)⟩
theorem kX9_greases_175 : CV mX9_greases mX9_isChair 175 1 := ⟨⟨gw_in 890 (by decide +kernel) (by decide +kernel), gw_in 893 (by decide +kernel) (by decide +kernel), gw_in 58 (by decide +kernel) (by decide +kernel), by decide +kernel, by decide, rfl, rfl, by decide +kernel⟩, gw_in 892 (by decide +kernel) (by decide +kernel), gw_in 33 (by decide +kernel) (by decide +kernel)⟩
theorem kX9_greases_78 : CT mX9_greases mX9_in 78 3 := ⟨⟨gw_in 834 (by decide +kernel) (by decide +kernel), gw_in 836 (by decide +kernel) (by decide +kernel), gw_in 58 (by decide +kernel) (by decide +kernel), by decide +kernel, by decide, rfl, rfl, by decide +kernel⟩, gw_in 835 (by decide +kernel) (by decide +kernel)⟩
theorem kX9_greases_158 : CT mX9_greases mX9_has 158 2 := ⟨⟨gw_in 901 (by decide +kernel) (by decide +kernel), gw_in 903 (by decide +kernel) (by decide +kernel), gw_in 58 (by decide +kernel) (by decide +kernel), by decide +kernel, by decide, rfl, rfl, by decide +kernel⟩, gw_in 902 (by decide +kernel) (by decide +kernel)⟩
theorem kX9_greases_210 : CV mX9_greases mX9_remembers 210 0 := ⟨⟨gw_in 971 (by decide +kernel) (by decide +kernel), gw_in 974 (by decide +kernel) (by decide +kernel), gw_in 58 (by decide +kernel) (by decide +kernel), by decide +kernel, by decide, rfl, rfl, by decide +kernel⟩, gw_in 973 (by decide +kernel) (by decide +kernel), gw_in 47 (by decide +kernel) (by decide +kernel)⟩
theorem kX9_undo_154 : CT mX9_undo mX9_copy 154 4 := ⟨⟨gw_in 898 (by decide +kernel) (by decide +kernel), gw_in 900 (by decide +kernel) (by decide +kernel), gw_in 58 (by decide +kernel) (by decide +kernel), by decide +kernel, by decide, rfl, rfl, by decide +kernel⟩, gw_in 899 (by decide +kernel) (by decide +kernel)⟩
theorem kX9_time_175 : CV mX9_time mX9_isChair 175 1 := ⟨⟨gw_in 890 (by decide +kernel) (by decide +kernel), gw_in 893 (by decide +kernel) (by decide +kernel), gw_in 58 (by decide +kernel) (by decide +kernel), by decide +kernel, by decide, rfl, rfl, by decide +kernel⟩, gw_in 892 (by decide +kernel) (by decide +kernel), gw_in 33 (by decide +kernel) (by decide +kernel)⟩
theorem kX9_time_184 : CV mX9_time mX9_isRace 184 0 := ⟨⟨gw_in 920 (by decide +kernel) (by decide +kernel), gw_in 923 (by decide +kernel) (by decide +kernel), gw_in 58 (by decide +kernel) (by decide +kernel), by decide +kernel, by decide, rfl, rfl, by decide +kernel⟩, gw_in 922 (by decide +kernel) (by decide +kernel), gw_in 36 (by decide +kernel) (by decide +kernel)⟩
theorem kX9_time_178 : CV mX9_time mX9_asItIs 178 0 := ⟨⟨gw_in 894 (by decide +kernel) (by decide +kernel), gw_in 897 (by decide +kernel) (by decide +kernel), gw_in 58 (by decide +kernel) (by decide +kernel), by decide +kernel, by decide, rfl, rfl, by decide +kernel⟩, gw_in 896 (by decide +kernel) (by decide +kernel), gw_in 34 (by decide +kernel) (by decide +kernel)⟩
theorem kX9_time_192 : CV mX9_time mX9_races 192 1 := ⟨⟨gw_in 928 (by decide +kernel) (by decide +kernel), gw_in 931 (by decide +kernel) (by decide +kernel), gw_in 58 (by decide +kernel) (by decide +kernel), by decide +kernel, by decide, rfl, rfl, by decide +kernel⟩, gw_in 930 (by decide +kernel) (by decide +kernel), gw_in 38 (by decide +kernel) (by decide +kernel)⟩
theorem kX9_place_175 : CV mX9_place mX9_isChair 175 1 := ⟨⟨gw_in 890 (by decide +kernel) (by decide +kernel), gw_in 893 (by decide +kernel) (by decide +kernel), gw_in 58 (by decide +kernel) (by decide +kernel), by decide +kernel, by decide, rfl, rfl, by decide +kernel⟩, gw_in 892 (by decide +kernel) (by decide +kernel), gw_in 33 (by decide +kernel) (by decide +kernel)⟩
theorem kX9_place_184 : CV mX9_place mX9_isRace 184 0 := ⟨⟨gw_in 920 (by decide +kernel) (by decide +kernel), gw_in 923 (by decide +kernel) (by decide +kernel), gw_in 58 (by decide +kernel) (by decide +kernel), by decide +kernel, by decide, rfl, rfl, by decide +kernel⟩, gw_in 922 (by decide +kernel) (by decide +kernel), gw_in 36 (by decide +kernel) (by decide +kernel)⟩
theorem kX9_place_178 : CV mX9_place mX9_asItIs 178 0 := ⟨⟨gw_in 894 (by decide +kernel) (by decide +kernel), gw_in 897 (by decide +kernel) (by decide +kernel), gw_in 58 (by decide +kernel) (by decide +kernel), by decide +kernel, by decide, rfl, rfl, by decide +kernel⟩, gw_in 896 (by decide +kernel) (by decide +kernel), gw_in 34 (by decide +kernel) (by decide +kernel)⟩
theorem kX9_place_192 : CV mX9_place mX9_races 192 1 := ⟨⟨gw_in 928 (by decide +kernel) (by decide +kernel), gw_in 931 (by decide +kernel) (by decide +kernel), gw_in 58 (by decide +kernel) (by decide +kernel), by decide +kernel, by decide, rfl, rfl, by decide +kernel⟩, gw_in 930 (by decide +kernel) (by decide +kernel), gw_in 38 (by decide +kernel) (by decide +kernel)⟩
theorem kX9_alone_175 : CV mX9_alone mX9_isChair 175 1 := ⟨⟨gw_in 890 (by decide +kernel) (by decide +kernel), gw_in 893 (by decide +kernel) (by decide +kernel), gw_in 58 (by decide +kernel) (by decide +kernel), by decide +kernel, by decide, rfl, rfl, by decide +kernel⟩, gw_in 892 (by decide +kernel) (by decide +kernel), gw_in 33 (by decide +kernel) (by decide +kernel)⟩
theorem kX9_alone_184 : CV mX9_alone mX9_isRace 184 0 := ⟨⟨gw_in 920 (by decide +kernel) (by decide +kernel), gw_in 923 (by decide +kernel) (by decide +kernel), gw_in 58 (by decide +kernel) (by decide +kernel), by decide +kernel, by decide, rfl, rfl, by decide +kernel⟩, gw_in 922 (by decide +kernel) (by decide +kernel), gw_in 36 (by decide +kernel) (by decide +kernel)⟩
theorem kX9_alone_178 : CV mX9_alone mX9_asItIs 178 0 := ⟨⟨gw_in 894 (by decide +kernel) (by decide +kernel), gw_in 897 (by decide +kernel) (by decide +kernel), gw_in 58 (by decide +kernel) (by decide +kernel), by decide +kernel, by decide, rfl, rfl, by decide +kernel⟩, gw_in 896 (by decide +kernel) (by decide +kernel), gw_in 34 (by decide +kernel) (by decide +kernel)⟩
theorem kX9_alone_181 : CV mX9_alone mX9_aloneOf 181 1 := ⟨⟨gw_in 963 (by decide +kernel) (by decide +kernel), gw_in 966 (by decide +kernel) (by decide +kernel), gw_in 58 (by decide +kernel) (by decide +kernel), by decide +kernel, by decide, rfl, rfl, by decide +kernel⟩, gw_in 965 (by decide +kernel) (by decide +kernel), gw_in 46 (by decide +kernel) (by decide +kernel)⟩
theorem kX9_findKings_178 : CV mX9_findKings mX9_asItIs 178 0 := ⟨⟨gw_in 894 (by decide +kernel) (by decide +kernel), gw_in 897 (by decide +kernel) (by decide +kernel), gw_in 58 (by decide +kernel) (by decide +kernel), by decide +kernel, by decide, rfl, rfl, by decide +kernel⟩, gw_in 896 (by decide +kernel) (by decide +kernel), gw_in 34 (by decide +kernel) (by decide +kernel)⟩
theorem kX9_findKings_213 : CT mX9_findKings mX9_isWay 213 2 := ⟨⟨gw_in 948 (by decide +kernel) (by decide +kernel), gw_in 950 (by decide +kernel) (by decide +kernel), gw_in 58 (by decide +kernel) (by decide +kernel), by decide +kernel, by decide, rfl, rfl, by decide +kernel⟩, gw_in 949 (by decide +kernel) (by decide +kernel)⟩
theorem kX9_findKings_192 : CV mX9_findKings mX9_races 192 1 := ⟨⟨gw_in 928 (by decide +kernel) (by decide +kernel), gw_in 931 (by decide +kernel) (by decide +kernel), gw_in 58 (by decide +kernel) (by decide +kernel), by decide +kernel, by decide, rfl, rfl, by decide +kernel⟩, gw_in 930 (by decide +kernel) (by decide +kernel), gw_in 38 (by decide +kernel) (by decide +kernel)⟩
theorem kX9_kings_184 : CV mX9_kings mX9_isRace 184 0 := ⟨⟨gw_in 920 (by decide +kernel) (by decide +kernel), gw_in 923 (by decide +kernel) (by decide +kernel), gw_in 58 (by decide +kernel) (by decide +kernel), by decide +kernel, by decide, rfl, rfl, by decide +kernel⟩, gw_in 922 (by decide +kernel) (by decide +kernel), gw_in 36 (by decide +kernel) (by decide +kernel)⟩
theorem kX9_kings_216 : CV mX9_kings mX9_findKings 216 0 := ⟨⟨gw_in 944 (by decide +kernel) (by decide +kernel), gw_in 947 (by decide +kernel) (by decide +kernel), gw_in 58 (by decide +kernel) (by decide +kernel), by decide +kernel, by decide, rfl, rfl, by decide +kernel⟩, gw_in 946 (by decide +kernel) (by decide +kernel), gw_in 42 (by decide +kernel) (by decide +kernel)⟩
theorem kX9_king_175 : CV mX9_king mX9_isChair 175 1 := ⟨⟨gw_in 890 (by decide +kernel) (by decide +kernel), gw_in 893 (by decide +kernel) (by decide +kernel), gw_in 58 (by decide +kernel) (by decide +kernel), by decide +kernel, by decide, rfl, rfl, by decide +kernel⟩, gw_in 892 (by decide +kernel) (by decide +kernel), gw_in 33 (by decide +kernel) (by decide +kernel)⟩
theorem kX9_king_78 : CT mX9_king mX9_in 78 3 := ⟨⟨gw_in 834 (by decide +kernel) (by decide +kernel), gw_in 836 (by decide +kernel) (by decide +kernel), gw_in 58 (by decide +kernel) (by decide +kernel), by decide +kernel, by decide, rfl, rfl, by decide +kernel⟩, gw_in 835 (by decide +kernel) (by decide +kernel)⟩
theorem kX9_king_184 : CV mX9_king mX9_isRace 184 0 := ⟨⟨gw_in 920 (by decide +kernel) (by decide +kernel), gw_in 923 (by decide +kernel) (by decide +kernel), gw_in 58 (by decide +kernel) (by decide +kernel), by decide +kernel, by decide, rfl, rfl, by decide +kernel⟩, gw_in 922 (by decide +kernel) (by decide +kernel), gw_in 36 (by decide +kernel) (by decide +kernel)⟩
theorem kX9_king_216 : CV mX9_king mX9_findKings 216 0 := ⟨⟨gw_in 944 (by decide +kernel) (by decide +kernel), gw_in 947 (by decide +kernel) (by decide +kernel), gw_in 58 (by decide +kernel) (by decide +kernel), by decide +kernel, by decide, rfl, rfl, by decide +kernel⟩, gw_in 946 (by decide +kernel) (by decide +kernel), gw_in 42 (by decide +kernel) (by decide +kernel)⟩
theorem kX9_fair_78 : CT mX9_fair mX9_in 78 3 := ⟨⟨gw_in 834 (by decide +kernel) (by decide +kernel), gw_in 836 (by decide +kernel) (by decide +kernel), gw_in 58 (by decide +kernel) (by decide +kernel), by decide +kernel, by decide, rfl, rfl, by decide +kernel⟩, gw_in 835 (by decide +kernel) (by decide +kernel)⟩
theorem kX9_fair_184 : CV mX9_fair mX9_isRace 184 0 := ⟨⟨gw_in 920 (by decide +kernel) (by decide +kernel), gw_in 923 (by decide +kernel) (by decide +kernel), gw_in 58 (by decide +kernel) (by decide +kernel), by decide +kernel, by decide, rfl, rfl, by decide +kernel⟩, gw_in 922 (by decide +kernel) (by decide +kernel), gw_in 36 (by decide +kernel) (by decide +kernel)⟩
theorem kX9_fair_178 : CV mX9_fair mX9_asItIs 178 0 := ⟨⟨gw_in 894 (by decide +kernel) (by decide +kernel), gw_in 897 (by decide +kernel) (by decide +kernel), gw_in 58 (by decide +kernel) (by decide +kernel), by decide +kernel, by decide, rfl, rfl, by decide +kernel⟩, gw_in 896 (by decide +kernel) (by decide +kernel), gw_in 34 (by decide +kernel) (by decide +kernel)⟩
theorem kX9_fair_181 : CV mX9_fair mX9_aloneOf 181 1 := ⟨⟨gw_in 963 (by decide +kernel) (by decide +kernel), gw_in 966 (by decide +kernel) (by decide +kernel), gw_in 58 (by decide +kernel) (by decide +kernel), by decide +kernel, by decide, rfl, rfl, by decide +kernel⟩, gw_in 965 (by decide +kernel) (by decide +kernel), gw_in 46 (by decide +kernel) (by decide +kernel)⟩
theorem kX9_odds_175 : CV mX9_odds mX9_isChair 175 1 := ⟨⟨gw_in 890 (by decide +kernel) (by decide +kernel), gw_in 893 (by decide +kernel) (by decide +kernel), gw_in 58 (by decide +kernel) (by decide +kernel), by decide +kernel, by decide, rfl, rfl, by decide +kernel⟩, gw_in 892 (by decide +kernel) (by decide +kernel), gw_in 33 (by decide +kernel) (by decide +kernel)⟩
theorem kX9_odds_78 : CT mX9_odds mX9_in 78 3 := ⟨⟨gw_in 834 (by decide +kernel) (by decide +kernel), gw_in 836 (by decide +kernel) (by decide +kernel), gw_in 58 (by decide +kernel) (by decide +kernel), by decide +kernel, by decide, rfl, rfl, by decide +kernel⟩, gw_in 835 (by decide +kernel) (by decide +kernel)⟩
theorem kX9_odds_184 : CV mX9_odds mX9_isRace 184 0 := ⟨⟨gw_in 920 (by decide +kernel) (by decide +kernel), gw_in 923 (by decide +kernel) (by decide +kernel), gw_in 58 (by decide +kernel) (by decide +kernel), by decide +kernel, by decide, rfl, rfl, by decide +kernel⟩, gw_in 922 (by decide +kernel) (by decide +kernel), gw_in 36 (by decide +kernel) (by decide +kernel)⟩
theorem kX9_odds_178 : CV mX9_odds mX9_asItIs 178 0 := ⟨⟨gw_in 894 (by decide +kernel) (by decide +kernel), gw_in 897 (by decide +kernel) (by decide +kernel), gw_in 58 (by decide +kernel) (by decide +kernel), by decide +kernel, by decide, rfl, rfl, by decide +kernel⟩, gw_in 896 (by decide +kernel) (by decide +kernel), gw_in 34 (by decide +kernel) (by decide +kernel)⟩
theorem kX9_odds_158 : CT mX9_odds mX9_has 158 2 := ⟨⟨gw_in 901 (by decide +kernel) (by decide +kernel), gw_in 903 (by decide +kernel) (by decide +kernel), gw_in 58 (by decide +kernel) (by decide +kernel), by decide +kernel, by decide, rfl, rfl, by decide +kernel⟩, gw_in 902 (by decide +kernel) (by decide +kernel)⟩
theorem kX9_odds_192 : CV mX9_odds mX9_races 192 1 := ⟨⟨gw_in 928 (by decide +kernel) (by decide +kernel), gw_in 931 (by decide +kernel) (by decide +kernel), gw_in 58 (by decide +kernel) (by decide +kernel), by decide +kernel, by decide, rfl, rfl, by decide +kernel⟩, gw_in 930 (by decide +kernel) (by decide +kernel), gw_in 38 (by decide +kernel) (by decide +kernel)⟩
theorem kX9_times_175 : CV mX9_times mX9_isChair 175 1 := ⟨⟨gw_in 890 (by decide +kernel) (by decide +kernel), gw_in 893 (by decide +kernel) (by decide +kernel), gw_in 58 (by decide +kernel) (by decide +kernel), by decide +kernel, by decide, rfl, rfl, by decide +kernel⟩, gw_in 892 (by decide +kernel) (by decide +kernel), gw_in 33 (by decide +kernel) (by decide +kernel)⟩
theorem kX9_times_78 : CT mX9_times mX9_in 78 3 := ⟨⟨gw_in 834 (by decide +kernel) (by decide +kernel), gw_in 836 (by decide +kernel) (by decide +kernel), gw_in 58 (by decide +kernel) (by decide +kernel), by decide +kernel, by decide, rfl, rfl, by decide +kernel⟩, gw_in 835 (by decide +kernel) (by decide +kernel)⟩
theorem kX9_times_184 : CV mX9_times mX9_isRace 184 0 := ⟨⟨gw_in 920 (by decide +kernel) (by decide +kernel), gw_in 923 (by decide +kernel) (by decide +kernel), gw_in 58 (by decide +kernel) (by decide +kernel), by decide +kernel, by decide, rfl, rfl, by decide +kernel⟩, gw_in 922 (by decide +kernel) (by decide +kernel), gw_in 36 (by decide +kernel) (by decide +kernel)⟩
theorem kX9_rate_78 : CT mX9_rate mX9_in 78 3 := ⟨⟨gw_in 834 (by decide +kernel) (by decide +kernel), gw_in 836 (by decide +kernel) (by decide +kernel), gw_in 58 (by decide +kernel) (by decide +kernel), by decide +kernel, by decide, rfl, rfl, by decide +kernel⟩, gw_in 835 (by decide +kernel) (by decide +kernel)⟩
theorem kX9_rate_175 : CV mX9_rate mX9_isChair 175 1 := ⟨⟨gw_in 890 (by decide +kernel) (by decide +kernel), gw_in 893 (by decide +kernel) (by decide +kernel), gw_in 58 (by decide +kernel) (by decide +kernel), by decide +kernel, by decide, rfl, rfl, by decide +kernel⟩, gw_in 892 (by decide +kernel) (by decide +kernel), gw_in 33 (by decide +kernel) (by decide +kernel)⟩
theorem kX9_rate_178 : CV mX9_rate mX9_asItIs 178 0 := ⟨⟨gw_in 894 (by decide +kernel) (by decide +kernel), gw_in 897 (by decide +kernel) (by decide +kernel), gw_in 58 (by decide +kernel) (by decide +kernel), by decide +kernel, by decide, rfl, rfl, by decide +kernel⟩, gw_in 896 (by decide +kernel) (by decide +kernel), gw_in 34 (by decide +kernel) (by decide +kernel)⟩
theorem kX9_rate_168 : CV mX9_rate mX9_gainOf 168 2 := ⟨⟨gw_in 904 (by decide +kernel) (by decide +kernel), gw_in 907 (by decide +kernel) (by decide +kernel), gw_in 58 (by decide +kernel) (by decide +kernel), by decide +kernel, by decide, rfl, rfl, by decide +kernel⟩, gw_in 906 (by decide +kernel) (by decide +kernel), gw_in 35 (by decide +kernel) (by decide +kernel)⟩
theorem kX9_keep_78 : CT mX9_keep mX9_in 78 3 := ⟨⟨gw_in 834 (by decide +kernel) (by decide +kernel), gw_in 836 (by decide +kernel) (by decide +kernel), gw_in 58 (by decide +kernel) (by decide +kernel), by decide +kernel, by decide, rfl, rfl, by decide +kernel⟩, gw_in 835 (by decide +kernel) (by decide +kernel)⟩
theorem kX9_keep_154 : CT mX9_keep mX9_copy 154 4 := ⟨⟨gw_in 898 (by decide +kernel) (by decide +kernel), gw_in 900 (by decide +kernel) (by decide +kernel), gw_in 58 (by decide +kernel) (by decide +kernel), by decide +kernel, by decide, rfl, rfl, by decide +kernel⟩, gw_in 899 (by decide +kernel) (by decide +kernel)⟩
theorem kX9_back_78 : CT mX9_back mX9_in 78 3 := ⟨⟨gw_in 834 (by decide +kernel) (by decide +kernel), gw_in 836 (by decide +kernel) (by decide +kernel), gw_in 58 (by decide +kernel) (by decide +kernel), by decide +kernel, by decide, rfl, rfl, by decide +kernel⟩, gw_in 835 (by decide +kernel) (by decide +kernel)⟩
theorem kX9_back_154 : CT mX9_back mX9_copy 154 4 := ⟨⟨gw_in 898 (by decide +kernel) (by decide +kernel), gw_in 900 (by decide +kernel) (by decide +kernel), gw_in 58 (by decide +kernel) (by decide +kernel), by decide +kernel, by decide, rfl, rfl, by decide +kernel⟩, gw_in 899 (by decide +kernel) (by decide +kernel)⟩
theorem kX0_gainOf_29 : CV mX0_gainOf mX6_strengthOf 29 1 := ⟨⟨gw_in 413 (by decide +kernel) (by decide +kernel), gw_in 416 (by decide +kernel) (by decide +kernel), gw_in 51 (by decide +kernel) (by decide +kernel), by decide +kernel, by decide, rfl, rfl, by decide +kernel⟩, gw_in 414 (by decide +kernel) (by decide +kernel), gw_in 415 (by decide +kernel) (by decide +kernel)⟩
theorem kX0_gainOf_35 : CV mX0_gainOf mX6_gainBy 35 3 := ⟨⟨gw_in 417 (by decide +kernel) (by decide +kernel), gw_in 420 (by decide +kernel) (by decide +kernel), gw_in 51 (by decide +kernel) (by decide +kernel), by decide +kernel, by decide, rfl, rfl, by decide +kernel⟩, gw_in 418 (by decide +kernel) (by decide +kernel), gw_in 419 (by decide +kernel) (by decide +kernel)⟩
theorem kX0_aloneOf_29 : CV mX0_aloneOf mX6_strengthOf 29 1 := ⟨⟨gw_in 413 (by decide +kernel) (by decide +kernel), gw_in 416 (by decide +kernel) (by decide +kernel), gw_in 51 (by decide +kernel) (by decide +kernel), by decide +kernel, by decide, rfl, rfl, by decide +kernel⟩, gw_in 414 (by decide +kernel) (by decide +kernel), gw_in 415 (by decide +kernel) (by decide +kernel)⟩
theorem kX0_aloneOf_35 : CV mX0_aloneOf mX6_gainBy 35 3 := ⟨⟨gw_in 417 (by decide +kernel) (by decide +kernel), gw_in 420 (by decide +kernel) (by decide +kernel), gw_in 51 (by decide +kernel) (by decide +kernel), by decide +kernel, by decide, rfl, rfl, by decide +kernel⟩, gw_in 418 (by decide +kernel) (by decide +kernel), gw_in 419 (by decide +kernel) (by decide +kernel)⟩
theorem kX0_aloneOf_39 : CV mX0_aloneOf mX6_minutesBy 39 1 := ⟨⟨gw_in 513 (by decide +kernel) (by decide +kernel), gw_in 516 (by decide +kernel) (by decide +kernel), gw_in 51 (by decide +kernel) (by decide +kernel), by decide +kernel, by decide, rfl, rfl, by decide +kernel⟩, gw_in 514 (by decide +kernel) (by decide +kernel), gw_in 515 (by decide +kernel) (by decide +kernel)⟩
theorem kX0_ruledMost_42 : CV mX0_ruledMost mX0_weeksOf 42 2 := ⟨⟨gw_in 497 (by decide +kernel) (by decide +kernel), gw_in 500 (by decide +kernel) (by decide +kernel), gw_in 52 (by decide +kernel) (by decide +kernel), by decide +kernel, by decide, rfl, rfl, by decide +kernel⟩, gw_in 499 (by decide +kernel) (by decide +kernel), gw_in 19 (by decide +kernel) (by decide +kernel)⟩
theorem kX1_add_25 : CV mX1_add mX1_dropOldest 25 0 := ⟨⟨gw_in 525 (by decide +kernel) (by decide +kernel), gw_in 528 (by decide +kernel) (by decide +kernel), gw_in 53 (by decide +kernel) (by decide +kernel), by decide +kernel, by decide, rfl, rfl, by decide +kernel⟩, gw_in 527 (by decide +kernel) (by decide +kernel), gw_in 21 (by decide +kernel) (by decide +kernel)⟩
theorem kX1_takeBackLatest_36 : CV mX1_takeBackLatest mX0_exchange 36 2 := ⟨⟨gw_in 558 (by decide +kernel) (by decide +kernel), gw_in 537 (by decide +kernel) (by decide +kernel), gw_in 52 (by decide +kernel) (by decide +kernel), by decide +kernel, by decide, rfl, rfl, by decide +kernel⟩, gw_in 535 (by decide +kernel) (by decide +kernel), gw_in 536 (by decide +kernel) (by decide +kernel)⟩
theorem kX1_dropOldest_47 : CA mX1_dropOldest 47 := ⟨gw_in 529 (by decide +kernel) (by decide +kernel), gw_in 396 (by decide +kernel) (by decide +kernel), gw_in 395 (by decide +kernel) (by decide +kernel), gw_in 59 (by decide +kernel) (by decide +kernel), by decide, by decide +kernel⟩
theorem kX2_winner_41 : CV mX2_winner mX2_winnerBy 41 2 := ⟨⟨gw_in 444 (by decide +kernel) (by decide +kernel), gw_in 447 (by decide +kernel) (by decide +kernel), gw_in 55 (by decide +kernel) (by decide +kernel), by decide +kernel, by decide, rfl, rfl, by decide +kernel⟩, gw_in 446 (by decide +kernel) (by decide +kernel), gw_in 11 (by decide +kernel) (by decide +kernel)⟩
theorem kX2_timeOf_51 : CV mX2_timeOf mX2_raceBy 51 3 := ⟨⟨gw_in 448 (by decide +kernel) (by decide +kernel), gw_in 451 (by decide +kernel) (by decide +kernel), gw_in 55 (by decide +kernel) (by decide +kernel), by decide +kernel, by decide, rfl, rfl, by decide +kernel⟩, gw_in 450 (by decide +kernel) (by decide +kernel), gw_in 12 (by decide +kernel) (by decide +kernel)⟩
theorem kX2_placed_51 : CV mX2_placed mX2_raceBy 51 3 := ⟨⟨gw_in 448 (by decide +kernel) (by decide +kernel), gw_in 451 (by decide +kernel) (by decide +kernel), gw_in 55 (by decide +kernel) (by decide +kernel), by decide +kernel, by decide, rfl, rfl, by decide +kernel⟩, gw_in 450 (by decide +kernel) (by decide +kernel), gw_in 12 (by decide +kernel) (by decide +kernel)⟩
theorem kX2_placed_58 : CV mX2_placed mX4_inAs 58 1 := ⟨⟨gw_in 473 (by decide +kernel) (by decide +kernel), gw_in 476 (by decide +kernel) (by decide +kernel), gw_in 56 (by decide +kernel) (by decide +kernel), by decide +kernel, by decide, rfl, rfl, by decide +kernel⟩, gw_in 474 (by decide +kernel) (by decide +kernel), gw_in 475 (by decide +kernel) (by decide +kernel)⟩
theorem kX2_kings_62 : CV mX2_kings mX2_startWays 62 0 := ⟨⟨gw_in 481 (by decide +kernel) (by decide +kernel), gw_in 484 (by decide +kernel) (by decide +kernel), gw_in 55 (by decide +kernel) (by decide +kernel), by decide +kernel, by decide, rfl, rfl, by decide +kernel⟩, gw_in 483 (by decide +kernel) (by decide +kernel), gw_in 16 (by decide +kernel) (by decide +kernel)⟩
theorem kX2_kings_41 : CV mX2_kings mX2_winnerBy 41 2 := ⟨⟨gw_in 444 (by decide +kernel) (by decide +kernel), gw_in 447 (by decide +kernel) (by decide +kernel), gw_in 55 (by decide +kernel) (by decide +kernel), by decide +kernel, by decide, rfl, rfl, by decide +kernel⟩, gw_in 446 (by decide +kernel) (by decide +kernel), gw_in 11 (by decide +kernel) (by decide +kernel)⟩
theorem kX2_kings_65 : CV mX2_kings mX2_toNextWay 65 0 := ⟨⟨gw_in 485 (by decide +kernel) (by decide +kernel), gw_in 488 (by decide +kernel) (by decide +kernel), gw_in 55 (by decide +kernel) (by decide +kernel), by decide +kernel, by decide, rfl, rfl, by decide +kernel⟩, gw_in 487 (by decide +kernel) (by decide +kernel), gw_in 17 (by decide +kernel) (by decide +kernel)⟩
theorem kX2_findKing_62 : CV mX2_findKing mX2_startWays 62 0 := ⟨⟨gw_in 481 (by decide +kernel) (by decide +kernel), gw_in 484 (by decide +kernel) (by decide +kernel), gw_in 55 (by decide +kernel) (by decide +kernel), by decide +kernel, by decide, rfl, rfl, by decide +kernel⟩, gw_in 483 (by decide +kernel) (by decide +kernel), gw_in 16 (by decide +kernel) (by decide +kernel)⟩
theorem kX2_findKing_69 : CV mX2_findKing mX2_changedByWay 69 0 := ⟨⟨gw_in 588 (by decide +kernel) (by decide +kernel), gw_in 591 (by decide +kernel) (by decide +kernel), gw_in 55 (by decide +kernel) (by decide +kernel), by decide +kernel, by decide, rfl, rfl, by decide +kernel⟩, gw_in 590 (by decide +kernel) (by decide +kernel), gw_in 22 (by decide +kernel) (by decide +kernel)⟩
theorem kX2_findKing_41 : CV mX2_findKing mX2_winnerBy 41 2 := ⟨⟨gw_in 444 (by decide +kernel) (by decide +kernel), gw_in 447 (by decide +kernel) (by decide +kernel), gw_in 55 (by decide +kernel) (by decide +kernel), by decide +kernel, by decide, rfl, rfl, by decide +kernel⟩, gw_in 446 (by decide +kernel) (by decide +kernel), gw_in 11 (by decide +kernel) (by decide +kernel)⟩
theorem kX2_findKing_73 : CA mX2_findKing 73 := ⟨gw_in 592 (by decide +kernel) (by decide +kernel), gw_in 396 (by decide +kernel) (by decide +kernel), gw_in 395 (by decide +kernel) (by decide +kernel), gw_in 59 (by decide +kernel) (by decide +kernel), by decide, by decide +kernel⟩
theorem kX2_findKing_65 : CV mX2_findKing mX2_toNextWay 65 0 := ⟨⟨gw_in 485 (by decide +kernel) (by decide +kernel), gw_in 488 (by decide +kernel) (by decide +kernel), gw_in 55 (by decide +kernel) (by decide +kernel), by decide +kernel, by decide, rfl, rfl, by decide +kernel⟩, gw_in 487 (by decide +kernel) (by decide +kernel), gw_in 17 (by decide +kernel) (by decide +kernel)⟩
theorem kX2_fairGoal_79 : CV mX2_fairGoal mX0_gainOf 79 2 := ⟨⟨gw_in 605 (by decide +kernel) (by decide +kernel), gw_in 412 (by decide +kernel) (by decide +kernel), gw_in 52 (by decide +kernel) (by decide +kernel), by decide +kernel, by decide, rfl, rfl, by decide +kernel⟩, gw_in 410 (by decide +kernel) (by decide +kernel), gw_in 411 (by decide +kernel) (by decide +kernel)⟩
theorem kX2_fairGoal_83 : CV mX2_fairGoal mX6_minutesBy 83 1 := ⟨⟨gw_in 606 (by decide +kernel) (by decide +kernel), gw_in 516 (by decide +kernel) (by decide +kernel), gw_in 51 (by decide +kernel) (by decide +kernel), by decide +kernel, by decide, rfl, rfl, by decide +kernel⟩, gw_in 514 (by decide +kernel) (by decide +kernel), gw_in 515 (by decide +kernel) (by decide +kernel)⟩
theorem kX2_fairGoal_86 : CV mX2_fairGoal mX2_spreadFor 86 1 := ⟨⟨gw_in 607 (by decide +kernel) (by decide +kernel), gw_in 610 (by decide +kernel) (by decide +kernel), gw_in 55 (by decide +kernel) (by decide +kernel), by decide +kernel, by decide, rfl, rfl, by decide +kernel⟩, gw_in 608 (by decide +kernel) (by decide +kernel), gw_in 609 (by decide +kernel) (by decide +kernel)⟩
theorem kX2_handicapFor_89 : CN mX2_handicapFor 89 := ⟨gw_in 616 (by decide +kernel) (by decide +kernel), gw_in 617 (by decide +kernel) (by decide +kernel), gw_in 60 (by decide +kernel) (by decide +kernel), gw_in 618 (by decide +kernel) (by decide +kernel), by decide, by decide⟩
theorem kX2_handicapFor_95 : CM mX2_handicapFor 95 := ⟨gw_in 619 (by decide +kernel) (by decide +kernel), gw_in 422 (by decide +kernel) (by decide +kernel), gw_in 60 (by decide +kernel) (by decide +kernel), gw_in 423 (by decide +kernel) (by decide +kernel), by decide, by decide⟩
theorem kX2_spreadFor_101 : CV mX2_spreadFor mX2_handicapFor 101 2 := ⟨⟨gw_in 612 (by decide +kernel) (by decide +kernel), gw_in 615 (by decide +kernel) (by decide +kernel), gw_in 55 (by decide +kernel) (by decide +kernel), by decide +kernel, by decide, rfl, rfl, by decide +kernel⟩, gw_in 613 (by decide +kernel) (by decide +kernel), gw_in 614 (by decide +kernel) (by decide +kernel)⟩
theorem kX2_spreadFor_89 : CN mX2_spreadFor 89 := ⟨gw_in 616 (by decide +kernel) (by decide +kernel), gw_in 617 (by decide +kernel) (by decide +kernel), gw_in 60 (by decide +kernel) (by decide +kernel), gw_in 618 (by decide +kernel) (by decide +kernel), by decide, by decide⟩
theorem kX2_spreadFor_95 : CM mX2_spreadFor 95 := ⟨gw_in 619 (by decide +kernel) (by decide +kernel), gw_in 422 (by decide +kernel) (by decide +kernel), gw_in 60 (by decide +kernel) (by decide +kernel), gw_in 423 (by decide +kernel) (by decide +kernel), by decide, by decide⟩
theorem kX2_winsIn_104 : CV mX2_winsIn mX2_weightOf 104 2 := ⟨⟨gw_in 630 (by decide +kernel) (by decide +kernel), gw_in 633 (by decide +kernel) (by decide +kernel), gw_in 55 (by decide +kernel) (by decide +kernel), by decide +kernel, by decide, rfl, rfl, by decide +kernel⟩, gw_in 632 (by decide +kernel) (by decide +kernel), gw_in 23 (by decide +kernel) (by decide +kernel)⟩
theorem kX2_winsIn_41 : CV mX2_winsIn mX2_winnerBy 41 2 := ⟨⟨gw_in 444 (by decide +kernel) (by decide +kernel), gw_in 447 (by decide +kernel) (by decide +kernel), gw_in 55 (by decide +kernel) (by decide +kernel), by decide +kernel, by decide, rfl, rfl, by decide +kernel⟩, gw_in 446 (by decide +kernel) (by decide +kernel), gw_in 11 (by decide +kernel) (by decide +kernel)⟩
theorem kX2_weightOf_107 : CT mX2_weightOf mX2_isIll 107 2 := ⟨⟨gw_in 452 (by decide +kernel) (by decide +kernel), gw_in 454 (by decide +kernel) (by decide +kernel), gw_in 55 (by decide +kernel) (by decide +kernel), by decide +kernel, by decide, rfl, rfl, by decide +kernel⟩, gw_in 453 (by decide +kernel) (by decide +kernel)⟩
theorem kX2_winnerBy_51 : CV mX2_winnerBy mX2_raceBy 51 3 := ⟨⟨gw_in 448 (by decide +kernel) (by decide +kernel), gw_in 451 (by decide +kernel) (by decide +kernel), gw_in 55 (by decide +kernel) (by decide +kernel), by decide +kernel, by decide, rfl, rfl, by decide +kernel⟩, gw_in 450 (by decide +kernel) (by decide +kernel), gw_in 12 (by decide +kernel) (by decide +kernel)⟩
theorem kX2_winnerBy_58 : CV mX2_winnerBy mX4_inAs 58 1 := ⟨⟨gw_in 473 (by decide +kernel) (by decide +kernel), gw_in 476 (by decide +kernel) (by decide +kernel), gw_in 56 (by decide +kernel) (by decide +kernel), by decide +kernel, by decide, rfl, rfl, by decide +kernel⟩, gw_in 474 (by decide +kernel) (by decide +kernel), gw_in 475 (by decide +kernel) (by decide +kernel)⟩
theorem kX2_raceBy_107 : CT mX2_raceBy mX2_isIll 107 2 := ⟨⟨gw_in 452 (by decide +kernel) (by decide +kernel), gw_in 454 (by decide +kernel) (by decide +kernel), gw_in 55 (by decide +kernel) (by decide +kernel), by decide +kernel, by decide, rfl, rfl, by decide +kernel⟩, gw_in 453 (by decide +kernel) (by decide +kernel)⟩
theorem kX2_raceBy_111 : CV mX2_raceBy mX6_strengthOf 111 1 := ⟨⟨gw_in 455 (by decide +kernel) (by decide +kernel), gw_in 416 (by decide +kernel) (by decide +kernel), gw_in 51 (by decide +kernel) (by decide +kernel), by decide +kernel, by decide, rfl, rfl, by decide +kernel⟩, gw_in 414 (by decide +kernel) (by decide +kernel), gw_in 415 (by decide +kernel) (by decide +kernel)⟩
theorem kX2_raceBy_121 : CV mX2_raceBy mX6_gainBy 121 3 := ⟨⟨gw_in 456 (by decide +kernel) (by decide +kernel), gw_in 420 (by decide +kernel) (by decide +kernel), gw_in 51 (by decide +kernel) (by decide +kernel), by decide +kernel, by decide, rfl, rfl, by decide +kernel⟩, gw_in 418 (by decide +kernel) (by decide +kernel), gw_in 419 (by decide +kernel) (by decide +kernel)⟩
theorem kX2_raceBy_128 : CV mX2_raceBy mX4_go 128 3 := ⟨⟨gw_in 457 (by decide +kernel) (by decide +kernel), gw_in 460 (by decide +kernel) (by decide +kernel), gw_in 56 (by decide +kernel) (by decide +kernel), by decide +kernel, by decide, rfl, rfl, by decide +kernel⟩, gw_in 458 (by decide +kernel) (by decide +kernel), gw_in 459 (by decide +kernel) (by decide +kernel)⟩
theorem kX2_toNextWay_132 : CV mX2_toNextWay mX2_swapInWay 132 2 := ⟨⟨gw_in 489 (by decide +kernel) (by decide +kernel), gw_in 492 (by decide +kernel) (by decide +kernel), gw_in 55 (by decide +kernel) (by decide +kernel), by decide +kernel, by decide, rfl, rfl, by decide +kernel⟩, gw_in 491 (by decide +kernel) (by decide +kernel), gw_in 18 (by decide +kernel) (by decide +kernel)⟩
theorem kX3_asWidow_29 : CV mX3_asWidow mX3_asChair 29 1 := ⟨⟨gw_in 667 (by decide +kernel) (by decide +kernel), gw_in 661 (by decide +kernel) (by decide +kernel), gw_in 57 (by decide +kernel) (by decide +kernel), by decide +kernel, by decide, rfl, rfl, by decide +kernel⟩, gw_in 659 (by decide +kernel) (by decide +kernel), gw_in 660 (by decide +kernel) (by decide +kernel)⟩
theorem kX3_asAunt_29 : CV mX3_asAunt mX3_asChair 29 1 := ⟨⟨gw_in 667 (by decide +kernel) (by decide +kernel), gw_in 661 (by decide +kernel) (by decide +kernel), gw_in 57 (by decide +kernel) (by decide +kernel), by decide +kernel, by decide, rfl, rfl, by decide +kernel⟩, gw_in 659 (by decide +kernel) (by decide +kernel), gw_in 660 (by decide +kernel) (by decide +kernel)⟩
theorem kX3_asAunt_40 : CV mX3_asAunt mX0_gainOf 40 2 := ⟨⟨gw_in 673 (by decide +kernel) (by decide +kernel), gw_in 412 (by decide +kernel) (by decide +kernel), gw_in 52 (by decide +kernel) (by decide +kernel), by decide +kernel, by decide, rfl, rfl, by decide +kernel⟩, gw_in 410 (by decide +kernel) (by decide +kernel), gw_in 411 (by decide +kernel) (by decide +kernel)⟩
theorem kX3_asPug_46 : CV mX3_asPug mX3_asWidow 46 1 := ⟨⟨gw_in 679 (by decide +kernel) (by decide +kernel), gw_in 665 (by decide +kernel) (by decide +kernel), gw_in 57 (by decide +kernel) (by decide +kernel), by decide +kernel, by decide, rfl, rfl, by decide +kernel⟩, gw_in 663 (by decide +kernel) (by decide +kernel), gw_in 664 (by decide +kernel) (by decide +kernel)⟩
theorem kX3_asVeil_51 : CV mX3_asVeil mX3_asAunt 51 1 := ⟨⟨gw_in 685 (by decide +kernel) (by decide +kernel), gw_in 671 (by decide +kernel) (by decide +kernel), gw_in 57 (by decide +kernel) (by decide +kernel), by decide +kernel, by decide, rfl, rfl, by decide +kernel⟩, gw_in 669 (by decide +kernel) (by decide +kernel), gw_in 670 (by decide +kernel) (by decide +kernel)⟩
theorem kX3_asInfant_29 : CV mX3_asInfant mX3_asChair 29 1 := ⟨⟨gw_in 667 (by decide +kernel) (by decide +kernel), gw_in 661 (by decide +kernel) (by decide +kernel), gw_in 57 (by decide +kernel) (by decide +kernel), by decide +kernel, by decide, rfl, rfl, by decide +kernel⟩, gw_in 659 (by decide +kernel) (by decide +kernel), gw_in 660 (by decide +kernel) (by decide +kernel)⟩
theorem kX4_go_39 : CV mX4_go mX4_move 39 3 := ⟨⟨gw_in 461 (by decide +kernel) (by decide +kernel), gw_in 464 (by decide +kernel) (by decide +kernel), gw_in 56 (by decide +kernel) (by decide +kernel), by decide +kernel, by decide, rfl, rfl, by decide +kernel⟩, gw_in 463 (by decide +kernel) (by decide +kernel), gw_in 13 (by decide +kernel) (by decide +kernel)⟩
theorem kX4_move_46 : CV mX4_move mX4_isBlocked 46 3 := ⟨⟨gw_in 465 (by decide +kernel) (by decide +kernel), gw_in 468 (by decide +kernel) (by decide +kernel), gw_in 56 (by decide +kernel) (by decide +kernel), by decide +kernel, by decide, rfl, rfl, by decide +kernel⟩, gw_in 467 (by decide +kernel) (by decide +kernel), gw_in 14 (by decide +kernel) (by decide +kernel)⟩
theorem kX4_move_50 : CV mX4_move mX4_arrive 50 2 := ⟨⟨gw_in 469 (by decide +kernel) (by decide +kernel), gw_in 472 (by decide +kernel) (by decide +kernel), gw_in 56 (by decide +kernel) (by decide +kernel), by decide +kernel, by decide, rfl, rfl, by decide +kernel⟩, gw_in 471 (by decide +kernel) (by decide +kernel), gw_in 15 (by decide +kernel) (by decide +kernel)⟩
theorem kX5_readInto_19 : CV mX5_readInto mX6_empty 19 0 := ⟨⟨gw_in 338 (by decide +kernel) (by decide +kernel), gw_in 341 (by decide +kernel) (by decide +kernel), gw_in 51 (by decide +kernel) (by decide +kernel), by decide +kernel, by decide, rfl, rfl, by decide +kernel⟩, gw_in 339 (by decide +kernel) (by decide +kernel), gw_in 340 (by decide +kernel) (by decide +kernel)⟩
theorem kX5_readInto_27 : CV mX5_readInto mX5_readToken 27 0 := ⟨⟨gw_in 342 (by decide +kernel) (by decide +kernel), gw_in 345 (by decide +kernel) (by decide +kernel), gw_in 50 (by decide +kernel) (by decide +kernel), by decide +kernel, by decide, rfl, rfl, by decide +kernel⟩, gw_in 344 (by decide +kernel) (by decide +kernel), gw_in 0 (by decide +kernel) (by decide +kernel)⟩
theorem kX5_readInto_33 : CV mX5_readInto mX5_readItem 33 1 := ⟨⟨gw_in 354 (by decide +kernel) (by decide +kernel), gw_in 357 (by decide +kernel) (by decide +kernel), gw_in 50 (by decide +kernel) (by decide +kernel), by decide +kernel, by decide, rfl, rfl, by decide +kernel⟩, gw_in 356 (by decide +kernel) (by decide +kernel), gw_in 3 (by decide +kernel) (by decide +kernel)⟩
theorem kX5_readItem_43 : CV mX5_readItem mX5_readPromenade 43 1 := ⟨⟨gw_in 358 (by decide +kernel) (by decide +kernel), gw_in 361 (by decide +kernel) (by decide +kernel), gw_in 50 (by decide +kernel) (by decide +kernel), by decide +kernel, by decide, rfl, rfl, by decide +kernel⟩, gw_in 360 (by decide +kernel) (by decide +kernel), gw_in 4 (by decide +kernel) (by decide +kernel)⟩
theorem kX5_readItem_49 : CV mX5_readItem mX5_readChair 49 1 := ⟨⟨gw_in 370 (by decide +kernel) (by decide +kernel), gw_in 373 (by decide +kernel) (by decide +kernel), gw_in 50 (by decide +kernel) (by decide +kernel), by decide +kernel, by decide, rfl, rfl, by decide +kernel⟩, gw_in 372 (by decide +kernel) (by decide +kernel), gw_in 6 (by decide +kernel) (by decide +kernel)⟩
theorem kX5_readItem_52 : CV mX5_readItem mX5_readPusher 52 1 := ⟨⟨gw_in 386 (by decide +kernel) (by decide +kernel), gw_in 389 (by decide +kernel) (by decide +kernel), gw_in 50 (by decide +kernel) (by decide +kernel), by decide +kernel, by decide, rfl, rfl, by decide +kernel⟩, gw_in 388 (by decide +kernel) (by decide +kernel), gw_in 9 (by decide +kernel) (by decide +kernel)⟩
theorem kX5_readPromenade_27 : CV mX5_readPromenade mX5_readToken 27 0 := ⟨⟨gw_in 342 (by decide +kernel) (by decide +kernel), gw_in 345 (by decide +kernel) (by decide +kernel), gw_in 50 (by decide +kernel) (by decide +kernel), by decide +kernel, by decide, rfl, rfl, by decide +kernel⟩, gw_in 344 (by decide +kernel) (by decide +kernel), gw_in 0 (by decide +kernel) (by decide +kernel)⟩
theorem kX5_readPromenade_55 : CV mX5_readPromenade mX5_costOfToken 55 0 := ⟨⟨gw_in 362 (by decide +kernel) (by decide +kernel), gw_in 365 (by decide +kernel) (by decide +kernel), gw_in 50 (by decide +kernel) (by decide +kernel), by decide +kernel, by decide, rfl, rfl, by decide +kernel⟩, gw_in 364 (by decide +kernel) (by decide +kernel), gw_in 5 (by decide +kernel) (by decide +kernel)⟩
theorem kX5_readPromenade_59 : CV mX5_readPromenade mX6_addCell 59 1 := ⟨⟨gw_in 366 (by decide +kernel) (by decide +kernel), gw_in 369 (by decide +kernel) (by decide +kernel), gw_in 51 (by decide +kernel) (by decide +kernel), by decide +kernel, by decide, rfl, rfl, by decide +kernel⟩, gw_in 367 (by decide +kernel) (by decide +kernel), gw_in 368 (by decide +kernel) (by decide +kernel)⟩
theorem kX5_readChair_63 : CV mX5_readChair mX5_readNumber 63 2 := ⟨⟨gw_in 374 (by decide +kernel) (by decide +kernel), gw_in 377 (by decide +kernel) (by decide +kernel), gw_in 50 (by decide +kernel) (by decide +kernel), by decide +kernel, by decide, rfl, rfl, by decide +kernel⟩, gw_in 376 (by decide +kernel) (by decide +kernel), gw_in 7 (by decide +kernel) (by decide +kernel)⟩
theorem kX5_readChair_70 : CV mX5_readChair mX6_addChair 70 2 := ⟨⟨gw_in 378 (by decide +kernel) (by decide +kernel), gw_in 381 (by decide +kernel) (by decide +kernel), gw_in 51 (by decide +kernel) (by decide +kernel), by decide +kernel, by decide, rfl, rfl, by decide +kernel⟩, gw_in 379 (by decide +kernel) (by decide +kernel), gw_in 380 (by decide +kernel) (by decide +kernel)⟩
theorem kX5_readChair_74 : CV mX5_readChair mX5_readEnd 74 0 := ⟨⟨gw_in 382 (by decide +kernel) (by decide +kernel), gw_in 385 (by decide +kernel) (by decide +kernel), gw_in 50 (by decide +kernel) (by decide +kernel), by decide +kernel, by decide, rfl, rfl, by decide +kernel⟩, gw_in 384 (by decide +kernel) (by decide +kernel), gw_in 8 (by decide +kernel) (by decide +kernel)⟩
theorem kX5_readPusher_63 : CV mX5_readPusher mX5_readNumber 63 2 := ⟨⟨gw_in 374 (by decide +kernel) (by decide +kernel), gw_in 377 (by decide +kernel) (by decide +kernel), gw_in 50 (by decide +kernel) (by decide +kernel), by decide +kernel, by decide, rfl, rfl, by decide +kernel⟩, gw_in 376 (by decide +kernel) (by decide +kernel), gw_in 7 (by decide +kernel) (by decide +kernel)⟩
theorem kX5_readPusher_74 : CV mX5_readPusher mX5_readEnd 74 0 := ⟨⟨gw_in 382 (by decide +kernel) (by decide +kernel), gw_in 385 (by decide +kernel) (by decide +kernel), gw_in 50 (by decide +kernel) (by decide +kernel), by decide +kernel, by decide, rfl, rfl, by decide +kernel⟩, gw_in 384 (by decide +kernel) (by decide +kernel), gw_in 8 (by decide +kernel) (by decide +kernel)⟩
theorem kX5_readNumber_27 : CV mX5_readNumber mX5_readToken 27 0 := ⟨⟨gw_in 342 (by decide +kernel) (by decide +kernel), gw_in 345 (by decide +kernel) (by decide +kernel), gw_in 50 (by decide +kernel) (by decide +kernel), by decide +kernel, by decide, rfl, rfl, by decide +kernel⟩, gw_in 344 (by decide +kernel) (by decide +kernel), gw_in 0 (by decide +kernel) (by decide +kernel)⟩
theorem kX5_readEnd_27 : CV mX5_readEnd mX5_readToken 27 0 := ⟨⟨gw_in 342 (by decide +kernel) (by decide +kernel), gw_in 345 (by decide +kernel) (by decide +kernel), gw_in 50 (by decide +kernel) (by decide +kernel), by decide +kernel, by decide, rfl, rfl, by decide +kernel⟩, gw_in 344 (by decide +kernel) (by decide +kernel), gw_in 0 (by decide +kernel) (by decide +kernel)⟩
theorem kX5_readToken_81 : CV mX5_readToken mX5_isDigitAt 81 1 := ⟨⟨gw_in 346 (by decide +kernel) (by decide +kernel), gw_in 349 (by decide +kernel) (by decide +kernel), gw_in 50 (by decide +kernel) (by decide +kernel), by decide +kernel, by decide, rfl, rfl, by decide +kernel⟩, gw_in 348 (by decide +kernel) (by decide +kernel), gw_in 1 (by decide +kernel) (by decide +kernel)⟩
theorem kX5_readToken_85 : CV mX5_readToken mX5_readDigits 85 0 := ⟨⟨gw_in 350 (by decide +kernel) (by decide +kernel), gw_in 353 (by decide +kernel) (by decide +kernel), gw_in 50 (by decide +kernel) (by decide +kernel), by decide +kernel, by decide, rfl, rfl, by decide +kernel⟩, gw_in 352 (by decide +kernel) (by decide +kernel), gw_in 2 (by decide +kernel) (by decide +kernel)⟩
theorem kX5_readDigits_81 : CV mX5_readDigits mX5_isDigitAt 81 1 := ⟨⟨gw_in 346 (by decide +kernel) (by decide +kernel), gw_in 349 (by decide +kernel) (by decide +kernel), gw_in 50 (by decide +kernel) (by decide +kernel), by decide +kernel, by decide, rfl, rfl, by decide +kernel⟩, gw_in 348 (by decide +kernel) (by decide +kernel), gw_in 1 (by decide +kernel) (by decide +kernel)⟩
theorem kX6_become_34 : CA mX6_become 34 := ⟨gw_in 394 (by decide +kernel) (by decide +kernel), gw_in 396 (by decide +kernel) (by decide +kernel), gw_in 395 (by decide +kernel) (by decide +kernel), gw_in 59 (by decide +kernel) (by decide +kernel), by decide, by decide +kernel⟩
theorem kX6_gainBy_40 : CM mX6_gainBy 40 := ⟨gw_in 421 (by decide +kernel) (by decide +kernel), gw_in 422 (by decide +kernel) (by decide +kernel), gw_in 60 (by decide +kernel) (by decide +kernel), gw_in 423 (by decide +kernel) (by decide +kernel), by decide, by decide⟩
theorem kX7_suspects_27 : CV mX7_suspects mX7_isAllAsIf 27 4 := ⟨⟨gw_in 505 (by decide +kernel) (by decide +kernel), gw_in 508 (by decide +kernel) (by decide +kernel), gw_in 54 (by decide +kernel) (by decide +kernel), by decide +kernel, by decide, rfl, rfl, by decide +kernel⟩, gw_in 507 (by decide +kernel) (by decide +kernel), gw_in 20 (by decide +kernel) (by decide +kernel)⟩
theorem kX7_isAllAsIf_31 : CV mX7_isAllAsIf mX0_aloneOf 31 3 := ⟨⟨gw_in 509 (by decide +kernel) (by decide +kernel), gw_in 512 (by decide +kernel) (by decide +kernel), gw_in 52 (by decide +kernel) (by decide +kernel), by decide +kernel, by decide, rfl, rfl, by decide +kernel⟩, gw_in 510 (by decide +kernel) (by decide +kernel), gw_in 511 (by decide +kernel) (by decide +kernel)⟩
theorem qX2_100 : Cond.constant RX2 100 (2147483647) ∈ gw_tbl := gw_in 611 (by decide +kernel) (by decide +kernel)
theorem qX8_211 : Cond.constant RX8 211 (-1000000) ∈ gw_tbl := gw_in 657 (by decide +kernel) (by decide +kernel)
theorem qX3_27 : Cond.constantLong RX3 27 (10) ∈ gw_tbl := gw_in 666 (by decide +kernel) (by decide +kernel)
theorem qX3_38 : Cond.constantLong RX3 38 (100) ∈ gw_tbl := gw_in 672 (by decide +kernel) (by decide +kernel)
theorem qX3_44 : Cond.constantLong RX3 44 (1000) ∈ gw_tbl := gw_in 678 (by decide +kernel) (by decide +kernel)
theorem qX3_49 : Cond.constantLong RX3 49 (10000) ∈ gw_tbl := gw_in 684 (by decide +kernel) (by decide +kernel)
theorem qX3_54 : Cond.constantLong RX3 54 (100000) ∈ gw_tbl := gw_in 690 (by decide +kernel) (by decide +kernel)
theorem qX9_219 : Cond.constant RX9 219 (-1000000) ∈ gw_tbl := gw_in 1027 (by decide +kernel) (by decide +kernel)
theorem qX9_224 : Cond.constantLong RX9 224 (11) ∈ gw_tbl := gw_in 1028 (by decide +kernel) (by decide +kernel)
theorem qX9_226 : Cond.constantLong RX9 226 (101) ∈ gw_tbl := gw_in 1029 (by decide +kernel) (by decide +kernel)
theorem qX9_228 : Cond.constantLong RX9 228 (1011) ∈ gw_tbl := gw_in 1030 (by decide +kernel) (by decide +kernel)
theorem qX9_230 : Cond.constantLong RX9 230 (10101) ∈ gw_tbl := gw_in 1031 (by decide +kernel) (by decide +kernel)
theorem qX9_232 : Cond.constantLong RX9 232 (100001) ∈ gw_tbl := gw_in 1032 (by decide +kernel) (by decide +kernel)
abbrev shC : List CS := [.inr (8, [.inr 1, .inr 2, .inr 3, .inr 4, .inr 5, .inr 6, .inr 7, .inr 8, .inr 9, .inr 10]), .inr (5, [.inr 12, .inl 0, .inl 0, .inl 0, .inl 0, .inl 0]), .inr (6, [.inr 13, .inr 14, .inr 15, .inr 16, .inl 0, .inl 0, .inl 0]), .inr (6, [.inr 17, .inr 18, .inr 19, .inr 20, .inl 0, .inl 0, .inl 0]), .inr (0, [.inr 21, .inr 22, .inr 23, .inr 24, .inl 0, .inl 2]), .inr (0, [.inr 25, .inr 26, .inr 27, .inr 28, .inl 0, .inl 2]), .inr (0, [.inr 29, .inr 30, .inr 31, .inr 32, .inl 0, .inl 2]), .inr (1, [.inr 33, .inr 34, .inr 35, .inl 0]), .inr (7, [.inr 36, .inr 37, .inl 0]), .inr (2, [.inr 2, .inr 4, .inr 11, .inr 38, .inr 39, .inr 40]), .inr (3, [.inr 2, .inr 4, .inl 1]), .inr (4, [.inr 41, .inr 42, .inr 43, .inr 44, .inr 45, .inl 0]), .inl (0, 120), .inl (0, 16), .inl (0, 5), .inl (0, 5), .inl (0, 5), .inl (0, 16), .inl (0, 5), .inl (0, 5), .inl (0, 5), .inl (0, 5), .inl (0, 5), .inl (1, 5), .inl (0, 5), .inl (0, 5), .inl (0, 5), .inl (1, 5), .inl (0, 5), .inl (0, 5), .inl (0, 5), .inl (1, 5), .inl (0, 5), .inl (0, 10), .inl (0, 10), .inl (0, 10), .inl (0, 6), .inl (0, 6), .inl (0, 5), .inl (0, 5), .inl (0, 5), .inl (0, 5), .inl (0, 5), .inl (0, 5), .inl (0, 5), .inl (0, 5)]
abbrev shM : List CS := [.inr (9, [.inl 0, .inr 1, .inl 0, .inr 2, .inr 3, .inr 4, .inr 5, .inl 0, .inr 6, .inr 7, .inl 0, .inr 8, .inl 1, .inr 9, .inl 0, .inl 0, .inl 0, .inl 0, .inl 0, .inl 2, .inl 0, .inl 0, .inr 10, .inl 0, .inr 11, .inr 12, .inr 13, .inr 14, .inr 15, .inr 16, .inr 17, .inl 0, .inr 18, .inr 19, .inr 20, .inr 21]), .inl (0, 16), .inl (0, 10), .inl (0, 5), .inl (0, 17), .inl (0, 170), .inl (0, 34), .inl (1, 2), .inl (0, 12), .inl (0, 120), .inl (0, 16), .inl (0, 10), .inl (0, 5), .inl (0, 17), .inl (0, 5), .inl (0, 5), .inl (0, 5), .inl (0, 5), .inl (0, 25), .inl (0, 5), .inl (0, 5), .inl (0, 5)]
end
section
/-! calls by arity, and answers by kind -/
def nLg : AV → Bool
  | .inr (.inr _) => false
  | _ => true
theorem nLg_all {as : List AV} (h : as.all nLg = true) : ∀ v ∈ as, ∀ z, v ≠ vl z := fun v hv z e => by
  have := List.all_eq_true.mp h v hv
  subst e
  cases this
def RI (Q : Int → Hp → Prop) : Option AV → Hp → Prop := fun r h => ∃ x, r = some (vi x) ∧ Q x h
def RJ (Q : Int → Hp → Prop) : Option AV → Hp → Prop := fun r h => ∃ x, r = some (vl x) ∧ Q x h
def RR (Q : Nat → Hp → Prop) : Option AV → Hp → Prop := fun r h => ∃ x, r = some (vr x) ∧ Q x h
def RV (Q : Hp → Prop) : Option AV → Hp → Prop := fun r h => r = none ∧ Q h
section EVD
variable {sh : List CS} {M : MI} {pc : Nat} {ls : List (Option AV)} {st : List AV} {h : Hp} {post : Option AV → Hp → Prop}
theorem ev_iret {Q : Int → Hp → Prop} {x : Int} (hr : M.2.2.2.1 = some .int) (hd : decode M.2.1 pc = .ok (.ireturn, 1)) (hp : Q x h) : Ev sh M pc ls [vi x] h (RI Q) := ev_ireturn hr hd ⟨x, rfl, hp⟩
theorem ev_zret {Q : Int → Hp → Prop} {x : Int} (hr : M.2.2.2.1 = some .boolean) (hd : decode M.2.1 pc = .ok (.ireturn, 1)) (hx : x = 0 ∨ x = 1) (hp : Q x h) : Ev sh M pc ls [vi x] h (RI Q) := ev_zreturn hr hd hx ⟨x, rfl, hp⟩
theorem ev_lret {Q : Int → Hp → Prop} {x : Int} (hr : M.2.2.2.1 = some .long) (hd : decode M.2.1 pc = .ok (.lreturn, 1)) (hp : Q x h) : Ev sh M pc ls [vl x] h (RJ Q) := ev_lreturn hr hd ⟨x, rfl, hp⟩
theorem ev_aret {Q : Nat → Hp → Prop} {x : Nat} {N : String} (hr : M.2.2.2.1 = some (.object N)) (hd : decode M.2.1 pc = .ok (.areturn, 1)) (hp : Q x h) : Ev sh M pc ls [vr x] h (RR Q) := ev_areturn hr hd ⟨x, rfl, hp⟩
theorem ev_vret {Q : Hp → Prop} (hr : M.2.2.2.1 = none) (hd : decode M.2.1 pc = .ok (.return_, 1)) (hp : Q h) : Ev sh M pc ls [] h (RV Q) := ev_return hr hd ⟨rfl, hp⟩
theorem ev_wk {P Q : Option AV → Hp → Prop} (k : Ev sh M pc ls st h P) (hPQ : ∀ v h', P v h' → Q v h') : Ev sh M pc ls st h Q := by
  intro p l e s m args below meth c D cA ad A H locs las C hP hD hS hA hl T hT X
  obtain ⟨t, a, o, b1, b2, ⟨⟨v, h', c1, c2, c3⟩, c4⟩, b4⟩ := k p l e s m args below meth c D cA ad A H locs las C hP hD hS hA hl T hT X
  exact ⟨t, a, o, b1, b2, ⟨⟨v, h', c1, hPQ v h' c2, c3⟩, c4⟩, b4⟩
theorem ev_eq {st2 : List AV} {ls2 : List (Option AV)} {h2 : Hp} (e1 : ls = ls2) (e2 : st = st2) (e3 : h = h2) (k : Ev sh M pc ls2 st2 h2 post) : Ev sh M pc ls st h post := by subst e1; subst e2; subst e3; exact k
theorem cVi0 {M' : MI} (n : Nat) {i b ci : Nat} {sl : List SK} {q : vw_C} {ls' : List (Option AV)} {Q : Int → Hp → Prop} (hc : CV M M' i 0) (hd : decode M.2.1 pc = .ok (.invokevirtual i, 3)) (hn : pc + 3 = n) (hb : sh[b]? = some (.inr (ci, sl))) (hq : vwCl[ci]? = some q) (hq2 : q.1 = M'.1.cls) (hls : (vr b :: []).map some ++ List.replicate (M'.2.2.1 - 1) none = ls') (has : 1 ≤ M'.2.2.1) (hnl : ([] : List AV).all nLg = true) (hst : st.length ≤ 4) (kc : Ev sh M' 0 ls' [] h (RI Q)) (k : ∀ x h', Q x h' → Ev sh M n ls (vi x :: st) h' post) : Ev sh M pc ls (vr b :: st) h post := ev_callV n [] hc hd hn hb hq hq2 hls has (nLg_all hnl) hst kc (fun v h' hp => by obtain ⟨x, rfl, hq⟩ := hp; exact k x h' hq)
theorem cSi0 {M' : MI} (n : Nat) {i : Nat} {ls' : List (Option AV)} {Q : Int → Hp → Prop} (hc : CT M M' i 0) (hd : decode M.2.1 pc = .ok (.invokestatic i, 3)) (hn : pc + 3 = n) (hls : ([] : List AV).map some ++ List.replicate (M'.2.2.1 - 0) none = ls') (has : 0 ≤ M'.2.2.1) (hnl : ([] : List AV).all nLg = true) (hst : st.length ≤ 4) (kc : Ev sh M' 0 ls' [] h (RI Q)) (k : ∀ x h', Q x h' → Ev sh M n ls (vi x :: st) h' post) : Ev sh M pc ls (st) h post := ev_callS n [] hc hd hn hls has (nLg_all hnl) hst kc (fun v h' hp => by obtain ⟨x, rfl, hq⟩ := hp; exact k x h' hq)
theorem cVi1 {M' : MI} (n : Nat) {i b ci : Nat} {sl : List SK} {q : vw_C} {a1 : AV} {ls' : List (Option AV)} {Q : Int → Hp → Prop} (hc : CV M M' i 1) (hd : decode M.2.1 pc = .ok (.invokevirtual i, 3)) (hn : pc + 3 = n) (hb : sh[b]? = some (.inr (ci, sl))) (hq : vwCl[ci]? = some q) (hq2 : q.1 = M'.1.cls) (hls : (vr b :: [a1]).map some ++ List.replicate (M'.2.2.1 - 2) none = ls') (has : 2 ≤ M'.2.2.1) (hnl : ([a1] : List AV).all nLg = true) (hst : st.length ≤ 4) (kc : Ev sh M' 0 ls' [] h (RI Q)) (k : ∀ x h', Q x h' → Ev sh M n ls (vi x :: st) h' post) : Ev sh M pc ls (a1 :: vr b :: st) h post := ev_callV n [a1] hc hd hn hb hq hq2 hls has (nLg_all hnl) hst kc (fun v h' hp => by obtain ⟨x, rfl, hq⟩ := hp; exact k x h' hq)
theorem cSi1 {M' : MI} (n : Nat) {i : Nat} {a1 : AV} {ls' : List (Option AV)} {Q : Int → Hp → Prop} (hc : CT M M' i 1) (hd : decode M.2.1 pc = .ok (.invokestatic i, 3)) (hn : pc + 3 = n) (hls : ([a1] : List AV).map some ++ List.replicate (M'.2.2.1 - 1) none = ls') (has : 1 ≤ M'.2.2.1) (hnl : ([a1] : List AV).all nLg = true) (hst : st.length ≤ 4) (kc : Ev sh M' 0 ls' [] h (RI Q)) (k : ∀ x h', Q x h' → Ev sh M n ls (vi x :: st) h' post) : Ev sh M pc ls (a1 :: st) h post := ev_callS n [a1] hc hd hn hls has (nLg_all hnl) hst kc (fun v h' hp => by obtain ⟨x, rfl, hq⟩ := hp; exact k x h' hq)
theorem cVi2 {M' : MI} (n : Nat) {i b ci : Nat} {sl : List SK} {q : vw_C} {a1 a2 : AV} {ls' : List (Option AV)} {Q : Int → Hp → Prop} (hc : CV M M' i 2) (hd : decode M.2.1 pc = .ok (.invokevirtual i, 3)) (hn : pc + 3 = n) (hb : sh[b]? = some (.inr (ci, sl))) (hq : vwCl[ci]? = some q) (hq2 : q.1 = M'.1.cls) (hls : (vr b :: [a1, a2]).map some ++ List.replicate (M'.2.2.1 - 3) none = ls') (has : 3 ≤ M'.2.2.1) (hnl : ([a1, a2] : List AV).all nLg = true) (hst : st.length ≤ 4) (kc : Ev sh M' 0 ls' [] h (RI Q)) (k : ∀ x h', Q x h' → Ev sh M n ls (vi x :: st) h' post) : Ev sh M pc ls (a2 :: a1 :: vr b :: st) h post := ev_callV n [a1, a2] hc hd hn hb hq hq2 hls has (nLg_all hnl) hst kc (fun v h' hp => by obtain ⟨x, rfl, hq⟩ := hp; exact k x h' hq)
theorem cSi2 {M' : MI} (n : Nat) {i : Nat} {a1 a2 : AV} {ls' : List (Option AV)} {Q : Int → Hp → Prop} (hc : CT M M' i 2) (hd : decode M.2.1 pc = .ok (.invokestatic i, 3)) (hn : pc + 3 = n) (hls : ([a1, a2] : List AV).map some ++ List.replicate (M'.2.2.1 - 2) none = ls') (has : 2 ≤ M'.2.2.1) (hnl : ([a1, a2] : List AV).all nLg = true) (hst : st.length ≤ 4) (kc : Ev sh M' 0 ls' [] h (RI Q)) (k : ∀ x h', Q x h' → Ev sh M n ls (vi x :: st) h' post) : Ev sh M pc ls (a2 :: a1 :: st) h post := ev_callS n [a1, a2] hc hd hn hls has (nLg_all hnl) hst kc (fun v h' hp => by obtain ⟨x, rfl, hq⟩ := hp; exact k x h' hq)
theorem cVi3 {M' : MI} (n : Nat) {i b ci : Nat} {sl : List SK} {q : vw_C} {a1 a2 a3 : AV} {ls' : List (Option AV)} {Q : Int → Hp → Prop} (hc : CV M M' i 3) (hd : decode M.2.1 pc = .ok (.invokevirtual i, 3)) (hn : pc + 3 = n) (hb : sh[b]? = some (.inr (ci, sl))) (hq : vwCl[ci]? = some q) (hq2 : q.1 = M'.1.cls) (hls : (vr b :: [a1, a2, a3]).map some ++ List.replicate (M'.2.2.1 - 4) none = ls') (has : 4 ≤ M'.2.2.1) (hnl : ([a1, a2, a3] : List AV).all nLg = true) (hst : st.length ≤ 4) (kc : Ev sh M' 0 ls' [] h (RI Q)) (k : ∀ x h', Q x h' → Ev sh M n ls (vi x :: st) h' post) : Ev sh M pc ls (a3 :: a2 :: a1 :: vr b :: st) h post := ev_callV n [a1, a2, a3] hc hd hn hb hq hq2 hls has (nLg_all hnl) hst kc (fun v h' hp => by obtain ⟨x, rfl, hq⟩ := hp; exact k x h' hq)
theorem cSi3 {M' : MI} (n : Nat) {i : Nat} {a1 a2 a3 : AV} {ls' : List (Option AV)} {Q : Int → Hp → Prop} (hc : CT M M' i 3) (hd : decode M.2.1 pc = .ok (.invokestatic i, 3)) (hn : pc + 3 = n) (hls : ([a1, a2, a3] : List AV).map some ++ List.replicate (M'.2.2.1 - 3) none = ls') (has : 3 ≤ M'.2.2.1) (hnl : ([a1, a2, a3] : List AV).all nLg = true) (hst : st.length ≤ 4) (kc : Ev sh M' 0 ls' [] h (RI Q)) (k : ∀ x h', Q x h' → Ev sh M n ls (vi x :: st) h' post) : Ev sh M pc ls (a3 :: a2 :: a1 :: st) h post := ev_callS n [a1, a2, a3] hc hd hn hls has (nLg_all hnl) hst kc (fun v h' hp => by obtain ⟨x, rfl, hq⟩ := hp; exact k x h' hq)
theorem cVi4 {M' : MI} (n : Nat) {i b ci : Nat} {sl : List SK} {q : vw_C} {a1 a2 a3 a4 : AV} {ls' : List (Option AV)} {Q : Int → Hp → Prop} (hc : CV M M' i 4) (hd : decode M.2.1 pc = .ok (.invokevirtual i, 3)) (hn : pc + 3 = n) (hb : sh[b]? = some (.inr (ci, sl))) (hq : vwCl[ci]? = some q) (hq2 : q.1 = M'.1.cls) (hls : (vr b :: [a1, a2, a3, a4]).map some ++ List.replicate (M'.2.2.1 - 5) none = ls') (has : 5 ≤ M'.2.2.1) (hnl : ([a1, a2, a3, a4] : List AV).all nLg = true) (hst : st.length ≤ 4) (kc : Ev sh M' 0 ls' [] h (RI Q)) (k : ∀ x h', Q x h' → Ev sh M n ls (vi x :: st) h' post) : Ev sh M pc ls (a4 :: a3 :: a2 :: a1 :: vr b :: st) h post := ev_callV n [a1, a2, a3, a4] hc hd hn hb hq hq2 hls has (nLg_all hnl) hst kc (fun v h' hp => by obtain ⟨x, rfl, hq⟩ := hp; exact k x h' hq)
theorem cSi4 {M' : MI} (n : Nat) {i : Nat} {a1 a2 a3 a4 : AV} {ls' : List (Option AV)} {Q : Int → Hp → Prop} (hc : CT M M' i 4) (hd : decode M.2.1 pc = .ok (.invokestatic i, 3)) (hn : pc + 3 = n) (hls : ([a1, a2, a3, a4] : List AV).map some ++ List.replicate (M'.2.2.1 - 4) none = ls') (has : 4 ≤ M'.2.2.1) (hnl : ([a1, a2, a3, a4] : List AV).all nLg = true) (hst : st.length ≤ 4) (kc : Ev sh M' 0 ls' [] h (RI Q)) (k : ∀ x h', Q x h' → Ev sh M n ls (vi x :: st) h' post) : Ev sh M pc ls (a4 :: a3 :: a2 :: a1 :: st) h post := ev_callS n [a1, a2, a3, a4] hc hd hn hls has (nLg_all hnl) hst kc (fun v h' hp => by obtain ⟨x, rfl, hq⟩ := hp; exact k x h' hq)
theorem cVi5 {M' : MI} (n : Nat) {i b ci : Nat} {sl : List SK} {q : vw_C} {a1 a2 a3 a4 a5 : AV} {ls' : List (Option AV)} {Q : Int → Hp → Prop} (hc : CV M M' i 5) (hd : decode M.2.1 pc = .ok (.invokevirtual i, 3)) (hn : pc + 3 = n) (hb : sh[b]? = some (.inr (ci, sl))) (hq : vwCl[ci]? = some q) (hq2 : q.1 = M'.1.cls) (hls : (vr b :: [a1, a2, a3, a4, a5]).map some ++ List.replicate (M'.2.2.1 - 6) none = ls') (has : 6 ≤ M'.2.2.1) (hnl : ([a1, a2, a3, a4, a5] : List AV).all nLg = true) (hst : st.length ≤ 4) (kc : Ev sh M' 0 ls' [] h (RI Q)) (k : ∀ x h', Q x h' → Ev sh M n ls (vi x :: st) h' post) : Ev sh M pc ls (a5 :: a4 :: a3 :: a2 :: a1 :: vr b :: st) h post := ev_callV n [a1, a2, a3, a4, a5] hc hd hn hb hq hq2 hls has (nLg_all hnl) hst kc (fun v h' hp => by obtain ⟨x, rfl, hq⟩ := hp; exact k x h' hq)
theorem cSi5 {M' : MI} (n : Nat) {i : Nat} {a1 a2 a3 a4 a5 : AV} {ls' : List (Option AV)} {Q : Int → Hp → Prop} (hc : CT M M' i 5) (hd : decode M.2.1 pc = .ok (.invokestatic i, 3)) (hn : pc + 3 = n) (hls : ([a1, a2, a3, a4, a5] : List AV).map some ++ List.replicate (M'.2.2.1 - 5) none = ls') (has : 5 ≤ M'.2.2.1) (hnl : ([a1, a2, a3, a4, a5] : List AV).all nLg = true) (hst : st.length ≤ 4) (kc : Ev sh M' 0 ls' [] h (RI Q)) (k : ∀ x h', Q x h' → Ev sh M n ls (vi x :: st) h' post) : Ev sh M pc ls (a5 :: a4 :: a3 :: a2 :: a1 :: st) h post := ev_callS n [a1, a2, a3, a4, a5] hc hd hn hls has (nLg_all hnl) hst kc (fun v h' hp => by obtain ⟨x, rfl, hq⟩ := hp; exact k x h' hq)
theorem cVv0 {M' : MI} (n : Nat) {i b ci : Nat} {sl : List SK} {q : vw_C} {ls' : List (Option AV)} {Q : Hp → Prop} (hc : CV M M' i 0) (hd : decode M.2.1 pc = .ok (.invokevirtual i, 3)) (hn : pc + 3 = n) (hb : sh[b]? = some (.inr (ci, sl))) (hq : vwCl[ci]? = some q) (hq2 : q.1 = M'.1.cls) (hls : (vr b :: []).map some ++ List.replicate (M'.2.2.1 - 1) none = ls') (has : 1 ≤ M'.2.2.1) (hnl : ([] : List AV).all nLg = true) (hst : st.length ≤ 4) (kc : Ev sh M' 0 ls' [] h (RV Q)) (k : ∀ h', Q h' → Ev sh M n ls st h' post) : Ev sh M pc ls (vr b :: st) h post := ev_callV n [] hc hd hn hb hq hq2 hls has (nLg_all hnl) hst kc (fun v h' hp => by obtain ⟨rfl, hq⟩ := hp; exact k h' hq)
theorem cSv0 {M' : MI} (n : Nat) {i : Nat} {ls' : List (Option AV)} {Q : Hp → Prop} (hc : CT M M' i 0) (hd : decode M.2.1 pc = .ok (.invokestatic i, 3)) (hn : pc + 3 = n) (hls : ([] : List AV).map some ++ List.replicate (M'.2.2.1 - 0) none = ls') (has : 0 ≤ M'.2.2.1) (hnl : ([] : List AV).all nLg = true) (hst : st.length ≤ 4) (kc : Ev sh M' 0 ls' [] h (RV Q)) (k : ∀ h', Q h' → Ev sh M n ls st h' post) : Ev sh M pc ls (st) h post := ev_callS n [] hc hd hn hls has (nLg_all hnl) hst kc (fun v h' hp => by obtain ⟨rfl, hq⟩ := hp; exact k h' hq)
theorem cVv1 {M' : MI} (n : Nat) {i b ci : Nat} {sl : List SK} {q : vw_C} {a1 : AV} {ls' : List (Option AV)} {Q : Hp → Prop} (hc : CV M M' i 1) (hd : decode M.2.1 pc = .ok (.invokevirtual i, 3)) (hn : pc + 3 = n) (hb : sh[b]? = some (.inr (ci, sl))) (hq : vwCl[ci]? = some q) (hq2 : q.1 = M'.1.cls) (hls : (vr b :: [a1]).map some ++ List.replicate (M'.2.2.1 - 2) none = ls') (has : 2 ≤ M'.2.2.1) (hnl : ([a1] : List AV).all nLg = true) (hst : st.length ≤ 4) (kc : Ev sh M' 0 ls' [] h (RV Q)) (k : ∀ h', Q h' → Ev sh M n ls st h' post) : Ev sh M pc ls (a1 :: vr b :: st) h post := ev_callV n [a1] hc hd hn hb hq hq2 hls has (nLg_all hnl) hst kc (fun v h' hp => by obtain ⟨rfl, hq⟩ := hp; exact k h' hq)
theorem cSv1 {M' : MI} (n : Nat) {i : Nat} {a1 : AV} {ls' : List (Option AV)} {Q : Hp → Prop} (hc : CT M M' i 1) (hd : decode M.2.1 pc = .ok (.invokestatic i, 3)) (hn : pc + 3 = n) (hls : ([a1] : List AV).map some ++ List.replicate (M'.2.2.1 - 1) none = ls') (has : 1 ≤ M'.2.2.1) (hnl : ([a1] : List AV).all nLg = true) (hst : st.length ≤ 4) (kc : Ev sh M' 0 ls' [] h (RV Q)) (k : ∀ h', Q h' → Ev sh M n ls st h' post) : Ev sh M pc ls (a1 :: st) h post := ev_callS n [a1] hc hd hn hls has (nLg_all hnl) hst kc (fun v h' hp => by obtain ⟨rfl, hq⟩ := hp; exact k h' hq)
theorem cVv2 {M' : MI} (n : Nat) {i b ci : Nat} {sl : List SK} {q : vw_C} {a1 a2 : AV} {ls' : List (Option AV)} {Q : Hp → Prop} (hc : CV M M' i 2) (hd : decode M.2.1 pc = .ok (.invokevirtual i, 3)) (hn : pc + 3 = n) (hb : sh[b]? = some (.inr (ci, sl))) (hq : vwCl[ci]? = some q) (hq2 : q.1 = M'.1.cls) (hls : (vr b :: [a1, a2]).map some ++ List.replicate (M'.2.2.1 - 3) none = ls') (has : 3 ≤ M'.2.2.1) (hnl : ([a1, a2] : List AV).all nLg = true) (hst : st.length ≤ 4) (kc : Ev sh M' 0 ls' [] h (RV Q)) (k : ∀ h', Q h' → Ev sh M n ls st h' post) : Ev sh M pc ls (a2 :: a1 :: vr b :: st) h post := ev_callV n [a1, a2] hc hd hn hb hq hq2 hls has (nLg_all hnl) hst kc (fun v h' hp => by obtain ⟨rfl, hq⟩ := hp; exact k h' hq)
theorem cSv2 {M' : MI} (n : Nat) {i : Nat} {a1 a2 : AV} {ls' : List (Option AV)} {Q : Hp → Prop} (hc : CT M M' i 2) (hd : decode M.2.1 pc = .ok (.invokestatic i, 3)) (hn : pc + 3 = n) (hls : ([a1, a2] : List AV).map some ++ List.replicate (M'.2.2.1 - 2) none = ls') (has : 2 ≤ M'.2.2.1) (hnl : ([a1, a2] : List AV).all nLg = true) (hst : st.length ≤ 4) (kc : Ev sh M' 0 ls' [] h (RV Q)) (k : ∀ h', Q h' → Ev sh M n ls st h' post) : Ev sh M pc ls (a2 :: a1 :: st) h post := ev_callS n [a1, a2] hc hd hn hls has (nLg_all hnl) hst kc (fun v h' hp => by obtain ⟨rfl, hq⟩ := hp; exact k h' hq)
theorem cVv3 {M' : MI} (n : Nat) {i b ci : Nat} {sl : List SK} {q : vw_C} {a1 a2 a3 : AV} {ls' : List (Option AV)} {Q : Hp → Prop} (hc : CV M M' i 3) (hd : decode M.2.1 pc = .ok (.invokevirtual i, 3)) (hn : pc + 3 = n) (hb : sh[b]? = some (.inr (ci, sl))) (hq : vwCl[ci]? = some q) (hq2 : q.1 = M'.1.cls) (hls : (vr b :: [a1, a2, a3]).map some ++ List.replicate (M'.2.2.1 - 4) none = ls') (has : 4 ≤ M'.2.2.1) (hnl : ([a1, a2, a3] : List AV).all nLg = true) (hst : st.length ≤ 4) (kc : Ev sh M' 0 ls' [] h (RV Q)) (k : ∀ h', Q h' → Ev sh M n ls st h' post) : Ev sh M pc ls (a3 :: a2 :: a1 :: vr b :: st) h post := ev_callV n [a1, a2, a3] hc hd hn hb hq hq2 hls has (nLg_all hnl) hst kc (fun v h' hp => by obtain ⟨rfl, hq⟩ := hp; exact k h' hq)
theorem cSv3 {M' : MI} (n : Nat) {i : Nat} {a1 a2 a3 : AV} {ls' : List (Option AV)} {Q : Hp → Prop} (hc : CT M M' i 3) (hd : decode M.2.1 pc = .ok (.invokestatic i, 3)) (hn : pc + 3 = n) (hls : ([a1, a2, a3] : List AV).map some ++ List.replicate (M'.2.2.1 - 3) none = ls') (has : 3 ≤ M'.2.2.1) (hnl : ([a1, a2, a3] : List AV).all nLg = true) (hst : st.length ≤ 4) (kc : Ev sh M' 0 ls' [] h (RV Q)) (k : ∀ h', Q h' → Ev sh M n ls st h' post) : Ev sh M pc ls (a3 :: a2 :: a1 :: st) h post := ev_callS n [a1, a2, a3] hc hd hn hls has (nLg_all hnl) hst kc (fun v h' hp => by obtain ⟨rfl, hq⟩ := hp; exact k h' hq)
theorem cVv4 {M' : MI} (n : Nat) {i b ci : Nat} {sl : List SK} {q : vw_C} {a1 a2 a3 a4 : AV} {ls' : List (Option AV)} {Q : Hp → Prop} (hc : CV M M' i 4) (hd : decode M.2.1 pc = .ok (.invokevirtual i, 3)) (hn : pc + 3 = n) (hb : sh[b]? = some (.inr (ci, sl))) (hq : vwCl[ci]? = some q) (hq2 : q.1 = M'.1.cls) (hls : (vr b :: [a1, a2, a3, a4]).map some ++ List.replicate (M'.2.2.1 - 5) none = ls') (has : 5 ≤ M'.2.2.1) (hnl : ([a1, a2, a3, a4] : List AV).all nLg = true) (hst : st.length ≤ 4) (kc : Ev sh M' 0 ls' [] h (RV Q)) (k : ∀ h', Q h' → Ev sh M n ls st h' post) : Ev sh M pc ls (a4 :: a3 :: a2 :: a1 :: vr b :: st) h post := ev_callV n [a1, a2, a3, a4] hc hd hn hb hq hq2 hls has (nLg_all hnl) hst kc (fun v h' hp => by obtain ⟨rfl, hq⟩ := hp; exact k h' hq)
theorem cSv4 {M' : MI} (n : Nat) {i : Nat} {a1 a2 a3 a4 : AV} {ls' : List (Option AV)} {Q : Hp → Prop} (hc : CT M M' i 4) (hd : decode M.2.1 pc = .ok (.invokestatic i, 3)) (hn : pc + 3 = n) (hls : ([a1, a2, a3, a4] : List AV).map some ++ List.replicate (M'.2.2.1 - 4) none = ls') (has : 4 ≤ M'.2.2.1) (hnl : ([a1, a2, a3, a4] : List AV).all nLg = true) (hst : st.length ≤ 4) (kc : Ev sh M' 0 ls' [] h (RV Q)) (k : ∀ h', Q h' → Ev sh M n ls st h' post) : Ev sh M pc ls (a4 :: a3 :: a2 :: a1 :: st) h post := ev_callS n [a1, a2, a3, a4] hc hd hn hls has (nLg_all hnl) hst kc (fun v h' hp => by obtain ⟨rfl, hq⟩ := hp; exact k h' hq)
theorem cVv5 {M' : MI} (n : Nat) {i b ci : Nat} {sl : List SK} {q : vw_C} {a1 a2 a3 a4 a5 : AV} {ls' : List (Option AV)} {Q : Hp → Prop} (hc : CV M M' i 5) (hd : decode M.2.1 pc = .ok (.invokevirtual i, 3)) (hn : pc + 3 = n) (hb : sh[b]? = some (.inr (ci, sl))) (hq : vwCl[ci]? = some q) (hq2 : q.1 = M'.1.cls) (hls : (vr b :: [a1, a2, a3, a4, a5]).map some ++ List.replicate (M'.2.2.1 - 6) none = ls') (has : 6 ≤ M'.2.2.1) (hnl : ([a1, a2, a3, a4, a5] : List AV).all nLg = true) (hst : st.length ≤ 4) (kc : Ev sh M' 0 ls' [] h (RV Q)) (k : ∀ h', Q h' → Ev sh M n ls st h' post) : Ev sh M pc ls (a5 :: a4 :: a3 :: a2 :: a1 :: vr b :: st) h post := ev_callV n [a1, a2, a3, a4, a5] hc hd hn hb hq hq2 hls has (nLg_all hnl) hst kc (fun v h' hp => by obtain ⟨rfl, hq⟩ := hp; exact k h' hq)
theorem cSv5 {M' : MI} (n : Nat) {i : Nat} {a1 a2 a3 a4 a5 : AV} {ls' : List (Option AV)} {Q : Hp → Prop} (hc : CT M M' i 5) (hd : decode M.2.1 pc = .ok (.invokestatic i, 3)) (hn : pc + 3 = n) (hls : ([a1, a2, a3, a4, a5] : List AV).map some ++ List.replicate (M'.2.2.1 - 5) none = ls') (has : 5 ≤ M'.2.2.1) (hnl : ([a1, a2, a3, a4, a5] : List AV).all nLg = true) (hst : st.length ≤ 4) (kc : Ev sh M' 0 ls' [] h (RV Q)) (k : ∀ h', Q h' → Ev sh M n ls st h' post) : Ev sh M pc ls (a5 :: a4 :: a3 :: a2 :: a1 :: st) h post := ev_callS n [a1, a2, a3, a4, a5] hc hd hn hls has (nLg_all hnl) hst kc (fun v h' hp => by obtain ⟨rfl, hq⟩ := hp; exact k h' hq)
theorem cVr0 {M' : MI} (n : Nat) {i b ci : Nat} {sl : List SK} {q : vw_C} {ls' : List (Option AV)} {Q : Nat → Hp → Prop} (hc : CV M M' i 0) (hd : decode M.2.1 pc = .ok (.invokevirtual i, 3)) (hn : pc + 3 = n) (hb : sh[b]? = some (.inr (ci, sl))) (hq : vwCl[ci]? = some q) (hq2 : q.1 = M'.1.cls) (hls : (vr b :: []).map some ++ List.replicate (M'.2.2.1 - 1) none = ls') (has : 1 ≤ M'.2.2.1) (hnl : ([] : List AV).all nLg = true) (hst : st.length ≤ 4) (kc : Ev sh M' 0 ls' [] h (RR Q)) (k : ∀ x h', Q x h' → Ev sh M n ls (vr x :: st) h' post) : Ev sh M pc ls (vr b :: st) h post := ev_callV n [] hc hd hn hb hq hq2 hls has (nLg_all hnl) hst kc (fun v h' hp => by obtain ⟨x, rfl, hq⟩ := hp; exact k x h' hq)
theorem cSr0 {M' : MI} (n : Nat) {i : Nat} {ls' : List (Option AV)} {Q : Nat → Hp → Prop} (hc : CT M M' i 0) (hd : decode M.2.1 pc = .ok (.invokestatic i, 3)) (hn : pc + 3 = n) (hls : ([] : List AV).map some ++ List.replicate (M'.2.2.1 - 0) none = ls') (has : 0 ≤ M'.2.2.1) (hnl : ([] : List AV).all nLg = true) (hst : st.length ≤ 4) (kc : Ev sh M' 0 ls' [] h (RR Q)) (k : ∀ x h', Q x h' → Ev sh M n ls (vr x :: st) h' post) : Ev sh M pc ls (st) h post := ev_callS n [] hc hd hn hls has (nLg_all hnl) hst kc (fun v h' hp => by obtain ⟨x, rfl, hq⟩ := hp; exact k x h' hq)
theorem cVr1 {M' : MI} (n : Nat) {i b ci : Nat} {sl : List SK} {q : vw_C} {a1 : AV} {ls' : List (Option AV)} {Q : Nat → Hp → Prop} (hc : CV M M' i 1) (hd : decode M.2.1 pc = .ok (.invokevirtual i, 3)) (hn : pc + 3 = n) (hb : sh[b]? = some (.inr (ci, sl))) (hq : vwCl[ci]? = some q) (hq2 : q.1 = M'.1.cls) (hls : (vr b :: [a1]).map some ++ List.replicate (M'.2.2.1 - 2) none = ls') (has : 2 ≤ M'.2.2.1) (hnl : ([a1] : List AV).all nLg = true) (hst : st.length ≤ 4) (kc : Ev sh M' 0 ls' [] h (RR Q)) (k : ∀ x h', Q x h' → Ev sh M n ls (vr x :: st) h' post) : Ev sh M pc ls (a1 :: vr b :: st) h post := ev_callV n [a1] hc hd hn hb hq hq2 hls has (nLg_all hnl) hst kc (fun v h' hp => by obtain ⟨x, rfl, hq⟩ := hp; exact k x h' hq)
theorem cSr1 {M' : MI} (n : Nat) {i : Nat} {a1 : AV} {ls' : List (Option AV)} {Q : Nat → Hp → Prop} (hc : CT M M' i 1) (hd : decode M.2.1 pc = .ok (.invokestatic i, 3)) (hn : pc + 3 = n) (hls : ([a1] : List AV).map some ++ List.replicate (M'.2.2.1 - 1) none = ls') (has : 1 ≤ M'.2.2.1) (hnl : ([a1] : List AV).all nLg = true) (hst : st.length ≤ 4) (kc : Ev sh M' 0 ls' [] h (RR Q)) (k : ∀ x h', Q x h' → Ev sh M n ls (vr x :: st) h' post) : Ev sh M pc ls (a1 :: st) h post := ev_callS n [a1] hc hd hn hls has (nLg_all hnl) hst kc (fun v h' hp => by obtain ⟨x, rfl, hq⟩ := hp; exact k x h' hq)
theorem cVl0 {M' : MI} (n : Nat) {i b ci : Nat} {sl : List SK} {q : vw_C} {ls' : List (Option AV)} {Q : Int → Hp → Prop} (hc : CV M M' i 0) (hd : decode M.2.1 pc = .ok (.invokevirtual i, 3)) (hn : pc + 3 = n) (hb : sh[b]? = some (.inr (ci, sl))) (hq : vwCl[ci]? = some q) (hq2 : q.1 = M'.1.cls) (hls : (vr b :: []).map some ++ List.replicate (M'.2.2.1 - 1) none = ls') (has : 1 ≤ M'.2.2.1) (hnl : ([] : List AV).all nLg = true) (hst : st.length ≤ 4) (kc : Ev sh M' 0 ls' [] h (RJ Q)) (k : ∀ x h', Q x h' → Ev sh M n ls (vl x :: st) h' post) : Ev sh M pc ls (vr b :: st) h post := ev_callV n [] hc hd hn hb hq hq2 hls has (nLg_all hnl) hst kc (fun v h' hp => by obtain ⟨x, rfl, hq⟩ := hp; exact k x h' hq)
theorem cSl0 {M' : MI} (n : Nat) {i : Nat} {ls' : List (Option AV)} {Q : Int → Hp → Prop} (hc : CT M M' i 0) (hd : decode M.2.1 pc = .ok (.invokestatic i, 3)) (hn : pc + 3 = n) (hls : ([] : List AV).map some ++ List.replicate (M'.2.2.1 - 0) none = ls') (has : 0 ≤ M'.2.2.1) (hnl : ([] : List AV).all nLg = true) (hst : st.length ≤ 4) (kc : Ev sh M' 0 ls' [] h (RJ Q)) (k : ∀ x h', Q x h' → Ev sh M n ls (vl x :: st) h' post) : Ev sh M pc ls (st) h post := ev_callS n [] hc hd hn hls has (nLg_all hnl) hst kc (fun v h' hp => by obtain ⟨x, rfl, hq⟩ := hp; exact k x h' hq)
theorem cVl1 {M' : MI} (n : Nat) {i b ci : Nat} {sl : List SK} {q : vw_C} {a1 : AV} {ls' : List (Option AV)} {Q : Int → Hp → Prop} (hc : CV M M' i 1) (hd : decode M.2.1 pc = .ok (.invokevirtual i, 3)) (hn : pc + 3 = n) (hb : sh[b]? = some (.inr (ci, sl))) (hq : vwCl[ci]? = some q) (hq2 : q.1 = M'.1.cls) (hls : (vr b :: [a1]).map some ++ List.replicate (M'.2.2.1 - 2) none = ls') (has : 2 ≤ M'.2.2.1) (hnl : ([a1] : List AV).all nLg = true) (hst : st.length ≤ 4) (kc : Ev sh M' 0 ls' [] h (RJ Q)) (k : ∀ x h', Q x h' → Ev sh M n ls (vl x :: st) h' post) : Ev sh M pc ls (a1 :: vr b :: st) h post := ev_callV n [a1] hc hd hn hb hq hq2 hls has (nLg_all hnl) hst kc (fun v h' hp => by obtain ⟨x, rfl, hq⟩ := hp; exact k x h' hq)
theorem cSl1 {M' : MI} (n : Nat) {i : Nat} {a1 : AV} {ls' : List (Option AV)} {Q : Int → Hp → Prop} (hc : CT M M' i 1) (hd : decode M.2.1 pc = .ok (.invokestatic i, 3)) (hn : pc + 3 = n) (hls : ([a1] : List AV).map some ++ List.replicate (M'.2.2.1 - 1) none = ls') (has : 1 ≤ M'.2.2.1) (hnl : ([a1] : List AV).all nLg = true) (hst : st.length ≤ 4) (kc : Ev sh M' 0 ls' [] h (RJ Q)) (k : ∀ x h', Q x h' → Ev sh M n ls (vl x :: st) h' post) : Ev sh M pc ls (a1 :: st) h post := ev_callS n [a1] hc hd hn hls has (nLg_all hnl) hst kc (fun v h' hp => by obtain ⟨x, rfl, hq⟩ := hp; exact k x h' hq)
end EVD
end
section
/-! rows that name what is read and what the heap is behind a write; heaps as a base and a list of places that have changed -/
theorem nbf {a b : Nat} (e : a ≠ b) : Nat.beq a b = false := by
  cases h : Nat.beq a b with
  | false => rfl
  | true => exact absurd (Nat.eq_of_beq_eq_true h) e
def hq (h : Hp) : List (Nat × (Int → Int)) → Hp
  | [] => h
  | p :: L => fun a => cond (Nat.beq a p.1) p.2 (hq h L a)
def lset : List (Nat × (Int → Int)) → Nat → (Int → Int) → List (Nat × (Int → Int))
  | [], k, f => [(k, f)]
  | p :: L, k, f => cond (Nat.beq k p.1) ((k, f) :: L) (p :: lset L k f)
theorem hq_put {h : Hp} {L : List (Nat × (Int → Int))} {k : Nat} {f : Int → Int} : hput (hq h L) k f = hq h (lset L k f) := by
  funext a
  induction L with
  | nil =>
    show (if a = k then f else h a) = cond (Nat.beq a k) f (h a)
    by_cases e : a = k
    · subst e; rw [if_pos rfl, Nat.beq_refl]; rfl
    · rw [if_neg e, nbf e]; rfl
  | cons p L ih =>
    by_cases e : a = k
    · subst e
      rw [hput_s] at ih ⊢
      show f = hq h (cond (Nat.beq a p.1) ((a, f) :: L) (p :: lset L a f)) a
      cases hb : Nat.beq a p.1 with
      | true =>
        show f = cond (Nat.beq a a) f (hq h L a)
        rw [Nat.beq_refl]
        rfl
      | false =>
        show f = cond (Nat.beq a p.1) p.2 (hq h (lset L a f) a)
        rw [hb]
        exact ih
    · rw [hput_n e] at ih ⊢
      show cond (Nat.beq a p.1) p.2 (hq h L a) = hq h (cond (Nat.beq k p.1) ((k, f) :: L) (p :: lset L k f)) a
      cases hb : Nat.beq k p.1 with
      | true =>
        have hk : k = p.1 := Nat.eq_of_beq_eq_true hb
        show cond (Nat.beq a p.1) p.2 (hq h L a) = cond (Nat.beq a k) f (hq h L a)
        rw [nbf e, ← hk, nbf e]
        rfl
      | false =>
        show cond (Nat.beq a p.1) p.2 (hq h L a) = cond (Nat.beq a p.1) p.2 (hq h (lset L k f) a)
        rw [ih]
theorem up_up {f : Int → Int} {i a b : Int} : up (up f i a) i b = up f i b := by
  funext j
  unfold up
  split <;> rfl
theorem up_id {f : Int → Int} {i : Int} : up f i (f i) = f := by
  funext j
  unfold up
  split
  · rename_i e; rw [e]
  · rfl
theorem up_comm {f : Int → Int} {i j a b : Int} (e : i ≠ j) : up (up f i a) j b = up (up f j b) i a := by
  funext k
  unfold up
  by_cases q : k = j
  · subst q; rw [if_pos rfl, if_neg (fun w => e w.symm), if_pos rfl]
  · rw [if_neg q, if_neg q]
theorem hq_id {h : Hp} {L : List (Nat × (Int → Int))} (hL : ∀ p ∈ L, p.2 = h p.1) : hq h L = h := by
  funext a
  induction L with
  | nil => rfl
  | cons p L ih =>
    show cond (Nat.beq a p.1) p.2 (hq h L a) = h a
    rw [ih (fun q hq => hL q (List.mem_cons_of_mem _ hq))]
    cases hb : Nat.beq a p.1 with
    | true => rw [hL p List.mem_cons_self, Nat.eq_of_beq_eq_true hb]; rfl
    | false => rfl
section EVV
variable {sh : List CS} {M : MI} {pc : Nat} {ls : List (Option AV)} {st : List AV} {h : Hp} {post : Option AV → Hp → Prop}
theorem ev_getI' {own : String} (n : Nat) (z v : Int) {i ci j q : Nat} {sl : List SK} {b : Nat} (hL : FL own i ci j) (ho : own = M.1.cls) (hd : decode M.2.1 pc = .ok (.getfield i, 3)) (hn : pc + 3 = n) (hq : sh[q]? = some (.inr (ci, sl))) (hx : sl[j]? = some (.inl b)) (hb : ¬ b = 1) (hz : (j : Int) = z) (hv : h q z = v) (k : Ev sh M n ls (vi v :: st) h post) : Ev sh M pc ls (vr q :: st) h post := ev_getI n z hL ho hd hn hq hx hb hz (by rw [hv]; exact k)
theorem ev_iald' (n : Nat) (v : Int) {q N : Nat} {i : Int} (hd : decode M.2.1 pc = .ok (.iaload, 1)) (hn : pc + 1 = n) (hq : sh[q]? = some (.inl (0, N))) (hN : N < 2147483648) (hi : 0 ≤ i ∧ i < N) (hv : h q i = v) (k : Ev sh M n ls (vi v :: st) h post) : Ev sh M pc ls (vi i :: vr q :: st) h post := ev_iald n hd hn hq hN hi (by rw [hv]; exact k)
theorem ev_zald' (n : Nat) (v : Int) {q N : Nat} {i : Int} (hd : decode M.2.1 pc = .ok (.baload, 1)) (hn : pc + 1 = n) (hq : sh[q]? = some (.inl (1, N))) (hN : N < 2147483648) (hi : 0 ≤ i ∧ i < N) (hv : h q i = v) (k : Ev sh M n ls (vi v :: st) h post) : Ev sh M pc ls (vi i :: vr q :: st) h post := ev_zald n hd hn hq hN hi (by rw [hv]; exact k)
theorem ev_iast' (n : Nat) (h2 : Hp) {q N : Nat} {i v : Int} (hd : decode M.2.1 pc = .ok (.iastore, 1)) (hn : pc + 1 = n) (hq : sh[q]? = some (.inl (0, N))) (hN : N < 2147483648) (hi : 0 ≤ i ∧ i < N) (hh : hput h q (up (h q) i v) = h2) (k : Ev sh M n ls st h2 post) : Ev sh M pc ls (vi v :: vi i :: vr q :: st) h post := ev_iast n hd hn hq hN hi (by rw [hh]; exact k)
theorem ev_zast' (n : Nat) (h2 : Hp) {q N : Nat} {i v : Int} (hd : decode M.2.1 pc = .ok (.bastore, 1)) (hn : pc + 1 = n) (hq : sh[q]? = some (.inl (1, N))) (hN : N < 2147483648) (hi : 0 ≤ i ∧ i < N) (hv : v = 0 ∨ v = 1) (hh : hput h q (up (h q) i v) = h2) (k : Ev sh M n ls st h2 post) : Ev sh M pc ls (vi v :: vi i :: vr q :: st) h post := ev_zast n hd hn hq hN hi hv (by rw [hh]; exact k)
theorem ev_putI' {own : String} (n : Nat) (w : Int) (h2 : Hp) {i ci j q : Nat} {sl : List SK} {z : Int} (hL : FP own i ci j .int) (ho : own = M.1.cls) (hd : decode M.2.1 pc = .ok (.putfield i, 3)) (hn : pc + 3 = n) (hq : sh[q]? = some (.inr (ci, sl))) (hx : sl[j]? = some (.inl 0)) (hw : (j : Int) = w) (hh : hput h q (up (h q) w z) = h2) (k : Ev sh M n ls st h2 post) : Ev sh M pc ls (vi z :: vr q :: st) h post := ev_putI n w hL ho hd hn hq hx hw (by rw [hh]; exact k)
theorem ev_putL' {own : String} (n : Nat) (w : Int) (h2 : Hp) {i ci j q : Nat} {sl : List SK} {z : Int} (hL : FP own i ci j .long) (ho : own = M.1.cls) (hd : decode M.2.1 pc = .ok (.putfield i, 3)) (hn : pc + 3 = n) (hq : sh[q]? = some (.inr (ci, sl))) (hx : sl[j]? = some (.inl 1)) (hw : (j : Int) = w) (hh : hput h q (up (h q) w z) = h2) (k : Ev sh M n ls st h2 post) : Ev sh M pc ls (vl z :: vr q :: st) h post := ev_putL n w hL ho hd hn hq hx hw (by rw [hh]; exact k)
theorem ev_putZ' {own : String} (n : Nat) (w : Int) (h2 : Hp) {i ci j q : Nat} {sl : List SK} {z : Int} (hL : FP own i ci j .boolean) (ho : own = M.1.cls) (hd : decode M.2.1 pc = .ok (.putfield i, 3)) (hn : pc + 3 = n) (hq : sh[q]? = some (.inr (ci, sl))) (hx : sl[j]? = some (.inl 2)) (hz : z = 0 ∨ z = 1) (hw : (j : Int) = w) (hh : hput h q (up (h q) w z) = h2) (k : Ev sh M n ls st h2 post) : Ev sh M pc ls (vi z :: vr q :: st) h post := ev_putZ n w hL ho hd hn hq hx hz hw (by rw [hh]; exact k)
theorem ev_topi {x y : Int} (e : x = y) (k : Ev sh M pc ls (vi y :: st) h post) : Ev sh M pc ls (vi x :: st) h post := by rw [e]; exact k
theorem ev_heap {h2 : Hp} (e : h = h2) (k : Ev sh M pc ls st h2 post) : Ev sh M pc ls st h post := by rw [e]; exact k
theorem ev_loc {ls2 : List (Option AV)} (e : ls = ls2) (k : Ev sh M pc ls2 st h post) : Ev sh M pc ls st h post := by rw [e]; exact k
end EVV
end
section
/-! the model's small methods -/
theorem hput_hput {h : Hp} {k : Nat} {f g : Int → Int} : hput (hput h k f) k g = hput h k g := by
  funext a
  by_cases e : a = k
  · subst e; rw [hput_s, hput_s]
  · rw [hput_n e, hput_n e, hput_n e]
theorem hput_id {h : Hp} {k : Nat} : hput h k (h k) = h := by
  funext a
  by_cases e : a = k
  · subst e; rw [hput_s]
  · rw [hput_n e]
theorem hput_comm {h : Hp} {k j : Nat} {f g : Int → Int} (e : k ≠ j) : hput (hput h k f) j g = hput (hput h j g) k f := by
  funext a
  by_cases e1 : a = j
  · subst e1; rw [hput_s, hput_n (fun q => e q.symm), hput_s]
  · rw [hput_n e1]
    by_cases e2 : a = k
    · subst e2; rw [hput_s, hput_s]
    · rw [hput_n e2, hput_n e2, hput_n e1]
theorem cpy_0 {f g : Int → Int} {sp dp : Int} : cpy f g sp dp 0 = g := by
  funext k
  unfold cpy
  rw [if_neg (by omega)]
theorem cpy_1 {f g : Int → Int} {sp dp n : Int} (hn : 0 ≤ n) : up (cpy f g sp dp n) (dp + n) (f (sp + n)) = cpy f g sp dp (n + 1) := by
  funext k
  unfold up cpy
  by_cases e : k = dp + n
  · subst e
    rw [if_pos rfl, if_pos (by omega)]
    congr 1
    omega
  · rw [if_neg e]
    by_cases q : dp ≤ k ∧ k < dp + n
    · rw [if_pos q, if_pos (by omega)]
    · rw [if_neg q, if_neg (by omega)]
section MB
variable {sh : List CS} {h : Hp}
theorem m_in {v a b : Int} (hv : R32 v) (ha : R32 a) (hb : R32 b) : Ev sh mX9_in 0 [some (vi v), some (vi a), some (vi b)] [] h (RI fun x h' => x = (if a ≤ v ∧ v ≤ b then 1 else 0) ∧ h = h') := by
  refine ev_iload_n 1 dX9_in_0 rfl rfl ?_
  refine ev_iload_n 2 dX9_in_1 rfl rfl ?_
  refine ev_icmp_lt 5 14 dX9_in_2 rfl rfl (by omega) (by omega) (fun c2 => ?_) (fun c2 => ?_)
  · refine ev_iconst 15 dX9_in_14 rfl ?_
    exact ev_zret rfl dX9_in_15 (by omega) (⟨by split <;> omega, rfl⟩)
  · refine ev_iload_n 6 dX9_in_5 rfl rfl ?_
    refine ev_iload_n 7 dX9_in_6 rfl rfl ?_
    refine ev_icmp_gt 10 14 dX9_in_7 rfl rfl (by omega) (by omega) (fun c7 => ?_) (fun c7 => ?_)
    · refine ev_iconst 15 dX9_in_14 rfl ?_
      exact ev_zret rfl dX9_in_15 (by omega) (⟨by split <;> omega, rfl⟩)
    · refine ev_iconst 11 dX9_in_10 rfl ?_
      refine ev_goto 15 dX9_in_11 rfl ?_
      exact ev_zret rfl dX9_in_15 (by omega) (⟨by split <;> omega, rfl⟩)
theorem m_has {a k : Int} (ha : 0 ≤ a ∧ a < 2147483648) (hk : 0 ≤ k ∧ k < 32) : Ev sh mX9_has 0 [some (vi a), some (vi k)] [] h (RI fun x h' => x = a / 2 ^ k.toNat % 2 ∧ h = h') := by
  have h0 : 0 ≤ a / 2 ^ k.toNat := Int.ediv_nonneg ha.1 (Int.le_of_lt (Int.pow_pos (by decide)))
  have h1 : (((a / 2 ^ k.toNat).toNat &&& (1 : Int).toNat : Nat) : Int) = a / 2 ^ k.toNat % 2 := by
    rw [show (1 : Int).toNat = 1 from rfl, Nat.and_one_is_mod, Int.natCast_emod, Int.toNat_of_nonneg h0]
    rfl
  refine ev_iload_n 1 dX9_has_0 rfl rfl ?_
  refine ev_iload_n 2 dX9_has_1 rfl rfl ?_
  refine ev_ishr 3 dX9_has_2 rfl (by omega) (by omega) ?_
  generalize a / 2 ^ k.toNat = z at h0 h1 ⊢
  refine ev_iconst 4 dX9_has_3 rfl ?_
  refine ev_iand 5 dX9_has_4 rfl (by omega) (by omega) ?_
  refine ev_iconst 6 dX9_has_5 rfl ?_
  refine ev_icmp_ne 9 13 dX9_has_6 rfl rfl (by omega) (by omega) (fun c6 => ?_) (fun c6 => ?_)
  · refine ev_iconst 14 dX9_has_13 rfl ?_
    exact ev_zret rfl dX9_has_14 (by omega) (⟨by omega, rfl⟩)
  · refine ev_iconst 10 dX9_has_9 rfl ?_
    refine ev_goto 14 dX9_has_10 rfl ?_
    exact ev_zret rfl dX9_has_14 (by omega) (⟨by omega, rfl⟩)
theorem m_isRace {h : Hp} (h1 : R32 (h 0 0)) (h2 : R32 (h 0 2)) : Ev shM mX9_isRace 0 [some (vr 0)] [] h (RI fun x h' => x = (if 0 < h 0 0 ∧ 0 < h 0 2 then 1 else 0) ∧ h = h') := by
  refine ev_aload_n 1 dX9_isRace_0 rfl rfl ?_
  refine ev_getI 4 0 fX9_81 rfl dX9_isRace_1 rfl rfl rfl (by decide) rfl ?_
  refine ev_if_le 7 18 dX9_isRace_4 rfl rfl (by omega) (fun c4 => ?_) (fun c4 => ?_)
  · refine ev_iconst 19 dX9_isRace_18 rfl ?_
    exact ev_zret rfl dX9_isRace_19 (by omega) (⟨by split <;> omega, rfl⟩)
  · refine ev_aload_n 8 dX9_isRace_7 rfl rfl ?_
    refine ev_getI 11 2 fX9_74 rfl dX9_isRace_8 rfl rfl rfl (by decide) rfl ?_
    refine ev_if_le 14 18 dX9_isRace_11 rfl rfl (by omega) (fun c11 => ?_) (fun c11 => ?_)
    · refine ev_iconst 19 dX9_isRace_18 rfl ?_
      exact ev_zret rfl dX9_isRace_19 (by omega) (⟨by split <;> omega, rfl⟩)
    · refine ev_iconst 15 dX9_isRace_14 rfl ?_
      refine ev_goto 19 dX9_isRace_15 rfl ?_
      exact ev_zret rfl dX9_isRace_19 (by omega) (⟨by split <;> omega, rfl⟩)
theorem m_isChair {h : Hp} {c : Int} (hc : R32 c) (h2 : 0 ≤ h 0 2 ∧ h 0 2 ≤ 5) : Ev shM mX9_isChair 0 [some (vr 0), some (vi c)] [] h (RI fun x h' => x = (if 0 ≤ c ∧ c < h 0 2 then 1 else 0) ∧ h = h') := by
  refine ev_iload_n 1 dX9_isChair_0 rfl rfl ?_
  refine ev_iconst 2 dX9_isChair_1 rfl ?_
  refine ev_aload_n 3 dX9_isChair_2 rfl rfl ?_
  refine ev_getI 6 2 fX9_74 rfl dX9_isChair_3 rfl rfl rfl (by decide) rfl ?_
  refine ev_iconst 7 dX9_isChair_6 rfl ?_
  refine ev_isub 8 dX9_isChair_7 rfl ?_
  refine cSi3 11 kX9_isChair_78 dX9_isChair_8 rfl rfl (by decide) rfl (Nat.le_of_ble_eq_true rfl) (m_in hc (by omega) (by omega)) ?_
  rintro x _ ⟨rfl, rfl⟩
  exact ev_zret rfl dX9_isChair_11 (by split <;> omega) (⟨by split <;> split <;> omega, rfl⟩)
theorem m_copy_loop {a b Na Nb : Nat} (ha : sh[a]? = some (.inl (0, Na))) (hb : sh[b]? = some (.inl (0, Nb))) (hab : a ≠ b) {at' fr : Int} (hN : Na < 2147483648) (hM : Nb < 2147483648) (h1 : 0 ≤ at' ∧ at' + 17 ≤ Na) (h2 : 0 ≤ fr ∧ fr + 17 ≤ Nb) : ∀ (n : Nat) (k : Int), 0 ≤ k → k ≤ 17 → 17 - k < n → Ev sh mX9_copy 3 [some (vr a), some (vi at'), some (vr b), some (vi fr), some (vi k)] [] (hput h a (cpy (h b) (h a) fr at' k)) (RV fun h' => h' = hput h a (cpy (h b) (h a) fr at' 17)) := by
  intro n
  induction n with
  | zero => intro k a1 a2 a3; omega
  | succ n ih =>
    intro k a1 a2 a3
    refine ev_iload 5 dX9_copy_3 rfl rfl ?_
    refine ev_bipush 7 dX9_copy_5 rfl (by decide +kernel) ?_
    refine ev_icmp_ge 10 28 dX9_copy_7 rfl rfl (by omega) (by omega) (fun c7 => ?_) (fun c7 => ?_)
    · have e : k = 17 := by omega
      subst e
      exact ev_vret rfl dX9_copy_28 (rfl)
    · refine ev_aload_n 11 dX9_copy_10 rfl rfl ?_
      refine ev_iload_n 12 dX9_copy_11 rfl rfl ?_
      refine ev_iload 14 dX9_copy_12 rfl rfl ?_
      refine ev_iadd 15 dX9_copy_14 rfl ?_
      refine ev_aload_n 16 dX9_copy_15 rfl rfl ?_
      refine ev_iload_n 17 dX9_copy_16 rfl rfl ?_
      refine ev_iload 19 dX9_copy_17 rfl rfl ?_
      refine ev_iadd 20 dX9_copy_19 rfl ?_
      refine ev_iald 21 dX9_copy_20 rfl hb hM (by omega) ?_
      refine ev_iast 22 dX9_copy_21 rfl ha hN (by omega) ?_
      rw [hput_s, hput_n (fun q => hab q.symm), hput_hput, cpy_1 a1]
      refine ev_iinc 25 dX9_copy_22 rfl rfl ?_
      refine ev_goto 3 dX9_copy_25 rfl ?_
      exact ih (k + 1) (by omega) (by omega) (by omega)
theorem m_copy {a b Na Nb : Nat} (ha : sh[a]? = some (.inl (0, Na))) (hb : sh[b]? = some (.inl (0, Nb))) (hab : a ≠ b) {at' fr : Int} (hN : Na < 2147483648) (hM : Nb < 2147483648) (h1 : 0 ≤ at' ∧ at' + 17 ≤ Na) (h2 : 0 ≤ fr ∧ fr + 17 ≤ Nb) : Ev sh mX9_copy 0 [some (vr a), some (vi at'), some (vr b), some (vi fr), none] [] h (RV fun h' => h' = hput h a (cpy (h b) (h a) fr at' 17)) := by
  refine ev_iconst 1 dX9_copy_0 rfl ?_
  refine ev_istore 3 dX9_copy_1 rfl (Nat.le_of_ble_eq_true rfl) ?_
  have K := m_copy_loop (h := h) ha hb hab hN hM h1 h2 18 0 (by omega) (by omega) (by omega)
  rw [cpy_0, hput_id] at K
  exact K
end MB
end
section
/-! THE RACE, as numbers: cell, points, time, places, how many are in -/
abbrev RS : Type := (Int → Int) × (Int → Int) × (Int → Int) × (Int → Int) × Int
def anyB (p : Int → Bool) : Nat → Bool
  | 0 => false
  | k + 1 => anyB p k || p k
theorem anyB_iff {p : Int → Bool} {k : Nat} : anyB p k = true ↔ ∃ e : Int, 0 ≤ e ∧ e < k ∧ p e = true := by
  induction k with
  | zero => exact ⟨fun h => (by cases h), fun ⟨e, h1, h2, _⟩ => (by omega)⟩
  | succ k ih =>
    unfold anyB
    rw [Bool.or_eq_true, ih]
    constructor
    · rintro (⟨e, h1, h2, h3⟩ | h)
      · exact ⟨e, h1, by omega, h3⟩
      · exact ⟨k, by omega, by omega, h⟩
    · rintro ⟨e, h1, h2, h3⟩
      by_cases q : e = k
      · subst q; exact Or.inr h3
      · exact Or.inl ⟨e, h1, by omega, h3⟩
def cntB (p : Int → Bool) : Nat → Int
  | 0 => 0
  | k + 1 => cntB p k + (if p k = true then 1 else 0)
theorem cntB_rng (p : Int → Bool) : ∀ k : Nat, 0 ≤ cntB p k ∧ cntB p k ≤ k
  | 0 => ⟨Int.le_refl _, Int.le_refl _⟩
  | k + 1 => by
    have h := cntB_rng p k
    unfold cntB
    constructor
    · split <;> omega
    · split <;> omega
theorem cntB_lt {p : Int → Bool} : ∀ {k : Nat} (c : Int), 0 ≤ c → c < k → p c = false → cntB p k < k
  | 0, c, h0, h1, _ => by omega
  | k + 1, c, h0, h1, h2 => by
    unfold cntB
    by_cases q : c = k
    · subst q
      have := cntB_rng p k
      rw [if_neg (by rw [h2]; decide)]
      omega
    · have := cntB_lt (k := k) c h0 (by omega) h2
      split <;> omega
theorem cntB_all {p : Int → Bool} : ∀ {k : Nat}, (∀ c : Int, 0 ≤ c → c < k → p c = true) → cntB p k = k
  | 0, _ => rfl
  | k + 1, h => by
    unfold cntB
    rw [cntB_all (fun c h0 h1 => h c h0 (by omega)), if_pos (h k (by omega) (by omega))]
    omega
theorem cntB_full {p : Int → Bool} {k : Nat} (h : cntB p k = k) : ∀ c : Int, 0 ≤ c → c < k → p c = true := by
  intro c h0 h1
  cases hp : p c with
  | true => rfl
  | false => have := cntB_lt c h0 h1 hp; omega
theorem cntB_congr {p q : Int → Bool} : ∀ {k : Nat}, (∀ c : Int, 0 ≤ c → c < k → p c = q c) → cntB p k = cntB q k
  | 0, _ => rfl
  | k + 1, h => by
    unfold cntB
    rw [cntB_congr (fun c h0 h1 => h c h0 (by omega)), h k (by omega) (by omega)]
theorem cntB_set {p q : Int → Bool} : ∀ {k : Nat} (c : Int), 0 ≤ c → c < k → p c = false → q c = true → (∀ e : Int, 0 ≤ e → e < k → e ≠ c → p e = q e) → cntB q k = cntB p k + 1
  | 0, c, h0, h1, _, _, _ => by omega
  | k + 1, c, h0, h1, h2, h3, h4 => by
    unfold cntB
    by_cases e : c = k
    · subst e
      rw [cntB_congr (p := p) (q := q) (fun e a b => h4 e a (by omega) (by omega)), if_pos h3, if_neg (by rw [h2]; decide)]
      omega
    · rw [cntB_set c h0 (by omega) h2 h3 (fun e a b d => h4 e a (by omega) d), h4 k (by omega) (by omega) (by omega)]
      omega
def sumZ (f : Int → Int) : Nat → Int
  | 0 => 0
  | k + 1 => sumZ f k + f k
theorem sumZ_congr {f g : Int → Int} : ∀ {k : Nat}, (∀ c : Int, 0 ≤ c → c < k → f c = g c) → sumZ f k = sumZ g k
  | 0, _ => rfl
  | k + 1, h => by
    unfold sumZ
    rw [sumZ_congr (fun c h0 h1 => h c h0 (by omega)), h k (by omega) (by omega)]
theorem sumZ_le {f g : Int → Int} : ∀ {k : Nat}, (∀ c : Int, 0 ≤ c → c < k → f c ≤ g c) → sumZ f k ≤ sumZ g k
  | 0, _ => Int.le_refl _
  | k + 1, h => by
    unfold sumZ
    have h1 := sumZ_le (fun c h0 h1 => h c h0 (by omega)) (k := k)
    have h2 := h k (by omega) (by omega)
    omega
theorem sumZ_lt {f g : Int → Int} : ∀ {k : Nat} (c : Int), 0 ≤ c → c < k → (∀ c : Int, 0 ≤ c → c < k → f c ≤ g c) → f c < g c → sumZ f k < sumZ g k
  | 0, c, h0, h1, _, _ => by omega
  | k + 1, c, h0, h1, h2, h3 => by
    unfold sumZ
    by_cases e : c = k
    · subst e
      have h1 := sumZ_le (fun c h0 h1 => h2 c h0 (by omega)) (k := k)
      omega
    · have h1 := sumZ_lt (k := k) c h0 (by omega) (fun c h0 h1 => h2 c h0 (by omega)) h3
      have h2 := h2 k (by omega) (by omega)
      omega
theorem sumZ_bd {f : Int → Int} {b : Int} : ∀ {k : Nat}, (∀ c : Int, 0 ≤ c → c < k → f c ≤ b) → sumZ f k ≤ k * b
  | 0, _ => by simp [sumZ]
  | k + 1, h => by
    unfold sumZ
    have h1 := sumZ_bd (fun c h0 h1 => h c h0 (by omega)) (k := k)
    have h2 := h k (by omega) (by omega)
    rw [Int.natCast_add, Int.add_mul]
    omega
theorem sumZ_nn {f : Int → Int} : ∀ {k : Nat}, (∀ c : Int, 0 ≤ c → c < k → 0 ≤ f c) → 0 ≤ sumZ f k
  | 0, _ => Int.le_refl _
  | k + 1, h => by
    unfold sumZ
    have h1 := sumZ_nn (fun c h0 h1 => h c h0 (by omega)) (k := k)
    have h2 := h k (by omega) (by omega)
    omega
/-- what a promenade and chairs are -/
def CP (cost : Int → Int) (cl n : Int) : Prop := 0 < n ∧ n ≤ 5 ∧ 0 < cl ∧ cl ≤ 16 ∧ ∀ i, 0 ≤ i → i < cl → 2 ≤ cost i ∧ cost i ≤ 8
section RC
variable (cost : Int → Int) (cl n : Int)
def blk (cell : Int → Int) (c to : Int) : Bool := decide (to < cl) && (decide (cost to = 6) && anyB (fun e => decide (e ≠ c) && decide (cell e = to)) n.toNat)
def mvF : Nat → Int → Int → Int → RS → RS
  | 0, c, m, _, r => (r.1, r.2.1, up r.2.2.1 c m, up r.2.2.2.1 r.2.2.2.2 c, r.2.2.2.2 + 1)
  | k + 1, c, m, here, r => if r.2.1 c < cost here then r else if blk cost cl n r.1 c (here + 1) = true then (r.1, up r.2.1 c (cost here), r.2.2) else mvF k c m (here + 1) (up r.1 c (here + 1), up r.2.1 c (r.2.1 c - cost here), r.2.2)
def moveF (c m g : Int) (r : RS) : RS := mvF cost cl n (cl - r.1 c).toNat c m (r.1 c) (r.1, up r.2.1 c (r.2.1 c + g), r.2.2)
variable (hand g : Int → Int)
def minF : Nat → Int → Int → RS → RS
  | 0, _, _, r => r
  | k + 1, c, m, r => minF k (c + 1) m (if r.1 c < cl ∧ hand c < m then moveF cost cl n c m (g c) r else r)
def raceF : Nat → Int → Int → RS → RS
  | 0, _, _, r => r
  | k + 1, m, w, r => if r.2.2.2.2 < w then raceF k (m + 1) w (minF cost cl n hand g n.toNat 0 m r) else r
def okC (r : RS) (c : Int) : Prop := 0 ≤ r.1 c ∧ r.1 c ≤ cl ∧ 0 ≤ r.2.1 c ∧ r.2.1 c ≤ 40 ∧ (r.1 c < cl → r.2.1 c ≤ cost (r.1 c)) ∧ (r.2.2.1 c = 0 ↔ r.1 c < cl) ∧ 0 ≤ r.2.2.1 c ∧ r.2.2.1 c < 2147483648
def inB (r : RS) : Int → Bool := fun c => decide (r.1 c = cl)
def rOK (r : RS) : Prop := (∀ c, 0 ≤ c → c < n → okC cost cl r c) ∧ r.2.2.2.2 = cntB (inB cl r) n.toNat ∧ ∀ k, 0 ≤ k → k < r.2.2.2.2 → 0 ≤ r.2.2.2.1 k ∧ r.2.2.2.1 k < n
end RC
theorem inB_c {cl : Int} {r s : RS} {e : Int} (h : s.1 e = r.1 e) : inB cl s e = inB cl r e := by
  show decide (s.1 e = cl) = decide (r.1 e = cl)
  rw [h]
theorem inB_t {cl : Int} {r : RS} {e : Int} (h : r.1 e = cl) : inB cl r e = true := decide_eq_true h
theorem inB_f {cl : Int} {r : RS} {e : Int} (h : ¬ r.1 e = cl) : inB cl r e = false := decide_eq_false h
theorem blk_iff {cost cell : Int → Int} {cl n c to : Int} (hn : 0 ≤ n) : blk cost cl n cell c to = true ↔ to < cl ∧ cost to = 6 ∧ ∃ e, 0 ≤ e ∧ e < n ∧ e ≠ c ∧ cell e = to := by
  unfold blk
  rw [Bool.and_eq_true, Bool.and_eq_true, anyB_iff, decide_eq_true_iff, decide_eq_true_iff]
  constructor
  · rintro ⟨h1, h2, e, h3, h4, h5⟩
    rw [Bool.and_eq_true, decide_eq_true_iff, decide_eq_true_iff] at h5
    exact ⟨h1, h2, e, h3, by omega, h5.1, h5.2⟩
  · rintro ⟨h1, h2, e, h3, h4, h5, h6⟩
    exact ⟨h1, h2, e, h3, by omega, by rw [Bool.and_eq_true, decide_eq_true_iff, decide_eq_true_iff]; exact ⟨h5, h6⟩⟩
/-- a chair on its way: all else is in order -/
def rPre (cost : Int → Int) (cl n : Int) (r : RS) (c here : Int) : Prop := (∀ e, 0 ≤ e → e < n → e ≠ c → okC cost cl r e) ∧ r.1 c = here ∧ 0 ≤ here ∧ here ≤ cl ∧ 0 ≤ r.2.1 c ∧ r.2.1 c ≤ 40 ∧ r.2.2.1 c = 0 ∧ r.2.2.2.2 + (if here = cl then 1 else 0) = cntB (inB cl r) n.toNat ∧ ∀ k, 0 ≤ k → k < r.2.2.2.2 → 0 ≤ r.2.2.2.1 k ∧ r.2.2.2.1 k < n
theorem okC_up {cost : Int → Int} {cl : Int} {r s : RS} {e : Int} (h : okC cost cl r e) (h1 : s.1 e = r.1 e) (h2 : s.2.1 e = r.2.1 e) (h3 : s.2.2.1 e = r.2.2.1 e) : okC cost cl s e := by
  unfold okC at h ⊢
  rw [h1, h2, h3]
  exact h
theorem mv_ok {cost : Int → Int} {cl n : Int} (hC : CP cost cl n) {c m : Int} (hc : 0 ≤ c ∧ c < n) (hm : 1 ≤ m ∧ m < 2147483648) : ∀ (k : Nat) (here : Int) (r : RS), cl - here = k → rPre cost cl n r c here → rOK cost cl n (mvF cost cl n k c m here r) := by
  intro k
  induction k with
  | zero =>
    intro here r hk hp
    obtain ⟨h1, h2, h3, h4, h5, h6, h7, h8, h9⟩ := hp
    have he : here = cl := by omega
    subst he
    rw [if_pos rfl] at h8
    show rOK cost here n (r.1, r.2.1, up r.2.2.1 c m, up r.2.2.2.1 r.2.2.2.2 c, r.2.2.2.2 + 1)
    refine ⟨fun e a b => ?_, h8, fun k a b => ?_⟩
    · by_cases q : e = c
      · subst q
        unfold okC
        dsimp only
        rw [up_s]
        omega
      · exact okC_up (h1 e a b q) rfl rfl (up_n q)
    · dsimp only at b ⊢
      by_cases q : k = r.2.2.2.2
      · subst q
        rw [up_s]
        exact hc
      · rw [up_n q]
        exact h9 k a (by omega)
  | succ k ih =>
    intro here r hk hp
    obtain ⟨h1, h2, h3, h4, h5, h6, h7, h8, h9⟩ := hp
    have hlt : here < cl := by omega
    have hcs := hC.2.2.2.2 here h3 hlt
    unfold mvF
    rw [if_neg (by omega : ¬ here = cl)] at h8
    by_cases c1 : r.2.1 c < cost here
    · rw [if_pos c1]
      refine ⟨fun e a b => ?_, by omega, h9⟩
      by_cases q : e = c
      · subst q
        unfold okC
        rw [h2, h7]
        omega
      · exact h1 e a b q
    · rw [if_neg c1]
      by_cases c2 : blk cost cl n r.1 c (here + 1) = true
      · rw [if_pos c2]
        refine ⟨fun e a b => ?_, ?_, h9⟩
        · by_cases q : e = c
          · subst q
            unfold okC
            dsimp only
            rw [up_s, h2, h7]
            omega
          · exact okC_up (h1 e a b q) rfl (up_n q) rfl
        · show r.2.2.2.2 = cntB (inB cl r) n.toNat
          omega
      · rw [if_neg c2]
        refine ih (here + 1) _ (by omega) ⟨fun e a b q => okC_up (h1 e a b q) (up_n q) (up_n q) rfl, up_s, by omega, by omega, ?_, ?_, h7, ?_, h9⟩
        · dsimp only; rw [up_s]; omega
        · dsimp only; rw [up_s]; omega
        · dsimp only
          by_cases q : here + 1 = cl
          · rw [if_pos q, cntB_set (p := inB cl r) c hc.1 (by omega) (inB_f (by rw [h2]; omega)) (inB_t (up_s.trans q)) (fun e a b d => (inB_c (up_n d)).symm)]
            omega
          · rw [if_neg q, cntB_congr (p := inB cl (up r.1 c (here + 1), _)) (q := inB cl r) (fun e a b => ?_)]
            · omega
            · by_cases d : e = c
              · subst d
                rw [inB_f (r := r) (by rw [h2]; omega)]
                exact inB_f (fun w => q (up_s.symm.trans w))
              · exact inB_c (up_n d)
theorem move_ok {cost : Int → Int} {cl n : Int} (hC : CP cost cl n) {c m g : Int} (hc : 0 ≤ c ∧ c < n) (hm : 1 ≤ m ∧ m < 2147483648) (hg : 1 ≤ g ∧ g ≤ 20) {r : RS} (hr : rOK cost cl n r) (hin : r.1 c < cl) : rPre cost cl n (r.1, up r.2.1 c (r.2.1 c + g), r.2.2) c (r.1 c) ∧ rOK cost cl n (moveF cost cl n c m g r) := by
  have h := hr.1 c hc.1 hc.2
  unfold okC at h
  have hcs := hC.2.2.2.2 (r.1 c) h.1 hin
  have hp : rPre cost cl n (r.1, up r.2.1 c (r.2.1 c + g), r.2.2) c (r.1 c) := by
    refine ⟨fun e a b q => okC_up (hr.1 e a b) rfl (up_n q) rfl, rfl, h.1, h.2.1, ?_, ?_, h.2.2.2.2.2.1.mpr hin, ?_, hr.2.2⟩
    · dsimp only; rw [up_s]; omega
    · dsimp only; rw [up_s]; omega
    · rw [if_neg (by omega)]
      have := hr.2.1
      show r.2.2.2.2 + 0 = cntB (inB cl r) n.toNat
      omega
  exact ⟨hp, mv_ok hC hc hm _ _ _ (by omega) hp⟩
theorem min_ok {cost : Int → Int} {cl n : Int} (hC : CP cost cl n) {hand g : Int → Int} {m : Int} (hm : 1 ≤ m ∧ m < 2147483648) (hg : ∀ c, 0 ≤ c → c < n → 1 ≤ g c ∧ g c ≤ 20) : ∀ (k : Nat) (c : Int) (r : RS), 0 ≤ c → c + k ≤ n → rOK cost cl n r → rOK cost cl n (minF cost cl n hand g k c m r) := by
  intro k
  induction k with
  | zero => intro c r _ _ h; exact h
  | succ k ih =>
    intro c r h0 h1 h
    unfold minF
    refine ih (c + 1) _ (by omega) (by omega) ?_
    by_cases q : r.1 c < cl ∧ hand c < m
    · rw [if_pos q]
      exact (move_ok hC ⟨h0, by omega⟩ hm (hg c h0 (by omega)) h q.1).2
    · rw [if_neg q]
      exact h
theorem mv_fr {cost : Int → Int} {cl n c m : Int} : ∀ (k : Nat) (here : Int) (r : RS), (∀ e, e ≠ c → (mvF cost cl n k c m here r).1 e = r.1 e ∧ (mvF cost cl n k c m here r).2.1 e = r.2.1 e ∧ (mvF cost cl n k c m here r).2.2.1 e = r.2.2.1 e) ∧ (∀ j, j < r.2.2.2.2 → (mvF cost cl n k c m here r).2.2.2.1 j = r.2.2.2.1 j) ∧ r.2.2.2.2 ≤ (mvF cost cl n k c m here r).2.2.2.2 := by
  intro k
  induction k with
  | zero =>
    intro here r
    exact ⟨fun e q => ⟨rfl, rfl, up_n q⟩, fun j hj => up_n (by omega), by show r.2.2.2.2 ≤ r.2.2.2.2 + 1; omega⟩
  | succ k ih =>
    intro here r
    unfold mvF
    by_cases c1 : r.2.1 c < cost here
    · rw [if_pos c1]
      exact ⟨fun _ _ => ⟨rfl, rfl, rfl⟩, fun _ _ => rfl, Int.le_refl _⟩
    · rw [if_neg c1]
      by_cases c2 : blk cost cl n r.1 c (here + 1) = true
      · rw [if_pos c2]
        exact ⟨fun _ q => ⟨rfl, up_n q, rfl⟩, fun _ _ => rfl, Int.le_refl _⟩
      · rw [if_neg c2]
        obtain ⟨h1, h2, h3⟩ := ih (here + 1) (up r.1 c (here + 1), up r.2.1 c (r.2.1 c - cost here), r.2.2)
        exact ⟨fun e q => ⟨(h1 e q).1.trans (up_n q), (h1 e q).2.1.trans (up_n q), (h1 e q).2.2⟩, h2, h3⟩
theorem move_fr {cost : Int → Int} {cl n c m g : Int} (r : RS) : (∀ e, e ≠ c → (moveF cost cl n c m g r).1 e = r.1 e ∧ (moveF cost cl n c m g r).2.1 e = r.2.1 e ∧ (moveF cost cl n c m g r).2.2.1 e = r.2.2.1 e) ∧ (∀ j, j < r.2.2.2.2 → (moveF cost cl n c m g r).2.2.2.1 j = r.2.2.2.1 j) ∧ r.2.2.2.2 ≤ (moveF cost cl n c m g r).2.2.2.2 := by
  obtain ⟨h1, h2, h3⟩ := mv_fr (cost := cost) (cl := cl) (n := n) (c := c) (m := m) (cl - r.1 c).toNat (r.1 c) (r.1, up r.2.1 c (r.2.1 c + g), r.2.2)
  exact ⟨fun e q => ⟨(h1 e q).1, (h1 e q).2.1.trans (up_n q), (h1 e q).2.2⟩, h2, h3⟩
theorem min_fr {cost : Int → Int} {cl n m : Int} {hand g : Int → Int} : ∀ (k : Nat) (c : Int) (r : RS), (∀ j, j < r.2.2.2.2 → (minF cost cl n hand g k c m r).2.2.2.1 j = r.2.2.2.1 j) ∧ r.2.2.2.2 ≤ (minF cost cl n hand g k c m r).2.2.2.2 := by
  intro k
  induction k with
  | zero => intro c r; exact ⟨fun _ _ => rfl, Int.le_refl _⟩
  | succ k ih =>
    intro c r
    unfold minF
    by_cases q : r.1 c < cl ∧ hand c < m
    · rw [if_pos q]
      obtain ⟨h1, h2⟩ := ih (c + 1) (moveF cost cl n c m (g c) r)
      obtain ⟨-, h3, h4⟩ := move_fr (cost := cost) (cl := cl) (n := n) (c := c) (m := m) (g := g c) r
      exact ⟨fun j hj => (h1 j (by omega)).trans (h3 j hj), by omega⟩
    · rw [if_neg q]
      exact ih (c + 1) r
/-- how far a chair is -/
def prg (cost : Int → Int) (cl : Int) (r : RS) (c : Int) : Int := if r.1 c < cl then sumZ cost (r.1 c).toNat + r.2.1 c else sumZ cost cl.toNat + 1
theorem sumZ_1 {f : Int → Int} {i : Int} (h : 0 ≤ i) : sumZ f (i + 1).toNat = sumZ f i.toNat + f i := by
  have e : (i + 1).toNat = i.toNat + 1 := by omega
  rw [e]
  show sumZ f i.toNat + f (i.toNat : Int) = _
  rw [Int.toNat_of_nonneg h]
theorem sumZ_mono {f : Int → Int} {cl : Int} (h : ∀ i, 0 ≤ i → i < cl → 0 ≤ f i) : ∀ (d : Nat) (a : Int), 0 ≤ a → a + d ≤ cl → sumZ f a.toNat ≤ sumZ f (a + d).toNat := by
  intro d
  induction d with
  | zero => intro a _ _; rw [show a + ((0 : Nat) : Int) = a by omega]; exact Int.le_refl _
  | succ d ih =>
    intro a h0 h1
    have h2 := ih a h0 (by omega)
    have h3 := h (a + d) (by omega) (by omega)
    rw [show a + ((d + 1 : Nat) : Int) = (a + d) + 1 by omega, sumZ_1 (by omega)]
    omega
theorem sumZ_mo {f : Int → Int} {cl a b : Int} (h : ∀ i, 0 ≤ i → i < cl → 0 ≤ f i) (h0 : 0 ≤ a) (h1 : a ≤ b) (h2 : b ≤ cl) : sumZ f a.toNat ≤ sumZ f b.toNat := by
  have := sumZ_mono h (b - a).toNat a h0 (by omega)
  rwa [show a + ((b - a).toNat : Int) = b by omega] at this
theorem mv_lb {cost : Int → Int} {cl n : Int} (hC : CP cost cl n) {c m : Int} (hm : 1 ≤ m) : ∀ (k : Nat) (here : Int) (r : RS), cl - here = k → 0 ≤ here → r.1 c = here → 0 ≤ r.2.1 c → (if here < cl then (if r.2.1 c < cost here then sumZ cost here.toNat + r.2.1 c else sumZ cost here.toNat + cost here) else sumZ cost cl.toNat + 1) ≤ prg cost cl (mvF cost cl n k c m here r) c := by
  intro k
  induction k with
  | zero =>
    intro here r hk h0 hc hp
    rw [if_neg (by omega)]
    unfold prg mvF
    dsimp only
    rw [if_neg (by omega)]
    exact Int.le_refl _
  | succ k ih =>
    intro here r hk h0 hc hp
    have hlt : here < cl := by omega
    have hcs := hC.2.2.2.2 here h0 hlt
    rw [if_pos hlt]
    unfold mvF
    by_cases c1 : r.2.1 c < cost here
    · rw [if_pos c1, if_pos c1]
      unfold prg
      rw [hc, if_pos hlt]
      exact Int.le_refl _
    · rw [if_neg c1, if_neg c1]
      by_cases c2 : blk cost cl n r.1 c (here + 1) = true
      · rw [if_pos c2]
        unfold prg
        dsimp only
        rw [hc, if_pos hlt, up_s]
        exact Int.le_refl _
      · rw [if_neg c2]
        have hh := ih (here + 1) (up r.1 c (here + 1), up r.2.1 c (r.2.1 c - cost here), r.2.2) (by omega) (by omega) up_s (by dsimp only; rw [up_s]; omega)
        refine Int.le_trans ?_ hh
        simp only [up_s]
        have e1 := sumZ_1 (f := cost) h0
        by_cases q : here + 1 < cl
        · rw [if_pos q]
          have := hC.2.2.2.2 (here + 1) (by omega) q
          split <;> omega
        · rw [if_neg q, show cl = here + 1 by omega]
          omega
theorem move_lb {cost : Int → Int} {cl n : Int} (hC : CP cost cl n) {c m g : Int} (hc : 0 ≤ c ∧ c < n) (hm : 1 ≤ m) (hg : 1 ≤ g) {r : RS} (hr : rOK cost cl n r) (hin : r.1 c < cl) : prg cost cl r c < prg cost cl (moveF cost cl n c m g r) c ∨ (prg cost cl r c ≤ prg cost cl (moveF cost cl n c m g r) c ∧ (moveF cost cl n c m g r).1 c = r.1 c ∧ blk cost cl n r.1 c (r.1 c + 1) = true) := by
  have h := hr.1 c hc.1 hc.2
  unfold okC at h
  have hcs := hC.2.2.2.2 (r.1 c) h.1 hin
  have hp : prg cost cl r c = sumZ cost (r.1 c).toNat + r.2.1 c := if_pos hin
  unfold moveF
  obtain ⟨k, hk⟩ : ∃ k : Nat, (cl - r.1 c).toNat = k + 1 := ⟨(cl - r.1 c).toNat - 1, by omega⟩
  rw [hk]
  unfold mvF
  simp only [up_s]
  by_cases c1 : r.2.1 c + g < cost (r.1 c)
  · left
    rw [if_pos c1, hp]
    unfold prg
    dsimp only
    rw [if_pos hin, up_s]
    omega
  · rw [if_neg c1]
    by_cases c2 : blk cost cl n r.1 c (r.1 c + 1) = true
    · right
      rw [if_pos c2]
      refine ⟨?_, rfl, c2⟩
      rw [hp]
      unfold prg
      dsimp only
      rw [if_pos hin, up_s]
      omega
    · left
      rw [if_neg c2]
      have hh := mv_lb (n := n) hC (c := c) hm k (r.1 c + 1) (up r.1 c (r.1 c + 1), up (up r.2.1 c (r.2.1 c + g)) c (r.2.1 c + g - cost (r.1 c)), r.2.2) (by omega) (by omega) up_s (by dsimp only; rw [up_s]; omega)
      refine Int.lt_of_lt_of_le ?_ hh
      simp only [hp, up_s]
      have e1 := sumZ_1 (f := cost) h.1
      by_cases q : r.1 c + 1 < cl
      · rw [if_pos q]
        have := hC.2.2.2.2 (r.1 c + 1) (by omega) q
        split <;> omega
      · rw [if_neg q, show cl = r.1 c + 1 by omega]
        omega
/-- all chairs' ways together -/
def tot (cost : Int → Int) (cl n : Int) (r : RS) : Int := sumZ (prg cost cl r) n.toNat
theorem prg_c {cost : Int → Int} {cl : Int} {r s : RS} {e : Int} (h1 : s.1 e = r.1 e) (h2 : s.2.1 e = r.2.1 e) : prg cost cl s e = prg cost cl r e := by
  unfold prg
  rw [h1, h2]
theorem tot_move {cost : Int → Int} {cl n : Int} (hC : CP cost cl n) {c m g : Int} (hc : 0 ≤ c ∧ c < n) (hm : 1 ≤ m) (hg : 1 ≤ g) {r : RS} (hr : rOK cost cl n r) (hin : r.1 c < cl) : tot cost cl n r < tot cost cl n (moveF cost cl n c m g r) ∨ (tot cost cl n r ≤ tot cost cl n (moveF cost cl n c m g r) ∧ (∀ e, (moveF cost cl n c m g r).1 e = r.1 e) ∧ blk cost cl n r.1 c (r.1 c + 1) = true) := by
  obtain ⟨h1, -, -⟩ := move_fr (cost := cost) (cl := cl) (n := n) (c := c) (m := m) (g := g) r
  have ho : ∀ e, e ≠ c → prg cost cl (moveF cost cl n c m g r) e = prg cost cl r e := fun e q => prg_c (h1 e q).1 (h1 e q).2.1
  rcases move_lb hC hc hm hg hr hin with h | ⟨h, h2, h3⟩
  · left
    refine sumZ_lt c hc.1 (by omega) (fun e a b => ?_) h
    by_cases q : e = c
    · subst q; exact Int.le_of_lt h
    · rw [ho e q]; exact Int.le_refl _
  · right
    refine ⟨sumZ_le (fun e a b => ?_), fun e => ?_, h3⟩
    · by_cases q : e = c
      · subst q; exact h
      · rw [ho e q]; exact Int.le_refl _
    · by_cases q : e = c
      · subst q; exact h2
      · exact (h1 e q).1
/-- in a minute in which all have started, from a state in which not all are in, somebody comes further -/
theorem tot_min {cost : Int → Int} {cl n : Int} (hC : CP cost cl n) {hand g : Int → Int} {m : Int} (hm : 1 ≤ m ∧ m < 2147483648) (hg : ∀ c, 0 ≤ c → c < n → 1 ≤ g c ∧ g c ≤ 20) (hh : ∀ c, 0 ≤ c → c < n → hand c < m) (r0 : RS) (f : Int) (hf : 0 ≤ f ∧ f < n) (hfi : r0.1 f < cl) (hmax : ∀ e, 0 ≤ e → e < n → r0.1 e < cl → r0.1 e ≤ r0.1 f) : ∀ (k : Nat) (c : Int) (r : RS), 0 ≤ c → c + k = n → rOK cost cl n r → (tot cost cl n r0 < tot cost cl n r ∨ (tot cost cl n r0 ≤ tot cost cl n r ∧ (∀ e, r.1 e = r0.1 e) ∧ c ≤ f)) → tot cost cl n r0 < tot cost cl n (minF cost cl n hand g k c m r) := by
  intro k
  induction k with
  | zero =>
    intro c r h0 h1 hr h
    rcases h with h | h
    · exact h
    · omega
  | succ k ih =>
    intro c r h0 h1 hr h
    have hgc := hg c h0 (by omega)
    have hhc := hh c h0 (by omega)
    unfold minF
    by_cases q : r.1 c < cl ∧ hand c < m
    · rw [if_pos q]
      refine ih (c + 1) _ (by omega) (by omega) (move_ok hC ⟨h0, by omega⟩ hm hgc hr q.1).2 ?_
      rcases tot_move hC ⟨h0, by omega⟩ hm.1 hgc.1 hr q.1 with t | ⟨t, t2, t3⟩
      · left
        rcases h with h | h <;> omega
      · rcases h with h | ⟨h, h2, h3⟩
        · left; omega
        · right
          refine ⟨by omega, fun e => (t2 e).trans (h2 e), ?_⟩
          by_cases e : c = f
          · subst e
            obtain ⟨b1, b2, e, b3, b4, b5, b6⟩ := (blk_iff (by omega)).mp t3
            have b7 := hmax e b3 b4 (by rw [← h2 e]; omega)
            rw [h2] at b6 b1
            rw [h2 c] at b6
            omega
          · omega
    · rw [if_neg q]
      refine ih (c + 1) r (by omega) (by omega) hr ?_
      rcases h with h | ⟨h, h2, h3⟩
      · left; exact h
      · right
        refine ⟨h, h2, ?_⟩
        by_cases e : c = f
        · subst e
          exact absurd ⟨by rw [h2]; exact hfi, hhc⟩ q
        · omega
theorem max_ex (p : Int → Prop) (v : Int → Int) : ∀ k : Nat, (∃ e : Int, 0 ≤ e ∧ e < k ∧ p e) → ∃ f : Int, 0 ≤ f ∧ f < k ∧ p f ∧ ∀ e : Int, 0 ≤ e → e < k → p e → v e ≤ v f := by
  intro k
  induction k with
  | zero => rintro ⟨e, h1, h2, -⟩; omega
  | succ k ih =>
    rintro ⟨e, h1, h2, h3⟩
    by_cases hk : p k
    · by_cases hx : ∃ e : Int, 0 ≤ e ∧ e < k ∧ p e
      · obtain ⟨f, f1, f2, f3, f4⟩ := ih hx
        by_cases q : v f ≤ v k
        · refine ⟨k, by omega, by omega, hk, fun e a b d => ?_⟩
          by_cases w : e = k
          · subst w; exact Int.le_refl _
          · exact Int.le_trans (f4 e a (by omega) d) q
        · refine ⟨f, f1, by omega, f3, fun e a b d => ?_⟩
          by_cases w : e = k
          · subst w; omega
          · exact f4 e a (by omega) d
      · refine ⟨k, by omega, by omega, hk, fun e a b d => ?_⟩
        by_cases w : e = k
        · subst w; exact Int.le_refl _
        · exact absurd ⟨e, a, by omega, d⟩ hx
    · have hx : ∃ e : Int, 0 ≤ e ∧ e < k ∧ p e := ⟨e, h1, by
        by_cases w : e = k
        · subst w; exact absurd h3 hk
        · omega, h3⟩
      obtain ⟨f, f1, f2, f3, f4⟩ := ih hx
      refine ⟨f, f1, by omega, f3, fun e a b d => ?_⟩
      by_cases w : e = k
      · subst w; exact absurd d hk
      · exact f4 e a (by omega) d
theorem tot_bd {cost : Int → Int} {cl n : Int} (hC : CP cost cl n) {r : RS} (hr : rOK cost cl n r) : 0 ≤ tot cost cl n r ∧ tot cost cl n r ≤ 645 := by
  have hpos : ∀ i, 0 ≤ i → i < cl → 0 ≤ cost i := fun i a b => by have := hC.2.2.2.2 i a b; omega
  have hL : sumZ cost cl.toNat ≤ 128 := by
    have := sumZ_bd (f := cost) (b := 8) (k := cl.toNat) (fun c a b => (hC.2.2.2.2 c a (by omega)).2)
    have := hC.2.2.2.1
    omega
  have hL0 : 0 ≤ sumZ cost cl.toNat := sumZ_nn (fun c a b => hpos c a (by omega))
  have hp : ∀ c, 0 ≤ c → c < n → 0 ≤ prg cost cl r c ∧ prg cost cl r c ≤ 129 := by
    intro c a b
    have h := hr.1 c a b
    unfold okC at h
    unfold prg
    by_cases q : r.1 c < cl
    · rw [if_pos q]
      have h1 := sumZ_mo hpos (a := r.1 c + 1) (b := cl) (by omega) (by omega) (Int.le_refl _)
      have h0 := sumZ_mo hpos (a := 0) (b := r.1 c) (by omega) h.1 (by omega)
      rw [sumZ_1 h.1] at h1
      have : sumZ cost (0 : Int).toNat = 0 := rfl
      omega
    · rw [if_neg q]
      omega
  constructor
  · exact sumZ_nn (fun c a b => (hp c a (by omega)).1)
  · have := sumZ_bd (f := prg cost cl r) (b := 129) (k := n.toNat) (fun c a b => (hp c a (by omega)).2)
    have h5 := hC.2.1
    unfold tot
    omega
/-- THE RACE ENDS: from minute m on, in fuel enough for what is left of the way -/
theorem race_end {cost : Int → Int} {cl n : Int} (hC : CP cost cl n) {hand g : Int → Int} (hg : ∀ c, 0 ≤ c → c < n → 1 ≤ g c ∧ g c ≤ 20) (hh : ∀ c, 0 ≤ c → c < n → hand c ≤ 5) {w : Int} (hw : w ≤ n) : ∀ (k : Nat) (m : Int) (r : RS), 1 ≤ m → m + k < 2147483648 → rOK cost cl n r → (6 ≤ m → 646 ≤ tot cost cl n r + k) → (m < 6 → 652 - m ≤ k) → rOK cost cl n (raceF cost cl n hand g k m w r) ∧ w ≤ (raceF cost cl n hand g k m w r).2.2.2.2 := by
  intro k
  induction k with
  | zero =>
    intro m r h1 h2 hr h3 h4
    have := tot_bd hC hr
    omega
  | succ k ih =>
    intro m r h1 h2 hr h3 h4
    unfold raceF
    by_cases q : r.2.2.2.2 < w
    · rw [if_pos q]
      have hr' := min_ok hC (hand := hand) (m := m) ⟨h1, by omega⟩ hg n.toNat 0 r (Int.le_refl _) (by have := hC.1; omega) hr
      have ht := tot_bd hC hr
      have ht' := tot_bd hC hr'
      refine ih (m + 1) _ (by omega) (by omega) hr' (fun h6 => ?_) (fun h6 => by omega)
      by_cases m6 : 6 ≤ m
      · have hin : ∃ e : Int, 0 ≤ e ∧ e < (n.toNat : Int) ∧ r.1 e < cl := by
          apply Classical.byContradiction
          intro hn
          have := cntB_all (p := inB cl r) (k := n.toNat) (fun c a b => inB_t (by
            have hk := hr.1 c a (by omega)
            unfold okC at hk
            by_cases z : r.1 c < cl
            · exact absurd ⟨c, a, b, z⟩ hn
            · omega))
          have := hr.2.1
          have := hC.1
          omega
        obtain ⟨f, f1, f2, f3, f4⟩ := max_ex (fun e => r.1 e < cl) r.1 n.toNat hin
        have := tot_min (hand := hand) (m := m) hC ⟨h1, by omega⟩ hg (fun c a b => by have := hh c a b; omega) r f ⟨f1, by omega⟩ f3 (fun e a b d => f4 e a (by omega) d) n.toNat 0 r (Int.le_refl _) (by have := hC.1; omega) hr (Or.inr ⟨Int.le_refl _, fun _ => rfl, f1⟩)
        have := h3 m6
        omega
      · have := h4 (by omega)
        omega
    · rw [if_neg q]
      exact ⟨hr, by omega⟩
/-- the first one stays the first one: a race to the first, and to the last -/
theorem race_fr {cost : Int → Int} {cl n w : Int} {hand g : Int → Int} : ∀ (k : Nat) (m : Int) (r : RS), (∀ j, j < r.2.2.2.2 → (raceF cost cl n hand g k m w r).2.2.2.1 j = r.2.2.2.1 j) ∧ r.2.2.2.2 ≤ (raceF cost cl n hand g k m w r).2.2.2.2 := by
  intro k
  induction k with
  | zero => intro m r; exact ⟨fun _ _ => rfl, Int.le_refl _⟩
  | succ k ih =>
    intro m r
    unfold raceF
    by_cases q : r.2.2.2.2 < w
    · rw [if_pos q]
      obtain ⟨h1, h2⟩ := ih (m + 1) (minF cost cl n hand g n.toNat 0 m r)
      obtain ⟨h3, h4⟩ := min_fr (cost := cost) (cl := cl) (n := n) (m := m) (hand := hand) (g := g) n.toNat 0 r
      exact ⟨fun j hj => (h1 j (by omega)).trans (h3 j hj), by omega⟩
    · rw [if_neg q]
      exact ⟨fun _ _ => rfl, Int.le_refl _⟩
theorem race_1 {cost : Int → Int} {cl n : Int} (hn : 1 ≤ n) {hand g : Int → Int} : ∀ (k : Nat) (m : Int) (r : RS), 1 ≤ (raceF cost cl n hand g k m 1 r).2.2.2.2 → (raceF cost cl n hand g k m n r).2.2.2.1 0 = (raceF cost cl n hand g k m 1 r).2.2.2.1 0 := by
  intro k
  induction k with
  | zero => intro m r _; rfl
  | succ k ih =>
    intro m r h
    unfold raceF at h ⊢
    by_cases q : r.2.2.2.2 < 1
    · rw [if_pos q] at h ⊢
      rw [if_pos (by omega)]
      exact ih (m + 1) _ h
    · rw [if_neg q]
      by_cases q2 : r.2.2.2.2 < n
      · rw [if_pos q2]
        obtain ⟨h1, h2⟩ := race_fr (cost := cost) (cl := cl) (n := n) (w := n) (hand := hand) (g := g) k (m + 1) (minF cost cl n hand g n.toNat 0 m r)
        obtain ⟨h3, h4⟩ := min_fr (cost := cost) (cl := cl) (n := n) (m := m) (hand := hand) (g := g) n.toNat 0 r
        rw [h1 0 (by omega), h3 0 (by omega)]
      · rw [if_neg q2]
/-- two states alike where it matters -/
def ag (n : Int) (f g : Int → Int) : Prop := ∀ e, 0 ≤ e → e < n → f e = g e
theorem ag_rf {n : Int} {f : Int → Int} : ag n f f := fun _ _ _ => rfl
theorem ag_up {n : Int} {f g : Int → Int} (h : ag n f g) (i v : Int) : ag n (up f i v) (up g i v) := fun e a b => by
  unfold up
  split
  · rfl
  · exact h e a b
def rAg (n : Int) (r s : RS) : Prop := ag n r.1 s.1 ∧ ag n r.2.1 s.2.1 ∧ ag n r.2.2.1 s.2.2.1 ∧ (∀ k, 0 ≤ k → k < r.2.2.2.2 → r.2.2.2.1 k = s.2.2.2.1 k) ∧ r.2.2.2.2 = s.2.2.2.2
theorem anyB_congr {p q : Int → Bool} : ∀ {k : Nat}, (∀ c : Int, 0 ≤ c → c < k → p c = q c) → anyB p k = anyB q k
  | 0, _ => rfl
  | k + 1, h => by
    unfold anyB
    rw [anyB_congr (fun c h0 h1 => h c h0 (by omega)), h k (by omega) (by omega)]
theorem blk_ag {cost cell cell' : Int → Int} {cl n c to : Int} (h : ag n cell cell') : blk cost cl n cell c to = blk cost cl n cell' c to := by
  unfold blk
  rw [anyB_congr (fun e a b => by rw [h e a (by omega)])]
theorem mv_ag {cost : Int → Int} {cl n : Int} {c m : Int} (hc : 0 ≤ c ∧ c < n) : ∀ (k : Nat) (here : Int) (r s : RS), rAg n r s → rAg n (mvF cost cl n k c m here r) (mvF cost cl n k c m here s) := by
  intro k
  induction k with
  | zero =>
    intro here r s h
    obtain ⟨h1, h2, h3, h4, h5⟩ := h
    refine ⟨h1, h2, ag_up h3 c m, fun k a b => ?_, ?_⟩
    · show up r.2.2.2.1 r.2.2.2.2 c k = up s.2.2.2.1 s.2.2.2.2 c k
      rw [h5]
      by_cases q : k = s.2.2.2.2
      · subst q; rw [up_s, up_s]
      · rw [up_n q, up_n q]
        have b : k < r.2.2.2.2 + 1 := b
        exact h4 k a (by omega)
    · show r.2.2.2.2 + 1 = s.2.2.2.2 + 1
      rw [h5]
  | succ k ih =>
    intro here r s h
    have h0 := h
    obtain ⟨h1, h2, h3, h4, h5⟩ := h
    unfold mvF
    rw [h2 c hc.1 hc.2, blk_ag h1]
    by_cases c1 : s.2.1 c < cost here
    · rw [if_pos c1, if_pos c1]; exact h0
    · rw [if_neg c1, if_neg c1]
      by_cases c2 : blk cost cl n s.1 c (here + 1) = true
      · rw [if_pos c2, if_pos c2]
        exact ⟨h1, ag_up h2 _ _, h3, h4, h5⟩
      · rw [if_neg c2, if_neg c2]
        exact ih _ _ _ ⟨ag_up h1 _ _, ag_up h2 _ _, h3, h4, h5⟩
theorem min_ag {cost : Int → Int} {cl n : Int} {hand hand' g g' : Int → Int} {m : Int} (hh : ag n hand hand') (hg : ag n g g') : ∀ (k : Nat) (c : Int) (r s : RS), 0 ≤ c → c + k ≤ n → rAg n r s → rAg n (minF cost cl n hand g k c m r) (minF cost cl n hand' g' k c m s) := by
  intro k
  induction k with
  | zero => intro c r s _ _ h; exact h
  | succ k ih =>
    intro c r s h0 h1 h
    unfold minF
    refine ih (c + 1) _ _ (by omega) (by omega) ?_
    rw [h.1 c h0 (by omega), hh c h0 (by omega), hg c h0 (by omega)]
    by_cases q : s.1 c < cl ∧ hand' c < m
    · rw [if_pos q, if_pos q]
      unfold moveF
      rw [h.1 c h0 (by omega), h.2.1 c h0 (by omega)]
      exact mv_ag ⟨h0, by omega⟩ _ _ _ _ ⟨h.1, ag_up h.2.1 _ _, h.2.2⟩
    · rw [if_neg q, if_neg q]; exact h
theorem race_ag {cost : Int → Int} {cl n w : Int} (hn : 0 ≤ n) {hand hand' g g' : Int → Int} (hh : ag n hand hand') (hg : ag n g g') : ∀ (k : Nat) (m : Int) (r s : RS), rAg n r s → rAg n (raceF cost cl n hand g k m w r) (raceF cost cl n hand' g' k m w s) := by
  intro k
  induction k with
  | zero => intro m r s h; exact h
  | succ k ih =>
    intro m r s h
    unfold raceF
    rw [h.2.2.2.2]
    by_cases q : s.2.2.2.2 < w
    · rw [if_pos q, if_pos q]
      exact ih _ _ _ (min_ag hh hg _ _ _ _ (Int.le_refl _) (by omega) h)
    · rw [if_neg q, if_neg q]; exact h
theorem blk_cg {cost cost' cell : Int → Int} {cl n c to : Int} (h0 : 0 ≤ to) (h : ag cl cost cost') : blk cost cl n cell c to = blk cost' cl n cell c to := by
  unfold blk
  by_cases q : to < cl
  · rw [h to h0 q]
  · rw [decide_eq_false q]; rfl
theorem mv_cg {cost cost' : Int → Int} {cl n c m : Int} (h : ag cl cost cost') : ∀ (k : Nat) (here : Int) (r : RS), 0 ≤ here → here + k ≤ cl → mvF cost cl n k c m here r = mvF cost' cl n k c m here r := by
  intro k
  induction k with
  | zero => intro here r _ _; rfl
  | succ k ih =>
    intro here r h0 h1
    unfold mvF
    rw [h here h0 (by omega), blk_cg (by omega) h, ih _ _ (by omega) (by omega)]
theorem min_cg {cost cost' : Int → Int} {cl n : Int} (hC : CP cost cl n) (h : ag cl cost cost') {hand g : Int → Int} {m : Int} (hm : 1 ≤ m ∧ m < 2147483648) (hg : ∀ c, 0 ≤ c → c < n → 1 ≤ g c ∧ g c ≤ 20) : ∀ (k : Nat) (c : Int) (r : RS), 0 ≤ c → c + k ≤ n → rOK cost cl n r → minF cost cl n hand g k c m r = minF cost' cl n hand g k c m r := by
  intro k
  induction k with
  | zero => intro c r _ _ _; rfl
  | succ k ih =>
    intro c r h0 h1 hr
    unfold minF
    by_cases q : r.1 c < cl ∧ hand c < m
    · have hk := hr.1 c h0 (by omega)
      unfold okC at hk
      have e1 : moveF cost' cl n c m (g c) r = moveF cost cl n c m (g c) r := by
        unfold moveF
        rw [mv_cg h _ _ _ hk.1 (by omega)]
      rw [if_pos q, if_pos q, e1]
      exact ih _ _ (by omega) (by omega) (move_ok hC ⟨h0, by omega⟩ hm (hg c h0 (by omega)) hr q.1).2
    · rw [if_neg q, if_neg q]
      exact ih _ _ (by omega) (by omega) hr
theorem race_cg {cost cost' : Int → Int} {cl n w : Int} (hC : CP cost cl n) (h : ag cl cost cost') {hand g : Int → Int} (hg : ∀ c, 0 ≤ c → c < n → 1 ≤ g c ∧ g c ≤ 20) : ∀ (k : Nat) (m : Int) (r : RS), 1 ≤ m → m + k < 2147483648 → rOK cost cl n r → raceF cost cl n hand g k m w r = raceF cost' cl n hand g k m w r := by
  intro k
  induction k with
  | zero => intro m r _ _ _; rfl
  | succ k ih =>
    intro m r h1 h2 hr
    have h3 := hC.1
    unfold raceF
    by_cases q : r.2.2.2.2 < w
    · rw [if_pos q, if_pos q, min_cg hC h ⟨h1, by omega⟩ hg _ _ _ (Int.le_refl _) (by omega) hr]
      refine ih _ _ (by omega) (by omega) ?_
      rw [← min_cg hC h ⟨h1, by omega⟩ hg _ _ _ (Int.le_refl _) (by omega) hr]
      exact min_ok hC ⟨h1, by omega⟩ hg _ _ _ (Int.le_refl _) (by omega) hr
    · rw [if_neg q, if_neg q]
end
section
/-! the model's races over the machine -/
def b2i (b : Bool) : Int := cond b 1 0
theorem b2i_r (b : Bool) : R32 (b2i b) := by cases b <;> exact ⟨by decide, by decide⟩
theorem b2i_0 {b : Bool} : b2i b = 0 ↔ b = false := by cases b <;> decide
theorem b2i_1 {b : Bool} : b2i b = 1 ↔ b = true := by cases b <;> decide
theorem b2i_n {b : Bool} : ¬ b2i b = 0 ↔ b = true := by cases b <;> decide
theorem b2i_z (b : Bool) : b2i b = 0 ∨ b2i b = 1 := by cases b <;> decide
theorem anyB_1 {p : Int → Bool} {e : Int} (h : 0 ≤ e) : anyB p (e + 1).toNat = (anyB p e.toNat || p e) := by
  have : (e + 1).toNat = e.toNat + 1 := by omega
  rw [this]
  show (anyB p e.toNat || p (e.toNat : Int)) = _
  rw [Int.toNat_of_nonneg h]
def bit (a k : Int) : Int := a / 2 ^ k.toNat % 2
theorem bit_z (a k : Int) : bit a k = 0 ∨ bit a k = 1 := by unfold bit; omega
def gainZ (str w b : Int) : Int := (if 2 * str - w < 1 then 1 else 2 * str - w) + (if b = 0 then 0 else 3)
def NW (n : Int) (s : Int → Int) : Prop := (∀ c, 0 ≤ c → c < n → 0 ≤ s c ∧ s c < n ∧ 0 ≤ s (5 + c) ∧ s (5 + c) ≤ 5) ∧ 0 ≤ s 10 ∧ s 10 < 32
/-- a model whose numbers are in order, with a race; s: who pushes whom .. -/
def MCh (h : Hp) : Prop := ∀ c, 0 ≤ c → c < h 0 2 → 1 ≤ h 3 c ∧ h 3 c ≤ 9 ∧ 1 ≤ h 2 (2 * c) ∧ h 2 (2 * c) ≤ 9
def MW (h : Hp) : Prop := CP (h 1) (h 0 0) (h 0 2) ∧ MCh h
def mGain (h : Hp) (ill c : Int) : Int := gainZ (if bit ill (h 13 c) = 0 then h 3 (h 13 c) else 1) (h 2 (2 * c)) (bit (h 13 10) c)
theorem gainZ_r {str w b : Int} (h1 : 1 ≤ str ∧ str ≤ 9) (h2 : 1 ≤ w ∧ w ≤ 9) : 1 ≤ gainZ str w b ∧ gainZ str w b ≤ 20 := by
  unfold gainZ
  split <;> split <;> omega
theorem mGain_r {h : Hp} (hW : MW h) (hN : NW (h 0 2) (h 13)) (ill : Int) {c : Int} (hc : 0 ≤ c ∧ c < h 0 2) : 1 ≤ mGain h ill c ∧ mGain h ill c ≤ 20 := by
  have h1 := hN.1 c hc.1 hc.2
  have h2 := hW.2 (h 13 c) h1.1 h1.2.1
  have h3 := hW.2 c hc.1 hc.2
  unfold mGain
  refine gainZ_r ?_ ⟨h3.2.2.1, h3.2.2.2⟩
  split <;> omega
theorem m_gainOf {h : Hp} (hn : h 0 2 ≤ 5) (hW : MCh h) (hN : NW (h 0 2) (h 13)) {ill c : Int} (hi : 0 ≤ ill ∧ ill < 32) (hc : 0 ≤ c ∧ c < h 0 2) : Ev shM mX9_gainOf 0 [some (vr 0), some (vi c), some (vi ill), none, none] [] h (RI fun x h' => x = mGain h ill c ∧ h = h') := by
  have h1 := hN.1 c hc.1 hc.2
  have h2 := hW (h 13 c) h1.1 h1.2.1
  have h3 := hW c hc.1 hc.2
  have h4 := hN.2
  have hz := bit_z ill (h 13 c)
  have hz2 := bit_z (h 13 10) c
  unfold mGain gainZ
  refine ev_aload_n 1 dX9_gainOf_0 rfl rfl ?_
  refine ev_getR 4 fX9_47 rfl dX9_gainOf_1 rfl rfl rfl ?_
  refine ev_iconst 5 dX9_gainOf_4 rfl ?_
  refine ev_iload_n 6 dX9_gainOf_5 rfl rfl ?_
  refine ev_iadd 7 dX9_gainOf_6 rfl ?_
  refine ev_iald' 8 (h 13 c) dX9_gainOf_7 rfl rfl (by decide) (by omega) (by rw [Int.zero_add]) ?_
  refine ev_istore_n 9 dX9_gainOf_8 rfl (Nat.le_of_ble_eq_true rfl) ?_
  refine ev_iconst 10 dX9_gainOf_9 rfl ?_
  refine ev_iload_n 11 dX9_gainOf_10 rfl rfl ?_
  refine ev_iload_n 12 dX9_gainOf_11 rfl rfl ?_
  refine cSi2 15 kX9_gainOf_158 dX9_gainOf_12 rfl rfl (by decide) rfl (Nat.le_of_ble_eq_true rfl) (m_has (by omega) (by omega)) ?_
  rintro x _ ⟨e12, rfl⟩
  rw [show x = bit ill (h 13 c) from e12]
  refine ev_if_eq 18 22 dX9_gainOf_15 rfl rfl (by omega) (fun c15 => ?_) (fun c15 => ?_)
  · rw [if_pos c15]
    refine ev_aload_n 23 dX9_gainOf_22 rfl rfl ?_
    refine ev_getR 26 fX9_16 rfl dX9_gainOf_23 rfl rfl rfl ?_
    refine ev_iload_n 27 dX9_gainOf_26 rfl rfl ?_
    refine ev_iald 28 dX9_gainOf_27 rfl rfl (by decide) (by omega) ?_
    refine ev_imul 29 dX9_gainOf_28 rfl ?_
    refine ev_aload_n 30 dX9_gainOf_29 rfl rfl ?_
    refine ev_getR 33 fX9_13 rfl dX9_gainOf_30 rfl rfl rfl ?_
    refine ev_iconst 34 dX9_gainOf_33 rfl ?_
    refine ev_iload_n 35 dX9_gainOf_34 rfl rfl ?_
    refine ev_imul 36 dX9_gainOf_35 rfl ?_
    refine ev_iald 37 dX9_gainOf_36 rfl rfl (by decide) (by omega) ?_
    refine ev_isub 38 dX9_gainOf_37 rfl ?_
    refine ev_istore 40 dX9_gainOf_38 rfl (Nat.le_of_ble_eq_true rfl) ?_
    refine ev_iload 42 dX9_gainOf_40 rfl rfl ?_
    refine ev_iconst 43 dX9_gainOf_42 rfl ?_
    refine ev_icmp_ge 46 50 dX9_gainOf_43 rfl rfl (by omega) (by omega) (fun c43 => ?_) (fun c43 => ?_)
    · rw [if_neg (by omega)]
      refine ev_iload 52 dX9_gainOf_50 rfl rfl ?_
      refine ev_aload_n 53 dX9_gainOf_52 rfl rfl ?_
      refine ev_getR 56 fX9_47 rfl dX9_gainOf_53 rfl rfl rfl ?_
      refine ev_bipush 58 dX9_gainOf_56 rfl (by decide +kernel) ?_
      refine ev_iald 59 dX9_gainOf_58 rfl rfl (by decide) (by omega) ?_
      refine ev_iload_n 60 dX9_gainOf_59 rfl rfl ?_
      refine cSi2 63 kX9_gainOf_158 dX9_gainOf_60 rfl rfl (by decide) rfl (Nat.le_of_ble_eq_true rfl) (m_has (by omega) (by omega)) ?_
      rintro x _ ⟨e60, rfl⟩
      rw [show x = bit (h 13 10) c from e60]
      refine ev_if_eq 66 70 dX9_gainOf_63 rfl rfl (by omega) (fun c63 => ?_) (fun c63 => ?_)
      · rw [if_pos c63]
        refine ev_iconst 71 dX9_gainOf_70 rfl ?_
        refine ev_iadd 72 dX9_gainOf_71 rfl ?_
        exact ev_iret rfl dX9_gainOf_72 (⟨rfl, rfl⟩)
      · rw [if_neg c63]
        refine ev_iconst 67 dX9_gainOf_66 rfl ?_
        refine ev_goto 71 dX9_gainOf_67 rfl ?_
        refine ev_iadd 72 dX9_gainOf_71 rfl ?_
        exact ev_iret rfl dX9_gainOf_72 (⟨rfl, rfl⟩)
    · rw [if_pos (by omega)]
      refine ev_iconst 47 dX9_gainOf_46 rfl ?_
      refine ev_goto 52 dX9_gainOf_47 rfl ?_
      refine ev_aload_n 53 dX9_gainOf_52 rfl rfl ?_
      refine ev_getR 56 fX9_47 rfl dX9_gainOf_53 rfl rfl rfl ?_
      refine ev_bipush 58 dX9_gainOf_56 rfl (by decide +kernel) ?_
      refine ev_iald 59 dX9_gainOf_58 rfl rfl (by decide) (by omega) ?_
      refine ev_iload_n 60 dX9_gainOf_59 rfl rfl ?_
      refine cSi2 63 kX9_gainOf_158 dX9_gainOf_60 rfl rfl (by decide) rfl (Nat.le_of_ble_eq_true rfl) (m_has (by omega) (by omega)) ?_
      rintro x _ ⟨e60, rfl⟩
      rw [show x = bit (h 13 10) c from e60]
      refine ev_if_eq 66 70 dX9_gainOf_63 rfl rfl (by omega) (fun c63 => ?_) (fun c63 => ?_)
      · rw [if_pos c63]
        refine ev_iconst 71 dX9_gainOf_70 rfl ?_
        refine ev_iadd 72 dX9_gainOf_71 rfl ?_
        exact ev_iret rfl dX9_gainOf_72 (⟨rfl, rfl⟩)
      · rw [if_neg c63]
        refine ev_iconst 67 dX9_gainOf_66 rfl ?_
        refine ev_goto 71 dX9_gainOf_67 rfl ?_
        refine ev_iadd 72 dX9_gainOf_71 rfl ?_
        exact ev_iret rfl dX9_gainOf_72 (⟨rfl, rfl⟩)
  · rw [if_neg c15]
    refine ev_iconst 19 dX9_gainOf_18 rfl ?_
    refine ev_goto 28 dX9_gainOf_19 rfl ?_
    refine ev_imul 29 dX9_gainOf_28 rfl ?_
    refine ev_aload_n 30 dX9_gainOf_29 rfl rfl ?_
    refine ev_getR 33 fX9_13 rfl dX9_gainOf_30 rfl rfl rfl ?_
    refine ev_iconst 34 dX9_gainOf_33 rfl ?_
    refine ev_iload_n 35 dX9_gainOf_34 rfl rfl ?_
    refine ev_imul 36 dX9_gainOf_35 rfl ?_
    refine ev_iald 37 dX9_gainOf_36 rfl rfl (by decide) (by omega) ?_
    refine ev_isub 38 dX9_gainOf_37 rfl ?_
    refine ev_istore 40 dX9_gainOf_38 rfl (Nat.le_of_ble_eq_true rfl) ?_
    refine ev_iload 42 dX9_gainOf_40 rfl rfl ?_
    refine ev_iconst 43 dX9_gainOf_42 rfl ?_
    refine ev_icmp_ge 46 50 dX9_gainOf_43 rfl rfl (by omega) (by omega) (fun c43 => ?_) (fun c43 => ?_)
    · rw [if_neg (by omega)]
      refine ev_iload 52 dX9_gainOf_50 rfl rfl ?_
      refine ev_aload_n 53 dX9_gainOf_52 rfl rfl ?_
      refine ev_getR 56 fX9_47 rfl dX9_gainOf_53 rfl rfl rfl ?_
      refine ev_bipush 58 dX9_gainOf_56 rfl (by decide +kernel) ?_
      refine ev_iald 59 dX9_gainOf_58 rfl rfl (by decide) (by omega) ?_
      refine ev_iload_n 60 dX9_gainOf_59 rfl rfl ?_
      refine cSi2 63 kX9_gainOf_158 dX9_gainOf_60 rfl rfl (by decide) rfl (Nat.le_of_ble_eq_true rfl) (m_has (by omega) (by omega)) ?_
      rintro x _ ⟨e60, rfl⟩
      rw [show x = bit (h 13 10) c from e60]
      refine ev_if_eq 66 70 dX9_gainOf_63 rfl rfl (by omega) (fun c63 => ?_) (fun c63 => ?_)
      · rw [if_pos c63]
        refine ev_iconst 71 dX9_gainOf_70 rfl ?_
        refine ev_iadd 72 dX9_gainOf_71 rfl ?_
        exact ev_iret rfl dX9_gainOf_72 (⟨rfl, rfl⟩)
      · rw [if_neg c63]
        refine ev_iconst 67 dX9_gainOf_66 rfl ?_
        refine ev_goto 71 dX9_gainOf_67 rfl ?_
        refine ev_iadd 72 dX9_gainOf_71 rfl ?_
        exact ev_iret rfl dX9_gainOf_72 (⟨rfl, rfl⟩)
    · rw [if_pos (by omega)]
      refine ev_iconst 47 dX9_gainOf_46 rfl ?_
      refine ev_goto 52 dX9_gainOf_47 rfl ?_
      refine ev_aload_n 53 dX9_gainOf_52 rfl rfl ?_
      refine ev_getR 56 fX9_47 rfl dX9_gainOf_53 rfl rfl rfl ?_
      refine ev_bipush 58 dX9_gainOf_56 rfl (by decide +kernel) ?_
      refine ev_iald 59 dX9_gainOf_58 rfl rfl (by decide) (by omega) ?_
      refine ev_iload_n 60 dX9_gainOf_59 rfl rfl ?_
      refine cSi2 63 kX9_gainOf_158 dX9_gainOf_60 rfl rfl (by decide) rfl (Nat.le_of_ble_eq_true rfl) (m_has (by omega) (by omega)) ?_
      rintro x _ ⟨e60, rfl⟩
      rw [show x = bit (h 13 10) c from e60]
      refine ev_if_eq 66 70 dX9_gainOf_63 rfl rfl (by omega) (fun c63 => ?_) (fun c63 => ?_)
      · rw [if_pos c63]
        refine ev_iconst 71 dX9_gainOf_70 rfl ?_
        refine ev_iadd 72 dX9_gainOf_71 rfl ?_
        exact ev_iret rfl dX9_gainOf_72 (⟨rfl, rfl⟩)
      · rw [if_neg c63]
        refine ev_iconst 67 dX9_gainOf_66 rfl ?_
        refine ev_goto 71 dX9_gainOf_67 rfl ?_
        refine ev_iadd 72 dX9_gainOf_71 rfl ?_
        exact ev_iret rfl dX9_gainOf_72 (⟨rfl, rfl⟩)
def hR (h : Hp) (ic pts tm plc : Int → Int) (many : Int) : Hp := hq h [(0, up (h 0) 31 many), (14, ic), (15, pts), (16, tm), (17, plc)]
def tkB (ic tm : Int → Int) (c to : Int) : Int → Bool := fun e => decide (e ≠ c) && (decide (tm e = 0) && decide (ic e = to))
theorem m_isTaken_loop {h : Hp} {to c : Int} (hn : 0 ≤ h 0 2 ∧ h 0 2 ≤ 5) (hto : R32 to) (hc : R32 c) (ht : ∀ e, 0 ≤ e → e < h 0 2 → R32 (h 16 e)) (hi : ∀ e, 0 ≤ e → e < h 0 2 → R32 (h 14 e)) : ∀ (k : Nat) (e : Int), 0 ≤ e → e + k = h 0 2 → Ev shM mX9_isTaken 5 [some (vr 0), some (vi to), some (vi c), some (vi (b2i (anyB (tkB (h 14) (h 16) c to) e.toNat))), some (vi e)] [] h (RI fun x h' => x = b2i (anyB (tkB (h 14) (h 16) c to) (h 0 2).toNat) ∧ h = h') := by
  intro k
  induction k with
  | zero =>
    intro e h0 h1
    have he : e = h 0 2 := by omega
    subst he
    refine ev_iload 7 dX9_isTaken_5 rfl rfl ?_
    refine ev_aload_n 8 dX9_isTaken_7 rfl rfl ?_
    refine ev_getI 11 2 fX9_74 rfl dX9_isTaken_8 rfl rfl rfl (by decide) rfl ?_
    refine ev_icmp_ge 14 57 dX9_isTaken_11 rfl rfl (by omega) (by omega) (fun c11 => ?_) (fun c11 => ?_)
    · refine ev_iload_n 58 dX9_isTaken_57 rfl rfl ?_
      exact ev_zret rfl dX9_isTaken_58 (b2i_z _) (⟨rfl, rfl⟩)
    · omega --done
  | succ k ih =>
    intro e h0 h1
    have h16 := ht e h0 (by omega)
    have h14 := hi e h0 (by omega)
    refine ev_iload 7 dX9_isTaken_5 rfl rfl ?_
    refine ev_aload_n 8 dX9_isTaken_7 rfl rfl ?_
    refine ev_getI 11 2 fX9_74 rfl dX9_isTaken_8 rfl rfl rfl (by decide) rfl ?_
    refine ev_icmp_ge 14 57 dX9_isTaken_11 rfl rfl (by omega) (by omega) (fun c11 => ?_) (fun c11 => ?_)
    · omega --done
    · refine ev_iload_n 15 dX9_isTaken_14 rfl rfl ?_
      refine ev_if_ne 18 45 dX9_isTaken_15 rfl rfl (b2i_r _) (fun c15 => ?_) (fun c15 => ?_)
      · have hb : b2i (anyB (tkB (h 14) (h 16) c to) (e + 1).toNat) = 1 := by
          rw [b2i_1, anyB_1 h0, Bool.or_eq_true]
          first | exact Or.inl (b2i_n.mp c15) | exact Or.inr (by unfold tkB; simp [c21, c31, c42])
        have K := ih (e + 1) (by omega) (by omega)
        rw [hb] at K
        refine ev_iconst 46 dX9_isTaken_45 rfl ?_
        refine ev_goto 50 dX9_isTaken_46 rfl ?_
        refine ev_istore_n 51 dX9_isTaken_50 rfl (Nat.le_of_ble_eq_true rfl) ?_
        refine ev_iinc 54 dX9_isTaken_51 rfl rfl ?_
        refine ev_goto 5 dX9_isTaken_54 rfl ?_
        exact K
      · refine ev_iload 20 dX9_isTaken_18 rfl rfl ?_
        refine ev_iload_n 21 dX9_isTaken_20 rfl rfl ?_
        refine ev_icmp_eq 24 49 dX9_isTaken_21 rfl rfl (by omega) (by omega) (fun c21 => ?_) (fun c21 => ?_)
        · have hb : b2i (anyB (tkB (h 14) (h 16) c to) (e + 1).toNat) = 0 := by
            rw [b2i_0, anyB_1 h0, Bool.or_eq_false_iff]
            refine ⟨b2i_0.mp c15, ?_⟩
            unfold tkB
            first | (simp [c21]; done) | (simp [c31]; done) | (simp [c42]; done)
          have K := ih (e + 1) (by omega) (by omega)
          rw [hb] at K
          refine ev_iconst 50 dX9_isTaken_49 rfl ?_
          refine ev_istore_n 51 dX9_isTaken_50 rfl (Nat.le_of_ble_eq_true rfl) ?_
          refine ev_iinc 54 dX9_isTaken_51 rfl rfl ?_
          refine ev_goto 5 dX9_isTaken_54 rfl ?_
          exact K
        · refine ev_aload_n 25 dX9_isTaken_24 rfl rfl ?_
          refine ev_getR 28 fX9_56 rfl dX9_isTaken_25 rfl rfl rfl ?_
          refine ev_iload 30 dX9_isTaken_28 rfl rfl ?_
          refine ev_iald 31 dX9_isTaken_30 rfl rfl (by decide) (by omega) ?_
          refine ev_if_ne 34 49 dX9_isTaken_31 rfl rfl (by omega) (fun c31 => ?_) (fun c31 => ?_)
          · have hb : b2i (anyB (tkB (h 14) (h 16) c to) (e + 1).toNat) = 0 := by
              rw [b2i_0, anyB_1 h0, Bool.or_eq_false_iff]
              refine ⟨b2i_0.mp c15, ?_⟩
              unfold tkB
              first | (simp [c21]; done) | (simp [c31]; done) | (simp [c42]; done)
            have K := ih (e + 1) (by omega) (by omega)
            rw [hb] at K
            refine ev_iconst 50 dX9_isTaken_49 rfl ?_
            refine ev_istore_n 51 dX9_isTaken_50 rfl (Nat.le_of_ble_eq_true rfl) ?_
            refine ev_iinc 54 dX9_isTaken_51 rfl rfl ?_
            refine ev_goto 5 dX9_isTaken_54 rfl ?_
            exact K
          · refine ev_aload_n 35 dX9_isTaken_34 rfl rfl ?_
            refine ev_getR 38 fX9_50 rfl dX9_isTaken_35 rfl rfl rfl ?_
            refine ev_iload 40 dX9_isTaken_38 rfl rfl ?_
            refine ev_iald 41 dX9_isTaken_40 rfl rfl (by decide) (by omega) ?_
            refine ev_iload_n 42 dX9_isTaken_41 rfl rfl ?_
            refine ev_icmp_ne 45 49 dX9_isTaken_42 rfl rfl (by omega) (by omega) (fun c42 => ?_) (fun c42 => ?_)
            · have hb : b2i (anyB (tkB (h 14) (h 16) c to) (e + 1).toNat) = 0 := by
                rw [b2i_0, anyB_1 h0, Bool.or_eq_false_iff]
                refine ⟨b2i_0.mp c15, ?_⟩
                unfold tkB
                first | (simp [c21]; done) | (simp [c31]; done) | (simp [c42]; done)
              have K := ih (e + 1) (by omega) (by omega)
              rw [hb] at K
              refine ev_iconst 50 dX9_isTaken_49 rfl ?_
              refine ev_istore_n 51 dX9_isTaken_50 rfl (Nat.le_of_ble_eq_true rfl) ?_
              refine ev_iinc 54 dX9_isTaken_51 rfl rfl ?_
              refine ev_goto 5 dX9_isTaken_54 rfl ?_
              exact K
            · have hb : b2i (anyB (tkB (h 14) (h 16) c to) (e + 1).toNat) = 1 := by
                rw [b2i_1, anyB_1 h0, Bool.or_eq_true]
                first | exact Or.inl (b2i_n.mp c15) | exact Or.inr (by unfold tkB; simp [c21, c31, c42])
              have K := ih (e + 1) (by omega) (by omega)
              rw [hb] at K
              refine ev_iconst 46 dX9_isTaken_45 rfl ?_
              refine ev_goto 50 dX9_isTaken_46 rfl ?_
              refine ev_istore_n 51 dX9_isTaken_50 rfl (Nat.le_of_ble_eq_true rfl) ?_
              refine ev_iinc 54 dX9_isTaken_51 rfl rfl ?_
              refine ev_goto 5 dX9_isTaken_54 rfl ?_
              exact K
theorem m_isTaken {h : Hp} {to c : Int} (hn : 0 ≤ h 0 2 ∧ h 0 2 ≤ 5) (hto : R32 to) (hc : R32 c) (ht : ∀ e, 0 ≤ e → e < h 0 2 → R32 (h 16 e)) (hi : ∀ e, 0 ≤ e → e < h 0 2 → R32 (h 14 e)) : Ev shM mX9_isTaken 0 [some (vr 0), some (vi to), some (vi c), none, none] [] h (RI fun x h' => x = b2i (anyB (tkB (h 14) (h 16) c to) (h 0 2).toNat) ∧ h = h') := by
  refine ev_iconst 1 dX9_isTaken_0 rfl ?_
  refine ev_istore_n 2 dX9_isTaken_1 rfl (Nat.le_of_ble_eq_true rfl) ?_
  refine ev_iconst 3 dX9_isTaken_2 rfl ?_
  refine ev_istore 5 dX9_isTaken_3 rfl (Nat.le_of_ble_eq_true rfl) ?_
  exact m_isTaken_loop hn hto hc ht hi (h 0 2).toNat 0 (by omega) (by omega)
section HR
variable {h : Hp} {ic pts tm plc f : Int → Int} {many v : Int}
theorem hR_14 : hput (hR h ic pts tm plc many) 14 f = hR h f pts tm plc many := hq_put
theorem hR_15 : hput (hR h ic pts tm plc many) 15 f = hR h ic f tm plc many := hq_put
theorem hR_16 : hput (hR h ic pts tm plc many) 16 f = hR h ic pts f plc many := hq_put
theorem hR_17 : hput (hR h ic pts tm plc many) 17 f = hR h ic pts tm f many := hq_put
theorem hR_0 : hput (hR h ic pts tm plc many) 0 (up ((hR h ic pts tm plc many) 0) 31 v) = hR h ic pts tm plc v := by
  refine hq_put.trans ?_
  show hq h [(0, up (up (h 0) 31 many) 31 v), (14, ic), (15, pts), (16, tm), (17, plc)] = _
  rw [up_up]
  rfl
theorem hR_e : hR h (h 14) (h 15) (h 16) (h 17) (h 0 31) = h := by
  refine hq_id (fun p hp => ?_)
  simp only [List.mem_cons, List.not_mem_nil, or_false] at hp
  rcases hp with rfl | rfl | rfl | rfl | rfl
  · exact up_id
  · rfl
  · rfl
  · rfl
  · rfl
end HR
/-- the model's cells of chairs that are not in are the race's -/
def MR (n : Int) (ic : Int → Int) (r : RS) : Prop := ∀ e, 0 ≤ e → e < n → (r.2.2.1 e = 0 → ic e = r.1 e) ∧ 0 ≤ ic e ∧ ic e ≤ 16
theorem blk_tk {cost ic : Int → Int} {cl n c here : Int} {r : RS} (hC : CP cost cl n) (hp : rPre cost cl n r c here) (hM : MR n ic r) (hlt : here + 1 < cl) : blk cost cl n r.1 c (here + 1) = (decide (cost (here + 1) = 6) && anyB (tkB ic r.2.2.1 c (here + 1)) n.toNat) := by
  unfold blk
  rw [decide_eq_true hlt, Bool.true_and]
  congr 1
  refine anyB_congr (fun e a b => ?_)
  unfold tkB
  by_cases q : e = c
  · rw [decide_eq_false (by simpa using q)]; rfl
  · congr 1
    have hk := hp.1 e a (by omega) q
    unfold okC at hk
    by_cases t : r.2.2.1 e = 0
    · rw [decide_eq_true t, Bool.true_and, (hM e a (by omega)).1 t]
    · rw [decide_eq_false t, Bool.false_and]
      exact decide_eq_false (by omega)
theorem m_goes_loop {h : Hp} (hC : CP (h 1) (h 0 0) (h 0 2)) {c m g : Int} (hc : 0 ≤ c ∧ c < h 0 2) (hm : 1 ≤ m ∧ m < 2147483648) : ∀ (k : Nat) (here : Int) (r : RS) (ic : Int → Int) (o : Option AV), h 0 0 - here = ((k + 1 : Nat) : Int) → rPre (h 1) (h 0 0) (h 0 2) r c here → MR (h 0 2) ic r → Ev shM mX9_goes 13 [some (vr 0), some (vi c), some (vi m), some (vi g), some (vi 1), o] [] (hR h ic r.2.1 r.2.2.1 r.2.2.2.1 r.2.2.2.2) (RV fun h' => ∃ ic', MR (h 0 2) ic' (mvF (h 1) (h 0 0) (h 0 2) (k + 1) c m here r) ∧ h' = hR h ic' (mvF (h 1) (h 0 0) (h 0 2) (k + 1) c m here r).2.1 (mvF (h 1) (h 0 0) (h 0 2) (k + 1) c m here r).2.2.1 (mvF (h 1) (h 0 0) (h 0 2) (k + 1) c m here r).2.2.2.1 (mvF (h 1) (h 0 0) (h 0 2) (k + 1) c m here r).2.2.2.2) := by
  intro k
  induction k with
  | zero =>
    intro here r ic o hk hp hM
    have hp0 := hp
    obtain ⟨cell, pts, tm, plc, many⟩ := r
    obtain ⟨h1, h2, h3, h4, h5, h6, h7, h8, h9⟩ := hp
    dsimp only at h1 h2 h3 h4 h5 h6 h7 h8 h9 hM ⊢
    have hic : ic c = here := ((hM c hc.1 hc.2).1 h7).trans h2
    have hcl : h 0 0 = here + 1 := by omega
    have hcs := hC.2.2.2.2 here h3 (by omega)
    have hC1 := hC.2.1
    have hC2 := hC.2.2.2.1
    rw [if_neg (by omega)] at h8
    have hcn := cntB_lt (p := inB (h 0 0) (cell, pts, tm, plc, many)) (k := (h 0 2).toNat) c hc.1 (by omega) (inB_f (by dsimp only; omega))
    have hcr := cntB_rng (inB (h 0 0) (cell, pts, tm, plc, many)) (h 0 2).toNat
    have hb : blk (h 1) (h 0 0) (h 0 2) cell c (here + 1) = false := by
      unfold blk
      rw [decide_eq_false (by omega)]
      rfl
    unfold mvF
    dsimp only
    rw [hb, if_neg (show ¬ (false = true) by decide)]
    refine ev_iload 15 dX9_goes_13 rfl rfl ?_
    refine ev_if_eq 18 186 dX9_goes_15 rfl rfl (by omega) (fun c15 => ?_) (fun c15 => ?_)
    · omega --done
    · refine ev_aload_n 19 dX9_goes_18 rfl rfl ?_
      refine ev_getR 22 fX9_53 rfl dX9_goes_19 rfl rfl rfl ?_
      refine ev_iload_n 23 dX9_goes_22 rfl rfl ?_
      refine ev_iald' 24 (pts c) dX9_goes_23 rfl rfl (by decide) (by omega) rfl ?_
      refine ev_aload_n 25 dX9_goes_24 rfl rfl ?_
      refine ev_getR 28 fX9_7 rfl dX9_goes_25 rfl rfl rfl ?_
      refine ev_aload_n 29 dX9_goes_28 rfl rfl ?_
      refine ev_getR 32 fX9_50 rfl dX9_goes_29 rfl rfl rfl ?_
      refine ev_iload_n 33 dX9_goes_32 rfl rfl ?_
      refine ev_iald' 34 (here) dX9_goes_33 rfl rfl (by decide) (by omega) hic ?_
      refine ev_iald' 35 (h 1 here) dX9_goes_34 rfl rfl (by decide) (by omega) rfl ?_
      refine ev_icmp_lt 38 186 dX9_goes_35 rfl rfl (by omega) (by omega) (fun c35 => ?_) (fun c35 => ?_)
      · rw [if_pos c35]
        exact ev_vret rfl dX9_goes_186 ⟨ic, hM, rfl⟩
      · rw [if_neg c35]
        refine ev_aload_n 39 dX9_goes_38 rfl rfl ?_
        refine ev_getR 42 fX9_50 rfl dX9_goes_39 rfl rfl rfl ?_
        refine ev_iload_n 43 dX9_goes_42 rfl rfl ?_
        refine ev_iald' 44 (here) dX9_goes_43 rfl rfl (by decide) (by omega) hic ?_
        refine ev_iconst 45 dX9_goes_44 rfl ?_
        refine ev_iadd 46 dX9_goes_45 rfl ?_
        refine ev_istore 48 dX9_goes_46 rfl (Nat.le_of_ble_eq_true rfl) ?_
        refine ev_iload 50 dX9_goes_48 rfl rfl ?_
        refine ev_aload_n 51 dX9_goes_50 rfl rfl ?_
        refine ev_getI' 54 0 (h 0 0) fX9_81 rfl dX9_goes_51 rfl rfl rfl (by decide) rfl rfl ?_
        refine ev_icmp_ne 57 110 dX9_goes_54 rfl rfl (by omega) (by omega) (fun c54 => ?_) (fun c54 => ?_)
        · omega --done
        · refine ev_aload_n 58 dX9_goes_57 rfl rfl ?_
          refine ev_getR 61 fX9_53 rfl dX9_goes_58 rfl rfl rfl ?_
          refine ev_iload_n 62 dX9_goes_61 rfl rfl ?_
          refine ev_dup2 63 dX9_goes_62 rfl ?_
          refine ev_iald' 64 (pts c) dX9_goes_63 rfl rfl (by decide) (by omega) rfl ?_
          refine ev_aload_n 65 dX9_goes_64 rfl rfl ?_
          refine ev_getR 68 fX9_7 rfl dX9_goes_65 rfl rfl rfl ?_
          refine ev_aload_n 69 dX9_goes_68 rfl rfl ?_
          refine ev_getR 72 fX9_50 rfl dX9_goes_69 rfl rfl rfl ?_
          refine ev_iload_n 73 dX9_goes_72 rfl rfl ?_
          refine ev_iald' 74 (here) dX9_goes_73 rfl rfl (by decide) (by omega) hic ?_
          refine ev_iald' 75 (h 1 here) dX9_goes_74 rfl rfl (by decide) (by omega) rfl ?_
          refine ev_isub 76 dX9_goes_75 rfl ?_
          refine ev_iast' 77 (hR h ic (up pts c (pts c - h 1 here)) tm plc many) dX9_goes_76 rfl rfl (by decide) (by omega) hR_15 ?_
          refine ev_aload_n 78 dX9_goes_77 rfl rfl ?_
          refine ev_getR 81 fX9_56 rfl dX9_goes_78 rfl rfl rfl ?_
          refine ev_iload_n 82 dX9_goes_81 rfl rfl ?_
          refine ev_iload_n 83 dX9_goes_82 rfl rfl ?_
          refine ev_iast' 84 (hR h ic (up pts c (pts c - h 1 here)) (up tm c m) plc many) dX9_goes_83 rfl rfl (by decide) (by omega) hR_16 ?_
          refine ev_aload_n 85 dX9_goes_84 rfl rfl ?_
          refine ev_getR 88 fX9_59 rfl dX9_goes_85 rfl rfl rfl ?_
          refine ev_aload_n 89 dX9_goes_88 rfl rfl ?_
          refine ev_getI' 92 31 (many) fX9_162 rfl dX9_goes_89 rfl rfl rfl (by decide) rfl rfl ?_
          refine ev_iload_n 93 dX9_goes_92 rfl rfl ?_
          refine ev_iast' 94 (hR h ic (up pts c (pts c - h 1 here)) (up tm c m) (up plc many c) many) dX9_goes_93 rfl rfl (by decide) (by omega) hR_17 ?_
          refine ev_aload_n 95 dX9_goes_94 rfl rfl ?_
          refine ev_dup_r 96 dX9_goes_95 rfl ?_
          refine ev_getI' 99 31 (many) fX9_162 rfl dX9_goes_96 rfl rfl rfl (by decide) rfl rfl ?_
          refine ev_iconst 100 dX9_goes_99 rfl ?_
          refine ev_iadd 101 dX9_goes_100 rfl ?_
          refine ev_putI' 104 31 (hR h ic (up pts c (pts c - h 1 here)) (up tm c m) (up plc many c) (many + 1)) pX9_162 rfl dX9_goes_101 rfl rfl rfl rfl hR_0 ?_
          refine ev_iconst 105 dX9_goes_104 rfl ?_
          refine ev_istore 107 dX9_goes_105 rfl (Nat.le_of_ble_eq_true rfl) ?_
          refine ev_goto 183 dX9_goes_107 rfl ?_
          refine ev_goto 13 dX9_goes_183 rfl ?_
          refine ev_iload 15 dX9_goes_13 rfl rfl ?_
          refine ev_if_eq 18 186 dX9_goes_15 rfl rfl (by omega) (fun _ => ?_) (fun w => absurd rfl w)
          refine ev_vret rfl dX9_goes_186 ⟨ic, fun e a b => ⟨fun t => ?_, (hM e a b).2⟩, rfl⟩
          have q : e ≠ c := fun q => by subst q; have t : up tm e m e = 0 := t; rw [up_s] at t; omega
          have t : up tm c m e = 0 := t
          rw [up_n q] at t
          exact ((hM e a b).1 t).trans (up_n q).symm
  | succ k ih =>
    intro here r ic o hk hp hM
    have hp0 := hp
    obtain ⟨cell, pts, tm, plc, many⟩ := r
    have hbt := blk_tk hC hp hM (by omega)
    obtain ⟨h1, h2, h3, h4, h5, h6, h7, h8, h9⟩ := hp
    dsimp only at h1 h2 h3 h4 h5 h6 h7 h8 h9 hM hbt ⊢
    have hic : ic c = here := ((hM c hc.1 hc.2).1 h7).trans h2
    have hcs := hC.2.2.2.2 here h3 (by omega)
    have hcs2 := hC.2.2.2.2 (here + 1) (by omega) (by omega)
    have hC1 := hC.2.1
    have hC2 := hC.2.2.2.1
    have hr16 : ∀ e, 0 ≤ e → e < h 0 2 → R32 (tm e) := fun e a b => by
      by_cases q : e = c
      · subst q; omega
      · have := h1 e a b q; unfold okC at this; dsimp only at this; omega
    unfold mvF
    dsimp only
    rw [hbt]
    refine ev_iload 15 dX9_goes_13 rfl rfl ?_
    refine ev_if_eq 18 186 dX9_goes_15 rfl rfl (by omega) (fun c15 => ?_) (fun c15 => ?_)
    · omega --done
    · refine ev_aload_n 19 dX9_goes_18 rfl rfl ?_
      refine ev_getR 22 fX9_53 rfl dX9_goes_19 rfl rfl rfl ?_
      refine ev_iload_n 23 dX9_goes_22 rfl rfl ?_
      refine ev_iald' 24 (pts c) dX9_goes_23 rfl rfl (by decide) (by omega) rfl ?_
      refine ev_aload_n 25 dX9_goes_24 rfl rfl ?_
      refine ev_getR 28 fX9_7 rfl dX9_goes_25 rfl rfl rfl ?_
      refine ev_aload_n 29 dX9_goes_28 rfl rfl ?_
      refine ev_getR 32 fX9_50 rfl dX9_goes_29 rfl rfl rfl ?_
      refine ev_iload_n 33 dX9_goes_32 rfl rfl ?_
      refine ev_iald' 34 (here) dX9_goes_33 rfl rfl (by decide) (by omega) hic ?_
      refine ev_iald' 35 (h 1 here) dX9_goes_34 rfl rfl (by decide) (by omega) rfl ?_
      refine ev_icmp_lt 38 186 dX9_goes_35 rfl rfl (by omega) (by omega) (fun c35 => ?_) (fun c35 => ?_)
      · rw [if_pos c35]
        exact ev_vret rfl dX9_goes_186 ⟨ic, hM, rfl⟩
      · rw [if_neg c35]
        refine ev_aload_n 39 dX9_goes_38 rfl rfl ?_
        refine ev_getR 42 fX9_50 rfl dX9_goes_39 rfl rfl rfl ?_
        refine ev_iload_n 43 dX9_goes_42 rfl rfl ?_
        refine ev_iald' 44 (here) dX9_goes_43 rfl rfl (by decide) (by omega) hic ?_
        refine ev_iconst 45 dX9_goes_44 rfl ?_
        refine ev_iadd 46 dX9_goes_45 rfl ?_
        refine ev_istore 48 dX9_goes_46 rfl (Nat.le_of_ble_eq_true rfl) ?_
        refine ev_iload 50 dX9_goes_48 rfl rfl ?_
        refine ev_aload_n 51 dX9_goes_50 rfl rfl ?_
        refine ev_getI' 54 0 (h 0 0) fX9_81 rfl dX9_goes_51 rfl rfl rfl (by decide) rfl rfl ?_
        refine ev_icmp_ne 57 110 dX9_goes_54 rfl rfl (by omega) (by omega) (fun c54 => ?_) (fun c54 => ?_)
        · refine ev_aload_n 111 dX9_goes_110 rfl rfl ?_
          refine ev_getR 114 fX9_7 rfl dX9_goes_111 rfl rfl rfl ?_
          refine ev_iload 116 dX9_goes_114 rfl rfl ?_
          refine ev_iald' 117 (h 1 (here + 1)) dX9_goes_116 rfl rfl (by decide) (by omega) rfl ?_
          refine ev_bipush 119 dX9_goes_117 rfl (by decide +kernel) ?_
          refine ev_icmp_ne 122 155 dX9_goes_119 rfl rfl (by omega) (by omega) (fun c119 => ?_) (fun c119 => ?_)
          · rw [decide_eq_false c119, Bool.false_and, if_neg (show ¬ (false = true) by decide)]
            refine ev_aload_n 156 dX9_goes_155 rfl rfl ?_
            refine ev_getR 159 fX9_53 rfl dX9_goes_156 rfl rfl rfl ?_
            refine ev_iload_n 160 dX9_goes_159 rfl rfl ?_
            refine ev_dup2 161 dX9_goes_160 rfl ?_
            refine ev_iald' 162 (pts c) dX9_goes_161 rfl rfl (by decide) (by omega) rfl ?_
            refine ev_aload_n 163 dX9_goes_162 rfl rfl ?_
            refine ev_getR 166 fX9_7 rfl dX9_goes_163 rfl rfl rfl ?_
            refine ev_aload_n 167 dX9_goes_166 rfl rfl ?_
            refine ev_getR 170 fX9_50 rfl dX9_goes_167 rfl rfl rfl ?_
            refine ev_iload_n 171 dX9_goes_170 rfl rfl ?_
            refine ev_iald' 172 (here) dX9_goes_171 rfl rfl (by decide) (by omega) hic ?_
            refine ev_iald' 173 (h 1 here) dX9_goes_172 rfl rfl (by decide) (by omega) rfl ?_
            refine ev_isub 174 dX9_goes_173 rfl ?_
            refine ev_iast' 175 (hR h ic (up pts c (pts c - h 1 here)) tm plc many) dX9_goes_174 rfl rfl (by decide) (by omega) hR_15 ?_
            refine ev_aload_n 176 dX9_goes_175 rfl rfl ?_
            refine ev_getR 179 fX9_50 rfl dX9_goes_176 rfl rfl rfl ?_
            refine ev_iload_n 180 dX9_goes_179 rfl rfl ?_
            refine ev_iload 182 dX9_goes_180 rfl rfl ?_
            refine ev_iast' 183 (hR h (up ic c (here + 1)) (up pts c (pts c - h 1 here)) tm plc many) dX9_goes_182 rfl rfl (by decide) (by omega) hR_14 ?_
            refine ev_goto 13 dX9_goes_183 rfl ?_
            refine ih (here + 1) (up cell c (here + 1), up pts c (pts c - h 1 here), tm, plc, many) (up ic c (here + 1)) _ (by omega) ⟨fun e a b q => okC_up (h1 e a b q) (up_n q) (up_n q) rfl, up_s, by omega, by omega, ?_, ?_, h7, ?_, h9⟩ (fun e a b => ?_)
            · dsimp only; rw [up_s]; omega
            · dsimp only; rw [up_s]; omega
            · dsimp only
              rw [if_neg (by omega), cntB_congr (q := inB (h 0 0) (cell, pts, tm, plc, many)) (fun e a b => ?_)]
              · rw [if_neg (by omega)] at h8; exact h8
              · by_cases d : e = c
                · subst d
                  rw [inB_f (r := (cell, pts, tm, plc, many)) (by dsimp only; omega)]
                  exact inB_f (fun w => by have w : up cell e (here + 1) e = h 0 0 := w; rw [up_s] at w; omega)
                · exact inB_c (up_n d)
            · dsimp only
              by_cases q : e = c
              · subst q; rw [up_s, up_s]; omega
              · rw [up_n q, up_n q]; exact hM e a b
          · rw [decide_eq_true c119, Bool.true_and]
            refine ev_aload_n 123 dX9_goes_122 rfl rfl ?_
            refine ev_iload 125 dX9_goes_123 rfl rfl ?_
            refine ev_iload_n 126 dX9_goes_125 rfl rfl ?_
            refine cVi2 129 kX9_goes_165 dX9_goes_126 rfl rfl rfl rfl rfl (by decide) rfl (Nat.le_of_ble_eq_true rfl) (m_isTaken (h := hR h ic pts tm plc many) ⟨by show 0 ≤ h 0 2; omega, by show h 0 2 ≤ 5; omega⟩ ⟨by omega, by omega⟩ ⟨by omega, by omega⟩ hr16 (fun e a b => ⟨by have := (hM e a b).2; show _ ≤ ic e; omega, by have := (hM e a b).2; show ic e < _; omega⟩)) ?_
            rintro x _ ⟨e126, rfl⟩
            rw [show x = b2i (anyB (tkB ic tm c (here + 1)) (h 0 2).toNat) from e126]
            refine ev_if_eq 132 155 dX9_goes_129 rfl rfl (b2i_r _) (fun c129 => ?_) (fun c129 => ?_)
            · rw [b2i_0.mp c129, if_neg (show ¬ (false = true) by decide)]
              refine ev_aload_n 156 dX9_goes_155 rfl rfl ?_
              refine ev_getR 159 fX9_53 rfl dX9_goes_156 rfl rfl rfl ?_
              refine ev_iload_n 160 dX9_goes_159 rfl rfl ?_
              refine ev_dup2 161 dX9_goes_160 rfl ?_
              refine ev_iald' 162 (pts c) dX9_goes_161 rfl rfl (by decide) (by omega) rfl ?_
              refine ev_aload_n 163 dX9_goes_162 rfl rfl ?_
              refine ev_getR 166 fX9_7 rfl dX9_goes_163 rfl rfl rfl ?_
              refine ev_aload_n 167 dX9_goes_166 rfl rfl ?_
              refine ev_getR 170 fX9_50 rfl dX9_goes_167 rfl rfl rfl ?_
              refine ev_iload_n 171 dX9_goes_170 rfl rfl ?_
              refine ev_iald' 172 (here) dX9_goes_171 rfl rfl (by decide) (by omega) hic ?_
              refine ev_iald' 173 (h 1 here) dX9_goes_172 rfl rfl (by decide) (by omega) rfl ?_
              refine ev_isub 174 dX9_goes_173 rfl ?_
              refine ev_iast' 175 (hR h ic (up pts c (pts c - h 1 here)) tm plc many) dX9_goes_174 rfl rfl (by decide) (by omega) hR_15 ?_
              refine ev_aload_n 176 dX9_goes_175 rfl rfl ?_
              refine ev_getR 179 fX9_50 rfl dX9_goes_176 rfl rfl rfl ?_
              refine ev_iload_n 180 dX9_goes_179 rfl rfl ?_
              refine ev_iload 182 dX9_goes_180 rfl rfl ?_
              refine ev_iast' 183 (hR h (up ic c (here + 1)) (up pts c (pts c - h 1 here)) tm plc many) dX9_goes_182 rfl rfl (by decide) (by omega) hR_14 ?_
              refine ev_goto 13 dX9_goes_183 rfl ?_
              refine ih (here + 1) (up cell c (here + 1), up pts c (pts c - h 1 here), tm, plc, many) (up ic c (here + 1)) _ (by omega) ⟨fun e a b q => okC_up (h1 e a b q) (up_n q) (up_n q) rfl, up_s, by omega, by omega, ?_, ?_, h7, ?_, h9⟩ (fun e a b => ?_)
              · dsimp only; rw [up_s]; omega
              · dsimp only; rw [up_s]; omega
              · dsimp only
                rw [if_neg (by omega), cntB_congr (q := inB (h 0 0) (cell, pts, tm, plc, many)) (fun e a b => ?_)]
                · rw [if_neg (by omega)] at h8; exact h8
                · by_cases d : e = c
                  · subst d
                    rw [inB_f (r := (cell, pts, tm, plc, many)) (by dsimp only; omega)]
                    exact inB_f (fun w => by have w : up cell e (here + 1) e = h 0 0 := w; rw [up_s] at w; omega)
                  · exact inB_c (up_n d)
              · dsimp only
                by_cases q : e = c
                · subst q; rw [up_s, up_s]; omega
                · rw [up_n q, up_n q]; exact hM e a b
            · rw [b2i_n.mp c129, if_pos rfl]
              refine ev_aload_n 133 dX9_goes_132 rfl rfl ?_
              refine ev_getR 136 fX9_53 rfl dX9_goes_133 rfl rfl rfl ?_
              refine ev_iload_n 137 dX9_goes_136 rfl rfl ?_
              refine ev_aload_n 138 dX9_goes_137 rfl rfl ?_
              refine ev_getR 141 fX9_7 rfl dX9_goes_138 rfl rfl rfl ?_
              refine ev_aload_n 142 dX9_goes_141 rfl rfl ?_
              refine ev_getR 145 fX9_50 rfl dX9_goes_142 rfl rfl rfl ?_
              refine ev_iload_n 146 dX9_goes_145 rfl rfl ?_
              refine ev_iald' 147 (here) dX9_goes_146 rfl rfl (by decide) (by omega) hic ?_
              refine ev_iald' 148 (h 1 here) dX9_goes_147 rfl rfl (by decide) (by omega) rfl ?_
              refine ev_iast' 149 (hR h ic (up pts c (h 1 here)) tm plc many) dX9_goes_148 rfl rfl (by decide) (by omega) hR_15 ?_
              refine ev_iconst 150 dX9_goes_149 rfl ?_
              refine ev_istore 152 dX9_goes_150 rfl (Nat.le_of_ble_eq_true rfl) ?_
              refine ev_goto 183 dX9_goes_152 rfl ?_
              refine ev_goto 13 dX9_goes_183 rfl ?_
              refine ev_iload 15 dX9_goes_13 rfl rfl ?_
              refine ev_if_eq 18 186 dX9_goes_15 rfl rfl (by omega) (fun _ => ?_) (fun w => absurd rfl w)
              exact ev_vret rfl dX9_goes_186 ⟨ic, hM, rfl⟩
        · omega --done
theorem m_goes {h : Hp} (hC : CP (h 1) (h 0 0) (h 0 2)) {c m g : Int} (hc : 0 ≤ c ∧ c < h 0 2) (hm : 1 ≤ m ∧ m < 2147483648) (hg : 1 ≤ g ∧ g ≤ 20) {r : RS} {ic : Int → Int} (hr : rOK (h 1) (h 0 0) (h 0 2) r) (hin : r.1 c < h 0 0) (hM : MR (h 0 2) ic r) : Ev shM mX9_goes 0 [some (vr 0), some (vi c), some (vi m), some (vi g), none, none] [] (hR h ic r.2.1 r.2.2.1 r.2.2.2.1 r.2.2.2.2) (RV fun h' => ∃ ic', MR (h 0 2) ic' (moveF (h 1) (h 0 0) (h 0 2) c m g r) ∧ h' = hR h ic' (moveF (h 1) (h 0 0) (h 0 2) c m g r).2.1 (moveF (h 1) (h 0 0) (h 0 2) c m g r).2.2.1 (moveF (h 1) (h 0 0) (h 0 2) c m g r).2.2.2.1 (moveF (h 1) (h 0 0) (h 0 2) c m g r).2.2.2.2) := by
  obtain ⟨hp, -⟩ := move_ok hC hc hm hg hr hin
  have hC1 := hC.2.1
  have hk := hr.1 c hc.1 hc.2
  unfold okC at hk
  have hpts := hk.2.2.1
  obtain ⟨k, hk2⟩ : ∃ k : Nat, (h 0 0 - r.1 c).toNat = k + 1 := ⟨(h 0 0 - r.1 c).toNat - 1, by omega⟩
  have K := m_goes_loop hC (g := g) hc hm k (r.1 c) (r.1, up r.2.1 c (r.2.1 c + g), r.2.2) ic none (by omega) hp hM
  unfold moveF
  rw [hk2]
  refine ev_aload_n 1 dX9_goes_0 rfl rfl ?_
  refine ev_getR 4 fX9_53 rfl dX9_goes_1 rfl rfl rfl ?_
  refine ev_iload_n 5 dX9_goes_4 rfl rfl ?_
  refine ev_dup2 6 dX9_goes_5 rfl ?_
  refine ev_iald' 7 (r.2.1 c) dX9_goes_6 rfl rfl (by decide) (by omega) rfl ?_
  refine ev_iload_n 8 dX9_goes_7 rfl rfl ?_
  refine ev_iadd 9 dX9_goes_8 rfl ?_
  refine ev_iast' 10 (hR h ic (up r.2.1 c (r.2.1 c + g)) r.2.2.1 r.2.2.2.1 r.2.2.2.2) dX9_goes_9 rfl rfl (by decide) (by omega) hR_15 ?_
  refine ev_iconst 11 dX9_goes_10 rfl ?_
  refine ev_istore 13 dX9_goes_11 rfl (Nat.le_of_ble_eq_true rfl) ?_
  exact K
end
section
theorem MW_R {h : Hp} {ic pts tm plc : Int → Int} {many : Int} (hW : MW h) : MW (hR h ic pts tm plc many) := hW
theorem NW_R {h : Hp} {ic pts tm plc : Int → Int} {many : Int} (hN : NW (h 0 2) (h 13)) : NW ((hR h ic pts tm plc many) 0 2) ((hR h ic pts tm plc many) 13) := hN
def zf (f : Int → Int) (n : Int) : Int → Int := fun e => if 0 ≤ e ∧ e < n then 0 else f e
theorem zf_0 {f : Int → Int} : zf f 0 = f := by
  funext e
  unfold zf
  rw [if_neg (by omega)]
theorem zf_1 {f : Int → Int} {n : Int} (h : 0 ≤ n) : up (zf f n) n 0 = zf f (n + 1) := by
  funext e
  unfold zf up
  by_cases q : e = n
  · rw [if_pos q, if_pos (by omega)]
  · rw [if_neg q]
    show (if 0 ≤ e ∧ e < n then 0 else f e) = _
    by_cases q2 : 0 ≤ e ∧ e < n
    · rw [if_pos q2, if_pos (by omega)]
    · rw [if_neg q2, if_neg (by omega)]
theorem zf_z {f : Int → Int} {n e : Int} (h : 0 ≤ e) (h2 : e < n) : zf f n e = 0 := if_pos ⟨h, h2⟩
def rZ (f1 f2 f3 f4 : Int → Int) (n : Int) : RS := (zf f1 n, zf f2 n, zf f3 n, f4, 0)
theorem rZ_ok {cost : Int → Int} {cl n : Int} (hC : CP cost cl n) {f1 f2 f3 f4 : Int → Int} : rOK cost cl n (rZ f1 f2 f3 f4 n) := by
  have h0 := hC.2.2.1
  refine ⟨fun c a b => ?_, ?_, fun k a b => ?_⟩
  · have := hC.2.2.2.2 0 (by omega) h0
    unfold okC rZ
    dsimp only
    rw [zf_z a b, zf_z a b, zf_z a b]
    omega
  · show (0 : Int) = cntB (inB cl (rZ f1 f2 f3 f4 n)) n.toNat
    have hz : ∀ k : Nat, (k : Int) ≤ n → cntB (inB cl (rZ f1 f2 f3 f4 n)) k = 0 := by
      intro k
      induction k with
      | zero => intro _; rfl
      | succ k ih =>
        intro hk
        unfold cntB
        rw [ih (by omega), inB_f (by show ¬ zf f1 n k = cl; rw [zf_z (by omega) (by omega)]; omega)]
        rfl
    rw [hz _ (by have := hC.1; omega)]
  · have b : k < 0 := b
    omega
section MRC
variable {h : Hp} (hW : MW h) (hN : NW (h 0 2) (h 13)) {ill : Int} (hi : 0 ≤ ill ∧ ill < 32)
theorem m_races_in {post : Option AV → Hp → Prop} (hW : MW h) (hN : NW (h 0 2) (h 13)) (hi : 0 ≤ ill ∧ ill < 32) {m : Int} (hm : 1 ≤ m ∧ m < 2147483648) : ∀ (k : Nat) (c : Int) (r : RS) (ic : Int → Int), 0 ≤ c → c + k = h 0 2 → rOK (h 1) (h 0 0) (h 0 2) r → MR (h 0 2) ic r →
    (∀ ic', MR (h 0 2) ic' (minF (h 1) (h 0 0) (h 0 2) (fun c => h 13 (5 + c)) (mGain h ill) k c m r) → Ev shM mX9_races 104 [some (vr 0), some (vi ill), some (vi m), some (vi (h 0 2))] [] (hR h ic' (minF (h 1) (h 0 0) (h 0 2) (fun c => h 13 (5 + c)) (mGain h ill) k c m r).2.1 (minF (h 1) (h 0 0) (h 0 2) (fun c => h 13 (5 + c)) (mGain h ill) k c m r).2.2.1 (minF (h 1) (h 0 0) (h 0 2) (fun c => h 13 (5 + c)) (mGain h ill) k c m r).2.2.2.1 (minF (h 1) (h 0 0) (h 0 2) (fun c => h 13 (5 + c)) (mGain h ill) k c m r).2.2.2.2) post) →
    Ev shM mX9_races 57 [some (vr 0), some (vi ill), some (vi m), some (vi c)] [] (hR h ic r.2.1 r.2.2.1 r.2.2.2.1 r.2.2.2.2) post := by
  intro k
  induction k with
  | zero =>
    intro c r ic h0 h1 hr hM K
    have he : c = h 0 2 := by omega
    subst he
    have hn := hW.1.2.1
    refine ev_iload_n 58 dX9_races_57 rfl rfl ?_
    refine ev_aload_n 59 dX9_races_58 rfl rfl ?_
    refine ev_getI' 62 2 (h 0 2) fX9_74 rfl dX9_races_59 rfl rfl rfl (by decide) rfl rfl ?_
    refine ev_icmp_ge 65 104 dX9_races_62 rfl rfl (by omega) (by omega) (fun c62 => ?_) (fun c62 => ?_)
    · exact K ic hM
    · omega --done
  | succ k ih =>
    intro c r ic h0 h1 hr hM K
    have hn := hW.1.2.1
    have hk := hr.1 c h0 (by omega)
    unfold okC at hk
    have hnc := hN.1 c h0 (by omega)
    unfold minF at K
    refine ev_iload_n 58 dX9_races_57 rfl rfl ?_
    refine ev_aload_n 59 dX9_races_58 rfl rfl ?_
    refine ev_getI' 62 2 (h 0 2) fX9_74 rfl dX9_races_59 rfl rfl rfl (by decide) rfl rfl ?_
    refine ev_icmp_ge 65 104 dX9_races_62 rfl rfl (by omega) (by omega) (fun c62 => ?_) (fun c62 => ?_)
    · omega --done
    · refine ev_aload_n 66 dX9_races_65 rfl rfl ?_
      refine ev_getR 69 fX9_56 rfl dX9_races_66 rfl rfl rfl ?_
      refine ev_iload_n 70 dX9_races_69 rfl rfl ?_
      refine ev_iald' 71 (r.2.2.1 c) dX9_races_70 rfl rfl (by decide) (by omega) rfl ?_
      refine ev_if_ne 74 98 dX9_races_71 rfl rfl (by omega) (fun c71 => ?_) (fun c71 => ?_)
      · rw [if_neg (by omega)] at K
        refine ev_iinc 101 dX9_races_98 rfl rfl ?_
        refine ev_goto 57 dX9_races_101 rfl ?_
        exact ih (c + 1) r ic (by omega) (by omega) hr hM K --done
      · refine ev_aload_n 75 dX9_races_74 rfl rfl ?_
        refine ev_getR 78 fX9_47 rfl dX9_races_75 rfl rfl rfl ?_
        refine ev_iconst 79 dX9_races_78 rfl ?_
        refine ev_iload_n 80 dX9_races_79 rfl rfl ?_
        refine ev_iadd 81 dX9_races_80 rfl ?_
        refine ev_iald' 82 (h 13 (5 + c)) dX9_races_81 rfl rfl (by decide) (by omega) rfl ?_
        refine ev_iload_n 83 dX9_races_82 rfl rfl ?_
        refine ev_icmp_ge 86 98 dX9_races_83 rfl rfl (by omega) (by omega) (fun c83 => ?_) (fun c83 => ?_)
        · rw [if_neg (by omega)] at K
          refine ev_iinc 101 dX9_races_98 rfl rfl ?_
          refine ev_goto 57 dX9_races_101 rfl ?_
          exact ih (c + 1) r ic (by omega) (by omega) hr hM K --done
        · rw [if_pos (by omega)] at K
          refine ev_aload_n 87 dX9_races_86 rfl rfl ?_
          refine ev_iload_n 88 dX9_races_87 rfl rfl ?_
          refine ev_iload_n 89 dX9_races_88 rfl rfl ?_
          refine ev_aload_n 90 dX9_races_89 rfl rfl ?_
          refine ev_iload_n 91 dX9_races_90 rfl rfl ?_
          refine ev_iload_n 92 dX9_races_91 rfl rfl ?_
          refine cVi2 95 kX9_races_168 dX9_races_92 rfl rfl rfl rfl rfl (by decide) rfl (Nat.le_of_ble_eq_true rfl) (m_gainOf (MW_R hW).1.2.1 (MW_R hW).2 (NW_R hN) hi ⟨h0, by show c < h 0 2; omega⟩) ?_
          rintro x _ ⟨e92, rfl⟩
          rw [show x = mGain h ill c from e92]
          refine cVv3 98 kX9_races_171 dX9_races_95 rfl rfl rfl rfl rfl (by decide) rfl (Nat.le_of_ble_eq_true rfl) (m_goes hW.1 ⟨h0, by omega⟩ hm (mGain_r hW hN ill ⟨h0, by omega⟩) hr (by omega) hM) ?_
          rintro _ ⟨ic', hM', rfl⟩
          refine ev_iinc 101 dX9_races_98 rfl rfl ?_
          refine ev_goto 57 dX9_races_101 rfl ?_
          exact ih (c + 1) _ ic' (by omega) (by omega) (move_ok hW.1 ⟨h0, by omega⟩ hm (mGain_r hW hN ill ⟨h0, by omega⟩) hr (by omega)).2 hM' K
theorem m_races_out (hW : MW h) (hN : NW (h 0 2) (h 13)) (hi : 0 ≤ ill ∧ ill < 32) : ∀ (k : Nat) (m : Int) (r : RS) (ic : Int → Int) (o : Option AV), 1 ≤ m → m + k < 2147483648 → rOK (h 1) (h 0 0) (h 0 2) r → MR (h 0 2) ic r → h 0 2 ≤ (raceF (h 1) (h 0 0) (h 0 2) (fun c => h 13 (5 + c)) (mGain h ill) k m (h 0 2) r).2.2.2.2 → Ev shM mX9_races 44 [some (vr 0), some (vi ill), some (vi m), o] [] (hR h ic r.2.1 r.2.2.1 r.2.2.2.1 r.2.2.2.2) (RV fun h' => ∃ ic' r', r' = raceF (h 1) (h 0 0) (h 0 2) (fun c => h 13 (5 + c)) (mGain h ill) k m (h 0 2) r ∧ h' = hR h ic' r'.2.1 r'.2.2.1 r'.2.2.2.1 r'.2.2.2.2) := by
  intro k
  induction k with
  | zero =>
    intro m r ic o h1 h2 hr hM hE
    have hE : h 0 2 ≤ r.2.2.2.2 := hE
    have hn := hW.1.2.1
    have hn0 := hW.1.1
    have hmr := cntB_rng (inB (h 0 0) r) (h 0 2).toNat
    have hm2 := hr.2.1
    refine ev_aload_n 45 dX9_races_44 rfl rfl ?_
    refine ev_getI' 48 31 (r.2.2.2.2) fX9_162 rfl dX9_races_45 rfl rfl rfl (by decide) rfl rfl ?_
    refine ev_aload_n 49 dX9_races_48 rfl rfl ?_
    refine ev_getI' 52 2 (h 0 2) fX9_74 rfl dX9_races_49 rfl rfl rfl (by decide) rfl rfl ?_
    refine ev_icmp_ge 55 110 dX9_races_52 rfl rfl (by omega) (by omega) (fun c52 => ?_) (fun c52 => ?_)
    · exact ev_vret rfl dX9_races_110 (⟨ic, r, rfl, rfl⟩)
    · omega --done
  | succ k ih =>
    intro m r ic o h1 h2 hr hM hE
    have hn := hW.1.2.1
    have hn0 := hW.1.1
    have hmr := cntB_rng (inB (h 0 0) r) (h 0 2).toNat
    have hm2 := hr.2.1
    unfold raceF at hE ⊢
    refine ev_aload_n 45 dX9_races_44 rfl rfl ?_
    refine ev_getI' 48 31 (r.2.2.2.2) fX9_162 rfl dX9_races_45 rfl rfl rfl (by decide) rfl rfl ?_
    refine ev_aload_n 49 dX9_races_48 rfl rfl ?_
    refine ev_getI' 52 2 (h 0 2) fX9_74 rfl dX9_races_49 rfl rfl rfl (by decide) rfl rfl ?_
    refine ev_icmp_ge 55 110 dX9_races_52 rfl rfl (by omega) (by omega) (fun c52 => ?_) (fun c52 => ?_)
    · rw [if_neg (by omega)]
      exact ev_vret rfl dX9_races_110 (⟨ic, r, rfl, rfl⟩)
    · rw [if_pos (by omega)] at hE ⊢
      refine ev_iconst 56 dX9_races_55 rfl ?_
      refine ev_istore_n 57 dX9_races_56 rfl (Nat.le_of_ble_eq_true rfl) ?_
      refine m_races_in hW hN hi ⟨h1, by omega⟩ (h 0 2).toNat 0 r ic (Int.le_refl _) (by omega) hr hM (fun ic' hM' => ?_)
      refine ev_iinc 107 dX9_races_104 rfl rfl ?_
      refine ev_goto 44 dX9_races_107 rfl ?_
      exact ih (m + 1) _ ic' _ (by omega) (by omega) (min_ok hW.1 ⟨h1, by omega⟩ (fun c a b => mGain_r hW hN ill ⟨a, b⟩) _ _ _ (Int.le_refl _) (by omega) hr) hM' hE
theorem m_races_init (hn : 0 ≤ h 0 2 ∧ h 0 2 ≤ 5) {post : Option AV → Hp → Prop} : ∀ (k : Nat) (c : Int), 0 ≤ c → c + k = h 0 2 → Ev shM mX9_races 37 [some (vr 0), some (vi ill), some (vi (h 0 2)), none] [] (hR h (zf (h 14) (h 0 2)) (zf (h 15) (h 0 2)) (zf (h 16) (h 0 2)) (h 17) (h 0 31)) post → Ev shM mX9_races 2 [some (vr 0), some (vi ill), some (vi c), none] [] (hR h (zf (h 14) c) (zf (h 15) c) (zf (h 16) c) (h 17) (h 0 31)) post := by
  intro k
  induction k with
  | zero =>
    intro c h0 h1 K
    have he : c = h 0 2 := by omega
    subst he
    refine ev_iload_n 3 dX9_races_2 rfl rfl ?_
    refine ev_aload_n 4 dX9_races_3 rfl rfl ?_
    refine ev_getI' 7 2 (h 0 2) fX9_74 rfl dX9_races_4 rfl rfl rfl (by decide) rfl rfl ?_
    refine ev_icmp_ge 10 37 dX9_races_7 rfl rfl (by omega) (by omega) (fun c7 => ?_) (fun c7 => ?_)
    · exact K
    · omega --done
  | succ k ih =>
    intro c h0 h1 K
    refine ev_iload_n 3 dX9_races_2 rfl rfl ?_
    refine ev_aload_n 4 dX9_races_3 rfl rfl ?_
    refine ev_getI' 7 2 (h 0 2) fX9_74 rfl dX9_races_4 rfl rfl rfl (by decide) rfl rfl ?_
    refine ev_icmp_ge 10 37 dX9_races_7 rfl rfl (by omega) (by omega) (fun c7 => ?_) (fun c7 => ?_)
    · omega --done
    · refine ev_aload_n 11 dX9_races_10 rfl rfl ?_
      refine ev_getR 14 fX9_50 rfl dX9_races_11 rfl rfl rfl ?_
      refine ev_iload_n 15 dX9_races_14 rfl rfl ?_
      refine ev_iconst 16 dX9_races_15 rfl ?_
      refine ev_iast' 17 (hR h (up (zf (h 14) c) c 0) (zf (h 15) c) (zf (h 16) c) (h 17) (h 0 31)) dX9_races_16 rfl rfl (by decide) (by omega) hR_14 ?_
      refine ev_aload_n 18 dX9_races_17 rfl rfl ?_
      refine ev_getR 21 fX9_53 rfl dX9_races_18 rfl rfl rfl ?_
      refine ev_iload_n 22 dX9_races_21 rfl rfl ?_
      refine ev_iconst 23 dX9_races_22 rfl ?_
      refine ev_iast' 24 (hR h (up (zf (h 14) c) c 0) (up (zf (h 15) c) c 0) (zf (h 16) c) (h 17) (h 0 31)) dX9_races_23 rfl rfl (by decide) (by omega) hR_15 ?_
      refine ev_aload_n 25 dX9_races_24 rfl rfl ?_
      refine ev_getR 28 fX9_56 rfl dX9_races_25 rfl rfl rfl ?_
      refine ev_iload_n 29 dX9_races_28 rfl rfl ?_
      refine ev_iconst 30 dX9_races_29 rfl ?_
      refine ev_iast' 31 (hR h (up (zf (h 14) c) c 0) (up (zf (h 15) c) c 0) (up (zf (h 16) c) c 0) (h 17) (h 0 31)) dX9_races_30 rfl rfl (by decide) (by omega) hR_16 ?_
      rw [zf_1 h0, zf_1 h0, zf_1 h0]
      refine ev_iinc 34 dX9_races_31 rfl rfl ?_
      refine ev_goto 2 dX9_races_34 rfl ?_
      exact ih (c + 1) (by omega) (by omega) K
/-- the race as a value: from nothing, to w chairs in -/
def raceC (cost : Int → Int) (cl n : Int) (hand g : Int → Int) (w : Int) : RS := raceF cost cl n hand g 1000 1 w (fun _ => 0, fun _ => 0, fun _ => 0, fun _ => 0, 0)
theorem rZ_ag {f1 f2 f3 f4 : Int → Int} {n : Int} : rAg n (rZ f1 f2 f3 f4 n) (fun _ => 0, fun _ => 0, fun _ => 0, fun _ => 0, 0) := ⟨fun _ a b => zf_z a b, fun _ a b => zf_z a b, fun _ a b => zf_z a b, fun k a b => by have b : k < 0 := b; omega, rfl⟩
theorem raceZ_end {cost : Int → Int} {cl n : Int} (hC : CP cost cl n) {hand g : Int → Int} (hg : ∀ c, 0 ≤ c → c < n → 1 ≤ g c ∧ g c ≤ 20) (hh : ∀ c, 0 ≤ c → c < n → hand c ≤ 5) {w : Int} (hw : w ≤ n) {f1 f2 f3 f4 : Int → Int} : rOK cost cl n (raceF cost cl n hand g 1000 1 w (rZ f1 f2 f3 f4 n)) ∧ w ≤ (raceF cost cl n hand g 1000 1 w (rZ f1 f2 f3 f4 n)).2.2.2.2 :=
  race_end hC hg hh hw 1000 1 _ (by omega) (by omega) (rZ_ok hC) (fun q => by omega) (fun _ => by omega)
theorem m_races (hW : MW h) (hN : NW (h 0 2) (h 13)) (hi : 0 ≤ ill ∧ ill < 32) : Ev shM mX9_races 0 [some (vr 0), some (vi ill), none, none] [] h (RV fun h' => ∃ ic pts tm plc, h' = hR h ic pts tm plc (h 0 2) ∧ ag (h 0 2) tm (raceC (h 1) (h 0 0) (h 0 2) (fun c => h 13 (5 + c)) (mGain h ill) (h 0 2)).2.2.1 ∧ ag (h 0 2) plc (raceC (h 1) (h 0 0) (h 0 2) (fun c => h 13 (5 + c)) (mGain h ill) (h 0 2)).2.2.2.1) := by
  have hn := hW.1.2.1
  have hn0 := hW.1.1
  have hE := raceZ_end hW.1 (hand := fun c => h 13 (5 + c)) (g := mGain h ill) (fun c a b => mGain_r hW hN ill ⟨a, b⟩) (fun c a b => (hN.1 c a b).2.2.2) (Int.le_refl _) (f1 := h 14) (f2 := h 15) (f3 := h 16) (f4 := h 17)
  have hmr := cntB_rng (inB (h 0 0) (raceF (h 1) (h 0 0) (h 0 2) (fun c => h 13 (5 + c)) (mGain h ill) 1000 1 (h 0 2) (rZ (h 14) (h 15) (h 16) (h 17) (h 0 2)))) (h 0 2).toNat
  have hm2 := hE.1.2.1
  have hA := race_ag (w := h 0 2) (cost := h 1) (cl := h 0 0) (by omega) (ag_rf (n := h 0 2) (f := fun c => h 13 (5 + c))) (ag_rf (n := h 0 2) (f := mGain h ill)) 1000 1 _ _ (rZ_ag (f1 := h 14) (f2 := h 15) (f3 := h 16) (f4 := h 17) (n := h 0 2))
  have K2 := m_races_out hW hN hi 1000 1 (rZ (h 14) (h 15) (h 16) (h 17) (h 0 2)) (zf (h 14) (h 0 2)) none (by omega) (by omega) (rZ_ok hW.1) (fun e a b => ⟨fun _ => rfl, by rw [zf_z a b]; omega⟩) hE.2
  have K3 := ev_wk K2 (Q := RV fun h' => ∃ ic pts tm plc, h' = hR h ic pts tm plc (h 0 2) ∧ ag (h 0 2) tm (raceC (h 1) (h 0 0) (h 0 2) (fun c => h 13 (5 + c)) (mGain h ill) (h 0 2)).2.2.1 ∧ ag (h 0 2) plc (raceC (h 1) (h 0 0) (h 0 2) (fun c => h 13 (5 + c)) (mGain h ill) (h 0 2)).2.2.2.1) (by
    rintro v h' ⟨e1, ic', r', rfl, rfl⟩
    have e2 : (raceF (h 1) (h 0 0) (h 0 2) (fun c => h 13 (5 + c)) (mGain h ill) 1000 1 (h 0 2) (rZ (h 14) (h 15) (h 16) (h 17) (h 0 2))).2.2.2.2 = h 0 2 := by omega
    refine ⟨e1, ic', _, _, _, by rw [e2], hA.2.2.1, fun k a b => hA.2.2.2.1 k a (by omega)⟩)
  have K0 := m_races_init (ill := ill) ⟨by omega, hn⟩ (h 0 2).toNat 0 (Int.le_refl _) (by omega) (h := h) (post := RV fun h' => ∃ ic pts tm plc, h' = hR h ic pts tm plc (h 0 2) ∧ ag (h 0 2) tm (raceC (h 1) (h 0 0) (h 0 2) (fun c => h 13 (5 + c)) (mGain h ill) (h 0 2)).2.2.1 ∧ ag (h 0 2) plc (raceC (h 1) (h 0 0) (h 0 2) (fun c => h 13 (5 + c)) (mGain h ill) (h 0 2)).2.2.2.1) (by
    refine ev_aload_n 38 dX9_races_37 rfl rfl ?_
    refine ev_iconst 39 dX9_races_38 rfl ?_
    refine ev_putI' 42 31 (hR h (zf (h 14) (h 0 2)) (zf (h 15) (h 0 2)) (zf (h 16) (h 0 2)) (h 17) 0) pX9_162 rfl dX9_races_39 rfl rfl rfl rfl hR_0 ?_
    refine ev_iconst 43 dX9_races_42 rfl ?_
    refine ev_istore_n 44 dX9_races_43 rfl (Nat.le_of_ble_eq_true rfl) ?_
    exact K3
    )
  rw [zf_0, zf_0, zf_0, hR_e] at K0
  refine ev_iconst 1 dX9_races_0 rfl ?_
  refine ev_istore_n 2 dX9_races_1 rfl (Nat.le_of_ble_eq_true rfl) ?_
  exact K0
end MRC
end
section
theorem hq_out {h : Hp} {L : List (Nat × (Int → Int))} {k : Nat} (hL : L.all (fun p => !(Nat.beq k p.1)) = true) : hq h L k = h k := by
  induction L with
  | nil => rfl
  | cons p L ih =>
    rw [List.all_cons, Bool.and_eq_true] at hL
    show cond (Nat.beq k p.1) p.2 (hq h L k) = h k
    rw [ih hL.2]
    have := hL.1
    cases hb : Nat.beq k p.1 with
    | true => rw [hb] at this; cases this
    | false => rfl
/-- what stays: all that calls show of the model but what is written on the way -/
def PsM (h h' : Hp) : Prop := (∀ k, 1 ≤ k → k ≤ 9 → h' k = h k) ∧ ∀ i, (i < 15 ∨ 31 < i) → h' 0 i = h 0 i
theorem PsM.rf {h : Hp} : PsM h h := ⟨fun _ _ _ => rfl, fun _ _ => rfl⟩
theorem PsM.tr {h h1 h2 : Hp} (a : PsM h h1) (b : PsM h1 h2) : PsM h h2 := ⟨fun k p q => (b.1 k p q).trans (a.1 k p q), fun i p => (b.2 i p).trans (a.2 i p)⟩
theorem nine {P : Nat → Prop} (h1 : P 1) (h2 : P 2) (h3 : P 3) (h4 : P 4) (h5 : P 5) (h6 : P 6) (h7 : P 7) (h8 : P 8) (h9 : P 9) : ∀ k, 1 ≤ k → k ≤ 9 → P k := by
  intro k a b
  have : k = 1 ∨ k = 2 ∨ k = 3 ∨ k = 4 ∨ k = 5 ∨ k = 6 ∨ k = 7 ∨ k = 8 ∨ k = 9 := by omega
  rcases this with rfl | rfl | rfl | rfl | rfl | rfl | rfl | rfl | rfl <;> assumption
theorem PsM.R {h : Hp} {ic pts tm plc : Int → Int} {many : Int} : PsM h (hR h ic pts tm plc many) := ⟨nine rfl rfl rfl rfl rfl rfl rfl rfl rfl, fun i p => up_n (by omega)⟩
def hN (h : Hp) : Hp := hput h 13 (cpy (h 4) (h 13) 0 0 17)
theorem PsM.N {h : Hp} {f : Int → Int} : PsM h (hput h 13 f) := ⟨nine rfl rfl rfl rfl rfl rfl rfl rfl rfl, fun _ _ => rfl⟩
theorem hN_at {h : Hp} {i : Int} (h0 : 0 ≤ i) (h1 : i < 17) : hN h 13 i = h 4 i := by
  show cpy (h 4) (h 13) 0 0 17 i = _
  unfold cpy
  rw [if_pos (by omega)]
  congr 1
  omega
def sGain (str wt s : Int → Int) (ill c : Int) : Int := gainZ (if bit ill (s c) = 0 then str (s c) else 1) (wt c) (bit (s 10) c)
theorem NW_ag {n : Int} {s s' : Int → Int} (hn : n ≤ 5) (h : NW n s) (e : ∀ i, 0 ≤ i → i < 17 → s' i = s i) : NW n s' := by
  refine ⟨fun c a b => ?_, ?_, ?_⟩
  · rw [e c a (by omega), e (5 + c) (by omega) (by omega)]
    exact h.1 c a b
  · rw [e 10 (by omega) (by omega)]; exact h.2.1
  · rw [e 10 (by omega) (by omega)]; exact h.2.2
theorem sGain_ag {str wt s s' : Int → Int} {n ill : Int} (hn : n ≤ 5) (e : ∀ i, 0 ≤ i → i < 17 → s' i = s i) : ag n (sGain str wt s' ill) (sGain str wt s ill) := fun c a b => by
  unfold sGain
  rw [e c a (by omega), e 10 (by omega) (by omega)]
def raceS (h : Hp) (s : Int → Int) (ill : Int) : RS := raceC (h 1) (h 0 0) (h 0 2) (fun c => s (5 + c)) (sGain (h 3) (fun c => h 2 (2 * c)) s ill) (h 0 2)
theorem raceS_ag {h : Hp} {s s' : Int → Int} {ill : Int} (hn : 0 ≤ h 0 2 ∧ h 0 2 ≤ 5) (e : ∀ i, 0 ≤ i → i < 17 → s' i = s i) : rAg (h 0 2) (raceS h s' ill) (raceS h s ill) := race_ag hn.1 (fun c a b => e (5 + c) (by omega) (by omega)) (sGain_ag hn.2 e) 1000 1 _ _ ⟨ag_rf, ag_rf, ag_rf, fun _ _ _ => rfl, rfl⟩
theorem m_asItIs {h : Hp} : Ev shM mX9_asItIs 0 [some (vr 0)] [] h (RV fun h' => h' = hN h) := by
  refine ev_aload_n 1 dX9_asItIs_0 rfl rfl ?_
  refine ev_getR 4 fX9_47 rfl dX9_asItIs_1 rfl rfl rfl ?_
  refine ev_iconst 5 dX9_asItIs_4 rfl ?_
  refine ev_aload_n 6 dX9_asItIs_5 rfl rfl ?_
  refine ev_getR 9 fX9_19 rfl dX9_asItIs_6 rfl rfl rfl ?_
  refine ev_iconst 10 dX9_asItIs_9 rfl ?_
  refine cSv4 13 kX9_asItIs_154 dX9_asItIs_10 rfl rfl (by decide) rfl (Nat.le_of_ble_eq_true rfl) (m_copy (a := 13) (b := 4) rfl rfl (by decide) (by decide) (by decide) (by omega) (by omega)) ?_
  rintro _ rfl
  exact ev_vret rfl dX9_asItIs_13 (rfl)
theorem raceC_full {cost : Int → Int} {cl n : Int} (hC : CP cost cl n) {hand g : Int → Int} (hg : ∀ c, 0 ≤ c → c < n → 1 ≤ g c ∧ g c ≤ 20) (hh : ∀ c, 0 ≤ c → c < n → hand c ≤ 5) {w : Int} (hw : w ≤ n) : rOK cost cl n (raceC cost cl n hand g w) ∧ w ≤ (raceC cost cl n hand g w).2.2.2.2 := by
  have h0 := hC.2.2.1
  refine race_end hC hg hh hw 1000 1 _ (by omega) (by omega) ⟨fun c a b => ?_, ?_, fun k a b => ?_⟩ (fun q => by omega) (fun _ => by omega)
  · have := hC.2.2.2.2 0 (by omega) h0
    unfold okC
    dsimp only
    omega
  · have := (rZ_ok hC (f1 := fun _ => 0) (f2 := fun _ => 0) (f3 := fun _ => 0) (f4 := fun _ => 0)).2.1
    refine this.trans (cntB_congr (fun c a b => inB_c ?_))
    show zf (fun _ => 0) n c = 0
    unfold zf
    split <;> rfl
  · have b : k < 0 := b
    omega
theorem sGain_r {h : Hp} (hW : MW h) {s : Int → Int} (hs : NW (h 0 2) s) (ill : Int) {c : Int} (hc : 0 ≤ c ∧ c < h 0 2) : 1 ≤ sGain (h 3) (fun c => h 2 (2 * c)) s ill c ∧ sGain (h 3) (fun c => h 2 (2 * c)) s ill c ≤ 20 := by
  have h1 := hs.1 c hc.1 hc.2
  have h2 := hW.2 (s c) h1.1 h1.2.1
  have h3 := hW.2 c hc.1 hc.2
  unfold sGain
  refine gainZ_r ?_ ⟨h3.2.2.1, h3.2.2.2⟩
  split <;> omega
theorem raceS_ok {h : Hp} (hW : MW h) {s : Int → Int} (hs : NW (h 0 2) s) (ill : Int) : rOK (h 1) (h 0 0) (h 0 2) (raceS h s ill) ∧ (raceS h s ill).2.2.2.2 = h 0 2 := by
  have h1 := raceC_full hW.1 (hand := fun c => s (5 + c)) (g := sGain (h 3) (fun c => h 2 (2 * c)) s ill) (fun c a b => sGain_r hW hs ill ⟨a, b⟩) (fun c a b => (hs.1 c a b).2.2.2) (Int.le_refl _)
  refine ⟨h1.1, ?_⟩
  have h2 := cntB_rng (inB (h 0 0) (raceS h s ill)) (h 0 2).toNat
  have h3 : (raceS h s ill).2.2.2.2 = cntB (inB (h 0 0) (raceS h s ill)) (h 0 2).toNat := h1.1.2.1
  have h4 : h 0 2 ≤ (raceS h s ill).2.2.2.2 := h1.2
  have h5 := hW.1.1
  omega
/-- races(ill), in words of who pushes whom as now has it -/
theorem m_racesS {h : Hp} (hW : MW h) (hN0 : NW (h 0 2) (h 13)) {ill : Int} (hi : 0 ≤ ill ∧ ill < 32) : Ev shM mX9_races 0 [some (vr 0), some (vi ill), none, none] [] h (RV fun h' => PsM h h' ∧ h' 13 = h 13 ∧ (∀ k, 18 ≤ k → h' k = h k) ∧ ag (h 0 2) (h' 16) (raceS h (h 13) ill).2.2.1 ∧ ag (h 0 2) (h' 17) (raceS h (h 13) ill).2.2.2.1) := by
  refine ev_wk (m_races hW hN0 hi) ?_
  rintro v h' ⟨e, ic, pts, tm, plc, rfl, h1, h2⟩
  refine ⟨e, PsM.R, rfl, fun k a => hq_out ?_, h1, h2⟩
  simp only [List.all_cons, List.all_nil, Bool.and_true]
  rw [nbf (by omega), nbf (by omega), nbf (by omega), nbf (by omega), nbf (by omega)]
  rfl
theorem PsM.W {h h' : Hp} (p : PsM h h') (hW : MW h) : MW h' := by
  unfold MW MCh at hW ⊢
  rw [p.1 1 (by decide) (by decide), p.1 2 (by decide) (by decide), p.1 3 (by decide) (by decide), p.2 0 (by omega), p.2 2 (by omega)]
  exact hW
theorem hN_W {h : Hp} (hW : MW h) (hs : NW (h 0 2) (h 4)) : MW (hN h) ∧ NW (hN h 0 2) (hN h 13) := ⟨PsM.N.W hW, NW_ag hW.1.2.1 hs (fun i a b => hN_at a b)⟩
theorem m_first {h : Hp} (hW : MW h) (hs : NW (h 0 2) (h 4)) : Ev shM mX9_first 0 [some (vr 0)] [] h (RI fun x h' => x = (raceS h (h 4) 0).2.2.2.1 0 ∧ PsM h h') := by
  have hn := hW.1.1
  have hA := raceS_ag (h := h) (s := h 4) (s' := hN h 13) (ill := 0) ⟨by omega, hW.1.2.1⟩ (fun i a b => hN_at a b)
  have hO := raceS_ok (hN_W hW hs).1 (hN_W hW hs).2 0
  have hO2 : (raceS h (hN h 13) 0).2.2.2.2 = h 0 2 := hO.2
  refine ev_aload_n 1 dX9_first_0 rfl rfl ?_
  refine cVv0 4 kX9_first_178 dX9_first_1 rfl rfl rfl rfl rfl (by decide) rfl (Nat.le_of_ble_eq_true rfl) (m_asItIs) ?_
  rintro _ rfl
  refine ev_aload_n 5 dX9_first_4 rfl rfl ?_
  refine ev_iconst 6 dX9_first_5 rfl ?_
  refine cVv1 9 kX9_first_192 dX9_first_6 rfl rfl rfl rfl rfl (by decide) rfl (Nat.le_of_ble_eq_true rfl) (m_racesS (hN_W hW hs).1 (hN_W hW hs).2 ⟨by omega, by omega⟩) ?_
  rintro h' ⟨p1, -, -, -, p2⟩
  refine ev_aload_n 10 dX9_first_9 rfl rfl ?_
  refine ev_getR 13 fX9_59 rfl dX9_first_10 rfl rfl rfl ?_
  refine ev_iconst 14 dX9_first_13 rfl ?_
  refine ev_iald' 15 ((raceS h (h 4) 0).2.2.2.1 0) dX9_first_14 rfl rfl (by decide) (by omega) ((p2 0 (by omega) hn).trans (hA.2.2.2.1 0 (by omega) (by omega))) ?_
  exact ev_iret rfl dX9_first_15 (⟨rfl, PsM.N.tr p1⟩)
end
section
theorem it_r {P : Prop} [Decidable P] : R32 (if P then 1 else 0) := by split <;> exact ⟨by decide, by decide⟩
theorem it_0 {P : Prop} [Decidable P] : (if P then (1 : Int) else 0) = 0 ↔ ¬ P := by
  by_cases h : P
  · rw [if_pos h]; exact ⟨fun w => (by omega), fun w => absurd h w⟩
  · rw [if_neg h]; exact ⟨fun _ => h, fun _ => rfl⟩
theorem it_1 {P : Prop} [Decidable P] : (¬ (if P then (1 : Int) else 0) = 0) ↔ P := by
  by_cases h : P
  · rw [if_pos h]; exact ⟨fun _ => h, fun _ => (by omega)⟩
  · rw [if_neg h]; exact ⟨fun w => absurd rfl w, fun w => absurd w h⟩
/-- the answers' words: refusals -/
def Bd (P : Prop) (x : Int) (h h' : Hp) : Prop := P ∧ x = -1 ∧ h = h'
theorem m_type {h : Hp} {l : Int} (hl : R32 l) (ht : 0 ≤ h 0 14 ∧ h 0 14 ≤ 120) : Ev shM mX9_type 0 [some (vr 0), some (vi l)] [] h (RI fun x h' => (¬ (0 ≤ l ∧ l ≤ 255) ∧ x = -1 ∧ h = h') ∨ ((0 ≤ l ∧ l ≤ 255) ∧ h 0 14 = 120 ∧ x = -3 ∧ h = h') ∨ ((0 ≤ l ∧ l ≤ 255) ∧ h 0 14 < 120 ∧ x = h 0 14 + 1 ∧ h' = hq h [(9, up (h 9) (h 0 14) l), (0, up (h 0) 14 (h 0 14 + 1))])) := by
  refine ev_iload_n 1 dX9_type_0 rfl rfl ?_
  refine ev_iconst 2 dX9_type_1 rfl ?_
  refine ev_sipush 5 dX9_type_2 rfl (by decide +kernel) ?_
  refine cSi3 8 kX9_type_78 dX9_type_5 rfl rfl (by decide) rfl (Nat.le_of_ble_eq_true rfl) (m_in hl ⟨by decide, by decide⟩ ⟨by decide, by decide⟩) ?_
  rintro x _ ⟨rfl, rfl⟩
  refine ev_if_ne 11 13 dX9_type_8 rfl rfl it_r (fun c8 => ?_) (fun c8 => ?_)
  · refine ev_aload_n 14 dX9_type_13 rfl rfl ?_
    refine ev_getI 17 14 fX9_84 rfl dX9_type_14 rfl rfl rfl (by decide) rfl ?_
    refine ev_bipush 19 dX9_type_17 rfl (by decide +kernel) ?_
    refine ev_icmp_ne 22 25 dX9_type_19 rfl rfl (by omega) (by omega) (fun c19 => ?_) (fun c19 => ?_)
    · refine ev_aload_n 26 dX9_type_25 rfl rfl ?_
      refine ev_getR 29 fX9_35 rfl dX9_type_26 rfl rfl rfl ?_
      refine ev_aload_n 30 dX9_type_29 rfl rfl ?_
      refine ev_getI 33 14 fX9_84 rfl dX9_type_30 rfl rfl rfl (by decide) rfl ?_
      refine ev_iload_n 34 dX9_type_33 rfl rfl ?_
      refine ev_iast' 35 (hq h [(9, up (h 9) (h 0 14) l)]) dX9_type_34 rfl rfl (by decide) (by omega) (hq_put (L := [])) ?_
      refine ev_aload_n 36 dX9_type_35 rfl rfl ?_
      refine ev_dup_r 37 dX9_type_36 rfl ?_
      refine ev_getI' 40 14 (h 0 14) fX9_84 rfl dX9_type_37 rfl rfl rfl (by decide) rfl rfl ?_
      refine ev_iconst 41 dX9_type_40 rfl ?_
      refine ev_iadd 42 dX9_type_41 rfl ?_
      refine ev_putI' 45 14 (hq h [(9, up (h 9) (h 0 14) l), (0, up (h 0) 14 (h 0 14 + 1))]) pX9_84 rfl dX9_type_42 rfl rfl rfl rfl hq_put ?_
      refine ev_aload_n 46 dX9_type_45 rfl rfl ?_
      refine ev_getI' 49 14 (h 0 14 + 1) fX9_84 rfl dX9_type_46 rfl rfl rfl (by decide) rfl rfl ?_
      exact ev_iret rfl dX9_type_49 (Or.inr (Or.inr ⟨it_1.mp c8, by omega, rfl, rfl⟩))
    · refine ev_bipush 24 dX9_type_22 rfl (by decide +kernel) ?_
      exact ev_iret rfl dX9_type_24 (Or.inr (Or.inl ⟨it_1.mp c8, by omega, rfl, rfl⟩))
  · refine ev_iconst 12 dX9_type_11 rfl ?_
    exact ev_iret rfl dX9_type_12 (Or.inl ⟨it_0.mp c8, rfl, rfl⟩)
theorem m_clear {h : Hp} : Ev shM mX9_clear 0 [some (vr 0), none] [] h (RI fun x h' => x = h 0 14 ∧ h' = hput h 0 (up (h 0) 14 0)) := by
  refine ev_aload_n 1 dX9_clear_0 rfl rfl ?_
  refine ev_getI 4 14 fX9_84 rfl dX9_clear_1 rfl rfl rfl (by decide) rfl ?_
  refine ev_istore_n 5 dX9_clear_4 rfl (Nat.le_of_ble_eq_true rfl) ?_
  refine ev_aload_n 6 dX9_clear_5 rfl rfl ?_
  refine ev_iconst 7 dX9_clear_6 rfl ?_
  refine ev_putI 10 14 pX9_84 rfl dX9_clear_7 rfl rfl rfl rfl ?_
  refine ev_iload_n 11 dX9_clear_10 rfl rfl ?_
  exact ev_iret rfl dX9_clear_11 (⟨rfl, rfl⟩)
theorem m_forget {h : Hp} : Ev shM mX9_forget 0 [some (vr 0), none] [] h (RI fun x h' => x = h 0 10 ∧ h' = hput h 0 (up (h 0) 10 0)) := by
  refine ev_aload_n 1 dX9_forget_0 rfl rfl ?_
  refine ev_getI 4 10 fX9_151 rfl dX9_forget_1 rfl rfl rfl (by decide) rfl ?_
  refine ev_istore_n 5 dX9_forget_4 rfl (Nat.le_of_ble_eq_true rfl) ?_
  refine ev_aload_n 6 dX9_forget_5 rfl rfl ?_
  refine ev_iconst 7 dX9_forget_6 rfl ?_
  refine ev_putI 10 10 pX9_151 rfl dX9_forget_7 rfl rfl rfl rfl ?_
  refine ev_iload_n 11 dX9_forget_10 rfl rfl ?_
  exact ev_iret rfl dX9_forget_11 (⟨rfl, rfl⟩)
theorem m_trace {h : Hp} : Ev shM mX9_trace 0 [some (vr 0)] [] h (RJ fun x h' => x = h 0 12 ∧ h = h') := by
  refine ev_aload_n 1 dX9_trace_0 rfl rfl ?_
  refine ev_getL 4 12 fX9_220 rfl dX9_trace_1 rfl rfl rfl rfl ?_
  exact ev_lret rfl dX9_trace_4 (⟨rfl, rfl⟩)
theorem m_count {h : Hp} {w : Int} (hw : R32 w) : Ev shM mX9_count 0 [some (vr 0), some (vi w)] [] h (RI fun x h' => x = (if w = 0 then h 0 0 else if w = 1 then h 0 2 else if w = 2 then h 0 10 else if w = 3 then h 0 14 else -1) ∧ h = h') := by
  refine ev_iload_n 1 dX9_count_0 rfl rfl ?_
  by_cases w1 : w < 0 ∨ 3 < w
  · refine ev_tswOut 52 dX9_count_1 (by omega) w1 rfl ?_
    refine ev_iconst 53 dX9_count_52 rfl ?_
    exact ev_iret rfl dX9_count_53 (⟨by first | rfl | (rw [if_neg (by omega), if_neg (by omega), if_neg (by omega), if_neg (by omega)]), rfl⟩)
  have w1 : w = 0 ∨ w = 1 ∨ w = 2 ∨ w = 3 := by omega
  rcases w1 with w1 | w1 | w1 | w1
  · rw [w1]
    refine ev_tswIn 32 dX9_count_1 ⟨by decide, by decide⟩ (by decide) (by decide) rfl rfl ?_
    refine ev_aload_n 33 dX9_count_32 rfl rfl ?_
    refine ev_getI 36 0 fX9_81 rfl dX9_count_33 rfl rfl rfl (by decide) rfl ?_
    exact ev_iret rfl dX9_count_36 (⟨by first | rfl | (rw [if_neg (by omega), if_neg (by omega), if_neg (by omega), if_neg (by omega)]), rfl⟩)
  · rw [w1]
    refine ev_tswIn 37 dX9_count_1 ⟨by decide, by decide⟩ (by decide) (by decide) rfl rfl ?_
    refine ev_aload_n 38 dX9_count_37 rfl rfl ?_
    refine ev_getI 41 2 fX9_74 rfl dX9_count_38 rfl rfl rfl (by decide) rfl ?_
    exact ev_iret rfl dX9_count_41 (⟨by first | rfl | (rw [if_neg (by omega), if_neg (by omega), if_neg (by omega), if_neg (by omega)]), rfl⟩)
  · rw [w1]
    refine ev_tswIn 42 dX9_count_1 ⟨by decide, by decide⟩ (by decide) (by decide) rfl rfl ?_
    refine ev_aload_n 43 dX9_count_42 rfl rfl ?_
    refine ev_getI 46 10 fX9_151 rfl dX9_count_43 rfl rfl rfl (by decide) rfl ?_
    exact ev_iret rfl dX9_count_46 (⟨by first | rfl | (rw [if_neg (by omega), if_neg (by omega), if_neg (by omega), if_neg (by omega)]), rfl⟩)
  · rw [w1]
    refine ev_tswIn 47 dX9_count_1 ⟨by decide, by decide⟩ (by decide) (by decide) rfl rfl ?_
    refine ev_aload_n 48 dX9_count_47 rfl rfl ?_
    refine ev_getI 51 14 fX9_84 rfl dX9_count_48 rfl rfl rfl (by decide) rfl ?_
    exact ev_iret rfl dX9_count_51 (⟨by first | rfl | (rw [if_neg (by omega), if_neg (by omega), if_neg (by omega), if_neg (by omega)]), rfl⟩)
theorem m_pusher {h : Hp} {c : Int} (hc : R32 c) (hn : 0 ≤ h 0 2 ∧ h 0 2 ≤ 5) : Ev shM mX9_pusher 0 [some (vr 0), some (vi c)] [] h (RI fun x h' => x = (if 0 ≤ c ∧ c < h 0 2 then h 3 c else -1) ∧ h = h') := by
  refine ev_aload_n 1 dX9_pusher_0 rfl rfl ?_
  refine ev_iload_n 2 dX9_pusher_1 rfl rfl ?_
  refine cVi1 5 kX9_pusher_175 dX9_pusher_2 rfl rfl rfl rfl rfl (by decide) rfl (Nat.le_of_ble_eq_true rfl) (m_isChair hc hn) ?_
  rintro x _ ⟨rfl, rfl⟩
  refine ev_if_eq 8 17 dX9_pusher_5 rfl rfl it_r (fun c5 => ?_) (fun c5 => ?_)
  · have d5 := it_0.mp c5
    refine ev_iconst 18 dX9_pusher_17 rfl ?_
    exact ev_iret rfl dX9_pusher_18 (⟨by first | rw [if_pos d5] | rw [if_neg d5], rfl⟩)
  · have d5 := it_1.mp c5
    refine ev_aload_n 9 dX9_pusher_8 rfl rfl ?_
    refine ev_getR 12 fX9_16 rfl dX9_pusher_9 rfl rfl rfl ?_
    refine ev_iload_n 13 dX9_pusher_12 rfl rfl ?_
    refine ev_iald 14 dX9_pusher_13 rfl rfl (by decide) (by omega) ?_
    refine ev_goto 18 dX9_pusher_14 rfl ?_
    exact ev_iret rfl dX9_pusher_18 (⟨by first | rw [if_pos d5] | rw [if_neg d5], rfl⟩)
theorem m_cell {h : Hp} {c : Int} (hc : R32 c) (hn : 0 ≤ h 0 0 ∧ h 0 0 ≤ 16) : Ev shM mX9_cell 0 [some (vr 0), some (vi c)] [] h (RI fun x h' => x = (if 0 ≤ c ∧ c < h 0 0 then h 1 c else -1) ∧ h = h') := by
  refine ev_iload_n 1 dX9_cell_0 rfl rfl ?_
  refine ev_iconst 2 dX9_cell_1 rfl ?_
  refine ev_aload_n 3 dX9_cell_2 rfl rfl ?_
  refine ev_getI 6 0 fX9_81 rfl dX9_cell_3 rfl rfl rfl (by decide) rfl ?_
  refine ev_iconst 7 dX9_cell_6 rfl ?_
  refine ev_isub 8 dX9_cell_7 rfl ?_
  refine cSi3 11 kX9_cell_78 dX9_cell_8 rfl rfl (by decide) rfl (Nat.le_of_ble_eq_true rfl) (m_in hc ⟨by decide, by decide⟩ (by omega)) ?_
  rintro x _ ⟨rfl, rfl⟩
  refine ev_if_eq 14 23 dX9_cell_11 rfl rfl it_r (fun c11 => ?_) (fun c11 => ?_)
  · have d5 := it_0.mp c11
    refine ev_iconst 24 dX9_cell_23 rfl ?_
    exact ev_iret rfl dX9_cell_24 (⟨by first | rw [if_pos (by omega)] | rw [if_neg (by omega)], rfl⟩)
  · have d5 := it_1.mp c11
    refine ev_aload_n 15 dX9_cell_14 rfl rfl ?_
    refine ev_getR 18 fX9_7 rfl dX9_cell_15 rfl rfl rfl ?_
    refine ev_iload_n 19 dX9_cell_18 rfl rfl ?_
    refine ev_iald 20 dX9_cell_19 rfl rfl (by decide) (by omega) ?_
    refine ev_goto 24 dX9_cell_20 rfl ?_
    exact ev_iret rfl dX9_cell_24 (⟨by first | rw [if_pos (by omega)] | rw [if_neg (by omega)], rfl⟩)
def chairM (h : Hp) (c w : Int) : Int := if w = 0 ∨ w = 1 then h 2 (2 * c + w) else if w = 2 then h 4 c else if w = 3 then h 4 (5 + c) else if w = 4 then bit (h 4 10) c else if w = 5 then sGain (h 3) (fun c => h 2 (2 * c)) (h 4) 0 c else if w = 6 then h 4 (12 + c) else -1
theorem hN_C {h : Hp} (hn : 0 ≤ h 0 2 ∧ h 0 2 ≤ 5) (hC : MCh h) (hs : NW (h 0 2) (h 4)) : MCh (hN h) ∧ NW (hN h 0 2) (hN h 13) := ⟨hC, NW_ag hn.2 hs (fun i a b => hN_at a b)⟩
theorem mGain_N {h : Hp} (hn : 0 ≤ h 0 2 ∧ h 0 2 ≤ 5) {ill c : Int} (hc : 0 ≤ c ∧ c < h 0 2) : mGain (hN h) ill c = sGain (h 3) (fun c => h 2 (2 * c)) (h 4) ill c := sGain_ag (str := h 3) (wt := fun c => h 2 (2 * c)) (s := h 4) (s' := hN h 13) hn.2 (fun i a b => hN_at a b) c hc.1 hc.2
theorem m_chair {h : Hp} {c w : Int} (hc : R32 c) (hw : R32 w) (hn : 0 ≤ h 0 2 ∧ h 0 2 ≤ 5) (hC : MCh h) (hs : NW (h 0 2) (h 4)) : Ev shM mX9_chair 0 [some (vr 0), some (vi c), some (vi w)] [] h (RI fun x h' => x = (if 0 ≤ c ∧ c < h 0 2 then chairM h c w else -1) ∧ PsM h h') := by
  have hs2 := hs.2
  have hz := bit_z (h 4 10) c
  unfold chairM
  refine ev_aload_n 1 dX9_chair_0 rfl rfl ?_
  refine ev_iload_n 2 dX9_chair_1 rfl rfl ?_
  refine cVi1 5 kX9_chair_175 dX9_chair_2 rfl rfl rfl rfl rfl (by decide) rfl (Nat.le_of_ble_eq_true rfl) (m_isChair hc hn) ?_
  rintro x _ ⟨rfl, rfl⟩
  refine ev_if_ne 8 10 dX9_chair_5 rfl rfl it_r (fun c5 => ?_) (fun c5 => ?_)
  · have d5 := it_1.mp c5
    rw [if_pos d5]
    refine ev_aload_n 11 dX9_chair_10 rfl rfl ?_
    refine cVv0 14 kX9_chair_178 dX9_chair_11 rfl rfl rfl rfl rfl (by decide) rfl (Nat.le_of_ble_eq_true rfl) (m_asItIs) ?_
    rintro _ rfl
    refine ev_iload_n 15 dX9_chair_14 rfl rfl ?_
    by_cases w15 : w < 0 ∨ 6 < w
    · refine ev_tswOut 122 dX9_chair_15 (by omega) w15 rfl ?_
      refine ev_iconst 123 dX9_chair_122 rfl ?_
      exact ev_iret rfl dX9_chair_123 (⟨by rw [if_neg (by omega), if_neg (by omega), if_neg (by omega), if_neg (by omega), if_neg (by omega), if_neg (by omega)], PsM.N⟩)
    have w15 : w = 0 ∨ w = 1 ∨ w = 2 ∨ w = 3 ∨ w = 4 ∨ w = 5 ∨ w = 6 := by omega
    rcases w15 with w15 | w15 | w15 | w15 | w15 | w15 | w15
    · rw [w15]
      refine ev_tswIn 56 dX9_chair_15 ⟨by decide, by decide⟩ (by decide) (by decide) rfl rfl ?_
      refine ev_aload_n 57 dX9_chair_56 rfl rfl ?_
      refine ev_getR 60 fX9_13 rfl dX9_chair_57 rfl rfl rfl ?_
      refine ev_iconst 61 dX9_chair_60 rfl ?_
      refine ev_iload_n 62 dX9_chair_61 rfl rfl ?_
      refine ev_imul 63 dX9_chair_62 rfl ?_
      refine ev_iload_n 64 dX9_chair_63 rfl rfl ?_
      refine ev_iadd 65 dX9_chair_64 rfl ?_
      refine ev_iald 66 dX9_chair_65 rfl rfl (by decide) (by omega) ?_
      exact ev_iret rfl dX9_chair_66 (⟨by rw [if_pos (by omega)]; rfl, PsM.N⟩)
    · rw [w15]
      refine ev_tswIn 56 dX9_chair_15 ⟨by decide, by decide⟩ (by decide) (by decide) rfl rfl ?_
      refine ev_aload_n 57 dX9_chair_56 rfl rfl ?_
      refine ev_getR 60 fX9_13 rfl dX9_chair_57 rfl rfl rfl ?_
      refine ev_iconst 61 dX9_chair_60 rfl ?_
      refine ev_iload_n 62 dX9_chair_61 rfl rfl ?_
      refine ev_imul 63 dX9_chair_62 rfl ?_
      refine ev_iload_n 64 dX9_chair_63 rfl rfl ?_
      refine ev_iadd 65 dX9_chair_64 rfl ?_
      refine ev_iald 66 dX9_chair_65 rfl rfl (by decide) (by omega) ?_
      exact ev_iret rfl dX9_chair_66 (⟨by rw [if_pos (by omega)]; rfl, PsM.N⟩)
    · rw [w15]
      refine ev_tswIn 67 dX9_chair_15 ⟨by decide, by decide⟩ (by decide) (by decide) rfl rfl ?_
      refine ev_aload_n 68 dX9_chair_67 rfl rfl ?_
      refine ev_getR 71 fX9_19 rfl dX9_chair_68 rfl rfl rfl ?_
      refine ev_iconst 72 dX9_chair_71 rfl ?_
      refine ev_iload_n 73 dX9_chair_72 rfl rfl ?_
      refine ev_iadd 74 dX9_chair_73 rfl ?_
      refine ev_iald' 75 (h 4 c) dX9_chair_74 rfl rfl (by decide) (by omega) (by rw [Int.zero_add]; rfl) ?_
      exact ev_iret rfl dX9_chair_75 (⟨rfl, PsM.N⟩)
    · rw [w15]
      refine ev_tswIn 76 dX9_chair_15 ⟨by decide, by decide⟩ (by decide) (by decide) rfl rfl ?_
      refine ev_aload_n 77 dX9_chair_76 rfl rfl ?_
      refine ev_getR 80 fX9_19 rfl dX9_chair_77 rfl rfl rfl ?_
      refine ev_iconst 81 dX9_chair_80 rfl ?_
      refine ev_iload_n 82 dX9_chair_81 rfl rfl ?_
      refine ev_iadd 83 dX9_chair_82 rfl ?_
      refine ev_iald 84 dX9_chair_83 rfl rfl (by decide) (by omega) ?_
      exact ev_iret rfl dX9_chair_84 (⟨rfl, PsM.N⟩)
    · rw [w15]
      refine ev_tswIn 85 dX9_chair_15 ⟨by decide, by decide⟩ (by decide) (by decide) rfl rfl ?_
      refine ev_aload_n 86 dX9_chair_85 rfl rfl ?_
      refine ev_getR 89 fX9_19 rfl dX9_chair_86 rfl rfl rfl ?_
      refine ev_bipush 91 dX9_chair_89 rfl (by decide +kernel) ?_
      refine ev_iald' 92 (h 4 10) dX9_chair_91 rfl rfl (by decide) (by omega) rfl ?_
      refine ev_iload_n 93 dX9_chair_92 rfl rfl ?_
      refine cSi2 96 kX9_chair_158 dX9_chair_93 rfl rfl (by decide) rfl (Nat.le_of_ble_eq_true rfl) (m_has (by omega) (by omega)) ?_
      rintro x _ ⟨e93, rfl⟩
      rw [show x = bit (h 4 10) c from e93]
      refine ev_if_eq 99 103 dX9_chair_96 rfl rfl (by omega) (fun c96 => ?_) (fun c96 => ?_)
      · refine ev_iconst 104 dX9_chair_103 rfl ?_
        exact ev_iret rfl dX9_chair_104 (⟨by show _ = bit (h 4 10) c; omega, PsM.N⟩)
      · refine ev_iconst 100 dX9_chair_99 rfl ?_
        refine ev_goto 104 dX9_chair_100 rfl ?_
        exact ev_iret rfl dX9_chair_104 (⟨by show _ = bit (h 4 10) c; omega, PsM.N⟩)
    · rw [w15]
      refine ev_tswIn 105 dX9_chair_15 ⟨by decide, by decide⟩ (by decide) (by decide) rfl rfl ?_
      refine ev_aload_n 106 dX9_chair_105 rfl rfl ?_
      refine ev_iload_n 107 dX9_chair_106 rfl rfl ?_
      refine ev_iconst 108 dX9_chair_107 rfl ?_
      refine cVi2 111 kX9_chair_168 dX9_chair_108 rfl rfl rfl rfl rfl (by decide) rfl (Nat.le_of_ble_eq_true rfl) (m_gainOf (h := hN h) hn.2 (hN_C hn hC hs).1 (hN_C hn hC hs).2 (by omega) d5) ?_
      rintro x _ ⟨rfl, rfl⟩
      exact ev_iret rfl dX9_chair_111 (⟨mGain_N hn d5, PsM.N⟩)
    · rw [w15]
      refine ev_tswIn 112 dX9_chair_15 ⟨by decide, by decide⟩ (by decide) (by decide) rfl rfl ?_
      refine ev_aload_n 113 dX9_chair_112 rfl rfl ?_
      refine ev_getR 116 fX9_19 rfl dX9_chair_113 rfl rfl rfl ?_
      refine ev_bipush 118 dX9_chair_116 rfl (by decide +kernel) ?_
      refine ev_iload_n 119 dX9_chair_118 rfl rfl ?_
      refine ev_iadd 120 dX9_chair_119 rfl ?_
      refine ev_iald 121 dX9_chair_120 rfl rfl (by decide) (by omega) ?_
      exact ev_iret rfl dX9_chair_121 (⟨rfl, PsM.N⟩)
  · have d5 := it_0.mp c5
    rw [if_neg d5]
    refine ev_iconst 9 dX9_chair_8 rfl ?_
    exact ev_iret rfl dX9_chair_9 (⟨rfl, PsM.rf⟩)
end
section
def ceilD (L g : Int) : Int := (L + g - 1) / g
theorem ceil_eq {L g j : Int} (hg : 0 < g) (h1 : g * j - g < L) (h2 : L ≤ g * j) : ceilD L g = j := by
  unfold ceilD
  have e : L + g - 1 = (L + g - 1 - g * j) + g * j := by omega
  rw [e, Int.add_mul_ediv_left _ _ (by omega), Int.ediv_eq_zero_of_lt (by omega) (by omega)]
  omega
section AL
variable {h : Hp} {c : Int}
theorem m_alone_in {post : Option AV → Hp → Prop} (hC : CP (h 1) (h 0 0) (h 0 2)) {mi : Int} : ∀ (k : Nat) (at' has : Int), 0 ≤ at' → at' + k = h 0 0 → 0 ≤ has → has ≤ 40 → (∀ at2 has2, at' ≤ at2 → at2 ≤ h 0 0 → 0 ≤ has2 → sumZ (h 1) at2.toNat + has2 = sumZ (h 1) at'.toNat + has → (at2 < h 0 0 → has2 < h 1 at2) → Ev shM mX9_aloneOf 14 [some (vr 0), some (vi c), some (vi at2), some (vi has2), some (vi mi)] [] h post) → Ev shM mX9_aloneOf 34 [some (vr 0), some (vi c), some (vi at'), some (vi has), some (vi mi)] [] h post := by
  intro k
  induction k with
  | zero =>
    intro at' has h0 h1 h2 h3 K
    have hc2 := hC.2.2.2.1
    refine ev_iload_n 35 dX9_aloneOf_34 rfl rfl ?_
    refine ev_aload_n 36 dX9_aloneOf_35 rfl rfl ?_
    refine ev_getI 39 0 fX9_81 rfl dX9_aloneOf_36 rfl rfl rfl (by decide) rfl ?_
    refine ev_icmp_ge 42 14 dX9_aloneOf_39 rfl rfl (by omega) (by omega) (fun c39 => ?_) (fun c39 => ?_)
    · exact K at' has (Int.le_refl _) (by omega) h2 rfl (fun q => by omega)
    · omega --done
  | succ k ih =>
    intro at' has h0 h1 h2 h3 K
    have hc2 := hC.2.2.2.1
    have hcs := hC.2.2.2.2 at' h0 (by omega)
    refine ev_iload_n 35 dX9_aloneOf_34 rfl rfl ?_
    refine ev_aload_n 36 dX9_aloneOf_35 rfl rfl ?_
    refine ev_getI 39 0 fX9_81 rfl dX9_aloneOf_36 rfl rfl rfl (by decide) rfl ?_
    refine ev_icmp_ge 42 14 dX9_aloneOf_39 rfl rfl (by omega) (by omega) (fun c39 => ?_) (fun c39 => ?_)
    · omega --done
    · refine ev_iload_n 43 dX9_aloneOf_42 rfl rfl ?_
      refine ev_aload_n 44 dX9_aloneOf_43 rfl rfl ?_
      refine ev_getR 47 fX9_7 rfl dX9_aloneOf_44 rfl rfl rfl ?_
      refine ev_iload_n 48 dX9_aloneOf_47 rfl rfl ?_
      refine ev_iald 49 dX9_aloneOf_48 rfl rfl (by decide) (by omega) ?_
      refine ev_icmp_lt 52 14 dX9_aloneOf_49 rfl rfl (by omega) (by omega) (fun c49 => ?_) (fun c49 => ?_)
      · exact K at' has (Int.le_refl _) (by omega) h2 rfl (fun _ => c49) --done
      · refine ev_iload_n 53 dX9_aloneOf_52 rfl rfl ?_
        refine ev_aload_n 54 dX9_aloneOf_53 rfl rfl ?_
        refine ev_getR 57 fX9_7 rfl dX9_aloneOf_54 rfl rfl rfl ?_
        refine ev_iload_n 58 dX9_aloneOf_57 rfl rfl ?_
        refine ev_iald 59 dX9_aloneOf_58 rfl rfl (by decide) (by omega) ?_
        refine ev_isub 60 dX9_aloneOf_59 rfl ?_
        refine ev_istore_n 61 dX9_aloneOf_60 rfl (Nat.le_of_ble_eq_true rfl) ?_
        refine ev_iinc 64 dX9_aloneOf_61 rfl rfl ?_
        refine ev_goto 34 dX9_aloneOf_64 rfl ?_
        refine ih (at' + 1) (has - h 1 at') (by omega) (by omega) (by omega) (by omega) (fun at2 has2 a1 a2 a3 a4 a5 => K at2 has2 (by omega) a2 a3 ?_ a5)
        rw [sumZ_1 h0] at a4
        omega
theorem m_alone_out (hC : CP (h 1) (h 0 0) (h 0 2)) (hW : MCh h) (hN : NW (h 0 2) (h 13)) (hc : 0 ≤ c ∧ c < h 0 2) (hd : Int) : ∀ (k : Nat) (at' has j P : Int), 0 ≤ at' → at' ≤ h 0 0 → 0 ≤ has → P = mGain h 0 c * j → sumZ (h 1) at'.toNat + has = P → (at' < h 0 0 → has < h 1 at' ∧ sumZ (h 1) (h 0 0).toNat - P ≤ k) → (at' = h 0 0 → P - mGain h 0 c < sumZ (h 1) (h 0 0).toNat) → Ev shM mX9_aloneOf 14 [some (vr 0), some (vi c), some (vi at'), some (vi has), some (vi (hd + j))] [] h (RI fun x h' => x = hd + ceilD (sumZ (h 1) (h 0 0).toNat) (mGain h 0 c) ∧ h = h') := by
  have hg := mGain_r ⟨hC, hW⟩ hN 0 hc
  have hpos : ∀ i, 0 ≤ i → i < h 0 0 → 0 ≤ h 1 i := fun i a b => by have := hC.2.2.2.2 i a b; omega
  intro k
  induction k with
  | zero =>
    intro at' has j P h0 h1 h2 h3 h4 h5 h6
    have hc2 := hC.2.2.2.1
    refine ev_iload_n 15 dX9_aloneOf_14 rfl rfl ?_
    refine ev_aload_n 16 dX9_aloneOf_15 rfl rfl ?_
    refine ev_getI 19 0 fX9_81 rfl dX9_aloneOf_16 rfl rfl rfl (by decide) rfl ?_
    refine ev_icmp_ge 22 67 dX9_aloneOf_19 rfl rfl (by omega) (by omega) (fun c19 => ?_) (fun c19 => ?_)
    · refine ev_iload 69 dX9_aloneOf_67 rfl rfl ?_
      exact ev_iret rfl dX9_aloneOf_69 (⟨by rw [ceil_eq (j := j) (by omega) (by rw [← h3]; exact h6 (by omega)) (by rw [← h3, ← h4, show at' = h 0 0 by omega]; omega)], rfl⟩)
    · have h7 := h5 (by omega)
      have h8 := sumZ_mo hpos (a := at' + 1) (b := h 0 0) (by omega) (by omega) (Int.le_refl _)
      rw [sumZ_1 h0] at h8
      omega --done
  | succ k ih =>
    intro at' has j P h0 h1 h2 h3 h4 h5 h6
    have hc2 := hC.2.2.2.1
    refine ev_iload_n 15 dX9_aloneOf_14 rfl rfl ?_
    refine ev_aload_n 16 dX9_aloneOf_15 rfl rfl ?_
    refine ev_getI 19 0 fX9_81 rfl dX9_aloneOf_16 rfl rfl rfl (by decide) rfl ?_
    refine ev_icmp_ge 22 67 dX9_aloneOf_19 rfl rfl (by omega) (by omega) (fun c19 => ?_) (fun c19 => ?_)
    · refine ev_iload 69 dX9_aloneOf_67 rfl rfl ?_
      exact ev_iret rfl dX9_aloneOf_69 (⟨by rw [ceil_eq (j := j) (by omega) (by rw [← h3]; exact h6 (by omega)) (by rw [← h3, ← h4, show at' = h 0 0 by omega]; omega)], rfl⟩)
    · have h7 := h5 (by omega)
      have hcs := hC.2.2.2.2 at' h0 (by omega)
      have h8 := sumZ_mo hpos (a := at' + 1) (b := h 0 0) (by omega) (by omega) (Int.le_refl _)
      rw [sumZ_1 h0] at h8
      refine ev_iinc 25 dX9_aloneOf_22 rfl rfl ?_
      refine ev_iload_n 26 dX9_aloneOf_25 rfl rfl ?_
      refine ev_aload_n 27 dX9_aloneOf_26 rfl rfl ?_
      refine ev_iload_n 28 dX9_aloneOf_27 rfl rfl ?_
      refine ev_iconst 29 dX9_aloneOf_28 rfl ?_
      refine cVi2 32 kX9_aloneOf_168 dX9_aloneOf_29 rfl rfl rfl rfl rfl (by decide) rfl (Nat.le_of_ble_eq_true rfl) (m_gainOf hC.2.1 hW hN (by omega) hc) ?_
      rintro x _ ⟨rfl, rfl⟩
      refine ev_iadd 33 dX9_aloneOf_32 rfl ?_
      refine ev_istore_n 34 dX9_aloneOf_33 rfl (Nat.le_of_ble_eq_true rfl) ?_
      refine m_alone_in hC (h 0 0 - at').toNat at' (has + mGain h 0 c) h0 (by omega) (by omega) (by omega) (fun at2 has2 a1 a2 a3 a4 a5 => ?_)
      refine ev_loc ?_ (ih at2 has2 (j + 1) (P + mGain h 0 c) (by omega) a2 a3 (by rw [h3, Int.mul_add, Int.mul_one]) (by omega) (fun q => ⟨a5 q, by omega⟩) (fun q => by omega))
      show _ = [_, _, _, _, some (vi (hd + (j + 1)))]
      rw [← Int.add_assoc]
theorem m_aloneOf (hC : CP (h 1) (h 0 0) (h 0 2)) (hW : MCh h) (hN : NW (h 0 2) (h 13)) (hc : 0 ≤ c ∧ c < h 0 2) : Ev shM mX9_aloneOf 0 [some (vr 0), some (vi c), none, none, none] [] h (RI fun x h' => x = h 13 (5 + c) + ceilD (sumZ (h 1) (h 0 0).toNat) (mGain h 0 c) ∧ h = h') := by
  have hc1 := hC.2.1
  have hc2 := hC.2.2.1
  have hcs := hC.2.2.2.2 0 (by omega) hc2
  have K := m_alone_out hC hW hN hc (h 13 (5 + c)) (sumZ (h 1) (h 0 0).toNat).toNat 0 0 0 0 (by omega) (by omega) (by omega) (by omega) rfl (fun _ => by omega) (fun _ => by omega)
  rw [Int.add_zero] at K
  refine ev_iconst 1 dX9_aloneOf_0 rfl ?_
  refine ev_istore_n 2 dX9_aloneOf_1 rfl (Nat.le_of_ble_eq_true rfl) ?_
  refine ev_iconst 3 dX9_aloneOf_2 rfl ?_
  refine ev_istore_n 4 dX9_aloneOf_3 rfl (Nat.le_of_ble_eq_true rfl) ?_
  refine ev_aload_n 5 dX9_aloneOf_4 rfl rfl ?_
  refine ev_getR 8 fX9_47 rfl dX9_aloneOf_5 rfl rfl rfl ?_
  refine ev_iconst 9 dX9_aloneOf_8 rfl ?_
  refine ev_iload_n 10 dX9_aloneOf_9 rfl rfl ?_
  refine ev_iadd 11 dX9_aloneOf_10 rfl ?_
  refine ev_iald 12 dX9_aloneOf_11 rfl rfl (by decide) (by omega) ?_
  refine ev_istore 14 dX9_aloneOf_12 rfl (Nat.le_of_ble_eq_true rfl) ?_
  exact K
end AL
def aloneS (h : Hp) (s : Int → Int) (c : Int) : Int := s (5 + c) + ceilD (sumZ (h 1) (h 0 0).toNat) (sGain (h 3) (fun c => h 2 (2 * c)) s 0 c)
section OPS
variable {h : Hp} {c : Int}
theorem m_alone (hc : R32 c) (hl : 0 ≤ h 0 0 ∧ h 0 0 ≤ 16) (hn : 0 ≤ h 0 2 ∧ h 0 2 ≤ 5) (hW : 0 < h 0 0 ∧ 0 < h 0 2 → MW h) (hs : NW (h 0 2) (h 4)) : Ev shM mX9_alone 0 [some (vr 0), some (vi c)] [] h (RI fun x h' => x = (if 0 ≤ c ∧ c < h 0 2 then (if 0 < h 0 0 ∧ 0 < h 0 2 then aloneS h (h 4) c else -2) else -1) ∧ PsM h h') := by
  refine ev_aload_n 1 dX9_alone_0 rfl rfl ?_
  refine ev_iload_n 2 dX9_alone_1 rfl rfl ?_
  refine cVi1 5 kX9_alone_175 dX9_alone_2 rfl rfl rfl rfl rfl (by decide) rfl (Nat.le_of_ble_eq_true rfl) (m_isChair hc hn) ?_
  rintro x _ ⟨rfl, rfl⟩
  refine ev_if_ne 8 10 dX9_alone_5 rfl rfl it_r (fun c5 => ?_) (fun c5 => ?_)
  · have d5 := it_1.mp c5
    rw [if_pos d5]
    refine ev_aload_n 11 dX9_alone_10 rfl rfl ?_
    refine cVi0 14 kX9_alone_184 dX9_alone_11 rfl rfl rfl rfl rfl (by decide) rfl (Nat.le_of_ble_eq_true rfl) (m_isRace (by omega) (by omega)) ?_
    rintro x _ ⟨rfl, rfl⟩
    refine ev_if_ne 17 20 dX9_alone_14 rfl rfl it_r (fun c14 => ?_) (fun c14 => ?_)
    · have d14 := it_1.mp c14
      rw [if_pos d14]
      refine ev_aload_n 21 dX9_alone_20 rfl rfl ?_
      refine cVv0 24 kX9_alone_178 dX9_alone_21 rfl rfl rfl rfl rfl (by decide) rfl (Nat.le_of_ble_eq_true rfl) (m_asItIs) ?_
      rintro _ rfl
      refine ev_aload_n 25 dX9_alone_24 rfl rfl ?_
      refine ev_iload_n 26 dX9_alone_25 rfl rfl ?_
      refine cVi1 29 kX9_alone_181 dX9_alone_26 rfl rfl rfl rfl rfl (by decide) rfl (Nat.le_of_ble_eq_true rfl) (m_aloneOf (h := hN h) (hN_W (hW d14) hs).1.1 (hN_W (hW d14) hs).1.2 (hN_W (hW d14) hs).2 d5) ?_
      rintro x _ ⟨rfl, rfl⟩
      exact ev_iret rfl dX9_alone_29 (⟨by rw [mGain_N hn d5, hN_at (by omega) (by omega)]; rfl, PsM.N⟩)
    · have d14 := it_0.mp c14
      rw [if_neg d14]
      refine ev_bipush 19 dX9_alone_17 rfl (by decide +kernel) ?_
      exact ev_iret rfl dX9_alone_19 (⟨rfl, PsM.rf⟩)
  · have d5 := it_0.mp c5
    rw [if_neg d5]
    refine ev_iconst 9 dX9_alone_8 rfl ?_
    exact ev_iret rfl dX9_alone_9 (⟨rfl, PsM.rf⟩)
theorem m_time (hc : R32 c) (hl : 0 ≤ h 0 0 ∧ h 0 0 ≤ 16) (hn : 0 ≤ h 0 2 ∧ h 0 2 ≤ 5) (hW : 0 < h 0 0 ∧ 0 < h 0 2 → MW h) (hs : NW (h 0 2) (h 4)) : Ev shM mX9_time 0 [some (vr 0), some (vi c)] [] h (RI fun x h' => x = (if 0 ≤ c ∧ c < h 0 2 then (if 0 < h 0 0 ∧ 0 < h 0 2 then (raceS h (h 4) 0).2.2.1 c else -2) else -1) ∧ PsM h h') := by
  have hA := raceS_ag (h := h) (s := h 4) (s' := hN h 13) (ill := 0) hn (fun i a b => hN_at a b)
  refine ev_aload_n 1 dX9_time_0 rfl rfl ?_
  refine ev_iload_n 2 dX9_time_1 rfl rfl ?_
  refine cVi1 5 kX9_time_175 dX9_time_2 rfl rfl rfl rfl rfl (by decide) rfl (Nat.le_of_ble_eq_true rfl) (m_isChair hc hn) ?_
  rintro x _ ⟨rfl, rfl⟩
  refine ev_if_ne 8 10 dX9_time_5 rfl rfl it_r (fun c5 => ?_) (fun c5 => ?_)
  · have d5 := it_1.mp c5
    rw [if_pos d5]
    refine ev_aload_n 11 dX9_time_10 rfl rfl ?_
    refine cVi0 14 kX9_time_184 dX9_time_11 rfl rfl rfl rfl rfl (by decide) rfl (Nat.le_of_ble_eq_true rfl) (m_isRace (by omega) (by omega)) ?_
    rintro x _ ⟨rfl, rfl⟩
    refine ev_if_ne 17 20 dX9_time_14 rfl rfl it_r (fun c14 => ?_) (fun c14 => ?_)
    · have d14 := it_1.mp c14
      rw [if_pos d14]
      refine ev_aload_n 21 dX9_time_20 rfl rfl ?_
      refine cVv0 24 kX9_time_178 dX9_time_21 rfl rfl rfl rfl rfl (by decide) rfl (Nat.le_of_ble_eq_true rfl) (m_asItIs) ?_
      rintro _ rfl
      refine ev_aload_n 25 dX9_time_24 rfl rfl ?_
      refine ev_iconst 26 dX9_time_25 rfl ?_
      refine cVv1 29 kX9_time_192 dX9_time_26 rfl rfl rfl rfl rfl (by decide) rfl (Nat.le_of_ble_eq_true rfl) (m_racesS (hN_W (hW d14) hs).1 (hN_W (hW d14) hs).2 ⟨by omega, by omega⟩) ?_
      rintro h' ⟨p1, -, -, p2, -⟩
      refine ev_aload_n 30 dX9_time_29 rfl rfl ?_
      refine ev_getR 33 fX9_56 rfl dX9_time_30 rfl rfl rfl ?_
      refine ev_iload_n 34 dX9_time_33 rfl rfl ?_
      refine ev_iald' 35 ((raceS h (h 4) 0).2.2.1 c) dX9_time_34 rfl rfl (by decide) (by omega) ((p2 c d5.1 d5.2).trans (hA.2.2.1 c d5.1 d5.2)) ?_
      exact ev_iret rfl dX9_time_35 (⟨rfl, PsM.N.tr p1⟩)
    · have d14 := it_0.mp c14
      rw [if_neg d14]
      refine ev_bipush 19 dX9_time_17 rfl (by decide +kernel) ?_
      exact ev_iret rfl dX9_time_19 (⟨rfl, PsM.rf⟩)
  · have d5 := it_0.mp c5
    rw [if_neg d5]
    refine ev_iconst 9 dX9_time_8 rfl ?_
    exact ev_iret rfl dX9_time_9 (⟨rfl, PsM.rf⟩)
theorem m_place (hc : R32 c) (hl : 0 ≤ h 0 0 ∧ h 0 0 ≤ 16) (hn : 0 ≤ h 0 2 ∧ h 0 2 ≤ 5) (hW : 0 < h 0 0 ∧ 0 < h 0 2 → MW h) (hs : NW (h 0 2) (h 4)) : Ev shM mX9_place 0 [some (vr 0), some (vi c)] [] h (RI fun x h' => x = (if 0 ≤ c ∧ c < h 0 2 then (if 0 < h 0 0 ∧ 0 < h 0 2 then (raceS h (h 4) 0).2.2.2.1 c else -2) else -1) ∧ PsM h h') := by
  have hA := raceS_ag (h := h) (s := h 4) (s' := hN h 13) (ill := 0) hn (fun i a b => hN_at a b)
  refine ev_aload_n 1 dX9_place_0 rfl rfl ?_
  refine ev_iload_n 2 dX9_place_1 rfl rfl ?_
  refine cVi1 5 kX9_place_175 dX9_place_2 rfl rfl rfl rfl rfl (by decide) rfl (Nat.le_of_ble_eq_true rfl) (m_isChair hc hn) ?_
  rintro x _ ⟨rfl, rfl⟩
  refine ev_if_ne 8 10 dX9_place_5 rfl rfl it_r (fun c5 => ?_) (fun c5 => ?_)
  · have d5 := it_1.mp c5
    rw [if_pos d5]
    refine ev_aload_n 11 dX9_place_10 rfl rfl ?_
    refine cVi0 14 kX9_place_184 dX9_place_11 rfl rfl rfl rfl rfl (by decide) rfl (Nat.le_of_ble_eq_true rfl) (m_isRace (by omega) (by omega)) ?_
    rintro x _ ⟨rfl, rfl⟩
    refine ev_if_ne 17 20 dX9_place_14 rfl rfl it_r (fun c14 => ?_) (fun c14 => ?_)
    · have d14 := it_1.mp c14
      rw [if_pos d14]
      have hO2 : (raceS h (hN h 13) 0).2.2.2.2 = h 0 2 := (raceS_ok (hN_W (hW d14) hs).1 (hN_W (hW d14) hs).2 0).2
      refine ev_aload_n 21 dX9_place_20 rfl rfl ?_
      refine cVv0 24 kX9_place_178 dX9_place_21 rfl rfl rfl rfl rfl (by decide) rfl (Nat.le_of_ble_eq_true rfl) (m_asItIs) ?_
      rintro _ rfl
      refine ev_aload_n 25 dX9_place_24 rfl rfl ?_
      refine ev_iconst 26 dX9_place_25 rfl ?_
      refine cVv1 29 kX9_place_192 dX9_place_26 rfl rfl rfl rfl rfl (by decide) rfl (Nat.le_of_ble_eq_true rfl) (m_racesS (hN_W (hW d14) hs).1 (hN_W (hW d14) hs).2 ⟨by omega, by omega⟩) ?_
      rintro h' ⟨p1, -, -, -, p2⟩
      refine ev_aload_n 30 dX9_place_29 rfl rfl ?_
      refine ev_getR 33 fX9_59 rfl dX9_place_30 rfl rfl rfl ?_
      refine ev_iload_n 34 dX9_place_33 rfl rfl ?_
      refine ev_iald' 35 ((raceS h (h 4) 0).2.2.2.1 c) dX9_place_34 rfl rfl (by decide) (by omega) ((p2 c d5.1 d5.2).trans (hA.2.2.2.1 c d5.1 (by omega))) ?_
      exact ev_iret rfl dX9_place_35 (⟨rfl, PsM.N.tr p1⟩)
    · have d14 := it_0.mp c14
      rw [if_neg d14]
      refine ev_bipush 19 dX9_place_17 rfl (by decide +kernel) ?_
      exact ev_iret rfl dX9_place_19 (⟨rfl, PsM.rf⟩)
  · have d5 := it_0.mp c5
    rw [if_neg d5]
    refine ev_iconst 9 dX9_place_8 rfl ?_
    exact ev_iret rfl dX9_place_9 (⟨rfl, PsM.rf⟩)
theorem m_times {t : Int} (hc : R32 c) (ht : R32 t) (hl : 0 ≤ h 0 0 ∧ h 0 0 ≤ 16) (hn : 0 ≤ h 0 2 ∧ h 0 2 ≤ 5) (hm : 0 ≤ h 0 10 ∧ h 0 10 ≤ 6) : Ev shM mX9_times 0 [some (vr 0), some (vi c), some (vi t)] [] h (RI fun x h' => (¬ ((0 ≤ c ∧ c < h 0 2) ∧ 1 ≤ t ∧ t ≤ 200) ∧ x = -1 ∧ h = h') ∨ (((0 ≤ c ∧ c < h 0 2) ∧ 1 ≤ t ∧ t ≤ 200) ∧ ¬ (0 < h 0 0 ∧ 0 < h 0 2) ∧ x = -2 ∧ h = h') ∨ (((0 ≤ c ∧ c < h 0 2) ∧ 1 ≤ t ∧ t ≤ 200) ∧ (0 < h 0 0 ∧ 0 < h 0 2) ∧ h 0 10 = 6 ∧ x = -3 ∧ h = h') ∨ (((0 ≤ c ∧ c < h 0 2) ∧ 1 ≤ t ∧ t ≤ 200) ∧ (0 < h 0 0 ∧ 0 < h 0 2) ∧ h 0 10 < 6 ∧ x = h 0 10 + 1 ∧ h' = hq h [(8, up (up (h 8) (2 * h 0 10) c) (2 * h 0 10 + 1) t), (0, up (h 0) 10 (h 0 10 + 1))])) := by
  refine ev_aload_n 1 dX9_times_0 rfl rfl ?_
  refine ev_iload_n 2 dX9_times_1 rfl rfl ?_
  refine cVi1 5 kX9_times_175 dX9_times_2 rfl rfl rfl rfl rfl (by decide) rfl (Nat.le_of_ble_eq_true rfl) (m_isChair hc hn) ?_
  rintro x _ ⟨rfl, rfl⟩
  refine ev_if_eq 8 19 dX9_times_5 rfl rfl it_r (fun c5 => ?_) (fun c5 => ?_)
  · have d5 := it_0.mp c5
    refine ev_iconst 20 dX9_times_19 rfl ?_
    exact ev_iret rfl dX9_times_20 (Or.inl ⟨by omega, rfl, rfl⟩)
  · have d5 := it_1.mp c5
    refine ev_iload_n 9 dX9_times_8 rfl rfl ?_
    refine ev_iconst 10 dX9_times_9 rfl ?_
    refine ev_sipush 13 dX9_times_10 rfl (by decide +kernel) ?_
    refine cSi3 16 kX9_times_78 dX9_times_13 rfl rfl (by decide) rfl (Nat.le_of_ble_eq_true rfl) (m_in ht ⟨by decide, by decide⟩ ⟨by decide, by decide⟩) ?_
    rintro x _ ⟨rfl, rfl⟩
    refine ev_if_ne 19 21 dX9_times_16 rfl rfl it_r (fun c16 => ?_) (fun c16 => ?_)
    · have d16 := it_1.mp c16
      refine ev_aload_n 22 dX9_times_21 rfl rfl ?_
      refine cVi0 25 kX9_times_184 dX9_times_22 rfl rfl rfl rfl rfl (by decide) rfl (Nat.le_of_ble_eq_true rfl) (m_isRace (by omega) (by omega)) ?_
      rintro x _ ⟨rfl, rfl⟩
      refine ev_if_ne 28 31 dX9_times_25 rfl rfl it_r (fun c25 => ?_) (fun c25 => ?_)
      · have d25 := it_1.mp c25
        refine ev_aload_n 32 dX9_times_31 rfl rfl ?_
        refine ev_getI 35 10 fX9_151 rfl dX9_times_32 rfl rfl rfl (by decide) rfl ?_
        refine ev_bipush 37 dX9_times_35 rfl (by decide +kernel) ?_
        refine ev_icmp_ne 40 43 dX9_times_37 rfl rfl (by omega) (by omega) (fun c37 => ?_) (fun c37 => ?_)
        · refine ev_aload_n 44 dX9_times_43 rfl rfl ?_
          refine ev_getR 47 fX9_32 rfl dX9_times_44 rfl rfl rfl ?_
          refine ev_iconst 48 dX9_times_47 rfl ?_
          refine ev_aload_n 49 dX9_times_48 rfl rfl ?_
          refine ev_getI 52 10 fX9_151 rfl dX9_times_49 rfl rfl rfl (by decide) rfl ?_
          refine ev_imul 53 dX9_times_52 rfl ?_
          refine ev_iload_n 54 dX9_times_53 rfl rfl ?_
          refine ev_iast' 55 (hq h [(8, up (h 8) (2 * h 0 10) c)]) dX9_times_54 rfl rfl (by decide) (by omega) (hq_put (L := [])) ?_
          refine ev_aload_n 56 dX9_times_55 rfl rfl ?_
          refine ev_getR 59 fX9_32 rfl dX9_times_56 rfl rfl rfl ?_
          refine ev_iconst 60 dX9_times_59 rfl ?_
          refine ev_aload_n 61 dX9_times_60 rfl rfl ?_
          refine ev_getI' 64 10 (h 0 10) fX9_151 rfl dX9_times_61 rfl rfl rfl (by decide) rfl rfl ?_
          refine ev_imul 65 dX9_times_64 rfl ?_
          refine ev_iconst 66 dX9_times_65 rfl ?_
          refine ev_iadd 67 dX9_times_66 rfl ?_
          refine ev_iload_n 68 dX9_times_67 rfl rfl ?_
          refine ev_iast' 69 (hq h [(8, up (up (h 8) (2 * h 0 10) c) (2 * h 0 10 + 1) t)]) dX9_times_68 rfl rfl (by decide) (by omega) hq_put ?_
          refine ev_aload_n 70 dX9_times_69 rfl rfl ?_
          refine ev_dup_r 71 dX9_times_70 rfl ?_
          refine ev_getI' 74 10 (h 0 10) fX9_151 rfl dX9_times_71 rfl rfl rfl (by decide) rfl rfl ?_
          refine ev_iconst 75 dX9_times_74 rfl ?_
          refine ev_iadd 76 dX9_times_75 rfl ?_
          refine ev_putI' 79 10 (hq h [(8, up (up (h 8) (2 * h 0 10) c) (2 * h 0 10 + 1) t), (0, up (h 0) 10 (h 0 10 + 1))]) pX9_151 rfl dX9_times_76 rfl rfl rfl rfl hq_put ?_
          refine ev_aload_n 80 dX9_times_79 rfl rfl ?_
          refine ev_getI' 83 10 (h 0 10 + 1) fX9_151 rfl dX9_times_80 rfl rfl rfl (by decide) rfl rfl ?_
          exact ev_iret rfl dX9_times_83 (Or.inr (Or.inr (Or.inr ⟨⟨d5, d16⟩, d25, by omega, rfl, rfl⟩)))
        · refine ev_bipush 42 dX9_times_40 rfl (by decide +kernel) ?_
          exact ev_iret rfl dX9_times_42 (Or.inr (Or.inr (Or.inl ⟨⟨d5, d16⟩, d25, by omega, rfl, rfl⟩)))
      · have d25 := it_0.mp c25
        refine ev_bipush 30 dX9_times_28 rfl (by decide +kernel) ?_
        exact ev_iret rfl dX9_times_30 (Or.inr (Or.inl ⟨⟨d5, d16⟩, d25, rfl, rfl⟩))
    · have d16 := it_0.mp c16
      refine ev_iconst 20 dX9_times_19 rfl ?_
      exact ev_iret rfl dX9_times_20 (Or.inl ⟨by omega, rfl, rfl⟩)
theorem m_keep {im : Int} (hi : R32 im) : Ev shM mX9_keep 0 [some (vr 0), some (vi im)] [] h (RI fun x h' => (¬ (0 ≤ im ∧ im ≤ 1) ∧ x = -1 ∧ h = h') ∨ ((0 ≤ im ∧ im ≤ 1) ∧ x = h 4 11 ∧ h' = hq h [(6, cpy (h 4) (h 6) 0 (17 * im) 17), (7, up (h 7) im 1)])) := by
  refine ev_iload_n 1 dX9_keep_0 rfl rfl ?_
  refine ev_iconst 2 dX9_keep_1 rfl ?_
  refine ev_iconst 3 dX9_keep_2 rfl ?_
  refine cSi3 6 kX9_keep_78 dX9_keep_3 rfl rfl (by decide) rfl (Nat.le_of_ble_eq_true rfl) (m_in hi ⟨by decide, by decide⟩ ⟨by decide, by decide⟩) ?_
  rintro x _ ⟨rfl, rfl⟩
  refine ev_if_ne 9 11 dX9_keep_6 rfl rfl it_r (fun c6 => ?_) (fun c6 => ?_)
  · have d6 := it_1.mp c6
    refine ev_aload_n 12 dX9_keep_11 rfl rfl ?_
    refine ev_getR 15 fX9_25 rfl dX9_keep_12 rfl rfl rfl ?_
    refine ev_bipush 17 dX9_keep_15 rfl (by decide +kernel) ?_
    refine ev_iload_n 18 dX9_keep_17 rfl rfl ?_
    refine ev_imul 19 dX9_keep_18 rfl ?_
    refine ev_aload_n 20 dX9_keep_19 rfl rfl ?_
    refine ev_getR 23 fX9_19 rfl dX9_keep_20 rfl rfl rfl ?_
    refine ev_iconst 24 dX9_keep_23 rfl ?_
    refine cSv4 27 kX9_keep_154 dX9_keep_24 rfl rfl (by decide) rfl (Nat.le_of_ble_eq_true rfl) (m_copy (a := 6) (b := 4) rfl rfl (by decide) (by decide) (by decide) (by omega) (by omega)) ?_
    rintro _ rfl
    refine ev_aload_n 28 dX9_keep_27 rfl rfl ?_
    refine ev_getR 31 fX9_28 rfl dX9_keep_28 rfl rfl rfl ?_
    refine ev_iload_n 32 dX9_keep_31 rfl rfl ?_
    refine ev_iconst 33 dX9_keep_32 rfl ?_
    refine ev_zast' 34 (hq h [(6, cpy (h 4) (h 6) 0 (17 * im) 17), (7, up (h 7) im 1)]) dX9_keep_33 rfl rfl (by decide) (by omega) (by omega) (hq_put (L := [(6, cpy (h 4) (h 6) 0 (17 * im) 17)]) |> fun e => (congrArg (fun z => hput z 7 _) (hq_put (L := []))).trans e) ?_
    refine ev_aload_n 35 dX9_keep_34 rfl rfl ?_
    refine ev_getR 38 fX9_19 rfl dX9_keep_35 rfl rfl rfl ?_
    refine ev_bipush 40 dX9_keep_38 rfl (by decide +kernel) ?_
    refine ev_iald' 41 (h 4 11) dX9_keep_40 rfl rfl (by decide) (by omega) rfl ?_
    exact ev_iret rfl dX9_keep_41 (Or.inr ⟨d6, rfl, rfl⟩)
  · have d6 := it_0.mp c6
    refine ev_iconst 10 dX9_keep_9 rfl ?_
    exact ev_iret rfl dX9_keep_10 (Or.inl ⟨d6, rfl, rfl⟩)
theorem m_back {im : Int} (hi : R32 im) (hk : ∀ i, 0 ≤ i → i ≤ 1 → R32 (h 7 i)) : Ev shM mX9_back 0 [some (vr 0), some (vi im)] [] h (RI fun x h' => (¬ (0 ≤ im ∧ im ≤ 1) ∧ x = -1 ∧ h = h') ∨ ((0 ≤ im ∧ im ≤ 1) ∧ h 7 im = 0 ∧ x = -2 ∧ h = h') ∨ ((0 ≤ im ∧ im ≤ 1) ∧ ¬ h 7 im = 0 ∧ x = h 6 (17 * im + 11) ∧ h' = hq h [(4, cpy (h 6) (h 4) (17 * im) 0 17), (0, up (h 0) 7 0)])) := by
  refine ev_iload_n 1 dX9_back_0 rfl rfl ?_
  refine ev_iconst 2 dX9_back_1 rfl ?_
  refine ev_iconst 3 dX9_back_2 rfl ?_
  refine cSi3 6 kX9_back_78 dX9_back_3 rfl rfl (by decide) rfl (Nat.le_of_ble_eq_true rfl) (m_in hi ⟨by decide, by decide⟩ ⟨by decide, by decide⟩) ?_
  rintro x _ ⟨rfl, rfl⟩
  refine ev_if_ne 9 11 dX9_back_6 rfl rfl it_r (fun c6 => ?_) (fun c6 => ?_)
  · have d6 := it_1.mp c6
    have h7 := hk im d6.1 d6.2
    refine ev_aload_n 12 dX9_back_11 rfl rfl ?_
    refine ev_getR 15 fX9_28 rfl dX9_back_12 rfl rfl rfl ?_
    refine ev_iload_n 16 dX9_back_15 rfl rfl ?_
    refine ev_zald 17 dX9_back_16 rfl rfl (by decide) (by omega) ?_
    refine ev_if_ne 20 23 dX9_back_17 rfl rfl (by omega) (fun c17 => ?_) (fun c17 => ?_)
    · refine ev_aload_n 24 dX9_back_23 rfl rfl ?_
      refine ev_getR 27 fX9_19 rfl dX9_back_24 rfl rfl rfl ?_
      refine ev_iconst 28 dX9_back_27 rfl ?_
      refine ev_aload_n 29 dX9_back_28 rfl rfl ?_
      refine ev_getR 32 fX9_25 rfl dX9_back_29 rfl rfl rfl ?_
      refine ev_bipush 34 dX9_back_32 rfl (by decide +kernel) ?_
      refine ev_iload_n 35 dX9_back_34 rfl rfl ?_
      refine ev_imul 36 dX9_back_35 rfl ?_
      refine cSv4 39 kX9_back_154 dX9_back_36 rfl rfl (by decide) rfl (Nat.le_of_ble_eq_true rfl) (m_copy (a := 4) (b := 6) rfl rfl (by decide) (by decide) (by decide) (by omega) (by omega)) ?_
      rintro _ rfl
      refine ev_aload_n 40 dX9_back_39 rfl rfl ?_
      refine ev_iconst 41 dX9_back_40 rfl ?_
      refine ev_putI' 44 7 (hq h [(4, cpy (h 6) (h 4) (17 * im) 0 17), (0, up (h 0) 7 0)]) pX9_148 rfl dX9_back_41 rfl rfl rfl rfl (hq_put (L := [(4, cpy (h 6) (h 4) (17 * im) 0 17)]) |> fun e => (congrArg (fun z => hput z 0 _) (hq_put (L := []))).trans e) ?_
      refine ev_aload_n 45 dX9_back_44 rfl rfl ?_
      refine ev_getR 48 fX9_19 rfl dX9_back_45 rfl rfl rfl ?_
      refine ev_bipush 50 dX9_back_48 rfl (by decide +kernel) ?_
      refine ev_iald' 51 (h 6 (17 * im + 11)) dX9_back_50 rfl rfl (by decide) (by omega) (by show cpy (h 6) (h 4) (17 * im) 0 17 11 = _; unfold cpy; rw [if_pos (by omega)]; rfl) ?_
      exact ev_iret rfl dX9_back_51 (Or.inr (Or.inr ⟨d6, c17, rfl, rfl⟩))
    · refine ev_bipush 22 dX9_back_20 rfl (by decide +kernel) ?_
      exact ev_iret rfl dX9_back_22 (Or.inr (Or.inl ⟨d6, c17, rfl, rfl⟩))
  · have d6 := it_0.mp c6
    refine ev_iconst 10 dX9_back_9 rfl ?_
    exact ev_iret rfl dX9_back_10 (Or.inl ⟨d6, rfl, rfl⟩)
end OPS
end
section
/-- a row's stretch moved down by seventeen -/
def sft (f : Int → Int) (k : Int) : Int → Int := fun i => if 0 ≤ i ∧ i < k then f (i + 17) else f i
theorem sft_0 {f : Int → Int} : sft f 0 = f := by
  funext i
  unfold sft
  rw [if_neg (by omega)]
theorem sft_1 {f : Int → Int} {k : Int} (h : 0 ≤ k) : up (sft f k) k (f (k + 17)) = sft f (k + 1) := by
  funext i
  unfold up
  by_cases q : i = k
  · subst q
    unfold sft
    rw [if_pos rfl, if_pos (by omega)]
  · rw [if_neg q]
    unfold sft
    by_cases q2 : 0 ≤ i ∧ i < k
    · rw [if_pos q2, if_pos (by omega)]
    · rw [if_neg q2, if_neg (by omega)]
/-- what is remembered: where there is no room the oldest goes -/
def rmb (h : Hp) : Hp := if h 0 7 = 10 then hq h [(5, cpy (h 4) (sft (h 5) 153) 0 153 17), (0, up (h 0) 7 10)] else hq h [(5, cpy (h 4) (h 5) 0 (17 * h 0 7) 17), (0, up (h 0) 7 (h 0 7 + 1))]
theorem m_rem_loop {h : Hp} {post : Option AV → Hp → Prop} : ∀ (n : Nat) (k : Int), 0 ≤ k → k + n = 153 → Ev shM mX9_remembers 39 [some (vr 0), some (vi 153)] [] (hq h [(5, sft (h 5) 153)]) post → Ev shM mX9_remembers 11 [some (vr 0), some (vi k)] [] (hq h [(5, sft (h 5) k)]) post := by
  intro n
  induction n with
  | zero =>
    intro k h0 h1 K
    have e : k = 153 := by omega
    subst e
    refine ev_iload_n 12 dX9_remembers_11 rfl rfl ?_
    refine ev_sipush 15 dX9_remembers_12 rfl (by decide +kernel) ?_
    refine ev_icmp_ge 18 39 dX9_remembers_15 rfl rfl (by omega) (by omega) (fun c15 => ?_) (fun c15 => ?_)
    · exact K
    · omega --done
  | succ n ih =>
    intro k h0 h1 K
    refine ev_iload_n 12 dX9_remembers_11 rfl rfl ?_
    refine ev_sipush 15 dX9_remembers_12 rfl (by decide +kernel) ?_
    refine ev_icmp_ge 18 39 dX9_remembers_15 rfl rfl (by omega) (by omega) (fun c15 => ?_) (fun c15 => ?_)
    · omega --done
    · refine ev_aload_n 19 dX9_remembers_18 rfl rfl ?_
      refine ev_getR 22 fX9_22 rfl dX9_remembers_19 rfl rfl rfl ?_
      refine ev_iload_n 23 dX9_remembers_22 rfl rfl ?_
      refine ev_aload_n 24 dX9_remembers_23 rfl rfl ?_
      refine ev_getR 27 fX9_22 rfl dX9_remembers_24 rfl rfl rfl ?_
      refine ev_iload_n 28 dX9_remembers_27 rfl rfl ?_
      refine ev_bipush 30 dX9_remembers_28 rfl (by decide +kernel) ?_
      refine ev_iadd 31 dX9_remembers_30 rfl ?_
      refine ev_iald' 32 (h 5 (k + 17)) dX9_remembers_31 rfl rfl (by decide) (by omega) (by show sft (h 5) k (k + 17) = _; unfold sft; rw [if_neg (by omega)]) ?_
      refine ev_iast' 33 (hq h [(5, sft (h 5) (k + 1))]) dX9_remembers_32 rfl rfl (by decide) (by omega) (hq_put.trans (by show hq h [(5, up (sft (h 5) k) k (h 5 (k + 17)))] = _; rw [sft_1 h0])) ?_
      refine ev_iinc 36 dX9_remembers_33 rfl rfl ?_
      refine ev_goto 11 dX9_remembers_36 rfl ?_
      exact ih (k + 1) (by omega) (by omega) K
theorem m_remembers {h : Hp} (hk : 0 ≤ h 0 7 ∧ h 0 7 ≤ 10) : Ev shM mX9_remembers 0 [some (vr 0), none] [] h (RV fun h' => h' = rmb h) := by
  unfold rmb
  refine ev_aload_n 1 dX9_remembers_0 rfl rfl ?_
  refine ev_getI 4 7 fX9_148 rfl dX9_remembers_1 rfl rfl rfl (by decide) rfl ?_
  refine ev_bipush 6 dX9_remembers_4 rfl (by decide +kernel) ?_
  refine ev_icmp_ne 9 49 dX9_remembers_6 rfl rfl (by omega) (by omega) (fun c6 => ?_) (fun c6 => ?_)
  · rw [if_neg c6]
    have e0 : h = hq h [] := rfl
    refine ev_aload_n 50 dX9_remembers_49 rfl rfl ?_
    refine ev_getR 53 fX9_22 rfl dX9_remembers_50 rfl rfl rfl ?_
    refine ev_bipush 55 dX9_remembers_53 rfl (by decide +kernel) ?_
    refine ev_aload_n 56 dX9_remembers_55 rfl rfl ?_
    refine ev_getI 59 7 fX9_148 rfl dX9_remembers_56 rfl rfl rfl (by decide) rfl ?_
    refine ev_imul 60 dX9_remembers_59 rfl ?_
    refine ev_aload_n 61 dX9_remembers_60 rfl rfl ?_
    refine ev_getR 64 fX9_19 rfl dX9_remembers_61 rfl rfl rfl ?_
    refine ev_iconst 65 dX9_remembers_64 rfl ?_
    refine cSv4 68 kX9_remembers_154 dX9_remembers_65 rfl rfl (by decide) rfl (Nat.le_of_ble_eq_true rfl) (m_copy (a := 5) (b := 4) rfl rfl (by decide) (by decide) (by decide) (by omega) (by omega)) ?_
    rintro _ rfl
    refine ev_aload_n 69 dX9_remembers_68 rfl rfl ?_
    refine ev_dup_r 70 dX9_remembers_69 rfl ?_
    refine ev_getI' 73 7 (h 0 7) fX9_148 rfl dX9_remembers_70 rfl rfl rfl (by decide) rfl rfl ?_
    refine ev_iconst 74 dX9_remembers_73 rfl ?_
    refine ev_iadd 75 dX9_remembers_74 rfl ?_
    refine ev_putI' 78 7 (hq h [(5, cpy (h 4) (h 5) 0 (17 * h 0 7) 17), (0, up (h 0) 7 (h 0 7 + 1))]) pX9_148 rfl dX9_remembers_75 rfl rfl rfl rfl ((congrArg (fun z => hput z 0 _) (hq_put (L := []))).trans hq_put) ?_
    exact ev_vret rfl dX9_remembers_78 (rfl)
  · rw [if_pos c6]
    have e0 : h = hq h [(5, sft (h 5) 0)] := by rw [sft_0]; exact (hq_id (fun p hp => by rw [List.mem_singleton.mp hp])).symm
    refine ev_iconst 10 dX9_remembers_9 rfl ?_
    refine ev_istore_n 11 dX9_remembers_10 rfl (Nat.le_of_ble_eq_true rfl) ?_
    refine ev_heap e0 (m_rem_loop 153 0 (by omega) (by omega) ?_)
    refine ev_aload_n 40 dX9_remembers_39 rfl rfl ?_
    refine ev_dup_r 41 dX9_remembers_40 rfl ?_
    refine ev_getI' 44 7 10 fX9_148 rfl dX9_remembers_41 rfl rfl rfl (by decide) rfl c6 ?_
    refine ev_iconst 45 dX9_remembers_44 rfl ?_
    refine ev_isub 46 dX9_remembers_45 rfl ?_
    refine ev_putI' 49 7 (hq h [(5, sft (h 5) 153), (0, up (h 0) 7 9)]) pX9_148 rfl dX9_remembers_46 rfl rfl rfl rfl hq_put ?_
    refine ev_aload_n 50 dX9_remembers_49 rfl rfl ?_
    refine ev_getR 53 fX9_22 rfl dX9_remembers_50 rfl rfl rfl ?_
    refine ev_bipush 55 dX9_remembers_53 rfl (by decide +kernel) ?_
    refine ev_aload_n 56 dX9_remembers_55 rfl rfl ?_
    refine ev_getI' 59 7 9 fX9_148 rfl dX9_remembers_56 rfl rfl rfl (by decide) rfl rfl ?_
    refine ev_imul 60 dX9_remembers_59 rfl ?_
    refine ev_aload_n 61 dX9_remembers_60 rfl rfl ?_
    refine ev_getR 64 fX9_19 rfl dX9_remembers_61 rfl rfl rfl ?_
    refine ev_iconst 65 dX9_remembers_64 rfl ?_
    refine cSv4 68 kX9_remembers_154 dX9_remembers_65 rfl rfl (by decide) rfl (Nat.le_of_ble_eq_true rfl) (m_copy (a := 5) (b := 4) rfl rfl (by decide) (by decide) (by decide) (by omega) (by omega)) ?_
    rintro _ rfl
    refine ev_aload_n 69 dX9_remembers_68 rfl rfl ?_
    refine ev_dup_r 70 dX9_remembers_69 rfl ?_
    refine ev_getI' 73 7 9 fX9_148 rfl dX9_remembers_70 rfl rfl rfl (by decide) rfl rfl ?_
    refine ev_iconst 74 dX9_remembers_73 rfl ?_
    refine ev_iadd 75 dX9_remembers_74 rfl ?_
    refine ev_putI' 78 7 (hq h [(5, cpy (h 4) (sft (h 5) 153) 0 153 17), (0, up (h 0) 7 10)]) pX9_148 rfl dX9_remembers_75 rfl rfl rfl rfl ((congrArg (fun z => hput z 0 _) hq_put).trans (hq_put.trans (by show hq h [(5, cpy (h 4) (sft (h 5) 153) 0 153 17), (0, up (up (h 0) 7 9) 7 10)] = _; rw [up_up]))) ?_
    exact ev_vret rfl dX9_remembers_78 rfl
theorem rmb_4 {h : Hp} : rmb h 4 = h 4 := by unfold rmb; split <;> rfl
theorem rmb_1 {h : Hp} (k : Nat) (hk : Nat.beq k 5 = false) (hk2 : Nat.beq k 0 = false) : rmb h k = h k := by
  unfold rmb
  split
  · exact hq_out (by simp only [List.all_cons, List.all_nil, Bool.and_true]; rw [hk, hk2]; rfl)
  · exact hq_out (by simp only [List.all_cons, List.all_nil, Bool.and_true]; rw [hk, hk2]; rfl)
theorem rmb_0 {h : Hp} {i : Int} (hi : i ≠ 7) : rmb h 0 i = h 0 i := by
  unfold rmb
  split
  · exact up_n hi
  · exact up_n hi
section DD
variable {h : Hp} {c : Int}
theorem m_sets {d : Int} (hc : R32 c) (hd : R32 d) (hn : 0 ≤ h 0 2 ∧ h 0 2 ≤ 5) (hs : NW (h 0 2) (h 4)) (hk : 0 ≤ h 0 7 ∧ h 0 7 ≤ 10) : Ev shM mX9_sets 0 [some (vr 0), some (vi c), some (vi d), none] [] h (RI fun x h' => (¬ ((0 ≤ c ∧ c < h 0 2) ∧ 0 ≤ d ∧ d ≤ 5) ∧ x = -1 ∧ h = h') ∨ (((0 ≤ c ∧ c < h 0 2) ∧ 0 ≤ d ∧ d ≤ 5) ∧ h 4 (5 + c) = d ∧ x = -2 ∧ h = h') ∨ (((0 ≤ c ∧ c < h 0 2) ∧ 0 ≤ d ∧ d ≤ 5) ∧ ¬ h 4 (5 + c) = d ∧ x = h 4 (5 + c) ∧ h' = hput (rmb h) 4 (up (h 4) (5 + c) d))) := by
  refine ev_aload_n 1 dX9_sets_0 rfl rfl ?_
  refine ev_iload_n 2 dX9_sets_1 rfl rfl ?_
  refine cVi1 5 kX9_sets_175 dX9_sets_2 rfl rfl rfl rfl rfl (by decide) rfl (Nat.le_of_ble_eq_true rfl) (m_isChair hc hn) ?_
  rintro x _ ⟨rfl, rfl⟩
  refine ev_if_eq 8 17 dX9_sets_5 rfl rfl it_r (fun c5 => ?_) (fun c5 => ?_)
  · have d5 := it_0.mp c5
    refine ev_iconst 18 dX9_sets_17 rfl ?_
    exact ev_iret rfl dX9_sets_18 (Or.inl ⟨by omega, rfl, rfl⟩)
  · have d5 := it_1.mp c5
    have hsc := hs.1 c d5.1 d5.2
    refine ev_iload_n 9 dX9_sets_8 rfl rfl ?_
    refine ev_iconst 10 dX9_sets_9 rfl ?_
    refine ev_iconst 11 dX9_sets_10 rfl ?_
    refine cSi3 14 kX9_sets_78 dX9_sets_11 rfl rfl (by decide) rfl (Nat.le_of_ble_eq_true rfl) (m_in hd ⟨by decide, by decide⟩ ⟨by decide, by decide⟩) ?_
    rintro x _ ⟨rfl, rfl⟩
    refine ev_if_ne 17 19 dX9_sets_14 rfl rfl it_r (fun c14 => ?_) (fun c14 => ?_)
    · have d14 := it_1.mp c14
      refine ev_aload_n 20 dX9_sets_19 rfl rfl ?_
      refine ev_getR 23 fX9_19 rfl dX9_sets_20 rfl rfl rfl ?_
      refine ev_iconst 24 dX9_sets_23 rfl ?_
      refine ev_iload_n 25 dX9_sets_24 rfl rfl ?_
      refine ev_iadd 26 dX9_sets_25 rfl ?_
      refine ev_iald 27 dX9_sets_26 rfl rfl (by decide) (by omega) ?_
      refine ev_istore_n 28 dX9_sets_27 rfl (Nat.le_of_ble_eq_true rfl) ?_
      refine ev_iload_n 29 dX9_sets_28 rfl rfl ?_
      refine ev_iload_n 30 dX9_sets_29 rfl rfl ?_
      refine ev_icmp_ne 33 36 dX9_sets_30 rfl rfl (by omega) (by omega) (fun c30 => ?_) (fun c30 => ?_)
      · refine ev_aload_n 37 dX9_sets_36 rfl rfl ?_
        refine cVv0 40 kX9_sets_210 dX9_sets_37 rfl rfl rfl rfl rfl (by decide) rfl (Nat.le_of_ble_eq_true rfl) (m_remembers hk) ?_
        rintro _ rfl
        refine ev_aload_n 41 dX9_sets_40 rfl rfl ?_
        refine ev_getR 44 fX9_19 rfl dX9_sets_41 rfl rfl rfl ?_
        refine ev_iconst 45 dX9_sets_44 rfl ?_
        refine ev_iload_n 46 dX9_sets_45 rfl rfl ?_
        refine ev_iadd 47 dX9_sets_46 rfl ?_
        refine ev_iload_n 48 dX9_sets_47 rfl rfl ?_
        refine ev_iast' 49 (hput (rmb h) 4 (up (h 4) (5 + c) d)) dX9_sets_48 rfl rfl (by decide) (by omega) (by rw [rmb_4]) ?_
        refine ev_iload_n 50 dX9_sets_49 rfl rfl ?_
        exact ev_iret rfl dX9_sets_50 (Or.inr (Or.inr ⟨⟨d5, d14⟩, c30, rfl, rfl⟩))
      · refine ev_bipush 35 dX9_sets_33 rfl (by decide +kernel) ?_
        exact ev_iret rfl dX9_sets_35 (Or.inr (Or.inl ⟨⟨d5, d14⟩, c30, rfl, rfl⟩))
    · have d14 := it_0.mp c14
      refine ev_iconst 18 dX9_sets_17 rfl ?_
      exact ev_iret rfl dX9_sets_18 (Or.inl ⟨by omega, rfl, rfl⟩)
theorem m_changes {e : Int} (hc : R32 c) (he : R32 e) (hn : 0 ≤ h 0 2 ∧ h 0 2 ≤ 5) (hk : 0 ≤ h 0 7 ∧ h 0 7 ≤ 10) : Ev shM mX9_changes 0 [some (vr 0), some (vi c), some (vi e), none] [] h (RI fun x h' => (¬ ((0 ≤ c ∧ c < h 0 2) ∧ (0 ≤ e ∧ e < h 0 2) ∧ ¬ c = e) ∧ x = -1 ∧ h = h') ∨ (((0 ≤ c ∧ c < h 0 2) ∧ (0 ≤ e ∧ e < h 0 2) ∧ ¬ c = e) ∧ x = h 4 e ∧ h' = hput (rmb h) 4 (up (up (h 4) c (h 4 e)) e (h 4 c)))) := by
  refine ev_aload_n 1 dX9_changes_0 rfl rfl ?_
  refine ev_iload_n 2 dX9_changes_1 rfl rfl ?_
  refine cVi1 5 kX9_changes_175 dX9_changes_2 rfl rfl rfl rfl rfl (by decide) rfl (Nat.le_of_ble_eq_true rfl) (m_isChair hc hn) ?_
  rintro x _ ⟨rfl, rfl⟩
  refine ev_if_eq 8 21 dX9_changes_5 rfl rfl it_r (fun c5 => ?_) (fun c5 => ?_)
  · have d5 := it_0.mp c5
    refine ev_iconst 22 dX9_changes_21 rfl ?_
    exact ev_iret rfl dX9_changes_22 (Or.inl ⟨by omega, rfl, rfl⟩)
  · have d5 := it_1.mp c5
    refine ev_aload_n 9 dX9_changes_8 rfl rfl ?_
    refine ev_iload_n 10 dX9_changes_9 rfl rfl ?_
    refine cVi1 13 kX9_changes_175 dX9_changes_10 rfl rfl rfl rfl rfl (by decide) rfl (Nat.le_of_ble_eq_true rfl) (m_isChair he hn) ?_
    rintro x _ ⟨rfl, rfl⟩
    refine ev_if_eq 16 21 dX9_changes_13 rfl rfl it_r (fun c13 => ?_) (fun c13 => ?_)
    · have d13 := it_0.mp c13
      refine ev_iconst 22 dX9_changes_21 rfl ?_
      exact ev_iret rfl dX9_changes_22 (Or.inl ⟨by omega, rfl, rfl⟩)
    · have d13 := it_1.mp c13
      refine ev_iload_n 17 dX9_changes_16 rfl rfl ?_
      refine ev_iload_n 18 dX9_changes_17 rfl rfl ?_
      refine ev_icmp_ne 21 23 dX9_changes_18 rfl rfl (by omega) (by omega) (fun c18 => ?_) (fun c18 => ?_)
      · refine ev_aload_n 24 dX9_changes_23 rfl rfl ?_
        refine cVv0 27 kX9_changes_210 dX9_changes_24 rfl rfl rfl rfl rfl (by decide) rfl (Nat.le_of_ble_eq_true rfl) (m_remembers hk) ?_
        rintro _ rfl
        refine ev_aload_n 28 dX9_changes_27 rfl rfl ?_
        refine ev_getR 31 fX9_19 rfl dX9_changes_28 rfl rfl rfl ?_
        refine ev_iconst 32 dX9_changes_31 rfl ?_
        refine ev_iload_n 33 dX9_changes_32 rfl rfl ?_
        refine ev_iadd 34 dX9_changes_33 rfl ?_
        refine ev_iald' 35 (h 4 c) dX9_changes_34 rfl rfl (by decide) (by omega) (by rw [rmb_4, Int.zero_add]) ?_
        refine ev_istore_n 36 dX9_changes_35 rfl (Nat.le_of_ble_eq_true rfl) ?_
        refine ev_aload_n 37 dX9_changes_36 rfl rfl ?_
        refine ev_getR 40 fX9_19 rfl dX9_changes_37 rfl rfl rfl ?_
        refine ev_iconst 41 dX9_changes_40 rfl ?_
        refine ev_iload_n 42 dX9_changes_41 rfl rfl ?_
        refine ev_iadd 43 dX9_changes_42 rfl ?_
        refine ev_aload_n 44 dX9_changes_43 rfl rfl ?_
        refine ev_getR 47 fX9_19 rfl dX9_changes_44 rfl rfl rfl ?_
        refine ev_iconst 48 dX9_changes_47 rfl ?_
        refine ev_iload_n 49 dX9_changes_48 rfl rfl ?_
        refine ev_iadd 50 dX9_changes_49 rfl ?_
        refine ev_iald' 51 (h 4 e) dX9_changes_50 rfl rfl (by decide) (by omega) (by rw [rmb_4, Int.zero_add]) ?_
        refine ev_iast' 52 (hput (rmb h) 4 (up (h 4) c (h 4 e))) dX9_changes_51 rfl rfl (by decide) (by omega) (by rw [rmb_4, Int.zero_add]) ?_
        refine ev_aload_n 53 dX9_changes_52 rfl rfl ?_
        refine ev_getR 56 fX9_19 rfl dX9_changes_53 rfl rfl rfl ?_
        refine ev_iconst 57 dX9_changes_56 rfl ?_
        refine ev_iload_n 58 dX9_changes_57 rfl rfl ?_
        refine ev_iadd 59 dX9_changes_58 rfl ?_
        refine ev_iload_n 60 dX9_changes_59 rfl rfl ?_
        refine ev_iast' 61 (hput (rmb h) 4 (up (up (h 4) c (h 4 e)) e (h 4 c))) dX9_changes_60 rfl rfl (by decide) (by omega) (by rw [hput_hput, hput_s, Int.zero_add]) ?_
        refine ev_aload_n 62 dX9_changes_61 rfl rfl ?_
        refine ev_getR 65 fX9_19 rfl dX9_changes_62 rfl rfl rfl ?_
        refine ev_iconst 66 dX9_changes_65 rfl ?_
        refine ev_iload_n 67 dX9_changes_66 rfl rfl ?_
        refine ev_iadd 68 dX9_changes_67 rfl ?_
        refine ev_iald' 69 (h 4 e) dX9_changes_68 rfl rfl (by decide) (by omega) (by rw [hput_s, Int.zero_add, up_n (by omega), up_s]) ?_
        exact ev_iret rfl dX9_changes_69 (Or.inr ⟨⟨d5, d13, c18⟩, rfl, rfl⟩)
      · refine ev_iconst 22 dX9_changes_21 rfl ?_
        exact ev_iret rfl dX9_changes_22 (Or.inl ⟨by omega, rfl, rfl⟩)
def cntG (s : Int → Int) (n : Int) : Int := sumZ (fun e => bit (s 10) e) n.toNat
theorem m_gr_loop {v : Int} {h : Hp} (hn : 0 ≤ h 0 2 ∧ h 0 2 ≤ 5) (hv : 0 ≤ h 4 10 ∧ h 4 10 < 32) {i2 : Int} : ∀ (k : Nat) (e : Int), 0 ≤ e → e + k = h 0 2 → Ev shM mX9_greases 68 [some (vr 0), some (vi c), some (vi i2), some (vi (sumZ (fun e => bit (h 4 10) e) e.toNat)), some (vi e)] [] h (RI fun x h' => x = cntG (h 4) (h 0 2) ∧ h = h') := by
  intro k
  induction k with
  | zero =>
    intro e h0 h1
    have he : e = h 0 2 := by omega
    subst he
    refine ev_iload 70 dX9_greases_68 rfl rfl ?_
    refine ev_aload_n 71 dX9_greases_70 rfl rfl ?_
    refine ev_getI 74 2 fX9_74 rfl dX9_greases_71 rfl rfl rfl (by decide) rfl ?_
    refine ev_icmp_ge 77 98 dX9_greases_74 rfl rfl (by omega) (by omega) (fun c74 => ?_) (fun c74 => ?_)
    · refine ev_iload_n 99 dX9_greases_98 rfl rfl ?_
      exact ev_iret rfl dX9_greases_99 (⟨rfl, rfl⟩)
    · omega --done
  | succ k ih =>
    intro e h0 h1
    have hb : ((((h 4 10 / 2 ^ e.toNat).toNat &&& (1 : Int).toNat : Nat)) : Int) = bit (h 4 10) e := by
      have h2 : 0 ≤ h 4 10 / 2 ^ e.toNat := Int.ediv_nonneg hv.1 (Int.le_of_lt (Int.pow_pos (by decide)))
      rw [show (1 : Int).toNat = 1 from rfl, Nat.and_one_is_mod, Int.natCast_emod, Int.toNat_of_nonneg h2]
      rfl
    have K := ih (e + 1) (by omega) (by omega)
    rw [sumZ_1 h0] at K
    refine ev_iload 70 dX9_greases_68 rfl rfl ?_
    refine ev_aload_n 71 dX9_greases_70 rfl rfl ?_
    refine ev_getI 74 2 fX9_74 rfl dX9_greases_71 rfl rfl rfl (by decide) rfl ?_
    refine ev_icmp_ge 77 98 dX9_greases_74 rfl rfl (by omega) (by omega) (fun c74 => ?_) (fun c74 => ?_)
    · omega --done
    · refine ev_iload_n 78 dX9_greases_77 rfl rfl ?_
      refine ev_aload_n 79 dX9_greases_78 rfl rfl ?_
      refine ev_getR 82 fX9_19 rfl dX9_greases_79 rfl rfl rfl ?_
      refine ev_bipush 84 dX9_greases_82 rfl (by decide +kernel) ?_
      refine ev_iald 85 dX9_greases_84 rfl rfl (by decide) (by omega) ?_
      refine ev_iload 87 dX9_greases_85 rfl rfl ?_
      refine ev_ishr 88 dX9_greases_87 rfl (by omega) (by omega) ?_
      refine ev_iconst 89 dX9_greases_88 rfl ?_
      refine ev_iand 90 dX9_greases_89 rfl (Int.ediv_nonneg hv.1 (Int.le_of_lt (Int.pow_pos (by decide)))) (by decide) ?_
      rw [hb]
      refine ev_iadd 91 dX9_greases_90 rfl ?_
      refine ev_istore_n 92 dX9_greases_91 rfl (Nat.le_of_ble_eq_true rfl) ?_
      refine ev_iinc 95 dX9_greases_92 rfl rfl ?_
      refine ev_goto 68 dX9_greases_95 rfl ?_
      exact K
theorem pw_r {c : Int} (hc : 0 ≤ c ∧ c ≤ 5) : (0 : Int) ≤ 1 * 2 ^ c.toNat ∧ (1 : Int) * 2 ^ c.toNat < 4294967296 := by
  have : c = 0 ∨ c = 1 ∨ c = 2 ∨ c = 3 ∨ c = 4 ∨ c = 5 := by omega
  rcases this with rfl | rfl | rfl | rfl | rfl | rfl <;> decide
theorem xor_r {a c : Int} (ha : 0 ≤ a ∧ a < 32) (hc : 0 ≤ c ∧ c < 5) : 0 ≤ ((a.toNat ^^^ (1 * 2 ^ c.toNat : Int).toNat : Nat) : Int) ∧ ((a.toNat ^^^ (1 * 2 ^ c.toNat : Int).toNat : Nat) : Int) < 32 := by
  refine ⟨by omega, ?_⟩
  have h1 : a.toNat < 2 ^ 5 := by omega
  have h2 : (1 * 2 ^ c.toNat : Int).toNat < 2 ^ 5 := by
    have : c = 0 ∨ c = 1 ∨ c = 2 ∨ c = 3 ∨ c = 4 := by omega
    rcases this with rfl | rfl | rfl | rfl | rfl <;> decide
  have := Nat.xor_lt_two_pow h1 h2
  omega
def gx (a c : Int) : Int := ((a.toNat ^^^ (1 * 2 ^ c.toNat : Int).toNat : Nat) : Int)
theorem m_greases {i : Int} (hc : R32 c) (hi : R32 i) (hn : 0 ≤ h 0 2 ∧ h 0 2 ≤ 5) (hs : 0 ≤ h 4 10 ∧ h 4 10 < 32) (hk : 0 ≤ h 0 7 ∧ h 0 7 ≤ 10) : Ev shM mX9_greases 0 [some (vr 0), some (vi c), some (vi i), none, none] [] h (RI fun x h' => (¬ ((0 ≤ c ∧ c < h 0 2) ∧ 0 ≤ i ∧ i ≤ 1) ∧ x = -1 ∧ h = h') ∨ (((0 ≤ c ∧ c < h 0 2) ∧ 0 ≤ i ∧ i ≤ 1) ∧ bit (h 4 10) c = i ∧ x = -2 ∧ h = h') ∨ (((0 ≤ c ∧ c < h 0 2) ∧ 0 ≤ i ∧ i ≤ 1) ∧ ¬ bit (h 4 10) c = i ∧ x = cntG (up (h 4) 10 (gx (h 4 10) c)) (h 0 2) ∧ h' = hput (rmb h) 4 (up (h 4) 10 (gx (h 4 10) c)))) := by
  have hz := bit_z (h 4 10) c
  refine ev_aload_n 1 dX9_greases_0 rfl rfl ?_
  refine ev_iload_n 2 dX9_greases_1 rfl rfl ?_
  refine cVi1 5 kX9_greases_175 dX9_greases_2 rfl rfl rfl rfl rfl (by decide) rfl (Nat.le_of_ble_eq_true rfl) (m_isChair hc hn) ?_
  rintro x _ ⟨rfl, rfl⟩
  refine ev_if_eq 8 17 dX9_greases_5 rfl rfl it_r (fun c5 => ?_) (fun c5 => ?_)
  · have d5 := it_0.mp c5
    refine ev_iconst 18 dX9_greases_17 rfl ?_
    exact ev_iret rfl dX9_greases_18 (Or.inl ⟨by omega, rfl, rfl⟩)
  · have d5 := it_1.mp c5
    have hx := xor_r hs ⟨d5.1, by omega⟩
    refine ev_iload_n 9 dX9_greases_8 rfl rfl ?_
    refine ev_iconst 10 dX9_greases_9 rfl ?_
    refine ev_iconst 11 dX9_greases_10 rfl ?_
    refine cSi3 14 kX9_greases_78 dX9_greases_11 rfl rfl (by decide) rfl (Nat.le_of_ble_eq_true rfl) (m_in hi ⟨by decide, by decide⟩ ⟨by decide, by decide⟩) ?_
    rintro x _ ⟨rfl, rfl⟩
    refine ev_if_ne 17 19 dX9_greases_14 rfl rfl it_r (fun c14 => ?_) (fun c14 => ?_)
    · have d14 := it_1.mp c14
      refine ev_aload_n 20 dX9_greases_19 rfl rfl ?_
      refine ev_getR 23 fX9_19 rfl dX9_greases_20 rfl rfl rfl ?_
      refine ev_bipush 25 dX9_greases_23 rfl (by decide +kernel) ?_
      refine ev_iald 26 dX9_greases_25 rfl rfl (by decide) (by omega) ?_
      refine ev_iload_n 27 dX9_greases_26 rfl rfl ?_
      refine cSi2 30 kX9_greases_158 dX9_greases_27 rfl rfl (by decide) rfl (Nat.le_of_ble_eq_true rfl) (m_has ⟨hs.1, by omega⟩ (by omega)) ?_
      rintro x _ ⟨e27, rfl⟩
      rw [show x = bit (h 4 10) c from e27]
      refine ev_iload_n 31 dX9_greases_30 rfl rfl ?_
      refine ev_iconst 32 dX9_greases_31 rfl ?_
      refine ev_icmp_ne 35 39 dX9_greases_32 rfl rfl (by omega) (by omega) (fun c32 => ?_) (fun c32 => ?_)
      · refine ev_iconst 40 dX9_greases_39 rfl ?_
        refine ev_icmp_ne 43 46 dX9_greases_40 rfl rfl (by omega) (by omega) (fun c40 => ?_) (fun c40 => ?_)
        · refine ev_aload_n 47 dX9_greases_46 rfl rfl ?_
          refine cVv0 50 kX9_greases_210 dX9_greases_47 rfl rfl rfl rfl rfl (by decide) rfl (Nat.le_of_ble_eq_true rfl) (m_remembers hk) ?_
          rintro _ rfl
          refine ev_aload_n 51 dX9_greases_50 rfl rfl ?_
          refine ev_getR 54 fX9_19 rfl dX9_greases_51 rfl rfl rfl ?_
          refine ev_bipush 56 dX9_greases_54 rfl (by decide +kernel) ?_
          refine ev_dup2 57 dX9_greases_56 rfl ?_
          refine ev_iald' 58 (h 4 10) dX9_greases_57 rfl rfl (by decide) (by omega) (by rw [rmb_4]) ?_
          refine ev_iconst 59 dX9_greases_58 rfl ?_
          refine ev_iload_n 60 dX9_greases_59 rfl rfl ?_
          refine ev_ishl 61 dX9_greases_60 rfl (by omega) (by omega) (pw_r (c := c) ⟨d5.1, by omega⟩).2 ?_
          refine ev_ixor 62 dX9_greases_61 rfl hs.1 (pw_r (c := c) ⟨d5.1, by omega⟩).1 ?_
          refine ev_iast' 63 (hput (rmb h) 4 (up (h 4) 10 (gx (h 4 10) c))) dX9_greases_62 rfl rfl (by decide) (by omega) (by rw [rmb_4]; rfl) ?_
          refine ev_iconst 64 dX9_greases_63 rfl ?_
          refine ev_istore_n 65 dX9_greases_64 rfl (Nat.le_of_ble_eq_true rfl) ?_
          refine ev_iconst 66 dX9_greases_65 rfl ?_
          refine ev_istore 68 dX9_greases_66 rfl (Nat.le_of_ble_eq_true rfl) ?_
          refine ev_wk (m_gr_loop (v := 0) (h := hput (rmb h) 4 (up (h 4) 10 (gx (h 4 10) c))) (by show 0 ≤ rmb h 0 2 ∧ rmb h 0 2 ≤ 5; rw [rmb_0 (by decide)]; exact hn) (by show 0 ≤ gx (h 4 10) c ∧ gx (h 4 10) c < 32; exact hx) (h 0 2).toNat 0 (by omega) (by show _ = rmb h 0 2; rw [rmb_0 (by decide)]; omega)) ?_
          rintro _ _ ⟨x, rfl, e1, rfl⟩
          refine ⟨x, rfl, Or.inr (Or.inr ⟨⟨d5, d14⟩, by omega, ?_, rfl⟩)⟩
          rw [e1]
          show cntG (up (h 4) 10 (gx (h 4 10) c)) (rmb h 0 2) = _
          rw [rmb_0 (by decide)]
        · refine ev_bipush 45 dX9_greases_43 rfl (by decide +kernel) ?_
          exact ev_iret rfl dX9_greases_45 (Or.inr (Or.inl ⟨⟨d5, d14⟩, by omega, rfl, rfl⟩))
      · refine ev_iconst 36 dX9_greases_35 rfl ?_
        refine ev_goto 40 dX9_greases_36 rfl ?_
        refine ev_icmp_ne 43 46 dX9_greases_40 rfl rfl (by omega) (by omega) (fun c40 => ?_) (fun c40 => ?_)
        · refine ev_aload_n 47 dX9_greases_46 rfl rfl ?_
          refine cVv0 50 kX9_greases_210 dX9_greases_47 rfl rfl rfl rfl rfl (by decide) rfl (Nat.le_of_ble_eq_true rfl) (m_remembers hk) ?_
          rintro _ rfl
          refine ev_aload_n 51 dX9_greases_50 rfl rfl ?_
          refine ev_getR 54 fX9_19 rfl dX9_greases_51 rfl rfl rfl ?_
          refine ev_bipush 56 dX9_greases_54 rfl (by decide +kernel) ?_
          refine ev_dup2 57 dX9_greases_56 rfl ?_
          refine ev_iald' 58 (h 4 10) dX9_greases_57 rfl rfl (by decide) (by omega) (by rw [rmb_4]) ?_
          refine ev_iconst 59 dX9_greases_58 rfl ?_
          refine ev_iload_n 60 dX9_greases_59 rfl rfl ?_
          refine ev_ishl 61 dX9_greases_60 rfl (by omega) (by omega) (pw_r (c := c) ⟨d5.1, by omega⟩).2 ?_
          refine ev_ixor 62 dX9_greases_61 rfl hs.1 (pw_r (c := c) ⟨d5.1, by omega⟩).1 ?_
          refine ev_iast' 63 (hput (rmb h) 4 (up (h 4) 10 (gx (h 4 10) c))) dX9_greases_62 rfl rfl (by decide) (by omega) (by rw [rmb_4]; rfl) ?_
          refine ev_iconst 64 dX9_greases_63 rfl ?_
          refine ev_istore_n 65 dX9_greases_64 rfl (Nat.le_of_ble_eq_true rfl) ?_
          refine ev_iconst 66 dX9_greases_65 rfl ?_
          refine ev_istore 68 dX9_greases_66 rfl (Nat.le_of_ble_eq_true rfl) ?_
          refine ev_wk (m_gr_loop (v := 0) (h := hput (rmb h) 4 (up (h 4) 10 (gx (h 4 10) c))) (by show 0 ≤ rmb h 0 2 ∧ rmb h 0 2 ≤ 5; rw [rmb_0 (by decide)]; exact hn) (by show 0 ≤ gx (h 4 10) c ∧ gx (h 4 10) c < 32; exact hx) (h 0 2).toNat 0 (by omega) (by show _ = rmb h 0 2; rw [rmb_0 (by decide)]; omega)) ?_
          rintro _ _ ⟨x, rfl, e1, rfl⟩
          refine ⟨x, rfl, Or.inr (Or.inr ⟨⟨d5, d14⟩, by omega, ?_, rfl⟩)⟩
          rw [e1]
          show cntG (up (h 4) 10 (gx (h 4 10) c)) (rmb h 0 2) = _
          rw [rmb_0 (by decide)]
        · refine ev_bipush 45 dX9_greases_43 rfl (by decide +kernel) ?_
          exact ev_iret rfl dX9_greases_45 (Or.inr (Or.inl ⟨⟨d5, d14⟩, by omega, rfl, rfl⟩))
    · have d14 := it_0.mp c14
      refine ev_iconst 18 dX9_greases_17 rfl ?_
      exact ev_iret rfl dX9_greases_18 (Or.inl ⟨by omega, rfl, rfl⟩)
theorem m_undo (hk : 0 ≤ h 0 7 ∧ h 0 7 ≤ 10) : Ev shM mX9_undo 0 [some (vr 0)] [] h (RI fun x h' => (h 0 7 = 0 ∧ x = -2 ∧ h = h') ∨ (0 < h 0 7 ∧ x = h 0 7 - 1 ∧ h' = hq h [(0, up (h 0) 7 (h 0 7 - 1)), (4, cpy (h 5) (h 4) (17 * (h 0 7 - 1)) 0 17)])) := by
  refine ev_aload_n 1 dX9_undo_0 rfl rfl ?_
  refine ev_getI 4 7 fX9_148 rfl dX9_undo_1 rfl rfl rfl (by decide) rfl ?_
  refine ev_if_ne 7 10 dX9_undo_4 rfl rfl (by omega) (fun c4 => ?_) (fun c4 => ?_)
  · refine ev_aload_n 11 dX9_undo_10 rfl rfl ?_
    refine ev_dup_r 12 dX9_undo_11 rfl ?_
    refine ev_getI 15 7 fX9_148 rfl dX9_undo_12 rfl rfl rfl (by decide) rfl ?_
    refine ev_iconst 16 dX9_undo_15 rfl ?_
    refine ev_isub 17 dX9_undo_16 rfl ?_
    refine ev_putI' 20 7 (hq h [(0, up (h 0) 7 (h 0 7 - 1))]) pX9_148 rfl dX9_undo_17 rfl rfl rfl rfl (hq_put (L := [])) ?_
    refine ev_aload_n 21 dX9_undo_20 rfl rfl ?_
    refine ev_getR 24 fX9_19 rfl dX9_undo_21 rfl rfl rfl ?_
    refine ev_iconst 25 dX9_undo_24 rfl ?_
    refine ev_aload_n 26 dX9_undo_25 rfl rfl ?_
    refine ev_getR 29 fX9_22 rfl dX9_undo_26 rfl rfl rfl ?_
    refine ev_bipush 31 dX9_undo_29 rfl (by decide +kernel) ?_
    refine ev_aload_n 32 dX9_undo_31 rfl rfl ?_
    refine ev_getI' 35 7 (h 0 7 - 1) fX9_148 rfl dX9_undo_32 rfl rfl rfl (by decide) rfl rfl ?_
    refine ev_imul 36 dX9_undo_35 rfl ?_
    refine cSv4 39 kX9_undo_154 dX9_undo_36 rfl rfl (by decide) rfl (Nat.le_of_ble_eq_true rfl) (m_copy (a := 4) (b := 5) rfl rfl (by decide) (by decide) (by decide) (by omega) (by omega)) ?_
    rintro _ rfl
    refine ev_heap hq_put ?_
    refine ev_aload_n 40 dX9_undo_39 rfl rfl ?_
    refine ev_getI' 43 7 (h 0 7 - 1) fX9_148 rfl dX9_undo_40 rfl rfl rfl (by decide) rfl rfl ?_
    exact ev_iret rfl dX9_undo_43 (Or.inr ⟨by omega, rfl, rfl⟩)
  · refine ev_bipush 9 dX9_undo_7 rfl (by decide +kernel) ?_
    exact ev_iret rfl dX9_undo_9 (Or.inl ⟨by omega, rfl, rfl⟩)
theorem m_tuesday (hl : 0 ≤ h 0 0 ∧ h 0 0 ≤ 16) (hn : 0 ≤ h 0 2 ∧ h 0 2 ≤ 5) (hW : 0 < h 0 0 ∧ 0 < h 0 2 → MW h) (hs : NW (h 0 2) (h 4)) (hk : 0 ≤ h 0 7 ∧ h 0 7 ≤ 10) (hw : 0 ≤ h 4 11 ∧ h 4 11 ≤ 999) : Ev shM mX9_tuesday 0 [some (vr 0), none] [] h (RI fun x h' => (¬ ((0 < h 0 0 ∧ 0 < h 0 2) ∧ ¬ h 4 11 = 999) ∧ x = -2 ∧ h = h') ∨ (((0 < h 0 0 ∧ 0 < h 0 2) ∧ ¬ h 4 11 = 999) ∧ x = (raceS h (h 4) 0).2.2.2.1 0 ∧ PsM (hput (rmb h) 4 (up (up (h 4) 11 (h 4 11 + 1)) (12 + x) (h 4 (12 + x) + 1))) h')) := by
  refine ev_aload_n 1 dX9_tuesday_0 rfl rfl ?_
  refine cVi0 4 kX9_tuesday_184 dX9_tuesday_1 rfl rfl rfl rfl rfl (by decide) rfl (Nat.le_of_ble_eq_true rfl) (m_isRace (by omega) (by omega)) ?_
  rintro x _ ⟨rfl, rfl⟩
  refine ev_if_eq 7 20 dX9_tuesday_4 rfl rfl it_r (fun c4 => ?_) (fun c4 => ?_)
  · have d4 := it_0.mp c4
    refine ev_bipush 22 dX9_tuesday_20 rfl (by decide +kernel) ?_
    exact ev_iret rfl dX9_tuesday_22 (Or.inl ⟨by omega, rfl, rfl⟩)
  · have d4 := it_1.mp c4
    refine ev_aload_n 8 dX9_tuesday_7 rfl rfl ?_
    refine ev_getR 11 fX9_19 rfl dX9_tuesday_8 rfl rfl rfl ?_
    refine ev_bipush 13 dX9_tuesday_11 rfl (by decide +kernel) ?_
    refine ev_iald 14 dX9_tuesday_13 rfl rfl (by decide) (by omega) ?_
    refine ev_sipush 17 dX9_tuesday_14 rfl (by decide +kernel) ?_
    refine ev_icmp_ne 20 23 dX9_tuesday_17 rfl rfl (by omega) (by omega) (fun c17 => ?_) (fun c17 => ?_)
    · refine ev_aload_n 24 dX9_tuesday_23 rfl rfl ?_
      refine cVv0 27 kX9_tuesday_210 dX9_tuesday_24 rfl rfl rfl rfl rfl (by decide) rfl (Nat.le_of_ble_eq_true rfl) (m_remembers hk) ?_
      rintro _ rfl
      have hWr : MW (rmb h) := by
        have := hW d4
        unfold MW MCh at this ⊢
        rw [rmb_1 1 rfl rfl, rmb_1 2 rfl rfl, rmb_1 3 rfl rfl, rmb_0 (by decide), rmb_0 (by decide)]
        exact this
      have hsr : NW (rmb h 0 2) (rmb h 4) := by rw [rmb_4, rmb_0 (by decide)]; exact hs
      have hRr : raceS (rmb h) (rmb h 4) 0 = raceS h (h 4) 0 := by
        unfold raceS
        rw [rmb_1 1 rfl rfl, rmb_1 2 rfl rfl, rmb_1 3 rfl rfl, rmb_0 (by decide), rmb_0 (by decide), rmb_4]
      have hO := raceS_ok (hW d4) hs 0
      have hx := hO.1.2.2 0 (by omega) (by omega)
      refine ev_aload_n 28 dX9_tuesday_27 rfl rfl ?_
      refine cVi0 31 kX9_tuesday_196 dX9_tuesday_28 rfl rfl rfl rfl rfl (by decide) rfl (Nat.le_of_ble_eq_true rfl) (m_first hWr hsr) ?_
      rintro x h1 ⟨e28, p1⟩
      rw [hRr] at e28
      rw [← e28] at hx
      have e4 : h1 4 = h 4 := (p1.1 4 (by decide) (by decide)).trans rmb_4
      refine ev_istore_n 32 dX9_tuesday_31 rfl (Nat.le_of_ble_eq_true rfl) ?_
      refine ev_aload_n 33 dX9_tuesday_32 rfl rfl ?_
      refine ev_getR 36 fX9_19 rfl dX9_tuesday_33 rfl rfl rfl ?_
      refine ev_bipush 38 dX9_tuesday_36 rfl (by decide +kernel) ?_
      refine ev_dup2 39 dX9_tuesday_38 rfl ?_
      refine ev_iald' 40 (h 4 11) dX9_tuesday_39 rfl rfl (by decide) (by omega) (by rw [e4]) ?_
      refine ev_iconst 41 dX9_tuesday_40 rfl ?_
      refine ev_iadd 42 dX9_tuesday_41 rfl ?_
      refine ev_iast' 43 (hput h1 4 (up (h 4) 11 (h 4 11 + 1))) dX9_tuesday_42 rfl rfl (by decide) (by omega) (by rw [e4]) ?_
      refine ev_aload_n 44 dX9_tuesday_43 rfl rfl ?_
      refine ev_getR 47 fX9_19 rfl dX9_tuesday_44 rfl rfl rfl ?_
      refine ev_bipush 49 dX9_tuesday_47 rfl (by decide +kernel) ?_
      refine ev_iload_n 50 dX9_tuesday_49 rfl rfl ?_
      refine ev_iadd 51 dX9_tuesday_50 rfl ?_
      refine ev_dup2 52 dX9_tuesday_51 rfl ?_
      refine ev_iald' 53 (h 4 (12 + x)) dX9_tuesday_52 rfl rfl (by decide) (by omega) (by rw [hput_s, up_n (by omega)]) ?_
      refine ev_iconst 54 dX9_tuesday_53 rfl ?_
      refine ev_iadd 55 dX9_tuesday_54 rfl ?_
      refine ev_iast' 56 (hput h1 4 (up (up (h 4) 11 (h 4 11 + 1)) (12 + x) (h 4 (12 + x) + 1))) dX9_tuesday_55 rfl rfl (by decide) (by omega) (by rw [hput_hput, hput_s]) ?_
      refine ev_iload_n 57 dX9_tuesday_56 rfl rfl ?_
      exact ev_iret rfl dX9_tuesday_57 (Or.inr ⟨⟨d4, c17⟩, e28, ⟨nine (p1.1 1 (by decide) (by decide)) (p1.1 2 (by decide) (by decide)) (p1.1 3 (by decide) (by decide)) rfl (p1.1 5 (by decide) (by decide)) (p1.1 6 (by decide) (by decide)) (p1.1 7 (by decide) (by decide)) (p1.1 8 (by decide) (by decide)) (p1.1 9 (by decide) (by decide)), p1.2⟩⟩)
    · refine ev_bipush 22 dX9_tuesday_20 rfl (by decide +kernel) ?_
      exact ev_iret rfl dX9_tuesday_22 (Or.inl ⟨by omega, rfl, rfl⟩)
end DD
end
section
def rateM (h : Hp) (k c : Int) : Int := if k = 1 then h 2 (2 * c) + h 4 (5 + c) else if k = 2 then h 2 (2 * c) - sGain (h 3) (fun c => h 2 (2 * c)) (h 4) 0 c else if k = 3 then 2 * (h 2 (2 * c) + h 4 (5 + c)) else if k = 4 then h 2 (2 * c) - sGain (h 3) (fun c => h 2 (2 * c)) (h 4) 0 c + c else if k = 5 then h 2 (2 * c) + h 4 11 else h 2 (2 * c)
def trM (k : Int) : Int := if k = 1 then 11 else if k = 2 then 101 else if k = 3 then 1011 else if k = 4 then 10101 else if k = 5 then 100001 else 1
theorem PsM.T {h : Hp} {f g : Int → Int} : PsM (hput h 0 g) (hput (hput h 13 f) 0 g) := ⟨nine rfl rfl rfl rfl rfl rfl rfl rfl rfl, fun _ _ => rfl⟩
section AS
variable {h : Hp} {c : Int}
theorem m_rate {k : Int} (hk : R32 k) (hc : R32 c) (hn : 0 ≤ h 0 2 ∧ h 0 2 ≤ 5) (hC : MCh h) (hs : NW (h 0 2) (h 4)) : Ev shM mX9_rate 0 [some (vr 0), some (vi k), some (vi c), none, none, none] [] h (RI fun x h' => (¬ ((0 ≤ k ∧ k ≤ 5) ∧ 0 ≤ c ∧ c < h 0 2) ∧ x = -1000000 ∧ h = h') ∨ (((0 ≤ k ∧ k ≤ 5) ∧ 0 ≤ c ∧ c < h 0 2) ∧ x = rateM h k c ∧ PsM (hput h 0 (up (h 0) 12 (h 0 12 + trM k))) h')) := by
  unfold rateM trM
  refine ev_iload_n 1 dX9_rate_0 rfl rfl ?_
  refine ev_iconst 2 dX9_rate_1 rfl ?_
  refine ev_iconst 3 dX9_rate_2 rfl ?_
  refine cSi3 6 kX9_rate_78 dX9_rate_3 rfl rfl (by decide) rfl (Nat.le_of_ble_eq_true rfl) (m_in hk ⟨by decide, by decide⟩ ⟨by decide, by decide⟩) ?_
  rintro x _ ⟨rfl, rfl⟩
  refine ev_if_eq 9 17 dX9_rate_6 rfl rfl it_r (fun c6 => ?_) (fun c6 => ?_)
  · have d6 := it_0.mp c6
    refine ev_ldc 19 (-1000000) qX9_219 (by decide +kernel) dX9_rate_17 rfl ?_
    exact ev_iret rfl dX9_rate_19 (Or.inl ⟨by omega, rfl, rfl⟩)
  · have d6 := it_1.mp c6
    refine ev_aload_n 10 dX9_rate_9 rfl rfl ?_
    refine ev_iload_n 11 dX9_rate_10 rfl rfl ?_
    refine cVi1 14 kX9_rate_175 dX9_rate_11 rfl rfl rfl rfl rfl (by decide) rfl (Nat.le_of_ble_eq_true rfl) (m_isChair hc hn) ?_
    rintro x _ ⟨rfl, rfl⟩
    refine ev_if_ne 17 20 dX9_rate_14 rfl rfl it_r (fun c14 => ?_) (fun c14 => ?_)
    · have d14 := it_1.mp c14
      refine ev_aload_n 21 dX9_rate_20 rfl rfl ?_
      refine cVv0 24 kX9_rate_178 dX9_rate_21 rfl rfl rfl rfl rfl (by decide) rfl (Nat.le_of_ble_eq_true rfl) (m_asItIs) ?_
      rintro _ rfl
      refine ev_aload_n 25 dX9_rate_24 rfl rfl ?_
      refine ev_getR 28 fX9_13 rfl dX9_rate_25 rfl rfl rfl ?_
      refine ev_iconst 29 dX9_rate_28 rfl ?_
      refine ev_iload_n 30 dX9_rate_29 rfl rfl ?_
      refine ev_imul 31 dX9_rate_30 rfl ?_
      refine ev_iald' 32 (h 2 (2 * c)) dX9_rate_31 rfl rfl (by decide) (by omega) rfl ?_
      refine ev_istore_n 33 dX9_rate_32 rfl (Nat.le_of_ble_eq_true rfl) ?_
      refine ev_iload_n 34 dX9_rate_33 rfl rfl ?_
      refine ev_aload_n 35 dX9_rate_34 rfl rfl ?_
      refine ev_getR 38 fX9_19 rfl dX9_rate_35 rfl rfl rfl ?_
      refine ev_iconst 39 dX9_rate_38 rfl ?_
      refine ev_iload_n 40 dX9_rate_39 rfl rfl ?_
      refine ev_iadd 41 dX9_rate_40 rfl ?_
      refine ev_iald' 42 (h 4 (5 + c)) dX9_rate_41 rfl rfl (by decide) (by omega) rfl ?_
      refine ev_iadd 43 dX9_rate_42 rfl ?_
      refine ev_istore 45 dX9_rate_43 rfl (Nat.le_of_ble_eq_true rfl) ?_
      refine ev_iload_n 46 dX9_rate_45 rfl rfl ?_
      refine ev_aload_n 47 dX9_rate_46 rfl rfl ?_
      refine ev_iload_n 48 dX9_rate_47 rfl rfl ?_
      refine ev_iconst 49 dX9_rate_48 rfl ?_
      refine cVi2 52 kX9_rate_168 dX9_rate_49 rfl rfl rfl rfl rfl (by decide) rfl (Nat.le_of_ble_eq_true rfl) (m_gainOf (h := hN h) hn.2 (hN_C hn hC hs).1 (hN_C hn hC hs).2 (by omega) d14) ?_
      rintro x _ ⟨rfl, rfl⟩
      rw [mGain_N hn d14]
      refine ev_isub 53 dX9_rate_52 rfl ?_
      refine ev_istore 55 dX9_rate_53 rfl (Nat.le_of_ble_eq_true rfl) ?_
      refine ev_iload_n 56 dX9_rate_55 rfl rfl ?_
      by_cases w56 : k < 1 ∨ 5 < k
      · refine ev_tswOut 178 dX9_rate_56 (by omega) w56 rfl ?_
        have hk0 : k = 0 := by omega
        subst hk0
        refine ev_aload_n 179 dX9_rate_178 rfl rfl ?_
        refine ev_dup_r 180 dX9_rate_179 rfl ?_
        refine ev_getL 183 12 fX9_220 rfl dX9_rate_180 rfl rfl rfl rfl ?_
        refine ev_lconst 184 1 dX9_rate_183 rfl (by decide +kernel) ?_
        refine ev_ladd 185 dX9_rate_184 rfl ?_
        refine ev_putL 188 12 pX9_220 rfl dX9_rate_185 rfl rfl rfl rfl ?_
        refine ev_iload_n 189 dX9_rate_188 rfl rfl ?_
        exact ev_iret rfl dX9_rate_189 (Or.inr ⟨by omega, rfl, PsM.T⟩)
      have w56 : k = 1 ∨ k = 2 ∨ k = 3 ∨ k = 4 ∨ k = 5 := by omega
      rcases w56 with w56 | w56 | w56 | w56 | w56
      · rw [w56]
        refine ev_tswIn 92 dX9_rate_56 ⟨by decide, by decide⟩ (by decide) (by decide) rfl rfl ?_
        refine ev_aload_n 93 dX9_rate_92 rfl rfl ?_
        refine ev_dup_r 94 dX9_rate_93 rfl ?_
        refine ev_getL 97 12 fX9_220 rfl dX9_rate_94 rfl rfl rfl rfl ?_
        refine ev_ldc2 100 (11) qX9_224 (by decide +kernel) dX9_rate_97 rfl ?_
        refine ev_ladd 101 dX9_rate_100 rfl ?_
        refine ev_putL 104 12 pX9_220 rfl dX9_rate_101 rfl rfl rfl rfl ?_
        refine ev_iload 106 dX9_rate_104 rfl rfl ?_
        exact ev_iret rfl dX9_rate_106 (Or.inr ⟨by omega, rfl, PsM.T⟩)
      · rw [w56]
        refine ev_tswIn 107 dX9_rate_56 ⟨by decide, by decide⟩ (by decide) (by decide) rfl rfl ?_
        refine ev_aload_n 108 dX9_rate_107 rfl rfl ?_
        refine ev_dup_r 109 dX9_rate_108 rfl ?_
        refine ev_getL 112 12 fX9_220 rfl dX9_rate_109 rfl rfl rfl rfl ?_
        refine ev_ldc2 115 (101) qX9_226 (by decide +kernel) dX9_rate_112 rfl ?_
        refine ev_ladd 116 dX9_rate_115 rfl ?_
        refine ev_putL 119 12 pX9_220 rfl dX9_rate_116 rfl rfl rfl rfl ?_
        refine ev_iload 121 dX9_rate_119 rfl rfl ?_
        exact ev_iret rfl dX9_rate_121 (Or.inr ⟨by omega, rfl, PsM.T⟩)
      · rw [w56]
        refine ev_tswIn 122 dX9_rate_56 ⟨by decide, by decide⟩ (by decide) (by decide) rfl rfl ?_
        refine ev_aload_n 123 dX9_rate_122 rfl rfl ?_
        refine ev_dup_r 124 dX9_rate_123 rfl ?_
        refine ev_getL 127 12 fX9_220 rfl dX9_rate_124 rfl rfl rfl rfl ?_
        refine ev_ldc2 130 (1011) qX9_228 (by decide +kernel) dX9_rate_127 rfl ?_
        refine ev_ladd 131 dX9_rate_130 rfl ?_
        refine ev_putL 134 12 pX9_220 rfl dX9_rate_131 rfl rfl rfl rfl ?_
        refine ev_iconst 135 dX9_rate_134 rfl ?_
        refine ev_iload 137 dX9_rate_135 rfl rfl ?_
        refine ev_imul 138 dX9_rate_137 rfl ?_
        exact ev_iret rfl dX9_rate_138 (Or.inr ⟨by omega, rfl, PsM.T⟩)
      · rw [w56]
        refine ev_tswIn 139 dX9_rate_56 ⟨by decide, by decide⟩ (by decide) (by decide) rfl rfl ?_
        refine ev_aload_n 140 dX9_rate_139 rfl rfl ?_
        refine ev_dup_r 141 dX9_rate_140 rfl ?_
        refine ev_getL 144 12 fX9_220 rfl dX9_rate_141 rfl rfl rfl rfl ?_
        refine ev_ldc2 147 (10101) qX9_230 (by decide +kernel) dX9_rate_144 rfl ?_
        refine ev_ladd 148 dX9_rate_147 rfl ?_
        refine ev_putL 151 12 pX9_220 rfl dX9_rate_148 rfl rfl rfl rfl ?_
        refine ev_iload 153 dX9_rate_151 rfl rfl ?_
        refine ev_iload_n 154 dX9_rate_153 rfl rfl ?_
        refine ev_iadd 155 dX9_rate_154 rfl ?_
        exact ev_iret rfl dX9_rate_155 (Or.inr ⟨by omega, rfl, PsM.T⟩)
      · rw [w56]
        refine ev_tswIn 156 dX9_rate_56 ⟨by decide, by decide⟩ (by decide) (by decide) rfl rfl ?_
        refine ev_aload_n 157 dX9_rate_156 rfl rfl ?_
        refine ev_dup_r 158 dX9_rate_157 rfl ?_
        refine ev_getL 161 12 fX9_220 rfl dX9_rate_158 rfl rfl rfl rfl ?_
        refine ev_ldc2 164 (100001) qX9_232 (by decide +kernel) dX9_rate_161 rfl ?_
        refine ev_ladd 165 dX9_rate_164 rfl ?_
        refine ev_putL 168 12 pX9_220 rfl dX9_rate_165 rfl rfl rfl rfl ?_
        refine ev_iload_n 169 dX9_rate_168 rfl rfl ?_
        refine ev_aload_n 170 dX9_rate_169 rfl rfl ?_
        refine ev_getR 173 fX9_19 rfl dX9_rate_170 rfl rfl rfl ?_
        refine ev_bipush 175 dX9_rate_173 rfl (by decide +kernel) ?_
        refine ev_iald' 176 (h 4 11) dX9_rate_175 rfl rfl (by decide) (by omega) rfl ?_
        refine ev_iadd 177 dX9_rate_176 rfl ?_
        exact ev_iret rfl dX9_rate_177 (Or.inr ⟨by omega, rfl, PsM.T⟩)
    · have d14 := it_0.mp c14
      refine ev_ldc 19 (-1000000) qX9_219 (by decide +kernel) dX9_rate_17 rfl ?_
      exact ev_iret rfl dX9_rate_19 (Or.inl ⟨by omega, rfl, rfl⟩)
def rsum (n : Int) (pol reg : Int → Int) (p : Int) : Int := sumZ (fun c => if pol c = p then reg c else 0) n.toNat
def ruF (f : Int → Int) : Nat → Int → Int → Int → Int
  | 0, _, w, _ => w
  | k + 1, p, w, m => if m < f p then ruF f k (p + 1) p (f p) else ruF f k (p + 1) w m
theorem m_ruled_in {post : Option AV → Hp → Prop} {w m p : Int} (hn : 0 ≤ h 0 2 ∧ h 0 2 ≤ 5) (hp : R32 p) (hpol : ∀ c, 0 ≤ c → c < h 0 2 → R32 (h 2 (2 * c + 1))) : ∀ (k : Nat) (c : Int), 0 ≤ c → c + k = h 0 2 → Ev shM mX9_ruled 67 [some (vr 0), some (vi w), some (vi m), some (vi p), some (vi (rsum (h 0 2) (fun c => h 2 (2 * c + 1)) (fun c => h 4 (12 + c)) p)), some (vi (h 0 2))] [] h post → Ev shM mX9_ruled 18 [some (vr 0), some (vi w), some (vi m), some (vi p), some (vi (sumZ (fun c => if h 2 (2 * c + 1) = p then h 4 (12 + c) else 0) c.toNat)), some (vi c)] [] h post := by
  intro k
  induction k with
  | zero =>
    intro c h0 h1 K
    have he : c = h 0 2 := by omega
    subst he
    refine ev_iload 20 dX9_ruled_18 rfl rfl ?_
    refine ev_aload_n 21 dX9_ruled_20 rfl rfl ?_
    refine ev_getI 24 2 fX9_74 rfl dX9_ruled_21 rfl rfl rfl (by decide) rfl ?_
    refine ev_icmp_ge 27 67 dX9_ruled_24 rfl rfl (by omega) (by omega) (fun c24 => ?_) (fun c24 => ?_)
    · exact K
    · omega --done
  | succ k ih =>
    intro c h0 h1 K
    have hpc := hpol c h0 (by omega)
    have K2 := ih (c + 1) (by omega) (by omega) K
    rw [sumZ_1 h0] at K2
    refine ev_iload 20 dX9_ruled_18 rfl rfl ?_
    refine ev_aload_n 21 dX9_ruled_20 rfl rfl ?_
    refine ev_getI 24 2 fX9_74 rfl dX9_ruled_21 rfl rfl rfl (by decide) rfl ?_
    refine ev_icmp_ge 27 67 dX9_ruled_24 rfl rfl (by omega) (by omega) (fun c24 => ?_) (fun c24 => ?_)
    · omega --done
    · refine ev_iload 29 dX9_ruled_27 rfl rfl ?_
      refine ev_aload_n 30 dX9_ruled_29 rfl rfl ?_
      refine ev_getR 33 fX9_13 rfl dX9_ruled_30 rfl rfl rfl ?_
      refine ev_iconst 34 dX9_ruled_33 rfl ?_
      refine ev_iload 36 dX9_ruled_34 rfl rfl ?_
      refine ev_imul 37 dX9_ruled_36 rfl ?_
      refine ev_iconst 38 dX9_ruled_37 rfl ?_
      refine ev_iadd 39 dX9_ruled_38 rfl ?_
      refine ev_iald 40 dX9_ruled_39 rfl rfl (by decide) (by omega) ?_
      refine ev_iload_n 41 dX9_ruled_40 rfl rfl ?_
      refine ev_icmp_ne 44 57 dX9_ruled_41 rfl rfl (by omega) (by omega) (fun c41 => ?_) (fun c41 => ?_)
      · rw [if_neg c41] at K2
        refine ev_iconst 58 dX9_ruled_57 rfl ?_
        refine ev_iadd 59 dX9_ruled_58 rfl ?_
        refine ev_istore 61 dX9_ruled_59 rfl (Nat.le_of_ble_eq_true rfl) ?_
        refine ev_iinc 64 dX9_ruled_61 rfl rfl ?_
        refine ev_goto 18 dX9_ruled_64 rfl ?_
        exact K2
      · rw [if_pos c41] at K2
        refine ev_aload_n 45 dX9_ruled_44 rfl rfl ?_
        refine ev_getR 48 fX9_19 rfl dX9_ruled_45 rfl rfl rfl ?_
        refine ev_bipush 50 dX9_ruled_48 rfl (by decide +kernel) ?_
        refine ev_iload 52 dX9_ruled_50 rfl rfl ?_
        refine ev_iadd 53 dX9_ruled_52 rfl ?_
        refine ev_iald 54 dX9_ruled_53 rfl rfl (by decide) (by omega) ?_
        refine ev_goto 58 dX9_ruled_54 rfl ?_
        refine ev_iadd 59 dX9_ruled_58 rfl ?_
        refine ev_istore 61 dX9_ruled_59 rfl (Nat.le_of_ble_eq_true rfl) ?_
        refine ev_iinc 64 dX9_ruled_61 rfl rfl ?_
        refine ev_goto 18 dX9_ruled_64 rfl ?_
        exact K2
theorem m_ruled_out (hn : 0 ≤ h 0 2 ∧ h 0 2 ≤ 5) (hpol : ∀ c, 0 ≤ c → c < h 0 2 → R32 (h 2 (2 * c + 1))) (hreg : ∀ c, 0 ≤ c → c < h 0 2 → 0 ≤ h 4 (12 + c) ∧ h 4 (12 + c) ≤ 1000) : ∀ (k : Nat) (p w m : Int) (o1 o2 : Option AV), 0 ≤ p → p + k = 4 → R32 m → Ev shM mX9_ruled 7 [some (vr 0), some (vi w), some (vi m), some (vi p), o1, o2] [] h (RI fun x h' => x = ruF (rsum (h 0 2) (fun c => h 2 (2 * c + 1)) (fun c => h 4 (12 + c))) k p w m ∧ h = h') := by
  have hrs : ∀ p, 0 ≤ rsum (h 0 2) (fun c => h 2 (2 * c + 1)) (fun c => h 4 (12 + c)) p ∧ rsum (h 0 2) (fun c => h 2 (2 * c + 1)) (fun c => h 4 (12 + c)) p ≤ 5000 := by
    intro p
    have h1 := sumZ_nn (f := fun c => if h 2 (2 * c + 1) = p then h 4 (12 + c) else 0) (k := (h 0 2).toNat) (fun c a b => by have := hreg c a (by omega); split <;> omega)
    have h2 := sumZ_bd (f := fun c => if h 2 (2 * c + 1) = p then h 4 (12 + c) else 0) (b := 1000) (k := (h 0 2).toNat) (fun c a b => by have := hreg c a (by omega); split <;> omega)
    exact ⟨h1, by show sumZ (fun c => if h 2 (2 * c + 1) = p then h 4 (12 + c) else 0) (h 0 2).toNat ≤ 5000; omega⟩
  intro k
  induction k with
  | zero =>
    intro p w m o1 o2 h0 h1 hm
    refine ev_iload_n 8 dX9_ruled_7 rfl rfl ?_
    refine ev_iconst 9 dX9_ruled_8 rfl ?_
    refine ev_icmp_ge 12 98 dX9_ruled_9 rfl rfl (by omega) (by omega) (fun c9 => ?_) (fun c9 => ?_)
    · refine ev_iload_n 99 dX9_ruled_98 rfl rfl ?_
      exact ev_iret rfl dX9_ruled_99 (⟨rfl, rfl⟩)
    · omega --done
  | succ k ih =>
    intro p w m o1 o2 h0 h1 hm
    have hp := hrs p
    unfold ruF
    refine ev_iload_n 8 dX9_ruled_7 rfl rfl ?_
    refine ev_iconst 9 dX9_ruled_8 rfl ?_
    refine ev_icmp_ge 12 98 dX9_ruled_9 rfl rfl (by omega) (by omega) (fun c9 => ?_) (fun c9 => ?_)
    · omega --done
    · refine ev_iconst 13 dX9_ruled_12 rfl ?_
      refine ev_istore 15 dX9_ruled_13 rfl (Nat.le_of_ble_eq_true rfl) ?_
      refine ev_iconst 16 dX9_ruled_15 rfl ?_
      refine ev_istore 18 dX9_ruled_16 rfl (Nat.le_of_ble_eq_true rfl) ?_
      refine m_ruled_in hn (by omega) hpol (h 0 2).toNat 0 (by omega) (by omega) ?_
      refine ev_iload 69 dX9_ruled_67 rfl rfl ?_
      refine ev_iload_n 70 dX9_ruled_69 rfl rfl ?_
      refine ev_icmp_le 73 77 dX9_ruled_70 rfl rfl (by omega) (by omega) (fun c70 => ?_) (fun c70 => ?_)
      · rw [if_neg (by omega)]
        refine ev_iload_n 78 dX9_ruled_77 rfl rfl ?_
        refine ev_istore_n 79 dX9_ruled_78 rfl (Nat.le_of_ble_eq_true rfl) ?_
        refine ev_iload 81 dX9_ruled_79 rfl rfl ?_
        refine ev_iload_n 82 dX9_ruled_81 rfl rfl ?_
        refine ev_icmp_le 85 90 dX9_ruled_82 rfl rfl (by omega) (by omega) (fun c82 => ?_) (fun c82 => absurd c70 c82)
        refine ev_iload_n 91 dX9_ruled_90 rfl rfl ?_
        refine ev_istore_n 92 dX9_ruled_91 rfl (Nat.le_of_ble_eq_true rfl) ?_
        refine ev_iinc 95 dX9_ruled_92 rfl rfl ?_
        refine ev_goto 7 dX9_ruled_95 rfl ?_
        exact ih (p + 1) w m _ _ (by omega) (by omega) hm
      · rw [if_pos (by omega)]
        refine ev_iload_n 74 dX9_ruled_73 rfl rfl ?_
        refine ev_goto 78 dX9_ruled_74 rfl ?_
        refine ev_istore_n 79 dX9_ruled_78 rfl (Nat.le_of_ble_eq_true rfl) ?_
        refine ev_iload 81 dX9_ruled_79 rfl rfl ?_
        refine ev_iload_n 82 dX9_ruled_81 rfl rfl ?_
        refine ev_icmp_le 85 90 dX9_ruled_82 rfl rfl (by omega) (by omega) (fun c82 => absurd c82 c70) (fun c82 => ?_)
        refine ev_iload 87 dX9_ruled_85 rfl rfl ?_
        refine ev_goto 91 dX9_ruled_87 rfl ?_
        refine ev_istore_n 92 dX9_ruled_91 rfl (Nat.le_of_ble_eq_true rfl) ?_
        refine ev_iinc 95 dX9_ruled_92 rfl rfl ?_
        refine ev_goto 7 dX9_ruled_95 rfl ?_
        exact ih (p + 1) p _ _ _ (by omega) (by omega) (by omega)
theorem m_ruled (hn : 0 ≤ h 0 2 ∧ h 0 2 ≤ 5) (hpol : ∀ c, 0 ≤ c → c < h 0 2 → R32 (h 2 (2 * c + 1))) (hreg : ∀ c, 0 ≤ c → c < h 0 2 → 0 ≤ h 4 (12 + c) ∧ h 4 (12 + c) ≤ 1000) : Ev shM mX9_ruled 0 [some (vr 0), none, none, none, none, none] [] h (RI fun x h' => x = ruF (rsum (h 0 2) (fun c => h 2 (2 * c + 1)) (fun c => h 4 (12 + c))) 4 0 (-9) 0 ∧ h = h') := by
  refine ev_bipush 2 dX9_ruled_0 rfl (by decide +kernel) ?_
  refine ev_istore_n 3 dX9_ruled_2 rfl (Nat.le_of_ble_eq_true rfl) ?_
  refine ev_iconst 4 dX9_ruled_3 rfl ?_
  refine ev_istore_n 5 dX9_ruled_4 rfl (Nat.le_of_ble_eq_true rfl) ?_
  refine ev_iconst 6 dX9_ruled_5 rfl ?_
  refine ev_istore_n 7 dX9_ruled_6 rfl (Nat.le_of_ble_eq_true rfl) ?_
  exact m_ruled_out hn hpol hreg 4 0 (-9) 0 none none (by omega) (by omega) (by omega)
/-- what is timed of a chair and isn't as t says -/
def bdB (tm : Int → Int) (c t : Int) : Int → Bool := fun k => decide (tm (2 * k) = c) && decide (tm (2 * k + 1) ≠ t)
def hG (h : Hp) (v : Int) : Hp := hput h 13 (up (cpy (h 4) (h 13) 0 0 17) 10 v)
theorem hG_at {v i : Int} (h0 : 0 ≤ i) (h1 : i < 17) : hG h v 13 i = up (h 4) 10 v i := by
  show up (cpy (h 4) (h 13) 0 0 17) 10 v i = _
  unfold up
  split
  · rfl
  · exact hN_at h0 h1
theorem hG_W {v : Int} (hW : MW h) (hs : NW (h 0 2) (h 4)) (hv : 0 ≤ v ∧ v < 32) : MW (hG h v) ∧ NW (hG h v 0 2) (hG h v 13) := by
  have hn := hW.1.2.1
  refine ⟨PsM.N.W hW, NW_ag (s := up (h 4) 10 v) hn ⟨fun c a b => ?_, ?_, ?_⟩ (fun i a b => hG_at a b)⟩
  · have b : c < h 0 2 := b
    rw [up_n (by omega), up_n (by omega)]; exact hs.1 c a b
  · rw [up_s]; exact hv.1
  · rw [up_s]; exact hv.2
theorem aloneS_G {v : Int} (hn : h 0 2 ≤ 5) (hc : 0 ≤ c ∧ c < h 0 2) : hG h v 13 (5 + c) + ceilD (sumZ (hG h v 1) (hG h v 0 0).toNat) (mGain (hG h v) 0 c) = aloneS h (up (h 4) 10 v) c := by
  unfold aloneS
  rw [hG_at (by omega) (by omega)]
  have : mGain (hG h v) 0 c = sGain (h 3) (fun c => h 2 (2 * c)) (up (h 4) 10 v) 0 c := sGain_ag (str := h 3) (wt := fun c => h 2 (2 * c)) (s := up (h 4) 10 v) (s' := hG h v 13) hn (fun i a b => hG_at a b) c hc.1 hc.2
  rw [this]
  rfl
theorem ceil_r {L g : Int} (hL : 0 ≤ L ∧ L ≤ 128) (hg : 1 ≤ g) : 0 ≤ ceilD L g ∧ ceilD L g ≤ 128 := by
  unfold ceilD
  refine ⟨Int.ediv_nonneg (by omega) (by omega), ?_⟩
  apply Int.le_of_lt_add_one
  rw [Int.ediv_lt_iff_lt_mul (by omega)]
  have : 128 * 1 ≤ 128 * g := Int.mul_le_mul_of_nonneg_left hg (by omega)
  have e : (128 + 1) * g = 128 * g + g := by rw [Int.add_mul, Int.one_mul]
  omega
theorem sumC_r {cost : Int → Int} {cl n : Int} (hC : CP cost cl n) : 0 ≤ sumZ cost cl.toNat ∧ sumZ cost cl.toNat ≤ 128 := by
  have h1 := sumZ_bd (f := cost) (b := 8) (k := cl.toNat) (fun c a b => (hC.2.2.2.2 c a (by omega)).2)
  have h2 := sumZ_nn (f := cost) (k := cl.toNat) (fun c a b => by have := hC.2.2.2.2 c a (by omega); omega)
  have := hC.2.2.2.1
  omega
theorem m_isSo_loop {v g : Int} (hW : MW h) (hs : NW (h 0 2) (h 4)) (hv : 0 ≤ v ∧ v < 32) (hc : 0 ≤ c ∧ c < h 0 2) (hm : 0 ≤ h 0 10 ∧ h 0 10 ≤ 6) (ht : ∀ k, 0 ≤ k → k < h 0 10 → R32 (h 8 (2 * k)) ∧ R32 (h 8 (2 * k + 1))) : ∀ (n : Nat) (k : Int), 0 ≤ k → k + n = h 0 10 → Ev shM mX9_isSo 27 [some (vr 0), some (vi c), some (vi g), some (vi (b2i (!anyB (bdB (h 8) c (aloneS h (up (h 4) 10 v) c)) k.toNat))), some (vi k)] [] (hG h v) (RI fun x h' => x = b2i (!anyB (bdB (h 8) c (aloneS h (up (h 4) 10 v) c)) (h 0 10).toNat) ∧ hG h v = h') := by
  have hG2 := hG_W hW hs hv
  have hn := hW.1.2.1
  have hA : R32 (aloneS h (up (h 4) 10 v) c) := by
    have h1 := ceil_r (sumC_r hW.1) (g := sGain (h 3) (fun c => h 2 (2 * c)) (up (h 4) 10 v) 0 c) (by
      have h1 := hs.1 c hc.1 hc.2
      have h2 := hW.2 (h 4 c) h1.1 h1.2.1
      have h3 := hW.2 c hc.1 hc.2
      unfold sGain
      rw [up_n (by omega : c ≠ 10)]
      exact (gainZ_r (by split <;> omega) ⟨h3.2.2.1, h3.2.2.2⟩).1)
    have h2 := hs.1 c hc.1 hc.2
    unfold aloneS
    rw [up_n (by omega)]
    omega
  intro n
  induction n with
  | zero =>
    intro k h0 h1
    have he : k = h 0 10 := by omega
    subst he
    refine ev_iload 29 dX9_isSo_27 rfl rfl ?_
    refine ev_aload_n 30 dX9_isSo_29 rfl rfl ?_
    refine ev_getI' 33 10 (h 0 10) fX9_151 rfl dX9_isSo_30 rfl rfl rfl (by decide) rfl rfl ?_
    refine ev_icmp_ge 36 84 dX9_isSo_33 rfl rfl (by omega) (by omega) (fun c33 => ?_) (fun c33 => ?_)
    · refine ev_iload_n 85 dX9_isSo_84 rfl rfl ?_
      exact ev_zret rfl dX9_isSo_85 (b2i_z _) (⟨rfl, rfl⟩)
    · omega --done
  | succ n ih =>
    intro k h0 h1
    have htk := ht k h0 (by omega)
    have K := ih (k + 1) (by omega) (by omega)
    rw [anyB_1 h0] at K
    refine ev_iload 29 dX9_isSo_27 rfl rfl ?_
    refine ev_aload_n 30 dX9_isSo_29 rfl rfl ?_
    refine ev_getI' 33 10 (h 0 10) fX9_151 rfl dX9_isSo_30 rfl rfl rfl (by decide) rfl rfl ?_
    refine ev_icmp_ge 36 84 dX9_isSo_33 rfl rfl (by omega) (by omega) (fun c33 => ?_) (fun c33 => ?_)
    · omega --done
    · refine ev_iload_n 37 dX9_isSo_36 rfl rfl ?_
      refine ev_if_eq 40 76 dX9_isSo_37 rfl rfl (b2i_r _) (fun c37 => ?_) (fun c37 => ?_)
      · have d37 := b2i_0.mp c37
        have hb : (!(anyB (bdB (h 8) c (aloneS h (up (h 4) 10 v) c)) k.toNat || bdB (h 8) c (aloneS h (up (h 4) 10 v) c) k)) = false := by
          first | (rw [Bool.not_eq_false'] at d37 ⊢; rw [d37]; rfl) | (rw [Bool.not_eq_false', Bool.or_eq_true]; right; unfold bdB; simp [c50, c69]; done)
        rw [hb] at K
        refine ev_iconst 77 dX9_isSo_76 rfl ?_
        refine ev_istore_n 78 dX9_isSo_77 rfl (Nat.le_of_ble_eq_true rfl) ?_
        refine ev_iinc 81 dX9_isSo_78 rfl rfl ?_
        refine ev_goto 27 dX9_isSo_81 rfl ?_
        exact K
      · have d37 := b2i_n.mp c37
        refine ev_aload_n 41 dX9_isSo_40 rfl rfl ?_
        refine ev_getR 44 fX9_32 rfl dX9_isSo_41 rfl rfl rfl ?_
        refine ev_iconst 45 dX9_isSo_44 rfl ?_
        refine ev_iload 47 dX9_isSo_45 rfl rfl ?_
        refine ev_imul 48 dX9_isSo_47 rfl ?_
        refine ev_iald' 49 (h 8 (2 * k)) dX9_isSo_48 rfl rfl (by decide) (by omega) rfl ?_
        refine ev_iload_n 50 dX9_isSo_49 rfl rfl ?_
        refine ev_icmp_ne 53 72 dX9_isSo_50 rfl rfl (by omega) (by omega) (fun c50 => ?_) (fun c50 => ?_)
        · have hb : (!(anyB (bdB (h 8) c (aloneS h (up (h 4) 10 v) c)) k.toNat || bdB (h 8) c (aloneS h (up (h 4) 10 v) c) k)) = true := by
            rw [Bool.not_eq_true'] at d37 ⊢
            rw [d37]
            unfold bdB
            first | (simp [c50]; done) | (simp [c69]; done)
          rw [hb] at K
          refine ev_iconst 73 dX9_isSo_72 rfl ?_
          refine ev_goto 77 dX9_isSo_73 rfl ?_
          refine ev_istore_n 78 dX9_isSo_77 rfl (Nat.le_of_ble_eq_true rfl) ?_
          refine ev_iinc 81 dX9_isSo_78 rfl rfl ?_
          refine ev_goto 27 dX9_isSo_81 rfl ?_
          exact K
        · refine ev_aload_n 54 dX9_isSo_53 rfl rfl ?_
          refine ev_getR 57 fX9_32 rfl dX9_isSo_54 rfl rfl rfl ?_
          refine ev_iconst 58 dX9_isSo_57 rfl ?_
          refine ev_iload 60 dX9_isSo_58 rfl rfl ?_
          refine ev_imul 61 dX9_isSo_60 rfl ?_
          refine ev_iconst 62 dX9_isSo_61 rfl ?_
          refine ev_iadd 63 dX9_isSo_62 rfl ?_
          refine ev_iald' 64 (h 8 (2 * k + 1)) dX9_isSo_63 rfl rfl (by decide) (by omega) rfl ?_
          refine ev_aload_n 65 dX9_isSo_64 rfl rfl ?_
          refine ev_iload_n 66 dX9_isSo_65 rfl rfl ?_
          refine cVi1 69 kX9_isSo_181 dX9_isSo_66 rfl rfl rfl rfl rfl (by decide) rfl (Nat.le_of_ble_eq_true rfl) (m_aloneOf (h := hG h v) hG2.1.1 hG2.1.2 hG2.2 hc) ?_
          rintro x _ ⟨e66, rfl⟩
          rw [aloneS_G hn hc] at e66
          rw [e66]
          refine ev_icmp_ne 72 76 dX9_isSo_69 rfl rfl (by omega) (by omega) (fun c69 => ?_) (fun c69 => ?_)
          · have hb : (!(anyB (bdB (h 8) c (aloneS h (up (h 4) 10 v) c)) k.toNat || bdB (h 8) c (aloneS h (up (h 4) 10 v) c) k)) = false := by
              first | (rw [Bool.not_eq_false'] at d37 ⊢; rw [d37]; rfl) | (rw [Bool.not_eq_false', Bool.or_eq_true]; right; unfold bdB; simp [c50, c69]; done)
            rw [hb] at K
            refine ev_iconst 77 dX9_isSo_76 rfl ?_
            refine ev_istore_n 78 dX9_isSo_77 rfl (Nat.le_of_ble_eq_true rfl) ?_
            refine ev_iinc 81 dX9_isSo_78 rfl rfl ?_
            refine ev_goto 27 dX9_isSo_81 rfl ?_
            exact K
          · have hb : (!(anyB (bdB (h 8) c (aloneS h (up (h 4) 10 v) c)) k.toNat || bdB (h 8) c (aloneS h (up (h 4) 10 v) c) k)) = true := by
              rw [Bool.not_eq_true'] at d37 ⊢
              rw [d37]
              unfold bdB
              first | (simp [c50]; done) | (simp [c69]; done)
            rw [hb] at K
            refine ev_iconst 73 dX9_isSo_72 rfl ?_
            refine ev_goto 77 dX9_isSo_73 rfl ?_
            refine ev_istore_n 78 dX9_isSo_77 rfl (Nat.le_of_ble_eq_true rfl) ?_
            refine ev_iinc 81 dX9_isSo_78 rfl rfl ?_
            refine ev_goto 27 dX9_isSo_81 rfl ?_
            exact K
theorem m_isSo {g : Int} (hW : MW h) (hs : NW (h 0 2) (h 4)) (hc : 0 ≤ c ∧ c < h 0 2) (hg : g = 0 ∨ g = 1) (hm : 0 ≤ h 0 10 ∧ h 0 10 ≤ 6) (ht : ∀ k, 0 ≤ k → k < h 0 10 → R32 (h 8 (2 * k)) ∧ R32 (h 8 (2 * k + 1))) : Ev shM mX9_isSo 0 [some (vr 0), some (vi c), some (vi g), none, none] [] h (RI fun x h' => x = b2i (!anyB (bdB (h 8) c (aloneS h (up (h 4) 10 (if g = 0 then 0 else 2 ^ c.toNat)) c)) (h 0 10).toNat) ∧ PsM h h') := by
  have hn := hW.1.2.1
  have hpw : (0 : Int) ≤ 2 ^ c.toNat ∧ (2 : Int) ^ c.toNat < 32 := by
    have : c = 0 ∨ c = 1 ∨ c = 2 ∨ c = 3 ∨ c = 4 := by omega
    rcases this with rfl | rfl | rfl | rfl | rfl <;> decide
  refine ev_aload_n 1 dX9_isSo_0 rfl rfl ?_
  refine cVv0 4 kX9_isSo_178 dX9_isSo_1 rfl rfl rfl rfl rfl (by decide) rfl (Nat.le_of_ble_eq_true rfl) (m_asItIs) ?_
  rintro _ rfl
  refine ev_aload_n 5 dX9_isSo_4 rfl rfl ?_
  refine ev_getR 8 fX9_47 rfl dX9_isSo_5 rfl rfl rfl ?_
  refine ev_bipush 10 dX9_isSo_8 rfl (by decide +kernel) ?_
  refine ev_iload_n 11 dX9_isSo_10 rfl rfl ?_
  refine ev_if_eq 14 20 dX9_isSo_11 rfl rfl (by omega) (fun c11 => ?_) (fun c11 => ?_)
  · rw [if_pos c11]
    refine ev_iconst 21 dX9_isSo_20 rfl ?_
    refine ev_iast' 22 (hG h _) dX9_isSo_21 rfl rfl (by decide) (by omega) hput_hput ?_
    refine ev_iconst 23 dX9_isSo_22 rfl ?_
    refine ev_istore_n 24 dX9_isSo_23 rfl (Nat.le_of_ble_eq_true rfl) ?_
    refine ev_iconst 25 dX9_isSo_24 rfl ?_
    refine ev_istore 27 dX9_isSo_25 rfl (Nat.le_of_ble_eq_true rfl) ?_
    refine ev_wk (m_isSo_loop hW hs (by omega) hc hm ht (h 0 10).toNat 0 (by omega) (by omega)) ?_
    rintro _ _ ⟨x, rfl, e1, rfl⟩
    exact ⟨x, rfl, e1, PsM.N⟩
  · rw [if_neg c11]
    refine ev_iconst 15 dX9_isSo_14 rfl ?_
    refine ev_iload_n 16 dX9_isSo_15 rfl rfl ?_
    refine ev_ishl 17 dX9_isSo_16 rfl (by omega) (by omega) (by omega) ?_
    rw [Int.one_mul]
    refine ev_goto 21 dX9_isSo_17 rfl ?_
    refine ev_iast' 22 (hG h _) dX9_isSo_21 rfl rfl (by decide) (by omega) hput_hput ?_
    refine ev_iconst 23 dX9_isSo_22 rfl ?_
    refine ev_istore_n 24 dX9_isSo_23 rfl (Nat.le_of_ble_eq_true rfl) ?_
    refine ev_iconst 25 dX9_isSo_24 rfl ?_
    refine ev_istore 27 dX9_isSo_25 rfl (Nat.le_of_ble_eq_true rfl) ?_
    refine ev_wk (m_isSo_loop hW hs (by omega) hc hm ht (h 0 10).toNat 0 (by omega) (by omega)) ?_
    rintro _ _ ⟨x, rfl, e1, rfl⟩
    exact ⟨x, rfl, e1, PsM.N⟩
end AS
end
section
def orc (a c : Int) : Int := ((a.toNat ||| (1 * 2 ^ c.toNat : Int).toNat : Nat) : Int)
theorem orc_fin : ∀ a : Fin 32, ∀ c : Fin 5, (0 ≤ orc (a.val : Int) (c.val : Int) ∧ orc (a.val : Int) (c.val : Int) < 32) ∧ ∀ d : Fin 5, bit (orc (a.val : Int) (c.val : Int)) (d.val : Int) = if d = c then 1 else bit (a.val : Int) (d.val : Int) := by decide +kernel
theorem orc_r {a c : Int} (ha : 0 ≤ a ∧ a < 32) (hc : 0 ≤ c ∧ c < 5) : 0 ≤ orc a c ∧ orc a c < 32 := by
  have := (orc_fin ⟨a.toNat, by omega⟩ ⟨c.toNat, by omega⟩).1
  dsimp only at this
  rwa [Int.toNat_of_nonneg ha.1, Int.toNat_of_nonneg hc.1] at this
theorem orc_b {a c d : Int} (ha : 0 ≤ a ∧ a < 32) (hc : 0 ≤ c ∧ c < 5) (hd : 0 ≤ d ∧ d < 5) : bit (orc a c) d = if d = c then 1 else bit a d := by
  have := (orc_fin ⟨a.toNat, by omega⟩ ⟨c.toNat, by omega⟩).2 ⟨d.toNat, by omega⟩
  dsimp only at this
  rw [Int.toNat_of_nonneg ha.1, Int.toNat_of_nonneg hc.1, Int.toNat_of_nonneg hd.1] at this
  rw [this]
  by_cases q : d = c
  · rw [if_pos q, if_pos (by subst q; rfl)]
  · rw [if_neg q, if_neg (fun w => q (by have := congrArg Fin.val w; dsimp only at this; omega))]
theorem or_z {x : Int} (hx : 0 ≤ x) : ((x.toNat ||| (0 : Int).toNat : Nat) : Int) = x := by
  rw [show (0 : Int).toNat = 0 from rfl, Nat.or_zero, Int.toNat_of_nonneg hx]
theorem bits_fin : ∀ a b : Fin 32, (∀ d : Fin 5, bit (a.val : Int) (d.val : Int) = bit (b.val : Int) (d.val : Int)) → a = b := by decide +kernel
theorem bits_eq {a b : Int} (ha : 0 ≤ a ∧ a < 32) (hb : 0 ≤ b ∧ b < 32) (h : ∀ d, 0 ≤ d → d < 5 → bit a d = bit b d) : a = b := by
  have := bits_fin ⟨a.toNat, by omega⟩ ⟨b.toNat, by omega⟩ (fun d => by
    dsimp only
    rw [Int.toNat_of_nonneg ha.1, Int.toNat_of_nonneg hb.1]
    exact h d.val (by omega) (by omega))
  have := congrArg Fin.val this
  dsimp only at this
  omega
theorem bit_0 (d : Int) : bit 0 d = 0 := by unfold bit; rw [Int.zero_ediv]; rfl
theorem aloneS_P {h H : Hp} (p : PsM h H) {s : Int → Int} {c : Int} : aloneS H s c = aloneS h s c := by
  unfold aloneS
  rw [p.1 1 (by decide) (by decide), p.1 2 (by decide) (by decide), p.1 3 (by decide) (by decide), p.2 0 (by omega)]
theorem raceS_P {h H : Hp} (p : PsM h H) {s : Int → Int} {ill : Int} : raceS H s ill = raceS h s ill := by
  unfold raceS
  rw [p.1 1 (by decide) (by decide), p.1 2 (by decide) (by decide), p.1 3 (by decide) (by decide), p.2 0 (by omega), p.2 2 (by omega)]
def soB (h : Hp) (c g : Int) : Bool := !anyB (bdB (h 8) c (aloneS h (up (h 4) 10 (if g = 0 then 0 else 2 ^ c.toNat)) c)) (h 0 10).toNat
def susB (h : Hp) (gu c : Int) : Bool := !(soB h c 0) && (soB h c 1 == decide (gu = 1))
theorem soB_P {h H : Hp} (p : PsM h H) {c g : Int} : soB H c g = soB h c g := by
  unfold soB
  rw [aloneS_P p, p.1 4 (by decide) (by decide), p.1 8 (by decide) (by decide), p.2 10 (by omega)]
def tmB (h : Hp) (gu d : Int) : Int → Bool := fun k => decide (h 8 (2 * k) = d) && susB h gu d
theorem m_sus_loop {h : Hp} {gu : Int} (hg : gu = 0 ∨ gu = 1) (hW : MW h) (hs : NW (h 0 2) (h 4)) (hm : 0 ≤ h 0 10 ∧ h 0 10 ≤ 6) (ht : ∀ k, 0 ≤ k → k < h 0 10 → (0 ≤ h 8 (2 * k) ∧ h 8 (2 * k) < h 0 2) ∧ R32 (h 8 (2 * k + 1))) : ∀ (n : Nat) (k set : Int) (o4 o5 : Option AV) (H : Hp), 0 ≤ k → k + n = h 0 10 → PsM h H → 0 ≤ set ∧ set < 32 → (∀ d, 0 ≤ d → d < 5 → bit set d = b2i (anyB (tmB h gu d) k.toNat)) → Ev shM mX9_suspects 4 [some (vr 0), some (vi gu), some (vi set), some (vi k), o4, o5] [] H (RI fun x h' => (0 ≤ x ∧ x < 32) ∧ (∀ d, 0 ≤ d → d < 5 → bit x d = b2i (anyB (tmB h gu d) (h 0 10).toNat)) ∧ PsM h h') := by
  have hn := hW.1.2.1
  have hc1 := hW.1.2.2.1
  have hc2 := hW.1.2.2.2.1
  have hc0 := hW.1.1
  intro n
  induction n with
  | zero =>
    intro k set o4 o5 H h0 h1 p hset hb
    have he : k = h 0 10 := by omega
    have e10 : H 0 10 = h 0 10 := p.2 10 (by omega)
    subst he
    refine ev_iload_n 5 dX9_suspects_4 rfl rfl ?_
    refine ev_aload_n 6 dX9_suspects_5 rfl rfl ?_
    refine ev_getI' 9 10 (h 0 10) fX9_151 rfl dX9_suspects_6 rfl rfl rfl (by decide) rfl e10 ?_
    refine ev_icmp_ge 12 79 dX9_suspects_9 rfl rfl (by omega) (by omega) (fun c9 => ?_) (fun c9 => ?_)
    · refine ev_iload_n 80 dX9_suspects_79 rfl rfl ?_
      exact ev_iret rfl dX9_suspects_80 (⟨hset, hb, p⟩)
    · omega --done
  | succ n ih =>
    intro k set o4 o5 H h0 h1 p hset hb
    have e10 : H 0 10 = h 0 10 := p.2 10 (by omega)
    have e00 : H 0 0 = h 0 0 := p.2 0 (by omega)
    have e02 : H 0 2 = h 0 2 := p.2 2 (by omega)
    have e8 : H 8 = h 8 := p.1 8 (by decide) (by decide)
    have e4 : H 4 = h 4 := p.1 4 (by decide) (by decide)
    have htk := ht k h0 (by omega)
    have hso : ∀ {H : Hp}, PsM h H → ∀ {g : Int}, (g = 0 ∨ g = 1) → Ev shM mX9_isSo 0 [some (vr 0), some (vi (h 8 (2 * k))), some (vi g), none, none] [] H (RI fun x h' => x = b2i (soB h (h 8 (2 * k)) g) ∧ PsM h h') := by
      intro H p g hg
      refine ev_wk (m_isSo (p.W hW) (by rw [p.2 2 (by omega), p.1 4 (by decide) (by decide)]; exact hs) (by rw [p.2 2 (by omega)]; exact htk.1) hg (by rw [p.2 10 (by omega)]; exact hm) (fun j a b => by rw [p.1 8 (by decide) (by decide)]; rw [p.2 10 (by omega)] at b; have := ht j a b; exact ⟨⟨by omega, by omega⟩, this.2⟩)) ?_
      rintro _ h' ⟨x, rfl, e1, p2⟩
      exact ⟨x, rfl, by rw [e1]; exact congrArg b2i (soB_P p), p.tr p2⟩
    refine ev_iload_n 5 dX9_suspects_4 rfl rfl ?_
    refine ev_aload_n 6 dX9_suspects_5 rfl rfl ?_
    refine ev_getI' 9 10 (h 0 10) fX9_151 rfl dX9_suspects_6 rfl rfl rfl (by decide) rfl e10 ?_
    refine ev_icmp_ge 12 79 dX9_suspects_9 rfl rfl (by omega) (by omega) (fun c9 => ?_) (fun c9 => ?_)
    · omega --done
    · refine ev_aload_n 13 dX9_suspects_12 rfl rfl ?_
      refine cVi0 16 kX9_suspects_184 dX9_suspects_13 rfl rfl rfl rfl rfl (by decide) rfl (Nat.le_of_ble_eq_true rfl) (m_isRace (by rw [e00]; omega) (by rw [e02]; omega)) ?_
      rintro x _ ⟨e13, rfl⟩
      rw [e00, e02, if_pos ⟨hc1, hc0⟩] at e13
      rw [e13]
      refine ev_if_eq 19 79 dX9_suspects_16 rfl rfl (by omega) (fun c16 => ?_) (fun c16 => ?_)
      · omega --done
      · refine ev_aload_n 20 dX9_suspects_19 rfl rfl ?_
        refine ev_getR 23 fX9_32 rfl dX9_suspects_20 rfl rfl rfl ?_
        refine ev_iconst 24 dX9_suspects_23 rfl ?_
        refine ev_iload_n 25 dX9_suspects_24 rfl rfl ?_
        refine ev_imul 26 dX9_suspects_25 rfl ?_
        refine ev_iald' 27 (h 8 (2 * k)) dX9_suspects_26 rfl rfl (by decide) (by omega) (by rw [e8]) ?_
        refine ev_istore 29 dX9_suspects_27 rfl (Nat.le_of_ble_eq_true rfl) ?_
        refine ev_aload_n 30 dX9_suspects_29 rfl rfl ?_
        refine ev_iload 32 dX9_suspects_30 rfl rfl ?_
        refine ev_iconst 33 dX9_suspects_32 rfl ?_
        refine cVi2 36 kX9_suspects_188 dX9_suspects_33 rfl rfl rfl rfl rfl (by decide) rfl (Nat.le_of_ble_eq_true rfl) (hso p (Or.inl rfl)) ?_
        rintro x H1 ⟨rfl, p1⟩
        refine ev_if_ne 39 54 dX9_suspects_36 rfl rfl (b2i_r _) (fun c36 => ?_) (fun c36 => ?_)
        · have d36 := b2i_n.mp c36
          have hsu : susB h gu (h 8 (2 * k)) = false := by unfold susB; rw [d36]; rfl
          refine ev_iconst 55 dX9_suspects_54 rfl ?_
          refine ev_istore 57 dX9_suspects_55 rfl (Nat.le_of_ble_eq_true rfl) ?_
          refine ev_iload_n 58 dX9_suspects_57 rfl rfl ?_
          refine ev_iload 60 dX9_suspects_58 rfl rfl ?_
          refine ev_if_eq 63 70 dX9_suspects_60 rfl rfl (by omega) (fun _ => ?_) (fun w => absurd rfl w)
          refine ev_iconst 71 dX9_suspects_70 rfl ?_
          refine ev_ior 72 dX9_suspects_71 rfl hset.1 (by omega) ?_
          refine ev_topi (or_z hset.1) ?_
          refine ev_istore_n 73 dX9_suspects_72 rfl (Nat.le_of_ble_eq_true rfl) ?_
          refine ev_iinc 76 dX9_suspects_73 rfl rfl ?_
          refine ev_goto 4 dX9_suspects_76 rfl ?_
          refine ih (k + 1) set _ _ _ (by omega) (by omega) (by assumption) hset (fun d a b => ?_)
          rw [hb d a b, anyB_1 h0]
          congr 1
          unfold tmB
          by_cases q : h 8 (2 * k) = d
          · subst q; rw [hsu, Bool.and_false, Bool.or_false]
          · rw [decide_eq_false q, Bool.false_and, Bool.or_false]
        · have d36 := b2i_0.mp c36
          refine ev_aload_n 40 dX9_suspects_39 rfl rfl ?_
          refine ev_iload 42 dX9_suspects_40 rfl rfl ?_
          refine ev_iconst 43 dX9_suspects_42 rfl ?_
          refine cVi2 46 kX9_suspects_188 dX9_suspects_43 rfl rfl rfl rfl rfl (by decide) rfl (Nat.le_of_ble_eq_true rfl) (hso p1 (Or.inr rfl)) ?_
          rintro x H2 ⟨rfl, p2⟩
          refine ev_iload_n 47 dX9_suspects_46 rfl rfl ?_
          refine ev_icmp_ne 50 54 dX9_suspects_47 rfl rfl (b2i_r _) (by omega) (fun c47 => ?_) (fun c47 => ?_)
          · have hsu : susB h gu (h 8 (2 * k)) = false := by
              unfold susB
              rw [d36]
              rcases hg with rfl | rfl
              · cases hq : soB h (h 8 (2 * k)) 1 with
                | true => rfl
                | false => rw [hq] at c47; exact absurd rfl c47
              · cases hq : soB h (h 8 (2 * k)) 1 with
                | false => rfl
                | true => rw [hq] at c47; exact absurd rfl c47
            refine ev_iconst 55 dX9_suspects_54 rfl ?_
            refine ev_istore 57 dX9_suspects_55 rfl (Nat.le_of_ble_eq_true rfl) ?_
            refine ev_iload_n 58 dX9_suspects_57 rfl rfl ?_
            refine ev_iload 60 dX9_suspects_58 rfl rfl ?_
            refine ev_if_eq 63 70 dX9_suspects_60 rfl rfl (by omega) (fun _ => ?_) (fun w => absurd rfl w)
            refine ev_iconst 71 dX9_suspects_70 rfl ?_
            refine ev_ior 72 dX9_suspects_71 rfl hset.1 (by omega) ?_
            refine ev_topi (or_z hset.1) ?_
            refine ev_istore_n 73 dX9_suspects_72 rfl (Nat.le_of_ble_eq_true rfl) ?_
            refine ev_iinc 76 dX9_suspects_73 rfl rfl ?_
            refine ev_goto 4 dX9_suspects_76 rfl ?_
            refine ih (k + 1) set _ _ _ (by omega) (by omega) (by assumption) hset (fun d a b => ?_)
            rw [hb d a b, anyB_1 h0]
            congr 1
            unfold tmB
            by_cases q : h 8 (2 * k) = d
            · subst q; rw [hsu, Bool.and_false, Bool.or_false]
            · rw [decide_eq_false q, Bool.false_and, Bool.or_false]
          · have hsu : susB h gu (h 8 (2 * k)) = true := by
              unfold susB
              rw [d36]
              rcases hg with rfl | rfl
              · cases hq : soB h (h 8 (2 * k)) 1 with
                | false => rfl
                | true => rw [hq] at c47; cases c47
              · cases hq : soB h (h 8 (2 * k)) 1 with
                | true => rfl
                | false => rw [hq] at c47; cases c47
            refine ev_iconst 51 dX9_suspects_50 rfl ?_
            refine ev_goto 55 dX9_suspects_51 rfl ?_
            refine ev_istore 57 dX9_suspects_55 rfl (Nat.le_of_ble_eq_true rfl) ?_
            refine ev_iload_n 58 dX9_suspects_57 rfl rfl ?_
            refine ev_iload 60 dX9_suspects_58 rfl rfl ?_
            refine ev_if_eq 63 70 dX9_suspects_60 rfl rfl (by omega) (fun c60 => ?_) (fun c60 => ?_)
            · omega --done
            · refine ev_iconst 64 dX9_suspects_63 rfl ?_
              refine ev_iload 66 dX9_suspects_64 rfl rfl ?_
              refine ev_ishl 67 dX9_suspects_66 rfl (by omega) (by omega) (pw_r (c := h 8 (2 * k)) ⟨htk.1.1, by omega⟩).2 ?_
              refine ev_goto 71 dX9_suspects_67 rfl ?_
              refine ev_ior 72 dX9_suspects_71 rfl hset.1 (pw_r (c := h 8 (2 * k)) ⟨htk.1.1, by omega⟩).1 ?_
              refine ev_istore_n 73 dX9_suspects_72 rfl (Nat.le_of_ble_eq_true rfl) ?_
              refine ev_iinc 76 dX9_suspects_73 rfl rfl ?_
              refine ev_goto 4 dX9_suspects_76 rfl ?_
              refine ih (k + 1) (orc set (h 8 (2 * k))) _ _ _ (by omega) (by omega) p2 (orc_r hset ⟨htk.1.1, by omega⟩) (fun d a b => ?_)
              rw [orc_b hset ⟨htk.1.1, by omega⟩ ⟨a, b⟩, anyB_1 h0, hb d a b]
              unfold tmB
              by_cases q : d = h 8 (2 * k)
              · subst q
                rw [if_pos rfl, hsu, decide_eq_true rfl, Bool.and_true, Bool.or_true]
                rfl
              · rw [if_neg q, decide_eq_false (fun w => q w.symm), Bool.false_and, Bool.or_false]
theorem m_suspects {h : Hp} {gu : Int} (hg : gu = 0 ∨ gu = 1) (hl : 0 ≤ h 0 0 ∧ h 0 0 ≤ 16) (hn : 0 ≤ h 0 2 ∧ h 0 2 ≤ 5) (hW : 0 < h 0 0 ∧ 0 < h 0 2 → MW h) (hs : NW (h 0 2) (h 4)) (hm : 0 ≤ h 0 10 ∧ h 0 10 ≤ 6) (ht : ∀ k, 0 ≤ k → k < h 0 10 → (0 ≤ h 8 (2 * k) ∧ h 8 (2 * k) < h 0 2) ∧ R32 (h 8 (2 * k + 1))) : Ev shM mX9_suspects 0 [some (vr 0), some (vi gu), none, none, none, none] [] h (RI fun x h' => PsM h h' ∧ ((¬ (0 < h 0 0 ∧ 0 < h 0 2) ∧ x = 0) ∨ ((0 < h 0 0 ∧ 0 < h 0 2) ∧ (0 ≤ x ∧ x < 32) ∧ ∀ d, 0 ≤ d → d < 5 → bit x d = b2i (anyB (tmB h gu d) (h 0 10).toNat)))) := by
  by_cases hr : 0 < h 0 0 ∧ 0 < h 0 2
  · skip
    refine ev_iconst 1 dX9_suspects_0 rfl ?_
    refine ev_istore_n 2 dX9_suspects_1 rfl (Nat.le_of_ble_eq_true rfl) ?_
    refine ev_iconst 3 dX9_suspects_2 rfl ?_
    refine ev_istore_n 4 dX9_suspects_3 rfl (Nat.le_of_ble_eq_true rfl) ?_
    refine ev_wk (m_sus_loop hg (hW hr) hs hm ht (h 0 10).toNat 0 0 none none h (by omega) (by omega) PsM.rf (by omega) (fun d a b => by rw [bit_0]; rfl)) ?_
    rintro _ _ ⟨x, rfl, e1, e2, p⟩
    exact ⟨x, rfl, p, Or.inr ⟨hr, e1, e2⟩⟩
  · skip
    refine ev_iconst 1 dX9_suspects_0 rfl ?_
    refine ev_istore_n 2 dX9_suspects_1 rfl (Nat.le_of_ble_eq_true rfl) ?_
    refine ev_iconst 3 dX9_suspects_2 rfl ?_
    refine ev_istore_n 4 dX9_suspects_3 rfl (Nat.le_of_ble_eq_true rfl) ?_
    refine ev_iload_n 5 dX9_suspects_4 rfl rfl ?_
    refine ev_aload_n 6 dX9_suspects_5 rfl rfl ?_
    refine ev_getI 9 10 fX9_151 rfl dX9_suspects_6 rfl rfl rfl (by decide) rfl ?_
    refine ev_icmp_ge 12 79 dX9_suspects_9 rfl rfl (by omega) (by omega) (fun c9 => ?_) (fun c9 => ?_)
    · refine ev_iload_n 80 dX9_suspects_79 rfl rfl ?_
      exact ev_iret rfl dX9_suspects_80 (⟨PsM.rf, Or.inl ⟨hr, rfl⟩⟩)
    · refine ev_aload_n 13 dX9_suspects_12 rfl rfl ?_
      refine cVi0 16 kX9_suspects_184 dX9_suspects_13 rfl rfl rfl rfl rfl (by decide) rfl (Nat.le_of_ble_eq_true rfl) (m_isRace (by omega) (by omega)) ?_
      rintro x _ ⟨e13, rfl⟩
      rw [if_neg hr] at e13
      rw [e13]
      refine ev_if_eq 19 79 dX9_suspects_16 rfl rfl (by omega) (fun c16 => ?_) (fun c16 => ?_)
      · refine ev_iload_n 80 dX9_suspects_79 rfl rfl ?_
        exact ev_iret rfl dX9_suspects_80 (⟨PsM.rf, Or.inl ⟨hr, rfl⟩⟩)
      · exact absurd rfl c16 --done
end
section
/-! ways to give pushers to chairs, as codes -/
def wayT (n : Int) : Nat → Int → Int → Int
  | 0, _, t => t
  | k + 1, l, t => wayT n k (l / n) (orc t (l % n))
def wayB (n code : Int) : Bool := decide (wayT n n.toNat code 0 = 1 * 2 ^ n.toNat - 1)
def fillW (n : Int) : Nat → Int → (Int → Int) → (Int → Int)
  | 0, _, f => f
  | k + 1, l, f => fillW n k (l / n) (up f k (l % n))
def cntW (n : Int) (s : Int → Int) : Nat → Int → Int → Int
  | 0, _, o => o
  | k + 1, l, o => cntW n s k (l / n) (o + (if l % n = s k then 0 else 1))
theorem fill_out {n : Int} : ∀ (k : Nat) (l : Int) (f : Int → Int) (i : Int), ((k : Int) ≤ i ∨ i < 0) → fillW n k l f i = f i := by
  intro k
  induction k with
  | zero => intro l f i _; rfl
  | succ k ih =>
    intro l f i hi
    unfold fillW
    rw [ih _ _ _ (by omega), up_n (by omega)]
theorem fill_ag {n : Int} : ∀ (k : Nat) (l : Int) (f g : Int → Int) (i : Int), 0 ≤ i → i < k → fillW n k l f i = fillW n k l g i := by
  intro k
  induction k with
  | zero => intro l f g i h0 h1; omega
  | succ k ih =>
    intro l f g i h0 h1
    unfold fillW
    by_cases q : i < k
    · exact ih _ _ _ _ h0 q
    · have e : i = k := by omega
      rw [fill_out _ _ _ _ (by omega), fill_out _ _ _ _ (by omega), e, up_s, up_s]
theorem fill_r {n : Int} (hn : 0 < n) : ∀ (k : Nat) (l : Int) (f : Int → Int) (i : Int), 0 ≤ i → i < k → 0 ≤ fillW n k l f i ∧ fillW n k l f i < n := by
  intro k
  induction k with
  | zero => intro l f i h0 h1; omega
  | succ k ih =>
    intro l f i h0 h1
    unfold fillW
    by_cases q : i < k
    · exact ih _ _ _ h0 q
    · have e : i = k := by omega
      rw [fill_out _ _ _ _ (by omega), e, up_s]
      exact ⟨Int.emod_nonneg _ (by omega), Int.emod_lt_of_pos _ hn⟩
theorem cnt_r {n : Int} {s : Int → Int} : ∀ (k : Nat) (l o : Int), o ≤ cntW n s k l o ∧ cntW n s k l o ≤ o + k := by
  intro k
  induction k with
  | zero => intro l o; exact ⟨Int.le_refl _, by show o ≤ o + 0; omega⟩
  | succ k ih =>
    intro l o
    unfold cntW
    have := ih (l / n) (o + (if l % n = s k then 0 else 1))
    split at this <;> rename_i q
    · rw [if_pos q]; omega
    · rw [if_neg q]; omega
theorem q_dr {l n : Int} (hl : 0 ≤ l ∧ l < 2147483648) (hn : 0 < n) : (0 ≤ l / n ∧ l / n < 2147483648) ∧ 0 ≤ l % n ∧ l % n < n := by
  refine ⟨⟨Int.ediv_nonneg hl.1 (by omega), ?_⟩, Int.emod_nonneg _ (by omega), Int.emod_lt_of_pos _ hn⟩
  have := Int.ediv_le_self n hl.1
  omega
section WY
variable {sh : List CS} {h : Hp}
theorem m_isWay_loop {n code : Int} (hn : 0 < n ∧ n ≤ 5) : ∀ (k : Nat) (c l t : Int), 0 ≤ c → c + k = n → 0 ≤ l ∧ l < 2147483648 → 0 ≤ t ∧ t < 32 → Ev sh mX9_isWay 7 [some (vi code), some (vi n), some (vi t), some (vi l), some (vi c)] [] h (RI fun x h' => x = b2i (decide (wayT n k l t = 1 * 2 ^ n.toNat - 1)) ∧ h = h') := by
  intro k
  induction k with
  | zero =>
    intro c l t h0 h1 hl ht
    have hp : (0 : Int) ≤ 1 * 2 ^ n.toNat ∧ (1 : Int) * 2 ^ n.toNat ≤ 32 := by
      have : n = 1 ∨ n = 2 ∨ n = 3 ∨ n = 4 ∨ n = 5 := by omega
      rcases this with rfl | rfl | rfl | rfl | rfl <;> decide
    unfold wayT
    refine ev_iload 9 dX9_isWay_7 rfl rfl ?_
    refine ev_iload_n 10 dX9_isWay_9 rfl rfl ?_
    refine ev_icmp_ge 13 31 dX9_isWay_10 rfl rfl (by omega) (by omega) (fun c10 => ?_) (fun c10 => ?_)
    · refine ev_iload_n 32 dX9_isWay_31 rfl rfl ?_
      refine ev_iconst 33 dX9_isWay_32 rfl ?_
      refine ev_iload_n 34 dX9_isWay_33 rfl rfl ?_
      refine ev_ishl 35 dX9_isWay_34 rfl (by omega) (by omega) (by omega) ?_
      refine ev_iconst 36 dX9_isWay_35 rfl ?_
      refine ev_isub 37 dX9_isWay_36 rfl ?_
      refine ev_icmp_ne 40 44 dX9_isWay_37 rfl rfl (by omega) (by omega) (fun c37 => ?_) (fun c37 => ?_)
      · rw [decide_eq_false c37]
        refine ev_iconst 45 dX9_isWay_44 rfl ?_
        exact ev_zret rfl dX9_isWay_45 (by omega) (⟨rfl, rfl⟩)
      · rw [decide_eq_true c37]
        refine ev_iconst 41 dX9_isWay_40 rfl ?_
        refine ev_goto 45 dX9_isWay_41 rfl ?_
        exact ev_zret rfl dX9_isWay_45 (by omega) (⟨rfl, rfl⟩)
    · omega --done
  | succ k ih =>
    intro c l t h0 h1 hl ht
    have hd := q_dr hl hn.1
    unfold wayT
    refine ev_iload 9 dX9_isWay_7 rfl rfl ?_
    refine ev_iload_n 10 dX9_isWay_9 rfl rfl ?_
    refine ev_icmp_ge 13 31 dX9_isWay_10 rfl rfl (by omega) (by omega) (fun c10 => ?_) (fun c10 => ?_)
    · omega --done
    · refine ev_iload_n 14 dX9_isWay_13 rfl rfl ?_
      refine ev_iconst 15 dX9_isWay_14 rfl ?_
      refine ev_iload_n 16 dX9_isWay_15 rfl rfl ?_
      refine ev_iload_n 17 dX9_isWay_16 rfl rfl ?_
      refine ev_irem 18 dX9_isWay_17 rfl (by omega) (by omega) ?_
      refine ev_ishl 19 dX9_isWay_18 rfl (by omega) (by omega) (pw_r (c := l % n) ⟨hd.2.1, by omega⟩).2 ?_
      refine ev_ior 20 dX9_isWay_19 rfl ht.1 (pw_r (c := l % n) ⟨hd.2.1, by omega⟩).1 ?_
      refine ev_istore_n 21 dX9_isWay_20 rfl (Nat.le_of_ble_eq_true rfl) ?_
      refine ev_iload_n 22 dX9_isWay_21 rfl rfl ?_
      refine ev_iload_n 23 dX9_isWay_22 rfl rfl ?_
      refine ev_idiv 24 dX9_isWay_23 rfl (by omega) (by omega) ?_
      refine ev_istore_n 25 dX9_isWay_24 rfl (Nat.le_of_ble_eq_true rfl) ?_
      refine ev_iinc 28 dX9_isWay_25 rfl rfl ?_
      refine ev_goto 7 dX9_isWay_28 rfl ?_
      exact ih (c + 1) (l / n) (orc t (l % n)) (by omega) (by omega) hd.1 (orc_r ht ⟨hd.2.1, by omega⟩)
theorem m_isWay {n code : Int} (hn : 0 < n ∧ n ≤ 5) (hc : 0 ≤ code ∧ code < 2147483648) : Ev sh mX9_isWay 0 [some (vi code), some (vi n), none, none, none] [] h (RI fun x h' => x = b2i (wayB n code) ∧ h = h') := by
  refine ev_iconst 1 dX9_isWay_0 rfl ?_
  refine ev_istore_n 2 dX9_isWay_1 rfl (Nat.le_of_ble_eq_true rfl) ?_
  refine ev_iload_n 3 dX9_isWay_2 rfl rfl ?_
  refine ev_istore_n 4 dX9_isWay_3 rfl (Nat.le_of_ble_eq_true rfl) ?_
  refine ev_iconst 5 dX9_isWay_4 rfl ?_
  refine ev_istore 7 dX9_isWay_5 rfl (Nat.le_of_ble_eq_true rfl) ?_
  exact m_isWay_loop hn n.toNat 0 code 0 (by omega) (by omega) hc (by omega)
end WY
def ovr (w s : Int → Int) (n : Int) : Int → Int := fun i => if 0 ≤ i ∧ i < n then w i else s i
def winW (h : Hp) (w : Int → Int) : Int := (raceS h (ovr w (h 4) (h 0 2)) 0).2.2.2.1 0
def dgt (n code : Int) : Int → Int := fillW n n.toNat code (fun _ => 0)
def oth (n : Int) (s : Int → Int) (code : Int) : Int := cntW n s n.toNat code 0
def kstep (h : Hp) (c code : Int) (r : Int × (Int → Int)) : Int × (Int → Int) := if wayB (h 0 2) code = true ∧ winW h (dgt (h 0 2) code) = c ∧ (r.1 < 0 ∨ oth (h 0 2) (h 4) code < r.1) then (oth (h 0 2) (h 4) code, dgt (h 0 2) code) else r
def kfold (h : Hp) (c : Int) : Nat → Int × (Int → Int)
  | 0 => (-9, fun _ => 0)
  | i + 1 => kstep h c i (kfold h c i)
theorem kfold_r {h : Hp} (hn : 0 ≤ h 0 2 ∧ h 0 2 ≤ 5) {c : Int} : ∀ i : Nat, -9 ≤ (kfold h c i).1 ∧ (kfold h c i).1 ≤ 5 := by
  intro i
  induction i with
  | zero =>
    show (-9 : Int) ≤ -9 ∧ (-9 : Int) ≤ 5
    omega
  | succ i ih =>
    unfold kfold kstep
    split
    · have := cnt_r (n := h 0 2) (s := h 4) (h 0 2).toNat i 0
      unfold oth
      dsimp only
      omega
    · exact ih
theorem raceS_ag2 {h : Hp} {s s' : Int → Int} {ill : Int} (hn : 0 ≤ h 0 2 ∧ h 0 2 ≤ 5) (e : ∀ i, (0 ≤ i ∧ i < h 0 2) ∨ (5 ≤ i ∧ i < 17) → s' i = s i) : rAg (h 0 2) (raceS h s' ill) (raceS h s ill) := race_ag hn.1 (fun c a b => e (5 + c) (by omega)) (fun c a b => by
  unfold sGain
  rw [e c (by omega), e 10 (by omega)]) 1000 1 _ _ ⟨ag_rf, ag_rf, ag_rf, fun _ _ _ => rfl, rfl⟩
def pw (n : Int) : Nat → Int
  | 0 => 1
  | k + 1 => pw n k * n
theorem pw_b {n : Int} (hn : 0 < n ∧ n ≤ 5) : 1 ≤ pw n n.toNat ∧ pw n n.toNat ≤ 3125 := by
  have : n = 1 ∨ n = 2 ∨ n = 3 ∨ n = 4 ∨ n = 5 := by omega
  rcases this with rfl | rfl | rfl | rfl | rfl <;> decide
/-- what the search for kings has found behind i codes -/
def FK (h H : Hp) (i : Nat) : Prop := PsM h H ∧ (∀ j, 5 ≤ j → j < 17 → H 13 j = h 4 j) ∧ ∀ c, 0 ≤ c → c < h 0 2 → H 19 c = (kfold h c i).1 ∧ (0 ≤ (kfold h c i).1 → ∀ k, 0 ≤ k → k < h 0 2 → H 18 (5 * c + k) = (kfold h c i).2 k)
end
section
theorem PsM.hp {h H : Hp} {f : Int → Int} (p : PsM h H) {k : Nat} (hk : 10 ≤ k) : PsM h (hput H k f) := ⟨fun j a b => by rw [hput_n (by omega)]; exact p.1 j a b, fun i q => by rw [hput_n (by omega)]; exact p.2 i q⟩
section FKS
variable {h : Hp}
theorem m_fk_in {H : Hp} {post : Option AV → Hp → Prop} (hn : 0 < H 0 2 ∧ H 0 2 ≤ 5) (hs : ∀ c, 0 ≤ c → c < H 0 2 → R32 (H 4 c)) {al code : Int} {o6 : Option AV} : ∀ (k : Nat) (c l o : Int) (f : Int → Int), c + 1 = k → c < H 0 2 → 0 ≤ l ∧ l < 2147483648 → (∀ l2, Ev shM mX9_findKings 132 [some (vr 0), some (vi al), some (vi code), some (vi l2), some (vi (cntW (H 0 2) (H 4) k l o)), some (vi (-1)), o6] [] (hput H 13 (fillW (H 0 2) k l f)) post) → Ev shM mX9_findKings 68 [some (vr 0), some (vi al), some (vi code), some (vi l), some (vi o), some (vi c), o6] [] (hput H 13 f) post := by
  intro k
  induction k with
  | zero =>
    intro c l o f h1 h2 hl K
    have he : c = -1 := by omega
    subst he
    refine ev_iload 70 dX9_findKings_68 rfl rfl ?_
    refine ev_if_lt 73 132 dX9_findKings_70 rfl rfl (by omega) (fun c70 => ?_) (fun c70 => ?_)
    · exact K l
    · omega --done
  | succ k ih =>
    intro c l o f h1 h2 hl K
    have hd := q_dr hl hn.1
    have he : c = k := by omega
    have hsc := hs c (by omega) h2
    unfold fillW cntW at K
    rw [← he] at K
    refine ev_iload 70 dX9_findKings_68 rfl rfl ?_
    refine ev_if_lt 73 132 dX9_findKings_70 rfl rfl (by omega) (fun c70 => ?_) (fun c70 => ?_)
    · omega --done
    · refine ev_aload_n 74 dX9_findKings_73 rfl rfl ?_
      refine ev_getR 77 fX9_47 rfl dX9_findKings_74 rfl rfl rfl ?_
      refine ev_iconst 78 dX9_findKings_77 rfl ?_
      refine ev_iload 80 dX9_findKings_78 rfl rfl ?_
      refine ev_iadd 81 dX9_findKings_80 rfl ?_
      refine ev_iload_n 82 dX9_findKings_81 rfl rfl ?_
      refine ev_aload_n 83 dX9_findKings_82 rfl rfl ?_
      refine ev_getI' 86 2 (H 0 2) fX9_74 rfl dX9_findKings_83 rfl rfl rfl (by decide) rfl rfl ?_
      refine ev_irem 87 dX9_findKings_86 rfl (by omega) (by omega) ?_
      refine ev_iast' 88 (hput H 13 (up f c (l % H 0 2))) dX9_findKings_87 rfl rfl (by decide) (by omega) (by rw [hput_hput, hput_s, Int.zero_add]) ?_
      refine ev_iload_n 89 dX9_findKings_88 rfl rfl ?_
      refine ev_aload_n 90 dX9_findKings_89 rfl rfl ?_
      refine ev_getI' 93 2 (H 0 2) fX9_74 rfl dX9_findKings_90 rfl rfl rfl (by decide) rfl rfl ?_
      refine ev_idiv 94 dX9_findKings_93 rfl (by omega) (by omega) ?_
      refine ev_istore_n 95 dX9_findKings_94 rfl (Nat.le_of_ble_eq_true rfl) ?_
      refine ev_iload 97 dX9_findKings_95 rfl rfl ?_
      refine ev_aload_n 98 dX9_findKings_97 rfl rfl ?_
      refine ev_getR 101 fX9_47 rfl dX9_findKings_98 rfl rfl rfl ?_
      refine ev_iconst 102 dX9_findKings_101 rfl ?_
      refine ev_iload 104 dX9_findKings_102 rfl rfl ?_
      refine ev_iadd 105 dX9_findKings_104 rfl ?_
      refine ev_iald' 106 (l % H 0 2) dX9_findKings_105 rfl rfl (by decide) (by omega) (by rw [hput_s, Int.zero_add, up_s]) ?_
      refine ev_aload_n 107 dX9_findKings_106 rfl rfl ?_
      refine ev_getR 110 fX9_19 rfl dX9_findKings_107 rfl rfl rfl ?_
      refine ev_iconst 111 dX9_findKings_110 rfl ?_
      refine ev_iload 113 dX9_findKings_111 rfl rfl ?_
      refine ev_iadd 114 dX9_findKings_113 rfl ?_
      refine ev_iald' 115 (H 4 c) dX9_findKings_114 rfl rfl (by decide) (by omega) (by rw [Int.zero_add]; rfl) ?_
      refine ev_icmp_ne 118 122 dX9_findKings_115 rfl rfl (by omega) (by omega) (fun c115 => ?_) (fun c115 => ?_)
      · rw [if_neg c115] at K
        refine ev_iconst 123 dX9_findKings_122 rfl ?_
        refine ev_iadd 124 dX9_findKings_123 rfl ?_
        refine ev_istore 126 dX9_findKings_124 rfl (Nat.le_of_ble_eq_true rfl) ?_
        refine ev_iinc 129 dX9_findKings_126 rfl rfl ?_
        refine ev_goto 68 dX9_findKings_129 rfl ?_
        exact ih (c - 1) (l / H 0 2) _ _ (by omega) (by omega) hd.1 K
      · rw [if_pos c115] at K
        refine ev_iconst 119 dX9_findKings_118 rfl ?_
        refine ev_goto 123 dX9_findKings_119 rfl ?_
        refine ev_iadd 124 dX9_findKings_123 rfl ?_
        refine ev_istore 126 dX9_findKings_124 rfl (Nat.le_of_ble_eq_true rfl) ?_
        refine ev_iinc 129 dX9_findKings_126 rfl rfl ?_
        refine ev_goto 68 dX9_findKings_129 rfl ?_
        exact ih (c - 1) (l / H 0 2) _ _ (by omega) (by omega) hd.1 K
theorem m_fk_by {H : Hp} {post : Option AV → Hp → Prop} (hn : 0 < H 0 2 ∧ H 0 2 ≤ 5) {al code l o kg : Int} (hk : 0 ≤ kg ∧ kg < 5) {g0 : Int → Int} : ∀ (k : Nat) (c : Int), 0 ≤ c → c + k = H 0 2 → (∀ c2, Ev shM mX9_findKings 215 [some (vr 0), some (vi al), some (vi code), some (vi l), some (vi o), some (vi kg), c2] [] (hput H 18 (cpy (H 13) g0 0 (5 * kg) (H 0 2))) post) → Ev shM mX9_findKings 179 [some (vr 0), some (vi al), some (vi code), some (vi l), some (vi o), some (vi kg), some (vi c)] [] (hput H 18 (cpy (H 13) g0 0 (5 * kg) c)) post := by
  intro k
  induction k with
  | zero =>
    intro c h0 h1 K
    have he : c = H 0 2 := by omega
    subst he
    refine ev_iload 181 dX9_findKings_179 rfl rfl ?_
    refine ev_aload_n 182 dX9_findKings_181 rfl rfl ?_
    refine ev_getI' 185 2 (H 0 2) fX9_74 rfl dX9_findKings_182 rfl rfl rfl (by decide) rfl rfl ?_
    refine ev_icmp_ge 188 215 dX9_findKings_185 rfl rfl (by omega) (by omega) (fun c185 => ?_) (fun c185 => ?_)
    · exact K _
    · omega --done
  | succ k ih =>
    intro c h0 h1 K
    refine ev_iload 181 dX9_findKings_179 rfl rfl ?_
    refine ev_aload_n 182 dX9_findKings_181 rfl rfl ?_
    refine ev_getI' 185 2 (H 0 2) fX9_74 rfl dX9_findKings_182 rfl rfl rfl (by decide) rfl rfl ?_
    refine ev_icmp_ge 188 215 dX9_findKings_185 rfl rfl (by omega) (by omega) (fun c185 => ?_) (fun c185 => ?_)
    · omega --done
    · refine ev_aload_n 189 dX9_findKings_188 rfl rfl ?_
      refine ev_getR 192 fX9_62 rfl dX9_findKings_189 rfl rfl rfl ?_
      refine ev_iconst 193 dX9_findKings_192 rfl ?_
      refine ev_iload 195 dX9_findKings_193 rfl rfl ?_
      refine ev_imul 196 dX9_findKings_195 rfl ?_
      refine ev_iload 198 dX9_findKings_196 rfl rfl ?_
      refine ev_iadd 199 dX9_findKings_198 rfl ?_
      refine ev_aload_n 200 dX9_findKings_199 rfl rfl ?_
      refine ev_getR 203 fX9_47 rfl dX9_findKings_200 rfl rfl rfl ?_
      refine ev_iconst 204 dX9_findKings_203 rfl ?_
      refine ev_iload 206 dX9_findKings_204 rfl rfl ?_
      refine ev_iadd 207 dX9_findKings_206 rfl ?_
      refine ev_iald' 208 (H 13 (0 + c)) dX9_findKings_207 rfl rfl (by decide) (by omega) rfl ?_
      refine ev_iast' 209 (hput H 18 (cpy (H 13) g0 0 (5 * kg) (c + 1))) dX9_findKings_208 rfl rfl (by decide) (by omega) (by rw [hput_hput, hput_s, cpy_1 h0]) ?_
      refine ev_iinc 212 dX9_findKings_209 rfl rfl ?_
      refine ev_goto 179 dX9_findKings_212 rfl ?_
      exact ih (c + 1) (by omega) (by omega) K
theorem m_fk_body (hW : MW h) (hs : NW (h 0 2) (h 4)) {H : Hp} {i : Nat} (p : PsM h H) (h13 : ∀ j, 5 ≤ j → j < 17 → H 13 j = h 4 j) (hK : ∀ c, 0 ≤ c → c < h 0 2 → H 19 c = (kfold h c i).1 ∧ (0 ≤ (kfold h c i).1 → ∀ k, 0 ≤ k → k < h 0 2 → H 18 (5 * c + k) = (kfold h c i).2 k)) (hw : wayB (h 0 2) i = true) {al : Int} {post : Option AV → Hp → Prop} (hNo : ∀ (H2 : Hp), PsM h H2 → (∀ j, 5 ≤ j → j < 17 → H2 13 j = h 4 j) → (∀ c, 0 ≤ c → c < h 0 2 → H2 19 c = (kfold h c (i + 1)).1 ∧ (0 ≤ (kfold h c (i + 1)).1 → ∀ k, 0 ≤ k → k < h 0 2 → H2 18 (5 * c + k) = (kfold h c (i + 1)).2 k)) → ∀ o3 o4 o5 o6, Ev shM mX9_findKings 215 [some (vr 0), some (vi al), some (vi (i : Int)), o3, o4, o5, o6] [] H2 post) (l2 : Int) (o6 : Option AV) : Ev shM mX9_findKings 132 [some (vr 0), some (vi al), some (vi (i : Int)), some (vi l2), some (vi (cntW (h 0 2) (h 4) (h 0 2).toNat i 0)), some (vi (-1)), o6] [] (hput H 13 (fillW (h 0 2) (h 0 2).toNat i (H 13))) post := by
  have hn : 0 < h 0 2 ∧ h 0 2 ≤ 5 := ⟨hW.1.1, hW.1.2.1⟩
  have e02 : H 0 2 = h 0 2 := p.2 2 (by omega)
  have pN : PsM h (hput H 13 (fillW (h 0 2) (h 0 2).toNat i (H 13))) := p.tr PsM.N
  have hNf : NW (h 0 2) (fillW (h 0 2) (h 0 2).toNat i (H 13)) := by
    refine ⟨fun c a b => ?_, ?_, ?_⟩
    · have h1 := fill_r hn.1 (h 0 2).toNat i (H 13) c a (by omega)
      have h2 := (fill_out (n := h 0 2) (h 0 2).toNat i (H 13) (5 + c) (by omega)).trans (h13 (5 + c) (by omega) (by omega))
      have := hs.1 c a b
      rw [h2]
      omega
    · rw [fill_out _ _ _ _ (by omega), h13 10 (by omega) (by omega)]; exact hs.2.1
    · rw [fill_out _ _ _ _ (by omega), h13 10 (by omega) (by omega)]; exact hs.2.2
  have hO := raceS_ok hW hNf 0
  have hA := raceS_ag2 (h := h) (s := ovr (dgt (h 0 2) i) (h 4) (h 0 2)) (s' := fillW (h 0 2) (h 0 2).toNat i (H 13)) (ill := 0) ⟨by omega, hn.2⟩ (fun j hj => by
    unfold ovr dgt
    by_cases q : 0 ≤ j ∧ j < h 0 2
    · rw [if_pos q]; exact fill_ag _ _ _ _ _ q.1 (by omega)
    · rw [if_neg q, fill_out _ _ _ _ (by omega)]; exact h13 j (by omega) (by omega))
  have hwin : (raceS h (fillW (h 0 2) (h 0 2).toNat i (H 13)) 0).2.2.2.1 0 = winW h (dgt (h 0 2) i) := hA.2.2.2.1 0 (by omega) (by omega)
  have hkg := hO.1.2.2 0 (by omega) (by omega)
  rw [hwin] at hkg
  have hcn := cnt_r (n := h 0 2) (s := h 4) (h 0 2).toNat i 0
  have hkr := kfold_r (h := h) ⟨by omega, hn.2⟩ (c := winW h (dgt (h 0 2) i)) i
  have hkk := hK _ hkg.1 hkg.2
  have hoth : cntW (h 0 2) (h 4) (h 0 2).toNat i 0 = oth (h 0 2) (h 4) i := rfl
  rw [hoth] at hcn ⊢
  generalize hwg : winW h (dgt (h 0 2) i) = kg at *
  have hne : ∀ c, c ≠ kg → kfold h c (i + 1) = kfold h c i := fun c q => by
    show kstep h c i (kfold h c i) = _
    unfold kstep
    rw [if_neg (fun w => q (w.2.1.symm.trans hwg))]
  have hyes : (kfold h kg i).1 < 0 ∨ oth (h 0 2) (h 4) i < (kfold h kg i).1 → kfold h kg (i + 1) = (oth (h 0 2) (h 4) i, dgt (h 0 2) i) := fun q => by
    show kstep h kg i (kfold h kg i) = _
    unfold kstep
    rw [if_pos ⟨hw, hwg, q⟩]
  have hno : ¬ ((kfold h kg i).1 < 0 ∨ oth (h 0 2) (h 4) i < (kfold h kg i).1) → kfold h kg (i + 1) = kfold h kg i := fun q => by
    show kstep h kg i (kfold h kg i) = _
    unfold kstep
    rw [if_neg (fun w => q w.2.2)]
  have fin : ∀ (H2 : Hp), PsM h H2 → H2 13 = fillW (h 0 2) (h 0 2).toNat i (H 13) → (∀ k, 18 ≤ k → H2 k = H k) → ((kfold h kg i).1 < 0 ∨ oth (h 0 2) (h 4) i < (kfold h kg i).1) → ∀ l o5 , Ev shM mX9_findKings 179 [some (vr 0), some (vi al), some (vi (i : Int)), some (vi l), some (vi (oth (h 0 2) (h 4) i)), some (vi kg), some (vi 0)] [] (hput H2 19 (up (H2 19) kg (oth (h 0 2) (h 4) i))) post ∨ o5 = 0 := by
    intro H2 p2 q13 q18 hy l o5
    left
    have g02 : H2 0 2 = h 0 2 := p2.2 2 (by omega)
    generalize hoe : oth (h 0 2) (h 4) i = oc at *
    have pp : PsM h (hput (hput H2 19 (up (H2 19) kg oc)) 18 (cpy (H2 13) (H2 18) 0 (5 * kg) (h 0 2))) := (p2.hp (by decide)).hp (by decide)
    have k13 : ∀ j, 5 ≤ j → j < 17 → (hput (hput H2 19 (up (H2 19) kg oc)) 18 (cpy (H2 13) (H2 18) 0 (5 * kg) (h 0 2))) 13 j = h 4 j := fun j a b => by
      rw [hput_n (by decide), hput_n (by decide), q13, fill_out _ _ _ _ (by omega)]
      exact h13 j a b
    have kK : ∀ c, 0 ≤ c → c < h 0 2 → (hput (hput H2 19 (up (H2 19) kg oc)) 18 (cpy (H2 13) (H2 18) 0 (5 * kg) (h 0 2))) 19 c = (kfold h c (i + 1)).1 ∧ (0 ≤ (kfold h c (i + 1)).1 → ∀ k, 0 ≤ k → k < h 0 2 → (hput (hput H2 19 (up (H2 19) kg oc)) 18 (cpy (H2 13) (H2 18) 0 (5 * kg) (h 0 2))) 18 (5 * c + k) = (kfold h c (i + 1)).2 k) := fun c a b => by
      rw [hput_n (by decide : 19 ≠ 18), hput_s, hput_s]
      by_cases q : c = kg
      · subst q
        rw [hyes hy]
        refine ⟨up_s, fun _ k a1 b1 => ?_⟩
        unfold cpy
        rw [if_pos (by omega), q13, show (0 : Int) + (5 * c + k - 5 * c) = k by omega]
        exact fill_ag _ _ _ _ _ a1 (by omega)
      · rw [hne c q]
        refine ⟨by rw [up_n q, q18 19 (by decide)]; exact (hK c a b).1, fun z k a1 b1 => ?_⟩
        unfold cpy
        rw [if_neg (by omega), q18 18 (by decide)]
        exact (hK c a b).2 z k a1 b1
    have K := m_fk_by (H := hput H2 19 (up (H2 19) kg oc)) (post := post) (al := al) (code := (i : Int)) (l := l) (o := oc) (kg := kg) (g0 := H2 18) (by rw [hput_n (by decide), g02]; exact hn) ⟨hkg.1, by omega⟩ (h 0 2).toNat 0 (by omega) (by rw [hput_n (by decide), g02]; omega) (fun c2 => by
      rw [hput_n (by decide : 13 ≠ 19), hput_n (by decide : 0 ≠ 19), g02]
      exact hNo _ pp k13 kK _ _ _ c2)
    have e0 : hput (hput H2 19 (up (H2 19) kg oc)) 18 (cpy ((hput H2 19 (up (H2 19) kg oc)) 13) (H2 18) 0 (5 * kg) 0) = hput H2 19 (up (H2 19) kg oc) := by
      rw [cpy_0]
      exact hput_id (k := 18)
    rw [e0] at K
    exact K
  have nofin : ∀ (H2 : Hp), PsM h H2 → H2 13 = fillW (h 0 2) (h 0 2).toNat i (H 13) → (∀ k, 18 ≤ k → H2 k = H k) → ¬ ((kfold h kg i).1 < 0 ∨ oth (h 0 2) (h 4) i < (kfold h kg i).1) → ∀ o3 o4 o5 o6, Ev shM mX9_findKings 215 [some (vr 0), some (vi al), some (vi (i : Int)), o3, o4, o5, o6] [] H2 post := by
    intro H2 p2 q13 q18 hy o3 o4 o5 o6
    refine hNo H2 p2 (fun j a b => by rw [q13, fill_out _ _ _ _ (by omega)]; exact h13 j a b) (fun c a b => ?_) o3 o4 o5 o6
    have e1 : kfold h c (i + 1) = kfold h c i := by
      by_cases q : c = kg
      · subst q; exact hno hy
      · exact hne c q
    rw [e1, q18 18 (by decide), q18 19 (by decide)]
    exact hK c a b
  refine ev_aload_n 133 dX9_findKings_132 rfl rfl ?_
  refine ev_iconst 134 dX9_findKings_133 rfl ?_
  refine cVv1 137 kX9_findKings_192 dX9_findKings_134 rfl rfl rfl rfl rfl (by decide) rfl (Nat.le_of_ble_eq_true rfl) (m_racesS (pN.W hW) (by show NW (H 0 2) _; rw [e02]; exact hNf) ⟨by omega, by omega⟩) ?_
  rintro H2 ⟨p1, q13, q18, -, q17⟩
  have p2 := pN.tr p1
  have q17 : H2 17 0 = kg := by
    rw [q17 0 (by omega) (by show _ < H 0 2; rw [e02]; exact hn.1), raceS_P pN]
    exact hwin
  have q18 : ∀ k, 18 ≤ k → H2 k = H k := fun k a => (q18 k a).trans (hput_n (by omega))
  have q13 : H2 13 = fillW (h 0 2) (h 0 2).toNat i (H 13) := q13
  have q19 : H2 19 kg = (kfold h kg i).1 := by rw [q18 19 (by decide)]; exact hkk.1
  refine ev_aload_n 138 dX9_findKings_137 rfl rfl ?_
  refine ev_getR 141 fX9_59 rfl dX9_findKings_138 rfl rfl rfl ?_
  refine ev_iconst 142 dX9_findKings_141 rfl ?_
  refine ev_iald' 143 (kg) dX9_findKings_142 rfl rfl (by decide) (by omega) q17 ?_
  refine ev_istore 145 dX9_findKings_143 rfl (Nat.le_of_ble_eq_true rfl) ?_
  refine ev_aload_n 146 dX9_findKings_145 rfl rfl ?_
  refine ev_getR 149 fX9_65 rfl dX9_findKings_146 rfl rfl rfl ?_
  refine ev_iload 151 dX9_findKings_149 rfl rfl ?_
  refine ev_iald' 152 ((kfold h kg i).1) dX9_findKings_151 rfl rfl (by decide) (by omega) q19 ?_
  refine ev_if_lt 155 167 dX9_findKings_152 rfl rfl (by omega) (fun c152 => ?_) (fun c152 => ?_)
  · refine ev_aload_n 168 dX9_findKings_167 rfl rfl ?_
    refine ev_getR 171 fX9_65 rfl dX9_findKings_168 rfl rfl rfl ?_
    refine ev_iload 173 dX9_findKings_171 rfl rfl ?_
    refine ev_iload 175 dX9_findKings_173 rfl rfl ?_
    refine ev_iast' 176 (hput H2 19 (up (H2 19) kg (oth (h 0 2) (h 4) i))) dX9_findKings_175 rfl rfl (by decide) (by omega) rfl ?_
    refine ev_iconst 177 dX9_findKings_176 rfl ?_
    refine ev_istore 179 dX9_findKings_177 rfl (Nat.le_of_ble_eq_true rfl) ?_
    exact (fin H2 p2 q13 q18 (by omega) _ 1).resolve_right (by decide)
  · refine ev_iload 157 dX9_findKings_155 rfl rfl ?_
    refine ev_aload_n 158 dX9_findKings_157 rfl rfl ?_
    refine ev_getR 161 fX9_65 rfl dX9_findKings_158 rfl rfl rfl ?_
    refine ev_iload 163 dX9_findKings_161 rfl rfl ?_
    refine ev_iald' 164 ((kfold h kg i).1) dX9_findKings_163 rfl rfl (by decide) (by omega) q19 ?_
    refine ev_icmp_ge 167 215 dX9_findKings_164 rfl rfl (by omega) (by omega) (fun c164 => ?_) (fun c164 => ?_)
    · exact nofin H2 p2 q13 q18 (by omega) _ _ _ _ --done
    · refine ev_aload_n 168 dX9_findKings_167 rfl rfl ?_
      refine ev_getR 171 fX9_65 rfl dX9_findKings_168 rfl rfl rfl ?_
      refine ev_iload 173 dX9_findKings_171 rfl rfl ?_
      refine ev_iload 175 dX9_findKings_173 rfl rfl ?_
      refine ev_iast' 176 (hput H2 19 (up (H2 19) kg (oth (h 0 2) (h 4) i))) dX9_findKings_175 rfl rfl (by decide) (by omega) rfl ?_
      refine ev_iconst 177 dX9_findKings_176 rfl ?_
      refine ev_istore 179 dX9_findKings_177 rfl (Nat.le_of_ble_eq_true rfl) ?_
      exact (fin H2 p2 q13 q18 (by omega) _ 1).resolve_right (by decide)
theorem m_fk_loop (hW : MW h) (hs : NW (h 0 2) (h 4)) : ∀ (k : Nat) (i : Nat) (H : Hp) (o3 o4 o5 o6 : Option AV), (i : Int) + k = pw (h 0 2) (h 0 2).toNat → FK h H i → Ev shM mX9_findKings 39 [some (vr 0), some (vi (pw (h 0 2) (h 0 2).toNat)), some (vi (i : Int)), o3, o4, o5, o6] [] H (RV fun h' => FK h h' (pw (h 0 2) (h 0 2).toNat).toNat) := by
  have hn : 0 < h 0 2 ∧ h 0 2 ≤ 5 := ⟨hW.1.1, hW.1.2.1⟩
  have hpw := pw_b hn
  intro k
  induction k with
  | zero =>
    intro i H o3 o4 o5 o6 h1 hF
    refine ev_iload_n 40 dX9_findKings_39 rfl rfl ?_
    refine ev_iload_n 41 dX9_findKings_40 rfl rfl ?_
    refine ev_icmp_ge 44 221 dX9_findKings_41 rfl rfl (by omega) (by omega) (fun c41 => ?_) (fun c41 => ?_)
    · exact ev_vret rfl dX9_findKings_221 ((by rw [show (pw (h 0 2) (h 0 2).toNat).toNat = i by omega]; exact hF))
    · omega --done
  | succ k ih =>
    intro i H o3 o4 o5 o6 h1 hF
    obtain ⟨p, h13, hK⟩ := hF
    have e02 : H 0 2 = h 0 2 := p.2 2 (by omega)
    have e4 : H 4 = h 4 := p.1 4 (by decide) (by decide)
    have hNo : ∀ (H2 : Hp), PsM h H2 → (∀ j, 5 ≤ j → j < 17 → H2 13 j = h 4 j) → (∀ c, 0 ≤ c → c < h 0 2 → H2 19 c = (kfold h c (i + 1)).1 ∧ (0 ≤ (kfold h c (i + 1)).1 → ∀ k, 0 ≤ k → k < h 0 2 → H2 18 (5 * c + k) = (kfold h c (i + 1)).2 k)) → ∀ o3 o4 o5 o6, Ev shM mX9_findKings 215 [some (vr 0), some (vi (pw (h 0 2) (h 0 2).toNat)), some (vi (i : Int)), o3, o4, o5, o6] [] H2 (RV fun h' => FK h h' (pw (h 0 2) (h 0 2).toNat).toNat) := by
      intro H2 p2 q13 qK o3 o4 o5 o6
      refine ev_iinc 218 dX9_findKings_215 rfl rfl ?_
      refine ev_goto 39 dX9_findKings_218 rfl ?_
      exact ih (i + 1) H2 o3 o4 o5 o6 (by omega) ⟨p2, q13, qK⟩
    refine ev_iload_n 40 dX9_findKings_39 rfl rfl ?_
    refine ev_iload_n 41 dX9_findKings_40 rfl rfl ?_
    refine ev_icmp_ge 44 221 dX9_findKings_41 rfl rfl (by omega) (by omega) (fun c41 => ?_) (fun c41 => ?_)
    · omega --done
    · refine ev_iload_n 45 dX9_findKings_44 rfl rfl ?_
      refine ev_aload_n 46 dX9_findKings_45 rfl rfl ?_
      refine ev_getI' 49 2 (h 0 2) fX9_74 rfl dX9_findKings_46 rfl rfl rfl (by decide) rfl e02 ?_
      refine cSi2 52 kX9_findKings_213 dX9_findKings_49 rfl rfl (by decide) rfl (Nat.le_of_ble_eq_true rfl) (m_isWay hn (by omega)) ?_
      rintro x _ ⟨rfl, rfl⟩
      refine ev_if_eq 55 215 dX9_findKings_52 rfl rfl (b2i_r _) (fun c52 => ?_) (fun c52 => ?_)
      · have d52 := b2i_0.mp c52
        exact hNo H p h13 (fun c a b => by rw [show kfold h c (i + 1) = kfold h c i by { show kstep h c i (kfold h c i) = _; unfold kstep; rw [if_neg (fun w => by rw [d52] at w; cases w.1)] }]; exact hK c a b) _ _ _ _ --done
      · have d52 := b2i_n.mp c52
        refine ev_iload_n 56 dX9_findKings_55 rfl rfl ?_
        refine ev_istore_n 57 dX9_findKings_56 rfl (Nat.le_of_ble_eq_true rfl) ?_
        refine ev_iconst 58 dX9_findKings_57 rfl ?_
        refine ev_istore 60 dX9_findKings_58 rfl (Nat.le_of_ble_eq_true rfl) ?_
        refine ev_aload_n 61 dX9_findKings_60 rfl rfl ?_
        refine ev_getI' 64 2 (h 0 2) fX9_74 rfl dX9_findKings_61 rfl rfl rfl (by decide) rfl e02 ?_
        refine ev_iconst 65 dX9_findKings_64 rfl ?_
        refine ev_isub 66 dX9_findKings_65 rfl ?_
        refine ev_istore 68 dX9_findKings_66 rfl (Nat.le_of_ble_eq_true rfl) ?_
        refine ev_heap (hput_id (k := 13)).symm ?_
        refine m_fk_in (by rw [e02]; exact hn) (fun c a b => by rw [e4]; rw [e02] at b; have := hs.1 c a b; omega) (h 0 2).toNat (h 0 2 - 1) i 0 (H 13) (by omega) (by omega) (by omega) (fun l2 => ?_)
        rw [e02, e4]
        exact m_fk_body hW hs p h13 hK d52 hNo _ _
end FKS
end
