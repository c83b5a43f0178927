-- ===== PART A: goes FIRST, ahead of the names: the tables' words, and 'selects' of the private methods out of them =====
/-- a private method of a class that the tables say can be made, by its rows of tables_1 -/
def lw_okq (q : MethodName × Nat) : Prop := (q.1.cls ≠ "java/lang/invoke/MethodHandle" ∧ q.1.cls ≠ "java/lang/invoke/VarHandle") ∧ Cond.instantiable q.1.cls q.2 ∈ tables_1 ∧ Cond.privateMethod q.1 ∈ tables_1 ∧ Cond.instanceMethod q.1 ∈ tables_1
theorem lw_p0 : lw_okq (⟨"PlumbShaft", "remember", "()V"⟩, 8) := ⟨⟨by decide +kernel, by decide +kernel⟩, List.mem_of_getElem? (i := 16) (by decide +kernel), List.mem_of_getElem? (i := 278) (by decide +kernel), List.mem_of_getElem? (i := 279) (by decide +kernel)⟩
theorem lw_p1 : lw_okq (⟨"PlumbShaft", "dropOldestState", "()V"⟩, 8) := ⟨⟨by decide +kernel, by decide +kernel⟩, List.mem_of_getElem? (i := 16) (by decide +kernel), List.mem_of_getElem? (i := 282) (by decide +kernel), List.mem_of_getElem? (i := 283) (by decide +kernel)⟩
theorem lw_p2 : lw_okq (⟨"PlumbShaft", "isHung", "(I)Z"⟩, 8) := ⟨⟨by decide +kernel, by decide +kernel⟩, List.mem_of_getElem? (i := 16) (by decide +kernel), List.mem_of_getElem? (i := 326) (by decide +kernel), List.mem_of_getElem? (i := 327) (by decide +kernel)⟩
theorem lw_p3 : lw_okq (⟨"PlumbShaft", "refuse", "(I)I"⟩, 8) := ⟨⟨by decide +kernel, by decide +kernel⟩, List.mem_of_getElem? (i := 16) (by decide +kernel), List.mem_of_getElem? (i := 330) (by decide +kernel), List.mem_of_getElem? (i := 331) (by decide +kernel)⟩
theorem lw_p4 : lw_okq (⟨"PlumbShaft", "isStation", "(I)Z"⟩, 8) := ⟨⟨by decide +kernel, by decide +kernel⟩, List.mem_of_getElem? (i := 16) (by decide +kernel), List.mem_of_getElem? (i := 415) (by decide +kernel), List.mem_of_getElem? (i := 416) (by decide +kernel)⟩
theorem lw_p5 : lw_okq (⟨"PlumbShaft", "reasonAgainst", "(II)I"⟩, 8) := ⟨⟨by decide +kernel, by decide +kernel⟩, List.mem_of_getElem? (i := 16) (by decide +kernel), List.mem_of_getElem? (i := 498) (by decide +kernel), List.mem_of_getElem? (i := 499) (by decide +kernel)⟩
theorem lw_p6 : lw_okq (⟨"PlumbShaft", "isPairHung", "(I)Z"⟩, 8) := ⟨⟨by decide +kernel, by decide +kernel⟩, List.mem_of_getElem? (i := 16) (by decide +kernel), List.mem_of_getElem? (i := 502) (by decide +kernel), List.mem_of_getElem? (i := 503) (by decide +kernel)⟩
theorem lw_p7 : lw_okq (⟨"PlumbShaft", "firstOf", "(I)LPlumbShaft$Wire;"⟩, 8) := ⟨⟨by decide +kernel, by decide +kernel⟩, List.mem_of_getElem? (i := 16) (by decide +kernel), List.mem_of_getElem? (i := 506) (by decide +kernel), List.mem_of_getElem? (i := 507) (by decide +kernel)⟩
theorem lw_p8 : lw_okq (⟨"PlumbShaft", "secondOf", "(I)LPlumbShaft$Wire;"⟩, 8) := ⟨⟨by decide +kernel, by decide +kernel⟩, List.mem_of_getElem? (i := 16) (by decide +kernel), List.mem_of_getElem? (i := 510) (by decide +kernel), List.mem_of_getElem? (i := 511) (by decide +kernel)⟩
theorem lw_p9 : lw_okq (⟨"PlumbShaft", "firstSeen", "(II)LPlumbShaft$Observation;"⟩, 8) := ⟨⟨by decide +kernel, by decide +kernel⟩, List.mem_of_getElem? (i := 16) (by decide +kernel), List.mem_of_getElem? (i := 514) (by decide +kernel), List.mem_of_getElem? (i := 515) (by decide +kernel)⟩
theorem lw_p10 : lw_okq (⟨"PlumbShaft", "secondSeen", "(II)LPlumbShaft$Observation;"⟩, 8) := ⟨⟨by decide +kernel, by decide +kernel⟩, List.mem_of_getElem? (i := 16) (by decide +kernel), List.mem_of_getElem? (i := 518) (by decide +kernel), List.mem_of_getElem? (i := 519) (by decide +kernel)⟩
theorem lw_p11 : lw_okq (⟨"PlumbShaft", "isPairAtOnePlace", "(I)Z"⟩, 8) := ⟨⟨by decide +kernel, by decide +kernel⟩, List.mem_of_getElem? (i := 16) (by decide +kernel), List.mem_of_getElem? (i := 522) (by decide +kernel), List.mem_of_getElem? (i := 523) (by decide +kernel)⟩
theorem lw_p12 : lw_okq (⟨"PlumbShaft", "orientationFrom", "(II)I"⟩, 8) := ⟨⟨by decide +kernel, by decide +kernel⟩, List.mem_of_getElem? (i := 16) (by decide +kernel), List.mem_of_getElem? (i := 530) (by decide +kernel), List.mem_of_getElem? (i := 531) (by decide +kernel)⟩
theorem lw_p13 : lw_okq (⟨"PlumbShaft", "surfaceBearing", "(I)I"⟩, 8) := ⟨⟨by decide +kernel, by decide +kernel⟩, List.mem_of_getElem? (i := 16) (by decide +kernel), List.mem_of_getElem? (i := 550) (by decide +kernel), List.mem_of_getElem? (i := 551) (by decide +kernel)⟩
theorem lw_p14 : lw_okq (⟨"PlumbShaft", "carryOut", "(I)I"⟩, 8) := ⟨⟨by decide +kernel, by decide +kernel⟩, List.mem_of_getElem? (i := 16) (by decide +kernel), List.mem_of_getElem? (i := 670) (by decide +kernel), List.mem_of_getElem? (i := 671) (by decide +kernel)⟩
theorem lw_p15 : lw_okq (⟨"PlumbShaft", "errorOfReading", "(III)I"⟩, 8) := ⟨⟨by decide +kernel, by decide +kernel⟩, List.mem_of_getElem? (i := 16) (by decide +kernel), List.mem_of_getElem? (i := 711) (by decide +kernel), List.mem_of_getElem? (i := 712) (by decide +kernel)⟩
def lw_privs_1 : List (MethodName × Nat) := [(⟨"PlumbShaft", "remember", "()V"⟩, 8), (⟨"PlumbShaft", "dropOldestState", "()V"⟩, 8), (⟨"PlumbShaft", "isHung", "(I)Z"⟩, 8), (⟨"PlumbShaft", "refuse", "(I)I"⟩, 8), (⟨"PlumbShaft", "isStation", "(I)Z"⟩, 8), (⟨"PlumbShaft", "reasonAgainst", "(II)I"⟩, 8), (⟨"PlumbShaft", "isPairHung", "(I)Z"⟩, 8), (⟨"PlumbShaft", "firstOf", "(I)LPlumbShaft$Wire;"⟩, 8), (⟨"PlumbShaft", "secondOf", "(I)LPlumbShaft$Wire;"⟩, 8), (⟨"PlumbShaft", "firstSeen", "(II)LPlumbShaft$Observation;"⟩, 8), (⟨"PlumbShaft", "secondSeen", "(II)LPlumbShaft$Observation;"⟩, 8), (⟨"PlumbShaft", "isPairAtOnePlace", "(I)Z"⟩, 8), (⟨"PlumbShaft", "orientationFrom", "(II)I"⟩, 8), (⟨"PlumbShaft", "surfaceBearing", "(I)I"⟩, 8), (⟨"PlumbShaft", "carryOut", "(I)I"⟩, 8), (⟨"PlumbShaft", "errorOfReading", "(III)I"⟩, 8)]
theorem lw_r1 : ∀ q ∈ lw_privs_1, lw_okq q := List.forall_mem_cons.mpr ⟨lw_p0, List.forall_mem_cons.mpr ⟨lw_p1, List.forall_mem_cons.mpr ⟨lw_p2, List.forall_mem_cons.mpr ⟨lw_p3, List.forall_mem_cons.mpr ⟨lw_p4, List.forall_mem_cons.mpr ⟨lw_p5, List.forall_mem_cons.mpr ⟨lw_p6, List.forall_mem_cons.mpr ⟨lw_p7, List.forall_mem_cons.mpr ⟨lw_p8, List.forall_mem_cons.mpr ⟨lw_p9, List.forall_mem_cons.mpr ⟨lw_p10, List.forall_mem_cons.mpr ⟨lw_p11, List.forall_mem_cons.mpr ⟨lw_p12, List.forall_mem_cons.mpr ⟨lw_p13, List.forall_mem_cons.mpr ⟨lw_p14, List.forall_mem_cons.mpr ⟨lw_p15, fun _ h => absurd h List.not_mem_nil⟩⟩⟩⟩⟩⟩⟩⟩⟩⟩⟩⟩⟩⟩⟩⟩
theorem lw_p16 : lw_okq (⟨"PlumbShaftModel", "begin", "()V"⟩, 13) := ⟨⟨by decide +kernel, by decide +kernel⟩, List.mem_of_getElem? (i := 773) (by decide +kernel), List.mem_of_getElem? (i := 836) (by decide +kernel), List.mem_of_getElem? (i := 837) (by decide +kernel)⟩
theorem lw_p17 : lw_okq (⟨"PlumbShaftModel", "done", "(I)I"⟩, 13) := ⟨⟨by decide +kernel, by decide +kernel⟩, List.mem_of_getElem? (i := 773) (by decide +kernel), List.mem_of_getElem? (i := 840) (by decide +kernel), List.mem_of_getElem? (i := 841) (by decide +kernel)⟩
theorem lw_p18 : lw_okq (⟨"PlumbShaftModel", "put", "(III)V"⟩, 13) := ⟨⟨by decide +kernel, by decide +kernel⟩, List.mem_of_getElem? (i := 773) (by decide +kernel), List.mem_of_getElem? (i := 852) (by decide +kernel), List.mem_of_getElem? (i := 853) (by decide +kernel)⟩
theorem lw_p19 : lw_okq (⟨"PlumbShaftModel", "voidOf", "(I)I"⟩, 13) := ⟨⟨by decide +kernel, by decide +kernel⟩, List.mem_of_getElem? (i := 773) (by decide +kernel), List.mem_of_getElem? (i := 856) (by decide +kernel), List.mem_of_getElem? (i := 857) (by decide +kernel)⟩
theorem lw_p20 : lw_okq (⟨"PlumbShaftModel", "hungOnes", "()I"⟩, 13) := ⟨⟨by decide +kernel, by decide +kernel⟩, List.mem_of_getElem? (i := 773) (by decide +kernel), List.mem_of_getElem? (i := 863) (by decide +kernel), List.mem_of_getElem? (i := 864) (by decide +kernel)⟩
theorem lw_p21 : lw_okq (⟨"PlumbShaftModel", "of", "(II)I"⟩, 13) := ⟨⟨by decide +kernel, by decide +kernel⟩, List.mem_of_getElem? (i := 773) (by decide +kernel), List.mem_of_getElem? (i := 867) (by decide +kernel), List.mem_of_getElem? (i := 868) (by decide +kernel)⟩
theorem lw_p22 : lw_okq (⟨"PlumbShaftModel", "isHung", "(I)Z"⟩, 13) := ⟨⟨by decide +kernel, by decide +kernel⟩, List.mem_of_getElem? (i := 773) (by decide +kernel), List.mem_of_getElem? (i := 875) (by decide +kernel), List.mem_of_getElem? (i := 876) (by decide +kernel)⟩
theorem lw_p23 : lw_okq (⟨"PlumbShaftModel", "refuse", "(I)I"⟩, 13) := ⟨⟨by decide +kernel, by decide +kernel⟩, List.mem_of_getElem? (i := 773) (by decide +kernel), List.mem_of_getElem? (i := 879) (by decide +kernel), List.mem_of_getElem? (i := 880) (by decide +kernel)⟩
theorem lw_p24 : lw_okq (⟨"PlumbShaftModel", "doPush", "(III)I"⟩, 13) := ⟨⟨by decide +kernel, by decide +kernel⟩, List.mem_of_getElem? (i := 773) (by decide +kernel), List.mem_of_getElem? (i := 899) (by decide +kernel), List.mem_of_getElem? (i := 900) (by decide +kernel)⟩
theorem lw_p25 : lw_okq (⟨"PlumbShaftModel", "quarter", "(I)I"⟩, 13) := ⟨⟨by decide +kernel, by decide +kernel⟩, List.mem_of_getElem? (i := 773) (by decide +kernel), List.mem_of_getElem? (i := 903) (by decide +kernel), List.mem_of_getElem? (i := 904) (by decide +kernel)⟩
theorem lw_p26 : lw_okq (⟨"PlumbShaftModel", "doSwap", "(II)I"⟩, 13) := ⟨⟨by decide +kernel, by decide +kernel⟩, List.mem_of_getElem? (i := 773) (by decide +kernel), List.mem_of_getElem? (i := 911) (by decide +kernel), List.mem_of_getElem? (i := 912) (by decide +kernel)⟩
theorem lw_p27 : lw_okq (⟨"PlumbShaftModel", "voidAll", "()V"⟩, 13) := ⟨⟨by decide +kernel, by decide +kernel⟩, List.mem_of_getElem? (i := 773) (by decide +kernel), List.mem_of_getElem? (i := 920) (by decide +kernel), List.mem_of_getElem? (i := 921) (by decide +kernel)⟩
theorem lw_p28 : lw_okq (⟨"PlumbShaftModel", "doPass", "(I)I"⟩, 13) := ⟨⟨by decide +kernel, by decide +kernel⟩, List.mem_of_getElem? (i := 773) (by decide +kernel), List.mem_of_getElem? (i := 932) (by decide +kernel), List.mem_of_getElem? (i := 933) (by decide +kernel)⟩
theorem lw_p29 : lw_okq (⟨"PlumbShaftModel", "tick", "()V"⟩, 13) := ⟨⟨by decide +kernel, by decide +kernel⟩, List.mem_of_getElem? (i := 773) (by decide +kernel), List.mem_of_getElem? (i := 936) (by decide +kernel), List.mem_of_getElem? (i := 937) (by decide +kernel)⟩
theorem lw_p30 : lw_okq (⟨"PlumbShaftModel", "doObserve", "(III)I"⟩, 13) := ⟨⟨by decide +kernel, by decide +kernel⟩, List.mem_of_getElem? (i := 773) (by decide +kernel), List.mem_of_getElem? (i := 955) (by decide +kernel), List.mem_of_getElem? (i := 956) (by decide +kernel)⟩
theorem lw_p31 : lw_okq (⟨"PlumbShaftModel", "noStation", "(I)Z"⟩, 13) := ⟨⟨by decide +kernel, by decide +kernel⟩, List.mem_of_getElem? (i := 773) (by decide +kernel), List.mem_of_getElem? (i := 959) (by decide +kernel), List.mem_of_getElem? (i := 960) (by decide +kernel)⟩
def lw_privs_2 : List (MethodName × Nat) := [(⟨"PlumbShaftModel", "begin", "()V"⟩, 13), (⟨"PlumbShaftModel", "done", "(I)I"⟩, 13), (⟨"PlumbShaftModel", "put", "(III)V"⟩, 13), (⟨"PlumbShaftModel", "voidOf", "(I)I"⟩, 13), (⟨"PlumbShaftModel", "hungOnes", "()I"⟩, 13), (⟨"PlumbShaftModel", "of", "(II)I"⟩, 13), (⟨"PlumbShaftModel", "isHung", "(I)Z"⟩, 13), (⟨"PlumbShaftModel", "refuse", "(I)I"⟩, 13), (⟨"PlumbShaftModel", "doPush", "(III)I"⟩, 13), (⟨"PlumbShaftModel", "quarter", "(I)I"⟩, 13), (⟨"PlumbShaftModel", "doSwap", "(II)I"⟩, 13), (⟨"PlumbShaftModel", "voidAll", "()V"⟩, 13), (⟨"PlumbShaftModel", "doPass", "(I)I"⟩, 13), (⟨"PlumbShaftModel", "tick", "()V"⟩, 13), (⟨"PlumbShaftModel", "doObserve", "(III)I"⟩, 13), (⟨"PlumbShaftModel", "noStation", "(I)Z"⟩, 13)]
theorem lw_r2 : ∀ q ∈ lw_privs_2, lw_okq q := List.forall_mem_cons.mpr ⟨lw_p16, List.forall_mem_cons.mpr ⟨lw_p17, List.forall_mem_cons.mpr ⟨lw_p18, List.forall_mem_cons.mpr ⟨lw_p19, List.forall_mem_cons.mpr ⟨lw_p20, List.forall_mem_cons.mpr ⟨lw_p21, List.forall_mem_cons.mpr ⟨lw_p22, List.forall_mem_cons.mpr ⟨lw_p23, List.forall_mem_cons.mpr ⟨lw_p24, List.forall_mem_cons.mpr ⟨lw_p25, List.forall_mem_cons.mpr ⟨lw_p26, List.forall_mem_cons.mpr ⟨lw_p27, List.forall_mem_cons.mpr ⟨lw_p28, List.forall_mem_cons.mpr ⟨lw_p29, List.forall_mem_cons.mpr ⟨lw_p30, List.forall_mem_cons.mpr ⟨lw_p31, fun _ h => absurd h List.not_mem_nil⟩⟩⟩⟩⟩⟩⟩⟩⟩⟩⟩⟩⟩⟩⟩⟩
theorem lw_p32 : lw_okq (⟨"PlumbShaftModel", "positionAt", "(III)I"⟩, 13) := ⟨⟨by decide +kernel, by decide +kernel⟩, List.mem_of_getElem? (i := 773) (by decide +kernel), List.mem_of_getElem? (i := 963) (by decide +kernel), List.mem_of_getElem? (i := 964) (by decide +kernel)⟩
theorem lw_p33 : lw_okq (⟨"PlumbShaftModel", "restAt", "(III)I"⟩, 13) := ⟨⟨by decide +kernel, by decide +kernel⟩, List.mem_of_getElem? (i := 773) (by decide +kernel), List.mem_of_getElem? (i := 967) (by decide +kernel), List.mem_of_getElem? (i := 968) (by decide +kernel)⟩
theorem lw_p34 : lw_okq (⟨"PlumbShaftModel", "swing", "(I)I"⟩, 13) := ⟨⟨by decide +kernel, by decide +kernel⟩, List.mem_of_getElem? (i := 773) (by decide +kernel), List.mem_of_getElem? (i := 981) (by decide +kernel), List.mem_of_getElem? (i := 982) (by decide +kernel)⟩
theorem lw_p35 : lw_okq (⟨"PlumbShaftModel", "hasPair", "(I)Z"⟩, 13) := ⟨⟨by decide +kernel, by decide +kernel⟩, List.mem_of_getElem? (i := 773) (by decide +kernel), List.mem_of_getElem? (i := 999) (by decide +kernel), List.mem_of_getElem? (i := 1000) (by decide +kernel)⟩
theorem lw_p36 : lw_okq (⟨"PlumbShaftModel", "acrossTop", "(II)I"⟩, 13) := ⟨⟨by decide +kernel, by decide +kernel⟩, List.mem_of_getElem? (i := 773) (by decide +kernel), List.mem_of_getElem? (i := 1003) (by decide +kernel), List.mem_of_getElem? (i := 1004) (by decide +kernel)⟩
theorem lw_p37 : lw_okq (⟨"PlumbShaftModel", "missing", "(II)I"⟩, 13) := ⟨⟨by decide +kernel, by decide +kernel⟩, List.mem_of_getElem? (i := 773) (by decide +kernel), List.mem_of_getElem? (i := 1011) (by decide +kernel), List.mem_of_getElem? (i := 1012) (by decide +kernel)⟩
theorem lw_p38 : lw_okq (⟨"PlumbShaftModel", "acrossAt", "(III)I"⟩, 13) := ⟨⟨by decide +kernel, by decide +kernel⟩, List.mem_of_getElem? (i := 773) (by decide +kernel), List.mem_of_getElem? (i := 1015) (by decide +kernel), List.mem_of_getElem? (i := 1016) (by decide +kernel)⟩
theorem lw_p39 : lw_okq (⟨"PlumbShaftModel", "givenBy", "(II)I"⟩, 13) := ⟨⟨by decide +kernel, by decide +kernel⟩, List.mem_of_getElem? (i := 773) (by decide +kernel), List.mem_of_getElem? (i := 1019) (by decide +kernel), List.mem_of_getElem? (i := 1020) (by decide +kernel)⟩
theorem lw_p40 : lw_okq (⟨"PlumbShaftModel", "doOrient", "(I)I"⟩, 13) := ⟨⟨by decide +kernel, by decide +kernel⟩, List.mem_of_getElem? (i := 773) (by decide +kernel), List.mem_of_getElem? (i := 1031) (by decide +kernel), List.mem_of_getElem? (i := 1032) (by decide +kernel)⟩
theorem lw_p41 : lw_okq (⟨"PlumbShaftModel", "readOrder", "()V"⟩, 13) := ⟨⟨by decide +kernel, by decide +kernel⟩, List.mem_of_getElem? (i := 773) (by decide +kernel), List.mem_of_getElem? (i := 1048) (by decide +kernel), List.mem_of_getElem? (i := 1049) (by decide +kernel)⟩
theorem lw_p42 : lw_okq (⟨"PlumbShaftModel", "endOf", "(I)I"⟩, 13) := ⟨⟨by decide +kernel, by decide +kernel⟩, List.mem_of_getElem? (i := 773) (by decide +kernel), List.mem_of_getElem? (i := 1052) (by decide +kernel), List.mem_of_getElem? (i := 1053) (by decide +kernel)⟩
theorem lw_p43 : lw_okq (⟨"PlumbShaftModel", "word", "(II)I"⟩, 13) := ⟨⟨by decide +kernel, by decide +kernel⟩, List.mem_of_getElem? (i := 773) (by decide +kernel), List.mem_of_getElem? (i := 1056) (by decide +kernel), List.mem_of_getElem? (i := 1057) (by decide +kernel)⟩
theorem lw_p44 : lw_okq (⟨"PlumbShaftModel", "stands", "(IICCCC)Z"⟩, 13) := ⟨⟨by decide +kernel, by decide +kernel⟩, List.mem_of_getElem? (i := 773) (by decide +kernel), List.mem_of_getElem? (i := 1060) (by decide +kernel), List.mem_of_getElem? (i := 1061) (by decide +kernel)⟩
theorem lw_p45 : lw_okq (⟨"PlumbShaftModel", "fail", "(I)V"⟩, 13) := ⟨⟨by decide +kernel, by decide +kernel⟩, List.mem_of_getElem? (i := 773) (by decide +kernel), List.mem_of_getElem? (i := 1064) (by decide +kernel), List.mem_of_getElem? (i := 1065) (by decide +kernel)⟩
theorem lw_p46 : lw_okq (⟨"PlumbShaftModel", "number", "(II)I"⟩, 13) := ⟨⟨by decide +kernel, by decide +kernel⟩, List.mem_of_getElem? (i := 773) (by decide +kernel), List.mem_of_getElem? (i := 1068) (by decide +kernel), List.mem_of_getElem? (i := 1069) (by decide +kernel)⟩
theorem lw_p47 : lw_okq (⟨"PlumbShaftModel", "carryOut", "(I)I"⟩, 13) := ⟨⟨by decide +kernel, by decide +kernel⟩, List.mem_of_getElem? (i := 773) (by decide +kernel), List.mem_of_getElem? (i := 1072) (by decide +kernel), List.mem_of_getElem? (i := 1073) (by decide +kernel)⟩
def lw_privs_3 : List (MethodName × Nat) := [(⟨"PlumbShaftModel", "positionAt", "(III)I"⟩, 13), (⟨"PlumbShaftModel", "restAt", "(III)I"⟩, 13), (⟨"PlumbShaftModel", "swing", "(I)I"⟩, 13), (⟨"PlumbShaftModel", "hasPair", "(I)Z"⟩, 13), (⟨"PlumbShaftModel", "acrossTop", "(II)I"⟩, 13), (⟨"PlumbShaftModel", "missing", "(II)I"⟩, 13), (⟨"PlumbShaftModel", "acrossAt", "(III)I"⟩, 13), (⟨"PlumbShaftModel", "givenBy", "(II)I"⟩, 13), (⟨"PlumbShaftModel", "doOrient", "(I)I"⟩, 13), (⟨"PlumbShaftModel", "readOrder", "()V"⟩, 13), (⟨"PlumbShaftModel", "endOf", "(I)I"⟩, 13), (⟨"PlumbShaftModel", "word", "(II)I"⟩, 13), (⟨"PlumbShaftModel", "stands", "(IICCCC)Z"⟩, 13), (⟨"PlumbShaftModel", "fail", "(I)V"⟩, 13), (⟨"PlumbShaftModel", "number", "(II)I"⟩, 13), (⟨"PlumbShaftModel", "carryOut", "(I)I"⟩, 13)]
theorem lw_r3 : ∀ q ∈ lw_privs_3, lw_okq q := List.forall_mem_cons.mpr ⟨lw_p32, List.forall_mem_cons.mpr ⟨lw_p33, List.forall_mem_cons.mpr ⟨lw_p34, List.forall_mem_cons.mpr ⟨lw_p35, List.forall_mem_cons.mpr ⟨lw_p36, List.forall_mem_cons.mpr ⟨lw_p37, List.forall_mem_cons.mpr ⟨lw_p38, List.forall_mem_cons.mpr ⟨lw_p39, List.forall_mem_cons.mpr ⟨lw_p40, List.forall_mem_cons.mpr ⟨lw_p41, List.forall_mem_cons.mpr ⟨lw_p42, List.forall_mem_cons.mpr ⟨lw_p43, List.forall_mem_cons.mpr ⟨lw_p44, List.forall_mem_cons.mpr ⟨lw_p45, List.forall_mem_cons.mpr ⟨lw_p46, List.forall_mem_cons.mpr ⟨lw_p47, fun _ h => absurd h List.not_mem_nil⟩⟩⟩⟩⟩⟩⟩⟩⟩⟩⟩⟩⟩⟩⟩⟩
theorem lw_p48 : lw_okq (⟨"PlumbShaftModel", "barred", "(III)I"⟩, 13) := ⟨⟨by decide +kernel, by decide +kernel⟩, List.mem_of_getElem? (i := 773) (by decide +kernel), List.mem_of_getElem? (i := 1084) (by decide +kernel), List.mem_of_getElem? (i := 1085) (by decide +kernel)⟩
theorem lw_p49 : lw_okq (⟨"PlumbShaftModel", "seenHere", "(I)I"⟩, 13) := ⟨⟨by decide +kernel, by decide +kernel⟩, List.mem_of_getElem? (i := 773) (by decide +kernel), List.mem_of_getElem? (i := 1100) (by decide +kernel), List.mem_of_getElem? (i := 1101) (by decide +kernel)⟩
def lw_privs_4 : List (MethodName × Nat) := [(⟨"PlumbShaftModel", "barred", "(III)I"⟩, 13), (⟨"PlumbShaftModel", "seenHere", "(I)I"⟩, 13)]
theorem lw_r4 : ∀ q ∈ lw_privs_4, lw_okq q := List.forall_mem_cons.mpr ⟨lw_p48, List.forall_mem_cons.mpr ⟨lw_p49, fun _ h => absurd h List.not_mem_nil⟩⟩
def lw_privs : List (MethodName × Nat) := lw_privs_1 ++ (lw_privs_2 ++ (lw_privs_3 ++ (lw_privs_4)))
def lw_tbl : List Cond := k2_sels lw_privs ++ tables_1
theorem lw_privs_ok : ∀ q ∈ lw_privs, lw_okq q := by
  show ∀ q ∈ lw_privs_1 ++ (lw_privs_2 ++ (lw_privs_3 ++ (lw_privs_4))), lw_okq q
  exact List.forall_mem_append.mpr ⟨lw_r1, List.forall_mem_append.mpr ⟨lw_r2, List.forall_mem_append.mpr ⟨lw_r3, lw_r4⟩⟩⟩

def RX0 : String := "PlumbShaft$Current"
def TX0 : u_T := fun k => match k with
  | 0 => ("PlumbShaft$Current", "from", "I", false)
  | 1 => ("PlumbShaft$Current", "to", "I", false)
  | 2 => ("PlumbShaft$Current", "forceX", "I", false)
  | _ => ("PlumbShaft$Current", "forceY", "I", false)
def tyX0 : Nat → FieldType := fun k => match k with
  | 0 => .int
  | 1 => .int
  | 2 => .int
  | _ => .int
abbrev wsX00 : List Cond := u_ws RX0 TX0 4
theorem nmX0 : ∀ a, a < 4 → ∀ b, b < 4 → a ≠ b → (TX0 a).2.1 ≠ (TX0 b).2.1 := by decide +kernel
theorem tyX0_ok : ∀ k, k < 4 → parseFieldDescriptor (TX0 k).2.2.1 = some (tyX0 k) := by decide +kernel
abbrev cX0_init : ByteArray := prog_2_method_1_code
def yX0_init : MethodName := ⟨RX0, "<init>", "()V"⟩
abbrev cX0_copyFrom : ByteArray := prog_2_method_2_code
def yX0_copyFrom : MethodName := ⟨RX0, "copyFrom", "(LPlumbShaft$Current;)V"⟩
abbrev cX0_become : ByteArray := prog_2_method_3_code
def yX0_become : MethodName := ⟨RX0, "become", "(IIII)V"⟩
abbrev cX0_bend : ByteArray := prog_2_method_4_code
def yX0_bend : MethodName := ⟨RX0, "bend", "(III)I"⟩
def RX1 : String := "PlumbShaft$Observation"
def TX1 : u_T := fun k => match k with
  | 0 => ("PlumbShaft$Observation", "valid", "Z", false)
  | 1 => ("PlumbShaft$Observation", "meanX", "I", false)
  | 2 => ("PlumbShaft$Observation", "meanY", "I", false)
  | 3 => ("PlumbShaft$Observation", "spread", "I", false)
  | 4 => ("PlumbShaft$Observation", "ticks", "I", false)
  | _ => ("PlumbShaft$Observation", "endTime", "I", false)
def tyX1 : Nat → FieldType := fun k => match k with
  | 0 => .boolean
  | 1 => .int
  | 2 => .int
  | 3 => .int
  | 4 => .int
  | _ => .int
abbrev wsX10 : List Cond := u_ws RX1 TX1 6
theorem nmX1 : ∀ a, a < 6 → ∀ b, b < 6 → a ≠ b → (TX1 a).2.1 ≠ (TX1 b).2.1 := by decide +kernel
theorem tyX1_ok : ∀ k, k < 6 → parseFieldDescriptor (TX1 k).2.2.1 = some (tyX1 k) := by decide +kernel
abbrev cX1_init : ByteArray := prog_3_method_1_code
def yX1_init : MethodName := ⟨RX1, "<init>", "()V"⟩
abbrev cX1_copyFrom : ByteArray := prog_3_method_2_code
def yX1_copyFrom : MethodName := ⟨RX1, "copyFrom", "(LPlumbShaft$Observation;)V"⟩
abbrev cX1_property : ByteArray := prog_3_method_3_code
def yX1_property : MethodName := ⟨RX1, "property", "(I)I"⟩
def RX2 : String := "PlumbShaft$OrderText"
def TX2 : u_T := fun k => match k with
  | 0 => ("PlumbShaft$OrderText", "text", "[C", true)
  | 1 => ("PlumbShaft$OrderText", "length", "I", false)
  | 2 => ("PlumbShaft$OrderText", "words", "[I", true)
  | 3 => ("PlumbShaft$OrderText", "numbers", "[I", true)
  | 4 => ("PlumbShaft$OrderText", "count", "I", false)
  | _ => ("PlumbShaft$OrderText", "place", "I", false)
def tyX2 : Nat → FieldType := fun k => match k with
  | 0 => .array .char
  | 1 => .int
  | 2 => .array .int
  | 3 => .array .int
  | 4 => .int
  | _ => .int
abbrev wsX20 : List Cond := u_ws RX2 TX2 6
theorem nmX2 : ∀ a, a < 6 → ∀ b, b < 6 → a ≠ b → (TX2 a).2.1 ≠ (TX2 b).2.1 := by decide +kernel
theorem tyX2_ok : ∀ k, k < 6 → parseFieldDescriptor (TX2 k).2.2.1 = some (tyX2 k) := by decide +kernel
abbrev cX2_init : ByteArray := prog_4_method_1_code
def yX2_init : MethodName := ⟨RX2, "<init>", "()V"⟩
abbrev cX2_append : ByteArray := prog_4_method_2_code
def yX2_append : MethodName := ⟨RX2, "append", "(C)V"⟩
abbrev cX2_numberOf : ByteArray := prog_4_method_3_code
def yX2_numberOf : MethodName := ⟨RX2, "numberOf", "(II)I"⟩
abbrev cX2_readOrders : ByteArray := prog_4_method_4_code
def yX2_readOrders : MethodName := ⟨RX2, "readOrders", "()I"⟩
abbrev cX2_readOrder : ByteArray := prog_4_method_5_code
def yX2_readOrder : MethodName := ⟨RX2, "readOrder", "()Z"⟩
abbrev cX2_readNumber : ByteArray := prog_4_method_6_code
def yX2_readNumber : MethodName := ⟨RX2, "readNumber", "(CI)Z"⟩
abbrev cX2_tokenEnd : ByteArray := prog_4_method_7_code
def yX2_tokenEnd : MethodName := ⟨RX2, "tokenEnd", "()I"⟩
abbrev cX2_wordUpTo : ByteArray := prog_4_method_8_code
def yX2_wordUpTo : MethodName := ⟨RX2, "wordUpTo", "(I)I"⟩
abbrev cX2_isWordUpTo : ByteArray := prog_4_method_9_code
def yX2_isWordUpTo : MethodName := ⟨RX2, "isWordUpTo", "(ILjava/lang/String;)Z"⟩
abbrev cX2_numberUpTo : ByteArray := prog_4_method_10_code
def yX2_numberUpTo : MethodName := ⟨RX2, "numberUpTo", "(I)I"⟩
abbrev cX2_wordText : ByteArray := prog_4_method_11_code
def yX2_wordText : MethodName := ⟨RX2, "wordText", "(I)Ljava/lang/String;"⟩
abbrev cX2_kindsOfNumbers : ByteArray := prog_4_method_12_code
def yX2_kindsOfNumbers : MethodName := ⟨RX2, "kindsOfNumbers", "(I)Ljava/lang/String;"⟩
abbrev cX2_lowestNumber : ByteArray := prog_4_method_13_code
def yX2_lowestNumber : MethodName := ⟨RX2, "lowestNumber", "(C)I"⟩
abbrev cX2_highestNumber : ByteArray := prog_4_method_14_code
def yX2_highestNumber : MethodName := ⟨RX2, "highestNumber", "(C)I"⟩
def RX3 : String := "PlumbShaft$Readings"
def TX3 : u_T := fun k => match k with
  | 0 => ("PlumbShaft$Readings", "taken", "I", false)
  | 1 => ("PlumbShaft$Readings", "sum", "I", false)
  | 2 => ("PlumbShaft$Readings", "least", "I", false)
  | _ => ("PlumbShaft$Readings", "greatest", "I", false)
def tyX3 : Nat → FieldType := fun k => match k with
  | 0 => .int
  | 1 => .int
  | 2 => .int
  | _ => .int
abbrev wsX30 : List Cond := u_ws RX3 TX3 4
theorem nmX3 : ∀ a, a < 4 → ∀ b, b < 4 → a ≠ b → (TX3 a).2.1 ≠ (TX3 b).2.1 := by decide +kernel
theorem tyX3_ok : ∀ k, k < 4 → parseFieldDescriptor (TX3 k).2.2.1 = some (tyX3 k) := by decide +kernel
abbrev cX3_init : ByteArray := prog_5_method_1_code
def yX3_init : MethodName := ⟨RX3, "<init>", "()V"⟩
abbrev cX3_add : ByteArray := prog_5_method_2_code
def yX3_add : MethodName := ⟨RX3, "add", "(I)V"⟩
abbrev cX3_mean : ByteArray := prog_5_method_3_code
def yX3_mean : MethodName := ⟨RX3, "mean", "()I"⟩
abbrev cX3_spread : ByteArray := prog_5_method_4_code
def yX3_spread : MethodName := ⟨RX3, "spread", "()I"⟩
def RX4 : String := "PlumbShaft$State"
def TX4 : u_T := fun k => match k with
  | 0 => ("PlumbShaft$State", "wires", "[LPlumbShaft$Wire;", true)
  | 1 => ("PlumbShaft$State", "currents", "[LPlumbShaft$Current;", true)
  | 2 => ("PlumbShaft$State", "currentCount", "I", false)
  | 3 => ("PlumbShaft$State", "stations", "[LPlumbShaft$Station;", true)
  | 4 => ("PlumbShaft$State", "stationCount", "I", false)
  | 5 => ("PlumbShaft$State", "time", "I", false)
  | 6 => ("PlumbShaft$State", "tolerance", "I", false)
  | _ => ("PlumbShaft$State", "observedTicks", "I", false)
def tyX4 : Nat → FieldType := fun k => match k with
  | 0 => .array (.object "PlumbShaft$Wire")
  | 1 => .array (.object "PlumbShaft$Current")
  | 2 => .int
  | 3 => .array (.object "PlumbShaft$Station")
  | 4 => .int
  | 5 => .int
  | 6 => .int
  | _ => .int
abbrev wsX40 : List Cond := u_ws RX4 TX4 8
theorem nmX4 : ∀ a, a < 8 → ∀ b, b < 8 → a ≠ b → (TX4 a).2.1 ≠ (TX4 b).2.1 := by decide +kernel
theorem tyX4_ok : ∀ k, k < 8 → parseFieldDescriptor (TX4 k).2.2.1 = some (tyX4 k) := by decide +kernel
abbrev cX4_init : ByteArray := prog_6_method_1_code
def yX4_init : MethodName := ⟨RX4, "<init>", "()V"⟩
abbrev cX4_copyFrom : ByteArray := prog_6_method_2_code
def yX4_copyFrom : MethodName := ⟨RX4, "copyFrom", "(LPlumbShaft$State;)V"⟩
abbrev cX4_hungWires : ByteArray := prog_6_method_3_code
def yX4_hungWires : MethodName := ⟨RX4, "hungWires", "()I"⟩
abbrev cX4_orientedStations : ByteArray := prog_6_method_4_code
def yX4_orientedStations : MethodName := ⟨RX4, "orientedStations", "()I"⟩
abbrev cX4_validObservations : ByteArray := prog_6_method_5_code
def yX4_validObservations : MethodName := ⟨RX4, "validObservations", "()I"⟩
abbrev cX4_voidWire : ByteArray := prog_6_method_6_code
def yX4_voidWire : MethodName := ⟨RX4, "voidWire", "(I)I"⟩
abbrev cX4_voidAllWires : ByteArray := prog_6_method_7_code
def yX4_voidAllWires : MethodName := ⟨RX4, "voidAllWires", "()V"⟩
abbrev cX4_passTick : ByteArray := prog_6_method_8_code
def yX4_passTick : MethodName := ⟨RX4, "passTick", "()V"⟩
abbrev cX4_restAt : ByteArray := prog_6_method_9_code
def yX4_restAt : MethodName := ⟨RX4, "restAt", "(LPlumbShaft$Wire;II)I"⟩
abbrev cX4_look : ByteArray := prog_6_method_10_code
def yX4_look : MethodName := ⟨RX4, "look", "(III)V"⟩
def RX5 : String := "PlumbShaft$Station"
def TX5 : u_T := fun k => match k with
  | 0 => ("PlumbShaft$Station", "depth", "I", false)
  | 1 => ("PlumbShaft$Station", "frame", "I", false)
  | 2 => ("PlumbShaft$Station", "hasOrientation", "Z", false)
  | 3 => ("PlumbShaft$Station", "orientation", "I", false)
  | _ => ("PlumbShaft$Station", "seen", "[LPlumbShaft$Observation;", true)
def tyX5 : Nat → FieldType := fun k => match k with
  | 0 => .int
  | 1 => .int
  | 2 => .boolean
  | 3 => .int
  | _ => .array (.object "PlumbShaft$Observation")
abbrev wsX50 : List Cond := u_ws RX5 TX5 5
theorem nmX5 : ∀ a, a < 5 → ∀ b, b < 5 → a ≠ b → (TX5 a).2.1 ≠ (TX5 b).2.1 := by decide +kernel
theorem tyX5_ok : ∀ k, k < 5 → parseFieldDescriptor (TX5 k).2.2.1 = some (tyX5 k) := by decide +kernel
abbrev cX5_init : ByteArray := prog_7_method_1_code
def yX5_init : MethodName := ⟨RX5, "<init>", "()V"⟩
abbrev cX5_copyFrom : ByteArray := prog_7_method_2_code
def yX5_copyFrom : MethodName := ⟨RX5, "copyFrom", "(LPlumbShaft$Station;)V"⟩
abbrev cX5_become : ByteArray := prog_7_method_3_code
def yX5_become : MethodName := ⟨RX5, "become", "(II)V"⟩
abbrev cX5_validObservations : ByteArray := prog_7_method_4_code
def yX5_validObservations : MethodName := ⟨RX5, "validObservations", "()I"⟩
def RX6 : String := "PlumbShaft$Wire"
def TX6 : u_T := fun k => match k with
  | 0 => ("PlumbShaft$Wire", "hung", "Z", false)
  | 1 => ("PlumbShaft$Wire", "x", "I", false)
  | 2 => ("PlumbShaft$Wire", "y", "I", false)
  | 3 => ("PlumbShaft$Wire", "mass", "I", false)
  | 4 => ("PlumbShaft$Wire", "depth", "I", false)
  | 5 => ("PlumbShaft$Wire", "quarterTicks", "I", false)
  | 6 => ("PlumbShaft$Wire", "ex", "I", false)
  | 7 => ("PlumbShaft$Wire", "ey", "I", false)
  | 8 => ("PlumbShaft$Wire", "bucket", "I", false)
  | 9 => ("PlumbShaft$Wire", "direction", "I", false)
  | 10 => ("PlumbShaft$Wire", "amplitude", "I", false)
  | _ => ("PlumbShaft$Wire", "phase", "I", false)
def tyX6 : Nat → FieldType := fun k => match k with
  | 0 => .boolean
  | 1 => .int
  | 2 => .int
  | 3 => .int
  | 4 => .int
  | 5 => .int
  | 6 => .int
  | 7 => .int
  | 8 => .int
  | 9 => .int
  | 10 => .int
  | _ => .int
abbrev wsX60 : List Cond := u_ws RX6 TX6 12
theorem nmX6 : ∀ a, a < 12 → ∀ b, b < 12 → a ≠ b → (TX6 a).2.1 ≠ (TX6 b).2.1 := by decide +kernel
theorem tyX6_ok : ∀ k, k < 12 → parseFieldDescriptor (TX6 k).2.2.1 = some (tyX6 k) := by decide +kernel
abbrev cX6_init : ByteArray := prog_8_method_1_code
def yX6_init : MethodName := ⟨RX6, "<init>", "()V"⟩
abbrev cX6_copyFrom : ByteArray := prog_8_method_2_code
def yX6_copyFrom : MethodName := ⟨RX6, "copyFrom", "(LPlumbShaft$Wire;)V"⟩
abbrev cX6_hangAnew : ByteArray := prog_8_method_3_code
def yX6_hangAnew : MethodName := ⟨RX6, "hangAnew", "(IIII)V"⟩
abbrev cX6_startSway : ByteArray := prog_8_method_4_code
def yX6_startSway : MethodName := ⟨RX6, "startSway", "(I)V"⟩
abbrev cX6_tradePlaces : ByteArray := prog_8_method_5_code
def yX6_tradePlaces : MethodName := ⟨RX6, "tradePlaces", "(LPlumbShaft$Wire;)V"⟩
abbrev cX6_periodTicks : ByteArray := prog_8_method_6_code
def yX6_periodTicks : MethodName := ⟨RX6, "periodTicks", "()I"⟩
abbrev cX6_swayOneTick : ByteArray := prog_8_method_7_code
def yX6_swayOneTick : MethodName := ⟨RX6, "swayOneTick", "()V"⟩
abbrev cX6_calmed : ByteArray := prog_8_method_8_code
def yX6_calmed : MethodName := ⟨RX6, "calmed", "(I)I"⟩
abbrev cX6_ticksUntilCalm : ByteArray := prog_8_method_9_code
def yX6_ticksUntilCalm : MethodName := ⟨RX6, "ticksUntilCalm", "(I)I"⟩
abbrev cX6_swing : ByteArray := prog_8_method_10_code
def yX6_swing : MethodName := ⟨RX6, "swing", "()I"⟩
abbrev cX6_swayAt : ByteArray := prog_8_method_11_code
def yX6_swayAt : MethodName := ⟨RX6, "swayAt", "(II)I"⟩
abbrev cX6_property : ByteArray := prog_8_method_12_code
def yX6_property : MethodName := ⟨RX6, "property", "(I)I"⟩
def RX7 : String := "PlumbShaft"
def TX7 : u_T := fun k => match k with
  | 0 => ("PlumbShaft", "now", "LPlumbShaft$State;", true)
  | 1 => ("PlumbShaft", "history", "[LPlumbShaft$State;", true)
  | 2 => ("PlumbShaft", "historyLength", "I", false)
  | 3 => ("PlumbShaft", "slots", "[LPlumbShaft$State;", true)
  | 4 => ("PlumbShaft", "slotTaken", "[Z", true)
  | 5 => ("PlumbShaft", "orders", "LPlumbShaft$OrderText;", true)
  | 6 => ("PlumbShaft", "runningOrders", "Z", false)
  | _ => ("PlumbShaft", "reason", "I", false)
def tyX7 : Nat → FieldType := fun k => match k with
  | 0 => .object "PlumbShaft$State"
  | 1 => .array (.object "PlumbShaft$State")
  | 2 => .int
  | 3 => .array (.object "PlumbShaft$State")
  | 4 => .array .boolean
  | 5 => .object "PlumbShaft$OrderText"
  | 6 => .boolean
  | _ => .int
abbrev wsX70 : List Cond := u_ws RX7 TX7 8
theorem nmX7 : ∀ a, a < 8 → ∀ b, b < 8 → a ≠ b → (TX7 a).2.1 ≠ (TX7 b).2.1 := by decide +kernel
theorem tyX7_ok : ∀ k, k < 8 → parseFieldDescriptor (TX7 k).2.2.1 = some (tyX7 k) := by decide +kernel
abbrev cX7_init : ByteArray := prog_1_method_1_code
def yX7_init : MethodName := ⟨RX7, "<init>", "()V"⟩
abbrev cX7_hang : ByteArray := prog_1_method_2_code
def yX7_hang : MethodName := ⟨RX7, "hang", "(IIIII)I"⟩
abbrev cX7_lift : ByteArray := prog_1_method_3_code
def yX7_lift : MethodName := ⟨RX7, "lift", "(I)I"⟩
abbrev cX7_setClamp : ByteArray := prog_1_method_4_code
def yX7_setClamp : MethodName := ⟨RX7, "setClamp", "(III)I"⟩
abbrev cX7_setBucket : ByteArray := prog_1_method_5_code
def yX7_setBucket : MethodName := ⟨RX7, "setBucket", "(II)I"⟩
abbrev cX7_push : ByteArray := prog_1_method_6_code
def yX7_push : MethodName := ⟨RX7, "push", "(III)I"⟩
abbrev cX7_swap : ByteArray := prog_1_method_7_code
def yX7_swap : MethodName := ⟨RX7, "swap", "(II)I"⟩
abbrev cX7_addCurrent : ByteArray := prog_1_method_8_code
def yX7_addCurrent : MethodName := ⟨RX7, "addCurrent", "(IIII)I"⟩
abbrev cX7_clearCurrents : ByteArray := prog_1_method_9_code
def yX7_clearCurrents : MethodName := ⟨RX7, "clearCurrents", "()I"⟩
abbrev cX7_addStation : ByteArray := prog_1_method_10_code
def yX7_addStation : MethodName := ⟨RX7, "addStation", "(II)I"⟩
abbrev cX7_setTolerance : ByteArray := prog_1_method_11_code
def yX7_setTolerance : MethodName := ⟨RX7, "setTolerance", "(I)I"⟩
abbrev cX7_pass : ByteArray := prog_1_method_12_code
def yX7_pass : MethodName := ⟨RX7, "pass", "(I)I"⟩
abbrev cX7_observe : ByteArray := prog_1_method_13_code
def yX7_observe : MethodName := ⟨RX7, "observe", "(III)I"⟩
abbrev cX7_orient : ByteArray := prog_1_method_14_code
def yX7_orient : MethodName := ⟨RX7, "orient", "(I)I"⟩
abbrev cX7_type : ByteArray := prog_1_method_15_code
def yX7_type : MethodName := ⟨RX7, "type", "(C)I"⟩
abbrev cX7_clearText : ByteArray := prog_1_method_16_code
def yX7_clearText : MethodName := ⟨RX7, "clearText", "()I"⟩
abbrev cX7_runOrders : ByteArray := prog_1_method_17_code
def yX7_runOrders : MethodName := ⟨RX7, "runOrders", "()I"⟩
abbrev cX7_carryOut : ByteArray := prog_1_method_18_code
def yX7_carryOut : MethodName := ⟨RX7, "carryOut", "(I)I"⟩
abbrev cX7_undo : ByteArray := prog_1_method_19_code
def yX7_undo : MethodName := ⟨RX7, "undo", "()I"⟩
abbrev cX7_keep : ByteArray := prog_1_method_20_code
def yX7_keep : MethodName := ⟨RX7, "keep", "(I)I"⟩
abbrev cX7_restore : ByteArray := prog_1_method_21_code
def yX7_restore : MethodName := ⟨RX7, "restore", "(I)I"⟩
abbrev cX7_remember : ByteArray := prog_1_method_22_code
def yX7_remember : MethodName := ⟨RX7, "remember", "()V"⟩
abbrev cX7_dropOldestState : ByteArray := prog_1_method_23_code
def yX7_dropOldestState : MethodName := ⟨RX7, "dropOldestState", "()V"⟩
abbrev cX7_wire : ByteArray := prog_1_method_24_code
def yX7_wire : MethodName := ⟨RX7, "wire", "(II)I"⟩
abbrev cX7_rest : ByteArray := prog_1_method_25_code
def yX7_rest : MethodName := ⟨RX7, "rest", "(III)I"⟩
abbrev cX7_position : ByteArray := prog_1_method_26_code
def yX7_position : MethodName := ⟨RX7, "position", "(III)I"⟩
abbrev cX7_calmIn : ByteArray := prog_1_method_27_code
def yX7_calmIn : MethodName := ⟨RX7, "calmIn", "(II)I"⟩
abbrev cX7_station : ByteArray := prog_1_method_28_code
def yX7_station : MethodName := ⟨RX7, "station", "(II)I"⟩
abbrev cX7_observation : ByteArray := prog_1_method_29_code
def yX7_observation : MethodName := ⟨RX7, "observation", "(III)I"⟩
abbrev cX7_bearing : ByteArray := prog_1_method_30_code
def yX7_bearing : MethodName := ⟨RX7, "bearing", "(II)I"⟩
abbrev cX7_surface : ByteArray := prog_1_method_31_code
def yX7_surface : MethodName := ⟨RX7, "surface", "(I)I"⟩
abbrev cX7_given : ByteArray := prog_1_method_32_code
def yX7_given : MethodName := ⟨RX7, "given", "(II)I"⟩
abbrev cX7_count : ByteArray := prog_1_method_33_code
def yX7_count : MethodName := ⟨RX7, "count", "(I)I"⟩
abbrev cX7_isWithin : ByteArray := prog_1_method_34_code
def yX7_isWithin : MethodName := ⟨RX7, "isWithin", "(III)Z"⟩
abbrev cX7_isWire : ByteArray := prog_1_method_35_code
def yX7_isWire : MethodName := ⟨RX7, "isWire", "(I)Z"⟩
abbrev cX7_isPair : ByteArray := prog_1_method_36_code
def yX7_isPair : MethodName := ⟨RX7, "isPair", "(I)Z"⟩
abbrev cX7_isSlot : ByteArray := prog_1_method_37_code
def yX7_isSlot : MethodName := ⟨RX7, "isSlot", "(I)Z"⟩
abbrev cX7_isStation : ByteArray := prog_1_method_38_code
def yX7_isStation : MethodName := ⟨RX7, "isStation", "(I)Z"⟩
abbrev cX7_isHung : ByteArray := prog_1_method_39_code
def yX7_isHung : MethodName := ⟨RX7, "isHung", "(I)Z"⟩
abbrev cX7_refuse : ByteArray := prog_1_method_40_code
def yX7_refuse : MethodName := ⟨RX7, "refuse", "(I)I"⟩
abbrev cX7_errorOfReading : ByteArray := prog_1_method_41_code
def yX7_errorOfReading : MethodName := ⟨RX7, "errorOfReading", "(III)I"⟩
abbrev cX7_firstOf : ByteArray := prog_1_method_42_code
def yX7_firstOf : MethodName := ⟨RX7, "firstOf", "(I)LPlumbShaft$Wire;"⟩
abbrev cX7_secondOf : ByteArray := prog_1_method_43_code
def yX7_secondOf : MethodName := ⟨RX7, "secondOf", "(I)LPlumbShaft$Wire;"⟩
abbrev cX7_firstSeen : ByteArray := prog_1_method_44_code
def yX7_firstSeen : MethodName := ⟨RX7, "firstSeen", "(II)LPlumbShaft$Observation;"⟩
abbrev cX7_secondSeen : ByteArray := prog_1_method_45_code
def yX7_secondSeen : MethodName := ⟨RX7, "secondSeen", "(II)LPlumbShaft$Observation;"⟩
abbrev cX7_isPairHung : ByteArray := prog_1_method_46_code
def yX7_isPairHung : MethodName := ⟨RX7, "isPairHung", "(I)Z"⟩
abbrev cX7_isPairAtOnePlace : ByteArray := prog_1_method_47_code
def yX7_isPairAtOnePlace : MethodName := ⟨RX7, "isPairAtOnePlace", "(I)Z"⟩
abbrev cX7_surfaceBearing : ByteArray := prog_1_method_48_code
def yX7_surfaceBearing : MethodName := ⟨RX7, "surfaceBearing", "(I)I"⟩
abbrev cX7_reasonAgainst : ByteArray := prog_1_method_49_code
def yX7_reasonAgainst : MethodName := ⟨RX7, "reasonAgainst", "(II)I"⟩
abbrev cX7_lowerReason : ByteArray := prog_1_method_50_code
def yX7_lowerReason : MethodName := ⟨RX7, "lowerReason", "(II)I"⟩
abbrev cX7_orientationFrom : ByteArray := prog_1_method_51_code
def yX7_orientationFrom : MethodName := ⟨RX7, "orientationFrom", "(II)I"⟩
abbrev cX7_bearingOf : ByteArray := prog_1_method_52_code
def yX7_bearingOf : MethodName := ⟨RX7, "bearingOf", "(JJ)I"⟩
abbrev cX7_onCircle : ByteArray := prog_1_method_53_code
def yX7_onCircle : MethodName := ⟨RX7, "onCircle", "(J)I"⟩
abbrev cX7_roundedToZero : ByteArray := prog_1_method_54_code
def yX7_roundedToZero : MethodName := ⟨RX7, "roundedToZero", "(II)I"⟩
def RX8 : String := "PlumbShaftModel"
def TX8 : u_T := fun k => match k with
  | 0 => ("PlumbShaftModel", "row", "[I", true)
  | 1 => ("PlumbShaftModel", "scratch", "[I", true)
  | 2 => ("PlumbShaftModel", "history", "[I", true)
  | 3 => ("PlumbShaftModel", "kept", "I", false)
  | 4 => ("PlumbShaftModel", "slots", "[I", true)
  | 5 => ("PlumbShaftModel", "isKept", "[Z", true)
  | 6 => ("PlumbShaftModel", "reason", "I", false)
  | 7 => ("PlumbShaftModel", "typed", "I", false)
  | 8 => ("PlumbShaftModel", "text", "[C", true)
  | 9 => ("PlumbShaftModel", "place", "I", false)
  | 10 => ("PlumbShaftModel", "fault", "I", false)
  | 11 => ("PlumbShaftModel", "orders", "I", false)
  | _ => ("PlumbShaftModel", "orderOf", "[I", true)
def tyX8 : Nat → FieldType := fun k => match k with
  | 0 => .array .int
  | 1 => .array .int
  | 2 => .array .int
  | 3 => .int
  | 4 => .array .int
  | 5 => .array .boolean
  | 6 => .int
  | 7 => .int
  | 8 => .array .char
  | 9 => .int
  | 10 => .int
  | 11 => .int
  | _ => .array .int
abbrev wsX80 : List Cond := u_ws RX8 TX8 13
theorem nmX8 : ∀ a, a < 13 → ∀ b, b < 13 → a ≠ b → (TX8 a).2.1 ≠ (TX8 b).2.1 := by decide +kernel
theorem tyX8_ok : ∀ k, k < 13 → parseFieldDescriptor (TX8 k).2.2.1 = some (tyX8 k) := by decide +kernel
abbrev cX8_init : ByteArray := prog_10_method_1_code
def yX8_init : MethodName := ⟨RX8, "<init>", "()V"⟩
abbrev cX8_in : ByteArray := prog_10_method_2_code
def yX8_in : MethodName := ⟨RX8, "in", "(III)Z"⟩
abbrev cX8_size : ByteArray := prog_10_method_3_code
def yX8_size : MethodName := ⟨RX8, "size", "(I)I"⟩
abbrev cX8_down : ByteArray := prog_10_method_4_code
def yX8_down : MethodName := ⟨RX8, "down", "(JJ)J"⟩
abbrev cX8_round : ByteArray := prog_10_method_5_code
def yX8_round : MethodName := ⟨RX8, "round", "(J)I"⟩
abbrev cX8_refuse : ByteArray := prog_10_method_6_code
def yX8_refuse : MethodName := ⟨RX8, "refuse", "(I)I"⟩
abbrev cX8_begin : ByteArray := prog_10_method_7_code
def yX8_begin : MethodName := ⟨RX8, "begin", "()V"⟩
abbrev cX8_done : ByteArray := prog_10_method_8_code
def yX8_done : MethodName := ⟨RX8, "done", "(I)I"⟩
abbrev cX8_undo : ByteArray := prog_10_method_9_code
def yX8_undo : MethodName := ⟨RX8, "undo", "()I"⟩
abbrev cX8_keep : ByteArray := prog_10_method_10_code
def yX8_keep : MethodName := ⟨RX8, "keep", "(I)I"⟩
abbrev cX8_restore : ByteArray := prog_10_method_11_code
def yX8_restore : MethodName := ⟨RX8, "restore", "(I)I"⟩
abbrev cX8_of : ByteArray := prog_10_method_12_code
def yX8_of : MethodName := ⟨RX8, "of", "(II)I"⟩
abbrev cX8_put : ByteArray := prog_10_method_13_code
def yX8_put : MethodName := ⟨RX8, "put", "(III)V"⟩
abbrev cX8_noWire : ByteArray := prog_10_method_14_code
def yX8_noWire : MethodName := ⟨RX8, "noWire", "(I)Z"⟩
abbrev cX8_noStation : ByteArray := prog_10_method_15_code
def yX8_noStation : MethodName := ⟨RX8, "noStation", "(I)Z"⟩
abbrev cX8_isHung : ByteArray := prog_10_method_16_code
def yX8_isHung : MethodName := ⟨RX8, "isHung", "(I)Z"⟩
abbrev cX8_hungOnes : ByteArray := prog_10_method_17_code
def yX8_hungOnes : MethodName := ⟨RX8, "hungOnes", "()I"⟩
abbrev cX8_seenAt : ByteArray := prog_10_method_18_code
def yX8_seenAt : MethodName := ⟨RX8, "seenAt", "(II)I"⟩
abbrev cX8_voidOf : ByteArray := prog_10_method_19_code
def yX8_voidOf : MethodName := ⟨RX8, "voidOf", "(I)I"⟩
abbrev cX8_voidAll : ByteArray := prog_10_method_20_code
def yX8_voidAll : MethodName := ⟨RX8, "voidAll", "()V"⟩
abbrev cX8_hang : ByteArray := prog_10_method_21_code
def yX8_hang : MethodName := ⟨RX8, "hang", "(IIIII)I"⟩
abbrev cX8_lift : ByteArray := prog_10_method_22_code
def yX8_lift : MethodName := ⟨RX8, "lift", "(I)I"⟩
abbrev cX8_setClamp : ByteArray := prog_10_method_23_code
def yX8_setClamp : MethodName := ⟨RX8, "setClamp", "(III)I"⟩
abbrev cX8_setBucket : ByteArray := prog_10_method_24_code
def yX8_setBucket : MethodName := ⟨RX8, "setBucket", "(II)I"⟩
abbrev cX8_quarter : ByteArray := prog_10_method_25_code
def yX8_quarter : MethodName := ⟨RX8, "quarter", "(I)I"⟩
abbrev cX8_doPush : ByteArray := prog_10_method_26_code
def yX8_doPush : MethodName := ⟨RX8, "doPush", "(III)I"⟩
abbrev cX8_push : ByteArray := prog_10_method_27_code
def yX8_push : MethodName := ⟨RX8, "push", "(III)I"⟩
abbrev cX8_doSwap : ByteArray := prog_10_method_28_code
def yX8_doSwap : MethodName := ⟨RX8, "doSwap", "(II)I"⟩
abbrev cX8_swap : ByteArray := prog_10_method_29_code
def yX8_swap : MethodName := ⟨RX8, "swap", "(II)I"⟩
abbrev cX8_addCurrent : ByteArray := prog_10_method_30_code
def yX8_addCurrent : MethodName := ⟨RX8, "addCurrent", "(IIII)I"⟩
abbrev cX8_clearCurrents : ByteArray := prog_10_method_31_code
def yX8_clearCurrents : MethodName := ⟨RX8, "clearCurrents", "()I"⟩
abbrev cX8_lesser : ByteArray := prog_10_method_32_code
def yX8_lesser : MethodName := ⟨RX8, "lesser", "(II)I"⟩
abbrev cX8_restAt : ByteArray := prog_10_method_33_code
def yX8_restAt : MethodName := ⟨RX8, "restAt", "(III)I"⟩
abbrev cX8_swing : ByteArray := prog_10_method_34_code
def yX8_swing : MethodName := ⟨RX8, "swing", "(I)I"⟩
abbrev cX8_part : ByteArray := prog_10_method_35_code
def yX8_part : MethodName := ⟨RX8, "part", "(II)I"⟩
abbrev cX8_positionAt : ByteArray := prog_10_method_36_code
def yX8_positionAt : MethodName := ⟨RX8, "positionAt", "(III)I"⟩
abbrev cX8_calming : ByteArray := prog_10_method_37_code
def yX8_calming : MethodName := ⟨RX8, "calming", "(I)I"⟩
abbrev cX8_tick : ByteArray := prog_10_method_38_code
def yX8_tick : MethodName := ⟨RX8, "tick", "()V"⟩
abbrev cX8_doPass : ByteArray := prog_10_method_39_code
def yX8_doPass : MethodName := ⟨RX8, "doPass", "(I)I"⟩
abbrev cX8_pass : ByteArray := prog_10_method_40_code
def yX8_pass : MethodName := ⟨RX8, "pass", "(I)I"⟩
abbrev cX8_addStation : ByteArray := prog_10_method_41_code
def yX8_addStation : MethodName := ⟨RX8, "addStation", "(II)I"⟩
abbrev cX8_setTolerance : ByteArray := prog_10_method_42_code
def yX8_setTolerance : MethodName := ⟨RX8, "setTolerance", "(I)I"⟩
abbrev cX8_doObserve : ByteArray := prog_10_method_43_code
def yX8_doObserve : MethodName := ⟨RX8, "doObserve", "(III)I"⟩
abbrev cX8_observe : ByteArray := prog_10_method_44_code
def yX8_observe : MethodName := ⟨RX8, "observe", "(III)I"⟩
abbrev cX8_bearingOf : ByteArray := prog_10_method_45_code
def yX8_bearingOf : MethodName := ⟨RX8, "bearingOf", "(II)I"⟩
abbrev cX8_bearing : ByteArray := prog_10_method_46_code
def yX8_bearing : MethodName := ⟨RX8, "bearing", "(II)I"⟩
abbrev cX8_hasPair : ByteArray := prog_10_method_47_code
def yX8_hasPair : MethodName := ⟨RX8, "hasPair", "(I)Z"⟩
abbrev cX8_acrossTop : ByteArray := prog_10_method_48_code
def yX8_acrossTop : MethodName := ⟨RX8, "acrossTop", "(II)I"⟩
abbrev cX8_acrossAt : ByteArray := prog_10_method_49_code
def yX8_acrossAt : MethodName := ⟨RX8, "acrossAt", "(III)I"⟩
abbrev cX8_surface : ByteArray := prog_10_method_50_code
def yX8_surface : MethodName := ⟨RX8, "surface", "(I)I"⟩
abbrev cX8_missing : ByteArray := prog_10_method_51_code
def yX8_missing : MethodName := ⟨RX8, "missing", "(II)I"⟩
abbrev cX8_givenBy : ByteArray := prog_10_method_52_code
def yX8_givenBy : MethodName := ⟨RX8, "givenBy", "(II)I"⟩
abbrev cX8_given : ByteArray := prog_10_method_53_code
def yX8_given : MethodName := ⟨RX8, "given", "(II)I"⟩
abbrev cX8_doOrient : ByteArray := prog_10_method_54_code
def yX8_doOrient : MethodName := ⟨RX8, "doOrient", "(I)I"⟩
abbrev cX8_orient : ByteArray := prog_10_method_55_code
def yX8_orient : MethodName := ⟨RX8, "orient", "(I)I"⟩
abbrev cX8_type : ByteArray := prog_10_method_56_code
def yX8_type : MethodName := ⟨RX8, "type", "(C)I"⟩
abbrev cX8_clearText : ByteArray := prog_10_method_57_code
def yX8_clearText : MethodName := ⟨RX8, "clearText", "()I"⟩
abbrev cX8_endOf : ByteArray := prog_10_method_58_code
def yX8_endOf : MethodName := ⟨RX8, "endOf", "(I)I"⟩
abbrev cX8_stands : ByteArray := prog_10_method_59_code
def yX8_stands : MethodName := ⟨RX8, "stands", "(IICCCC)Z"⟩
abbrev cX8_word : ByteArray := prog_10_method_60_code
def yX8_word : MethodName := ⟨RX8, "word", "(II)I"⟩
abbrev cX8_fail : ByteArray := prog_10_method_61_code
def yX8_fail : MethodName := ⟨RX8, "fail", "(I)V"⟩
abbrev cX8_number : ByteArray := prog_10_method_62_code
def yX8_number : MethodName := ⟨RX8, "number", "(II)I"⟩
abbrev cX8_readOrder : ByteArray := prog_10_method_63_code
def yX8_readOrder : MethodName := ⟨RX8, "readOrder", "()V"⟩
abbrev cX8_carryOut : ByteArray := prog_10_method_64_code
def yX8_carryOut : MethodName := ⟨RX8, "carryOut", "(I)I"⟩
abbrev cX8_runOrders : ByteArray := prog_10_method_65_code
def yX8_runOrders : MethodName := ⟨RX8, "runOrders", "()I"⟩
abbrev cX8_wire : ByteArray := prog_10_method_66_code
def yX8_wire : MethodName := ⟨RX8, "wire", "(II)I"⟩
abbrev cX8_barred : ByteArray := prog_10_method_67_code
def yX8_barred : MethodName := ⟨RX8, "barred", "(III)I"⟩
abbrev cX8_rest : ByteArray := prog_10_method_68_code
def yX8_rest : MethodName := ⟨RX8, "rest", "(III)I"⟩
abbrev cX8_position : ByteArray := prog_10_method_69_code
def yX8_position : MethodName := ⟨RX8, "position", "(III)I"⟩
abbrev cX8_calmIn : ByteArray := prog_10_method_70_code
def yX8_calmIn : MethodName := ⟨RX8, "calmIn", "(II)I"⟩
abbrev cX8_seenHere : ByteArray := prog_10_method_71_code
def yX8_seenHere : MethodName := ⟨RX8, "seenHere", "(I)I"⟩
abbrev cX8_station : ByteArray := prog_10_method_72_code
def yX8_station : MethodName := ⟨RX8, "station", "(II)I"⟩
abbrev cX8_observation : ByteArray := prog_10_method_73_code
def yX8_observation : MethodName := ⟨RX8, "observation", "(III)I"⟩
abbrev cX8_count : ByteArray := prog_10_method_74_code
def yX8_count : MethodName := ⟨RX8, "count", "(I)I"⟩
def RJ9 : String := "java/lang/Math"
def TJ9 : u_T := fun k => match k with
  | _ => ("", "", "", false)
def tyJ9 : Nat → FieldType := fun k => match k with
  | _ => .int
abbrev wsJ90 : List Cond := u_ws RJ9 TJ9 0
theorem nmJ9 : ∀ a, a < 0 → ∀ b, b < 0 → a ≠ b → (TJ9 a).2.1 ≠ (TJ9 b).2.1 := by decide +kernel
theorem tyJ9_ok : ∀ k, k < 0 → parseFieldDescriptor (TJ9 k).2.2.1 = some (tyJ9 k) := by decide +kernel
abbrev cJ9_floorDiv_7cf53 : ByteArray := prog_11_method_47_code
def yJ9_floorDiv_7cf53 : MethodName := ⟨RJ9, "floorDiv", "(II)I"⟩
abbrev cJ9_floorDiv_f86c9 : ByteArray := prog_11_method_49_code
def yJ9_floorDiv_f86c9 : MethodName := ⟨RJ9, "floorDiv", "(JJ)J"⟩
abbrev cJ9_floorMod_f86c9 : ByteArray := prog_11_method_52_code
def yJ9_floorMod_f86c9 : MethodName := ⟨RJ9, "floorMod", "(JJ)J"⟩
abbrev cJ9_abs_0f7a4 : ByteArray := prog_11_method_59_code
def yJ9_abs_0f7a4 : MethodName := ⟨RJ9, "abs", "(I)I"⟩
abbrev cJ9_abs_067f4 : ByteArray := prog_11_method_61_code
def yJ9_abs_067f4 : MethodName := ⟨RJ9, "abs", "(J)J"⟩
abbrev cJ9_max_7cf53 : ByteArray := prog_11_method_65_code
def yJ9_max_7cf53 : MethodName := ⟨RJ9, "max", "(II)I"⟩
abbrev cJ9_min_7cf53 : ByteArray := prog_11_method_69_code
def yJ9_min_7cf53 : MethodName := ⟨RJ9, "min", "(II)I"⟩
def RJ0 : String := "java/lang/String"
def TJ0 : u_T := fun k => match k with
  | _ => ("", "", "", false)
def tyJ0 : Nat → FieldType := fun k => match k with
  | _ => .int
abbrev wsJ00 : List Cond := u_ws RJ0 TJ0 0
theorem nmJ0 : ∀ a, a < 0 → ∀ b, b < 0 → a ≠ b → (TJ0 a).2.1 ≠ (TJ0 b).2.1 := by decide +kernel
theorem tyJ0_ok : ∀ k, k < 0 → parseFieldDescriptor (TJ0 k).2.2.1 = some (tyJ0 k) := by decide +kernel
abbrev cJ0_length_8abf5 : ByteArray := prog_12_method_54_code
def yJ0_length_8abf5 : MethodName := ⟨RJ0, "length", "()I"⟩
abbrev cJ0_charAt_5068e : ByteArray := prog_12_method_56_code
def yJ0_charAt_5068e : MethodName := ⟨RJ0, "charAt", "(I)C"⟩
abbrev cJ0_coder_7d493 : ByteArray := prog_12_method_152_code
def yJ0_coder_7d493 : MethodName := ⟨RJ0, "coder", "()B"⟩
abbrev cJ0_isLatin1_aae02 : ByteArray := prog_12_method_154_code
def yJ0_isLatin1_aae02 : MethodName := ⟨RJ0, "isLatin1", "()Z"⟩
abbrev cJ0_checkIndex_df160 : ByteArray := prog_12_method_155_code
def yJ0_checkIndex_df160 : MethodName := ⟨RJ0, "checkIndex", "(II)V"⟩
def RJ1 : String := "java/lang/StringLatin1"
def TJ1 : u_T := fun k => match k with
  | _ => ("", "", "", false)
def tyJ1 : Nat → FieldType := fun k => match k with
  | _ => .int
abbrev wsJ10 : List Cond := u_ws RJ1 TJ1 0
theorem nmJ1 : ∀ a, a < 0 → ∀ b, b < 0 → a ≠ b → (TJ1 a).2.1 ≠ (TJ1 b).2.1 := by decide +kernel
theorem tyJ1_ok : ∀ k, k < 0 → parseFieldDescriptor (TJ1 k).2.2.1 = some (tyJ1 k) := by decide +kernel
abbrev cJ1_charAt_3b067 : ByteArray := prog_13_method_2_code
def yJ1_charAt_3b067 : MethodName := ⟨RJ1, "charAt", "([BI)C"⟩
def RJ2 : String := "java/lang/StringUTF16"
def TJ2 : u_T := fun k => match k with
  | _ => ("", "", "", false)
def tyJ2 : Nat → FieldType := fun k => match k with
  | _ => .int
abbrev wsJ20 : List Cond := u_ws RJ2 TJ2 0
theorem nmJ2 : ∀ a, a < 0 → ∀ b, b < 0 → a ≠ b → (TJ2 a).2.1 ≠ (TJ2 b).2.1 := by decide +kernel
theorem tyJ2_ok : ∀ k, k < 0 → parseFieldDescriptor (TJ2 k).2.2.1 = some (tyJ2 k) := by decide +kernel
abbrev cJ2_getChar_3b067 : ByteArray := prog_14_method_5_code
def yJ2_getChar_3b067 : MethodName := ⟨RJ2, "getChar", "([BI)C"⟩
abbrev cJ2_length_9d52b : ByteArray := prog_14_method_6_code
def yJ2_length_9d52b : MethodName := ⟨RJ2, "length", "([B)I"⟩
abbrev cJ2_charAt_3b067 : ByteArray := prog_14_method_83_code
def yJ2_charAt_3b067 : MethodName := ⟨RJ2, "charAt", "([BI)C"⟩
abbrev cJ2_checkIndex_2214a : ByteArray := prog_14_method_91_code
def yJ2_checkIndex_2214a : MethodName := ⟨RJ2, "checkIndex", "(I[B)V"⟩
def RJ3 : String := "jdk/internal/util/Preconditions"
def TJ3 : u_T := fun k => match k with
  | _ => ("", "", "", false)
def tyJ3 : Nat → FieldType := fun k => match k with
  | _ => .int
abbrev wsJ30 : List Cond := u_ws RJ3 TJ3 0
theorem nmJ3 : ∀ a, a < 0 → ∀ b, b < 0 → a ≠ b → (TJ3 a).2.1 ≠ (TJ3 b).2.1 := by decide +kernel
theorem tyJ3_ok : ∀ k, k < 0 → parseFieldDescriptor (TJ3 k).2.2.1 = some (tyJ3 k) := by decide +kernel
abbrev cJ3_checkIndex_8e157 : ByteArray := prog_15_method_11_code
def yJ3_checkIndex_8e157 : MethodName := ⟨RJ3, "checkIndex", "(IILjava/util/function/BiFunction;)I"⟩
def RL : String := "PlumbShaftLaw"
abbrev cL_law : ByteArray := code
def yL_law : MethodName := ⟨RL, "law", "([I)Z"⟩
abbrev vwCl : List vw_C := [(RX0, TX0, 4), (RX1, TX1, 6), (RX2, TX2, 6), (RX3, TX3, 4), (RX4, TX4, 8), (RX5, TX5, 5), (RX6, TX6, 12), (RX7, TX7, 8), (RX8, TX8, 13)]
