section
-- ===== PART A: goes FIRST, ahead of the names: the tables' words, and 'selects' of the private methods out of them =====
/-- a private method of a class that the tables say can be made, by its rows of tables_1 -/
def lw_okq (q : MethodName × Nat) : Prop := (q.1.cls ≠ "java/lang/invoke/MethodHandle" ∧ q.1.cls ≠ "java/lang/invoke/VarHandle") ∧ Cond.instantiable q.1.cls q.2 ∈ tables_1 ∧ Cond.privateMethod q.1 ∈ tables_1 ∧ Cond.instanceMethod q.1 ∈ tables_1
theorem lw_p0 : lw_okq (⟨"PlumbShaft", "remember", "()V"⟩, 8) := ⟨⟨by decide +kernel, by decide +kernel⟩, List.mem_of_getElem? (i := 16) (by decide +kernel), List.mem_of_getElem? (i := 275) (by decide +kernel), List.mem_of_getElem? (i := 276) (by decide +kernel)⟩
theorem lw_p1 : lw_okq (⟨"PlumbShaft", "dropOldestState", "()V"⟩, 8) := ⟨⟨by decide +kernel, by decide +kernel⟩, List.mem_of_getElem? (i := 16) (by decide +kernel), List.mem_of_getElem? (i := 279) (by decide +kernel), List.mem_of_getElem? (i := 280) (by decide +kernel)⟩
theorem lw_p2 : lw_okq (⟨"PlumbShaft", "isHung", "(I)Z"⟩, 8) := ⟨⟨by decide +kernel, by decide +kernel⟩, List.mem_of_getElem? (i := 16) (by decide +kernel), List.mem_of_getElem? (i := 323) (by decide +kernel), List.mem_of_getElem? (i := 324) (by decide +kernel)⟩
theorem lw_p3 : lw_okq (⟨"PlumbShaft", "refuse", "(I)I"⟩, 8) := ⟨⟨by decide +kernel, by decide +kernel⟩, List.mem_of_getElem? (i := 16) (by decide +kernel), List.mem_of_getElem? (i := 327) (by decide +kernel), List.mem_of_getElem? (i := 328) (by decide +kernel)⟩
theorem lw_p4 : lw_okq (⟨"PlumbShaft", "isStation", "(I)Z"⟩, 8) := ⟨⟨by decide +kernel, by decide +kernel⟩, List.mem_of_getElem? (i := 16) (by decide +kernel), List.mem_of_getElem? (i := 416) (by decide +kernel), List.mem_of_getElem? (i := 417) (by decide +kernel)⟩
theorem lw_p5 : lw_okq (⟨"PlumbShaft", "reasonAgainst", "(II)I"⟩, 8) := ⟨⟨by decide +kernel, by decide +kernel⟩, List.mem_of_getElem? (i := 16) (by decide +kernel), List.mem_of_getElem? (i := 499) (by decide +kernel), List.mem_of_getElem? (i := 500) (by decide +kernel)⟩
theorem lw_p6 : lw_okq (⟨"PlumbShaft", "isPairHung", "(I)Z"⟩, 8) := ⟨⟨by decide +kernel, by decide +kernel⟩, List.mem_of_getElem? (i := 16) (by decide +kernel), List.mem_of_getElem? (i := 503) (by decide +kernel), List.mem_of_getElem? (i := 504) (by decide +kernel)⟩
theorem lw_p7 : lw_okq (⟨"PlumbShaft", "firstOf", "(I)LPlumbShaft$Wire;"⟩, 8) := ⟨⟨by decide +kernel, by decide +kernel⟩, List.mem_of_getElem? (i := 16) (by decide +kernel), List.mem_of_getElem? (i := 507) (by decide +kernel), List.mem_of_getElem? (i := 508) (by decide +kernel)⟩
theorem lw_p8 : lw_okq (⟨"PlumbShaft", "secondOf", "(I)LPlumbShaft$Wire;"⟩, 8) := ⟨⟨by decide +kernel, by decide +kernel⟩, List.mem_of_getElem? (i := 16) (by decide +kernel), List.mem_of_getElem? (i := 511) (by decide +kernel), List.mem_of_getElem? (i := 512) (by decide +kernel)⟩
theorem lw_p9 : lw_okq (⟨"PlumbShaft", "firstSeen", "(II)LPlumbShaft$Observation;"⟩, 8) := ⟨⟨by decide +kernel, by decide +kernel⟩, List.mem_of_getElem? (i := 16) (by decide +kernel), List.mem_of_getElem? (i := 515) (by decide +kernel), List.mem_of_getElem? (i := 516) (by decide +kernel)⟩
theorem lw_p10 : lw_okq (⟨"PlumbShaft", "secondSeen", "(II)LPlumbShaft$Observation;"⟩, 8) := ⟨⟨by decide +kernel, by decide +kernel⟩, List.mem_of_getElem? (i := 16) (by decide +kernel), List.mem_of_getElem? (i := 519) (by decide +kernel), List.mem_of_getElem? (i := 520) (by decide +kernel)⟩
theorem lw_p11 : lw_okq (⟨"PlumbShaft", "isPairAtOnePlace", "(I)Z"⟩, 8) := ⟨⟨by decide +kernel, by decide +kernel⟩, List.mem_of_getElem? (i := 16) (by decide +kernel), List.mem_of_getElem? (i := 523) (by decide +kernel), List.mem_of_getElem? (i := 524) (by decide +kernel)⟩
theorem lw_p12 : lw_okq (⟨"PlumbShaft", "orientationFrom", "(II)I"⟩, 8) := ⟨⟨by decide +kernel, by decide +kernel⟩, List.mem_of_getElem? (i := 16) (by decide +kernel), List.mem_of_getElem? (i := 531) (by decide +kernel), List.mem_of_getElem? (i := 532) (by decide +kernel)⟩
theorem lw_p13 : lw_okq (⟨"PlumbShaft", "surfaceBearing", "(I)I"⟩, 8) := ⟨⟨by decide +kernel, by decide +kernel⟩, List.mem_of_getElem? (i := 16) (by decide +kernel), List.mem_of_getElem? (i := 551) (by decide +kernel), List.mem_of_getElem? (i := 552) (by decide +kernel)⟩
theorem lw_p14 : lw_okq (⟨"PlumbShaft", "carryOut", "(I)I"⟩, 8) := ⟨⟨by decide +kernel, by decide +kernel⟩, List.mem_of_getElem? (i := 16) (by decide +kernel), List.mem_of_getElem? (i := 671) (by decide +kernel), List.mem_of_getElem? (i := 672) (by decide +kernel)⟩
theorem lw_p15 : lw_okq (⟨"PlumbShaft", "errorOfReading", "(III)I"⟩, 8) := ⟨⟨by decide +kernel, by decide +kernel⟩, List.mem_of_getElem? (i := 16) (by decide +kernel), List.mem_of_getElem? (i := 712) (by decide +kernel), List.mem_of_getElem? (i := 713) (by decide +kernel)⟩
def lw_privs_1 : List (MethodName × Nat) := [(⟨"PlumbShaft", "remember", "()V"⟩, 8), (⟨"PlumbShaft", "dropOldestState", "()V"⟩, 8), (⟨"PlumbShaft", "isHung", "(I)Z"⟩, 8), (⟨"PlumbShaft", "refuse", "(I)I"⟩, 8), (⟨"PlumbShaft", "isStation", "(I)Z"⟩, 8), (⟨"PlumbShaft", "reasonAgainst", "(II)I"⟩, 8), (⟨"PlumbShaft", "isPairHung", "(I)Z"⟩, 8), (⟨"PlumbShaft", "firstOf", "(I)LPlumbShaft$Wire;"⟩, 8), (⟨"PlumbShaft", "secondOf", "(I)LPlumbShaft$Wire;"⟩, 8), (⟨"PlumbShaft", "firstSeen", "(II)LPlumbShaft$Observation;"⟩, 8), (⟨"PlumbShaft", "secondSeen", "(II)LPlumbShaft$Observation;"⟩, 8), (⟨"PlumbShaft", "isPairAtOnePlace", "(I)Z"⟩, 8), (⟨"PlumbShaft", "orientationFrom", "(II)I"⟩, 8), (⟨"PlumbShaft", "surfaceBearing", "(I)I"⟩, 8), (⟨"PlumbShaft", "carryOut", "(I)I"⟩, 8), (⟨"PlumbShaft", "errorOfReading", "(III)I"⟩, 8)]
theorem lw_r1 : ∀ q ∈ lw_privs_1, lw_okq q := List.forall_mem_cons.mpr ⟨lw_p0, List.forall_mem_cons.mpr ⟨lw_p1, List.forall_mem_cons.mpr ⟨lw_p2, List.forall_mem_cons.mpr ⟨lw_p3, List.forall_mem_cons.mpr ⟨lw_p4, List.forall_mem_cons.mpr ⟨lw_p5, List.forall_mem_cons.mpr ⟨lw_p6, List.forall_mem_cons.mpr ⟨lw_p7, List.forall_mem_cons.mpr ⟨lw_p8, List.forall_mem_cons.mpr ⟨lw_p9, List.forall_mem_cons.mpr ⟨lw_p10, List.forall_mem_cons.mpr ⟨lw_p11, List.forall_mem_cons.mpr ⟨lw_p12, List.forall_mem_cons.mpr ⟨lw_p13, List.forall_mem_cons.mpr ⟨lw_p14, List.forall_mem_cons.mpr ⟨lw_p15, fun _ h => absurd h List.not_mem_nil⟩⟩⟩⟩⟩⟩⟩⟩⟩⟩⟩⟩⟩⟩⟩⟩
theorem lw_p16 : lw_okq (⟨"PlumbShaftModel", "begin", "()V"⟩, 13) := ⟨⟨by decide +kernel, by decide +kernel⟩, List.mem_of_getElem? (i := 774) (by decide +kernel), List.mem_of_getElem? (i := 837) (by decide +kernel), List.mem_of_getElem? (i := 838) (by decide +kernel)⟩
theorem lw_p17 : lw_okq (⟨"PlumbShaftModel", "done", "(I)I"⟩, 13) := ⟨⟨by decide +kernel, by decide +kernel⟩, List.mem_of_getElem? (i := 774) (by decide +kernel), List.mem_of_getElem? (i := 841) (by decide +kernel), List.mem_of_getElem? (i := 842) (by decide +kernel)⟩
theorem lw_p18 : lw_okq (⟨"PlumbShaftModel", "put", "(III)V"⟩, 13) := ⟨⟨by decide +kernel, by decide +kernel⟩, List.mem_of_getElem? (i := 774) (by decide +kernel), List.mem_of_getElem? (i := 853) (by decide +kernel), List.mem_of_getElem? (i := 854) (by decide +kernel)⟩
theorem lw_p19 : lw_okq (⟨"PlumbShaftModel", "voidOf", "(I)I"⟩, 13) := ⟨⟨by decide +kernel, by decide +kernel⟩, List.mem_of_getElem? (i := 774) (by decide +kernel), List.mem_of_getElem? (i := 857) (by decide +kernel), List.mem_of_getElem? (i := 858) (by decide +kernel)⟩
theorem lw_p20 : lw_okq (⟨"PlumbShaftModel", "hungOnes", "()I"⟩, 13) := ⟨⟨by decide +kernel, by decide +kernel⟩, List.mem_of_getElem? (i := 774) (by decide +kernel), List.mem_of_getElem? (i := 864) (by decide +kernel), List.mem_of_getElem? (i := 865) (by decide +kernel)⟩
theorem lw_p21 : lw_okq (⟨"PlumbShaftModel", "of", "(II)I"⟩, 13) := ⟨⟨by decide +kernel, by decide +kernel⟩, List.mem_of_getElem? (i := 774) (by decide +kernel), List.mem_of_getElem? (i := 868) (by decide +kernel), List.mem_of_getElem? (i := 869) (by decide +kernel)⟩
theorem lw_p22 : lw_okq (⟨"PlumbShaftModel", "isHung", "(I)Z"⟩, 13) := ⟨⟨by decide +kernel, by decide +kernel⟩, List.mem_of_getElem? (i := 774) (by decide +kernel), List.mem_of_getElem? (i := 876) (by decide +kernel), List.mem_of_getElem? (i := 877) (by decide +kernel)⟩
theorem lw_p23 : lw_okq (⟨"PlumbShaftModel", "refuse", "(I)I"⟩, 13) := ⟨⟨by decide +kernel, by decide +kernel⟩, List.mem_of_getElem? (i := 774) (by decide +kernel), List.mem_of_getElem? (i := 880) (by decide +kernel), List.mem_of_getElem? (i := 881) (by decide +kernel)⟩
theorem lw_p24 : lw_okq (⟨"PlumbShaftModel", "doPush", "(III)I"⟩, 13) := ⟨⟨by decide +kernel, by decide +kernel⟩, List.mem_of_getElem? (i := 774) (by decide +kernel), List.mem_of_getElem? (i := 900) (by decide +kernel), List.mem_of_getElem? (i := 901) (by decide +kernel)⟩
theorem lw_p25 : lw_okq (⟨"PlumbShaftModel", "quarter", "(I)I"⟩, 13) := ⟨⟨by decide +kernel, by decide +kernel⟩, List.mem_of_getElem? (i := 774) (by decide +kernel), List.mem_of_getElem? (i := 904) (by decide +kernel), List.mem_of_getElem? (i := 905) (by decide +kernel)⟩
theorem lw_p26 : lw_okq (⟨"PlumbShaftModel", "doSwap", "(II)I"⟩, 13) := ⟨⟨by decide +kernel, by decide +kernel⟩, List.mem_of_getElem? (i := 774) (by decide +kernel), List.mem_of_getElem? (i := 912) (by decide +kernel), List.mem_of_getElem? (i := 913) (by decide +kernel)⟩
theorem lw_p27 : lw_okq (⟨"PlumbShaftModel", "voidAll", "()V"⟩, 13) := ⟨⟨by decide +kernel, by decide +kernel⟩, List.mem_of_getElem? (i := 774) (by decide +kernel), List.mem_of_getElem? (i := 921) (by decide +kernel), List.mem_of_getElem? (i := 922) (by decide +kernel)⟩
theorem lw_p28 : lw_okq (⟨"PlumbShaftModel", "doPass", "(I)I"⟩, 13) := ⟨⟨by decide +kernel, by decide +kernel⟩, List.mem_of_getElem? (i := 774) (by decide +kernel), List.mem_of_getElem? (i := 933) (by decide +kernel), List.mem_of_getElem? (i := 934) (by decide +kernel)⟩
theorem lw_p29 : lw_okq (⟨"PlumbShaftModel", "tick", "()V"⟩, 13) := ⟨⟨by decide +kernel, by decide +kernel⟩, List.mem_of_getElem? (i := 774) (by decide +kernel), List.mem_of_getElem? (i := 937) (by decide +kernel), List.mem_of_getElem? (i := 938) (by decide +kernel)⟩
theorem lw_p30 : lw_okq (⟨"PlumbShaftModel", "doObserve", "(III)I"⟩, 13) := ⟨⟨by decide +kernel, by decide +kernel⟩, List.mem_of_getElem? (i := 774) (by decide +kernel), List.mem_of_getElem? (i := 956) (by decide +kernel), List.mem_of_getElem? (i := 957) (by decide +kernel)⟩
theorem lw_p31 : lw_okq (⟨"PlumbShaftModel", "noStation", "(I)Z"⟩, 13) := ⟨⟨by decide +kernel, by decide +kernel⟩, List.mem_of_getElem? (i := 774) (by decide +kernel), List.mem_of_getElem? (i := 960) (by decide +kernel), List.mem_of_getElem? (i := 961) (by decide +kernel)⟩
def lw_privs_2 : List (MethodName × Nat) := [(⟨"PlumbShaftModel", "begin", "()V"⟩, 13), (⟨"PlumbShaftModel", "done", "(I)I"⟩, 13), (⟨"PlumbShaftModel", "put", "(III)V"⟩, 13), (⟨"PlumbShaftModel", "voidOf", "(I)I"⟩, 13), (⟨"PlumbShaftModel", "hungOnes", "()I"⟩, 13), (⟨"PlumbShaftModel", "of", "(II)I"⟩, 13), (⟨"PlumbShaftModel", "isHung", "(I)Z"⟩, 13), (⟨"PlumbShaftModel", "refuse", "(I)I"⟩, 13), (⟨"PlumbShaftModel", "doPush", "(III)I"⟩, 13), (⟨"PlumbShaftModel", "quarter", "(I)I"⟩, 13), (⟨"PlumbShaftModel", "doSwap", "(II)I"⟩, 13), (⟨"PlumbShaftModel", "voidAll", "()V"⟩, 13), (⟨"PlumbShaftModel", "doPass", "(I)I"⟩, 13), (⟨"PlumbShaftModel", "tick", "()V"⟩, 13), (⟨"PlumbShaftModel", "doObserve", "(III)I"⟩, 13), (⟨"PlumbShaftModel", "noStation", "(I)Z"⟩, 13)]
theorem lw_r2 : ∀ q ∈ lw_privs_2, lw_okq q := List.forall_mem_cons.mpr ⟨lw_p16, List.forall_mem_cons.mpr ⟨lw_p17, List.forall_mem_cons.mpr ⟨lw_p18, List.forall_mem_cons.mpr ⟨lw_p19, List.forall_mem_cons.mpr ⟨lw_p20, List.forall_mem_cons.mpr ⟨lw_p21, List.forall_mem_cons.mpr ⟨lw_p22, List.forall_mem_cons.mpr ⟨lw_p23, List.forall_mem_cons.mpr ⟨lw_p24, List.forall_mem_cons.mpr ⟨lw_p25, List.forall_mem_cons.mpr ⟨lw_p26, List.forall_mem_cons.mpr ⟨lw_p27, List.forall_mem_cons.mpr ⟨lw_p28, List.forall_mem_cons.mpr ⟨lw_p29, List.forall_mem_cons.mpr ⟨lw_p30, List.forall_mem_cons.mpr ⟨lw_p31, fun _ h => absurd h List.not_mem_nil⟩⟩⟩⟩⟩⟩⟩⟩⟩⟩⟩⟩⟩⟩⟩⟩
theorem lw_p32 : lw_okq (⟨"PlumbShaftModel", "positionAt", "(III)I"⟩, 13) := ⟨⟨by decide +kernel, by decide +kernel⟩, List.mem_of_getElem? (i := 774) (by decide +kernel), List.mem_of_getElem? (i := 964) (by decide +kernel), List.mem_of_getElem? (i := 965) (by decide +kernel)⟩
theorem lw_p33 : lw_okq (⟨"PlumbShaftModel", "restAt", "(III)I"⟩, 13) := ⟨⟨by decide +kernel, by decide +kernel⟩, List.mem_of_getElem? (i := 774) (by decide +kernel), List.mem_of_getElem? (i := 968) (by decide +kernel), List.mem_of_getElem? (i := 969) (by decide +kernel)⟩
theorem lw_p34 : lw_okq (⟨"PlumbShaftModel", "swing", "(I)I"⟩, 13) := ⟨⟨by decide +kernel, by decide +kernel⟩, List.mem_of_getElem? (i := 774) (by decide +kernel), List.mem_of_getElem? (i := 982) (by decide +kernel), List.mem_of_getElem? (i := 983) (by decide +kernel)⟩
theorem lw_p35 : lw_okq (⟨"PlumbShaftModel", "hasPair", "(I)Z"⟩, 13) := ⟨⟨by decide +kernel, by decide +kernel⟩, List.mem_of_getElem? (i := 774) (by decide +kernel), List.mem_of_getElem? (i := 1000) (by decide +kernel), List.mem_of_getElem? (i := 1001) (by decide +kernel)⟩
theorem lw_p36 : lw_okq (⟨"PlumbShaftModel", "acrossTop", "(II)I"⟩, 13) := ⟨⟨by decide +kernel, by decide +kernel⟩, List.mem_of_getElem? (i := 774) (by decide +kernel), List.mem_of_getElem? (i := 1004) (by decide +kernel), List.mem_of_getElem? (i := 1005) (by decide +kernel)⟩
theorem lw_p37 : lw_okq (⟨"PlumbShaftModel", "missing", "(II)I"⟩, 13) := ⟨⟨by decide +kernel, by decide +kernel⟩, List.mem_of_getElem? (i := 774) (by decide +kernel), List.mem_of_getElem? (i := 1012) (by decide +kernel), List.mem_of_getElem? (i := 1013) (by decide +kernel)⟩
theorem lw_p38 : lw_okq (⟨"PlumbShaftModel", "acrossAt", "(III)I"⟩, 13) := ⟨⟨by decide +kernel, by decide +kernel⟩, List.mem_of_getElem? (i := 774) (by decide +kernel), List.mem_of_getElem? (i := 1016) (by decide +kernel), List.mem_of_getElem? (i := 1017) (by decide +kernel)⟩
theorem lw_p39 : lw_okq (⟨"PlumbShaftModel", "givenBy", "(II)I"⟩, 13) := ⟨⟨by decide +kernel, by decide +kernel⟩, List.mem_of_getElem? (i := 774) (by decide +kernel), List.mem_of_getElem? (i := 1020) (by decide +kernel), List.mem_of_getElem? (i := 1021) (by decide +kernel)⟩
theorem lw_p40 : lw_okq (⟨"PlumbShaftModel", "doOrient", "(I)I"⟩, 13) := ⟨⟨by decide +kernel, by decide +kernel⟩, List.mem_of_getElem? (i := 774) (by decide +kernel), List.mem_of_getElem? (i := 1032) (by decide +kernel), List.mem_of_getElem? (i := 1033) (by decide +kernel)⟩
theorem lw_p41 : lw_okq (⟨"PlumbShaftModel", "readOrder", "()V"⟩, 13) := ⟨⟨by decide +kernel, by decide +kernel⟩, List.mem_of_getElem? (i := 774) (by decide +kernel), List.mem_of_getElem? (i := 1049) (by decide +kernel), List.mem_of_getElem? (i := 1050) (by decide +kernel)⟩
theorem lw_p42 : lw_okq (⟨"PlumbShaftModel", "endOf", "(I)I"⟩, 13) := ⟨⟨by decide +kernel, by decide +kernel⟩, List.mem_of_getElem? (i := 774) (by decide +kernel), List.mem_of_getElem? (i := 1053) (by decide +kernel), List.mem_of_getElem? (i := 1054) (by decide +kernel)⟩
theorem lw_p43 : lw_okq (⟨"PlumbShaftModel", "word", "(II)I"⟩, 13) := ⟨⟨by decide +kernel, by decide +kernel⟩, List.mem_of_getElem? (i := 774) (by decide +kernel), List.mem_of_getElem? (i := 1057) (by decide +kernel), List.mem_of_getElem? (i := 1058) (by decide +kernel)⟩
theorem lw_p44 : lw_okq (⟨"PlumbShaftModel", "stands", "(IICCCC)Z"⟩, 13) := ⟨⟨by decide +kernel, by decide +kernel⟩, List.mem_of_getElem? (i := 774) (by decide +kernel), List.mem_of_getElem? (i := 1061) (by decide +kernel), List.mem_of_getElem? (i := 1062) (by decide +kernel)⟩
theorem lw_p45 : lw_okq (⟨"PlumbShaftModel", "fail", "(I)V"⟩, 13) := ⟨⟨by decide +kernel, by decide +kernel⟩, List.mem_of_getElem? (i := 774) (by decide +kernel), List.mem_of_getElem? (i := 1065) (by decide +kernel), List.mem_of_getElem? (i := 1066) (by decide +kernel)⟩
theorem lw_p46 : lw_okq (⟨"PlumbShaftModel", "number", "(II)I"⟩, 13) := ⟨⟨by decide +kernel, by decide +kernel⟩, List.mem_of_getElem? (i := 774) (by decide +kernel), List.mem_of_getElem? (i := 1069) (by decide +kernel), List.mem_of_getElem? (i := 1070) (by decide +kernel)⟩
theorem lw_p47 : lw_okq (⟨"PlumbShaftModel", "carryOut", "(I)I"⟩, 13) := ⟨⟨by decide +kernel, by decide +kernel⟩, List.mem_of_getElem? (i := 774) (by decide +kernel), List.mem_of_getElem? (i := 1073) (by decide +kernel), List.mem_of_getElem? (i := 1074) (by decide +kernel)⟩
def lw_privs_3 : List (MethodName × Nat) := [(⟨"PlumbShaftModel", "positionAt", "(III)I"⟩, 13), (⟨"PlumbShaftModel", "restAt", "(III)I"⟩, 13), (⟨"PlumbShaftModel", "swing", "(I)I"⟩, 13), (⟨"PlumbShaftModel", "hasPair", "(I)Z"⟩, 13), (⟨"PlumbShaftModel", "acrossTop", "(II)I"⟩, 13), (⟨"PlumbShaftModel", "missing", "(II)I"⟩, 13), (⟨"PlumbShaftModel", "acrossAt", "(III)I"⟩, 13), (⟨"PlumbShaftModel", "givenBy", "(II)I"⟩, 13), (⟨"PlumbShaftModel", "doOrient", "(I)I"⟩, 13), (⟨"PlumbShaftModel", "readOrder", "()V"⟩, 13), (⟨"PlumbShaftModel", "endOf", "(I)I"⟩, 13), (⟨"PlumbShaftModel", "word", "(II)I"⟩, 13), (⟨"PlumbShaftModel", "stands", "(IICCCC)Z"⟩, 13), (⟨"PlumbShaftModel", "fail", "(I)V"⟩, 13), (⟨"PlumbShaftModel", "number", "(II)I"⟩, 13), (⟨"PlumbShaftModel", "carryOut", "(I)I"⟩, 13)]
theorem lw_r3 : ∀ q ∈ lw_privs_3, lw_okq q := List.forall_mem_cons.mpr ⟨lw_p32, List.forall_mem_cons.mpr ⟨lw_p33, List.forall_mem_cons.mpr ⟨lw_p34, List.forall_mem_cons.mpr ⟨lw_p35, List.forall_mem_cons.mpr ⟨lw_p36, List.forall_mem_cons.mpr ⟨lw_p37, List.forall_mem_cons.mpr ⟨lw_p38, List.forall_mem_cons.mpr ⟨lw_p39, List.forall_mem_cons.mpr ⟨lw_p40, List.forall_mem_cons.mpr ⟨lw_p41, List.forall_mem_cons.mpr ⟨lw_p42, List.forall_mem_cons.mpr ⟨lw_p43, List.forall_mem_cons.mpr ⟨lw_p44, List.forall_mem_cons.mpr ⟨lw_p45, List.forall_mem_cons.mpr ⟨lw_p46, List.forall_mem_cons.mpr ⟨lw_p47, fun _ h => absurd h List.not_mem_nil⟩⟩⟩⟩⟩⟩⟩⟩⟩⟩⟩⟩⟩⟩⟩⟩
theorem lw_p48 : lw_okq (⟨"PlumbShaftModel", "barred", "(III)I"⟩, 13) := ⟨⟨by decide +kernel, by decide +kernel⟩, List.mem_of_getElem? (i := 774) (by decide +kernel), List.mem_of_getElem? (i := 1085) (by decide +kernel), List.mem_of_getElem? (i := 1086) (by decide +kernel)⟩
theorem lw_p49 : lw_okq (⟨"PlumbShaftModel", "seenHere", "(I)I"⟩, 13) := ⟨⟨by decide +kernel, by decide +kernel⟩, List.mem_of_getElem? (i := 774) (by decide +kernel), List.mem_of_getElem? (i := 1101) (by decide +kernel), List.mem_of_getElem? (i := 1102) (by decide +kernel)⟩
def lw_privs_4 : List (MethodName × Nat) := [(⟨"PlumbShaftModel", "barred", "(III)I"⟩, 13), (⟨"PlumbShaftModel", "seenHere", "(I)I"⟩, 13)]
theorem lw_r4 : ∀ q ∈ lw_privs_4, lw_okq q := List.forall_mem_cons.mpr ⟨lw_p48, List.forall_mem_cons.mpr ⟨lw_p49, fun _ h => absurd h List.not_mem_nil⟩⟩
def lw_privs : List (MethodName × Nat) := lw_privs_1 ++ (lw_privs_2 ++ (lw_privs_3 ++ (lw_privs_4)))
def lw_tbl : List Cond := k2_sels lw_privs ++ tables_1
theorem lw_privs_ok : ∀ q ∈ lw_privs, lw_okq q := by
  show ∀ q ∈ lw_privs_1 ++ (lw_privs_2 ++ (lw_privs_3 ++ (lw_privs_4))), lw_okq q
  exact List.forall_mem_append.mpr ⟨lw_r1, List.forall_mem_append.mpr ⟨lw_r2, List.forall_mem_append.mpr ⟨lw_r3, lw_r4⟩⟩⟩

def RX0 : String := "PlumbShaft$Current"
def TX0 : u_T := fun k => match k with
  | 0 => ("PlumbShaft$Current", "from", "I", false)
  | 1 => ("PlumbShaft$Current", "to", "I", false)
  | 2 => ("PlumbShaft$Current", "forceX", "I", false)
  | _ => ("PlumbShaft$Current", "forceY", "I", false)
def tyX0 : Nat → FieldType := fun k => match k with
  | 0 => .int
  | 1 => .int
  | 2 => .int
  | _ => .int
abbrev wsX00 : List Cond := u_ws RX0 TX0 4
theorem nmX0 : ∀ a, a < 4 → ∀ b, b < 4 → a ≠ b → (TX0 a).2.1 ≠ (TX0 b).2.1 := by decide +kernel
theorem tyX0_ok : ∀ k, k < 4 → parseFieldDescriptor (TX0 k).2.2.1 = some (tyX0 k) := by decide +kernel
abbrev cX0_init : ByteArray := prog_2_method_1_code
def yX0_init : MethodName := ⟨RX0, "<init>", "()V"⟩
abbrev cX0_copyFrom : ByteArray := prog_2_method_2_code
def yX0_copyFrom : MethodName := ⟨RX0, "copyFrom", "(LPlumbShaft$Current;)V"⟩
abbrev cX0_become : ByteArray := prog_2_method_3_code
def yX0_become : MethodName := ⟨RX0, "become", "(IIII)V"⟩
abbrev cX0_bend : ByteArray := prog_2_method_4_code
def yX0_bend : MethodName := ⟨RX0, "bend", "(III)I"⟩
def RX1 : String := "PlumbShaft$Observation"
def TX1 : u_T := fun k => match k with
  | 0 => ("PlumbShaft$Observation", "valid", "Z", false)
  | 1 => ("PlumbShaft$Observation", "meanX", "I", false)
  | 2 => ("PlumbShaft$Observation", "meanY", "I", false)
  | 3 => ("PlumbShaft$Observation", "spread", "I", false)
  | 4 => ("PlumbShaft$Observation", "ticks", "I", false)
  | _ => ("PlumbShaft$Observation", "endTime", "I", false)
def tyX1 : Nat → FieldType := fun k => match k with
  | 0 => .boolean
  | 1 => .int
  | 2 => .int
  | 3 => .int
  | 4 => .int
  | _ => .int
abbrev wsX10 : List Cond := u_ws RX1 TX1 6
theorem nmX1 : ∀ a, a < 6 → ∀ b, b < 6 → a ≠ b → (TX1 a).2.1 ≠ (TX1 b).2.1 := by decide +kernel
theorem tyX1_ok : ∀ k, k < 6 → parseFieldDescriptor (TX1 k).2.2.1 = some (tyX1 k) := by decide +kernel
abbrev cX1_init : ByteArray := prog_3_method_1_code
def yX1_init : MethodName := ⟨RX1, "<init>", "()V"⟩
abbrev cX1_copyFrom : ByteArray := prog_3_method_2_code
def yX1_copyFrom : MethodName := ⟨RX1, "copyFrom", "(LPlumbShaft$Observation;)V"⟩
abbrev cX1_property : ByteArray := prog_3_method_3_code
def yX1_property : MethodName := ⟨RX1, "property", "(I)I"⟩
def RX2 : String := "PlumbShaft$OrderText"
def TX2 : u_T := fun k => match k with
  | 0 => ("PlumbShaft$OrderText", "text", "[C", true)
  | 1 => ("PlumbShaft$OrderText", "length", "I", false)
  | 2 => ("PlumbShaft$OrderText", "words", "[I", true)
  | 3 => ("PlumbShaft$OrderText", "numbers", "[I", true)
  | 4 => ("PlumbShaft$OrderText", "count", "I", false)
  | _ => ("PlumbShaft$OrderText", "place", "I", false)
def tyX2 : Nat → FieldType := fun k => match k with
  | 0 => .array .char
  | 1 => .int
  | 2 => .array .int
  | 3 => .array .int
  | 4 => .int
  | _ => .int
abbrev wsX20 : List Cond := u_ws RX2 TX2 6
theorem nmX2 : ∀ a, a < 6 → ∀ b, b < 6 → a ≠ b → (TX2 a).2.1 ≠ (TX2 b).2.1 := by decide +kernel
theorem tyX2_ok : ∀ k, k < 6 → parseFieldDescriptor (TX2 k).2.2.1 = some (tyX2 k) := by decide +kernel
abbrev cX2_init : ByteArray := prog_4_method_1_code
def yX2_init : MethodName := ⟨RX2, "<init>", "()V"⟩
abbrev cX2_append : ByteArray := prog_4_method_2_code
def yX2_append : MethodName := ⟨RX2, "append", "(C)V"⟩
abbrev cX2_numberOf : ByteArray := prog_4_method_3_code
def yX2_numberOf : MethodName := ⟨RX2, "numberOf", "(II)I"⟩
abbrev cX2_readOrders : ByteArray := prog_4_method_4_code
def yX2_readOrders : MethodName := ⟨RX2, "readOrders", "()I"⟩
abbrev cX2_readOrder : ByteArray := prog_4_method_5_code
def yX2_readOrder : MethodName := ⟨RX2, "readOrder", "()Z"⟩
abbrev cX2_readNumber : ByteArray := prog_4_method_6_code
def yX2_readNumber : MethodName := ⟨RX2, "readNumber", "(CI)Z"⟩
abbrev cX2_tokenEnd : ByteArray := prog_4_method_7_code
def yX2_tokenEnd : MethodName := ⟨RX2, "tokenEnd", "()I"⟩
abbrev cX2_wordUpTo : ByteArray := prog_4_method_8_code
def yX2_wordUpTo : MethodName := ⟨RX2, "wordUpTo", "(I)I"⟩
abbrev cX2_isWordUpTo : ByteArray := prog_4_method_9_code
def yX2_isWordUpTo : MethodName := ⟨RX2, "isWordUpTo", "(ILjava/lang/String;)Z"⟩
abbrev cX2_numberUpTo : ByteArray := prog_4_method_10_code
def yX2_numberUpTo : MethodName := ⟨RX2, "numberUpTo", "(I)I"⟩
abbrev cX2_wordText : ByteArray := prog_4_method_11_code
def yX2_wordText : MethodName := ⟨RX2, "wordText", "(I)Ljava/lang/String;"⟩
abbrev cX2_kindsOfNumbers : ByteArray := prog_4_method_12_code
def yX2_kindsOfNumbers : MethodName := ⟨RX2, "kindsOfNumbers", "(I)Ljava/lang/String;"⟩
abbrev cX2_lowestNumber : ByteArray := prog_4_method_13_code
def yX2_lowestNumber : MethodName := ⟨RX2, "lowestNumber", "(C)I"⟩
abbrev cX2_highestNumber : ByteArray := prog_4_method_14_code
def yX2_highestNumber : MethodName := ⟨RX2, "highestNumber", "(C)I"⟩
def RX3 : String := "PlumbShaft$Readings"
def TX3 : u_T := fun k => match k with
  | 0 => ("PlumbShaft$Readings", "taken", "I", false)
  | 1 => ("PlumbShaft$Readings", "sum", "I", false)
  | 2 => ("PlumbShaft$Readings", "least", "I", false)
  | _ => ("PlumbShaft$Readings", "greatest", "I", false)
def tyX3 : Nat → FieldType := fun k => match k with
  | 0 => .int
  | 1 => .int
  | 2 => .int
  | _ => .int
abbrev wsX30 : List Cond := u_ws RX3 TX3 4
theorem nmX3 : ∀ a, a < 4 → ∀ b, b < 4 → a ≠ b → (TX3 a).2.1 ≠ (TX3 b).2.1 := by decide +kernel
theorem tyX3_ok : ∀ k, k < 4 → parseFieldDescriptor (TX3 k).2.2.1 = some (tyX3 k) := by decide +kernel
abbrev cX3_init : ByteArray := prog_5_method_1_code
def yX3_init : MethodName := ⟨RX3, "<init>", "()V"⟩
abbrev cX3_add : ByteArray := prog_5_method_2_code
def yX3_add : MethodName := ⟨RX3, "add", "(I)V"⟩
abbrev cX3_mean : ByteArray := prog_5_method_3_code
def yX3_mean : MethodName := ⟨RX3, "mean", "()I"⟩
abbrev cX3_spread : ByteArray := prog_5_method_4_code
def yX3_spread : MethodName := ⟨RX3, "spread", "()I"⟩
def RX4 : String := "PlumbShaft$State"
def TX4 : u_T := fun k => match k with
  | 0 => ("PlumbShaft$State", "wires", "[LPlumbShaft$Wire;", true)
  | 1 => ("PlumbShaft$State", "currents", "[LPlumbShaft$Current;", true)
  | 2 => ("PlumbShaft$State", "currentCount", "I", false)
  | 3 => ("PlumbShaft$State", "stations", "[LPlumbShaft$Station;", true)
  | 4 => ("PlumbShaft$State", "stationCount", "I", false)
  | 5 => ("PlumbShaft$State", "time", "I", false)
  | 6 => ("PlumbShaft$State", "tolerance", "I", false)
  | _ => ("PlumbShaft$State", "observedTicks", "I", false)
def tyX4 : Nat → FieldType := fun k => match k with
  | 0 => .array (.object "PlumbShaft$Wire")
  | 1 => .array (.object "PlumbShaft$Current")
  | 2 => .int
  | 3 => .array (.object "PlumbShaft$Station")
  | 4 => .int
  | 5 => .int
  | 6 => .int
  | _ => .int
abbrev wsX40 : List Cond := u_ws RX4 TX4 8
theorem nmX4 : ∀ a, a < 8 → ∀ b, b < 8 → a ≠ b → (TX4 a).2.1 ≠ (TX4 b).2.1 := by decide +kernel
theorem tyX4_ok : ∀ k, k < 8 → parseFieldDescriptor (TX4 k).2.2.1 = some (tyX4 k) := by decide +kernel
abbrev cX4_init : ByteArray := prog_6_method_1_code
def yX4_init : MethodName := ⟨RX4, "<init>", "()V"⟩
abbrev cX4_copyFrom : ByteArray := prog_6_method_2_code
def yX4_copyFrom : MethodName := ⟨RX4, "copyFrom", "(LPlumbShaft$State;)V"⟩
abbrev cX4_hungWires : ByteArray := prog_6_method_3_code
def yX4_hungWires : MethodName := ⟨RX4, "hungWires", "()I"⟩
abbrev cX4_orientedStations : ByteArray := prog_6_method_4_code
def yX4_orientedStations : MethodName := ⟨RX4, "orientedStations", "()I"⟩
abbrev cX4_validObservations : ByteArray := prog_6_method_5_code
def yX4_validObservations : MethodName := ⟨RX4, "validObservations", "()I"⟩
abbrev cX4_voidWire : ByteArray := prog_6_method_6_code
def yX4_voidWire : MethodName := ⟨RX4, "voidWire", "(I)I"⟩
abbrev cX4_voidAllWires : ByteArray := prog_6_method_7_code
def yX4_voidAllWires : MethodName := ⟨RX4, "voidAllWires", "()V"⟩
abbrev cX4_passTick : ByteArray := prog_6_method_8_code
def yX4_passTick : MethodName := ⟨RX4, "passTick", "()V"⟩
abbrev cX4_restAt : ByteArray := prog_6_method_9_code
def yX4_restAt : MethodName := ⟨RX4, "restAt", "(LPlumbShaft$Wire;II)I"⟩
abbrev cX4_look : ByteArray := prog_6_method_10_code
def yX4_look : MethodName := ⟨RX4, "look", "(III)V"⟩
def RX5 : String := "PlumbShaft$Station"
def TX5 : u_T := fun k => match k with
  | 0 => ("PlumbShaft$Station", "depth", "I", false)
  | 1 => ("PlumbShaft$Station", "frame", "I", false)
  | 2 => ("PlumbShaft$Station", "hasOrientation", "Z", false)
  | 3 => ("PlumbShaft$Station", "orientation", "I", false)
  | _ => ("PlumbShaft$Station", "seen", "[LPlumbShaft$Observation;", true)
def tyX5 : Nat → FieldType := fun k => match k with
  | 0 => .int
  | 1 => .int
  | 2 => .boolean
  | 3 => .int
  | _ => .array (.object "PlumbShaft$Observation")
abbrev wsX50 : List Cond := u_ws RX5 TX5 5
theorem nmX5 : ∀ a, a < 5 → ∀ b, b < 5 → a ≠ b → (TX5 a).2.1 ≠ (TX5 b).2.1 := by decide +kernel
theorem tyX5_ok : ∀ k, k < 5 → parseFieldDescriptor (TX5 k).2.2.1 = some (tyX5 k) := by decide +kernel
abbrev cX5_init : ByteArray := prog_7_method_1_code
def yX5_init : MethodName := ⟨RX5, "<init>", "()V"⟩
abbrev cX5_copyFrom : ByteArray := prog_7_method_2_code
def yX5_copyFrom : MethodName := ⟨RX5, "copyFrom", "(LPlumbShaft$Station;)V"⟩
abbrev cX5_become : ByteArray := prog_7_method_3_code
def yX5_become : MethodName := ⟨RX5, "become", "(II)V"⟩
abbrev cX5_validObservations : ByteArray := prog_7_method_4_code
def yX5_validObservations : MethodName := ⟨RX5, "validObservations", "()I"⟩
def RX6 : String := "PlumbShaft$Wire"
def TX6 : u_T := fun k => match k with
  | 0 => ("PlumbShaft$Wire", "hung", "Z", false)
  | 1 => ("PlumbShaft$Wire", "x", "I", false)
  | 2 => ("PlumbShaft$Wire", "y", "I", false)
  | 3 => ("PlumbShaft$Wire", "mass", "I", false)
  | 4 => ("PlumbShaft$Wire", "depth", "I", false)
  | 5 => ("PlumbShaft$Wire", "ex", "I", false)
  | 6 => ("PlumbShaft$Wire", "ey", "I", false)
  | 7 => ("PlumbShaft$Wire", "bucket", "I", false)
  | 8 => ("PlumbShaft$Wire", "direction", "I", false)
  | 9 => ("PlumbShaft$Wire", "amplitude", "I", false)
  | _ => ("PlumbShaft$Wire", "phase", "I", false)
def tyX6 : Nat → FieldType := fun k => match k with
  | 0 => .boolean
  | 1 => .int
  | 2 => .int
  | 3 => .int
  | 4 => .int
  | 5 => .int
  | 6 => .int
  | 7 => .int
  | 8 => .int
  | 9 => .int
  | _ => .int
abbrev wsX60 : List Cond := u_ws RX6 TX6 11
theorem nmX6 : ∀ a, a < 11 → ∀ b, b < 11 → a ≠ b → (TX6 a).2.1 ≠ (TX6 b).2.1 := by decide +kernel
theorem tyX6_ok : ∀ k, k < 11 → parseFieldDescriptor (TX6 k).2.2.1 = some (tyX6 k) := by decide +kernel
abbrev cX6_init : ByteArray := prog_8_method_1_code
def yX6_init : MethodName := ⟨RX6, "<init>", "()V"⟩
abbrev cX6_copyFrom : ByteArray := prog_8_method_2_code
def yX6_copyFrom : MethodName := ⟨RX6, "copyFrom", "(LPlumbShaft$Wire;)V"⟩
abbrev cX6_hangAnew : ByteArray := prog_8_method_3_code
def yX6_hangAnew : MethodName := ⟨RX6, "hangAnew", "(IIII)V"⟩
abbrev cX6_startSway : ByteArray := prog_8_method_4_code
def yX6_startSway : MethodName := ⟨RX6, "startSway", "(I)V"⟩
abbrev cX6_tradePlaces : ByteArray := prog_8_method_5_code
def yX6_tradePlaces : MethodName := ⟨RX6, "tradePlaces", "(LPlumbShaft$Wire;)V"⟩
abbrev cX6_quarterTicks : ByteArray := prog_8_method_6_code
def yX6_quarterTicks : MethodName := ⟨RX6, "quarterTicks", "()I"⟩
abbrev cX6_periodTicks : ByteArray := prog_8_method_7_code
def yX6_periodTicks : MethodName := ⟨RX6, "periodTicks", "()I"⟩
abbrev cX6_swayOneTick : ByteArray := prog_8_method_8_code
def yX6_swayOneTick : MethodName := ⟨RX6, "swayOneTick", "()V"⟩
abbrev cX6_calmed : ByteArray := prog_8_method_9_code
def yX6_calmed : MethodName := ⟨RX6, "calmed", "(I)I"⟩
abbrev cX6_ticksUntilCalm : ByteArray := prog_8_method_10_code
def yX6_ticksUntilCalm : MethodName := ⟨RX6, "ticksUntilCalm", "(I)I"⟩
abbrev cX6_swing : ByteArray := prog_8_method_11_code
def yX6_swing : MethodName := ⟨RX6, "swing", "()I"⟩
abbrev cX6_swayAt : ByteArray := prog_8_method_12_code
def yX6_swayAt : MethodName := ⟨RX6, "swayAt", "(II)I"⟩
abbrev cX6_property : ByteArray := prog_8_method_13_code
def yX6_property : MethodName := ⟨RX6, "property", "(I)I"⟩
def RX7 : String := "PlumbShaft"
def TX7 : u_T := fun k => match k with
  | 0 => ("PlumbShaft", "now", "LPlumbShaft$State;", true)
  | 1 => ("PlumbShaft", "history", "[LPlumbShaft$State;", true)
  | 2 => ("PlumbShaft", "historyLength", "I", false)
  | 3 => ("PlumbShaft", "slots", "[LPlumbShaft$State;", true)
  | 4 => ("PlumbShaft", "slotTaken", "[Z", true)
  | 5 => ("PlumbShaft", "orders", "LPlumbShaft$OrderText;", true)
  | 6 => ("PlumbShaft", "runningOrders", "Z", false)
  | _ => ("PlumbShaft", "reason", "I", false)
def tyX7 : Nat → FieldType := fun k => match k with
  | 0 => .object "PlumbShaft$State"
  | 1 => .array (.object "PlumbShaft$State")
  | 2 => .int
  | 3 => .array (.object "PlumbShaft$State")
  | 4 => .array .boolean
  | 5 => .object "PlumbShaft$OrderText"
  | 6 => .boolean
  | _ => .int
abbrev wsX70 : List Cond := u_ws RX7 TX7 8
theorem nmX7 : ∀ a, a < 8 → ∀ b, b < 8 → a ≠ b → (TX7 a).2.1 ≠ (TX7 b).2.1 := by decide +kernel
theorem tyX7_ok : ∀ k, k < 8 → parseFieldDescriptor (TX7 k).2.2.1 = some (tyX7 k) := by decide +kernel
abbrev cX7_init : ByteArray := prog_1_method_1_code
def yX7_init : MethodName := ⟨RX7, "<init>", "()V"⟩
abbrev cX7_hang : ByteArray := prog_1_method_2_code
def yX7_hang : MethodName := ⟨RX7, "hang", "(IIIII)I"⟩
abbrev cX7_lift : ByteArray := prog_1_method_3_code
def yX7_lift : MethodName := ⟨RX7, "lift", "(I)I"⟩
abbrev cX7_setClamp : ByteArray := prog_1_method_4_code
def yX7_setClamp : MethodName := ⟨RX7, "setClamp", "(III)I"⟩
abbrev cX7_setBucket : ByteArray := prog_1_method_5_code
def yX7_setBucket : MethodName := ⟨RX7, "setBucket", "(II)I"⟩
abbrev cX7_push : ByteArray := prog_1_method_6_code
def yX7_push : MethodName := ⟨RX7, "push", "(III)I"⟩
abbrev cX7_swap : ByteArray := prog_1_method_7_code
def yX7_swap : MethodName := ⟨RX7, "swap", "(II)I"⟩
abbrev cX7_addCurrent : ByteArray := prog_1_method_8_code
def yX7_addCurrent : MethodName := ⟨RX7, "addCurrent", "(IIII)I"⟩
abbrev cX7_clearCurrents : ByteArray := prog_1_method_9_code
def yX7_clearCurrents : MethodName := ⟨RX7, "clearCurrents", "()I"⟩
abbrev cX7_addStation : ByteArray := prog_1_method_10_code
def yX7_addStation : MethodName := ⟨RX7, "addStation", "(II)I"⟩
abbrev cX7_setTolerance : ByteArray := prog_1_method_11_code
def yX7_setTolerance : MethodName := ⟨RX7, "setTolerance", "(I)I"⟩
abbrev cX7_pass : ByteArray := prog_1_method_12_code
def yX7_pass : MethodName := ⟨RX7, "pass", "(I)I"⟩
abbrev cX7_observe : ByteArray := prog_1_method_13_code
def yX7_observe : MethodName := ⟨RX7, "observe", "(III)I"⟩
abbrev cX7_orient : ByteArray := prog_1_method_14_code
def yX7_orient : MethodName := ⟨RX7, "orient", "(I)I"⟩
abbrev cX7_type : ByteArray := prog_1_method_15_code
def yX7_type : MethodName := ⟨RX7, "type", "(C)I"⟩
abbrev cX7_clearText : ByteArray := prog_1_method_16_code
def yX7_clearText : MethodName := ⟨RX7, "clearText", "()I"⟩
abbrev cX7_runOrders : ByteArray := prog_1_method_17_code
def yX7_runOrders : MethodName := ⟨RX7, "runOrders", "()I"⟩
abbrev cX7_carryOut : ByteArray := prog_1_method_18_code
def yX7_carryOut : MethodName := ⟨RX7, "carryOut", "(I)I"⟩
abbrev cX7_undo : ByteArray := prog_1_method_19_code
def yX7_undo : MethodName := ⟨RX7, "undo", "()I"⟩
abbrev cX7_keep : ByteArray := prog_1_method_20_code
def yX7_keep : MethodName := ⟨RX7, "keep", "(I)I"⟩
abbrev cX7_restore : ByteArray := prog_1_method_21_code
def yX7_restore : MethodName := ⟨RX7, "restore", "(I)I"⟩
abbrev cX7_remember : ByteArray := prog_1_method_22_code
def yX7_remember : MethodName := ⟨RX7, "remember", "()V"⟩
abbrev cX7_dropOldestState : ByteArray := prog_1_method_23_code
def yX7_dropOldestState : MethodName := ⟨RX7, "dropOldestState", "()V"⟩
abbrev cX7_wire : ByteArray := prog_1_method_24_code
def yX7_wire : MethodName := ⟨RX7, "wire", "(II)I"⟩
abbrev cX7_rest : ByteArray := prog_1_method_25_code
def yX7_rest : MethodName := ⟨RX7, "rest", "(III)I"⟩
abbrev cX7_position : ByteArray := prog_1_method_26_code
def yX7_position : MethodName := ⟨RX7, "position", "(III)I"⟩
abbrev cX7_calmIn : ByteArray := prog_1_method_27_code
def yX7_calmIn : MethodName := ⟨RX7, "calmIn", "(II)I"⟩
abbrev cX7_station : ByteArray := prog_1_method_28_code
def yX7_station : MethodName := ⟨RX7, "station", "(II)I"⟩
abbrev cX7_observation : ByteArray := prog_1_method_29_code
def yX7_observation : MethodName := ⟨RX7, "observation", "(III)I"⟩
abbrev cX7_bearing : ByteArray := prog_1_method_30_code
def yX7_bearing : MethodName := ⟨RX7, "bearing", "(II)I"⟩
abbrev cX7_surface : ByteArray := prog_1_method_31_code
def yX7_surface : MethodName := ⟨RX7, "surface", "(I)I"⟩
abbrev cX7_given : ByteArray := prog_1_method_32_code
def yX7_given : MethodName := ⟨RX7, "given", "(II)I"⟩
abbrev cX7_count : ByteArray := prog_1_method_33_code
def yX7_count : MethodName := ⟨RX7, "count", "(I)I"⟩
abbrev cX7_isWithin : ByteArray := prog_1_method_34_code
def yX7_isWithin : MethodName := ⟨RX7, "isWithin", "(III)Z"⟩
abbrev cX7_isWire : ByteArray := prog_1_method_35_code
def yX7_isWire : MethodName := ⟨RX7, "isWire", "(I)Z"⟩
abbrev cX7_isPair : ByteArray := prog_1_method_36_code
def yX7_isPair : MethodName := ⟨RX7, "isPair", "(I)Z"⟩
abbrev cX7_isSlot : ByteArray := prog_1_method_37_code
def yX7_isSlot : MethodName := ⟨RX7, "isSlot", "(I)Z"⟩
abbrev cX7_isStation : ByteArray := prog_1_method_38_code
def yX7_isStation : MethodName := ⟨RX7, "isStation", "(I)Z"⟩
abbrev cX7_isHung : ByteArray := prog_1_method_39_code
def yX7_isHung : MethodName := ⟨RX7, "isHung", "(I)Z"⟩
abbrev cX7_refuse : ByteArray := prog_1_method_40_code
def yX7_refuse : MethodName := ⟨RX7, "refuse", "(I)I"⟩
abbrev cX7_errorOfReading : ByteArray := prog_1_method_41_code
def yX7_errorOfReading : MethodName := ⟨RX7, "errorOfReading", "(III)I"⟩
abbrev cX7_firstOf : ByteArray := prog_1_method_42_code
def yX7_firstOf : MethodName := ⟨RX7, "firstOf", "(I)LPlumbShaft$Wire;"⟩
abbrev cX7_secondOf : ByteArray := prog_1_method_43_code
def yX7_secondOf : MethodName := ⟨RX7, "secondOf", "(I)LPlumbShaft$Wire;"⟩
abbrev cX7_firstSeen : ByteArray := prog_1_method_44_code
def yX7_firstSeen : MethodName := ⟨RX7, "firstSeen", "(II)LPlumbShaft$Observation;"⟩
abbrev cX7_secondSeen : ByteArray := prog_1_method_45_code
def yX7_secondSeen : MethodName := ⟨RX7, "secondSeen", "(II)LPlumbShaft$Observation;"⟩
abbrev cX7_isPairHung : ByteArray := prog_1_method_46_code
def yX7_isPairHung : MethodName := ⟨RX7, "isPairHung", "(I)Z"⟩
abbrev cX7_isPairAtOnePlace : ByteArray := prog_1_method_47_code
def yX7_isPairAtOnePlace : MethodName := ⟨RX7, "isPairAtOnePlace", "(I)Z"⟩
abbrev cX7_surfaceBearing : ByteArray := prog_1_method_48_code
def yX7_surfaceBearing : MethodName := ⟨RX7, "surfaceBearing", "(I)I"⟩
abbrev cX7_reasonAgainst : ByteArray := prog_1_method_49_code
def yX7_reasonAgainst : MethodName := ⟨RX7, "reasonAgainst", "(II)I"⟩
abbrev cX7_lowerReason : ByteArray := prog_1_method_50_code
def yX7_lowerReason : MethodName := ⟨RX7, "lowerReason", "(II)I"⟩
abbrev cX7_orientationFrom : ByteArray := prog_1_method_51_code
def yX7_orientationFrom : MethodName := ⟨RX7, "orientationFrom", "(II)I"⟩
abbrev cX7_bearingOf : ByteArray := prog_1_method_52_code
def yX7_bearingOf : MethodName := ⟨RX7, "bearingOf", "(JJ)I"⟩
abbrev cX7_onCircle : ByteArray := prog_1_method_53_code
def yX7_onCircle : MethodName := ⟨RX7, "onCircle", "(J)I"⟩
abbrev cX7_roundedToZero : ByteArray := prog_1_method_54_code
def yX7_roundedToZero : MethodName := ⟨RX7, "roundedToZero", "(II)I"⟩
def RX8 : String := "PlumbShaftModel"
def TX8 : u_T := fun k => match k with
  | 0 => ("PlumbShaftModel", "row", "[I", true)
  | 1 => ("PlumbShaftModel", "scratch", "[I", true)
  | 2 => ("PlumbShaftModel", "history", "[I", true)
  | 3 => ("PlumbShaftModel", "kept", "I", false)
  | 4 => ("PlumbShaftModel", "slots", "[I", true)
  | 5 => ("PlumbShaftModel", "isKept", "[Z", true)
  | 6 => ("PlumbShaftModel", "reason", "I", false)
  | 7 => ("PlumbShaftModel", "typed", "I", false)
  | 8 => ("PlumbShaftModel", "text", "[C", true)
  | 9 => ("PlumbShaftModel", "place", "I", false)
  | 10 => ("PlumbShaftModel", "fault", "I", false)
  | 11 => ("PlumbShaftModel", "orders", "I", false)
  | _ => ("PlumbShaftModel", "orderOf", "[I", true)
def tyX8 : Nat → FieldType := fun k => match k with
  | 0 => .array .int
  | 1 => .array .int
  | 2 => .array .int
  | 3 => .int
  | 4 => .array .int
  | 5 => .array .boolean
  | 6 => .int
  | 7 => .int
  | 8 => .array .char
  | 9 => .int
  | 10 => .int
  | 11 => .int
  | _ => .array .int
abbrev wsX80 : List Cond := u_ws RX8 TX8 13
theorem nmX8 : ∀ a, a < 13 → ∀ b, b < 13 → a ≠ b → (TX8 a).2.1 ≠ (TX8 b).2.1 := by decide +kernel
theorem tyX8_ok : ∀ k, k < 13 → parseFieldDescriptor (TX8 k).2.2.1 = some (tyX8 k) := by decide +kernel
abbrev cX8_init : ByteArray := prog_10_method_1_code
def yX8_init : MethodName := ⟨RX8, "<init>", "()V"⟩
abbrev cX8_in : ByteArray := prog_10_method_2_code
def yX8_in : MethodName := ⟨RX8, "in", "(III)Z"⟩
abbrev cX8_size : ByteArray := prog_10_method_3_code
def yX8_size : MethodName := ⟨RX8, "size", "(I)I"⟩
abbrev cX8_down : ByteArray := prog_10_method_4_code
def yX8_down : MethodName := ⟨RX8, "down", "(JJ)J"⟩
abbrev cX8_round : ByteArray := prog_10_method_5_code
def yX8_round : MethodName := ⟨RX8, "round", "(J)I"⟩
abbrev cX8_refuse : ByteArray := prog_10_method_6_code
def yX8_refuse : MethodName := ⟨RX8, "refuse", "(I)I"⟩
abbrev cX8_begin : ByteArray := prog_10_method_7_code
def yX8_begin : MethodName := ⟨RX8, "begin", "()V"⟩
abbrev cX8_done : ByteArray := prog_10_method_8_code
def yX8_done : MethodName := ⟨RX8, "done", "(I)I"⟩
abbrev cX8_undo : ByteArray := prog_10_method_9_code
def yX8_undo : MethodName := ⟨RX8, "undo", "()I"⟩
abbrev cX8_keep : ByteArray := prog_10_method_10_code
def yX8_keep : MethodName := ⟨RX8, "keep", "(I)I"⟩
abbrev cX8_restore : ByteArray := prog_10_method_11_code
def yX8_restore : MethodName := ⟨RX8, "restore", "(I)I"⟩
abbrev cX8_of : ByteArray := prog_10_method_12_code
def yX8_of : MethodName := ⟨RX8, "of", "(II)I"⟩
abbrev cX8_put : ByteArray := prog_10_method_13_code
def yX8_put : MethodName := ⟨RX8, "put", "(III)V"⟩
abbrev cX8_noWire : ByteArray := prog_10_method_14_code
def yX8_noWire : MethodName := ⟨RX8, "noWire", "(I)Z"⟩
abbrev cX8_noStation : ByteArray := prog_10_method_15_code
def yX8_noStation : MethodName := ⟨RX8, "noStation", "(I)Z"⟩
abbrev cX8_isHung : ByteArray := prog_10_method_16_code
def yX8_isHung : MethodName := ⟨RX8, "isHung", "(I)Z"⟩
abbrev cX8_hungOnes : ByteArray := prog_10_method_17_code
def yX8_hungOnes : MethodName := ⟨RX8, "hungOnes", "()I"⟩
abbrev cX8_seenAt : ByteArray := prog_10_method_18_code
def yX8_seenAt : MethodName := ⟨RX8, "seenAt", "(II)I"⟩
abbrev cX8_voidOf : ByteArray := prog_10_method_19_code
def yX8_voidOf : MethodName := ⟨RX8, "voidOf", "(I)I"⟩
abbrev cX8_voidAll : ByteArray := prog_10_method_20_code
def yX8_voidAll : MethodName := ⟨RX8, "voidAll", "()V"⟩
abbrev cX8_hang : ByteArray := prog_10_method_21_code
def yX8_hang : MethodName := ⟨RX8, "hang", "(IIIII)I"⟩
abbrev cX8_lift : ByteArray := prog_10_method_22_code
def yX8_lift : MethodName := ⟨RX8, "lift", "(I)I"⟩
abbrev cX8_setClamp : ByteArray := prog_10_method_23_code
def yX8_setClamp : MethodName := ⟨RX8, "setClamp", "(III)I"⟩
abbrev cX8_setBucket : ByteArray := prog_10_method_24_code
def yX8_setBucket : MethodName := ⟨RX8, "setBucket", "(II)I"⟩
abbrev cX8_quarter : ByteArray := prog_10_method_25_code
def yX8_quarter : MethodName := ⟨RX8, "quarter", "(I)I"⟩
abbrev cX8_doPush : ByteArray := prog_10_method_26_code
def yX8_doPush : MethodName := ⟨RX8, "doPush", "(III)I"⟩
abbrev cX8_push : ByteArray := prog_10_method_27_code
def yX8_push : MethodName := ⟨RX8, "push", "(III)I"⟩
abbrev cX8_doSwap : ByteArray := prog_10_method_28_code
def yX8_doSwap : MethodName := ⟨RX8, "doSwap", "(II)I"⟩
abbrev cX8_swap : ByteArray := prog_10_method_29_code
def yX8_swap : MethodName := ⟨RX8, "swap", "(II)I"⟩
abbrev cX8_addCurrent : ByteArray := prog_10_method_30_code
def yX8_addCurrent : MethodName := ⟨RX8, "addCurrent", "(IIII)I"⟩
abbrev cX8_clearCurrents : ByteArray := prog_10_method_31_code
def yX8_clearCurrents : MethodName := ⟨RX8, "clearCurrents", "()I"⟩
abbrev cX8_lesser : ByteArray := prog_10_method_32_code
def yX8_lesser : MethodName := ⟨RX8, "lesser", "(II)I"⟩
abbrev cX8_restAt : ByteArray := prog_10_method_33_code
def yX8_restAt : MethodName := ⟨RX8, "restAt", "(III)I"⟩
abbrev cX8_swing : ByteArray := prog_10_method_34_code
def yX8_swing : MethodName := ⟨RX8, "swing", "(I)I"⟩
abbrev cX8_part : ByteArray := prog_10_method_35_code
def yX8_part : MethodName := ⟨RX8, "part", "(II)I"⟩
abbrev cX8_positionAt : ByteArray := prog_10_method_36_code
def yX8_positionAt : MethodName := ⟨RX8, "positionAt", "(III)I"⟩
abbrev cX8_calming : ByteArray := prog_10_method_37_code
def yX8_calming : MethodName := ⟨RX8, "calming", "(I)I"⟩
abbrev cX8_tick : ByteArray := prog_10_method_38_code
def yX8_tick : MethodName := ⟨RX8, "tick", "()V"⟩
abbrev cX8_doPass : ByteArray := prog_10_method_39_code
def yX8_doPass : MethodName := ⟨RX8, "doPass", "(I)I"⟩
abbrev cX8_pass : ByteArray := prog_10_method_40_code
def yX8_pass : MethodName := ⟨RX8, "pass", "(I)I"⟩
abbrev cX8_addStation : ByteArray := prog_10_method_41_code
def yX8_addStation : MethodName := ⟨RX8, "addStation", "(II)I"⟩
abbrev cX8_setTolerance : ByteArray := prog_10_method_42_code
def yX8_setTolerance : MethodName := ⟨RX8, "setTolerance", "(I)I"⟩
abbrev cX8_doObserve : ByteArray := prog_10_method_43_code
def yX8_doObserve : MethodName := ⟨RX8, "doObserve", "(III)I"⟩
abbrev cX8_observe : ByteArray := prog_10_method_44_code
def yX8_observe : MethodName := ⟨RX8, "observe", "(III)I"⟩
abbrev cX8_bearingOf : ByteArray := prog_10_method_45_code
def yX8_bearingOf : MethodName := ⟨RX8, "bearingOf", "(II)I"⟩
abbrev cX8_bearing : ByteArray := prog_10_method_46_code
def yX8_bearing : MethodName := ⟨RX8, "bearing", "(II)I"⟩
abbrev cX8_hasPair : ByteArray := prog_10_method_47_code
def yX8_hasPair : MethodName := ⟨RX8, "hasPair", "(I)Z"⟩
abbrev cX8_acrossTop : ByteArray := prog_10_method_48_code
def yX8_acrossTop : MethodName := ⟨RX8, "acrossTop", "(II)I"⟩
abbrev cX8_acrossAt : ByteArray := prog_10_method_49_code
def yX8_acrossAt : MethodName := ⟨RX8, "acrossAt", "(III)I"⟩
abbrev cX8_surface : ByteArray := prog_10_method_50_code
def yX8_surface : MethodName := ⟨RX8, "surface", "(I)I"⟩
abbrev cX8_missing : ByteArray := prog_10_method_51_code
def yX8_missing : MethodName := ⟨RX8, "missing", "(II)I"⟩
abbrev cX8_givenBy : ByteArray := prog_10_method_52_code
def yX8_givenBy : MethodName := ⟨RX8, "givenBy", "(II)I"⟩
abbrev cX8_given : ByteArray := prog_10_method_53_code
def yX8_given : MethodName := ⟨RX8, "given", "(II)I"⟩
abbrev cX8_doOrient : ByteArray := prog_10_method_54_code
def yX8_doOrient : MethodName := ⟨RX8, "doOrient", "(I)I"⟩
abbrev cX8_orient : ByteArray := prog_10_method_55_code
def yX8_orient : MethodName := ⟨RX8, "orient", "(I)I"⟩
abbrev cX8_type : ByteArray := prog_10_method_56_code
def yX8_type : MethodName := ⟨RX8, "type", "(C)I"⟩
abbrev cX8_clearText : ByteArray := prog_10_method_57_code
def yX8_clearText : MethodName := ⟨RX8, "clearText", "()I"⟩
abbrev cX8_endOf : ByteArray := prog_10_method_58_code
def yX8_endOf : MethodName := ⟨RX8, "endOf", "(I)I"⟩
abbrev cX8_stands : ByteArray := prog_10_method_59_code
def yX8_stands : MethodName := ⟨RX8, "stands", "(IICCCC)Z"⟩
abbrev cX8_word : ByteArray := prog_10_method_60_code
def yX8_word : MethodName := ⟨RX8, "word", "(II)I"⟩
abbrev cX8_fail : ByteArray := prog_10_method_61_code
def yX8_fail : MethodName := ⟨RX8, "fail", "(I)V"⟩
abbrev cX8_number : ByteArray := prog_10_method_62_code
def yX8_number : MethodName := ⟨RX8, "number", "(II)I"⟩
abbrev cX8_readOrder : ByteArray := prog_10_method_63_code
def yX8_readOrder : MethodName := ⟨RX8, "readOrder", "()V"⟩
abbrev cX8_carryOut : ByteArray := prog_10_method_64_code
def yX8_carryOut : MethodName := ⟨RX8, "carryOut", "(I)I"⟩
abbrev cX8_runOrders : ByteArray := prog_10_method_65_code
def yX8_runOrders : MethodName := ⟨RX8, "runOrders", "()I"⟩
abbrev cX8_wire : ByteArray := prog_10_method_66_code
def yX8_wire : MethodName := ⟨RX8, "wire", "(II)I"⟩
abbrev cX8_barred : ByteArray := prog_10_method_67_code
def yX8_barred : MethodName := ⟨RX8, "barred", "(III)I"⟩
abbrev cX8_rest : ByteArray := prog_10_method_68_code
def yX8_rest : MethodName := ⟨RX8, "rest", "(III)I"⟩
abbrev cX8_position : ByteArray := prog_10_method_69_code
def yX8_position : MethodName := ⟨RX8, "position", "(III)I"⟩
abbrev cX8_calmIn : ByteArray := prog_10_method_70_code
def yX8_calmIn : MethodName := ⟨RX8, "calmIn", "(II)I"⟩
abbrev cX8_seenHere : ByteArray := prog_10_method_71_code
def yX8_seenHere : MethodName := ⟨RX8, "seenHere", "(I)I"⟩
abbrev cX8_station : ByteArray := prog_10_method_72_code
def yX8_station : MethodName := ⟨RX8, "station", "(II)I"⟩
abbrev cX8_observation : ByteArray := prog_10_method_73_code
def yX8_observation : MethodName := ⟨RX8, "observation", "(III)I"⟩
abbrev cX8_count : ByteArray := prog_10_method_74_code
def yX8_count : MethodName := ⟨RX8, "count", "(I)I"⟩
def RJ9 : String := "java/lang/Math"
def TJ9 : u_T := fun k => match k with
  | _ => ("", "", "", false)
def tyJ9 : Nat → FieldType := fun k => match k with
  | _ => .int
abbrev wsJ90 : List Cond := u_ws RJ9 TJ9 0
theorem nmJ9 : ∀ a, a < 0 → ∀ b, b < 0 → a ≠ b → (TJ9 a).2.1 ≠ (TJ9 b).2.1 := by decide +kernel
theorem tyJ9_ok : ∀ k, k < 0 → parseFieldDescriptor (TJ9 k).2.2.1 = some (tyJ9 k) := by decide +kernel
abbrev cJ9_floorDiv_7cf53 : ByteArray := prog_11_method_47_code
def yJ9_floorDiv_7cf53 : MethodName := ⟨RJ9, "floorDiv", "(II)I"⟩
abbrev cJ9_floorDiv_f86c9 : ByteArray := prog_11_method_49_code
def yJ9_floorDiv_f86c9 : MethodName := ⟨RJ9, "floorDiv", "(JJ)J"⟩
abbrev cJ9_floorMod_f86c9 : ByteArray := prog_11_method_52_code
def yJ9_floorMod_f86c9 : MethodName := ⟨RJ9, "floorMod", "(JJ)J"⟩
abbrev cJ9_abs_0f7a4 : ByteArray := prog_11_method_59_code
def yJ9_abs_0f7a4 : MethodName := ⟨RJ9, "abs", "(I)I"⟩
abbrev cJ9_abs_067f4 : ByteArray := prog_11_method_61_code
def yJ9_abs_067f4 : MethodName := ⟨RJ9, "abs", "(J)J"⟩
abbrev cJ9_max_7cf53 : ByteArray := prog_11_method_65_code
def yJ9_max_7cf53 : MethodName := ⟨RJ9, "max", "(II)I"⟩
abbrev cJ9_min_7cf53 : ByteArray := prog_11_method_69_code
def yJ9_min_7cf53 : MethodName := ⟨RJ9, "min", "(II)I"⟩
def RJ0 : String := "java/lang/String"
def TJ0 : u_T := fun k => match k with
  | _ => ("", "", "", false)
def tyJ0 : Nat → FieldType := fun k => match k with
  | _ => .int
abbrev wsJ00 : List Cond := u_ws RJ0 TJ0 0
theorem nmJ0 : ∀ a, a < 0 → ∀ b, b < 0 → a ≠ b → (TJ0 a).2.1 ≠ (TJ0 b).2.1 := by decide +kernel
theorem tyJ0_ok : ∀ k, k < 0 → parseFieldDescriptor (TJ0 k).2.2.1 = some (tyJ0 k) := by decide +kernel
abbrev cJ0_length_8abf5 : ByteArray := prog_12_method_54_code
def yJ0_length_8abf5 : MethodName := ⟨RJ0, "length", "()I"⟩
abbrev cJ0_charAt_5068e : ByteArray := prog_12_method_56_code
def yJ0_charAt_5068e : MethodName := ⟨RJ0, "charAt", "(I)C"⟩
abbrev cJ0_coder_7d493 : ByteArray := prog_12_method_152_code
def yJ0_coder_7d493 : MethodName := ⟨RJ0, "coder", "()B"⟩
abbrev cJ0_isLatin1_aae02 : ByteArray := prog_12_method_154_code
def yJ0_isLatin1_aae02 : MethodName := ⟨RJ0, "isLatin1", "()Z"⟩
abbrev cJ0_checkIndex_df160 : ByteArray := prog_12_method_155_code
def yJ0_checkIndex_df160 : MethodName := ⟨RJ0, "checkIndex", "(II)V"⟩
def RJ1 : String := "java/lang/StringLatin1"
def TJ1 : u_T := fun k => match k with
  | _ => ("", "", "", false)
def tyJ1 : Nat → FieldType := fun k => match k with
  | _ => .int
abbrev wsJ10 : List Cond := u_ws RJ1 TJ1 0
theorem nmJ1 : ∀ a, a < 0 → ∀ b, b < 0 → a ≠ b → (TJ1 a).2.1 ≠ (TJ1 b).2.1 := by decide +kernel
theorem tyJ1_ok : ∀ k, k < 0 → parseFieldDescriptor (TJ1 k).2.2.1 = some (tyJ1 k) := by decide +kernel
abbrev cJ1_charAt_3b067 : ByteArray := prog_13_method_2_code
def yJ1_charAt_3b067 : MethodName := ⟨RJ1, "charAt", "([BI)C"⟩
def RJ2 : String := "java/lang/StringUTF16"
def TJ2 : u_T := fun k => match k with
  | _ => ("", "", "", false)
def tyJ2 : Nat → FieldType := fun k => match k with
  | _ => .int
abbrev wsJ20 : List Cond := u_ws RJ2 TJ2 0
theorem nmJ2 : ∀ a, a < 0 → ∀ b, b < 0 → a ≠ b → (TJ2 a).2.1 ≠ (TJ2 b).2.1 := by decide +kernel
theorem tyJ2_ok : ∀ k, k < 0 → parseFieldDescriptor (TJ2 k).2.2.1 = some (tyJ2 k) := by decide +kernel
abbrev cJ2_getChar_3b067 : ByteArray := prog_14_method_5_code
def yJ2_getChar_3b067 : MethodName := ⟨RJ2, "getChar", "([BI)C"⟩
abbrev cJ2_length_9d52b : ByteArray := prog_14_method_6_code
def yJ2_length_9d52b : MethodName := ⟨RJ2, "length", "([B)I"⟩
abbrev cJ2_charAt_3b067 : ByteArray := prog_14_method_83_code
def yJ2_charAt_3b067 : MethodName := ⟨RJ2, "charAt", "([BI)C"⟩
abbrev cJ2_checkIndex_2214a : ByteArray := prog_14_method_91_code
def yJ2_checkIndex_2214a : MethodName := ⟨RJ2, "checkIndex", "(I[B)V"⟩
def RJ3 : String := "jdk/internal/util/Preconditions"
def TJ3 : u_T := fun k => match k with
  | _ => ("", "", "", false)
def tyJ3 : Nat → FieldType := fun k => match k with
  | _ => .int
abbrev wsJ30 : List Cond := u_ws RJ3 TJ3 0
theorem nmJ3 : ∀ a, a < 0 → ∀ b, b < 0 → a ≠ b → (TJ3 a).2.1 ≠ (TJ3 b).2.1 := by decide +kernel
theorem tyJ3_ok : ∀ k, k < 0 → parseFieldDescriptor (TJ3 k).2.2.1 = some (tyJ3 k) := by decide +kernel
abbrev cJ3_checkIndex_8e157 : ByteArray := prog_15_method_11_code
def yJ3_checkIndex_8e157 : MethodName := ⟨RJ3, "checkIndex", "(IILjava/util/function/BiFunction;)I"⟩
def RL : String := "PlumbShaftLaw"
abbrev cL_law : ByteArray := code
def yL_law : MethodName := ⟨RL, "law", "([I)Z"⟩
abbrev vwCl : List vw_C := [(RX0, TX0, 4), (RX1, TX1, 6), (RX2, TX2, 6), (RX3, TX3, 4), (RX4, TX4, 8), (RX5, TX5, 5), (RX6, TX6, 11), (RX7, TX7, 8), (RX8, TX8, 13)]
end
section
/-- the words of the tables that any method may carry -/
def lwG : List Cond := lw_tbl.filter goodWord
theorem lwG_all : ∀ w ∈ lwG, goodWord w = true := fun w h => (List.mem_filter.mp h).2
theorem lwG_in : ∀ w ∈ lwG, w ∈ lw_tbl := fun w h => (List.mem_filter.mp h).1
theorem lwG_of {w : Cond} (i : Nat) (h : lw_tbl[i]? = some w) (hg : goodWord w = true) : w ∈ lwG := List.mem_filter.mpr ⟨List.mem_of_getElem? h, hg⟩
theorem gG {big : List Cond} (hb : ∀ w ∈ lwG, w ∈ big) {w0 : Cond} (h : w0 ∈ lwG) : GoodIn big (w0 :: lwG) := fun w hw => by
  have hw : w ∈ lwG := (List.mem_cons.mp hw).elim (fun e => by rw [e]; exact h) id
  exact ⟨hb w hw, good_of_word (lwG_all w hw)⟩
theorem gV {big : List Cond} (hb : ∀ w ∈ lwG, w ∈ big) {own C : String} {idx : Nat} {y : MethodName} {w0 : Cond} (h1 : Cond.methodLink own idx y ∈ lwG) (h2 : Cond.instanceMethod y ∈ lwG) (h3 : Cond.selects C y y ∈ lwG) (h4 : Cond.initialized C ∈ lwG) (h : w0 ∈ lwG) : GoodIn big (wsV own idx C y (w0 :: lwG)) := fun w hw => by
  rcases List.mem_append.mp hw with hw | hw
  · have hw : w ∈ lwG := by
      rcases List.mem_cons.mp hw with e | hw
      · rw [e]; exact h1
      · rcases List.mem_cons.mp hw with e | hw
        · rw [e]; exact h2
        · rcases List.mem_cons.mp hw with e | hw
          · rw [e]; exact h3
          · rcases List.mem_cons.mp hw with e | hw
            · rw [e]; exact h4
            · cases hw
    exact ⟨hb w hw, good_of_word (lwG_all w hw)⟩
  · exact gG hb h w hw
theorem gS {big : List Cond} (hb : ∀ w ∈ lwG, w ∈ big) {own : String} {idx : Nat} {y : MethodName} {w0 : Cond} (h1 : Cond.methodLink own idx y ∈ lwG) (h2 : Cond.static y ∈ lwG) (h4 : Cond.initialized y.cls ∈ lwG) (h : w0 ∈ lwG) : GoodIn big (va_wsS own idx y (w0 :: lwG)) := fun w hw => by
  rcases List.mem_append.mp hw with hw | hw
  · have hw : w ∈ lwG := by
      rcases List.mem_cons.mp hw with e | hw
      · rw [e]; exact h1
      · rcases List.mem_cons.mp hw with e | hw
        · rw [e]; exact h2
        · rcases List.mem_cons.mp hw with e | hw
          · rw [e]; exact h4
          · cases hw
    exact ⟨hb w hw, good_of_word (lwG_all w hw)⟩
  · exact gG hb h w hw
theorem wd_0 : Cond.selects RX7 yX7_remember yX7_remember ∈ lwG := lwG_of 0 (by decide +kernel) (by decide +kernel)
theorem wd_1 : Cond.selects RX7 yX7_dropOldestState yX7_dropOldestState ∈ lwG := lwG_of 1 (by decide +kernel) (by decide +kernel)
theorem wd_2 : Cond.selects RX7 yX7_isHung yX7_isHung ∈ lwG := lwG_of 2 (by decide +kernel) (by decide +kernel)
theorem wd_3 : Cond.selects RX7 yX7_refuse yX7_refuse ∈ lwG := lwG_of 3 (by decide +kernel) (by decide +kernel)
theorem wd_4 : Cond.selects RX7 yX7_isStation yX7_isStation ∈ lwG := lwG_of 4 (by decide +kernel) (by decide +kernel)
theorem wd_5 : Cond.selects RX7 yX7_reasonAgainst yX7_reasonAgainst ∈ lwG := lwG_of 5 (by decide +kernel) (by decide +kernel)
theorem wd_6 : Cond.selects RX7 yX7_isPairHung yX7_isPairHung ∈ lwG := lwG_of 6 (by decide +kernel) (by decide +kernel)
theorem wd_7 : Cond.selects RX7 yX7_firstOf yX7_firstOf ∈ lwG := lwG_of 7 (by decide +kernel) (by decide +kernel)
theorem wd_8 : Cond.selects RX7 yX7_secondOf yX7_secondOf ∈ lwG := lwG_of 8 (by decide +kernel) (by decide +kernel)
theorem wd_9 : Cond.selects RX7 yX7_firstSeen yX7_firstSeen ∈ lwG := lwG_of 9 (by decide +kernel) (by decide +kernel)
theorem wd_10 : Cond.selects RX7 yX7_secondSeen yX7_secondSeen ∈ lwG := lwG_of 10 (by decide +kernel) (by decide +kernel)
theorem wd_11 : Cond.selects RX7 yX7_isPairAtOnePlace yX7_isPairAtOnePlace ∈ lwG := lwG_of 11 (by decide +kernel) (by decide +kernel)
theorem wd_12 : Cond.selects RX7 yX7_orientationFrom yX7_orientationFrom ∈ lwG := lwG_of 12 (by decide +kernel) (by decide +kernel)
theorem wd_13 : Cond.selects RX7 yX7_surfaceBearing yX7_surfaceBearing ∈ lwG := lwG_of 13 (by decide +kernel) (by decide +kernel)
theorem wd_14 : Cond.selects RX7 yX7_carryOut yX7_carryOut ∈ lwG := lwG_of 14 (by decide +kernel) (by decide +kernel)
theorem wd_15 : Cond.selects RX7 yX7_errorOfReading yX7_errorOfReading ∈ lwG := lwG_of 15 (by decide +kernel) (by decide +kernel)
theorem wd_16 : Cond.selects RX8 yX8_begin yX8_begin ∈ lwG := lwG_of 16 (by decide +kernel) (by decide +kernel)
theorem wd_17 : Cond.selects RX8 yX8_done yX8_done ∈ lwG := lwG_of 17 (by decide +kernel) (by decide +kernel)
theorem wd_18 : Cond.selects RX8 yX8_put yX8_put ∈ lwG := lwG_of 18 (by decide +kernel) (by decide +kernel)
theorem wd_19 : Cond.selects RX8 yX8_voidOf yX8_voidOf ∈ lwG := lwG_of 19 (by decide +kernel) (by decide +kernel)
theorem wd_20 : Cond.selects RX8 yX8_hungOnes yX8_hungOnes ∈ lwG := lwG_of 20 (by decide +kernel) (by decide +kernel)
theorem wd_21 : Cond.selects RX8 yX8_of yX8_of ∈ lwG := lwG_of 21 (by decide +kernel) (by decide +kernel)
theorem wd_22 : Cond.selects RX8 yX8_isHung yX8_isHung ∈ lwG := lwG_of 22 (by decide +kernel) (by decide +kernel)
theorem wd_23 : Cond.selects RX8 yX8_refuse yX8_refuse ∈ lwG := lwG_of 23 (by decide +kernel) (by decide +kernel)
theorem wd_24 : Cond.selects RX8 yX8_doPush yX8_doPush ∈ lwG := lwG_of 24 (by decide +kernel) (by decide +kernel)
theorem wd_25 : Cond.selects RX8 yX8_quarter yX8_quarter ∈ lwG := lwG_of 25 (by decide +kernel) (by decide +kernel)
theorem wd_26 : Cond.selects RX8 yX8_doSwap yX8_doSwap ∈ lwG := lwG_of 26 (by decide +kernel) (by decide +kernel)
theorem wd_27 : Cond.selects RX8 yX8_voidAll yX8_voidAll ∈ lwG := lwG_of 27 (by decide +kernel) (by decide +kernel)
theorem wd_28 : Cond.selects RX8 yX8_doPass yX8_doPass ∈ lwG := lwG_of 28 (by decide +kernel) (by decide +kernel)
theorem wd_29 : Cond.selects RX8 yX8_tick yX8_tick ∈ lwG := lwG_of 29 (by decide +kernel) (by decide +kernel)
theorem wd_30 : Cond.selects RX8 yX8_doObserve yX8_doObserve ∈ lwG := lwG_of 30 (by decide +kernel) (by decide +kernel)
theorem wd_31 : Cond.selects RX8 yX8_noStation yX8_noStation ∈ lwG := lwG_of 31 (by decide +kernel) (by decide +kernel)
theorem wd_32 : Cond.selects RX8 yX8_positionAt yX8_positionAt ∈ lwG := lwG_of 32 (by decide +kernel) (by decide +kernel)
theorem wd_33 : Cond.selects RX8 yX8_restAt yX8_restAt ∈ lwG := lwG_of 33 (by decide +kernel) (by decide +kernel)
theorem wd_34 : Cond.selects RX8 yX8_swing yX8_swing ∈ lwG := lwG_of 34 (by decide +kernel) (by decide +kernel)
theorem wd_35 : Cond.selects RX8 yX8_hasPair yX8_hasPair ∈ lwG := lwG_of 35 (by decide +kernel) (by decide +kernel)
theorem wd_36 : Cond.selects RX8 yX8_acrossTop yX8_acrossTop ∈ lwG := lwG_of 36 (by decide +kernel) (by decide +kernel)
theorem wd_37 : Cond.selects RX8 yX8_missing yX8_missing ∈ lwG := lwG_of 37 (by decide +kernel) (by decide +kernel)
theorem wd_38 : Cond.selects RX8 yX8_acrossAt yX8_acrossAt ∈ lwG := lwG_of 38 (by decide +kernel) (by decide +kernel)
theorem wd_39 : Cond.selects RX8 yX8_givenBy yX8_givenBy ∈ lwG := lwG_of 39 (by decide +kernel) (by decide +kernel)
theorem wd_40 : Cond.selects RX8 yX8_doOrient yX8_doOrient ∈ lwG := lwG_of 40 (by decide +kernel) (by decide +kernel)
theorem wd_41 : Cond.selects RX8 yX8_readOrder yX8_readOrder ∈ lwG := lwG_of 41 (by decide +kernel) (by decide +kernel)
theorem wd_42 : Cond.selects RX8 yX8_endOf yX8_endOf ∈ lwG := lwG_of 42 (by decide +kernel) (by decide +kernel)
theorem wd_43 : Cond.selects RX8 yX8_word yX8_word ∈ lwG := lwG_of 43 (by decide +kernel) (by decide +kernel)
theorem wd_44 : Cond.selects RX8 yX8_stands yX8_stands ∈ lwG := lwG_of 44 (by decide +kernel) (by decide +kernel)
theorem wd_45 : Cond.selects RX8 yX8_fail yX8_fail ∈ lwG := lwG_of 45 (by decide +kernel) (by decide +kernel)
theorem wd_46 : Cond.selects RX8 yX8_number yX8_number ∈ lwG := lwG_of 46 (by decide +kernel) (by decide +kernel)
theorem wd_47 : Cond.selects RX8 yX8_carryOut yX8_carryOut ∈ lwG := lwG_of 47 (by decide +kernel) (by decide +kernel)
theorem wd_48 : Cond.selects RX8 yX8_barred yX8_barred ∈ lwG := lwG_of 48 (by decide +kernel) (by decide +kernel)
theorem wd_49 : Cond.selects RX8 yX8_seenHere yX8_seenHere ∈ lwG := lwG_of 49 (by decide +kernel) (by decide +kernel)
theorem wd_51 : Cond.initialized RX7 ∈ lwG := lwG_of 51 (by decide +kernel) (by decide +kernel)
theorem wd_52 : Cond.initialized RX4 ∈ lwG := lwG_of 52 (by decide +kernel) (by decide +kernel)
theorem wd_53 : Cond.initialized RX6 ∈ lwG := lwG_of 53 (by decide +kernel) (by decide +kernel)
theorem wd_54 : Cond.initialized RX0 ∈ lwG := lwG_of 54 (by decide +kernel) (by decide +kernel)
theorem wd_55 : Cond.initialized RX5 ∈ lwG := lwG_of 55 (by decide +kernel) (by decide +kernel)
theorem wd_56 : Cond.initialized RX1 ∈ lwG := lwG_of 56 (by decide +kernel) (by decide +kernel)
theorem wd_57 : Cond.initialized RX2 ∈ lwG := lwG_of 57 (by decide +kernel) (by decide +kernel)
theorem wd_58 : Cond.initialized RX8 ∈ lwG := lwG_of 58 (by decide +kernel) (by decide +kernel)
theorem wd_59 : Cond.initialized "java/lang/Math" ∈ lwG := lwG_of 59 (by decide +kernel) (by decide +kernel)
theorem wd_59 : Cond.initialized RJ9 ∈ lwG := lwG_of 59 (by decide +kernel) (by decide +kernel)
theorem wd_60 : Cond.initialized RX3 ∈ lwG := lwG_of 60 (by decide +kernel) (by decide +kernel)
theorem wd_61 : Cond.initialized RJ0 ∈ lwG := lwG_of 61 (by decide +kernel) (by decide +kernel)
theorem wd_62 : Cond.initialized RJ1 ∈ lwG := lwG_of 62 (by decide +kernel) (by decide +kernel)
theorem wd_63 : Cond.initialized RJ3 ∈ lwG := lwG_of 63 (by decide +kernel) (by decide +kernel)
theorem wd_64 : Cond.initialized RJ2 ∈ lwG := lwG_of 64 (by decide +kernel) (by decide +kernel)
theorem wd_65 : Cond.classLink RL 7 RX7 ∈ lwG := lwG_of 65 (by decide +kernel) (by decide +kernel)
theorem wd_66 : Cond.instantiable RX7 8 ∈ lwG := lwG_of 66 (by decide +kernel) (by decide +kernel)
theorem wd_67 : Cond.methodLink RL 9 yX7_init ∈ lwG := lwG_of 67 (by decide +kernel) (by decide +kernel)
theorem wd_68 : Cond.instanceMethod yX7_init ∈ lwG := lwG_of 68 (by decide +kernel) (by decide +kernel)
theorem wd_69 : Cond.code yX7_init cX7_init 2 none ∈ lwG := lwG_of 69 (by decide +kernel) (by decide +kernel)
theorem wd_70 : Cond.methodLink RX7 3 objectInit ∈ lwG := lwG_of 70 (by decide +kernel) (by decide +kernel)
theorem wd_71 : Cond.instanceMethod objectInit ∈ lwG := lwG_of 71 (by decide +kernel) (by decide +kernel)
theorem wd_72 : Cond.code objectInit ⟨#[0xb1]⟩ 1 none ∈ lwG := lwG_of 72 (by decide +kernel) (by decide +kernel)
theorem wd_73 : Cond.classLink RX7 9 RX4 ∈ lwG := lwG_of 73 (by decide +kernel) (by decide +kernel)
theorem wd_74 : Cond.instantiable RX4 8 ∈ lwG := lwG_of 74 (by decide +kernel) (by decide +kernel)
theorem wd_75 : Cond.methodLink RX7 11 yX4_init ∈ lwG := lwG_of 75 (by decide +kernel) (by decide +kernel)
theorem wd_76 : Cond.instanceMethod yX4_init ∈ lwG := lwG_of 76 (by decide +kernel) (by decide +kernel)
theorem wd_77 : Cond.code yX4_init cX4_init 2 none ∈ lwG := lwG_of 77 (by decide +kernel) (by decide +kernel)
theorem wd_78 : Cond.methodLink RX4 3 objectInit ∈ lwG := lwG_of 78 (by decide +kernel) (by decide +kernel)
theorem wd_79 : Cond.classLink RX4 9 RX6 ∈ lwG := lwG_of 79 (by decide +kernel) (by decide +kernel)
theorem wd_81 : Cond.instantiable RX6 11 ∈ lwG := lwG_of 81 (by decide +kernel) (by decide +kernel)
theorem wd_83 : Cond.instanceMethod yX6_init ∈ lwG := lwG_of 83 (by decide +kernel) (by decide +kernel)
theorem wd_84 : Cond.code yX6_init cX6_init 1 none ∈ lwG := lwG_of 84 (by decide +kernel) (by decide +kernel)
theorem wd_85 : Cond.methodLink RX6 3 objectInit ∈ lwG := lwG_of 85 (by decide +kernel) (by decide +kernel)
theorem wd_86 : Cond.fieldLink RX6 9 "PlumbShaft$Wire" "hung" "Z" ∈ lwG := lwG_of 86 (by decide +kernel) (by decide +kernel)
theorem wd_87 : Cond.fieldLink RX4 58 "PlumbShaft$Wire" "hung" "Z" ∈ lwG := lwG_of 87 (by decide +kernel) (by decide +kernel)
theorem wd_88 : Cond.fieldLink RX7 75 "PlumbShaft$Wire" "hung" "Z" ∈ lwG := lwG_of 88 (by decide +kernel) (by decide +kernel)
theorem wd_89 : Cond.fieldLink RX6 15 "PlumbShaft$Wire" "x" "I" ∈ lwG := lwG_of 89 (by decide +kernel) (by decide +kernel)
theorem wd_90 : Cond.fieldLink RX4 85 "PlumbShaft$Wire" "x" "I" ∈ lwG := lwG_of 90 (by decide +kernel) (by decide +kernel)
theorem wd_91 : Cond.fieldLink RX7 302 "PlumbShaft$Wire" "x" "I" ∈ lwG := lwG_of 91 (by decide +kernel) (by decide +kernel)
theorem wd_92 : Cond.fieldLink RX6 19 "PlumbShaft$Wire" "y" "I" ∈ lwG := lwG_of 92 (by decide +kernel) (by decide +kernel)
theorem wd_93 : Cond.fieldLink RX4 91 "PlumbShaft$Wire" "y" "I" ∈ lwG := lwG_of 93 (by decide +kernel) (by decide +kernel)
theorem wd_94 : Cond.fieldLink RX7 305 "PlumbShaft$Wire" "y" "I" ∈ lwG := lwG_of 94 (by decide +kernel) (by decide +kernel)
theorem wd_95 : Cond.fieldLink RX6 22 "PlumbShaft$Wire" "mass" "I" ∈ lwG := lwG_of 95 (by decide +kernel) (by decide +kernel)
theorem wd_96 : Cond.fieldLink RX4 97 "PlumbShaft$Wire" "mass" "I" ∈ lwG := lwG_of 96 (by decide +kernel) (by decide +kernel)
theorem wd_97 : Cond.fieldLink RX6 25 "PlumbShaft$Wire" "depth" "I" ∈ lwG := lwG_of 97 (by decide +kernel) (by decide +kernel)
theorem wd_98 : Cond.fieldLink RX7 151 "PlumbShaft$Wire" "depth" "I" ∈ lwG := lwG_of 98 (by decide +kernel) (by decide +kernel)
theorem wd_99 : Cond.fieldLink RX6 28 "PlumbShaft$Wire" "ex" "I" ∈ lwG := lwG_of 99 (by decide +kernel) (by decide +kernel)
theorem wd_100 : Cond.fieldLink RX7 79 "PlumbShaft$Wire" "ex" "I" ∈ lwG := lwG_of 100 (by decide +kernel) (by decide +kernel)
theorem wd_101 : Cond.fieldLink RX4 88 "PlumbShaft$Wire" "ex" "I" ∈ lwG := lwG_of 101 (by decide +kernel) (by decide +kernel)
theorem wd_102 : Cond.fieldLink RX6 31 "PlumbShaft$Wire" "ey" "I" ∈ lwG := lwG_of 102 (by decide +kernel) (by decide +kernel)
theorem wd_103 : Cond.fieldLink RX7 82 "PlumbShaft$Wire" "ey" "I" ∈ lwG := lwG_of 103 (by decide +kernel) (by decide +kernel)
theorem wd_104 : Cond.fieldLink RX4 94 "PlumbShaft$Wire" "ey" "I" ∈ lwG := lwG_of 104 (by decide +kernel) (by decide +kernel)
theorem wd_105 : Cond.fieldLink RX6 34 "PlumbShaft$Wire" "bucket" "I" ∈ lwG := lwG_of 105 (by decide +kernel) (by decide +kernel)
theorem wd_106 : Cond.fieldLink RX7 90 "PlumbShaft$Wire" "bucket" "I" ∈ lwG := lwG_of 106 (by decide +kernel) (by decide +kernel)
theorem wd_107 : Cond.fieldLink RX6 37 "PlumbShaft$Wire" "direction" "I" ∈ lwG := lwG_of 107 (by decide +kernel) (by decide +kernel)
theorem wd_108 : Cond.fieldLink RX7 93 "PlumbShaft$Wire" "direction" "I" ∈ lwG := lwG_of 108 (by decide +kernel) (by decide +kernel)
theorem wd_109 : Cond.fieldLink RX6 40 "PlumbShaft$Wire" "amplitude" "I" ∈ lwG := lwG_of 109 (by decide +kernel) (by decide +kernel)
theorem wd_110 : Cond.fieldLink RX6 43 "PlumbShaft$Wire" "phase" "I" ∈ lwG := lwG_of 110 (by decide +kernel) (by decide +kernel)
theorem wd_134 : Cond.classLink RX4 18 RX0 ∈ lwG := lwG_of 134 (by decide +kernel) (by decide +kernel)
theorem wd_136 : Cond.instantiable RX0 4 ∈ lwG := lwG_of 136 (by decide +kernel) (by decide +kernel)
theorem wd_138 : Cond.instanceMethod yX0_init ∈ lwG := lwG_of 138 (by decide +kernel) (by decide +kernel)
theorem wd_139 : Cond.code yX0_init cX0_init 1 none ∈ lwG := lwG_of 139 (by decide +kernel) (by decide +kernel)
theorem wd_140 : Cond.methodLink RX0 3 objectInit ∈ lwG := lwG_of 140 (by decide +kernel) (by decide +kernel)
theorem wd_141 : Cond.fieldLink RX0 9 "PlumbShaft$Current" "from" "I" ∈ lwG := lwG_of 141 (by decide +kernel) (by decide +kernel)
theorem wd_142 : Cond.fieldLink RX0 15 "PlumbShaft$Current" "to" "I" ∈ lwG := lwG_of 142 (by decide +kernel) (by decide +kernel)
theorem wd_143 : Cond.fieldLink RX0 18 "PlumbShaft$Current" "forceX" "I" ∈ lwG := lwG_of 143 (by decide +kernel) (by decide +kernel)
theorem wd_144 : Cond.fieldLink RX0 21 "PlumbShaft$Current" "forceY" "I" ∈ lwG := lwG_of 144 (by decide +kernel) (by decide +kernel)
theorem wd_154 : Cond.classLink RX4 25 RX5 ∈ lwG := lwG_of 154 (by decide +kernel) (by decide +kernel)
theorem wd_156 : Cond.instantiable RX5 5 ∈ lwG := lwG_of 156 (by decide +kernel) (by decide +kernel)
theorem wd_157 : Cond.methodLink RX4 31 yX5_init ∈ lwG := lwG_of 157 (by decide +kernel) (by decide +kernel)
theorem wd_158 : Cond.instanceMethod yX5_init ∈ lwG := lwG_of 158 (by decide +kernel) (by decide +kernel)
theorem wd_159 : Cond.code yX5_init cX5_init 2 none ∈ lwG := lwG_of 159 (by decide +kernel) (by decide +kernel)
theorem wd_160 : Cond.methodLink RX5 3 objectInit ∈ lwG := lwG_of 160 (by decide +kernel) (by decide +kernel)
theorem wd_161 : Cond.classLink RX5 9 RX1 ∈ lwG := lwG_of 161 (by decide +kernel) (by decide +kernel)
theorem wd_163 : Cond.instantiable RX1 6 ∈ lwG := lwG_of 163 (by decide +kernel) (by decide +kernel)
theorem wd_165 : Cond.instanceMethod yX1_init ∈ lwG := lwG_of 165 (by decide +kernel) (by decide +kernel)
theorem wd_166 : Cond.code yX1_init cX1_init 1 none ∈ lwG := lwG_of 166 (by decide +kernel) (by decide +kernel)
theorem wd_167 : Cond.methodLink RX1 1 objectInit ∈ lwG := lwG_of 167 (by decide +kernel) (by decide +kernel)
theorem wd_168 : Cond.fieldLink RX1 7 "PlumbShaft$Observation" "valid" "Z" ∈ lwG := lwG_of 168 (by decide +kernel) (by decide +kernel)
theorem wd_169 : Cond.fieldLink RX5 36 "PlumbShaft$Observation" "valid" "Z" ∈ lwG := lwG_of 169 (by decide +kernel) (by decide +kernel)
theorem wd_170 : Cond.fieldLink RX4 73 "PlumbShaft$Observation" "valid" "Z" ∈ lwG := lwG_of 170 (by decide +kernel) (by decide +kernel)
theorem wd_171 : Cond.fieldLink RX7 267 "PlumbShaft$Observation" "valid" "Z" ∈ lwG := lwG_of 171 (by decide +kernel) (by decide +kernel)
theorem wd_172 : Cond.fieldLink RX1 13 "PlumbShaft$Observation" "meanX" "I" ∈ lwG := lwG_of 172 (by decide +kernel) (by decide +kernel)
theorem wd_173 : Cond.fieldLink RX4 128 "PlumbShaft$Observation" "meanX" "I" ∈ lwG := lwG_of 173 (by decide +kernel) (by decide +kernel)
theorem wd_174 : Cond.fieldLink RX7 315 "PlumbShaft$Observation" "meanX" "I" ∈ lwG := lwG_of 174 (by decide +kernel) (by decide +kernel)
theorem wd_175 : Cond.fieldLink RX1 17 "PlumbShaft$Observation" "meanY" "I" ∈ lwG := lwG_of 175 (by decide +kernel) (by decide +kernel)
theorem wd_176 : Cond.fieldLink RX4 131 "PlumbShaft$Observation" "meanY" "I" ∈ lwG := lwG_of 176 (by decide +kernel) (by decide +kernel)
theorem wd_177 : Cond.fieldLink RX7 318 "PlumbShaft$Observation" "meanY" "I" ∈ lwG := lwG_of 177 (by decide +kernel) (by decide +kernel)
theorem wd_178 : Cond.fieldLink RX1 20 "PlumbShaft$Observation" "spread" "I" ∈ lwG := lwG_of 178 (by decide +kernel) (by decide +kernel)
theorem wd_179 : Cond.fieldLink RX4 142 "PlumbShaft$Observation" "spread" "I" ∈ lwG := lwG_of 179 (by decide +kernel) (by decide +kernel)
theorem wd_180 : Cond.fieldLink RX7 160 "PlumbShaft$Observation" "spread" "I" ∈ lwG := lwG_of 180 (by decide +kernel) (by decide +kernel)
theorem wd_181 : Cond.fieldLink RX1 23 "PlumbShaft$Observation" "ticks" "I" ∈ lwG := lwG_of 181 (by decide +kernel) (by decide +kernel)
theorem wd_182 : Cond.fieldLink RX4 144 "PlumbShaft$Observation" "ticks" "I" ∈ lwG := lwG_of 182 (by decide +kernel) (by decide +kernel)
theorem wd_183 : Cond.fieldLink RX1 26 "PlumbShaft$Observation" "endTime" "I" ∈ lwG := lwG_of 183 (by decide +kernel) (by decide +kernel)
theorem wd_184 : Cond.fieldLink RX4 147 "PlumbShaft$Observation" "endTime" "I" ∈ lwG := lwG_of 184 (by decide +kernel) (by decide +kernel)
theorem wd_198 : Cond.fieldLink RX5 18 "PlumbShaft$Station" "depth" "I" ∈ lwG := lwG_of 198 (by decide +kernel) (by decide +kernel)
theorem wd_199 : Cond.fieldLink RX4 104 "PlumbShaft$Station" "depth" "I" ∈ lwG := lwG_of 199 (by decide +kernel) (by decide +kernel)
theorem wd_200 : Cond.fieldLink RX7 148 "PlumbShaft$Station" "depth" "I" ∈ lwG := lwG_of 200 (by decide +kernel) (by decide +kernel)
theorem wd_201 : Cond.fieldLink RX5 22 "PlumbShaft$Station" "frame" "I" ∈ lwG := lwG_of 201 (by decide +kernel) (by decide +kernel)
theorem wd_202 : Cond.fieldLink RX7 261 "PlumbShaft$Station" "frame" "I" ∈ lwG := lwG_of 202 (by decide +kernel) (by decide +kernel)
theorem wd_203 : Cond.fieldLink RX5 25 "PlumbShaft$Station" "hasOrientation" "Z" ∈ lwG := lwG_of 203 (by decide +kernel) (by decide +kernel)
theorem wd_204 : Cond.fieldLink RX4 62 "PlumbShaft$Station" "hasOrientation" "Z" ∈ lwG := lwG_of 204 (by decide +kernel) (by decide +kernel)
theorem wd_205 : Cond.fieldLink RX7 187 "PlumbShaft$Station" "hasOrientation" "Z" ∈ lwG := lwG_of 205 (by decide +kernel) (by decide +kernel)
theorem wd_206 : Cond.fieldLink RX5 29 "PlumbShaft$Station" "orientation" "I" ∈ lwG := lwG_of 206 (by decide +kernel) (by decide +kernel)
theorem wd_207 : Cond.fieldLink RX7 184 "PlumbShaft$Station" "orientation" "I" ∈ lwG := lwG_of 207 (by decide +kernel) (by decide +kernel)
theorem wd_208 : Cond.fieldLink RX5 11 "PlumbShaft$Station" "seen" "[LPlumbShaft$Observation;" ∈ lwG := lwG_of 208 (by decide +kernel) (by decide +kernel)
theorem wd_209 : Cond.fieldLink RX4 69 "PlumbShaft$Station" "seen" "[LPlumbShaft$Observation;" ∈ lwG := lwG_of 209 (by decide +kernel) (by decide +kernel)
theorem wd_210 : Cond.fieldLink RX7 156 "PlumbShaft$Station" "seen" "[LPlumbShaft$Observation;" ∈ lwG := lwG_of 210 (by decide +kernel) (by decide +kernel)
theorem wd_222 : Cond.fieldLink RX4 11 "PlumbShaft$State" "wires" "[LPlumbShaft$Wire;" ∈ lwG := lwG_of 222 (by decide +kernel) (by decide +kernel)
theorem wd_223 : Cond.fieldLink RX7 51 "PlumbShaft$State" "wires" "[LPlumbShaft$Wire;" ∈ lwG := lwG_of 223 (by decide +kernel) (by decide +kernel)
theorem wd_224 : Cond.fieldLink RX4 20 "PlumbShaft$State" "currents" "[LPlumbShaft$Current;" ∈ lwG := lwG_of 224 (by decide +kernel) (by decide +kernel)
theorem wd_225 : Cond.fieldLink RX7 111 "PlumbShaft$State" "currents" "[LPlumbShaft$Current;" ∈ lwG := lwG_of 225 (by decide +kernel) (by decide +kernel)
theorem wd_226 : Cond.fieldLink RX4 43 "PlumbShaft$State" "currentCount" "I" ∈ lwG := lwG_of 226 (by decide +kernel) (by decide +kernel)
theorem wd_227 : Cond.fieldLink RX7 107 "PlumbShaft$State" "currentCount" "I" ∈ lwG := lwG_of 227 (by decide +kernel) (by decide +kernel)
theorem wd_228 : Cond.fieldLink RX4 27 "PlumbShaft$State" "stations" "[LPlumbShaft$Station;" ∈ lwG := lwG_of 228 (by decide +kernel) (by decide +kernel)
theorem wd_229 : Cond.fieldLink RX7 127 "PlumbShaft$State" "stations" "[LPlumbShaft$Station;" ∈ lwG := lwG_of 229 (by decide +kernel) (by decide +kernel)
theorem wd_230 : Cond.fieldLink RX4 49 "PlumbShaft$State" "stationCount" "I" ∈ lwG := lwG_of 230 (by decide +kernel) (by decide +kernel)
theorem wd_231 : Cond.fieldLink RX7 124 "PlumbShaft$State" "stationCount" "I" ∈ lwG := lwG_of 231 (by decide +kernel) (by decide +kernel)
theorem wd_232 : Cond.fieldLink RX4 52 "PlumbShaft$State" "time" "I" ∈ lwG := lwG_of 232 (by decide +kernel) (by decide +kernel)
theorem wd_233 : Cond.fieldLink RX7 142 "PlumbShaft$State" "time" "I" ∈ lwG := lwG_of 233 (by decide +kernel) (by decide +kernel)
theorem wd_234 : Cond.fieldLink RX4 32 "PlumbShaft$State" "tolerance" "I" ∈ lwG := lwG_of 234 (by decide +kernel) (by decide +kernel)
theorem wd_235 : Cond.fieldLink RX7 136 "PlumbShaft$State" "tolerance" "I" ∈ lwG := lwG_of 235 (by decide +kernel) (by decide +kernel)
theorem wd_236 : Cond.fieldLink RX4 55 "PlumbShaft$State" "observedTicks" "I" ∈ lwG := lwG_of 236 (by decide +kernel) (by decide +kernel)
theorem wd_237 : Cond.fieldLink RX7 291 "PlumbShaft$State" "observedTicks" "I" ∈ lwG := lwG_of 237 (by decide +kernel) (by decide +kernel)
theorem wd_256 : Cond.classLink RX7 27 RX2 ∈ lwG := lwG_of 256 (by decide +kernel) (by decide +kernel)
theorem wd_257 : Cond.instantiable RX2 6 ∈ lwG := lwG_of 257 (by decide +kernel) (by decide +kernel)
theorem wd_258 : Cond.methodLink RX7 29 yX2_init ∈ lwG := lwG_of 258 (by decide +kernel) (by decide +kernel)
theorem wd_259 : Cond.instanceMethod yX2_init ∈ lwG := lwG_of 259 (by decide +kernel) (by decide +kernel)
theorem wd_260 : Cond.code yX2_init cX2_init 1 none ∈ lwG := lwG_of 260 (by decide +kernel) (by decide +kernel)
theorem wd_261 : Cond.methodLink RX2 3 objectInit ∈ lwG := lwG_of 261 (by decide +kernel) (by decide +kernel)
theorem wd_262 : Cond.fieldLink RX2 9 "PlumbShaft$OrderText" "text" "[C" ∈ lwG := lwG_of 262 (by decide +kernel) (by decide +kernel)
theorem wd_263 : Cond.fieldLink RX2 22 "PlumbShaft$OrderText" "length" "I" ∈ lwG := lwG_of 263 (by decide +kernel) (by decide +kernel)
theorem wd_264 : Cond.fieldLink RX7 190 "PlumbShaft$OrderText" "length" "I" ∈ lwG := lwG_of 264 (by decide +kernel) (by decide +kernel)
theorem wd_265 : Cond.fieldLink RX2 15 "PlumbShaft$OrderText" "words" "[I" ∈ lwG := lwG_of 265 (by decide +kernel) (by decide +kernel)
theorem wd_266 : Cond.fieldLink RX7 212 "PlumbShaft$OrderText" "words" "[I" ∈ lwG := lwG_of 266 (by decide +kernel) (by decide +kernel)
theorem wd_267 : Cond.fieldLink RX2 19 "PlumbShaft$OrderText" "numbers" "[I" ∈ lwG := lwG_of 267 (by decide +kernel) (by decide +kernel)
theorem wd_268 : Cond.fieldLink RX2 29 "PlumbShaft$OrderText" "count" "I" ∈ lwG := lwG_of 268 (by decide +kernel) (by decide +kernel)
theorem wd_269 : Cond.fieldLink RX7 203 "PlumbShaft$OrderText" "count" "I" ∈ lwG := lwG_of 269 (by decide +kernel) (by decide +kernel)
theorem wd_270 : Cond.fieldLink RX2 26 "PlumbShaft$OrderText" "place" "I" ∈ lwG := lwG_of 270 (by decide +kernel) (by decide +kernel)
theorem wd_284 : Cond.arrayClass .boolean ∈ lwG := lwG_of 284 (by decide +kernel) (by decide +kernel)
theorem wd_285 : Cond.arrayClass .char ∈ lwG := lwG_of 285 (by decide +kernel) (by decide +kernel)
theorem wd_286 : Cond.arrayClass .int ∈ lwG := lwG_of 286 (by decide +kernel) (by decide +kernel)
theorem wd_287 : Cond.fieldLink RX7 12 "PlumbShaft" "now" "LPlumbShaft$State;" ∈ lwG := lwG_of 287 (by decide +kernel) (by decide +kernel)
theorem wd_288 : Cond.fieldLink RX7 16 "PlumbShaft" "history" "[LPlumbShaft$State;" ∈ lwG := lwG_of 288 (by decide +kernel) (by decide +kernel)
theorem wd_289 : Cond.fieldLink RX7 232 "PlumbShaft" "historyLength" "I" ∈ lwG := lwG_of 289 (by decide +kernel) (by decide +kernel)
theorem wd_290 : Cond.fieldLink RX7 20 "PlumbShaft" "slots" "[LPlumbShaft$State;" ∈ lwG := lwG_of 290 (by decide +kernel) (by decide +kernel)
theorem wd_291 : Cond.fieldLink RX7 23 "PlumbShaft" "slotTaken" "[Z" ∈ lwG := lwG_of 291 (by decide +kernel) (by decide +kernel)
theorem wd_292 : Cond.fieldLink RX7 30 "PlumbShaft" "orders" "LPlumbShaft$OrderText;" ∈ lwG := lwG_of 292 (by decide +kernel) (by decide +kernel)
theorem wd_293 : Cond.fieldLink RX7 200 "PlumbShaft" "runningOrders" "Z" ∈ lwG := lwG_of 293 (by decide +kernel) (by decide +kernel)
theorem wd_294 : Cond.fieldLink RX7 34 "PlumbShaft" "reason" "I" ∈ lwG := lwG_of 294 (by decide +kernel) (by decide +kernel)
theorem wd_312 : Cond.methodLink RL 13 yX7_hang ∈ lwG := lwG_of 312 (by decide +kernel) (by decide +kernel)
theorem wd_313 : Cond.instanceMethod yX7_hang ∈ lwG := lwG_of 313 (by decide +kernel) (by decide +kernel)
theorem wd_314 : Cond.selects RX7 yX7_hang yX7_hang ∈ lwG := lwG_of 314 (by decide +kernel) (by decide +kernel)
theorem wd_315 : Cond.code yX7_hang cX7_hang 6 (some .int) ∈ lwG := lwG_of 315 (by decide +kernel) (by decide +kernel)
theorem wd_316 : Cond.methodLink RX7 38 yX7_isWire ∈ lwG := lwG_of 316 (by decide +kernel) (by decide +kernel)
theorem wd_317 : Cond.static yX7_isWire ∈ lwG := lwG_of 317 (by decide +kernel) (by decide +kernel)
theorem wd_318 : Cond.code yX7_isWire cX7_isWire 1 (some .boolean) ∈ lwG := lwG_of 318 (by decide +kernel) (by decide +kernel)
theorem wd_319 : Cond.methodLink RX7 43 yX7_isWithin ∈ lwG := lwG_of 319 (by decide +kernel) (by decide +kernel)
theorem wd_320 : Cond.static yX7_isWithin ∈ lwG := lwG_of 320 (by decide +kernel) (by decide +kernel)
theorem wd_321 : Cond.code yX7_isWithin cX7_isWithin 3 (some .boolean) ∈ lwG := lwG_of 321 (by decide +kernel) (by decide +kernel)
theorem wd_322 : Cond.constant RX7 42 (-100001) ∈ lwG := lwG_of 322 (by decide +kernel) (by decide +kernel)
theorem wd_323 : Cond.constant RX7 47 (-100002) ∈ lwG := lwG_of 323 (by decide +kernel) (by decide +kernel)
theorem wd_324 : Cond.methodLink RX7 48 yX7_remember ∈ lwG := lwG_of 324 (by decide +kernel) (by decide +kernel)
theorem wd_326 : Cond.instanceMethod yX7_remember ∈ lwG := lwG_of 326 (by decide +kernel) (by decide +kernel)
theorem wd_327 : Cond.code yX7_remember cX7_remember 1 none ∈ lwG := lwG_of 327 (by decide +kernel) (by decide +kernel)
theorem wd_328 : Cond.methodLink RX7 242 yX7_dropOldestState ∈ lwG := lwG_of 328 (by decide +kernel) (by decide +kernel)
theorem wd_330 : Cond.instanceMethod yX7_dropOldestState ∈ lwG := lwG_of 330 (by decide +kernel) (by decide +kernel)
theorem wd_331 : Cond.code yX7_dropOldestState cX7_dropOldestState 3 none ∈ lwG := lwG_of 331 (by decide +kernel) (by decide +kernel)
theorem wd_332 : Cond.methodLink RX7 235 yX4_copyFrom ∈ lwG := lwG_of 332 (by decide +kernel) (by decide +kernel)
theorem wd_333 : Cond.instanceMethod yX4_copyFrom ∈ lwG := lwG_of 333 (by decide +kernel) (by decide +kernel)
theorem wd_334 : Cond.selects RX4 yX4_copyFrom yX4_copyFrom ∈ lwG := lwG_of 334 (by decide +kernel) (by decide +kernel)
theorem wd_335 : Cond.code yX4_copyFrom cX4_copyFrom 3 none ∈ lwG := lwG_of 335 (by decide +kernel) (by decide +kernel)
theorem wd_336 : Cond.methodLink RX4 36 yX6_copyFrom ∈ lwG := lwG_of 336 (by decide +kernel) (by decide +kernel)
theorem wd_337 : Cond.instanceMethod yX6_copyFrom ∈ lwG := lwG_of 337 (by decide +kernel) (by decide +kernel)
theorem wd_338 : Cond.selects RX6 yX6_copyFrom yX6_copyFrom ∈ lwG := lwG_of 338 (by decide +kernel) (by decide +kernel)
theorem wd_339 : Cond.code yX6_copyFrom cX6_copyFrom 2 none ∈ lwG := lwG_of 339 (by decide +kernel) (by decide +kernel)
theorem wd_340 : Cond.methodLink RX4 40 yX0_copyFrom ∈ lwG := lwG_of 340 (by decide +kernel) (by decide +kernel)
theorem wd_341 : Cond.instanceMethod yX0_copyFrom ∈ lwG := lwG_of 341 (by decide +kernel) (by decide +kernel)
theorem wd_342 : Cond.selects RX0 yX0_copyFrom yX0_copyFrom ∈ lwG := lwG_of 342 (by decide +kernel) (by decide +kernel)
theorem wd_343 : Cond.code yX0_copyFrom cX0_copyFrom 2 none ∈ lwG := lwG_of 343 (by decide +kernel) (by decide +kernel)
theorem wd_344 : Cond.methodLink RX4 46 yX5_copyFrom ∈ lwG := lwG_of 344 (by decide +kernel) (by decide +kernel)
theorem wd_345 : Cond.instanceMethod yX5_copyFrom ∈ lwG := lwG_of 345 (by decide +kernel) (by decide +kernel)
theorem wd_346 : Cond.selects RX5 yX5_copyFrom yX5_copyFrom ∈ lwG := lwG_of 346 (by decide +kernel) (by decide +kernel)
theorem wd_347 : Cond.code yX5_copyFrom cX5_copyFrom 3 none ∈ lwG := lwG_of 347 (by decide +kernel) (by decide +kernel)
theorem wd_348 : Cond.methodLink RX5 32 yX1_copyFrom ∈ lwG := lwG_of 348 (by decide +kernel) (by decide +kernel)
theorem wd_349 : Cond.instanceMethod yX1_copyFrom ∈ lwG := lwG_of 349 (by decide +kernel) (by decide +kernel)
theorem wd_350 : Cond.selects RX1 yX1_copyFrom yX1_copyFrom ∈ lwG := lwG_of 350 (by decide +kernel) (by decide +kernel)
theorem wd_351 : Cond.code yX1_copyFrom cX1_copyFrom 2 none ∈ lwG := lwG_of 351 (by decide +kernel) (by decide +kernel)
theorem wd_352 : Cond.methodLink RX7 55 yX6_hangAnew ∈ lwG := lwG_of 352 (by decide +kernel) (by decide +kernel)
theorem wd_353 : Cond.instanceMethod yX6_hangAnew ∈ lwG := lwG_of 353 (by decide +kernel) (by decide +kernel)
theorem wd_354 : Cond.selects RX6 yX6_hangAnew yX6_hangAnew ∈ lwG := lwG_of 354 (by decide +kernel) (by decide +kernel)
theorem wd_355 : Cond.code yX6_hangAnew cX6_hangAnew 5 none ∈ lwG := lwG_of 355 (by decide +kernel) (by decide +kernel)
theorem wd_356 : Cond.methodLink RX6 46 yX6_startSway ∈ lwG := lwG_of 356 (by decide +kernel) (by decide +kernel)
theorem wd_357 : Cond.instanceMethod yX6_startSway ∈ lwG := lwG_of 357 (by decide +kernel) (by decide +kernel)
theorem wd_358 : Cond.selects RX6 yX6_startSway yX6_startSway ∈ lwG := lwG_of 358 (by decide +kernel) (by decide +kernel)
theorem wd_359 : Cond.code yX6_startSway cX6_startSway 2 none ∈ lwG := lwG_of 359 (by decide +kernel) (by decide +kernel)
theorem wd_360 : Cond.methodLink RX7 61 yX4_voidWire ∈ lwG := lwG_of 360 (by decide +kernel) (by decide +kernel)
theorem wd_361 : Cond.instanceMethod yX4_voidWire ∈ lwG := lwG_of 361 (by decide +kernel) (by decide +kernel)
theorem wd_362 : Cond.selects RX4 yX4_voidWire yX4_voidWire ∈ lwG := lwG_of 362 (by decide +kernel) (by decide +kernel)
theorem wd_363 : Cond.code yX4_voidWire cX4_voidWire 5 (some .int) ∈ lwG := lwG_of 363 (by decide +kernel) (by decide +kernel)
theorem wd_364 : Cond.methodLink RX7 65 yX4_hungWires ∈ lwG := lwG_of 364 (by decide +kernel) (by decide +kernel)
theorem wd_365 : Cond.instanceMethod yX4_hungWires ∈ lwG := lwG_of 365 (by decide +kernel) (by decide +kernel)
theorem wd_366 : Cond.selects RX4 yX4_hungWires yX4_hungWires ∈ lwG := lwG_of 366 (by decide +kernel) (by decide +kernel)
theorem wd_367 : Cond.code yX4_hungWires cX4_hungWires 3 (some .int) ∈ lwG := lwG_of 367 (by decide +kernel) (by decide +kernel)
theorem wd_368 : Cond.methodLink RL 18 yX7_lift ∈ lwG := lwG_of 368 (by decide +kernel) (by decide +kernel)
theorem wd_369 : Cond.instanceMethod yX7_lift ∈ lwG := lwG_of 369 (by decide +kernel) (by decide +kernel)
theorem wd_370 : Cond.selects RX7 yX7_lift yX7_lift ∈ lwG := lwG_of 370 (by decide +kernel) (by decide +kernel)
theorem wd_371 : Cond.code yX7_lift cX7_lift 2 (some .int) ∈ lwG := lwG_of 371 (by decide +kernel) (by decide +kernel)
theorem wd_372 : Cond.methodLink RX7 69 yX7_isHung ∈ lwG := lwG_of 372 (by decide +kernel) (by decide +kernel)
theorem wd_374 : Cond.instanceMethod yX7_isHung ∈ lwG := lwG_of 374 (by decide +kernel) (by decide +kernel)
theorem wd_375 : Cond.code yX7_isHung cX7_isHung 2 (some .boolean) ∈ lwG := lwG_of 375 (by decide +kernel) (by decide +kernel)
theorem wd_376 : Cond.methodLink RX7 72 yX7_refuse ∈ lwG := lwG_of 376 (by decide +kernel) (by decide +kernel)
theorem wd_378 : Cond.instanceMethod yX7_refuse ∈ lwG := lwG_of 378 (by decide +kernel) (by decide +kernel)
theorem wd_379 : Cond.code yX7_refuse cX7_refuse 2 (some .int) ∈ lwG := lwG_of 379 (by decide +kernel) (by decide +kernel)
theorem wd_380 : Cond.constant RX7 294 (-100003) ∈ lwG := lwG_of 380 (by decide +kernel) (by decide +kernel)
theorem wd_381 : Cond.methodLink RL 23 yX7_setClamp ∈ lwG := lwG_of 381 (by decide +kernel) (by decide +kernel)
theorem wd_382 : Cond.instanceMethod yX7_setClamp ∈ lwG := lwG_of 382 (by decide +kernel) (by decide +kernel)
theorem wd_383 : Cond.selects RX7 yX7_setClamp yX7_setClamp ∈ lwG := lwG_of 383 (by decide +kernel) (by decide +kernel)
theorem wd_384 : Cond.code yX7_setClamp cX7_setClamp 5 (some .int) ∈ lwG := lwG_of 384 (by decide +kernel) (by decide +kernel)
theorem wd_385 : Cond.methodLink RX7 85 Lib.Math.abs.name ∈ lwG := lwG_of 385 (by decide +kernel) (by decide +kernel)
theorem wd_386 : Cond.static Lib.Math.abs.name ∈ lwG := lwG_of 386 (by decide +kernel) (by decide +kernel)
theorem wd_387 : Cond.code Lib.Math.abs.name Lib.Math.abs.code 1 (some .int) ∈ lwG := lwG_of 387 (by decide +kernel) (by decide +kernel)
theorem wd_387 : Cond.code yJ9_abs_0f7a4 cJ9_abs_0f7a4 1 (some .int) ∈ lwG := lwG_of 387 (by decide +kernel) (by decide +kernel)
theorem wd_388 : Cond.methodLink RL 28 yX7_setBucket ∈ lwG := lwG_of 388 (by decide +kernel) (by decide +kernel)
theorem wd_389 : Cond.instanceMethod yX7_setBucket ∈ lwG := lwG_of 389 (by decide +kernel) (by decide +kernel)
theorem wd_390 : Cond.selects RX7 yX7_setBucket yX7_setBucket ∈ lwG := lwG_of 390 (by decide +kernel) (by decide +kernel)
theorem wd_391 : Cond.code yX7_setBucket cX7_setBucket 5 (some .int) ∈ lwG := lwG_of 391 (by decide +kernel) (by decide +kernel)
theorem wd_392 : Cond.methodLink RL 33 yX7_push ∈ lwG := lwG_of 392 (by decide +kernel) (by decide +kernel)
theorem wd_393 : Cond.instanceMethod yX7_push ∈ lwG := lwG_of 393 (by decide +kernel) (by decide +kernel)
theorem wd_394 : Cond.selects RX7 yX7_push yX7_push ∈ lwG := lwG_of 394 (by decide +kernel) (by decide +kernel)
theorem wd_395 : Cond.code yX7_push cX7_push 5 (some .int) ∈ lwG := lwG_of 395 (by decide +kernel) (by decide +kernel)
theorem wd_396 : Cond.methodLink RX7 96 yX6_startSway ∈ lwG := lwG_of 396 (by decide +kernel) (by decide +kernel)
theorem wd_397 : Cond.methodLink RX7 100 yX6_periodTicks ∈ lwG := lwG_of 397 (by decide +kernel) (by decide +kernel)
theorem wd_398 : Cond.instanceMethod yX6_periodTicks ∈ lwG := lwG_of 398 (by decide +kernel) (by decide +kernel)
theorem wd_399 : Cond.selects RX6 yX6_periodTicks yX6_periodTicks ∈ lwG := lwG_of 399 (by decide +kernel) (by decide +kernel)
theorem wd_400 : Cond.code yX6_periodTicks cX6_periodTicks 1 (some .int) ∈ lwG := lwG_of 400 (by decide +kernel) (by decide +kernel)
theorem wd_401 : Cond.methodLink RX6 50 yX6_quarterTicks ∈ lwG := lwG_of 401 (by decide +kernel) (by decide +kernel)
theorem wd_402 : Cond.instanceMethod yX6_quarterTicks ∈ lwG := lwG_of 402 (by decide +kernel) (by decide +kernel)
theorem wd_403 : Cond.selects RX6 yX6_quarterTicks yX6_quarterTicks ∈ lwG := lwG_of 403 (by decide +kernel) (by decide +kernel)
theorem wd_404 : Cond.code yX6_quarterTicks cX6_quarterTicks 1 (some .int) ∈ lwG := lwG_of 404 (by decide +kernel) (by decide +kernel)
theorem wd_405 : Cond.methodLink RL 37 yX7_swap ∈ lwG := lwG_of 405 (by decide +kernel) (by decide +kernel)
theorem wd_406 : Cond.instanceMethod yX7_swap ∈ lwG := lwG_of 406 (by decide +kernel) (by decide +kernel)
theorem wd_407 : Cond.selects RX7 yX7_swap yX7_swap ∈ lwG := lwG_of 407 (by decide +kernel) (by decide +kernel)
theorem wd_408 : Cond.code yX7_swap cX7_swap 5 (some .int) ∈ lwG := lwG_of 408 (by decide +kernel) (by decide +kernel)
theorem wd_409 : Cond.methodLink RX7 103 yX6_tradePlaces ∈ lwG := lwG_of 409 (by decide +kernel) (by decide +kernel)
theorem wd_410 : Cond.instanceMethod yX6_tradePlaces ∈ lwG := lwG_of 410 (by decide +kernel) (by decide +kernel)
theorem wd_411 : Cond.selects RX6 yX6_tradePlaces yX6_tradePlaces ∈ lwG := lwG_of 411 (by decide +kernel) (by decide +kernel)
theorem wd_412 : Cond.code yX6_tradePlaces cX6_tradePlaces 4 none ∈ lwG := lwG_of 412 (by decide +kernel) (by decide +kernel)
theorem wd_413 : Cond.methodLink RL 41 yX7_addCurrent ∈ lwG := lwG_of 413 (by decide +kernel) (by decide +kernel)
theorem wd_414 : Cond.instanceMethod yX7_addCurrent ∈ lwG := lwG_of 414 (by decide +kernel) (by decide +kernel)
theorem wd_415 : Cond.selects RX7 yX7_addCurrent yX7_addCurrent ∈ lwG := lwG_of 415 (by decide +kernel) (by decide +kernel)
theorem wd_416 : Cond.code yX7_addCurrent cX7_addCurrent 5 (some .int) ∈ lwG := lwG_of 416 (by decide +kernel) (by decide +kernel)
theorem wd_417 : Cond.constant RX7 110 (-100004) ∈ lwG := lwG_of 417 (by decide +kernel) (by decide +kernel)
theorem wd_418 : Cond.methodLink RX7 115 yX0_become ∈ lwG := lwG_of 418 (by decide +kernel) (by decide +kernel)
theorem wd_419 : Cond.instanceMethod yX0_become ∈ lwG := lwG_of 419 (by decide +kernel) (by decide +kernel)
theorem wd_420 : Cond.selects RX0 yX0_become yX0_become ∈ lwG := lwG_of 420 (by decide +kernel) (by decide +kernel)
theorem wd_421 : Cond.code yX0_become cX0_become 5 none ∈ lwG := lwG_of 421 (by decide +kernel) (by decide +kernel)
theorem wd_422 : Cond.methodLink RX7 120 yX4_voidAllWires ∈ lwG := lwG_of 422 (by decide +kernel) (by decide +kernel)
theorem wd_423 : Cond.instanceMethod yX4_voidAllWires ∈ lwG := lwG_of 423 (by decide +kernel) (by decide +kernel)
theorem wd_424 : Cond.selects RX4 yX4_voidAllWires yX4_voidAllWires ∈ lwG := lwG_of 424 (by decide +kernel) (by decide +kernel)
theorem wd_425 : Cond.code yX4_voidAllWires cX4_voidAllWires 2 none ∈ lwG := lwG_of 425 (by decide +kernel) (by decide +kernel)
theorem wd_426 : Cond.methodLink RX4 78 yX4_voidWire ∈ lwG := lwG_of 426 (by decide +kernel) (by decide +kernel)
theorem wd_427 : Cond.methodLink RL 46 yX7_clearCurrents ∈ lwG := lwG_of 427 (by decide +kernel) (by decide +kernel)
theorem wd_428 : Cond.instanceMethod yX7_clearCurrents ∈ lwG := lwG_of 428 (by decide +kernel) (by decide +kernel)
theorem wd_429 : Cond.selects RX7 yX7_clearCurrents yX7_clearCurrents ∈ lwG := lwG_of 429 (by decide +kernel) (by decide +kernel)
theorem wd_430 : Cond.code yX7_clearCurrents cX7_clearCurrents 2 (some .int) ∈ lwG := lwG_of 430 (by decide +kernel) (by decide +kernel)
theorem wd_431 : Cond.constant RX7 123 (-100005) ∈ lwG := lwG_of 431 (by decide +kernel) (by decide +kernel)
theorem wd_432 : Cond.methodLink RL 51 yX7_addStation ∈ lwG := lwG_of 432 (by decide +kernel) (by decide +kernel)
theorem wd_433 : Cond.instanceMethod yX7_addStation ∈ lwG := lwG_of 433 (by decide +kernel) (by decide +kernel)
theorem wd_434 : Cond.selects RX7 yX7_addStation yX7_addStation ∈ lwG := lwG_of 434 (by decide +kernel) (by decide +kernel)
theorem wd_435 : Cond.code yX7_addStation cX7_addStation 4 (some .int) ∈ lwG := lwG_of 435 (by decide +kernel) (by decide +kernel)
theorem wd_436 : Cond.methodLink RX7 131 yX5_become ∈ lwG := lwG_of 436 (by decide +kernel) (by decide +kernel)
theorem wd_437 : Cond.instanceMethod yX5_become ∈ lwG := lwG_of 437 (by decide +kernel) (by decide +kernel)
theorem wd_438 : Cond.selects RX5 yX5_become yX5_become ∈ lwG := lwG_of 438 (by decide +kernel) (by decide +kernel)
theorem wd_439 : Cond.code yX5_become cX5_become 4 none ∈ lwG := lwG_of 439 (by decide +kernel) (by decide +kernel)
theorem wd_440 : Cond.methodLink RL 55 yX7_setTolerance ∈ lwG := lwG_of 440 (by decide +kernel) (by decide +kernel)
theorem wd_441 : Cond.instanceMethod yX7_setTolerance ∈ lwG := lwG_of 441 (by decide +kernel) (by decide +kernel)
theorem wd_442 : Cond.selects RX7 yX7_setTolerance yX7_setTolerance ∈ lwG := lwG_of 442 (by decide +kernel) (by decide +kernel)
theorem wd_443 : Cond.code yX7_setTolerance cX7_setTolerance 3 (some .int) ∈ lwG := lwG_of 443 (by decide +kernel) (by decide +kernel)
theorem wd_444 : Cond.methodLink RL 59 yX7_pass ∈ lwG := lwG_of 444 (by decide +kernel) (by decide +kernel)
theorem wd_445 : Cond.instanceMethod yX7_pass ∈ lwG := lwG_of 445 (by decide +kernel) (by decide +kernel)
theorem wd_446 : Cond.selects RX7 yX7_pass yX7_pass ∈ lwG := lwG_of 446 (by decide +kernel) (by decide +kernel)
theorem wd_447 : Cond.code yX7_pass cX7_pass 3 (some .int) ∈ lwG := lwG_of 447 (by decide +kernel) (by decide +kernel)
theorem wd_448 : Cond.methodLink RX7 139 yX4_passTick ∈ lwG := lwG_of 448 (by decide +kernel) (by decide +kernel)
theorem wd_449 : Cond.instanceMethod yX4_passTick ∈ lwG := lwG_of 449 (by decide +kernel) (by decide +kernel)
theorem wd_450 : Cond.selects RX4 yX4_passTick yX4_passTick ∈ lwG := lwG_of 450 (by decide +kernel) (by decide +kernel)
theorem wd_451 : Cond.code yX4_passTick cX4_passTick 2 none ∈ lwG := lwG_of 451 (by decide +kernel) (by decide +kernel)
theorem wd_452 : Cond.methodLink RX4 82 yX6_swayOneTick ∈ lwG := lwG_of 452 (by decide +kernel) (by decide +kernel)
theorem wd_453 : Cond.instanceMethod yX6_swayOneTick ∈ lwG := lwG_of 453 (by decide +kernel) (by decide +kernel)
theorem wd_454 : Cond.selects RX6 yX6_swayOneTick yX6_swayOneTick ∈ lwG := lwG_of 454 (by decide +kernel) (by decide +kernel)
theorem wd_455 : Cond.code yX6_swayOneTick cX6_swayOneTick 1 none ∈ lwG := lwG_of 455 (by decide +kernel) (by decide +kernel)
theorem wd_456 : Cond.methodLink RX6 54 yX6_periodTicks ∈ lwG := lwG_of 456 (by decide +kernel) (by decide +kernel)
theorem wd_457 : Cond.methodLink RX6 57 yX6_calmed ∈ lwG := lwG_of 457 (by decide +kernel) (by decide +kernel)
theorem wd_458 : Cond.instanceMethod yX6_calmed ∈ lwG := lwG_of 458 (by decide +kernel) (by decide +kernel)
theorem wd_459 : Cond.selects RX6 yX6_calmed yX6_calmed ∈ lwG := lwG_of 459 (by decide +kernel) (by decide +kernel)
theorem wd_460 : Cond.code yX6_calmed cX6_calmed 2 (some .int) ∈ lwG := lwG_of 460 (by decide +kernel) (by decide +kernel)
theorem wd_461 : Cond.methodLink RL 63 yX7_observe ∈ lwG := lwG_of 461 (by decide +kernel) (by decide +kernel)
theorem wd_462 : Cond.instanceMethod yX7_observe ∈ lwG := lwG_of 462 (by decide +kernel) (by decide +kernel)
theorem wd_463 : Cond.selects RX7 yX7_observe yX7_observe ∈ lwG := lwG_of 463 (by decide +kernel) (by decide +kernel)
theorem wd_464 : Cond.code yX7_observe cX7_observe 4 (some .int) ∈ lwG := lwG_of 464 (by decide +kernel) (by decide +kernel)
theorem wd_465 : Cond.methodLink RX7 145 yX7_isStation ∈ lwG := lwG_of 465 (by decide +kernel) (by decide +kernel)
theorem wd_467 : Cond.instanceMethod yX7_isStation ∈ lwG := lwG_of 467 (by decide +kernel) (by decide +kernel)
theorem wd_468 : Cond.code yX7_isStation cX7_isStation 2 (some .boolean) ∈ lwG := lwG_of 468 (by decide +kernel) (by decide +kernel)
theorem wd_469 : Cond.methodLink RX7 152 yX4_look ∈ lwG := lwG_of 469 (by decide +kernel) (by decide +kernel)
theorem wd_470 : Cond.instanceMethod yX4_look ∈ lwG := lwG_of 470 (by decide +kernel) (by decide +kernel)
theorem wd_471 : Cond.selects RX4 yX4_look yX4_look ∈ lwG := lwG_of 471 (by decide +kernel) (by decide +kernel)
theorem wd_472 : Cond.code yX4_look cX4_look 11 none ∈ lwG := lwG_of 472 (by decide +kernel) (by decide +kernel)
theorem wd_473 : Cond.methodLink RX4 107 yX4_restAt ∈ lwG := lwG_of 473 (by decide +kernel) (by decide +kernel)
theorem wd_474 : Cond.instanceMethod yX4_restAt ∈ lwG := lwG_of 474 (by decide +kernel) (by decide +kernel)
theorem wd_475 : Cond.selects RX4 yX4_restAt yX4_restAt ∈ lwG := lwG_of 475 (by decide +kernel) (by decide +kernel)
theorem wd_476 : Cond.code yX4_restAt cX4_restAt 6 (some .int) ∈ lwG := lwG_of 476 (by decide +kernel) (by decide +kernel)
theorem wd_477 : Cond.methodLink RX4 100 yX0_bend ∈ lwG := lwG_of 477 (by decide +kernel) (by decide +kernel)
theorem wd_478 : Cond.instanceMethod yX0_bend ∈ lwG := lwG_of 478 (by decide +kernel) (by decide +kernel)
theorem wd_479 : Cond.selects RX0 yX0_bend yX0_bend ∈ lwG := lwG_of 479 (by decide +kernel) (by decide +kernel)
theorem wd_480 : Cond.code yX0_bend cX0_bend 8 (some .int) ∈ lwG := lwG_of 480 (by decide +kernel) (by decide +kernel)
theorem wd_481 : Cond.methodLink RX0 24 Lib.Math.min.name ∈ lwG := lwG_of 481 (by decide +kernel) (by decide +kernel)
theorem wd_482 : Cond.static Lib.Math.min.name ∈ lwG := lwG_of 482 (by decide +kernel) (by decide +kernel)
theorem wd_483 : Cond.code Lib.Math.min.name Lib.Math.min.code 2 (some .int) ∈ lwG := lwG_of 483 (by decide +kernel) (by decide +kernel)
theorem wd_483 : Cond.code yJ9_min_7cf53 cJ9_min_7cf53 2 (some .int) ∈ lwG := lwG_of 483 (by decide +kernel) (by decide +kernel)
theorem wd_484 : Cond.constantLong RX0 30 (100) ∈ lwG := lwG_of 484 (by decide +kernel) (by decide +kernel)
theorem wd_485 : Cond.methodLink RX0 32 yJ9_floorDiv_f86c9 ∈ lwG := lwG_of 485 (by decide +kernel) (by decide +kernel)
theorem wd_486 : Cond.static yJ9_floorDiv_f86c9 ∈ lwG := lwG_of 486 (by decide +kernel) (by decide +kernel)
theorem wd_487 : Cond.code yJ9_floorDiv_f86c9 cJ9_floorDiv_f86c9 6 (some .long) ∈ lwG := lwG_of 487 (by decide +kernel) (by decide +kernel)
theorem wd_488 : Cond.classLink RX4 111 RX3 ∈ lwG := lwG_of 488 (by decide +kernel) (by decide +kernel)
theorem wd_489 : Cond.instantiable RX3 4 ∈ lwG := lwG_of 489 (by decide +kernel) (by decide +kernel)
theorem wd_491 : Cond.instanceMethod yX3_init ∈ lwG := lwG_of 491 (by decide +kernel) (by decide +kernel)
theorem wd_492 : Cond.code yX3_init cX3_init 1 none ∈ lwG := lwG_of 492 (by decide +kernel) (by decide +kernel)
theorem wd_493 : Cond.methodLink RX3 1 objectInit ∈ lwG := lwG_of 493 (by decide +kernel) (by decide +kernel)
theorem wd_494 : Cond.fieldLink RX3 7 "PlumbShaft$Readings" "taken" "I" ∈ lwG := lwG_of 494 (by decide +kernel) (by decide +kernel)
theorem wd_495 : Cond.fieldLink RX3 28 "PlumbShaft$Readings" "sum" "I" ∈ lwG := lwG_of 495 (by decide +kernel) (by decide +kernel)
theorem wd_496 : Cond.fieldLink RX3 13 "PlumbShaft$Readings" "least" "I" ∈ lwG := lwG_of 496 (by decide +kernel) (by decide +kernel)
theorem wd_497 : Cond.fieldLink RX3 22 "PlumbShaft$Readings" "greatest" "I" ∈ lwG := lwG_of 497 (by decide +kernel) (by decide +kernel)
theorem wd_507 : Cond.methodLink RX4 114 yX6_swayAt ∈ lwG := lwG_of 507 (by decide +kernel) (by decide +kernel)
theorem wd_508 : Cond.instanceMethod yX6_swayAt ∈ lwG := lwG_of 508 (by decide +kernel) (by decide +kernel)
theorem wd_509 : Cond.selects RX6 yX6_swayAt yX6_swayAt ∈ lwG := lwG_of 509 (by decide +kernel) (by decide +kernel)
theorem wd_510 : Cond.code yX6_swayAt cX6_swayAt 4 (some .int) ∈ lwG := lwG_of 510 (by decide +kernel) (by decide +kernel)
theorem wd_516 : Cond.methodLink RX6 76 yX6_swing ∈ lwG := lwG_of 516 (by decide +kernel) (by decide +kernel)
theorem wd_517 : Cond.instanceMethod yX6_swing ∈ lwG := lwG_of 517 (by decide +kernel) (by decide +kernel)
theorem wd_518 : Cond.selects RX6 yX6_swing yX6_swing ∈ lwG := lwG_of 518 (by decide +kernel) (by decide +kernel)
theorem wd_519 : Cond.code yX6_swing cX6_swing 2 (some .int) ∈ lwG := lwG_of 519 (by decide +kernel) (by decide +kernel)
theorem wd_521 : Cond.static yX7_roundedToZero ∈ lwG := lwG_of 521 (by decide +kernel) (by decide +kernel)
theorem wd_522 : Cond.code yX7_roundedToZero cX7_roundedToZero 2 (some .int) ∈ lwG := lwG_of 522 (by decide +kernel) (by decide +kernel)
theorem wd_523 : Cond.methodLink RX4 118 yX3_add ∈ lwG := lwG_of 523 (by decide +kernel) (by decide +kernel)
theorem wd_524 : Cond.instanceMethod yX3_add ∈ lwG := lwG_of 524 (by decide +kernel) (by decide +kernel)
theorem wd_525 : Cond.selects RX3 yX3_add yX3_add ∈ lwG := lwG_of 525 (by decide +kernel) (by decide +kernel)
theorem wd_526 : Cond.code yX3_add cX3_add 2 none ∈ lwG := lwG_of 526 (by decide +kernel) (by decide +kernel)
theorem wd_527 : Cond.methodLink RX3 16 Lib.Math.min.name ∈ lwG := lwG_of 527 (by decide +kernel) (by decide +kernel)
theorem wd_528 : Cond.methodLink RX3 25 Lib.Math.max.name ∈ lwG := lwG_of 528 (by decide +kernel) (by decide +kernel)
theorem wd_529 : Cond.static Lib.Math.max.name ∈ lwG := lwG_of 529 (by decide +kernel) (by decide +kernel)
theorem wd_530 : Cond.code Lib.Math.max.name Lib.Math.max.code 2 (some .int) ∈ lwG := lwG_of 530 (by decide +kernel) (by decide +kernel)
theorem wd_530 : Cond.code yJ9_max_7cf53 cJ9_max_7cf53 2 (some .int) ∈ lwG := lwG_of 530 (by decide +kernel) (by decide +kernel)
theorem wd_531 : Cond.methodLink RX4 122 yX4_passTick ∈ lwG := lwG_of 531 (by decide +kernel) (by decide +kernel)
theorem wd_532 : Cond.methodLink RX4 125 yX3_mean ∈ lwG := lwG_of 532 (by decide +kernel) (by decide +kernel)
theorem wd_533 : Cond.instanceMethod yX3_mean ∈ lwG := lwG_of 533 (by decide +kernel) (by decide +kernel)
theorem wd_534 : Cond.selects RX3 yX3_mean yX3_mean ∈ lwG := lwG_of 534 (by decide +kernel) (by decide +kernel)
theorem wd_535 : Cond.code yX3_mean cX3_mean 1 (some .int) ∈ lwG := lwG_of 535 (by decide +kernel) (by decide +kernel)
theorem wd_536 : Cond.methodLink RX3 31 yJ9_floorDiv_7cf53 ∈ lwG := lwG_of 536 (by decide +kernel) (by decide +kernel)
theorem wd_537 : Cond.static yJ9_floorDiv_7cf53 ∈ lwG := lwG_of 537 (by decide +kernel) (by decide +kernel)
theorem wd_538 : Cond.code yJ9_floorDiv_7cf53 cJ9_floorDiv_7cf53 3 (some .int) ∈ lwG := lwG_of 538 (by decide +kernel) (by decide +kernel)
theorem wd_539 : Cond.methodLink RX4 134 yX3_spread ∈ lwG := lwG_of 539 (by decide +kernel) (by decide +kernel)
theorem wd_540 : Cond.instanceMethod yX3_spread ∈ lwG := lwG_of 540 (by decide +kernel) (by decide +kernel)
theorem wd_541 : Cond.selects RX3 yX3_spread yX3_spread ∈ lwG := lwG_of 541 (by decide +kernel) (by decide +kernel)
theorem wd_542 : Cond.code yX3_spread cX3_spread 1 (some .int) ∈ lwG := lwG_of 542 (by decide +kernel) (by decide +kernel)
theorem wd_543 : Cond.methodLink RX4 137 Lib.Math.max.name ∈ lwG := lwG_of 543 (by decide +kernel) (by decide +kernel)
theorem wd_544 : Cond.methodLink RL 67 yX7_orient ∈ lwG := lwG_of 544 (by decide +kernel) (by decide +kernel)
theorem wd_545 : Cond.instanceMethod yX7_orient ∈ lwG := lwG_of 545 (by decide +kernel) (by decide +kernel)
theorem wd_546 : Cond.selects RX7 yX7_orient yX7_orient ∈ lwG := lwG_of 546 (by decide +kernel) (by decide +kernel)
theorem wd_547 : Cond.code yX7_orient cX7_orient 7 (some .int) ∈ lwG := lwG_of 547 (by decide +kernel) (by decide +kernel)
theorem wd_548 : Cond.methodLink RX7 165 yX7_reasonAgainst ∈ lwG := lwG_of 548 (by decide +kernel) (by decide +kernel)
theorem wd_550 : Cond.instanceMethod yX7_reasonAgainst ∈ lwG := lwG_of 550 (by decide +kernel) (by decide +kernel)
theorem wd_551 : Cond.code yX7_reasonAgainst cX7_reasonAgainst 5 (some .int) ∈ lwG := lwG_of 551 (by decide +kernel) (by decide +kernel)
theorem wd_552 : Cond.methodLink RX7 278 yX7_isPairHung ∈ lwG := lwG_of 552 (by decide +kernel) (by decide +kernel)
theorem wd_554 : Cond.instanceMethod yX7_isPairHung ∈ lwG := lwG_of 554 (by decide +kernel) (by decide +kernel)
theorem wd_555 : Cond.code yX7_isPairHung cX7_isPairHung 2 (some .boolean) ∈ lwG := lwG_of 555 (by decide +kernel) (by decide +kernel)
theorem wd_556 : Cond.methodLink RX7 295 yX7_firstOf ∈ lwG := lwG_of 556 (by decide +kernel) (by decide +kernel)
theorem wd_558 : Cond.instanceMethod yX7_firstOf ∈ lwG := lwG_of 558 (by decide +kernel) (by decide +kernel)
theorem wd_559 : Cond.code yX7_firstOf cX7_firstOf 2 (some (.object "PlumbShaft$Wire")) ∈ lwG := lwG_of 559 (by decide +kernel) (by decide +kernel)
theorem wd_560 : Cond.methodLink RX7 299 yX7_secondOf ∈ lwG := lwG_of 560 (by decide +kernel) (by decide +kernel)
theorem wd_562 : Cond.instanceMethod yX7_secondOf ∈ lwG := lwG_of 562 (by decide +kernel) (by decide +kernel)
theorem wd_563 : Cond.code yX7_secondOf cX7_secondOf 2 (some (.object "PlumbShaft$Wire")) ∈ lwG := lwG_of 563 (by decide +kernel) (by decide +kernel)
theorem wd_564 : Cond.methodLink RX7 308 yX7_firstSeen ∈ lwG := lwG_of 564 (by decide +kernel) (by decide +kernel)
theorem wd_566 : Cond.instanceMethod yX7_firstSeen ∈ lwG := lwG_of 566 (by decide +kernel) (by decide +kernel)
theorem wd_567 : Cond.code yX7_firstSeen cX7_firstSeen 3 (some (.object "PlumbShaft$Observation")) ∈ lwG := lwG_of 567 (by decide +kernel) (by decide +kernel)
theorem wd_568 : Cond.methodLink RX7 312 yX7_secondSeen ∈ lwG := lwG_of 568 (by decide +kernel) (by decide +kernel)
theorem wd_570 : Cond.instanceMethod yX7_secondSeen ∈ lwG := lwG_of 570 (by decide +kernel) (by decide +kernel)
theorem wd_571 : Cond.code yX7_secondSeen cX7_secondSeen 3 (some (.object "PlumbShaft$Observation")) ∈ lwG := lwG_of 571 (by decide +kernel) (by decide +kernel)
theorem wd_572 : Cond.methodLink RX7 281 yX7_isPairAtOnePlace ∈ lwG := lwG_of 572 (by decide +kernel) (by decide +kernel)
theorem wd_574 : Cond.instanceMethod yX7_isPairAtOnePlace ∈ lwG := lwG_of 574 (by decide +kernel) (by decide +kernel)
theorem wd_575 : Cond.code yX7_isPairAtOnePlace cX7_isPairAtOnePlace 2 (some .boolean) ∈ lwG := lwG_of 575 (by decide +kernel) (by decide +kernel)
theorem wd_576 : Cond.methodLink RX7 169 yX7_lowerReason ∈ lwG := lwG_of 576 (by decide +kernel) (by decide +kernel)
theorem wd_577 : Cond.static yX7_lowerReason ∈ lwG := lwG_of 577 (by decide +kernel) (by decide +kernel)
theorem wd_578 : Cond.code yX7_lowerReason cX7_lowerReason 2 (some .int) ∈ lwG := lwG_of 578 (by decide +kernel) (by decide +kernel)
theorem wd_579 : Cond.methodLink RX7 321 Lib.Math.min.name ∈ lwG := lwG_of 579 (by decide +kernel) (by decide +kernel)
theorem wd_580 : Cond.methodLink RX7 172 yX7_orientationFrom ∈ lwG := lwG_of 580 (by decide +kernel) (by decide +kernel)
theorem wd_582 : Cond.instanceMethod yX7_orientationFrom ∈ lwG := lwG_of 582 (by decide +kernel) (by decide +kernel)
theorem wd_583 : Cond.code yX7_orientationFrom cX7_orientationFrom 7 (some .int) ∈ lwG := lwG_of 583 (by decide +kernel) (by decide +kernel)
theorem wd_584 : Cond.methodLink RX7 271 yX7_bearingOf ∈ lwG := lwG_of 584 (by decide +kernel) (by decide +kernel)
theorem wd_585 : Cond.static yX7_bearingOf ∈ lwG := lwG_of 585 (by decide +kernel) (by decide +kernel)
theorem wd_586 : Cond.code yX7_bearingOf cX7_bearingOf 6 (some .int) ∈ lwG := lwG_of 586 (by decide +kernel) (by decide +kernel)
theorem wd_587 : Cond.methodLink RX7 324 Lib.MathLoose.abs_long.x ∈ lwG := lwG_of 587 (by decide +kernel) (by decide +kernel)
theorem wd_588 : Cond.static Lib.MathLoose.abs_long.x ∈ lwG := lwG_of 588 (by decide +kernel) (by decide +kernel)
theorem wd_589 : Cond.code Lib.MathLoose.abs_long.x Lib.MathLoose.abs_long.code 2 (some .long) ∈ lwG := lwG_of 589 (by decide +kernel) (by decide +kernel)
theorem wd_589 : Cond.code yJ9_abs_067f4 cJ9_abs_067f4 2 (some .long) ∈ lwG := lwG_of 589 (by decide +kernel) (by decide +kernel)
theorem wd_590 : Cond.constantLong RX7 327 (2000) ∈ lwG := lwG_of 590 (by decide +kernel) (by decide +kernel)
theorem wd_591 : Cond.constantLong RX7 175 (4000) ∈ lwG := lwG_of 591 (by decide +kernel) (by decide +kernel)
theorem wd_592 : Cond.constantLong RX7 329 (6000) ∈ lwG := lwG_of 592 (by decide +kernel) (by decide +kernel)
theorem wd_593 : Cond.methodLink RX7 177 yX7_onCircle ∈ lwG := lwG_of 593 (by decide +kernel) (by decide +kernel)
theorem wd_594 : Cond.static yX7_onCircle ∈ lwG := lwG_of 594 (by decide +kernel) (by decide +kernel)
theorem wd_595 : Cond.code yX7_onCircle cX7_onCircle 2 (some .int) ∈ lwG := lwG_of 595 (by decide +kernel) (by decide +kernel)
theorem wd_596 : Cond.constantLong RX7 331 (8000) ∈ lwG := lwG_of 596 (by decide +kernel) (by decide +kernel)
theorem wd_597 : Cond.methodLink RX7 333 yJ9_floorMod_f86c9 ∈ lwG := lwG_of 597 (by decide +kernel) (by decide +kernel)
theorem wd_598 : Cond.static yJ9_floorMod_f86c9 ∈ lwG := lwG_of 598 (by decide +kernel) (by decide +kernel)
theorem wd_599 : Cond.code yJ9_floorMod_f86c9 cJ9_floorMod_f86c9 6 (some .long) ∈ lwG := lwG_of 599 (by decide +kernel) (by decide +kernel)
theorem wd_600 : Cond.methodLink RX7 284 yX7_surfaceBearing ∈ lwG := lwG_of 600 (by decide +kernel) (by decide +kernel)
theorem wd_602 : Cond.instanceMethod yX7_surfaceBearing ∈ lwG := lwG_of 602 (by decide +kernel) (by decide +kernel)
theorem wd_603 : Cond.code yX7_surfaceBearing cX7_surfaceBearing 4 (some .int) ∈ lwG := lwG_of 603 (by decide +kernel) (by decide +kernel)
theorem wd_604 : Cond.methodLink RX7 181 yJ9_floorDiv_7cf53 ∈ lwG := lwG_of 604 (by decide +kernel) (by decide +kernel)
theorem wd_605 : Cond.methodLink RL 71 yX7_type ∈ lwG := lwG_of 605 (by decide +kernel) (by decide +kernel)
theorem wd_606 : Cond.instanceMethod yX7_type ∈ lwG := lwG_of 606 (by decide +kernel) (by decide +kernel)
theorem wd_607 : Cond.selects RX7 yX7_type yX7_type ∈ lwG := lwG_of 607 (by decide +kernel) (by decide +kernel)
theorem wd_608 : Cond.code yX7_type cX7_type 2 (some .int) ∈ lwG := lwG_of 608 (by decide +kernel) (by decide +kernel)
theorem wd_609 : Cond.methodLink RX7 193 yX2_append ∈ lwG := lwG_of 609 (by decide +kernel) (by decide +kernel)
theorem wd_610 : Cond.instanceMethod yX2_append ∈ lwG := lwG_of 610 (by decide +kernel) (by decide +kernel)
theorem wd_611 : Cond.selects RX2 yX2_append yX2_append ∈ lwG := lwG_of 611 (by decide +kernel) (by decide +kernel)
theorem wd_612 : Cond.code yX2_append cX2_append 2 none ∈ lwG := lwG_of 612 (by decide +kernel) (by decide +kernel)
theorem wd_613 : Cond.methodLink RL 76 yX7_clearText ∈ lwG := lwG_of 613 (by decide +kernel) (by decide +kernel)
theorem wd_614 : Cond.instanceMethod yX7_clearText ∈ lwG := lwG_of 614 (by decide +kernel) (by decide +kernel)
theorem wd_615 : Cond.selects RX7 yX7_clearText yX7_clearText ∈ lwG := lwG_of 615 (by decide +kernel) (by decide +kernel)
theorem wd_616 : Cond.code yX7_clearText cX7_clearText 2 (some .int) ∈ lwG := lwG_of 616 (by decide +kernel) (by decide +kernel)
theorem wd_617 : Cond.methodLink RL 80 yX7_runOrders ∈ lwG := lwG_of 617 (by decide +kernel) (by decide +kernel)
theorem wd_618 : Cond.instanceMethod yX7_runOrders ∈ lwG := lwG_of 618 (by decide +kernel) (by decide +kernel)
theorem wd_619 : Cond.selects RX7 yX7_runOrders yX7_runOrders ∈ lwG := lwG_of 619 (by decide +kernel) (by decide +kernel)
theorem wd_620 : Cond.code yX7_runOrders cX7_runOrders 3 (some .int) ∈ lwG := lwG_of 620 (by decide +kernel) (by decide +kernel)
theorem wd_621 : Cond.methodLink RX7 197 yX2_readOrders ∈ lwG := lwG_of 621 (by decide +kernel) (by decide +kernel)
theorem wd_622 : Cond.instanceMethod yX2_readOrders ∈ lwG := lwG_of 622 (by decide +kernel) (by decide +kernel)
theorem wd_623 : Cond.selects RX2 yX2_readOrders yX2_readOrders ∈ lwG := lwG_of 623 (by decide +kernel) (by decide +kernel)
theorem wd_624 : Cond.code yX2_readOrders cX2_readOrders 1 (some .int) ∈ lwG := lwG_of 624 (by decide +kernel) (by decide +kernel)
theorem wd_625 : Cond.methodLink RX2 32 yX2_readOrder ∈ lwG := lwG_of 625 (by decide +kernel) (by decide +kernel)
theorem wd_626 : Cond.instanceMethod yX2_readOrder ∈ lwG := lwG_of 626 (by decide +kernel) (by decide +kernel)
theorem wd_627 : Cond.selects RX2 yX2_readOrder yX2_readOrder ∈ lwG := lwG_of 627 (by decide +kernel) (by decide +kernel)
theorem wd_628 : Cond.code yX2_readOrder cX2_readOrder 5 (some .boolean) ∈ lwG := lwG_of 628 (by decide +kernel) (by decide +kernel)
theorem wd_629 : Cond.methodLink RX2 36 yX2_tokenEnd ∈ lwG := lwG_of 629 (by decide +kernel) (by decide +kernel)
theorem wd_630 : Cond.instanceMethod yX2_tokenEnd ∈ lwG := lwG_of 630 (by decide +kernel) (by decide +kernel)
theorem wd_631 : Cond.selects RX2 yX2_tokenEnd yX2_tokenEnd ∈ lwG := lwG_of 631 (by decide +kernel) (by decide +kernel)
theorem wd_632 : Cond.code yX2_tokenEnd cX2_tokenEnd 2 (some .int) ∈ lwG := lwG_of 632 (by decide +kernel) (by decide +kernel)
theorem wd_633 : Cond.methodLink RX2 40 yX2_wordUpTo ∈ lwG := lwG_of 633 (by decide +kernel) (by decide +kernel)
theorem wd_634 : Cond.instanceMethod yX2_wordUpTo ∈ lwG := lwG_of 634 (by decide +kernel) (by decide +kernel)
theorem wd_635 : Cond.selects RX2 yX2_wordUpTo yX2_wordUpTo ∈ lwG := lwG_of 635 (by decide +kernel) (by decide +kernel)
theorem wd_636 : Cond.code yX2_wordUpTo cX2_wordUpTo 3 (some .int) ∈ lwG := lwG_of 636 (by decide +kernel) (by decide +kernel)
theorem wd_637 : Cond.methodLink RX2 74 yX2_wordText ∈ lwG := lwG_of 637 (by decide +kernel) (by decide +kernel)
theorem wd_638 : Cond.static yX2_wordText ∈ lwG := lwG_of 638 (by decide +kernel) (by decide +kernel)
theorem wd_639 : Cond.code yX2_wordText cX2_wordText 1 (some (.object "java/lang/String")) ∈ lwG := lwG_of 639 (by decide +kernel) (by decide +kernel)
theorem wd_645 : Cond.methodLink RX2 77 yX2_isWordUpTo ∈ lwG := lwG_of 645 (by decide +kernel) (by decide +kernel)
theorem wd_646 : Cond.instanceMethod yX2_isWordUpTo ∈ lwG := lwG_of 646 (by decide +kernel) (by decide +kernel)
theorem wd_647 : Cond.selects RX2 yX2_isWordUpTo yX2_isWordUpTo ∈ lwG := lwG_of 647 (by decide +kernel) (by decide +kernel)
theorem wd_648 : Cond.code yX2_isWordUpTo cX2_isWordUpTo 4 (some .boolean) ∈ lwG := lwG_of 648 (by decide +kernel) (by decide +kernel)
theorem wd_649 : Cond.methodLink RX2 48 yJ0_length_8abf5 ∈ lwG := lwG_of 649 (by decide +kernel) (by decide +kernel)
theorem wd_650 : Cond.instanceMethod yJ0_length_8abf5 ∈ lwG := lwG_of 650 (by decide +kernel) (by decide +kernel)
theorem wd_651 : Cond.selects RJ0 yJ0_length_8abf5 yJ0_length_8abf5 ∈ lwG := lwG_of 651 (by decide +kernel) (by decide +kernel)
theorem wd_652 : Cond.code yJ0_length_8abf5 cJ0_length_8abf5 1 (some .int) ∈ lwG := lwG_of 652 (by decide +kernel) (by decide +kernel)
theorem wd_653 : Cond.methodLink RJ0 335 yJ0_coder_7d493 ∈ lwG := lwG_of 653 (by decide +kernel) (by decide +kernel)
theorem wd_654 : Cond.instanceMethod yJ0_coder_7d493 ∈ lwG := lwG_of 654 (by decide +kernel) (by decide +kernel)
theorem wd_655 : Cond.selects RJ0 yJ0_coder_7d493 yJ0_coder_7d493 ∈ lwG := lwG_of 655 (by decide +kernel) (by decide +kernel)
theorem wd_656 : Cond.code yJ0_coder_7d493 cJ0_coder_7d493 1 (some .byte) ∈ lwG := lwG_of 656 (by decide +kernel) (by decide +kernel)
theorem wd_657 : Cond.fieldLink RJ0 38 "java/lang/String" "COMPACT_STRINGS" "Z" ∈ lwG := lwG_of 657 (by decide +kernel) (by decide +kernel)
theorem wd_659 : Cond.methodLink RX2 52 yJ0_charAt_5068e ∈ lwG := lwG_of 659 (by decide +kernel) (by decide +kernel)
theorem wd_660 : Cond.instanceMethod yJ0_charAt_5068e ∈ lwG := lwG_of 660 (by decide +kernel) (by decide +kernel)
theorem wd_661 : Cond.selects RJ0 yJ0_charAt_5068e yJ0_charAt_5068e ∈ lwG := lwG_of 661 (by decide +kernel) (by decide +kernel)
theorem wd_662 : Cond.code yJ0_charAt_5068e cJ0_charAt_5068e 2 (some .char) ∈ lwG := lwG_of 662 (by decide +kernel) (by decide +kernel)
theorem wd_663 : Cond.methodLink RJ0 492 yJ0_isLatin1_aae02 ∈ lwG := lwG_of 663 (by decide +kernel) (by decide +kernel)
theorem wd_664 : Cond.instanceMethod yJ0_isLatin1_aae02 ∈ lwG := lwG_of 664 (by decide +kernel) (by decide +kernel)
theorem wd_665 : Cond.selects RJ0 yJ0_isLatin1_aae02 yJ0_isLatin1_aae02 ∈ lwG := lwG_of 665 (by decide +kernel) (by decide +kernel)
theorem wd_666 : Cond.code yJ0_isLatin1_aae02 cJ0_isLatin1_aae02 1 (some .boolean) ∈ lwG := lwG_of 666 (by decide +kernel) (by decide +kernel)
theorem wd_667 : Cond.methodLink RJ0 495 yJ1_charAt_3b067 ∈ lwG := lwG_of 667 (by decide +kernel) (by decide +kernel)
theorem wd_668 : Cond.static yJ1_charAt_3b067 ∈ lwG := lwG_of 668 (by decide +kernel) (by decide +kernel)
theorem wd_669 : Cond.code yJ1_charAt_3b067 cJ1_charAt_3b067 2 (some .char) ∈ lwG := lwG_of 669 (by decide +kernel) (by decide +kernel)
theorem wd_670 : Cond.methodLink RJ1 9 yJ0_checkIndex_df160 ∈ lwG := lwG_of 670 (by decide +kernel) (by decide +kernel)
theorem wd_671 : Cond.static yJ0_checkIndex_df160 ∈ lwG := lwG_of 671 (by decide +kernel) (by decide +kernel)
theorem wd_672 : Cond.code yJ0_checkIndex_df160 cJ0_checkIndex_df160 2 none ∈ lwG := lwG_of 672 (by decide +kernel) (by decide +kernel)
theorem wd_673 : Cond.fieldLink RJ0 1053 "jdk/internal/util/Preconditions" "SIOOBE_FORMATTER" "Ljava/util/function/BiFunction;" ∈ lwG := lwG_of 673 (by decide +kernel) (by decide +kernel)
theorem wd_675 : Cond.methodLink RJ0 1059 yJ3_checkIndex_8e157 ∈ lwG := lwG_of 675 (by decide +kernel) (by decide +kernel)
theorem wd_676 : Cond.static yJ3_checkIndex_8e157 ∈ lwG := lwG_of 676 (by decide +kernel) (by decide +kernel)
theorem wd_677 : Cond.code yJ3_checkIndex_8e157 cJ3_checkIndex_8e157 3 (some .int) ∈ lwG := lwG_of 677 (by decide +kernel) (by decide +kernel)
theorem wd_678 : Cond.methodLink RJ0 498 yJ2_charAt_3b067 ∈ lwG := lwG_of 678 (by decide +kernel) (by decide +kernel)
theorem wd_679 : Cond.static yJ2_charAt_3b067 ∈ lwG := lwG_of 679 (by decide +kernel) (by decide +kernel)
theorem wd_680 : Cond.code yJ2_charAt_3b067 cJ2_charAt_3b067 2 (some .char) ∈ lwG := lwG_of 680 (by decide +kernel) (by decide +kernel)
theorem wd_681 : Cond.methodLink RJ2 67 yJ2_checkIndex_2214a ∈ lwG := lwG_of 681 (by decide +kernel) (by decide +kernel)
theorem wd_682 : Cond.static yJ2_checkIndex_2214a ∈ lwG := lwG_of 682 (by decide +kernel) (by decide +kernel)
theorem wd_683 : Cond.code yJ2_checkIndex_2214a cJ2_checkIndex_2214a 2 none ∈ lwG := lwG_of 683 (by decide +kernel) (by decide +kernel)
theorem wd_684 : Cond.methodLink RJ2 48 yJ2_length_9d52b ∈ lwG := lwG_of 684 (by decide +kernel) (by decide +kernel)
theorem wd_685 : Cond.static yJ2_length_9d52b ∈ lwG := lwG_of 685 (by decide +kernel) (by decide +kernel)
theorem wd_686 : Cond.code yJ2_length_9d52b cJ2_length_9d52b 1 (some .int) ∈ lwG := lwG_of 686 (by decide +kernel) (by decide +kernel)
theorem wd_687 : Cond.methodLink RJ2 414 yJ0_checkIndex_df160 ∈ lwG := lwG_of 687 (by decide +kernel) (by decide +kernel)
theorem wd_688 : Cond.methodLink RJ2 71 yJ2_getChar_3b067 ∈ lwG := lwG_of 688 (by decide +kernel) (by decide +kernel)
theorem wd_689 : Cond.static yJ2_getChar_3b067 ∈ lwG := lwG_of 689 (by decide +kernel) (by decide +kernel)
theorem wd_690 : Cond.code yJ2_getChar_3b067 cJ2_getChar_3b067 2 (some .char) ∈ lwG := lwG_of 690 (by decide +kernel) (by decide +kernel)
theorem wd_691 : Cond.fieldLink RJ2 44 "java/lang/StringUTF16" "$assertionsDisabled" "Z" ∈ lwG := lwG_of 691 (by decide +kernel) (by decide +kernel)
theorem wd_693 : Cond.fieldLink RJ2 59 "java/lang/StringUTF16" "HI_BYTE_SHIFT" "I" ∈ lwG := lwG_of 693 (by decide +kernel) (by decide +kernel)
theorem wd_695 : Cond.fieldLink RJ2 63 "java/lang/StringUTF16" "LO_BYTE_SHIFT" "I" ∈ lwG := lwG_of 695 (by decide +kernel) (by decide +kernel)
theorem wd_697 : Cond.methodLink RX2 44 yX2_kindsOfNumbers ∈ lwG := lwG_of 697 (by decide +kernel) (by decide +kernel)
theorem wd_698 : Cond.static yX2_kindsOfNumbers ∈ lwG := lwG_of 698 (by decide +kernel) (by decide +kernel)
theorem wd_699 : Cond.code yX2_kindsOfNumbers cX2_kindsOfNumbers 1 (some (.object "java/lang/String")) ∈ lwG := lwG_of 699 (by decide +kernel) (by decide +kernel)
theorem wd_705 : Cond.methodLink RX2 56 yX2_readNumber ∈ lwG := lwG_of 705 (by decide +kernel) (by decide +kernel)
theorem wd_706 : Cond.instanceMethod yX2_readNumber ∈ lwG := lwG_of 706 (by decide +kernel) (by decide +kernel)
theorem wd_707 : Cond.selects RX2 yX2_readNumber yX2_readNumber ∈ lwG := lwG_of 707 (by decide +kernel) (by decide +kernel)
theorem wd_708 : Cond.code yX2_readNumber cX2_readNumber 5 (some .boolean) ∈ lwG := lwG_of 708 (by decide +kernel) (by decide +kernel)
theorem wd_709 : Cond.methodLink RX2 60 yX2_numberUpTo ∈ lwG := lwG_of 709 (by decide +kernel) (by decide +kernel)
theorem wd_710 : Cond.instanceMethod yX2_numberUpTo ∈ lwG := lwG_of 710 (by decide +kernel) (by decide +kernel)
theorem wd_711 : Cond.selects RX2 yX2_numberUpTo yX2_numberUpTo ∈ lwG := lwG_of 711 (by decide +kernel) (by decide +kernel)
theorem wd_712 : Cond.code yX2_numberUpTo cX2_numberUpTo 4 (some .int) ∈ lwG := lwG_of 712 (by decide +kernel) (by decide +kernel)
theorem wd_714 : Cond.methodLink RX2 63 yX2_lowestNumber ∈ lwG := lwG_of 714 (by decide +kernel) (by decide +kernel)
theorem wd_715 : Cond.static yX2_lowestNumber ∈ lwG := lwG_of 715 (by decide +kernel) (by decide +kernel)
theorem wd_716 : Cond.code yX2_lowestNumber cX2_lowestNumber 1 (some .int) ∈ lwG := lwG_of 716 (by decide +kernel) (by decide +kernel)
theorem wd_717 : Cond.methodLink RX2 67 yX2_highestNumber ∈ lwG := lwG_of 717 (by decide +kernel) (by decide +kernel)
theorem wd_718 : Cond.static yX2_highestNumber ∈ lwG := lwG_of 718 (by decide +kernel) (by decide +kernel)
theorem wd_719 : Cond.code yX2_highestNumber cX2_highestNumber 1 (some .int) ∈ lwG := lwG_of 719 (by decide +kernel) (by decide +kernel)
theorem wd_720 : Cond.methodLink RX7 206 yX7_carryOut ∈ lwG := lwG_of 720 (by decide +kernel) (by decide +kernel)
theorem wd_722 : Cond.instanceMethod yX7_carryOut ∈ lwG := lwG_of 722 (by decide +kernel) (by decide +kernel)
theorem wd_723 : Cond.code yX7_carryOut cX7_carryOut 5 (some .int) ∈ lwG := lwG_of 723 (by decide +kernel) (by decide +kernel)
theorem wd_724 : Cond.methodLink RX7 209 yX2_numberOf ∈ lwG := lwG_of 724 (by decide +kernel) (by decide +kernel)
theorem wd_725 : Cond.instanceMethod yX2_numberOf ∈ lwG := lwG_of 725 (by decide +kernel) (by decide +kernel)
theorem wd_726 : Cond.selects RX2 yX2_numberOf yX2_numberOf ∈ lwG := lwG_of 726 (by decide +kernel) (by decide +kernel)
theorem wd_727 : Cond.code yX2_numberOf cX2_numberOf 3 (some .int) ∈ lwG := lwG_of 727 (by decide +kernel) (by decide +kernel)
theorem wd_728 : Cond.methodLink RX7 216 yX7_pass ∈ lwG := lwG_of 728 (by decide +kernel) (by decide +kernel)
theorem wd_729 : Cond.methodLink RX7 219 yX7_push ∈ lwG := lwG_of 729 (by decide +kernel) (by decide +kernel)
theorem wd_730 : Cond.methodLink RX7 223 yX7_observe ∈ lwG := lwG_of 730 (by decide +kernel) (by decide +kernel)
theorem wd_731 : Cond.methodLink RX7 226 yX7_swap ∈ lwG := lwG_of 731 (by decide +kernel) (by decide +kernel)
theorem wd_732 : Cond.methodLink RX7 229 yX7_orient ∈ lwG := lwG_of 732 (by decide +kernel) (by decide +kernel)
theorem wd_734 : Cond.methodLink RL 84 yX7_undo ∈ lwG := lwG_of 734 (by decide +kernel) (by decide +kernel)
theorem wd_735 : Cond.instanceMethod yX7_undo ∈ lwG := lwG_of 735 (by decide +kernel) (by decide +kernel)
theorem wd_736 : Cond.selects RX7 yX7_undo yX7_undo ∈ lwG := lwG_of 736 (by decide +kernel) (by decide +kernel)
theorem wd_737 : Cond.code yX7_undo cX7_undo 1 (some .int) ∈ lwG := lwG_of 737 (by decide +kernel) (by decide +kernel)
theorem wd_738 : Cond.methodLink RL 88 yX7_keep ∈ lwG := lwG_of 738 (by decide +kernel) (by decide +kernel)
theorem wd_739 : Cond.instanceMethod yX7_keep ∈ lwG := lwG_of 739 (by decide +kernel) (by decide +kernel)
theorem wd_740 : Cond.selects RX7 yX7_keep yX7_keep ∈ lwG := lwG_of 740 (by decide +kernel) (by decide +kernel)
theorem wd_741 : Cond.code yX7_keep cX7_keep 2 (some .int) ∈ lwG := lwG_of 741 (by decide +kernel) (by decide +kernel)
theorem wd_742 : Cond.methodLink RX7 239 yX7_isSlot ∈ lwG := lwG_of 742 (by decide +kernel) (by decide +kernel)
theorem wd_743 : Cond.static yX7_isSlot ∈ lwG := lwG_of 743 (by decide +kernel) (by decide +kernel)
theorem wd_744 : Cond.code yX7_isSlot cX7_isSlot 1 (some .boolean) ∈ lwG := lwG_of 744 (by decide +kernel) (by decide +kernel)
theorem wd_745 : Cond.methodLink RL 92 yX7_restore ∈ lwG := lwG_of 745 (by decide +kernel) (by decide +kernel)
theorem wd_746 : Cond.instanceMethod yX7_restore ∈ lwG := lwG_of 746 (by decide +kernel) (by decide +kernel)
theorem wd_747 : Cond.selects RX7 yX7_restore yX7_restore ∈ lwG := lwG_of 747 (by decide +kernel) (by decide +kernel)
theorem wd_748 : Cond.code yX7_restore cX7_restore 2 (some .int) ∈ lwG := lwG_of 748 (by decide +kernel) (by decide +kernel)
theorem wd_749 : Cond.methodLink RL 96 yX7_wire ∈ lwG := lwG_of 749 (by decide +kernel) (by decide +kernel)
theorem wd_750 : Cond.instanceMethod yX7_wire ∈ lwG := lwG_of 750 (by decide +kernel) (by decide +kernel)
theorem wd_751 : Cond.selects RX7 yX7_wire yX7_wire ∈ lwG := lwG_of 751 (by decide +kernel) (by decide +kernel)
theorem wd_752 : Cond.code yX7_wire cX7_wire 3 (some .int) ∈ lwG := lwG_of 752 (by decide +kernel) (by decide +kernel)
theorem wd_753 : Cond.methodLink RX7 245 yX6_property ∈ lwG := lwG_of 753 (by decide +kernel) (by decide +kernel)
theorem wd_754 : Cond.instanceMethod yX6_property ∈ lwG := lwG_of 754 (by decide +kernel) (by decide +kernel)
theorem wd_755 : Cond.selects RX6 yX6_property yX6_property ∈ lwG := lwG_of 755 (by decide +kernel) (by decide +kernel)
theorem wd_756 : Cond.code yX6_property cX6_property 2 (some .int) ∈ lwG := lwG_of 756 (by decide +kernel) (by decide +kernel)
theorem wd_757 : Cond.methodLink RL 100 yX7_rest ∈ lwG := lwG_of 757 (by decide +kernel) (by decide +kernel)
theorem wd_758 : Cond.instanceMethod yX7_rest ∈ lwG := lwG_of 758 (by decide +kernel) (by decide +kernel)
theorem wd_759 : Cond.selects RX7 yX7_rest yX7_rest ∈ lwG := lwG_of 759 (by decide +kernel) (by decide +kernel)
theorem wd_760 : Cond.code yX7_rest cX7_rest 5 (some .int) ∈ lwG := lwG_of 760 (by decide +kernel) (by decide +kernel)
theorem wd_761 : Cond.methodLink RX7 248 yX7_errorOfReading ∈ lwG := lwG_of 761 (by decide +kernel) (by decide +kernel)
theorem wd_763 : Cond.instanceMethod yX7_errorOfReading ∈ lwG := lwG_of 763 (by decide +kernel) (by decide +kernel)
theorem wd_764 : Cond.code yX7_errorOfReading cX7_errorOfReading 4 (some .int) ∈ lwG := lwG_of 764 (by decide +kernel) (by decide +kernel)
theorem wd_765 : Cond.methodLink RX7 251 yX4_restAt ∈ lwG := lwG_of 765 (by decide +kernel) (by decide +kernel)
theorem wd_766 : Cond.methodLink RL 104 yX7_position ∈ lwG := lwG_of 766 (by decide +kernel) (by decide +kernel)
theorem wd_767 : Cond.instanceMethod yX7_position ∈ lwG := lwG_of 767 (by decide +kernel) (by decide +kernel)
theorem wd_768 : Cond.selects RX7 yX7_position yX7_position ∈ lwG := lwG_of 768 (by decide +kernel) (by decide +kernel)
theorem wd_769 : Cond.code yX7_position cX7_position 6 (some .int) ∈ lwG := lwG_of 769 (by decide +kernel) (by decide +kernel)
theorem wd_770 : Cond.methodLink RX7 255 yX6_swayAt ∈ lwG := lwG_of 770 (by decide +kernel) (by decide +kernel)
theorem wd_771 : Cond.methodLink RL 108 yX7_calmIn ∈ lwG := lwG_of 771 (by decide +kernel) (by decide +kernel)
theorem wd_772 : Cond.instanceMethod yX7_calmIn ∈ lwG := lwG_of 772 (by decide +kernel) (by decide +kernel)
theorem wd_773 : Cond.selects RX7 yX7_calmIn yX7_calmIn ∈ lwG := lwG_of 773 (by decide +kernel) (by decide +kernel)
theorem wd_774 : Cond.code yX7_calmIn cX7_calmIn 3 (some .int) ∈ lwG := lwG_of 774 (by decide +kernel) (by decide +kernel)
theorem wd_775 : Cond.methodLink RX7 258 yX6_ticksUntilCalm ∈ lwG := lwG_of 775 (by decide +kernel) (by decide +kernel)
theorem wd_776 : Cond.instanceMethod yX6_ticksUntilCalm ∈ lwG := lwG_of 776 (by decide +kernel) (by decide +kernel)
theorem wd_777 : Cond.selects RX6 yX6_ticksUntilCalm yX6_ticksUntilCalm ∈ lwG := lwG_of 777 (by decide +kernel) (by decide +kernel)
theorem wd_778 : Cond.code yX6_ticksUntilCalm cX6_ticksUntilCalm 5 (some .int) ∈ lwG := lwG_of 778 (by decide +kernel) (by decide +kernel)
theorem wd_779 : Cond.methodLink RL 112 yX7_station ∈ lwG := lwG_of 779 (by decide +kernel) (by decide +kernel)
theorem wd_780 : Cond.instanceMethod yX7_station ∈ lwG := lwG_of 780 (by decide +kernel) (by decide +kernel)
theorem wd_781 : Cond.selects RX7 yX7_station yX7_station ∈ lwG := lwG_of 781 (by decide +kernel) (by decide +kernel)
theorem wd_782 : Cond.code yX7_station cX7_station 4 (some .int) ∈ lwG := lwG_of 782 (by decide +kernel) (by decide +kernel)
theorem wd_783 : Cond.methodLink RX7 264 yX5_validObservations ∈ lwG := lwG_of 783 (by decide +kernel) (by decide +kernel)
theorem wd_784 : Cond.instanceMethod yX5_validObservations ∈ lwG := lwG_of 784 (by decide +kernel) (by decide +kernel)
theorem wd_785 : Cond.selects RX5 yX5_validObservations yX5_validObservations ∈ lwG := lwG_of 785 (by decide +kernel) (by decide +kernel)
theorem wd_786 : Cond.code yX5_validObservations cX5_validObservations 3 (some .int) ∈ lwG := lwG_of 786 (by decide +kernel) (by decide +kernel)
theorem wd_787 : Cond.methodLink RL 116 yX7_observation ∈ lwG := lwG_of 787 (by decide +kernel) (by decide +kernel)
theorem wd_788 : Cond.instanceMethod yX7_observation ∈ lwG := lwG_of 788 (by decide +kernel) (by decide +kernel)
theorem wd_789 : Cond.selects RX7 yX7_observation yX7_observation ∈ lwG := lwG_of 789 (by decide +kernel) (by decide +kernel)
theorem wd_790 : Cond.code yX7_observation cX7_observation 5 (some .int) ∈ lwG := lwG_of 790 (by decide +kernel) (by decide +kernel)
theorem wd_791 : Cond.methodLink RX7 270 yX1_property ∈ lwG := lwG_of 791 (by decide +kernel) (by decide +kernel)
theorem wd_792 : Cond.instanceMethod yX1_property ∈ lwG := lwG_of 792 (by decide +kernel) (by decide +kernel)
theorem wd_793 : Cond.selects RX1 yX1_property yX1_property ∈ lwG := lwG_of 793 (by decide +kernel) (by decide +kernel)
theorem wd_794 : Cond.code yX1_property cX1_property 2 (some .int) ∈ lwG := lwG_of 794 (by decide +kernel) (by decide +kernel)
theorem wd_795 : Cond.methodLink RL 120 yX7_bearing ∈ lwG := lwG_of 795 (by decide +kernel) (by decide +kernel)
theorem wd_796 : Cond.instanceMethod yX7_bearing ∈ lwG := lwG_of 796 (by decide +kernel) (by decide +kernel)
theorem wd_797 : Cond.selects RX7 yX7_bearing yX7_bearing ∈ lwG := lwG_of 797 (by decide +kernel) (by decide +kernel)
theorem wd_798 : Cond.code yX7_bearing cX7_bearing 3 (some .int) ∈ lwG := lwG_of 798 (by decide +kernel) (by decide +kernel)
theorem wd_799 : Cond.methodLink RL 124 yX7_surface ∈ lwG := lwG_of 799 (by decide +kernel) (by decide +kernel)
theorem wd_800 : Cond.instanceMethod yX7_surface ∈ lwG := lwG_of 800 (by decide +kernel) (by decide +kernel)
theorem wd_801 : Cond.selects RX7 yX7_surface yX7_surface ∈ lwG := lwG_of 801 (by decide +kernel) (by decide +kernel)
theorem wd_802 : Cond.code yX7_surface cX7_surface 2 (some .int) ∈ lwG := lwG_of 802 (by decide +kernel) (by decide +kernel)
theorem wd_803 : Cond.methodLink RX7 275 yX7_isPair ∈ lwG := lwG_of 803 (by decide +kernel) (by decide +kernel)
theorem wd_804 : Cond.static yX7_isPair ∈ lwG := lwG_of 804 (by decide +kernel) (by decide +kernel)
theorem wd_805 : Cond.code yX7_isPair cX7_isPair 1 (some .boolean) ∈ lwG := lwG_of 805 (by decide +kernel) (by decide +kernel)
theorem wd_806 : Cond.methodLink RL 128 yX7_given ∈ lwG := lwG_of 806 (by decide +kernel) (by decide +kernel)
theorem wd_807 : Cond.instanceMethod yX7_given ∈ lwG := lwG_of 807 (by decide +kernel) (by decide +kernel)
theorem wd_808 : Cond.selects RX7 yX7_given yX7_given ∈ lwG := lwG_of 808 (by decide +kernel) (by decide +kernel)
theorem wd_809 : Cond.code yX7_given cX7_given 3 (some .int) ∈ lwG := lwG_of 809 (by decide +kernel) (by decide +kernel)
theorem wd_810 : Cond.methodLink RL 132 yX7_count ∈ lwG := lwG_of 810 (by decide +kernel) (by decide +kernel)
theorem wd_811 : Cond.instanceMethod yX7_count ∈ lwG := lwG_of 811 (by decide +kernel) (by decide +kernel)
theorem wd_812 : Cond.selects RX7 yX7_count yX7_count ∈ lwG := lwG_of 812 (by decide +kernel) (by decide +kernel)
theorem wd_813 : Cond.code yX7_count cX7_count 2 (some .int) ∈ lwG := lwG_of 813 (by decide +kernel) (by decide +kernel)
theorem wd_814 : Cond.methodLink RX7 287 yX4_orientedStations ∈ lwG := lwG_of 814 (by decide +kernel) (by decide +kernel)
theorem wd_815 : Cond.instanceMethod yX4_orientedStations ∈ lwG := lwG_of 815 (by decide +kernel) (by decide +kernel)
theorem wd_816 : Cond.selects RX4 yX4_orientedStations yX4_orientedStations ∈ lwG := lwG_of 816 (by decide +kernel) (by decide +kernel)
theorem wd_817 : Cond.code yX4_orientedStations cX4_orientedStations 3 (some .int) ∈ lwG := lwG_of 817 (by decide +kernel) (by decide +kernel)
theorem wd_818 : Cond.methodLink RX7 290 yX4_validObservations ∈ lwG := lwG_of 818 (by decide +kernel) (by decide +kernel)
theorem wd_819 : Cond.instanceMethod yX4_validObservations ∈ lwG := lwG_of 819 (by decide +kernel) (by decide +kernel)
theorem wd_820 : Cond.selects RX4 yX4_validObservations yX4_validObservations ∈ lwG := lwG_of 820 (by decide +kernel) (by decide +kernel)
theorem wd_821 : Cond.code yX4_validObservations cX4_validObservations 3 (some .int) ∈ lwG := lwG_of 821 (by decide +kernel) (by decide +kernel)
theorem wd_822 : Cond.methodLink RX4 65 yX5_validObservations ∈ lwG := lwG_of 822 (by decide +kernel) (by decide +kernel)
theorem wd_823 : Cond.classLink RL 10 RX8 ∈ lwG := lwG_of 823 (by decide +kernel) (by decide +kernel)
theorem wd_824 : Cond.instantiable RX8 13 ∈ lwG := lwG_of 824 (by decide +kernel) (by decide +kernel)
theorem wd_825 : Cond.methodLink RL 12 yX8_init ∈ lwG := lwG_of 825 (by decide +kernel) (by decide +kernel)
theorem wd_826 : Cond.instanceMethod yX8_init ∈ lwG := lwG_of 826 (by decide +kernel) (by decide +kernel)
theorem wd_827 : Cond.code yX8_init cX8_init 1 none ∈ lwG := lwG_of 827 (by decide +kernel) (by decide +kernel)
theorem wd_828 : Cond.methodLink RX8 1 objectInit ∈ lwG := lwG_of 828 (by decide +kernel) (by decide +kernel)
theorem wd_829 : Cond.fieldLink RX8 7 "PlumbShaftModel" "row" "[I" ∈ lwG := lwG_of 829 (by decide +kernel) (by decide +kernel)
theorem wd_830 : Cond.fieldLink RX8 13 "PlumbShaftModel" "scratch" "[I" ∈ lwG := lwG_of 830 (by decide +kernel) (by decide +kernel)
theorem wd_831 : Cond.fieldLink RX8 16 "PlumbShaftModel" "history" "[I" ∈ lwG := lwG_of 831 (by decide +kernel) (by decide +kernel)
theorem wd_832 : Cond.fieldLink RX8 41 "PlumbShaftModel" "kept" "I" ∈ lwG := lwG_of 832 (by decide +kernel) (by decide +kernel)
theorem wd_833 : Cond.fieldLink RX8 19 "PlumbShaftModel" "slots" "[I" ∈ lwG := lwG_of 833 (by decide +kernel) (by decide +kernel)
theorem wd_834 : Cond.fieldLink RX8 22 "PlumbShaftModel" "isKept" "[Z" ∈ lwG := lwG_of 834 (by decide +kernel) (by decide +kernel)
theorem wd_835 : Cond.fieldLink RX8 35 "PlumbShaftModel" "reason" "I" ∈ lwG := lwG_of 835 (by decide +kernel) (by decide +kernel)
theorem wd_836 : Cond.fieldLink RX8 171 "PlumbShaftModel" "typed" "I" ∈ lwG := lwG_of 836 (by decide +kernel) (by decide +kernel)
theorem wd_837 : Cond.fieldLink RX8 26 "PlumbShaftModel" "text" "[C" ∈ lwG := lwG_of 837 (by decide +kernel) (by decide +kernel)
theorem wd_838 : Cond.fieldLink RX8 181 "PlumbShaftModel" "place" "I" ∈ lwG := lwG_of 838 (by decide +kernel) (by decide +kernel)
theorem wd_839 : Cond.fieldLink RX8 178 "PlumbShaftModel" "fault" "I" ∈ lwG := lwG_of 839 (by decide +kernel) (by decide +kernel)
theorem wd_840 : Cond.fieldLink RX8 194 "PlumbShaftModel" "orders" "I" ∈ lwG := lwG_of 840 (by decide +kernel) (by decide +kernel)
theorem wd_841 : Cond.fieldLink RX8 30 "PlumbShaftModel" "orderOf" "[I" ∈ lwG := lwG_of 841 (by decide +kernel) (by decide +kernel)
theorem wd_869 : Cond.methodLink RL 87 yX8_undo ∈ lwG := lwG_of 869 (by decide +kernel) (by decide +kernel)
theorem wd_870 : Cond.instanceMethod yX8_undo ∈ lwG := lwG_of 870 (by decide +kernel) (by decide +kernel)
theorem wd_871 : Cond.selects RX8 yX8_undo yX8_undo ∈ lwG := lwG_of 871 (by decide +kernel) (by decide +kernel)
theorem wd_872 : Cond.code yX8_undo cX8_undo 2 (some .int) ∈ lwG := lwG_of 872 (by decide +kernel) (by decide +kernel)
theorem wd_873 : Cond.constant RX8 44 (-100005) ∈ lwG := lwG_of 873 (by decide +kernel) (by decide +kernel)
theorem wd_874 : Cond.methodLink RL 91 yX8_keep ∈ lwG := lwG_of 874 (by decide +kernel) (by decide +kernel)
theorem wd_875 : Cond.instanceMethod yX8_keep ∈ lwG := lwG_of 875 (by decide +kernel) (by decide +kernel)
theorem wd_876 : Cond.selects RX8 yX8_keep yX8_keep ∈ lwG := lwG_of 876 (by decide +kernel) (by decide +kernel)
theorem wd_877 : Cond.code yX8_keep cX8_keep 3 (some .int) ∈ lwG := lwG_of 877 (by decide +kernel) (by decide +kernel)
theorem wd_878 : Cond.methodLink RX8 45 yX8_in ∈ lwG := lwG_of 878 (by decide +kernel) (by decide +kernel)
theorem wd_879 : Cond.static yX8_in ∈ lwG := lwG_of 879 (by decide +kernel) (by decide +kernel)
theorem wd_880 : Cond.code yX8_in cX8_in 3 (some .boolean) ∈ lwG := lwG_of 880 (by decide +kernel) (by decide +kernel)
theorem wd_881 : Cond.constant RX8 40 (-100001) ∈ lwG := lwG_of 881 (by decide +kernel) (by decide +kernel)
theorem wd_882 : Cond.methodLink RL 95 yX8_restore ∈ lwG := lwG_of 882 (by decide +kernel) (by decide +kernel)
theorem wd_883 : Cond.instanceMethod yX8_restore ∈ lwG := lwG_of 883 (by decide +kernel) (by decide +kernel)
theorem wd_884 : Cond.selects RX8 yX8_restore yX8_restore ∈ lwG := lwG_of 884 (by decide +kernel) (by decide +kernel)
theorem wd_885 : Cond.code yX8_restore cX8_restore 3 (some .int) ∈ lwG := lwG_of 885 (by decide +kernel) (by decide +kernel)
theorem wd_886 : Cond.methodLink RX8 49 yX8_begin ∈ lwG := lwG_of 886 (by decide +kernel) (by decide +kernel)
theorem wd_888 : Cond.instanceMethod yX8_begin ∈ lwG := lwG_of 888 (by decide +kernel) (by decide +kernel)
theorem wd_889 : Cond.code yX8_begin cX8_begin 2 none ∈ lwG := lwG_of 889 (by decide +kernel) (by decide +kernel)
theorem wd_890 : Cond.methodLink RX8 52 yX8_done ∈ lwG := lwG_of 890 (by decide +kernel) (by decide +kernel)
theorem wd_892 : Cond.instanceMethod yX8_done ∈ lwG := lwG_of 892 (by decide +kernel) (by decide +kernel)
theorem wd_893 : Cond.code yX8_done cX8_done 3 (some .int) ∈ lwG := lwG_of 893 (by decide +kernel) (by decide +kernel)
theorem wd_894 : Cond.methodLink RL 17 yX8_hang ∈ lwG := lwG_of 894 (by decide +kernel) (by decide +kernel)
theorem wd_895 : Cond.instanceMethod yX8_hang ∈ lwG := lwG_of 895 (by decide +kernel) (by decide +kernel)
theorem wd_896 : Cond.selects RX8 yX8_hang yX8_hang ∈ lwG := lwG_of 896 (by decide +kernel) (by decide +kernel)
theorem wd_897 : Cond.code yX8_hang cX8_hang 7 (some .int) ∈ lwG := lwG_of 897 (by decide +kernel) (by decide +kernel)
theorem wd_898 : Cond.methodLink RX8 66 yX8_noWire ∈ lwG := lwG_of 898 (by decide +kernel) (by decide +kernel)
theorem wd_899 : Cond.static yX8_noWire ∈ lwG := lwG_of 899 (by decide +kernel) (by decide +kernel)
theorem wd_900 : Cond.code yX8_noWire cX8_noWire 1 (some .boolean) ∈ lwG := lwG_of 900 (by decide +kernel) (by decide +kernel)
theorem wd_901 : Cond.constant RX8 70 (-100002) ∈ lwG := lwG_of 901 (by decide +kernel) (by decide +kernel)
theorem wd_902 : Cond.methodLink RX8 71 yX8_put ∈ lwG := lwG_of 902 (by decide +kernel) (by decide +kernel)
theorem wd_904 : Cond.instanceMethod yX8_put ∈ lwG := lwG_of 904 (by decide +kernel) (by decide +kernel)
theorem wd_905 : Cond.code yX8_put cX8_put 4 none ∈ lwG := lwG_of 905 (by decide +kernel) (by decide +kernel)
theorem wd_906 : Cond.methodLink RX8 63 yX8_voidOf ∈ lwG := lwG_of 906 (by decide +kernel) (by decide +kernel)
theorem wd_908 : Cond.instanceMethod yX8_voidOf ∈ lwG := lwG_of 908 (by decide +kernel) (by decide +kernel)
theorem wd_909 : Cond.code yX8_voidOf cX8_voidOf 4 (some .int) ∈ lwG := lwG_of 909 (by decide +kernel) (by decide +kernel)
theorem wd_910 : Cond.methodLink RX8 60 yX8_seenAt ∈ lwG := lwG_of 910 (by decide +kernel) (by decide +kernel)
theorem wd_911 : Cond.static yX8_seenAt ∈ lwG := lwG_of 911 (by decide +kernel) (by decide +kernel)
theorem wd_912 : Cond.code yX8_seenAt cX8_seenAt 2 (some .int) ∈ lwG := lwG_of 912 (by decide +kernel) (by decide +kernel)
theorem wd_913 : Cond.methodLink RX8 75 yX8_hungOnes ∈ lwG := lwG_of 913 (by decide +kernel) (by decide +kernel)
theorem wd_915 : Cond.instanceMethod yX8_hungOnes ∈ lwG := lwG_of 915 (by decide +kernel) (by decide +kernel)
theorem wd_916 : Cond.code yX8_hungOnes cX8_hungOnes 3 (some .int) ∈ lwG := lwG_of 916 (by decide +kernel) (by decide +kernel)
theorem wd_917 : Cond.methodLink RX8 56 yX8_of ∈ lwG := lwG_of 917 (by decide +kernel) (by decide +kernel)
theorem wd_919 : Cond.instanceMethod yX8_of ∈ lwG := lwG_of 919 (by decide +kernel) (by decide +kernel)
theorem wd_920 : Cond.code yX8_of cX8_of 3 (some .int) ∈ lwG := lwG_of 920 (by decide +kernel) (by decide +kernel)
theorem wd_921 : Cond.methodLink RL 22 yX8_lift ∈ lwG := lwG_of 921 (by decide +kernel) (by decide +kernel)
theorem wd_922 : Cond.instanceMethod yX8_lift ∈ lwG := lwG_of 922 (by decide +kernel) (by decide +kernel)
theorem wd_923 : Cond.selects RX8 yX8_lift yX8_lift ∈ lwG := lwG_of 923 (by decide +kernel) (by decide +kernel)
theorem wd_924 : Cond.code yX8_lift cX8_lift 3 (some .int) ∈ lwG := lwG_of 924 (by decide +kernel) (by decide +kernel)
theorem wd_925 : Cond.methodLink RX8 79 yX8_isHung ∈ lwG := lwG_of 925 (by decide +kernel) (by decide +kernel)
theorem wd_927 : Cond.instanceMethod yX8_isHung ∈ lwG := lwG_of 927 (by decide +kernel) (by decide +kernel)
theorem wd_928 : Cond.code yX8_isHung cX8_isHung 2 (some .boolean) ∈ lwG := lwG_of 928 (by decide +kernel) (by decide +kernel)
theorem wd_929 : Cond.methodLink RX8 82 yX8_refuse ∈ lwG := lwG_of 929 (by decide +kernel) (by decide +kernel)
theorem wd_931 : Cond.instanceMethod yX8_refuse ∈ lwG := lwG_of 931 (by decide +kernel) (by decide +kernel)
theorem wd_932 : Cond.code yX8_refuse cX8_refuse 2 (some .int) ∈ lwG := lwG_of 932 (by decide +kernel) (by decide +kernel)
theorem wd_933 : Cond.constant RX8 39 (-100003) ∈ lwG := lwG_of 933 (by decide +kernel) (by decide +kernel)
theorem wd_934 : Cond.methodLink RL 27 yX8_setClamp ∈ lwG := lwG_of 934 (by decide +kernel) (by decide +kernel)
theorem wd_935 : Cond.instanceMethod yX8_setClamp ∈ lwG := lwG_of 935 (by decide +kernel) (by decide +kernel)
theorem wd_936 : Cond.selects RX8 yX8_setClamp yX8_setClamp ∈ lwG := lwG_of 936 (by decide +kernel) (by decide +kernel)
theorem wd_937 : Cond.code yX8_setClamp cX8_setClamp 5 (some .int) ∈ lwG := lwG_of 937 (by decide +kernel) (by decide +kernel)
theorem wd_938 : Cond.methodLink RX8 85 yX8_size ∈ lwG := lwG_of 938 (by decide +kernel) (by decide +kernel)
theorem wd_939 : Cond.static yX8_size ∈ lwG := lwG_of 939 (by decide +kernel) (by decide +kernel)
theorem wd_940 : Cond.code yX8_size cX8_size 1 (some .int) ∈ lwG := lwG_of 940 (by decide +kernel) (by decide +kernel)
theorem wd_941 : Cond.methodLink RL 32 yX8_setBucket ∈ lwG := lwG_of 941 (by decide +kernel) (by decide +kernel)
theorem wd_942 : Cond.instanceMethod yX8_setBucket ∈ lwG := lwG_of 942 (by decide +kernel) (by decide +kernel)
theorem wd_943 : Cond.selects RX8 yX8_setBucket yX8_setBucket ∈ lwG := lwG_of 943 (by decide +kernel) (by decide +kernel)
theorem wd_944 : Cond.code yX8_setBucket cX8_setBucket 5 (some .int) ∈ lwG := lwG_of 944 (by decide +kernel) (by decide +kernel)
theorem wd_945 : Cond.methodLink RL 36 yX8_push ∈ lwG := lwG_of 945 (by decide +kernel) (by decide +kernel)
theorem wd_946 : Cond.instanceMethod yX8_push ∈ lwG := lwG_of 946 (by decide +kernel) (by decide +kernel)
theorem wd_947 : Cond.selects RX8 yX8_push yX8_push ∈ lwG := lwG_of 947 (by decide +kernel) (by decide +kernel)
theorem wd_948 : Cond.code yX8_push cX8_push 4 (some .int) ∈ lwG := lwG_of 948 (by decide +kernel) (by decide +kernel)
theorem wd_949 : Cond.methodLink RX8 91 yX8_doPush ∈ lwG := lwG_of 949 (by decide +kernel) (by decide +kernel)
theorem wd_951 : Cond.instanceMethod yX8_doPush ∈ lwG := lwG_of 951 (by decide +kernel) (by decide +kernel)
theorem wd_952 : Cond.code yX8_doPush cX8_doPush 5 (some .int) ∈ lwG := lwG_of 952 (by decide +kernel) (by decide +kernel)
theorem wd_953 : Cond.methodLink RX8 88 yX8_quarter ∈ lwG := lwG_of 953 (by decide +kernel) (by decide +kernel)
theorem wd_955 : Cond.instanceMethod yX8_quarter ∈ lwG := lwG_of 955 (by decide +kernel) (by decide +kernel)
theorem wd_956 : Cond.code yX8_quarter cX8_quarter 2 (some .int) ∈ lwG := lwG_of 956 (by decide +kernel) (by decide +kernel)
theorem wd_957 : Cond.methodLink RL 40 yX8_swap ∈ lwG := lwG_of 957 (by decide +kernel) (by decide +kernel)
theorem wd_958 : Cond.instanceMethod yX8_swap ∈ lwG := lwG_of 958 (by decide +kernel) (by decide +kernel)
theorem wd_959 : Cond.selects RX8 yX8_swap yX8_swap ∈ lwG := lwG_of 959 (by decide +kernel) (by decide +kernel)
theorem wd_960 : Cond.code yX8_swap cX8_swap 3 (some .int) ∈ lwG := lwG_of 960 (by decide +kernel) (by decide +kernel)
theorem wd_961 : Cond.methodLink RX8 95 yX8_doSwap ∈ lwG := lwG_of 961 (by decide +kernel) (by decide +kernel)
theorem wd_963 : Cond.instanceMethod yX8_doSwap ∈ lwG := lwG_of 963 (by decide +kernel) (by decide +kernel)
theorem wd_964 : Cond.code yX8_doSwap cX8_doSwap 5 (some .int) ∈ lwG := lwG_of 964 (by decide +kernel) (by decide +kernel)
theorem wd_965 : Cond.methodLink RL 45 yX8_addCurrent ∈ lwG := lwG_of 965 (by decide +kernel) (by decide +kernel)
theorem wd_966 : Cond.instanceMethod yX8_addCurrent ∈ lwG := lwG_of 966 (by decide +kernel) (by decide +kernel)
theorem wd_967 : Cond.selects RX8 yX8_addCurrent yX8_addCurrent ∈ lwG := lwG_of 967 (by decide +kernel) (by decide +kernel)
theorem wd_968 : Cond.code yX8_addCurrent cX8_addCurrent 6 (some .int) ∈ lwG := lwG_of 968 (by decide +kernel) (by decide +kernel)
theorem wd_969 : Cond.constant RX8 98 (-100004) ∈ lwG := lwG_of 969 (by decide +kernel) (by decide +kernel)
theorem wd_970 : Cond.methodLink RX8 99 yX8_voidAll ∈ lwG := lwG_of 970 (by decide +kernel) (by decide +kernel)
theorem wd_972 : Cond.instanceMethod yX8_voidAll ∈ lwG := lwG_of 972 (by decide +kernel) (by decide +kernel)
theorem wd_973 : Cond.code yX8_voidAll cX8_voidAll 3 none ∈ lwG := lwG_of 973 (by decide +kernel) (by decide +kernel)
theorem wd_974 : Cond.methodLink RL 50 yX8_clearCurrents ∈ lwG := lwG_of 974 (by decide +kernel) (by decide +kernel)
theorem wd_975 : Cond.instanceMethod yX8_clearCurrents ∈ lwG := lwG_of 975 (by decide +kernel) (by decide +kernel)
theorem wd_976 : Cond.selects RX8 yX8_clearCurrents yX8_clearCurrents ∈ lwG := lwG_of 976 (by decide +kernel) (by decide +kernel)
theorem wd_977 : Cond.code yX8_clearCurrents cX8_clearCurrents 2 (some .int) ∈ lwG := lwG_of 977 (by decide +kernel) (by decide +kernel)
theorem wd_978 : Cond.methodLink RL 62 yX8_pass ∈ lwG := lwG_of 978 (by decide +kernel) (by decide +kernel)
theorem wd_979 : Cond.instanceMethod yX8_pass ∈ lwG := lwG_of 979 (by decide +kernel) (by decide +kernel)
theorem wd_980 : Cond.selects RX8 yX8_pass yX8_pass ∈ lwG := lwG_of 980 (by decide +kernel) (by decide +kernel)
theorem wd_981 : Cond.code yX8_pass cX8_pass 2 (some .int) ∈ lwG := lwG_of 981 (by decide +kernel) (by decide +kernel)
theorem wd_982 : Cond.methodLink RX8 126 yX8_doPass ∈ lwG := lwG_of 982 (by decide +kernel) (by decide +kernel)
theorem wd_984 : Cond.instanceMethod yX8_doPass ∈ lwG := lwG_of 984 (by decide +kernel) (by decide +kernel)
theorem wd_985 : Cond.code yX8_doPass cX8_doPass 3 (some .int) ∈ lwG := lwG_of 985 (by decide +kernel) (by decide +kernel)
theorem wd_986 : Cond.methodLink RX8 123 yX8_tick ∈ lwG := lwG_of 986 (by decide +kernel) (by decide +kernel)
theorem wd_988 : Cond.instanceMethod yX8_tick ∈ lwG := lwG_of 988 (by decide +kernel) (by decide +kernel)
theorem wd_989 : Cond.code yX8_tick cX8_tick 2 none ∈ lwG := lwG_of 989 (by decide +kernel) (by decide +kernel)
theorem wd_990 : Cond.methodLink RX8 120 yX8_calming ∈ lwG := lwG_of 990 (by decide +kernel) (by decide +kernel)
theorem wd_991 : Cond.static yX8_calming ∈ lwG := lwG_of 991 (by decide +kernel) (by decide +kernel)
theorem wd_992 : Cond.code yX8_calming cX8_calming 1 (some .int) ∈ lwG := lwG_of 992 (by decide +kernel) (by decide +kernel)
theorem wd_993 : Cond.methodLink RL 54 yX8_addStation ∈ lwG := lwG_of 993 (by decide +kernel) (by decide +kernel)
theorem wd_994 : Cond.instanceMethod yX8_addStation ∈ lwG := lwG_of 994 (by decide +kernel) (by decide +kernel)
theorem wd_995 : Cond.selects RX8 yX8_addStation yX8_addStation ∈ lwG := lwG_of 995 (by decide +kernel) (by decide +kernel)
theorem wd_996 : Cond.code yX8_addStation cX8_addStation 4 (some .int) ∈ lwG := lwG_of 996 (by decide +kernel) (by decide +kernel)
theorem wd_997 : Cond.methodLink RL 58 yX8_setTolerance ∈ lwG := lwG_of 997 (by decide +kernel) (by decide +kernel)
theorem wd_998 : Cond.instanceMethod yX8_setTolerance ∈ lwG := lwG_of 998 (by decide +kernel) (by decide +kernel)
theorem wd_999 : Cond.selects RX8 yX8_setTolerance yX8_setTolerance ∈ lwG := lwG_of 999 (by decide +kernel) (by decide +kernel)
theorem wd_1000 : Cond.code yX8_setTolerance cX8_setTolerance 3 (some .int) ∈ lwG := lwG_of 1000 (by decide +kernel) (by decide +kernel)
theorem wd_1001 : Cond.methodLink RL 66 yX8_observe ∈ lwG := lwG_of 1001 (by decide +kernel) (by decide +kernel)
theorem wd_1002 : Cond.instanceMethod yX8_observe ∈ lwG := lwG_of 1002 (by decide +kernel) (by decide +kernel)
theorem wd_1003 : Cond.selects RX8 yX8_observe yX8_observe ∈ lwG := lwG_of 1003 (by decide +kernel) (by decide +kernel)
theorem wd_1004 : Cond.code yX8_observe cX8_observe 4 (some .int) ∈ lwG := lwG_of 1004 (by decide +kernel) (by decide +kernel)
theorem wd_1005 : Cond.methodLink RX8 135 yX8_doObserve ∈ lwG := lwG_of 1005 (by decide +kernel) (by decide +kernel)
theorem wd_1007 : Cond.instanceMethod yX8_doObserve ∈ lwG := lwG_of 1007 (by decide +kernel) (by decide +kernel)
theorem wd_1008 : Cond.code yX8_doObserve cX8_doObserve 17 (some .int) ∈ lwG := lwG_of 1008 (by decide +kernel) (by decide +kernel)
theorem wd_1009 : Cond.methodLink RX8 129 yX8_noStation ∈ lwG := lwG_of 1009 (by decide +kernel) (by decide +kernel)
theorem wd_1011 : Cond.instanceMethod yX8_noStation ∈ lwG := lwG_of 1011 (by decide +kernel) (by decide +kernel)
theorem wd_1012 : Cond.code yX8_noStation cX8_noStation 2 (some .boolean) ∈ lwG := lwG_of 1012 (by decide +kernel) (by decide +kernel)
theorem wd_1013 : Cond.methodLink RX8 132 yX8_positionAt ∈ lwG := lwG_of 1013 (by decide +kernel) (by decide +kernel)
theorem wd_1015 : Cond.instanceMethod yX8_positionAt ∈ lwG := lwG_of 1015 (by decide +kernel) (by decide +kernel)
theorem wd_1016 : Cond.code yX8_positionAt cX8_positionAt 4 (some .int) ∈ lwG := lwG_of 1016 (by decide +kernel) (by decide +kernel)
theorem wd_1017 : Cond.methodLink RX8 111 yX8_restAt ∈ lwG := lwG_of 1017 (by decide +kernel) (by decide +kernel)
theorem wd_1019 : Cond.instanceMethod yX8_restAt ∈ lwG := lwG_of 1019 (by decide +kernel) (by decide +kernel)
theorem wd_1020 : Cond.code yX8_restAt cX8_restAt 10 (some .int) ∈ lwG := lwG_of 1020 (by decide +kernel) (by decide +kernel)
theorem wd_1021 : Cond.methodLink RX8 102 yX8_lesser ∈ lwG := lwG_of 1021 (by decide +kernel) (by decide +kernel)
theorem wd_1022 : Cond.static yX8_lesser ∈ lwG := lwG_of 1022 (by decide +kernel) (by decide +kernel)
theorem wd_1023 : Cond.code yX8_lesser cX8_lesser 2 (some .int) ∈ lwG := lwG_of 1023 (by decide +kernel) (by decide +kernel)
theorem wd_1024 : Cond.constantLong RX8 105 (100) ∈ lwG := lwG_of 1024 (by decide +kernel) (by decide +kernel)
theorem wd_1025 : Cond.methodLink RX8 107 yX8_down ∈ lwG := lwG_of 1025 (by decide +kernel) (by decide +kernel)
theorem wd_1026 : Cond.static yX8_down ∈ lwG := lwG_of 1026 (by decide +kernel) (by decide +kernel)
theorem wd_1027 : Cond.code yX8_down cX8_down 6 (some .long) ∈ lwG := lwG_of 1027 (by decide +kernel) (by decide +kernel)
theorem wd_1028 : Cond.methodLink RX8 114 yX8_part ∈ lwG := lwG_of 1028 (by decide +kernel) (by decide +kernel)
theorem wd_1029 : Cond.static yX8_part ∈ lwG := lwG_of 1029 (by decide +kernel) (by decide +kernel)
theorem wd_1030 : Cond.code yX8_part cX8_part 3 (some .int) ∈ lwG := lwG_of 1030 (by decide +kernel) (by decide +kernel)
theorem wd_1031 : Cond.methodLink RX8 117 yX8_swing ∈ lwG := lwG_of 1031 (by decide +kernel) (by decide +kernel)
theorem wd_1033 : Cond.instanceMethod yX8_swing ∈ lwG := lwG_of 1033 (by decide +kernel) (by decide +kernel)
theorem wd_1034 : Cond.code yX8_swing cX8_swing 5 (some .int) ∈ lwG := lwG_of 1034 (by decide +kernel) (by decide +kernel)
theorem wd_1035 : Cond.methodLink RL 123 yX8_bearing ∈ lwG := lwG_of 1035 (by decide +kernel) (by decide +kernel)
theorem wd_1036 : Cond.instanceMethod yX8_bearing ∈ lwG := lwG_of 1036 (by decide +kernel) (by decide +kernel)
theorem wd_1037 : Cond.selects RX8 yX8_bearing yX8_bearing ∈ lwG := lwG_of 1037 (by decide +kernel) (by decide +kernel)
theorem wd_1038 : Cond.code yX8_bearing cX8_bearing 3 (some .int) ∈ lwG := lwG_of 1038 (by decide +kernel) (by decide +kernel)
theorem wd_1039 : Cond.methodLink RX8 144 yX8_bearingOf ∈ lwG := lwG_of 1039 (by decide +kernel) (by decide +kernel)
theorem wd_1040 : Cond.static yX8_bearingOf ∈ lwG := lwG_of 1040 (by decide +kernel) (by decide +kernel)
theorem wd_1041 : Cond.code yX8_bearingOf cX8_bearingOf 4 (some .int) ∈ lwG := lwG_of 1041 (by decide +kernel) (by decide +kernel)
theorem wd_1042 : Cond.constantLong RX8 138 (2000) ∈ lwG := lwG_of 1042 (by decide +kernel) (by decide +kernel)
theorem wd_1043 : Cond.constantLong RX8 140 (4000) ∈ lwG := lwG_of 1043 (by decide +kernel) (by decide +kernel)
theorem wd_1044 : Cond.constantLong RX8 142 (6000) ∈ lwG := lwG_of 1044 (by decide +kernel) (by decide +kernel)
theorem wd_1045 : Cond.methodLink RL 127 yX8_surface ∈ lwG := lwG_of 1045 (by decide +kernel) (by decide +kernel)
theorem wd_1046 : Cond.instanceMethod yX8_surface ∈ lwG := lwG_of 1046 (by decide +kernel) (by decide +kernel)
theorem wd_1047 : Cond.selects RX8 yX8_surface yX8_surface ∈ lwG := lwG_of 1047 (by decide +kernel) (by decide +kernel)
theorem wd_1048 : Cond.code yX8_surface cX8_surface 3 (some .int) ∈ lwG := lwG_of 1048 (by decide +kernel) (by decide +kernel)
theorem wd_1049 : Cond.methodLink RX8 147 yX8_hasPair ∈ lwG := lwG_of 1049 (by decide +kernel) (by decide +kernel)
theorem wd_1051 : Cond.instanceMethod yX8_hasPair ∈ lwG := lwG_of 1051 (by decide +kernel) (by decide +kernel)
theorem wd_1052 : Cond.code yX8_hasPair cX8_hasPair 2 (some .boolean) ∈ lwG := lwG_of 1052 (by decide +kernel) (by decide +kernel)
theorem wd_1053 : Cond.methodLink RX8 150 yX8_acrossTop ∈ lwG := lwG_of 1053 (by decide +kernel) (by decide +kernel)
theorem wd_1055 : Cond.instanceMethod yX8_acrossTop ∈ lwG := lwG_of 1055 (by decide +kernel) (by decide +kernel)
theorem wd_1056 : Cond.code yX8_acrossTop cX8_acrossTop 3 (some .int) ∈ lwG := lwG_of 1056 (by decide +kernel) (by decide +kernel)
theorem wd_1057 : Cond.methodLink RL 131 yX8_given ∈ lwG := lwG_of 1057 (by decide +kernel) (by decide +kernel)
theorem wd_1058 : Cond.instanceMethod yX8_given ∈ lwG := lwG_of 1058 (by decide +kernel) (by decide +kernel)
theorem wd_1059 : Cond.selects RX8 yX8_given yX8_given ∈ lwG := lwG_of 1059 (by decide +kernel) (by decide +kernel)
theorem wd_1060 : Cond.code yX8_given cX8_given 3 (some .int) ∈ lwG := lwG_of 1060 (by decide +kernel) (by decide +kernel)
theorem wd_1061 : Cond.methodLink RX8 160 yX8_missing ∈ lwG := lwG_of 1061 (by decide +kernel) (by decide +kernel)
theorem wd_1063 : Cond.instanceMethod yX8_missing ∈ lwG := lwG_of 1063 (by decide +kernel) (by decide +kernel)
theorem wd_1064 : Cond.code yX8_missing cX8_missing 5 (some .int) ∈ lwG := lwG_of 1064 (by decide +kernel) (by decide +kernel)
theorem wd_1065 : Cond.methodLink RX8 153 yX8_acrossAt ∈ lwG := lwG_of 1065 (by decide +kernel) (by decide +kernel)
theorem wd_1067 : Cond.instanceMethod yX8_acrossAt ∈ lwG := lwG_of 1067 (by decide +kernel) (by decide +kernel)
theorem wd_1068 : Cond.code yX8_acrossAt cX8_acrossAt 4 (some .int) ∈ lwG := lwG_of 1068 (by decide +kernel) (by decide +kernel)
theorem wd_1069 : Cond.methodLink RX8 163 yX8_givenBy ∈ lwG := lwG_of 1069 (by decide +kernel) (by decide +kernel)
theorem wd_1071 : Cond.instanceMethod yX8_givenBy ∈ lwG := lwG_of 1071 (by decide +kernel) (by decide +kernel)
theorem wd_1072 : Cond.code yX8_givenBy cX8_givenBy 5 (some .int) ∈ lwG := lwG_of 1072 (by decide +kernel) (by decide +kernel)
theorem wd_1073 : Cond.methodLink RX8 156 yX8_round ∈ lwG := lwG_of 1073 (by decide +kernel) (by decide +kernel)
theorem wd_1074 : Cond.static yX8_round ∈ lwG := lwG_of 1074 (by decide +kernel) (by decide +kernel)
theorem wd_1075 : Cond.code yX8_round cX8_round 4 (some .int) ∈ lwG := lwG_of 1075 (by decide +kernel) (by decide +kernel)
theorem wd_1076 : Cond.constantLong RX8 33 (8000) ∈ lwG := lwG_of 1076 (by decide +kernel) (by decide +kernel)
theorem wd_1077 : Cond.methodLink RL 70 yX8_orient ∈ lwG := lwG_of 1077 (by decide +kernel) (by decide +kernel)
theorem wd_1078 : Cond.instanceMethod yX8_orient ∈ lwG := lwG_of 1078 (by decide +kernel) (by decide +kernel)
theorem wd_1079 : Cond.selects RX8 yX8_orient yX8_orient ∈ lwG := lwG_of 1079 (by decide +kernel) (by decide +kernel)
theorem wd_1080 : Cond.code yX8_orient cX8_orient 2 (some .int) ∈ lwG := lwG_of 1080 (by decide +kernel) (by decide +kernel)
theorem wd_1081 : Cond.methodLink RX8 168 yX8_doOrient ∈ lwG := lwG_of 1081 (by decide +kernel) (by decide +kernel)
theorem wd_1083 : Cond.instanceMethod yX8_doOrient ∈ lwG := lwG_of 1083 (by decide +kernel) (by decide +kernel)
theorem wd_1084 : Cond.code yX8_doOrient cX8_doOrient 6 (some .int) ∈ lwG := lwG_of 1084 (by decide +kernel) (by decide +kernel)
theorem wd_1085 : Cond.constantLong RX8 166 (2) ∈ lwG := lwG_of 1085 (by decide +kernel) (by decide +kernel)
theorem wd_1086 : Cond.methodLink RL 75 yX8_type ∈ lwG := lwG_of 1086 (by decide +kernel) (by decide +kernel)
theorem wd_1087 : Cond.instanceMethod yX8_type ∈ lwG := lwG_of 1087 (by decide +kernel) (by decide +kernel)
theorem wd_1088 : Cond.selects RX8 yX8_type yX8_type ∈ lwG := lwG_of 1088 (by decide +kernel) (by decide +kernel)
theorem wd_1089 : Cond.code yX8_type cX8_type 2 (some .int) ∈ lwG := lwG_of 1089 (by decide +kernel) (by decide +kernel)
theorem wd_1090 : Cond.methodLink RL 79 yX8_clearText ∈ lwG := lwG_of 1090 (by decide +kernel) (by decide +kernel)
theorem wd_1091 : Cond.instanceMethod yX8_clearText ∈ lwG := lwG_of 1091 (by decide +kernel) (by decide +kernel)
theorem wd_1092 : Cond.selects RX8 yX8_clearText yX8_clearText ∈ lwG := lwG_of 1092 (by decide +kernel) (by decide +kernel)
theorem wd_1093 : Cond.code yX8_clearText cX8_clearText 2 (some .int) ∈ lwG := lwG_of 1093 (by decide +kernel) (by decide +kernel)
theorem wd_1094 : Cond.methodLink RL 83 yX8_runOrders ∈ lwG := lwG_of 1094 (by decide +kernel) (by decide +kernel)
theorem wd_1095 : Cond.instanceMethod yX8_runOrders ∈ lwG := lwG_of 1095 (by decide +kernel) (by decide +kernel)
theorem wd_1096 : Cond.selects RX8 yX8_runOrders yX8_runOrders ∈ lwG := lwG_of 1096 (by decide +kernel) (by decide +kernel)
theorem wd_1097 : Cond.code yX8_runOrders cX8_runOrders 2 (some .int) ∈ lwG := lwG_of 1097 (by decide +kernel) (by decide +kernel)
theorem wd_1098 : Cond.methodLink RX8 200 yX8_readOrder ∈ lwG := lwG_of 1098 (by decide +kernel) (by decide +kernel)
theorem wd_1100 : Cond.instanceMethod yX8_readOrder ∈ lwG := lwG_of 1100 (by decide +kernel) (by decide +kernel)
theorem wd_1101 : Cond.code yX8_readOrder cX8_readOrder 4 none ∈ lwG := lwG_of 1101 (by decide +kernel) (by decide +kernel)
theorem wd_1102 : Cond.methodLink RX8 188 yX8_endOf ∈ lwG := lwG_of 1102 (by decide +kernel) (by decide +kernel)
theorem wd_1104 : Cond.instanceMethod yX8_endOf ∈ lwG := lwG_of 1104 (by decide +kernel) (by decide +kernel)
theorem wd_1105 : Cond.code yX8_endOf cX8_endOf 3 (some .int) ∈ lwG := lwG_of 1105 (by decide +kernel) (by decide +kernel)
theorem wd_1106 : Cond.methodLink RX8 191 yX8_word ∈ lwG := lwG_of 1106 (by decide +kernel) (by decide +kernel)
theorem wd_1108 : Cond.instanceMethod yX8_word ∈ lwG := lwG_of 1108 (by decide +kernel) (by decide +kernel)
theorem wd_1109 : Cond.code yX8_word cX8_word 3 (some .int) ∈ lwG := lwG_of 1109 (by decide +kernel) (by decide +kernel)
theorem wd_1110 : Cond.methodLink RX8 174 yX8_stands ∈ lwG := lwG_of 1110 (by decide +kernel) (by decide +kernel)
theorem wd_1112 : Cond.instanceMethod yX8_stands ∈ lwG := lwG_of 1112 (by decide +kernel) (by decide +kernel)
theorem wd_1113 : Cond.code yX8_stands cX8_stands 7 (some .boolean) ∈ lwG := lwG_of 1113 (by decide +kernel) (by decide +kernel)
theorem wd_1114 : Cond.methodLink RX8 184 yX8_fail ∈ lwG := lwG_of 1114 (by decide +kernel) (by decide +kernel)
theorem wd_1116 : Cond.instanceMethod yX8_fail ∈ lwG := lwG_of 1116 (by decide +kernel) (by decide +kernel)
theorem wd_1117 : Cond.code yX8_fail cX8_fail 2 none ∈ lwG := lwG_of 1117 (by decide +kernel) (by decide +kernel)
theorem wd_1118 : Cond.methodLink RX8 197 yX8_number ∈ lwG := lwG_of 1118 (by decide +kernel) (by decide +kernel)
theorem wd_1120 : Cond.instanceMethod yX8_number ∈ lwG := lwG_of 1120 (by decide +kernel) (by decide +kernel)
theorem wd_1121 : Cond.code yX8_number cX8_number 8 (some .int) ∈ lwG := lwG_of 1121 (by decide +kernel) (by decide +kernel)
theorem wd_1122 : Cond.methodLink RX8 203 yX8_carryOut ∈ lwG := lwG_of 1122 (by decide +kernel) (by decide +kernel)
theorem wd_1124 : Cond.instanceMethod yX8_carryOut ∈ lwG := lwG_of 1124 (by decide +kernel) (by decide +kernel)
theorem wd_1125 : Cond.code yX8_carryOut cX8_carryOut 5 (some .int) ∈ lwG := lwG_of 1125 (by decide +kernel) (by decide +kernel)
theorem wd_1126 : Cond.methodLink RL 99 yX8_wire ∈ lwG := lwG_of 1126 (by decide +kernel) (by decide +kernel)
theorem wd_1127 : Cond.instanceMethod yX8_wire ∈ lwG := lwG_of 1127 (by decide +kernel) (by decide +kernel)
theorem wd_1128 : Cond.selects RX8 yX8_wire yX8_wire ∈ lwG := lwG_of 1128 (by decide +kernel) (by decide +kernel)
theorem wd_1129 : Cond.code yX8_wire cX8_wire 3 (some .int) ∈ lwG := lwG_of 1129 (by decide +kernel) (by decide +kernel)
theorem wd_1130 : Cond.methodLink RL 103 yX8_rest ∈ lwG := lwG_of 1130 (by decide +kernel) (by decide +kernel)
theorem wd_1131 : Cond.instanceMethod yX8_rest ∈ lwG := lwG_of 1131 (by decide +kernel) (by decide +kernel)
theorem wd_1132 : Cond.selects RX8 yX8_rest yX8_rest ∈ lwG := lwG_of 1132 (by decide +kernel) (by decide +kernel)
theorem wd_1133 : Cond.code yX8_rest cX8_rest 4 (some .int) ∈ lwG := lwG_of 1133 (by decide +kernel) (by decide +kernel)
theorem wd_1134 : Cond.methodLink RX8 206 yX8_barred ∈ lwG := lwG_of 1134 (by decide +kernel) (by decide +kernel)
theorem wd_1136 : Cond.instanceMethod yX8_barred ∈ lwG := lwG_of 1136 (by decide +kernel) (by decide +kernel)
theorem wd_1137 : Cond.code yX8_barred cX8_barred 4 (some .int) ∈ lwG := lwG_of 1137 (by decide +kernel) (by decide +kernel)
theorem wd_1138 : Cond.methodLink RL 107 yX8_position ∈ lwG := lwG_of 1138 (by decide +kernel) (by decide +kernel)
theorem wd_1139 : Cond.instanceMethod yX8_position ∈ lwG := lwG_of 1139 (by decide +kernel) (by decide +kernel)
theorem wd_1140 : Cond.selects RX8 yX8_position yX8_position ∈ lwG := lwG_of 1140 (by decide +kernel) (by decide +kernel)
theorem wd_1141 : Cond.code yX8_position cX8_position 4 (some .int) ∈ lwG := lwG_of 1141 (by decide +kernel) (by decide +kernel)
theorem wd_1142 : Cond.methodLink RL 111 yX8_calmIn ∈ lwG := lwG_of 1142 (by decide +kernel) (by decide +kernel)
theorem wd_1143 : Cond.instanceMethod yX8_calmIn ∈ lwG := lwG_of 1143 (by decide +kernel) (by decide +kernel)
theorem wd_1144 : Cond.selects RX8 yX8_calmIn yX8_calmIn ∈ lwG := lwG_of 1144 (by decide +kernel) (by decide +kernel)
theorem wd_1145 : Cond.code yX8_calmIn cX8_calmIn 5 (some .int) ∈ lwG := lwG_of 1145 (by decide +kernel) (by decide +kernel)
theorem wd_1146 : Cond.methodLink RL 115 yX8_station ∈ lwG := lwG_of 1146 (by decide +kernel) (by decide +kernel)
theorem wd_1147 : Cond.instanceMethod yX8_station ∈ lwG := lwG_of 1147 (by decide +kernel) (by decide +kernel)
theorem wd_1148 : Cond.selects RX8 yX8_station yX8_station ∈ lwG := lwG_of 1148 (by decide +kernel) (by decide +kernel)
theorem wd_1149 : Cond.code yX8_station cX8_station 3 (some .int) ∈ lwG := lwG_of 1149 (by decide +kernel) (by decide +kernel)
theorem wd_1150 : Cond.methodLink RX8 209 yX8_seenHere ∈ lwG := lwG_of 1150 (by decide +kernel) (by decide +kernel)
theorem wd_1152 : Cond.instanceMethod yX8_seenHere ∈ lwG := lwG_of 1152 (by decide +kernel) (by decide +kernel)
theorem wd_1153 : Cond.code yX8_seenHere cX8_seenHere 4 (some .int) ∈ lwG := lwG_of 1153 (by decide +kernel) (by decide +kernel)
theorem wd_1154 : Cond.methodLink RL 119 yX8_observation ∈ lwG := lwG_of 1154 (by decide +kernel) (by decide +kernel)
theorem wd_1155 : Cond.instanceMethod yX8_observation ∈ lwG := lwG_of 1155 (by decide +kernel) (by decide +kernel)
theorem wd_1156 : Cond.selects RX8 yX8_observation yX8_observation ∈ lwG := lwG_of 1156 (by decide +kernel) (by decide +kernel)
theorem wd_1157 : Cond.code yX8_observation cX8_observation 4 (some .int) ∈ lwG := lwG_of 1157 (by decide +kernel) (by decide +kernel)
theorem wd_1158 : Cond.methodLink RL 135 yX8_count ∈ lwG := lwG_of 1158 (by decide +kernel) (by decide +kernel)
theorem wd_1159 : Cond.instanceMethod yX8_count ∈ lwG := lwG_of 1159 (by decide +kernel) (by decide +kernel)
theorem wd_1160 : Cond.selects RX8 yX8_count yX8_count ∈ lwG := lwG_of 1160 (by decide +kernel) (by decide +kernel)
theorem wd_1161 : Cond.code yX8_count cX8_count 5 (some .int) ∈ lwG := lwG_of 1161 (by decide +kernel) (by decide +kernel)
theorem wd_1162 : Cond.fieldLink RJ0 9 "java/lang/String" "value" "[B" ∈ lwG := lwG_of 1162 (by decide +kernel) (by decide +kernel)
theorem wd_1163 : Cond.fieldLink RJ0 15 "java/lang/String" "coder" "B" ∈ lwG := lwG_of 1163 (by decide +kernel) (by decide +kernel)
theorem hi_X0 : ∀ w ∈ wsX00, w ∈ lwG := fun w hw => by
  obtain ⟨k, hk, e⟩ := List.mem_map.mp hw
  rw [← e]
  have hk := List.mem_range.mp hk
  rcases (show k = 0 ∨ k = 1 ∨ k = 2 ∨ k = 3 by omega) with rfl | rfl | rfl | rfl
  · exact lwG_of 145 (by decide +kernel) (by decide +kernel)
  · exact lwG_of 147 (by decide +kernel) (by decide +kernel)
  · exact lwG_of 149 (by decide +kernel) (by decide +kernel)
  · exact lwG_of 151 (by decide +kernel) (by decide +kernel)
theorem hi_X1 : ∀ w ∈ wsX10, w ∈ lwG := fun w hw => by
  obtain ⟨k, hk, e⟩ := List.mem_map.mp hw
  rw [← e]
  have hk := List.mem_range.mp hk
  rcases (show k = 0 ∨ k = 1 ∨ k = 2 ∨ k = 3 ∨ k = 4 ∨ k = 5 by omega) with rfl | rfl | rfl | rfl | rfl | rfl
  · exact lwG_of 185 (by decide +kernel) (by decide +kernel)
  · exact lwG_of 187 (by decide +kernel) (by decide +kernel)
  · exact lwG_of 189 (by decide +kernel) (by decide +kernel)
  · exact lwG_of 191 (by decide +kernel) (by decide +kernel)
  · exact lwG_of 193 (by decide +kernel) (by decide +kernel)
  · exact lwG_of 195 (by decide +kernel) (by decide +kernel)
theorem hi_X2 : ∀ w ∈ wsX20, w ∈ lwG := fun w hw => by
  obtain ⟨k, hk, e⟩ := List.mem_map.mp hw
  rw [← e]
  have hk := List.mem_range.mp hk
  rcases (show k = 0 ∨ k = 1 ∨ k = 2 ∨ k = 3 ∨ k = 4 ∨ k = 5 by omega) with rfl | rfl | rfl | rfl | rfl | rfl
  · exact lwG_of 271 (by decide +kernel) (by decide +kernel)
  · exact lwG_of 273 (by decide +kernel) (by decide +kernel)
  · exact lwG_of 275 (by decide +kernel) (by decide +kernel)
  · exact lwG_of 277 (by decide +kernel) (by decide +kernel)
  · exact lwG_of 279 (by decide +kernel) (by decide +kernel)
  · exact lwG_of 281 (by decide +kernel) (by decide +kernel)
theorem hi_X3 : ∀ w ∈ wsX30, w ∈ lwG := fun w hw => by
  obtain ⟨k, hk, e⟩ := List.mem_map.mp hw
  rw [← e]
  have hk := List.mem_range.mp hk
  rcases (show k = 0 ∨ k = 1 ∨ k = 2 ∨ k = 3 by omega) with rfl | rfl | rfl | rfl
  · exact lwG_of 498 (by decide +kernel) (by decide +kernel)
  · exact lwG_of 500 (by decide +kernel) (by decide +kernel)
  · exact lwG_of 502 (by decide +kernel) (by decide +kernel)
  · exact lwG_of 504 (by decide +kernel) (by decide +kernel)
theorem hi_X4 : ∀ w ∈ wsX40, w ∈ lwG := fun w hw => by
  obtain ⟨k, hk, e⟩ := List.mem_map.mp hw
  rw [← e]
  have hk := List.mem_range.mp hk
  rcases (show k = 0 ∨ k = 1 ∨ k = 2 ∨ k = 3 ∨ k = 4 ∨ k = 5 ∨ k = 6 ∨ k = 7 by omega) with rfl | rfl | rfl | rfl | rfl | rfl | rfl | rfl
  · exact lwG_of 238 (by decide +kernel) (by decide +kernel)
  · exact lwG_of 240 (by decide +kernel) (by decide +kernel)
  · exact lwG_of 242 (by decide +kernel) (by decide +kernel)
  · exact lwG_of 244 (by decide +kernel) (by decide +kernel)
  · exact lwG_of 246 (by decide +kernel) (by decide +kernel)
  · exact lwG_of 248 (by decide +kernel) (by decide +kernel)
  · exact lwG_of 250 (by decide +kernel) (by decide +kernel)
  · exact lwG_of 252 (by decide +kernel) (by decide +kernel)
theorem hi_X5 : ∀ w ∈ wsX50, w ∈ lwG := fun w hw => by
  obtain ⟨k, hk, e⟩ := List.mem_map.mp hw
  rw [← e]
  have hk := List.mem_range.mp hk
  rcases (show k = 0 ∨ k = 1 ∨ k = 2 ∨ k = 3 ∨ k = 4 by omega) with rfl | rfl | rfl | rfl | rfl
  · exact lwG_of 211 (by decide +kernel) (by decide +kernel)
  · exact lwG_of 213 (by decide +kernel) (by decide +kernel)
  · exact lwG_of 215 (by decide +kernel) (by decide +kernel)
  · exact lwG_of 217 (by decide +kernel) (by decide +kernel)
  · exact lwG_of 219 (by decide +kernel) (by decide +kernel)
theorem hi_X6 : ∀ w ∈ wsX60, w ∈ lwG := fun w hw => by
  obtain ⟨k, hk, e⟩ := List.mem_map.mp hw
  rw [← e]
  have hk := List.mem_range.mp hk
  rcases (show k = 0 ∨ k = 1 ∨ k = 2 ∨ k = 3 ∨ k = 4 ∨ k = 5 ∨ k = 6 ∨ k = 7 ∨ k = 8 ∨ k = 9 ∨ k = 10 by omega) with rfl | rfl | rfl | rfl | rfl | rfl | rfl | rfl | rfl | rfl | rfl
  · exact lwG_of 111 (by decide +kernel) (by decide +kernel)
  · exact lwG_of 113 (by decide +kernel) (by decide +kernel)
  · exact lwG_of 115 (by decide +kernel) (by decide +kernel)
  · exact lwG_of 117 (by decide +kernel) (by decide +kernel)
  · exact lwG_of 119 (by decide +kernel) (by decide +kernel)
  · exact lwG_of 121 (by decide +kernel) (by decide +kernel)
  · exact lwG_of 123 (by decide +kernel) (by decide +kernel)
  · exact lwG_of 125 (by decide +kernel) (by decide +kernel)
  · exact lwG_of 127 (by decide +kernel) (by decide +kernel)
  · exact lwG_of 129 (by decide +kernel) (by decide +kernel)
  · exact lwG_of 131 (by decide +kernel) (by decide +kernel)
theorem hi_X7 : ∀ w ∈ wsX70, w ∈ lwG := fun w hw => by
  obtain ⟨k, hk, e⟩ := List.mem_map.mp hw
  rw [← e]
  have hk := List.mem_range.mp hk
  rcases (show k = 0 ∨ k = 1 ∨ k = 2 ∨ k = 3 ∨ k = 4 ∨ k = 5 ∨ k = 6 ∨ k = 7 by omega) with rfl | rfl | rfl | rfl | rfl | rfl | rfl | rfl
  · exact lwG_of 295 (by decide +kernel) (by decide +kernel)
  · exact lwG_of 297 (by decide +kernel) (by decide +kernel)
  · exact lwG_of 299 (by decide +kernel) (by decide +kernel)
  · exact lwG_of 301 (by decide +kernel) (by decide +kernel)
  · exact lwG_of 303 (by decide +kernel) (by decide +kernel)
  · exact lwG_of 305 (by decide +kernel) (by decide +kernel)
  · exact lwG_of 307 (by decide +kernel) (by decide +kernel)
  · exact lwG_of 309 (by decide +kernel) (by decide +kernel)
theorem hi_X8 : ∀ w ∈ wsX80, w ∈ lwG := fun w hw => by
  obtain ⟨k, hk, e⟩ := List.mem_map.mp hw
  rw [← e]
  have hk := List.mem_range.mp hk
  rcases (show k = 0 ∨ k = 1 ∨ k = 2 ∨ k = 3 ∨ k = 4 ∨ k = 5 ∨ k = 6 ∨ k = 7 ∨ k = 8 ∨ k = 9 ∨ k = 10 ∨ k = 11 ∨ k = 12 by omega) with rfl | rfl | rfl | rfl | rfl | rfl | rfl | rfl | rfl | rfl | rfl | rfl | rfl
  · exact lwG_of 842 (by decide +kernel) (by decide +kernel)
  · exact lwG_of 844 (by decide +kernel) (by decide +kernel)
  · exact lwG_of 846 (by decide +kernel) (by decide +kernel)
  · exact lwG_of 848 (by decide +kernel) (by decide +kernel)
  · exact lwG_of 850 (by decide +kernel) (by decide +kernel)
  · exact lwG_of 852 (by decide +kernel) (by decide +kernel)
  · exact lwG_of 854 (by decide +kernel) (by decide +kernel)
  · exact lwG_of 856 (by decide +kernel) (by decide +kernel)
  · exact lwG_of 858 (by decide +kernel) (by decide +kernel)
  · exact lwG_of 860 (by decide +kernel) (by decide +kernel)
  · exact lwG_of 862 (by decide +kernel) (by decide +kernel)
  · exact lwG_of 864 (by decide +kernel) (by decide +kernel)
  · exact lwG_of 866 (by decide +kernel) (by decide +kernel)
def wsX0_init : List Cond := .code yX0_init cX0_init 1 none :: lwG
def wsX0_copyFrom : List Cond := .code yX0_copyFrom cX0_copyFrom 2 none :: lwG
def wsX0_become : List Cond := .code yX0_become cX0_become 5 none :: lwG
def wsJ9_floorDiv_f86c9 : List Cond := .code yJ9_floorDiv_f86c9 cJ9_floorDiv_f86c9 6 (some .long) :: lwG
def wsX0_bend : List Cond := .code yX0_bend cX0_bend 8 (some .int) :: lwG
def wsX1_init : List Cond := .code yX1_init cX1_init 1 none :: lwG
def wsX1_copyFrom : List Cond := .code yX1_copyFrom cX1_copyFrom 2 none :: lwG
def wsX1_property : List Cond := .code yX1_property cX1_property 2 (some .int) :: lwG
def wsX2_init : List Cond := .code yX2_init cX2_init 1 none :: lwG
def wsX2_append : List Cond := .code yX2_append cX2_append 2 none :: lwG
def wsX2_numberOf : List Cond := .code yX2_numberOf cX2_numberOf 3 (some .int) :: lwG
def wsX2_tokenEnd : List Cond := .code yX2_tokenEnd cX2_tokenEnd 2 (some .int) :: lwG
def wsX2_wordText : List Cond := .code yX2_wordText cX2_wordText 1 (some (.object "java/lang/String")) :: lwG
def wsJ0_coder_7d493 : List Cond := .code yJ0_coder_7d493 cJ0_coder_7d493 1 (some .byte) :: lwG
def wsJ0_length_8abf5 : List Cond := .code yJ0_length_8abf5 cJ0_length_8abf5 1 (some .int) :: lwG
def wsJ0_isLatin1_aae02 : List Cond := .code yJ0_isLatin1_aae02 cJ0_isLatin1_aae02 1 (some .boolean) :: lwG
def wsJ3_checkIndex_8e157 : List Cond := .code yJ3_checkIndex_8e157 cJ3_checkIndex_8e157 3 (some .int) :: lwG
def wsJ0_checkIndex_df160 : List Cond := .code yJ0_checkIndex_df160 cJ0_checkIndex_df160 2 none :: lwG
def wsJ1_charAt_3b067 : List Cond := .code yJ1_charAt_3b067 cJ1_charAt_3b067 2 (some .char) :: lwG
def wsJ2_length_9d52b : List Cond := .code yJ2_length_9d52b cJ2_length_9d52b 1 (some .int) :: lwG
def wsJ2_checkIndex_2214a : List Cond := .code yJ2_checkIndex_2214a cJ2_checkIndex_2214a 2 none :: lwG
def wsJ2_getChar_3b067 : List Cond := .code yJ2_getChar_3b067 cJ2_getChar_3b067 2 (some .char) :: lwG
def wsJ2_charAt_3b067 : List Cond := .code yJ2_charAt_3b067 cJ2_charAt_3b067 2 (some .char) :: lwG
def wsJ0_charAt_5068e : List Cond := .code yJ0_charAt_5068e cJ0_charAt_5068e 2 (some .char) :: lwG
def wsX2_isWordUpTo : List Cond := .code yX2_isWordUpTo cX2_isWordUpTo 4 (some .boolean) :: lwG
def wsX2_wordUpTo : List Cond := .code yX2_wordUpTo cX2_wordUpTo 3 (some .int) :: lwG
def wsX2_kindsOfNumbers : List Cond := .code yX2_kindsOfNumbers cX2_kindsOfNumbers 1 (some (.object "java/lang/String")) :: lwG
def wsX7_isWithin : List Cond := .code yX7_isWithin cX7_isWithin 3 (some .boolean) :: lwG
def wsX2_numberUpTo : List Cond := .code yX2_numberUpTo cX2_numberUpTo 4 (some .int) :: lwG
def wsX2_lowestNumber : List Cond := .code yX2_lowestNumber cX2_lowestNumber 1 (some .int) :: lwG
def wsX2_highestNumber : List Cond := .code yX2_highestNumber cX2_highestNumber 1 (some .int) :: lwG
def wsX2_readNumber : List Cond := .code yX2_readNumber cX2_readNumber 5 (some .boolean) :: lwG
def wsX2_readOrder : List Cond := .code yX2_readOrder cX2_readOrder 5 (some .boolean) :: lwG
def wsX2_readOrders : List Cond := .code yX2_readOrders cX2_readOrders 1 (some .int) :: lwG
def wsX3_init : List Cond := .code yX3_init cX3_init 1 none :: lwG
def wsX3_add : List Cond := .code yX3_add cX3_add 2 none :: lwG
def wsJ9_floorDiv_7cf53 : List Cond := .code yJ9_floorDiv_7cf53 cJ9_floorDiv_7cf53 3 (some .int) :: lwG
def wsX3_mean : List Cond := .code yX3_mean cX3_mean 1 (some .int) :: lwG
def wsX3_spread : List Cond := .code yX3_spread cX3_spread 1 (some .int) :: lwG
def wsX6_init : List Cond := .code yX6_init cX6_init 1 none :: lwG
def wsX5_init : List Cond := .code yX5_init cX5_init 2 none :: lwG
def wsX4_init : List Cond := .code yX4_init cX4_init 2 none :: lwG
def wsX6_copyFrom : List Cond := .code yX6_copyFrom cX6_copyFrom 2 none :: lwG
def wsX5_copyFrom : List Cond := .code yX5_copyFrom cX5_copyFrom 3 none :: lwG
def wsX4_copyFrom : List Cond := .code yX4_copyFrom cX4_copyFrom 3 none :: lwG
def wsX4_hungWires : List Cond := .code yX4_hungWires cX4_hungWires 3 (some .int) :: lwG
def wsX4_orientedStations : List Cond := .code yX4_orientedStations cX4_orientedStations 3 (some .int) :: lwG
def wsX5_validObservations : List Cond := .code yX5_validObservations cX5_validObservations 3 (some .int) :: lwG
def wsX4_validObservations : List Cond := .code yX4_validObservations cX4_validObservations 3 (some .int) :: lwG
def wsX4_voidWire : List Cond := .code yX4_voidWire cX4_voidWire 5 (some .int) :: lwG
def wsX4_voidAllWires : List Cond := .code yX4_voidAllWires cX4_voidAllWires 2 none :: lwG
def wsX6_quarterTicks : List Cond := .code yX6_quarterTicks cX6_quarterTicks 1 (some .int) :: lwG
def wsX6_periodTicks : List Cond := .code yX6_periodTicks cX6_periodTicks 1 (some .int) :: lwG
def wsX6_calmed : List Cond := .code yX6_calmed cX6_calmed 2 (some .int) :: lwG
def wsX6_swayOneTick : List Cond := .code yX6_swayOneTick cX6_swayOneTick 1 none :: lwG
def wsX4_passTick : List Cond := .code yX4_passTick cX4_passTick 2 none :: lwG
def wsX4_restAt : List Cond := .code yX4_restAt cX4_restAt 6 (some .int) :: lwG
def wsX7_roundedToZero : List Cond := .code yX7_roundedToZero cX7_roundedToZero 2 (some .int) :: lwG
def wsX6_swing : List Cond := .code yX6_swing cX6_swing 2 (some .int) :: lwG
def wsX6_swayAt : List Cond := .code yX6_swayAt cX6_swayAt 4 (some .int) :: lwG
def wsX4_look : List Cond := .code yX4_look cX4_look 11 none :: lwG
def wsX5_become : List Cond := .code yX5_become cX5_become 4 none :: lwG
def wsX6_startSway : List Cond := .code yX6_startSway cX6_startSway 2 none :: lwG
def wsX6_hangAnew : List Cond := .code yX6_hangAnew cX6_hangAnew 5 none :: lwG
def wsX6_tradePlaces : List Cond := .code yX6_tradePlaces cX6_tradePlaces 4 none :: lwG
def wsX6_ticksUntilCalm : List Cond := .code yX6_ticksUntilCalm cX6_ticksUntilCalm 5 (some .int) :: lwG
def wsX6_property : List Cond := .code yX6_property cX6_property 2 (some .int) :: lwG
def wsX7_init : List Cond := .code yX7_init cX7_init 2 none :: lwG
def wsX7_isWire : List Cond := .code yX7_isWire cX7_isWire 1 (some .boolean) :: lwG
def wsX7_dropOldestState : List Cond := .code yX7_dropOldestState cX7_dropOldestState 3 none :: lwG
def wsX7_remember : List Cond := .code yX7_remember cX7_remember 1 none :: lwG
def wsX7_hang : List Cond := .code yX7_hang cX7_hang 6 (some .int) :: lwG
def wsX7_isHung : List Cond := .code yX7_isHung cX7_isHung 2 (some .boolean) :: lwG
def wsX7_refuse : List Cond := .code yX7_refuse cX7_refuse 2 (some .int) :: lwG
def wsX7_lift : List Cond := .code yX7_lift cX7_lift 2 (some .int) :: lwG
def wsX7_setClamp : List Cond := .code yX7_setClamp cX7_setClamp 5 (some .int) :: lwG
def wsX7_setBucket : List Cond := .code yX7_setBucket cX7_setBucket 5 (some .int) :: lwG
def wsX7_push : List Cond := .code yX7_push cX7_push 5 (some .int) :: lwG
def wsX7_swap : List Cond := .code yX7_swap cX7_swap 5 (some .int) :: lwG
def wsX7_addCurrent : List Cond := .code yX7_addCurrent cX7_addCurrent 5 (some .int) :: lwG
def wsX7_clearCurrents : List Cond := .code yX7_clearCurrents cX7_clearCurrents 2 (some .int) :: lwG
def wsX7_addStation : List Cond := .code yX7_addStation cX7_addStation 4 (some .int) :: lwG
def wsX7_setTolerance : List Cond := .code yX7_setTolerance cX7_setTolerance 3 (some .int) :: lwG
def wsX7_pass : List Cond := .code yX7_pass cX7_pass 3 (some .int) :: lwG
def wsX7_isStation : List Cond := .code yX7_isStation cX7_isStation 2 (some .boolean) :: lwG
def wsX7_observe : List Cond := .code yX7_observe cX7_observe 4 (some .int) :: lwG
def wsX7_firstOf : List Cond := .code yX7_firstOf cX7_firstOf 2 (some (.object "PlumbShaft$Wire")) :: lwG
def wsX7_secondOf : List Cond := .code yX7_secondOf cX7_secondOf 2 (some (.object "PlumbShaft$Wire")) :: lwG
def wsX7_isPairHung : List Cond := .code yX7_isPairHung cX7_isPairHung 2 (some .boolean) :: lwG
def wsX7_firstSeen : List Cond := .code yX7_firstSeen cX7_firstSeen 3 (some (.object "PlumbShaft$Observation")) :: lwG
def wsX7_secondSeen : List Cond := .code yX7_secondSeen cX7_secondSeen 3 (some (.object "PlumbShaft$Observation")) :: lwG
def wsX7_isPairAtOnePlace : List Cond := .code yX7_isPairAtOnePlace cX7_isPairAtOnePlace 2 (some .boolean) :: lwG
def wsX7_reasonAgainst : List Cond := .code yX7_reasonAgainst cX7_reasonAgainst 5 (some .int) :: lwG
def wsX7_lowerReason : List Cond := .code yX7_lowerReason cX7_lowerReason 2 (some .int) :: lwG
def wsX7_bearingOf : List Cond := .code yX7_bearingOf cX7_bearingOf 6 (some .int) :: lwG
def wsJ9_floorMod_f86c9 : List Cond := .code yJ9_floorMod_f86c9 cJ9_floorMod_f86c9 6 (some .long) :: lwG
def wsX7_onCircle : List Cond := .code yX7_onCircle cX7_onCircle 2 (some .int) :: lwG
def wsX7_surfaceBearing : List Cond := .code yX7_surfaceBearing cX7_surfaceBearing 4 (some .int) :: lwG
def wsX7_orientationFrom : List Cond := .code yX7_orientationFrom cX7_orientationFrom 7 (some .int) :: lwG
def wsX7_orient : List Cond := .code yX7_orient cX7_orient 7 (some .int) :: lwG
def wsX7_type : List Cond := .code yX7_type cX7_type 2 (some .int) :: lwG
def wsX7_clearText : List Cond := .code yX7_clearText cX7_clearText 2 (some .int) :: lwG
def wsX7_carryOut : List Cond := .code yX7_carryOut cX7_carryOut 5 (some .int) :: lwG
def wsX7_runOrders : List Cond := .code yX7_runOrders cX7_runOrders 3 (some .int) :: lwG
def wsX7_undo : List Cond := .code yX7_undo cX7_undo 1 (some .int) :: lwG
def wsX7_isSlot : List Cond := .code yX7_isSlot cX7_isSlot 1 (some .boolean) :: lwG
def wsX7_keep : List Cond := .code yX7_keep cX7_keep 2 (some .int) :: lwG
def wsX7_restore : List Cond := .code yX7_restore cX7_restore 2 (some .int) :: lwG
def wsX7_wire : List Cond := .code yX7_wire cX7_wire 3 (some .int) :: lwG
def wsX7_errorOfReading : List Cond := .code yX7_errorOfReading cX7_errorOfReading 4 (some .int) :: lwG
def wsX7_rest : List Cond := .code yX7_rest cX7_rest 5 (some .int) :: lwG
def wsX7_position : List Cond := .code yX7_position cX7_position 6 (some .int) :: lwG
def wsX7_calmIn : List Cond := .code yX7_calmIn cX7_calmIn 3 (some .int) :: lwG
def wsX7_station : List Cond := .code yX7_station cX7_station 4 (some .int) :: lwG
def wsX7_observation : List Cond := .code yX7_observation cX7_observation 5 (some .int) :: lwG
def wsX7_bearing : List Cond := .code yX7_bearing cX7_bearing 3 (some .int) :: lwG
def wsX7_isPair : List Cond := .code yX7_isPair cX7_isPair 1 (some .boolean) :: lwG
def wsX7_surface : List Cond := .code yX7_surface cX7_surface 2 (some .int) :: lwG
def wsX7_given : List Cond := .code yX7_given cX7_given 3 (some .int) :: lwG
def wsX7_count : List Cond := .code yX7_count cX7_count 2 (some .int) :: lwG
def wsX8_init : List Cond := .code yX8_init cX8_init 1 none :: lwG
def wsX8_in : List Cond := .code yX8_in cX8_in 3 (some .boolean) :: lwG
def wsX8_size : List Cond := .code yX8_size cX8_size 1 (some .int) :: lwG
def wsX8_down : List Cond := .code yX8_down cX8_down 6 (some .long) :: lwG
def wsX8_round : List Cond := .code yX8_round cX8_round 4 (some .int) :: lwG
def wsX8_refuse : List Cond := .code yX8_refuse cX8_refuse 2 (some .int) :: lwG
def wsX8_begin : List Cond := .code yX8_begin cX8_begin 2 none :: lwG
def wsX8_done : List Cond := .code yX8_done cX8_done 3 (some .int) :: lwG
def wsX8_undo : List Cond := .code yX8_undo cX8_undo 2 (some .int) :: lwG
def wsX8_keep : List Cond := .code yX8_keep cX8_keep 3 (some .int) :: lwG
def wsX8_restore : List Cond := .code yX8_restore cX8_restore 3 (some .int) :: lwG
def wsX8_of : List Cond := .code yX8_of cX8_of 3 (some .int) :: lwG
def wsX8_put : List Cond := .code yX8_put cX8_put 4 none :: lwG
def wsX8_noWire : List Cond := .code yX8_noWire cX8_noWire 1 (some .boolean) :: lwG
def wsX8_noStation : List Cond := .code yX8_noStation cX8_noStation 2 (some .boolean) :: lwG
def wsX8_isHung : List Cond := .code yX8_isHung cX8_isHung 2 (some .boolean) :: lwG
def wsX8_hungOnes : List Cond := .code yX8_hungOnes cX8_hungOnes 3 (some .int) :: lwG
def wsX8_seenAt : List Cond := .code yX8_seenAt cX8_seenAt 2 (some .int) :: lwG
def wsX8_voidOf : List Cond := .code yX8_voidOf cX8_voidOf 4 (some .int) :: lwG
def wsX8_voidAll : List Cond := .code yX8_voidAll cX8_voidAll 3 none :: lwG
def wsX8_hang : List Cond := .code yX8_hang cX8_hang 7 (some .int) :: lwG
def wsX8_lift : List Cond := .code yX8_lift cX8_lift 3 (some .int) :: lwG
def wsX8_setClamp : List Cond := .code yX8_setClamp cX8_setClamp 5 (some .int) :: lwG
def wsX8_setBucket : List Cond := .code yX8_setBucket cX8_setBucket 5 (some .int) :: lwG
def wsX8_quarter : List Cond := .code yX8_quarter cX8_quarter 2 (some .int) :: lwG
def wsX8_doPush : List Cond := .code yX8_doPush cX8_doPush 5 (some .int) :: lwG
def wsX8_push : List Cond := .code yX8_push cX8_push 4 (some .int) :: lwG
def wsX8_doSwap : List Cond := .code yX8_doSwap cX8_doSwap 5 (some .int) :: lwG
def wsX8_swap : List Cond := .code yX8_swap cX8_swap 3 (some .int) :: lwG
def wsX8_addCurrent : List Cond := .code yX8_addCurrent cX8_addCurrent 6 (some .int) :: lwG
def wsX8_clearCurrents : List Cond := .code yX8_clearCurrents cX8_clearCurrents 2 (some .int) :: lwG
def wsX8_lesser : List Cond := .code yX8_lesser cX8_lesser 2 (some .int) :: lwG
def wsX8_restAt : List Cond := .code yX8_restAt cX8_restAt 10 (some .int) :: lwG
def wsX8_swing : List Cond := .code yX8_swing cX8_swing 5 (some .int) :: lwG
def wsX8_part : List Cond := .code yX8_part cX8_part 3 (some .int) :: lwG
def wsX8_positionAt : List Cond := .code yX8_positionAt cX8_positionAt 4 (some .int) :: lwG
def wsX8_calming : List Cond := .code yX8_calming cX8_calming 1 (some .int) :: lwG
def wsX8_tick : List Cond := .code yX8_tick cX8_tick 2 none :: lwG
def wsX8_doPass : List Cond := .code yX8_doPass cX8_doPass 3 (some .int) :: lwG
def wsX8_pass : List Cond := .code yX8_pass cX8_pass 2 (some .int) :: lwG
def wsX8_addStation : List Cond := .code yX8_addStation cX8_addStation 4 (some .int) :: lwG
def wsX8_setTolerance : List Cond := .code yX8_setTolerance cX8_setTolerance 3 (some .int) :: lwG
def wsX8_doObserve : List Cond := .code yX8_doObserve cX8_doObserve 17 (some .int) :: lwG
def wsX8_observe : List Cond := .code yX8_observe cX8_observe 4 (some .int) :: lwG
def wsX8_bearingOf : List Cond := .code yX8_bearingOf cX8_bearingOf 4 (some .int) :: lwG
def wsX8_bearing : List Cond := .code yX8_bearing cX8_bearing 3 (some .int) :: lwG
def wsX8_hasPair : List Cond := .code yX8_hasPair cX8_hasPair 2 (some .boolean) :: lwG
def wsX8_acrossTop : List Cond := .code yX8_acrossTop cX8_acrossTop 3 (some .int) :: lwG
def wsX8_acrossAt : List Cond := .code yX8_acrossAt cX8_acrossAt 4 (some .int) :: lwG
def wsX8_surface : List Cond := .code yX8_surface cX8_surface 3 (some .int) :: lwG
def wsX8_missing : List Cond := .code yX8_missing cX8_missing 5 (some .int) :: lwG
def wsX8_givenBy : List Cond := .code yX8_givenBy cX8_givenBy 5 (some .int) :: lwG
def wsX8_given : List Cond := .code yX8_given cX8_given 3 (some .int) :: lwG
def wsX8_doOrient : List Cond := .code yX8_doOrient cX8_doOrient 6 (some .int) :: lwG
def wsX8_orient : List Cond := .code yX8_orient cX8_orient 2 (some .int) :: lwG
def wsX8_type : List Cond := .code yX8_type cX8_type 2 (some .int) :: lwG
def wsX8_clearText : List Cond := .code yX8_clearText cX8_clearText 2 (some .int) :: lwG
def wsX8_endOf : List Cond := .code yX8_endOf cX8_endOf 3 (some .int) :: lwG
def wsX8_stands : List Cond := .code yX8_stands cX8_stands 7 (some .boolean) :: lwG
def wsX8_word : List Cond := .code yX8_word cX8_word 3 (some .int) :: lwG
def wsX8_fail : List Cond := .code yX8_fail cX8_fail 2 none :: lwG
def wsX8_number : List Cond := .code yX8_number cX8_number 8 (some .int) :: lwG
def wsX8_readOrder : List Cond := .code yX8_readOrder cX8_readOrder 4 none :: lwG
def wsX8_carryOut : List Cond := .code yX8_carryOut cX8_carryOut 5 (some .int) :: lwG
def wsX8_runOrders : List Cond := .code yX8_runOrders cX8_runOrders 2 (some .int) :: lwG
def wsX8_wire : List Cond := .code yX8_wire cX8_wire 3 (some .int) :: lwG
def wsX8_barred : List Cond := .code yX8_barred cX8_barred 4 (some .int) :: lwG
def wsX8_rest : List Cond := .code yX8_rest cX8_rest 4 (some .int) :: lwG
def wsX8_position : List Cond := .code yX8_position cX8_position 4 (some .int) :: lwG
def wsX8_calmIn : List Cond := .code yX8_calmIn cX8_calmIn 5 (some .int) :: lwG
def wsX8_seenHere : List Cond := .code yX8_seenHere cX8_seenHere 4 (some .int) :: lwG
def wsX8_station : List Cond := .code yX8_station cX8_station 3 (some .int) :: lwG
def wsX8_observation : List Cond := .code yX8_observation cX8_observation 4 (some .int) :: lwG
def wsX8_count : List Cond := .code yX8_count cX8_count 5 (some .int) :: lwG
def wsJ9_abs_0f7a4 : List Cond := .code yJ9_abs_0f7a4 cJ9_abs_0f7a4 1 (some .int) :: lwG
def wsJ9_abs_067f4 : List Cond := .code yJ9_abs_067f4 cJ9_abs_067f4 2 (some .long) :: lwG
def wsJ9_max_7cf53 : List Cond := .code yJ9_max_7cf53 cJ9_max_7cf53 2 (some .int) :: lwG
def wsJ9_min_7cf53 : List Cond := .code yJ9_min_7cf53 cJ9_min_7cf53 2 (some .int) :: lwG
end
section
theorem dX0_init_0 : decode cX0_init 0 = .ok (.aload_n 0, 1) := by decide +kernel
theorem dX0_init_1 : decode cX0_init 1 = .ok (.invokespecial 3, 3) := by decide +kernel
theorem dX0_init_4 : decode cX0_init 4 = .ok (.return_, 1) := by decide +kernel
theorem dX0_copyFrom_0 : decode cX0_copyFrom 0 = .ok (.aload_n 0, 1) := by decide +kernel
theorem dX0_copyFrom_1 : decode cX0_copyFrom 1 = .ok (.aload_n 1, 1) := by decide +kernel
theorem dX0_copyFrom_2 : decode cX0_copyFrom 2 = .ok (.getfield 9, 3) := by decide +kernel
theorem dX0_copyFrom_5 : decode cX0_copyFrom 5 = .ok (.putfield 9, 3) := by decide +kernel
theorem dX0_copyFrom_8 : decode cX0_copyFrom 8 = .ok (.aload_n 0, 1) := by decide +kernel
theorem dX0_copyFrom_9 : decode cX0_copyFrom 9 = .ok (.aload_n 1, 1) := by decide +kernel
theorem dX0_copyFrom_10 : decode cX0_copyFrom 10 = .ok (.getfield 15, 3) := by decide +kernel
theorem dX0_copyFrom_13 : decode cX0_copyFrom 13 = .ok (.putfield 15, 3) := by decide +kernel
theorem dX0_copyFrom_16 : decode cX0_copyFrom 16 = .ok (.aload_n 0, 1) := by decide +kernel
theorem dX0_copyFrom_17 : decode cX0_copyFrom 17 = .ok (.aload_n 1, 1) := by decide +kernel
theorem dX0_copyFrom_18 : decode cX0_copyFrom 18 = .ok (.getfield 18, 3) := by decide +kernel
theorem dX0_copyFrom_21 : decode cX0_copyFrom 21 = .ok (.putfield 18, 3) := by decide +kernel
theorem dX0_copyFrom_24 : decode cX0_copyFrom 24 = .ok (.aload_n 0, 1) := by decide +kernel
theorem dX0_copyFrom_25 : decode cX0_copyFrom 25 = .ok (.aload_n 1, 1) := by decide +kernel
theorem dX0_copyFrom_26 : decode cX0_copyFrom 26 = .ok (.getfield 21, 3) := by decide +kernel
theorem dX0_copyFrom_29 : decode cX0_copyFrom 29 = .ok (.putfield 21, 3) := by decide +kernel
theorem dX0_copyFrom_32 : decode cX0_copyFrom 32 = .ok (.return_, 1) := by decide +kernel
theorem dX0_become_0 : decode cX0_become 0 = .ok (.aload_n 0, 1) := by decide +kernel
theorem dX0_become_1 : decode cX0_become 1 = .ok (.iload_n 1, 1) := by decide +kernel
theorem dX0_become_2 : decode cX0_become 2 = .ok (.putfield 9, 3) := by decide +kernel
theorem dX0_become_5 : decode cX0_become 5 = .ok (.aload_n 0, 1) := by decide +kernel
theorem dX0_become_6 : decode cX0_become 6 = .ok (.iload_n 2, 1) := by decide +kernel
theorem dX0_become_7 : decode cX0_become 7 = .ok (.putfield 15, 3) := by decide +kernel
theorem dX0_become_10 : decode cX0_become 10 = .ok (.aload_n 0, 1) := by decide +kernel
theorem dX0_become_11 : decode cX0_become 11 = .ok (.iload_n 3, 1) := by decide +kernel
theorem dX0_become_12 : decode cX0_become 12 = .ok (.putfield 18, 3) := by decide +kernel
theorem dX0_become_15 : decode cX0_become 15 = .ok (.aload_n 0, 1) := by decide +kernel
theorem dX0_become_16 : decode cX0_become 16 = .ok (.iload 4, 2) := by decide +kernel
theorem dX0_become_18 : decode cX0_become 18 = .ok (.putfield 21, 3) := by decide +kernel
theorem dX0_become_21 : decode cX0_become 21 = .ok (.return_, 1) := by decide +kernel
theorem dX0_bend_0 : decode cX0_bend 0 = .ok (.iload_n 1, 1) := by decide +kernel
theorem dX0_bend_1 : decode cX0_bend 1 = .ok (.iconst 1, 1) := by decide +kernel
theorem dX0_bend_2 : decode cX0_bend 2 = .ok (.if_icmp .ge 5, 3) := by decide +kernel
theorem dX0_bend_5 : decode cX0_bend 5 = .ok (.iconst 0, 1) := by decide +kernel
theorem dX0_bend_6 : decode cX0_bend 6 = .ok (.ireturn, 1) := by decide +kernel
theorem dX0_bend_7 : decode cX0_bend 7 = .ok (.iload_n 3, 1) := by decide +kernel
theorem dX0_bend_8 : decode cX0_bend 8 = .ok (.ifCond .ne 11, 3) := by decide +kernel
theorem dX0_bend_11 : decode cX0_bend 11 = .ok (.aload_n 0, 1) := by decide +kernel
theorem dX0_bend_12 : decode cX0_bend 12 = .ok (.getfield 18, 3) := by decide +kernel
theorem dX0_bend_15 : decode cX0_bend 15 = .ok (.i2l, 1) := by decide +kernel
theorem dX0_bend_16 : decode cX0_bend 16 = .ok (.goto 8, 3) := by decide +kernel
theorem dX0_bend_19 : decode cX0_bend 19 = .ok (.aload_n 0, 1) := by decide +kernel
theorem dX0_bend_20 : decode cX0_bend 20 = .ok (.getfield 21, 3) := by decide +kernel
theorem dX0_bend_23 : decode cX0_bend 23 = .ok (.i2l, 1) := by decide +kernel
theorem dX0_bend_24 : decode cX0_bend 24 = .ok (.lstore 4, 2) := by decide +kernel
theorem dX0_bend_26 : decode cX0_bend 26 = .ok (.aload_n 0, 1) := by decide +kernel
theorem dX0_bend_27 : decode cX0_bend 27 = .ok (.getfield 15, 3) := by decide +kernel
theorem dX0_bend_30 : decode cX0_bend 30 = .ok (.iload_n 2, 1) := by decide +kernel
theorem dX0_bend_31 : decode cX0_bend 31 = .ok (.invokestatic 24, 3) := by decide +kernel
theorem dX0_bend_34 : decode cX0_bend 34 = .ok (.aload_n 0, 1) := by decide +kernel
theorem dX0_bend_35 : decode cX0_bend 35 = .ok (.getfield 9, 3) := by decide +kernel
theorem dX0_bend_38 : decode cX0_bend 38 = .ok (.iload_n 2, 1) := by decide +kernel
theorem dX0_bend_39 : decode cX0_bend 39 = .ok (.invokestatic 24, 3) := by decide +kernel
theorem dX0_bend_42 : decode cX0_bend 42 = .ok (.isub, 1) := by decide +kernel
theorem dX0_bend_43 : decode cX0_bend 43 = .ok (.i2l, 1) := by decide +kernel
theorem dX0_bend_44 : decode cX0_bend 44 = .ok (.lstore 6, 2) := by decide +kernel
theorem dX0_bend_46 : decode cX0_bend 46 = .ok (.lload 4, 2) := by decide +kernel
theorem dX0_bend_48 : decode cX0_bend 48 = .ok (.lload 6, 2) := by decide +kernel
theorem dX0_bend_50 : decode cX0_bend 50 = .ok (.lmul, 1) := by decide +kernel
theorem dX0_bend_51 : decode cX0_bend 51 = .ok (.iload_n 2, 1) := by decide +kernel
theorem dX0_bend_52 : decode cX0_bend 52 = .ok (.i2l, 1) := by decide +kernel
theorem dX0_bend_53 : decode cX0_bend 53 = .ok (.lmul, 1) := by decide +kernel
theorem dX0_bend_54 : decode cX0_bend 54 = .ok (.ldc2_w 30, 3) := by decide +kernel
theorem dX0_bend_57 : decode cX0_bend 57 = .ok (.iload_n 1, 1) := by decide +kernel
theorem dX0_bend_58 : decode cX0_bend 58 = .ok (.i2l, 1) := by decide +kernel
theorem dX0_bend_59 : decode cX0_bend 59 = .ok (.lmul, 1) := by decide +kernel
theorem dX0_bend_60 : decode cX0_bend 60 = .ok (.invokestatic 32, 3) := by decide +kernel
theorem dX0_bend_63 : decode cX0_bend 63 = .ok (.l2i, 1) := by decide +kernel
theorem dX0_bend_64 : decode cX0_bend 64 = .ok (.ireturn, 1) := by decide +kernel
theorem dX1_init_0 : decode cX1_init 0 = .ok (.aload_n 0, 1) := by decide +kernel
theorem dX1_init_1 : decode cX1_init 1 = .ok (.invokespecial 1, 3) := by decide +kernel
theorem dX1_init_4 : decode cX1_init 4 = .ok (.return_, 1) := by decide +kernel
theorem dX1_copyFrom_0 : decode cX1_copyFrom 0 = .ok (.aload_n 0, 1) := by decide +kernel
theorem dX1_copyFrom_1 : decode cX1_copyFrom 1 = .ok (.aload_n 1, 1) := by decide +kernel
theorem dX1_copyFrom_2 : decode cX1_copyFrom 2 = .ok (.getfield 7, 3) := by decide +kernel
theorem dX1_copyFrom_5 : decode cX1_copyFrom 5 = .ok (.putfield 7, 3) := by decide +kernel
theorem dX1_copyFrom_8 : decode cX1_copyFrom 8 = .ok (.aload_n 0, 1) := by decide +kernel
theorem dX1_copyFrom_9 : decode cX1_copyFrom 9 = .ok (.aload_n 1, 1) := by decide +kernel
theorem dX1_copyFrom_10 : decode cX1_copyFrom 10 = .ok (.getfield 13, 3) := by decide +kernel
theorem dX1_copyFrom_13 : decode cX1_copyFrom 13 = .ok (.putfield 13, 3) := by decide +kernel
theorem dX1_copyFrom_16 : decode cX1_copyFrom 16 = .ok (.aload_n 0, 1) := by decide +kernel
theorem dX1_copyFrom_17 : decode cX1_copyFrom 17 = .ok (.aload_n 1, 1) := by decide +kernel
theorem dX1_copyFrom_18 : decode cX1_copyFrom 18 = .ok (.getfield 17, 3) := by decide +kernel
theorem dX1_copyFrom_21 : decode cX1_copyFrom 21 = .ok (.putfield 17, 3) := by decide +kernel
theorem dX1_copyFrom_24 : decode cX1_copyFrom 24 = .ok (.aload_n 0, 1) := by decide +kernel
theorem dX1_copyFrom_25 : decode cX1_copyFrom 25 = .ok (.aload_n 1, 1) := by decide +kernel
theorem dX1_copyFrom_26 : decode cX1_copyFrom 26 = .ok (.getfield 20, 3) := by decide +kernel
theorem dX1_copyFrom_29 : decode cX1_copyFrom 29 = .ok (.putfield 20, 3) := by decide +kernel
theorem dX1_copyFrom_32 : decode cX1_copyFrom 32 = .ok (.aload_n 0, 1) := by decide +kernel
theorem dX1_copyFrom_33 : decode cX1_copyFrom 33 = .ok (.aload_n 1, 1) := by decide +kernel
theorem dX1_copyFrom_34 : decode cX1_copyFrom 34 = .ok (.getfield 23, 3) := by decide +kernel
theorem dX1_copyFrom_37 : decode cX1_copyFrom 37 = .ok (.putfield 23, 3) := by decide +kernel
theorem dX1_copyFrom_40 : decode cX1_copyFrom 40 = .ok (.aload_n 0, 1) := by decide +kernel
theorem dX1_copyFrom_41 : decode cX1_copyFrom 41 = .ok (.aload_n 1, 1) := by decide +kernel
theorem dX1_copyFrom_42 : decode cX1_copyFrom 42 = .ok (.getfield 26, 3) := by decide +kernel
theorem dX1_copyFrom_45 : decode cX1_copyFrom 45 = .ok (.putfield 26, 3) := by decide +kernel
theorem dX1_copyFrom_48 : decode cX1_copyFrom 48 = .ok (.return_, 1) := by decide +kernel
theorem dX1_property_0 : decode cX1_property 0 = .ok (.iload_n 1, 1) := by decide +kernel
theorem dX1_property_1 : decode cX1_property 1 = .ok (.tableswitch 51 0 3 #[31, 36, 41, 46], 31) := by decide +kernel
theorem dX1_property_32 : decode cX1_property 32 = .ok (.aload_n 0, 1) := by decide +kernel
theorem dX1_property_33 : decode cX1_property 33 = .ok (.getfield 13, 3) := by decide +kernel
theorem dX1_property_36 : decode cX1_property 36 = .ok (.ireturn, 1) := by decide +kernel
theorem dX1_property_37 : decode cX1_property 37 = .ok (.aload_n 0, 1) := by decide +kernel
theorem dX1_property_38 : decode cX1_property 38 = .ok (.getfield 17, 3) := by decide +kernel
theorem dX1_property_41 : decode cX1_property 41 = .ok (.ireturn, 1) := by decide +kernel
theorem dX1_property_42 : decode cX1_property 42 = .ok (.aload_n 0, 1) := by decide +kernel
theorem dX1_property_43 : decode cX1_property 43 = .ok (.getfield 20, 3) := by decide +kernel
theorem dX1_property_46 : decode cX1_property 46 = .ok (.ireturn, 1) := by decide +kernel
theorem dX1_property_47 : decode cX1_property 47 = .ok (.aload_n 0, 1) := by decide +kernel
theorem dX1_property_48 : decode cX1_property 48 = .ok (.getfield 23, 3) := by decide +kernel
theorem dX1_property_51 : decode cX1_property 51 = .ok (.ireturn, 1) := by decide +kernel
theorem dX1_property_52 : decode cX1_property 52 = .ok (.aload_n 0, 1) := by decide +kernel
theorem dX1_property_53 : decode cX1_property 53 = .ok (.getfield 26, 3) := by decide +kernel
theorem dX1_property_56 : decode cX1_property 56 = .ok (.ireturn, 1) := by decide +kernel
theorem dX2_init_0 : decode cX2_init 0 = .ok (.aload_n 0, 1) := by decide +kernel
theorem dX2_init_1 : decode cX2_init 1 = .ok (.invokespecial 3, 3) := by decide +kernel
theorem dX2_init_4 : decode cX2_init 4 = .ok (.aload_n 0, 1) := by decide +kernel
theorem dX2_init_5 : decode cX2_init 5 = .ok (.bipush 70, 2) := by decide +kernel
theorem dX2_init_7 : decode cX2_init 7 = .ok (.newarray .char, 2) := by decide +kernel
theorem dX2_init_9 : decode cX2_init 9 = .ok (.putfield 9, 3) := by decide +kernel
theorem dX2_init_12 : decode cX2_init 12 = .ok (.aload_n 0, 1) := by decide +kernel
theorem dX2_init_13 : decode cX2_init 13 = .ok (.bipush 11, 2) := by decide +kernel
theorem dX2_init_15 : decode cX2_init 15 = .ok (.newarray .int, 2) := by decide +kernel
theorem dX2_init_17 : decode cX2_init 17 = .ok (.putfield 15, 3) := by decide +kernel
theorem dX2_init_20 : decode cX2_init 20 = .ok (.aload_n 0, 1) := by decide +kernel
theorem dX2_init_21 : decode cX2_init 21 = .ok (.bipush 33, 2) := by decide +kernel
theorem dX2_init_23 : decode cX2_init 23 = .ok (.newarray .int, 2) := by decide +kernel
theorem dX2_init_25 : decode cX2_init 25 = .ok (.putfield 19, 3) := by decide +kernel
theorem dX2_init_28 : decode cX2_init 28 = .ok (.return_, 1) := by decide +kernel
theorem dX2_append_0 : decode cX2_append 0 = .ok (.aload_n 0, 1) := by decide +kernel
theorem dX2_append_1 : decode cX2_append 1 = .ok (.getfield 22, 3) := by decide +kernel
theorem dX2_append_4 : decode cX2_append 4 = .ok (.bipush 70, 2) := by decide +kernel
theorem dX2_append_6 : decode cX2_append 6 = .ok (.if_icmp .ge 23, 3) := by decide +kernel
theorem dX2_append_9 : decode cX2_append 9 = .ok (.aload_n 0, 1) := by decide +kernel
theorem dX2_append_10 : decode cX2_append 10 = .ok (.getfield 9, 3) := by decide +kernel
theorem dX2_append_13 : decode cX2_append 13 = .ok (.aload_n 0, 1) := by decide +kernel
theorem dX2_append_14 : decode cX2_append 14 = .ok (.getfield 22, 3) := by decide +kernel
theorem dX2_append_17 : decode cX2_append 17 = .ok (.iload_n 1, 1) := by decide +kernel
theorem dX2_append_18 : decode cX2_append 18 = .ok (.castore, 1) := by decide +kernel
theorem dX2_append_19 : decode cX2_append 19 = .ok (.aload_n 0, 1) := by decide +kernel
theorem dX2_append_20 : decode cX2_append 20 = .ok (.dup, 1) := by decide +kernel
theorem dX2_append_21 : decode cX2_append 21 = .ok (.getfield 22, 3) := by decide +kernel
theorem dX2_append_24 : decode cX2_append 24 = .ok (.iconst 1, 1) := by decide +kernel
theorem dX2_append_25 : decode cX2_append 25 = .ok (.iadd, 1) := by decide +kernel
theorem dX2_append_26 : decode cX2_append 26 = .ok (.putfield 22, 3) := by decide +kernel
theorem dX2_append_29 : decode cX2_append 29 = .ok (.return_, 1) := by decide +kernel
theorem dX2_numberOf_0 : decode cX2_numberOf 0 = .ok (.aload_n 0, 1) := by decide +kernel
theorem dX2_numberOf_1 : decode cX2_numberOf 1 = .ok (.getfield 19, 3) := by decide +kernel
theorem dX2_numberOf_4 : decode cX2_numberOf 4 = .ok (.iload_n 1, 1) := by decide +kernel
theorem dX2_numberOf_5 : decode cX2_numberOf 5 = .ok (.iconst 3, 1) := by decide +kernel
theorem dX2_numberOf_6 : decode cX2_numberOf 6 = .ok (.imul, 1) := by decide +kernel
theorem dX2_numberOf_7 : decode cX2_numberOf 7 = .ok (.iload_n 2, 1) := by decide +kernel
theorem dX2_numberOf_8 : decode cX2_numberOf 8 = .ok (.iadd, 1) := by decide +kernel
theorem dX2_numberOf_9 : decode cX2_numberOf 9 = .ok (.iaload, 1) := by decide +kernel
theorem dX2_numberOf_10 : decode cX2_numberOf 10 = .ok (.ireturn, 1) := by decide +kernel
theorem dX2_readOrders_0 : decode cX2_readOrders 0 = .ok (.aload_n 0, 1) := by decide +kernel
theorem dX2_readOrders_1 : decode cX2_readOrders 1 = .ok (.iconst 0, 1) := by decide +kernel
theorem dX2_readOrders_2 : decode cX2_readOrders 2 = .ok (.putfield 26, 3) := by decide +kernel
theorem dX2_readOrders_5 : decode cX2_readOrders 5 = .ok (.aload_n 0, 1) := by decide +kernel
theorem dX2_readOrders_6 : decode cX2_readOrders 6 = .ok (.iconst 0, 1) := by decide +kernel
theorem dX2_readOrders_7 : decode cX2_readOrders 7 = .ok (.putfield 29, 3) := by decide +kernel
theorem dX2_readOrders_10 : decode cX2_readOrders 10 = .ok (.aload_n 0, 1) := by decide +kernel
theorem dX2_readOrders_11 : decode cX2_readOrders 11 = .ok (.getfield 29, 3) := by decide +kernel
theorem dX2_readOrders_14 : decode cX2_readOrders 14 = .ok (.bipush 11, 2) := by decide +kernel
theorem dX2_readOrders_16 : decode cX2_readOrders 16 = .ok (.if_icmp .ge 70, 3) := by decide +kernel
theorem dX2_readOrders_19 : decode cX2_readOrders 19 = .ok (.aload_n 0, 1) := by decide +kernel
theorem dX2_readOrders_20 : decode cX2_readOrders 20 = .ok (.invokevirtual 32, 3) := by decide +kernel
theorem dX2_readOrders_23 : decode cX2_readOrders 23 = .ok (.ifCond .ne 8, 3) := by decide +kernel
theorem dX2_readOrders_26 : decode cX2_readOrders 26 = .ok (.aload_n 0, 1) := by decide +kernel
theorem dX2_readOrders_27 : decode cX2_readOrders 27 = .ok (.getfield 26, 3) := by decide +kernel
theorem dX2_readOrders_30 : decode cX2_readOrders 30 = .ok (.ireturn, 1) := by decide +kernel
theorem dX2_readOrders_31 : decode cX2_readOrders 31 = .ok (.aload_n 0, 1) := by decide +kernel
theorem dX2_readOrders_32 : decode cX2_readOrders 32 = .ok (.dup, 1) := by decide +kernel
theorem dX2_readOrders_33 : decode cX2_readOrders 33 = .ok (.getfield 29, 3) := by decide +kernel
theorem dX2_readOrders_36 : decode cX2_readOrders 36 = .ok (.iconst 1, 1) := by decide +kernel
theorem dX2_readOrders_37 : decode cX2_readOrders 37 = .ok (.iadd, 1) := by decide +kernel
theorem dX2_readOrders_38 : decode cX2_readOrders 38 = .ok (.putfield 29, 3) := by decide +kernel
theorem dX2_readOrders_41 : decode cX2_readOrders 41 = .ok (.aload_n 0, 1) := by decide +kernel
theorem dX2_readOrders_42 : decode cX2_readOrders 42 = .ok (.getfield 26, 3) := by decide +kernel
theorem dX2_readOrders_45 : decode cX2_readOrders 45 = .ok (.aload_n 0, 1) := by decide +kernel
theorem dX2_readOrders_46 : decode cX2_readOrders 46 = .ok (.getfield 22, 3) := by decide +kernel
theorem dX2_readOrders_49 : decode cX2_readOrders 49 = .ok (.if_icmp .lt 5, 3) := by decide +kernel
theorem dX2_readOrders_52 : decode cX2_readOrders 52 = .ok (.iconst (-1), 1) := by decide +kernel
theorem dX2_readOrders_53 : decode cX2_readOrders 53 = .ok (.ireturn, 1) := by decide +kernel
theorem dX2_readOrders_54 : decode cX2_readOrders 54 = .ok (.aload_n 0, 1) := by decide +kernel
theorem dX2_readOrders_55 : decode cX2_readOrders 55 = .ok (.getfield 9, 3) := by decide +kernel
theorem dX2_readOrders_58 : decode cX2_readOrders 58 = .ok (.aload_n 0, 1) := by decide +kernel
theorem dX2_readOrders_59 : decode cX2_readOrders 59 = .ok (.getfield 26, 3) := by decide +kernel
theorem dX2_readOrders_62 : decode cX2_readOrders 62 = .ok (.caload, 1) := by decide +kernel
theorem dX2_readOrders_63 : decode cX2_readOrders 63 = .ok (.bipush 59, 2) := by decide +kernel
theorem dX2_readOrders_65 : decode cX2_readOrders 65 = .ok (.if_icmp .eq 8, 3) := by decide +kernel
theorem dX2_readOrders_68 : decode cX2_readOrders 68 = .ok (.aload_n 0, 1) := by decide +kernel
theorem dX2_readOrders_69 : decode cX2_readOrders 69 = .ok (.getfield 26, 3) := by decide +kernel
theorem dX2_readOrders_72 : decode cX2_readOrders 72 = .ok (.ireturn, 1) := by decide +kernel
theorem dX2_readOrders_73 : decode cX2_readOrders 73 = .ok (.aload_n 0, 1) := by decide +kernel
theorem dX2_readOrders_74 : decode cX2_readOrders 74 = .ok (.dup, 1) := by decide +kernel
theorem dX2_readOrders_75 : decode cX2_readOrders 75 = .ok (.getfield 26, 3) := by decide +kernel
theorem dX2_readOrders_78 : decode cX2_readOrders 78 = .ok (.iconst 1, 1) := by decide +kernel
theorem dX2_readOrders_79 : decode cX2_readOrders 79 = .ok (.iadd, 1) := by decide +kernel
theorem dX2_readOrders_80 : decode cX2_readOrders 80 = .ok (.putfield 26, 3) := by decide +kernel
theorem dX2_readOrders_83 : decode cX2_readOrders 83 = .ok (.goto (-73), 3) := by decide +kernel
theorem dX2_readOrders_86 : decode cX2_readOrders 86 = .ok (.aload_n 0, 1) := by decide +kernel
theorem dX2_readOrders_87 : decode cX2_readOrders 87 = .ok (.getfield 26, 3) := by decide +kernel
theorem dX2_readOrders_90 : decode cX2_readOrders 90 = .ok (.ireturn, 1) := by decide +kernel
theorem dX2_readOrder_0 : decode cX2_readOrder 0 = .ok (.aload_n 0, 1) := by decide +kernel
theorem dX2_readOrder_1 : decode cX2_readOrder 1 = .ok (.invokevirtual 36, 3) := by decide +kernel
theorem dX2_readOrder_4 : decode cX2_readOrder 4 = .ok (.istore_n 1, 1) := by decide +kernel
theorem dX2_readOrder_5 : decode cX2_readOrder 5 = .ok (.aload_n 0, 1) := by decide +kernel
theorem dX2_readOrder_6 : decode cX2_readOrder 6 = .ok (.iload_n 1, 1) := by decide +kernel
theorem dX2_readOrder_7 : decode cX2_readOrder 7 = .ok (.invokevirtual 40, 3) := by decide +kernel
theorem dX2_readOrder_10 : decode cX2_readOrder 10 = .ok (.istore_n 2, 1) := by decide +kernel
theorem dX2_readOrder_11 : decode cX2_readOrder 11 = .ok (.iload_n 2, 1) := by decide +kernel
theorem dX2_readOrder_12 : decode cX2_readOrder 12 = .ok (.iconst (-1), 1) := by decide +kernel
theorem dX2_readOrder_13 : decode cX2_readOrder 13 = .ok (.if_icmp .ne 5, 3) := by decide +kernel
theorem dX2_readOrder_16 : decode cX2_readOrder 16 = .ok (.iconst 0, 1) := by decide +kernel
theorem dX2_readOrder_17 : decode cX2_readOrder 17 = .ok (.ireturn, 1) := by decide +kernel
theorem dX2_readOrder_18 : decode cX2_readOrder 18 = .ok (.aload_n 0, 1) := by decide +kernel
theorem dX2_readOrder_19 : decode cX2_readOrder 19 = .ok (.getfield 15, 3) := by decide +kernel
theorem dX2_readOrder_22 : decode cX2_readOrder 22 = .ok (.aload_n 0, 1) := by decide +kernel
theorem dX2_readOrder_23 : decode cX2_readOrder 23 = .ok (.getfield 29, 3) := by decide +kernel
theorem dX2_readOrder_26 : decode cX2_readOrder 26 = .ok (.iload_n 2, 1) := by decide +kernel
theorem dX2_readOrder_27 : decode cX2_readOrder 27 = .ok (.iastore, 1) := by decide +kernel
theorem dX2_readOrder_28 : decode cX2_readOrder 28 = .ok (.aload_n 0, 1) := by decide +kernel
theorem dX2_readOrder_29 : decode cX2_readOrder 29 = .ok (.iload_n 1, 1) := by decide +kernel
theorem dX2_readOrder_30 : decode cX2_readOrder 30 = .ok (.putfield 26, 3) := by decide +kernel
theorem dX2_readOrder_33 : decode cX2_readOrder 33 = .ok (.iload_n 2, 1) := by decide +kernel
theorem dX2_readOrder_34 : decode cX2_readOrder 34 = .ok (.invokestatic 44, 3) := by decide +kernel
theorem dX2_readOrder_37 : decode cX2_readOrder 37 = .ok (.astore_n 3, 1) := by decide +kernel
theorem dX2_readOrder_38 : decode cX2_readOrder 38 = .ok (.iconst 0, 1) := by decide +kernel
theorem dX2_readOrder_39 : decode cX2_readOrder 39 = .ok (.istore 4, 2) := by decide +kernel
theorem dX2_readOrder_41 : decode cX2_readOrder 41 = .ok (.iload 4, 2) := by decide +kernel
theorem dX2_readOrder_43 : decode cX2_readOrder 43 = .ok (.aload_n 3, 1) := by decide +kernel
theorem dX2_readOrder_44 : decode cX2_readOrder 44 = .ok (.invokevirtual 48, 3) := by decide +kernel
theorem dX2_readOrder_47 : decode cX2_readOrder 47 = .ok (.if_icmp .ge 63, 3) := by decide +kernel
theorem dX2_readOrder_50 : decode cX2_readOrder 50 = .ok (.aload_n 0, 1) := by decide +kernel
theorem dX2_readOrder_51 : decode cX2_readOrder 51 = .ok (.getfield 26, 3) := by decide +kernel
theorem dX2_readOrder_54 : decode cX2_readOrder 54 = .ok (.aload_n 0, 1) := by decide +kernel
theorem dX2_readOrder_55 : decode cX2_readOrder 55 = .ok (.getfield 22, 3) := by decide +kernel
theorem dX2_readOrder_58 : decode cX2_readOrder 58 = .ok (.if_icmp .ge 17, 3) := by decide +kernel
theorem dX2_readOrder_61 : decode cX2_readOrder 61 = .ok (.aload_n 0, 1) := by decide +kernel
theorem dX2_readOrder_62 : decode cX2_readOrder 62 = .ok (.getfield 9, 3) := by decide +kernel
theorem dX2_readOrder_65 : decode cX2_readOrder 65 = .ok (.aload_n 0, 1) := by decide +kernel
theorem dX2_readOrder_66 : decode cX2_readOrder 66 = .ok (.getfield 26, 3) := by decide +kernel
theorem dX2_readOrder_69 : decode cX2_readOrder 69 = .ok (.caload, 1) := by decide +kernel
theorem dX2_readOrder_70 : decode cX2_readOrder 70 = .ok (.bipush 32, 2) := by decide +kernel
theorem dX2_readOrder_72 : decode cX2_readOrder 72 = .ok (.if_icmp .eq 5, 3) := by decide +kernel
theorem dX2_readOrder_75 : decode cX2_readOrder 75 = .ok (.iconst 0, 1) := by decide +kernel
theorem dX2_readOrder_76 : decode cX2_readOrder 76 = .ok (.ireturn, 1) := by decide +kernel
theorem dX2_readOrder_77 : decode cX2_readOrder 77 = .ok (.aload_n 0, 1) := by decide +kernel
theorem dX2_readOrder_78 : decode cX2_readOrder 78 = .ok (.dup, 1) := by decide +kernel
theorem dX2_readOrder_79 : decode cX2_readOrder 79 = .ok (.getfield 26, 3) := by decide +kernel
theorem dX2_readOrder_82 : decode cX2_readOrder 82 = .ok (.iconst 1, 1) := by decide +kernel
theorem dX2_readOrder_83 : decode cX2_readOrder 83 = .ok (.iadd, 1) := by decide +kernel
theorem dX2_readOrder_84 : decode cX2_readOrder 84 = .ok (.putfield 26, 3) := by decide +kernel
theorem dX2_readOrder_87 : decode cX2_readOrder 87 = .ok (.aload_n 0, 1) := by decide +kernel
theorem dX2_readOrder_88 : decode cX2_readOrder 88 = .ok (.aload_n 3, 1) := by decide +kernel
theorem dX2_readOrder_89 : decode cX2_readOrder 89 = .ok (.iload 4, 2) := by decide +kernel
theorem dX2_readOrder_91 : decode cX2_readOrder 91 = .ok (.invokevirtual 52, 3) := by decide +kernel
theorem dX2_readOrder_94 : decode cX2_readOrder 94 = .ok (.iload 4, 2) := by decide +kernel
theorem dX2_readOrder_96 : decode cX2_readOrder 96 = .ok (.invokevirtual 56, 3) := by decide +kernel
theorem dX2_readOrder_99 : decode cX2_readOrder 99 = .ok (.ifCond .ne 5, 3) := by decide +kernel
theorem dX2_readOrder_102 : decode cX2_readOrder 102 = .ok (.iconst 0, 1) := by decide +kernel
theorem dX2_readOrder_103 : decode cX2_readOrder 103 = .ok (.ireturn, 1) := by decide +kernel
theorem dX2_readOrder_104 : decode cX2_readOrder 104 = .ok (.iinc 4 1, 3) := by decide +kernel
theorem dX2_readOrder_107 : decode cX2_readOrder 107 = .ok (.goto (-66), 3) := by decide +kernel
theorem dX2_readOrder_110 : decode cX2_readOrder 110 = .ok (.iconst 1, 1) := by decide +kernel
theorem dX2_readOrder_111 : decode cX2_readOrder 111 = .ok (.ireturn, 1) := by decide +kernel
theorem dX2_readNumber_0 : decode cX2_readNumber 0 = .ok (.aload_n 0, 1) := by decide +kernel
theorem dX2_readNumber_1 : decode cX2_readNumber 1 = .ok (.invokevirtual 36, 3) := by decide +kernel
theorem dX2_readNumber_4 : decode cX2_readNumber 4 = .ok (.istore_n 3, 1) := by decide +kernel
theorem dX2_readNumber_5 : decode cX2_readNumber 5 = .ok (.aload_n 0, 1) := by decide +kernel
theorem dX2_readNumber_6 : decode cX2_readNumber 6 = .ok (.iload_n 3, 1) := by decide +kernel
theorem dX2_readNumber_7 : decode cX2_readNumber 7 = .ok (.invokevirtual 60, 3) := by decide +kernel
theorem dX2_readNumber_10 : decode cX2_readNumber 10 = .ok (.istore 4, 2) := by decide +kernel
theorem dX2_readNumber_12 : decode cX2_readNumber 12 = .ok (.iload 4, 2) := by decide +kernel
theorem dX2_readNumber_14 : decode cX2_readNumber 14 = .ok (.iload_n 1, 1) := by decide +kernel
theorem dX2_readNumber_15 : decode cX2_readNumber 15 = .ok (.invokestatic 63, 3) := by decide +kernel
theorem dX2_readNumber_18 : decode cX2_readNumber 18 = .ok (.iload_n 1, 1) := by decide +kernel
theorem dX2_readNumber_19 : decode cX2_readNumber 19 = .ok (.invokestatic 67, 3) := by decide +kernel
theorem dX2_readNumber_22 : decode cX2_readNumber 22 = .ok (.invokestatic 70, 3) := by decide +kernel
theorem dX2_readNumber_25 : decode cX2_readNumber 25 = .ok (.ifCond .ne 5, 3) := by decide +kernel
theorem dX2_readNumber_28 : decode cX2_readNumber 28 = .ok (.iconst 0, 1) := by decide +kernel
theorem dX2_readNumber_29 : decode cX2_readNumber 29 = .ok (.ireturn, 1) := by decide +kernel
theorem dX2_readNumber_30 : decode cX2_readNumber 30 = .ok (.aload_n 0, 1) := by decide +kernel
theorem dX2_readNumber_31 : decode cX2_readNumber 31 = .ok (.getfield 19, 3) := by decide +kernel
theorem dX2_readNumber_34 : decode cX2_readNumber 34 = .ok (.aload_n 0, 1) := by decide +kernel
theorem dX2_readNumber_35 : decode cX2_readNumber 35 = .ok (.getfield 29, 3) := by decide +kernel
theorem dX2_readNumber_38 : decode cX2_readNumber 38 = .ok (.iconst 3, 1) := by decide +kernel
theorem dX2_readNumber_39 : decode cX2_readNumber 39 = .ok (.imul, 1) := by decide +kernel
theorem dX2_readNumber_40 : decode cX2_readNumber 40 = .ok (.iload_n 2, 1) := by decide +kernel
theorem dX2_readNumber_41 : decode cX2_readNumber 41 = .ok (.iadd, 1) := by decide +kernel
theorem dX2_readNumber_42 : decode cX2_readNumber 42 = .ok (.iload 4, 2) := by decide +kernel
theorem dX2_readNumber_44 : decode cX2_readNumber 44 = .ok (.iastore, 1) := by decide +kernel
theorem dX2_readNumber_45 : decode cX2_readNumber 45 = .ok (.aload_n 0, 1) := by decide +kernel
theorem dX2_readNumber_46 : decode cX2_readNumber 46 = .ok (.iload_n 3, 1) := by decide +kernel
theorem dX2_readNumber_47 : decode cX2_readNumber 47 = .ok (.putfield 26, 3) := by decide +kernel
theorem dX2_readNumber_50 : decode cX2_readNumber 50 = .ok (.iconst 1, 1) := by decide +kernel
theorem dX2_readNumber_51 : decode cX2_readNumber 51 = .ok (.ireturn, 1) := by decide +kernel
theorem dX2_tokenEnd_0 : decode cX2_tokenEnd 0 = .ok (.aload_n 0, 1) := by decide +kernel
theorem dX2_tokenEnd_1 : decode cX2_tokenEnd 1 = .ok (.getfield 26, 3) := by decide +kernel
theorem dX2_tokenEnd_4 : decode cX2_tokenEnd 4 = .ok (.istore_n 1, 1) := by decide +kernel
theorem dX2_tokenEnd_5 : decode cX2_tokenEnd 5 = .ok (.iload_n 1, 1) := by decide +kernel
theorem dX2_tokenEnd_6 : decode cX2_tokenEnd 6 = .ok (.aload_n 0, 1) := by decide +kernel
theorem dX2_tokenEnd_7 : decode cX2_tokenEnd 7 = .ok (.getfield 22, 3) := by decide +kernel
theorem dX2_tokenEnd_10 : decode cX2_tokenEnd 10 = .ok (.if_icmp .ge 31, 3) := by decide +kernel
theorem dX2_tokenEnd_13 : decode cX2_tokenEnd 13 = .ok (.aload_n 0, 1) := by decide +kernel
theorem dX2_tokenEnd_14 : decode cX2_tokenEnd 14 = .ok (.getfield 9, 3) := by decide +kernel
theorem dX2_tokenEnd_17 : decode cX2_tokenEnd 17 = .ok (.iload_n 1, 1) := by decide +kernel
theorem dX2_tokenEnd_18 : decode cX2_tokenEnd 18 = .ok (.caload, 1) := by decide +kernel
theorem dX2_tokenEnd_19 : decode cX2_tokenEnd 19 = .ok (.bipush 32, 2) := by decide +kernel
theorem dX2_tokenEnd_21 : decode cX2_tokenEnd 21 = .ok (.if_icmp .eq 20, 3) := by decide +kernel
theorem dX2_tokenEnd_24 : decode cX2_tokenEnd 24 = .ok (.aload_n 0, 1) := by decide +kernel
theorem dX2_tokenEnd_25 : decode cX2_tokenEnd 25 = .ok (.getfield 9, 3) := by decide +kernel
theorem dX2_tokenEnd_28 : decode cX2_tokenEnd 28 = .ok (.iload_n 1, 1) := by decide +kernel
theorem dX2_tokenEnd_29 : decode cX2_tokenEnd 29 = .ok (.caload, 1) := by decide +kernel
theorem dX2_tokenEnd_30 : decode cX2_tokenEnd 30 = .ok (.bipush 59, 2) := by decide +kernel
theorem dX2_tokenEnd_32 : decode cX2_tokenEnd 32 = .ok (.if_icmp .eq 9, 3) := by decide +kernel
theorem dX2_tokenEnd_35 : decode cX2_tokenEnd 35 = .ok (.iinc 1 1, 3) := by decide +kernel
theorem dX2_tokenEnd_38 : decode cX2_tokenEnd 38 = .ok (.goto (-33), 3) := by decide +kernel
theorem dX2_tokenEnd_41 : decode cX2_tokenEnd 41 = .ok (.iload_n 1, 1) := by decide +kernel
theorem dX2_tokenEnd_42 : decode cX2_tokenEnd 42 = .ok (.ireturn, 1) := by decide +kernel
theorem dX2_wordUpTo_0 : decode cX2_wordUpTo 0 = .ok (.iconst 0, 1) := by decide +kernel
theorem dX2_wordUpTo_1 : decode cX2_wordUpTo 1 = .ok (.istore_n 2, 1) := by decide +kernel
theorem dX2_wordUpTo_2 : decode cX2_wordUpTo 2 = .ok (.iload_n 2, 1) := by decide +kernel
theorem dX2_wordUpTo_3 : decode cX2_wordUpTo 3 = .ok (.iconst 5, 1) := by decide +kernel
theorem dX2_wordUpTo_4 : decode cX2_wordUpTo 4 = .ok (.if_icmp .ge 23, 3) := by decide +kernel
theorem dX2_wordUpTo_7 : decode cX2_wordUpTo 7 = .ok (.aload_n 0, 1) := by decide +kernel
theorem dX2_wordUpTo_8 : decode cX2_wordUpTo 8 = .ok (.iload_n 1, 1) := by decide +kernel
theorem dX2_wordUpTo_9 : decode cX2_wordUpTo 9 = .ok (.iload_n 2, 1) := by decide +kernel
theorem dX2_wordUpTo_10 : decode cX2_wordUpTo 10 = .ok (.invokestatic 74, 3) := by decide +kernel
theorem dX2_wordUpTo_13 : decode cX2_wordUpTo 13 = .ok (.invokevirtual 77, 3) := by decide +kernel
theorem dX2_wordUpTo_16 : decode cX2_wordUpTo 16 = .ok (.ifCond .eq 5, 3) := by decide +kernel
theorem dX2_wordUpTo_19 : decode cX2_wordUpTo 19 = .ok (.iload_n 2, 1) := by decide +kernel
theorem dX2_wordUpTo_20 : decode cX2_wordUpTo 20 = .ok (.ireturn, 1) := by decide +kernel
theorem dX2_wordUpTo_21 : decode cX2_wordUpTo 21 = .ok (.iinc 2 1, 3) := by decide +kernel
theorem dX2_wordUpTo_24 : decode cX2_wordUpTo 24 = .ok (.goto (-22), 3) := by decide +kernel
theorem dX2_wordUpTo_27 : decode cX2_wordUpTo 27 = .ok (.iconst (-1), 1) := by decide +kernel
theorem dX2_wordUpTo_28 : decode cX2_wordUpTo 28 = .ok (.ireturn, 1) := by decide +kernel
theorem dX2_isWordUpTo_0 : decode cX2_isWordUpTo 0 = .ok (.iload_n 1, 1) := by decide +kernel
theorem dX2_isWordUpTo_1 : decode cX2_isWordUpTo 1 = .ok (.aload_n 0, 1) := by decide +kernel
theorem dX2_isWordUpTo_2 : decode cX2_isWordUpTo 2 = .ok (.getfield 26, 3) := by decide +kernel
theorem dX2_isWordUpTo_5 : decode cX2_isWordUpTo 5 = .ok (.isub, 1) := by decide +kernel
theorem dX2_isWordUpTo_6 : decode cX2_isWordUpTo 6 = .ok (.aload_n 2, 1) := by decide +kernel
theorem dX2_isWordUpTo_7 : decode cX2_isWordUpTo 7 = .ok (.invokevirtual 48, 3) := by decide +kernel
theorem dX2_isWordUpTo_10 : decode cX2_isWordUpTo 10 = .ok (.if_icmp .eq 5, 3) := by decide +kernel
theorem dX2_isWordUpTo_13 : decode cX2_isWordUpTo 13 = .ok (.iconst 0, 1) := by decide +kernel
theorem dX2_isWordUpTo_14 : decode cX2_isWordUpTo 14 = .ok (.ireturn, 1) := by decide +kernel
theorem dX2_isWordUpTo_15 : decode cX2_isWordUpTo 15 = .ok (.iconst 0, 1) := by decide +kernel
theorem dX2_isWordUpTo_16 : decode cX2_isWordUpTo 16 = .ok (.istore_n 3, 1) := by decide +kernel
theorem dX2_isWordUpTo_17 : decode cX2_isWordUpTo 17 = .ok (.iload_n 3, 1) := by decide +kernel
theorem dX2_isWordUpTo_18 : decode cX2_isWordUpTo 18 = .ok (.aload_n 2, 1) := by decide +kernel
theorem dX2_isWordUpTo_19 : decode cX2_isWordUpTo 19 = .ok (.invokevirtual 48, 3) := by decide +kernel
theorem dX2_isWordUpTo_22 : decode cX2_isWordUpTo 22 = .ok (.if_icmp .ge 30, 3) := by decide +kernel
theorem dX2_isWordUpTo_25 : decode cX2_isWordUpTo 25 = .ok (.aload_n 0, 1) := by decide +kernel
theorem dX2_isWordUpTo_26 : decode cX2_isWordUpTo 26 = .ok (.getfield 9, 3) := by decide +kernel
theorem dX2_isWordUpTo_29 : decode cX2_isWordUpTo 29 = .ok (.aload_n 0, 1) := by decide +kernel
theorem dX2_isWordUpTo_30 : decode cX2_isWordUpTo 30 = .ok (.getfield 26, 3) := by decide +kernel
theorem dX2_isWordUpTo_33 : decode cX2_isWordUpTo 33 = .ok (.iload_n 3, 1) := by decide +kernel
theorem dX2_isWordUpTo_34 : decode cX2_isWordUpTo 34 = .ok (.iadd, 1) := by decide +kernel
theorem dX2_isWordUpTo_35 : decode cX2_isWordUpTo 35 = .ok (.caload, 1) := by decide +kernel
theorem dX2_isWordUpTo_36 : decode cX2_isWordUpTo 36 = .ok (.aload_n 2, 1) := by decide +kernel
theorem dX2_isWordUpTo_37 : decode cX2_isWordUpTo 37 = .ok (.iload_n 3, 1) := by decide +kernel
theorem dX2_isWordUpTo_38 : decode cX2_isWordUpTo 38 = .ok (.invokevirtual 52, 3) := by decide +kernel
theorem dX2_isWordUpTo_41 : decode cX2_isWordUpTo 41 = .ok (.if_icmp .eq 5, 3) := by decide +kernel
theorem dX2_isWordUpTo_44 : decode cX2_isWordUpTo 44 = .ok (.iconst 0, 1) := by decide +kernel
theorem dX2_isWordUpTo_45 : decode cX2_isWordUpTo 45 = .ok (.ireturn, 1) := by decide +kernel
theorem dX2_isWordUpTo_46 : decode cX2_isWordUpTo 46 = .ok (.iinc 3 1, 3) := by decide +kernel
theorem dX2_isWordUpTo_49 : decode cX2_isWordUpTo 49 = .ok (.goto (-32), 3) := by decide +kernel
theorem dX2_isWordUpTo_52 : decode cX2_isWordUpTo 52 = .ok (.iconst 1, 1) := by decide +kernel
theorem dX2_isWordUpTo_53 : decode cX2_isWordUpTo 53 = .ok (.ireturn, 1) := by decide +kernel
theorem dX2_numberUpTo_0 : decode cX2_numberUpTo 0 = .ok (.iload_n 1, 1) := by decide +kernel
theorem dX2_numberUpTo_1 : decode cX2_numberUpTo 1 = .ok (.aload_n 0, 1) := by decide +kernel
theorem dX2_numberUpTo_2 : decode cX2_numberUpTo 2 = .ok (.getfield 26, 3) := by decide +kernel
theorem dX2_numberUpTo_5 : decode cX2_numberUpTo 5 = .ok (.isub, 1) := by decide +kernel
theorem dX2_numberUpTo_6 : decode cX2_numberUpTo 6 = .ok (.iconst 1, 1) := by decide +kernel
theorem dX2_numberUpTo_7 : decode cX2_numberUpTo 7 = .ok (.iconst 3, 1) := by decide +kernel
theorem dX2_numberUpTo_8 : decode cX2_numberUpTo 8 = .ok (.invokestatic 70, 3) := by decide +kernel
theorem dX2_numberUpTo_11 : decode cX2_numberUpTo 11 = .ok (.ifCond .ne 5, 3) := by decide +kernel
theorem dX2_numberUpTo_14 : decode cX2_numberUpTo 14 = .ok (.iconst (-1), 1) := by decide +kernel
theorem dX2_numberUpTo_15 : decode cX2_numberUpTo 15 = .ok (.ireturn, 1) := by decide +kernel
theorem dX2_numberUpTo_16 : decode cX2_numberUpTo 16 = .ok (.iconst 0, 1) := by decide +kernel
theorem dX2_numberUpTo_17 : decode cX2_numberUpTo 17 = .ok (.istore_n 2, 1) := by decide +kernel
theorem dX2_numberUpTo_18 : decode cX2_numberUpTo 18 = .ok (.aload_n 0, 1) := by decide +kernel
theorem dX2_numberUpTo_19 : decode cX2_numberUpTo 19 = .ok (.getfield 26, 3) := by decide +kernel
theorem dX2_numberUpTo_22 : decode cX2_numberUpTo 22 = .ok (.istore_n 3, 1) := by decide +kernel
theorem dX2_numberUpTo_23 : decode cX2_numberUpTo 23 = .ok (.iload_n 3, 1) := by decide +kernel
theorem dX2_numberUpTo_24 : decode cX2_numberUpTo 24 = .ok (.iload_n 1, 1) := by decide +kernel
theorem dX2_numberUpTo_25 : decode cX2_numberUpTo 25 = .ok (.if_icmp .ge 42, 3) := by decide +kernel
theorem dX2_numberUpTo_28 : decode cX2_numberUpTo 28 = .ok (.aload_n 0, 1) := by decide +kernel
theorem dX2_numberUpTo_29 : decode cX2_numberUpTo 29 = .ok (.getfield 9, 3) := by decide +kernel
theorem dX2_numberUpTo_32 : decode cX2_numberUpTo 32 = .ok (.iload_n 3, 1) := by decide +kernel
theorem dX2_numberUpTo_33 : decode cX2_numberUpTo 33 = .ok (.caload, 1) := by decide +kernel
theorem dX2_numberUpTo_34 : decode cX2_numberUpTo 34 = .ok (.bipush 48, 2) := by decide +kernel
theorem dX2_numberUpTo_36 : decode cX2_numberUpTo 36 = .ok (.bipush 57, 2) := by decide +kernel
theorem dX2_numberUpTo_38 : decode cX2_numberUpTo 38 = .ok (.invokestatic 70, 3) := by decide +kernel
theorem dX2_numberUpTo_41 : decode cX2_numberUpTo 41 = .ok (.ifCond .ne 5, 3) := by decide +kernel
theorem dX2_numberUpTo_44 : decode cX2_numberUpTo 44 = .ok (.iconst (-1), 1) := by decide +kernel
theorem dX2_numberUpTo_45 : decode cX2_numberUpTo 45 = .ok (.ireturn, 1) := by decide +kernel
theorem dX2_numberUpTo_46 : decode cX2_numberUpTo 46 = .ok (.bipush 10, 2) := by decide +kernel
theorem dX2_numberUpTo_48 : decode cX2_numberUpTo 48 = .ok (.iload_n 2, 1) := by decide +kernel
theorem dX2_numberUpTo_49 : decode cX2_numberUpTo 49 = .ok (.imul, 1) := by decide +kernel
theorem dX2_numberUpTo_50 : decode cX2_numberUpTo 50 = .ok (.aload_n 0, 1) := by decide +kernel
theorem dX2_numberUpTo_51 : decode cX2_numberUpTo 51 = .ok (.getfield 9, 3) := by decide +kernel
theorem dX2_numberUpTo_54 : decode cX2_numberUpTo 54 = .ok (.iload_n 3, 1) := by decide +kernel
theorem dX2_numberUpTo_55 : decode cX2_numberUpTo 55 = .ok (.caload, 1) := by decide +kernel
theorem dX2_numberUpTo_56 : decode cX2_numberUpTo 56 = .ok (.bipush 48, 2) := by decide +kernel
theorem dX2_numberUpTo_58 : decode cX2_numberUpTo 58 = .ok (.isub, 1) := by decide +kernel
theorem dX2_numberUpTo_59 : decode cX2_numberUpTo 59 = .ok (.iadd, 1) := by decide +kernel
theorem dX2_numberUpTo_60 : decode cX2_numberUpTo 60 = .ok (.istore_n 2, 1) := by decide +kernel
theorem dX2_numberUpTo_61 : decode cX2_numberUpTo 61 = .ok (.iinc 3 1, 3) := by decide +kernel
theorem dX2_numberUpTo_64 : decode cX2_numberUpTo 64 = .ok (.goto (-41), 3) := by decide +kernel
theorem dX2_numberUpTo_67 : decode cX2_numberUpTo 67 = .ok (.iload_n 2, 1) := by decide +kernel
theorem dX2_numberUpTo_68 : decode cX2_numberUpTo 68 = .ok (.ireturn, 1) := by decide +kernel
theorem dX2_wordText_0 : decode cX2_wordText 0 = .ok (.iload_n 0, 1) := by decide +kernel
theorem dX2_wordText_1 : decode cX2_wordText 1 = .ok (.tableswitch 47 0 4 #[35, 38, 41, 44, 47], 35) := by decide +kernel
theorem dX2_wordText_36 : decode cX2_wordText 36 = .ok (.ldc 81, 2) := by decide +kernel
theorem dX2_wordText_38 : decode cX2_wordText 38 = .ok (.areturn, 1) := by decide +kernel
theorem dX2_wordText_39 : decode cX2_wordText 39 = .ok (.ldc 83, 2) := by decide +kernel
theorem dX2_wordText_41 : decode cX2_wordText 41 = .ok (.areturn, 1) := by decide +kernel
theorem dX2_wordText_42 : decode cX2_wordText 42 = .ok (.ldc 85, 2) := by decide +kernel
theorem dX2_wordText_44 : decode cX2_wordText 44 = .ok (.areturn, 1) := by decide +kernel
theorem dX2_wordText_45 : decode cX2_wordText 45 = .ok (.ldc 87, 2) := by decide +kernel
theorem dX2_wordText_47 : decode cX2_wordText 47 = .ok (.areturn, 1) := by decide +kernel
theorem dX2_wordText_48 : decode cX2_wordText 48 = .ok (.ldc 89, 2) := by decide +kernel
theorem dX2_wordText_50 : decode cX2_wordText 50 = .ok (.areturn, 1) := by decide +kernel
theorem dX2_kindsOfNumbers_0 : decode cX2_kindsOfNumbers 0 = .ok (.iload_n 0, 1) := by decide +kernel
theorem dX2_kindsOfNumbers_1 : decode cX2_kindsOfNumbers 1 = .ok (.tableswitch 47 0 4 #[35, 38, 41, 44, 47], 35) := by decide +kernel
theorem dX2_kindsOfNumbers_36 : decode cX2_kindsOfNumbers 36 = .ok (.ldc 91, 2) := by decide +kernel
theorem dX2_kindsOfNumbers_38 : decode cX2_kindsOfNumbers 38 = .ok (.areturn, 1) := by decide +kernel
theorem dX2_kindsOfNumbers_39 : decode cX2_kindsOfNumbers 39 = .ok (.ldc 93, 2) := by decide +kernel
theorem dX2_kindsOfNumbers_41 : decode cX2_kindsOfNumbers 41 = .ok (.areturn, 1) := by decide +kernel
theorem dX2_kindsOfNumbers_42 : decode cX2_kindsOfNumbers 42 = .ok (.ldc 95, 2) := by decide +kernel
theorem dX2_kindsOfNumbers_44 : decode cX2_kindsOfNumbers 44 = .ok (.areturn, 1) := by decide +kernel
theorem dX2_kindsOfNumbers_45 : decode cX2_kindsOfNumbers 45 = .ok (.ldc 97, 2) := by decide +kernel
theorem dX2_kindsOfNumbers_47 : decode cX2_kindsOfNumbers 47 = .ok (.areturn, 1) := by decide +kernel
theorem dX2_kindsOfNumbers_48 : decode cX2_kindsOfNumbers 48 = .ok (.ldc 99, 2) := by decide +kernel
theorem dX2_kindsOfNumbers_50 : decode cX2_kindsOfNumbers 50 = .ok (.areturn, 1) := by decide +kernel
theorem dX2_lowestNumber_0 : decode cX2_lowestNumber 0 = .ok (.iload_n 0, 1) := by decide +kernel
theorem dX2_lowestNumber_1 : decode cX2_lowestNumber 1 = .ok (.bipush 78, 2) := by decide +kernel
theorem dX2_lowestNumber_3 : decode cX2_lowestNumber 3 = .ok (.if_icmp .eq 9, 3) := by decide +kernel
theorem dX2_lowestNumber_6 : decode cX2_lowestNumber 6 = .ok (.iload_n 0, 1) := by decide +kernel
theorem dX2_lowestNumber_7 : decode cX2_lowestNumber 7 = .ok (.bipush 65, 2) := by decide +kernel
theorem dX2_lowestNumber_9 : decode cX2_lowestNumber 9 = .ok (.if_icmp .ne 7, 3) := by decide +kernel
theorem dX2_lowestNumber_12 : decode cX2_lowestNumber 12 = .ok (.iconst 1, 1) := by decide +kernel
theorem dX2_lowestNumber_13 : decode cX2_lowestNumber 13 = .ok (.goto 4, 3) := by decide +kernel
theorem dX2_lowestNumber_16 : decode cX2_lowestNumber 16 = .ok (.iconst 0, 1) := by decide +kernel
theorem dX2_lowestNumber_17 : decode cX2_lowestNumber 17 = .ok (.ireturn, 1) := by decide +kernel
theorem dX2_highestNumber_0 : decode cX2_highestNumber 0 = .ok (.iload_n 0, 1) := by decide +kernel
theorem dX2_highestNumber_1 : decode cX2_highestNumber 1 = .ok (.lookupswitch 55 #[(65, 51), (68, 48), (78, 43), (87, 46)], 43) := by decide +kernel
theorem dX2_highestNumber_44 : decode cX2_highestNumber 44 = .ok (.bipush 60, 2) := by decide +kernel
theorem dX2_highestNumber_46 : decode cX2_highestNumber 46 = .ok (.ireturn, 1) := by decide +kernel
theorem dX2_highestNumber_47 : decode cX2_highestNumber 47 = .ok (.iconst 3, 1) := by decide +kernel
theorem dX2_highestNumber_48 : decode cX2_highestNumber 48 = .ok (.ireturn, 1) := by decide +kernel
theorem dX2_highestNumber_49 : decode cX2_highestNumber 49 = .ok (.bipush 7, 2) := by decide +kernel
theorem dX2_highestNumber_51 : decode cX2_highestNumber 51 = .ok (.ireturn, 1) := by decide +kernel
theorem dX2_highestNumber_52 : decode cX2_highestNumber 52 = .ok (.sipush 500, 3) := by decide +kernel
theorem dX2_highestNumber_55 : decode cX2_highestNumber 55 = .ok (.ireturn, 1) := by decide +kernel
theorem dX2_highestNumber_56 : decode cX2_highestNumber 56 = .ok (.iconst 4, 1) := by decide +kernel
theorem dX2_highestNumber_57 : decode cX2_highestNumber 57 = .ok (.ireturn, 1) := by decide +kernel
theorem dX3_init_0 : decode cX3_init 0 = .ok (.aload_n 0, 1) := by decide +kernel
theorem dX3_init_1 : decode cX3_init 1 = .ok (.invokespecial 1, 3) := by decide +kernel
theorem dX3_init_4 : decode cX3_init 4 = .ok (.return_, 1) := by decide +kernel
theorem dX3_add_0 : decode cX3_add 0 = .ok (.aload_n 0, 1) := by decide +kernel
theorem dX3_add_1 : decode cX3_add 1 = .ok (.aload_n 0, 1) := by decide +kernel
theorem dX3_add_2 : decode cX3_add 2 = .ok (.getfield 7, 3) := by decide +kernel
theorem dX3_add_5 : decode cX3_add 5 = .ok (.ifCond .ne 7, 3) := by decide +kernel
theorem dX3_add_8 : decode cX3_add 8 = .ok (.iload_n 1, 1) := by decide +kernel
theorem dX3_add_9 : decode cX3_add 9 = .ok (.goto 11, 3) := by decide +kernel
theorem dX3_add_12 : decode cX3_add 12 = .ok (.aload_n 0, 1) := by decide +kernel
theorem dX3_add_13 : decode cX3_add 13 = .ok (.getfield 13, 3) := by decide +kernel
theorem dX3_add_16 : decode cX3_add 16 = .ok (.iload_n 1, 1) := by decide +kernel
theorem dX3_add_17 : decode cX3_add 17 = .ok (.invokestatic 16, 3) := by decide +kernel
theorem dX3_add_20 : decode cX3_add 20 = .ok (.putfield 13, 3) := by decide +kernel
theorem dX3_add_23 : decode cX3_add 23 = .ok (.aload_n 0, 1) := by decide +kernel
theorem dX3_add_24 : decode cX3_add 24 = .ok (.aload_n 0, 1) := by decide +kernel
theorem dX3_add_25 : decode cX3_add 25 = .ok (.getfield 7, 3) := by decide +kernel
theorem dX3_add_28 : decode cX3_add 28 = .ok (.ifCond .ne 7, 3) := by decide +kernel
theorem dX3_add_31 : decode cX3_add 31 = .ok (.iload_n 1, 1) := by decide +kernel
theorem dX3_add_32 : decode cX3_add 32 = .ok (.goto 11, 3) := by decide +kernel
theorem dX3_add_35 : decode cX3_add 35 = .ok (.aload_n 0, 1) := by decide +kernel
theorem dX3_add_36 : decode cX3_add 36 = .ok (.getfield 22, 3) := by decide +kernel
theorem dX3_add_39 : decode cX3_add 39 = .ok (.iload_n 1, 1) := by decide +kernel
theorem dX3_add_40 : decode cX3_add 40 = .ok (.invokestatic 25, 3) := by decide +kernel
theorem dX3_add_43 : decode cX3_add 43 = .ok (.putfield 22, 3) := by decide +kernel
theorem dX3_add_46 : decode cX3_add 46 = .ok (.aload_n 0, 1) := by decide +kernel
theorem dX3_add_47 : decode cX3_add 47 = .ok (.dup, 1) := by decide +kernel
theorem dX3_add_48 : decode cX3_add 48 = .ok (.getfield 28, 3) := by decide +kernel
theorem dX3_add_51 : decode cX3_add 51 = .ok (.iload_n 1, 1) := by decide +kernel
theorem dX3_add_52 : decode cX3_add 52 = .ok (.iadd, 1) := by decide +kernel
theorem dX3_add_53 : decode cX3_add 53 = .ok (.putfield 28, 3) := by decide +kernel
theorem dX3_add_56 : decode cX3_add 56 = .ok (.aload_n 0, 1) := by decide +kernel
theorem dX3_add_57 : decode cX3_add 57 = .ok (.dup, 1) := by decide +kernel
theorem dX3_add_58 : decode cX3_add 58 = .ok (.getfield 7, 3) := by decide +kernel
theorem dX3_add_61 : decode cX3_add 61 = .ok (.iconst 1, 1) := by decide +kernel
theorem dX3_add_62 : decode cX3_add 62 = .ok (.iadd, 1) := by decide +kernel
theorem dX3_add_63 : decode cX3_add 63 = .ok (.putfield 7, 3) := by decide +kernel
theorem dX3_add_66 : decode cX3_add 66 = .ok (.return_, 1) := by decide +kernel
theorem dX3_mean_0 : decode cX3_mean 0 = .ok (.aload_n 0, 1) := by decide +kernel
theorem dX3_mean_1 : decode cX3_mean 1 = .ok (.getfield 7, 3) := by decide +kernel
theorem dX3_mean_4 : decode cX3_mean 4 = .ok (.iconst 1, 1) := by decide +kernel
theorem dX3_mean_5 : decode cX3_mean 5 = .ok (.if_icmp .ge 7, 3) := by decide +kernel
theorem dX3_mean_8 : decode cX3_mean 8 = .ok (.iconst 0, 1) := by decide +kernel
theorem dX3_mean_9 : decode cX3_mean 9 = .ok (.goto 14, 3) := by decide +kernel
theorem dX3_mean_12 : decode cX3_mean 12 = .ok (.aload_n 0, 1) := by decide +kernel
theorem dX3_mean_13 : decode cX3_mean 13 = .ok (.getfield 28, 3) := by decide +kernel
theorem dX3_mean_16 : decode cX3_mean 16 = .ok (.aload_n 0, 1) := by decide +kernel
theorem dX3_mean_17 : decode cX3_mean 17 = .ok (.getfield 7, 3) := by decide +kernel
theorem dX3_mean_20 : decode cX3_mean 20 = .ok (.invokestatic 31, 3) := by decide +kernel
theorem dX3_mean_23 : decode cX3_mean 23 = .ok (.ireturn, 1) := by decide +kernel
theorem dX3_spread_0 : decode cX3_spread 0 = .ok (.aload_n 0, 1) := by decide +kernel
theorem dX3_spread_1 : decode cX3_spread 1 = .ok (.getfield 22, 3) := by decide +kernel
theorem dX3_spread_4 : decode cX3_spread 4 = .ok (.aload_n 0, 1) := by decide +kernel
theorem dX3_spread_5 : decode cX3_spread 5 = .ok (.getfield 13, 3) := by decide +kernel
theorem dX3_spread_8 : decode cX3_spread 8 = .ok (.isub, 1) := by decide +kernel
theorem dX3_spread_9 : decode cX3_spread 9 = .ok (.ireturn, 1) := by decide +kernel
theorem dX4_init_0 : decode cX4_init 0 = .ok (.aload_n 0, 1) := by decide +kernel
theorem dX4_init_1 : decode cX4_init 1 = .ok (.invokespecial 3, 3) := by decide +kernel
theorem dX4_init_4 : decode cX4_init 4 = .ok (.aload_n 0, 1) := by decide +kernel
theorem dX4_init_5 : decode cX4_init 5 = .ok (.iconst 4, 1) := by decide +kernel
theorem dX4_init_6 : decode cX4_init 6 = .ok (.anewarray 9, 3) := by decide +kernel
theorem dX4_init_9 : decode cX4_init 9 = .ok (.putfield 11, 3) := by decide +kernel
theorem dX4_init_12 : decode cX4_init 12 = .ok (.iconst 0, 1) := by decide +kernel
theorem dX4_init_13 : decode cX4_init 13 = .ok (.istore_n 1, 1) := by decide +kernel
theorem dX4_init_14 : decode cX4_init 14 = .ok (.iload_n 1, 1) := by decide +kernel
theorem dX4_init_15 : decode cX4_init 15 = .ok (.iconst 4, 1) := by decide +kernel
theorem dX4_init_16 : decode cX4_init 16 = .ok (.if_icmp .ge 22, 3) := by decide +kernel
theorem dX4_init_19 : decode cX4_init 19 = .ok (.aload_n 0, 1) := by decide +kernel
theorem dX4_init_20 : decode cX4_init 20 = .ok (.getfield 11, 3) := by decide +kernel
theorem dX4_init_23 : decode cX4_init 23 = .ok (.iload_n 1, 1) := by decide +kernel
theorem dX4_init_24 : decode cX4_init 24 = .ok (.new 9, 3) := by decide +kernel
theorem dX4_init_27 : decode cX4_init 27 = .ok (.dup, 1) := by decide +kernel
theorem dX4_init_28 : decode cX4_init 28 = .ok (.invokespecial 17, 3) := by decide +kernel
theorem dX4_init_31 : decode cX4_init 31 = .ok (.aastore, 1) := by decide +kernel
theorem dX4_init_32 : decode cX4_init 32 = .ok (.iinc 1 1, 3) := by decide +kernel
theorem dX4_init_35 : decode cX4_init 35 = .ok (.goto (-21), 3) := by decide +kernel
theorem dX4_init_38 : decode cX4_init 38 = .ok (.aload_n 0, 1) := by decide +kernel
theorem dX4_init_39 : decode cX4_init 39 = .ok (.iconst 5, 1) := by decide +kernel
theorem dX4_init_40 : decode cX4_init 40 = .ok (.anewarray 18, 3) := by decide +kernel
theorem dX4_init_43 : decode cX4_init 43 = .ok (.putfield 20, 3) := by decide +kernel
theorem dX4_init_46 : decode cX4_init 46 = .ok (.iconst 0, 1) := by decide +kernel
theorem dX4_init_47 : decode cX4_init 47 = .ok (.istore_n 1, 1) := by decide +kernel
theorem dX4_init_48 : decode cX4_init 48 = .ok (.iload_n 1, 1) := by decide +kernel
theorem dX4_init_49 : decode cX4_init 49 = .ok (.iconst 5, 1) := by decide +kernel
theorem dX4_init_50 : decode cX4_init 50 = .ok (.if_icmp .ge 22, 3) := by decide +kernel
theorem dX4_init_53 : decode cX4_init 53 = .ok (.aload_n 0, 1) := by decide +kernel
theorem dX4_init_54 : decode cX4_init 54 = .ok (.getfield 20, 3) := by decide +kernel
theorem dX4_init_57 : decode cX4_init 57 = .ok (.iload_n 1, 1) := by decide +kernel
theorem dX4_init_58 : decode cX4_init 58 = .ok (.new 18, 3) := by decide +kernel
theorem dX4_init_61 : decode cX4_init 61 = .ok (.dup, 1) := by decide +kernel
theorem dX4_init_62 : decode cX4_init 62 = .ok (.invokespecial 24, 3) := by decide +kernel
theorem dX4_init_65 : decode cX4_init 65 = .ok (.aastore, 1) := by decide +kernel
theorem dX4_init_66 : decode cX4_init 66 = .ok (.iinc 1 1, 3) := by decide +kernel
theorem dX4_init_69 : decode cX4_init 69 = .ok (.goto (-21), 3) := by decide +kernel
theorem dX4_init_72 : decode cX4_init 72 = .ok (.aload_n 0, 1) := by decide +kernel
theorem dX4_init_73 : decode cX4_init 73 = .ok (.iconst 5, 1) := by decide +kernel
theorem dX4_init_74 : decode cX4_init 74 = .ok (.anewarray 25, 3) := by decide +kernel
theorem dX4_init_77 : decode cX4_init 77 = .ok (.putfield 27, 3) := by decide +kernel
theorem dX4_init_80 : decode cX4_init 80 = .ok (.iconst 0, 1) := by decide +kernel
theorem dX4_init_81 : decode cX4_init 81 = .ok (.istore_n 1, 1) := by decide +kernel
theorem dX4_init_82 : decode cX4_init 82 = .ok (.iload_n 1, 1) := by decide +kernel
theorem dX4_init_83 : decode cX4_init 83 = .ok (.iconst 5, 1) := by decide +kernel
theorem dX4_init_84 : decode cX4_init 84 = .ok (.if_icmp .ge 22, 3) := by decide +kernel
theorem dX4_init_87 : decode cX4_init 87 = .ok (.aload_n 0, 1) := by decide +kernel
theorem dX4_init_88 : decode cX4_init 88 = .ok (.getfield 27, 3) := by decide +kernel
theorem dX4_init_91 : decode cX4_init 91 = .ok (.iload_n 1, 1) := by decide +kernel
theorem dX4_init_92 : decode cX4_init 92 = .ok (.new 25, 3) := by decide +kernel
theorem dX4_init_95 : decode cX4_init 95 = .ok (.dup, 1) := by decide +kernel
theorem dX4_init_96 : decode cX4_init 96 = .ok (.invokespecial 31, 3) := by decide +kernel
theorem dX4_init_99 : decode cX4_init 99 = .ok (.aastore, 1) := by decide +kernel
theorem dX4_init_100 : decode cX4_init 100 = .ok (.iinc 1 1, 3) := by decide +kernel
theorem dX4_init_103 : decode cX4_init 103 = .ok (.goto (-21), 3) := by decide +kernel
theorem dX4_init_106 : decode cX4_init 106 = .ok (.aload_n 0, 1) := by decide +kernel
theorem dX4_init_107 : decode cX4_init 107 = .ok (.bipush 10, 2) := by decide +kernel
theorem dX4_init_109 : decode cX4_init 109 = .ok (.putfield 32, 3) := by decide +kernel
theorem dX4_init_112 : decode cX4_init 112 = .ok (.return_, 1) := by decide +kernel
theorem dX4_copyFrom_0 : decode cX4_copyFrom 0 = .ok (.iconst 0, 1) := by decide +kernel
theorem dX4_copyFrom_1 : decode cX4_copyFrom 1 = .ok (.istore_n 2, 1) := by decide +kernel
theorem dX4_copyFrom_2 : decode cX4_copyFrom 2 = .ok (.iload_n 2, 1) := by decide +kernel
theorem dX4_copyFrom_3 : decode cX4_copyFrom 3 = .ok (.iconst 4, 1) := by decide +kernel
theorem dX4_copyFrom_4 : decode cX4_copyFrom 4 = .ok (.if_icmp .ge 24, 3) := by decide +kernel
theorem dX4_copyFrom_7 : decode cX4_copyFrom 7 = .ok (.aload_n 0, 1) := by decide +kernel
theorem dX4_copyFrom_8 : decode cX4_copyFrom 8 = .ok (.getfield 11, 3) := by decide +kernel
theorem dX4_copyFrom_11 : decode cX4_copyFrom 11 = .ok (.iload_n 2, 1) := by decide +kernel
theorem dX4_copyFrom_12 : decode cX4_copyFrom 12 = .ok (.aaload, 1) := by decide +kernel
theorem dX4_copyFrom_13 : decode cX4_copyFrom 13 = .ok (.aload_n 1, 1) := by decide +kernel
theorem dX4_copyFrom_14 : decode cX4_copyFrom 14 = .ok (.getfield 11, 3) := by decide +kernel
theorem dX4_copyFrom_17 : decode cX4_copyFrom 17 = .ok (.iload_n 2, 1) := by decide +kernel
theorem dX4_copyFrom_18 : decode cX4_copyFrom 18 = .ok (.aaload, 1) := by decide +kernel
theorem dX4_copyFrom_19 : decode cX4_copyFrom 19 = .ok (.invokevirtual 36, 3) := by decide +kernel
theorem dX4_copyFrom_22 : decode cX4_copyFrom 22 = .ok (.iinc 2 1, 3) := by decide +kernel
theorem dX4_copyFrom_25 : decode cX4_copyFrom 25 = .ok (.goto (-23), 3) := by decide +kernel
theorem dX4_copyFrom_28 : decode cX4_copyFrom 28 = .ok (.iconst 0, 1) := by decide +kernel
theorem dX4_copyFrom_29 : decode cX4_copyFrom 29 = .ok (.istore_n 2, 1) := by decide +kernel
theorem dX4_copyFrom_30 : decode cX4_copyFrom 30 = .ok (.iload_n 2, 1) := by decide +kernel
theorem dX4_copyFrom_31 : decode cX4_copyFrom 31 = .ok (.iconst 5, 1) := by decide +kernel
theorem dX4_copyFrom_32 : decode cX4_copyFrom 32 = .ok (.if_icmp .ge 24, 3) := by decide +kernel
theorem dX4_copyFrom_35 : decode cX4_copyFrom 35 = .ok (.aload_n 0, 1) := by decide +kernel
theorem dX4_copyFrom_36 : decode cX4_copyFrom 36 = .ok (.getfield 20, 3) := by decide +kernel
theorem dX4_copyFrom_39 : decode cX4_copyFrom 39 = .ok (.iload_n 2, 1) := by decide +kernel
theorem dX4_copyFrom_40 : decode cX4_copyFrom 40 = .ok (.aaload, 1) := by decide +kernel
theorem dX4_copyFrom_41 : decode cX4_copyFrom 41 = .ok (.aload_n 1, 1) := by decide +kernel
theorem dX4_copyFrom_42 : decode cX4_copyFrom 42 = .ok (.getfield 20, 3) := by decide +kernel
theorem dX4_copyFrom_45 : decode cX4_copyFrom 45 = .ok (.iload_n 2, 1) := by decide +kernel
theorem dX4_copyFrom_46 : decode cX4_copyFrom 46 = .ok (.aaload, 1) := by decide +kernel
theorem dX4_copyFrom_47 : decode cX4_copyFrom 47 = .ok (.invokevirtual 40, 3) := by decide +kernel
theorem dX4_copyFrom_50 : decode cX4_copyFrom 50 = .ok (.iinc 2 1, 3) := by decide +kernel
theorem dX4_copyFrom_53 : decode cX4_copyFrom 53 = .ok (.goto (-23), 3) := by decide +kernel
theorem dX4_copyFrom_56 : decode cX4_copyFrom 56 = .ok (.aload_n 0, 1) := by decide +kernel
theorem dX4_copyFrom_57 : decode cX4_copyFrom 57 = .ok (.aload_n 1, 1) := by decide +kernel
theorem dX4_copyFrom_58 : decode cX4_copyFrom 58 = .ok (.getfield 43, 3) := by decide +kernel
theorem dX4_copyFrom_61 : decode cX4_copyFrom 61 = .ok (.putfield 43, 3) := by decide +kernel
theorem dX4_copyFrom_64 : decode cX4_copyFrom 64 = .ok (.iconst 0, 1) := by decide +kernel
theorem dX4_copyFrom_65 : decode cX4_copyFrom 65 = .ok (.istore_n 2, 1) := by decide +kernel
theorem dX4_copyFrom_66 : decode cX4_copyFrom 66 = .ok (.iload_n 2, 1) := by decide +kernel
theorem dX4_copyFrom_67 : decode cX4_copyFrom 67 = .ok (.iconst 5, 1) := by decide +kernel
theorem dX4_copyFrom_68 : decode cX4_copyFrom 68 = .ok (.if_icmp .ge 24, 3) := by decide +kernel
theorem dX4_copyFrom_71 : decode cX4_copyFrom 71 = .ok (.aload_n 0, 1) := by decide +kernel
theorem dX4_copyFrom_72 : decode cX4_copyFrom 72 = .ok (.getfield 27, 3) := by decide +kernel
theorem dX4_copyFrom_75 : decode cX4_copyFrom 75 = .ok (.iload_n 2, 1) := by decide +kernel
theorem dX4_copyFrom_76 : decode cX4_copyFrom 76 = .ok (.aaload, 1) := by decide +kernel
theorem dX4_copyFrom_77 : decode cX4_copyFrom 77 = .ok (.aload_n 1, 1) := by decide +kernel
theorem dX4_copyFrom_78 : decode cX4_copyFrom 78 = .ok (.getfield 27, 3) := by decide +kernel
theorem dX4_copyFrom_81 : decode cX4_copyFrom 81 = .ok (.iload_n 2, 1) := by decide +kernel
theorem dX4_copyFrom_82 : decode cX4_copyFrom 82 = .ok (.aaload, 1) := by decide +kernel
theorem dX4_copyFrom_83 : decode cX4_copyFrom 83 = .ok (.invokevirtual 46, 3) := by decide +kernel
theorem dX4_copyFrom_86 : decode cX4_copyFrom 86 = .ok (.iinc 2 1, 3) := by decide +kernel
theorem dX4_copyFrom_89 : decode cX4_copyFrom 89 = .ok (.goto (-23), 3) := by decide +kernel
theorem dX4_copyFrom_92 : decode cX4_copyFrom 92 = .ok (.aload_n 0, 1) := by decide +kernel
theorem dX4_copyFrom_93 : decode cX4_copyFrom 93 = .ok (.aload_n 1, 1) := by decide +kernel
theorem dX4_copyFrom_94 : decode cX4_copyFrom 94 = .ok (.getfield 49, 3) := by decide +kernel
theorem dX4_copyFrom_97 : decode cX4_copyFrom 97 = .ok (.putfield 49, 3) := by decide +kernel
theorem dX4_copyFrom_100 : decode cX4_copyFrom 100 = .ok (.aload_n 0, 1) := by decide +kernel
theorem dX4_copyFrom_101 : decode cX4_copyFrom 101 = .ok (.aload_n 1, 1) := by decide +kernel
theorem dX4_copyFrom_102 : decode cX4_copyFrom 102 = .ok (.getfield 52, 3) := by decide +kernel
theorem dX4_copyFrom_105 : decode cX4_copyFrom 105 = .ok (.putfield 52, 3) := by decide +kernel
theorem dX4_copyFrom_108 : decode cX4_copyFrom 108 = .ok (.aload_n 0, 1) := by decide +kernel
theorem dX4_copyFrom_109 : decode cX4_copyFrom 109 = .ok (.aload_n 1, 1) := by decide +kernel
theorem dX4_copyFrom_110 : decode cX4_copyFrom 110 = .ok (.getfield 32, 3) := by decide +kernel
theorem dX4_copyFrom_113 : decode cX4_copyFrom 113 = .ok (.putfield 32, 3) := by decide +kernel
theorem dX4_copyFrom_116 : decode cX4_copyFrom 116 = .ok (.aload_n 0, 1) := by decide +kernel
theorem dX4_copyFrom_117 : decode cX4_copyFrom 117 = .ok (.aload_n 1, 1) := by decide +kernel
theorem dX4_copyFrom_118 : decode cX4_copyFrom 118 = .ok (.getfield 55, 3) := by decide +kernel
theorem dX4_copyFrom_121 : decode cX4_copyFrom 121 = .ok (.putfield 55, 3) := by decide +kernel
theorem dX4_copyFrom_124 : decode cX4_copyFrom 124 = .ok (.return_, 1) := by decide +kernel
theorem dX4_hungWires_0 : decode cX4_hungWires 0 = .ok (.iconst 0, 1) := by decide +kernel
theorem dX4_hungWires_1 : decode cX4_hungWires 1 = .ok (.istore_n 1, 1) := by decide +kernel
theorem dX4_hungWires_2 : decode cX4_hungWires 2 = .ok (.iconst 0, 1) := by decide +kernel
theorem dX4_hungWires_3 : decode cX4_hungWires 3 = .ok (.istore_n 2, 1) := by decide +kernel
theorem dX4_hungWires_4 : decode cX4_hungWires 4 = .ok (.iload_n 2, 1) := by decide +kernel
theorem dX4_hungWires_5 : decode cX4_hungWires 5 = .ok (.iconst 4, 1) := by decide +kernel
theorem dX4_hungWires_6 : decode cX4_hungWires 6 = .ok (.if_icmp .ge 24, 3) := by decide +kernel
theorem dX4_hungWires_9 : decode cX4_hungWires 9 = .ok (.aload_n 0, 1) := by decide +kernel
theorem dX4_hungWires_10 : decode cX4_hungWires 10 = .ok (.getfield 11, 3) := by decide +kernel
theorem dX4_hungWires_13 : decode cX4_hungWires 13 = .ok (.iload_n 2, 1) := by decide +kernel
theorem dX4_hungWires_14 : decode cX4_hungWires 14 = .ok (.aaload, 1) := by decide +kernel
theorem dX4_hungWires_15 : decode cX4_hungWires 15 = .ok (.getfield 58, 3) := by decide +kernel
theorem dX4_hungWires_18 : decode cX4_hungWires 18 = .ok (.ifCond .eq 6, 3) := by decide +kernel
theorem dX4_hungWires_21 : decode cX4_hungWires 21 = .ok (.iinc 1 1, 3) := by decide +kernel
theorem dX4_hungWires_24 : decode cX4_hungWires 24 = .ok (.iinc 2 1, 3) := by decide +kernel
theorem dX4_hungWires_27 : decode cX4_hungWires 27 = .ok (.goto (-23), 3) := by decide +kernel
theorem dX4_hungWires_30 : decode cX4_hungWires 30 = .ok (.iload_n 1, 1) := by decide +kernel
theorem dX4_hungWires_31 : decode cX4_hungWires 31 = .ok (.ireturn, 1) := by decide +kernel
theorem dX4_orientedStations_0 : decode cX4_orientedStations 0 = .ok (.iconst 0, 1) := by decide +kernel
theorem dX4_orientedStations_1 : decode cX4_orientedStations 1 = .ok (.istore_n 1, 1) := by decide +kernel
theorem dX4_orientedStations_2 : decode cX4_orientedStations 2 = .ok (.iconst 0, 1) := by decide +kernel
theorem dX4_orientedStations_3 : decode cX4_orientedStations 3 = .ok (.istore_n 2, 1) := by decide +kernel
theorem dX4_orientedStations_4 : decode cX4_orientedStations 4 = .ok (.iload_n 2, 1) := by decide +kernel
theorem dX4_orientedStations_5 : decode cX4_orientedStations 5 = .ok (.aload_n 0, 1) := by decide +kernel
theorem dX4_orientedStations_6 : decode cX4_orientedStations 6 = .ok (.getfield 49, 3) := by decide +kernel
theorem dX4_orientedStations_9 : decode cX4_orientedStations 9 = .ok (.if_icmp .ge 24, 3) := by decide +kernel
theorem dX4_orientedStations_12 : decode cX4_orientedStations 12 = .ok (.aload_n 0, 1) := by decide +kernel
theorem dX4_orientedStations_13 : decode cX4_orientedStations 13 = .ok (.getfield 27, 3) := by decide +kernel
theorem dX4_orientedStations_16 : decode cX4_orientedStations 16 = .ok (.iload_n 2, 1) := by decide +kernel
theorem dX4_orientedStations_17 : decode cX4_orientedStations 17 = .ok (.aaload, 1) := by decide +kernel
theorem dX4_orientedStations_18 : decode cX4_orientedStations 18 = .ok (.getfield 62, 3) := by decide +kernel
theorem dX4_orientedStations_21 : decode cX4_orientedStations 21 = .ok (.ifCond .eq 6, 3) := by decide +kernel
theorem dX4_orientedStations_24 : decode cX4_orientedStations 24 = .ok (.iinc 1 1, 3) := by decide +kernel
theorem dX4_orientedStations_27 : decode cX4_orientedStations 27 = .ok (.iinc 2 1, 3) := by decide +kernel
theorem dX4_orientedStations_30 : decode cX4_orientedStations 30 = .ok (.goto (-26), 3) := by decide +kernel
theorem dX4_orientedStations_33 : decode cX4_orientedStations 33 = .ok (.iload_n 1, 1) := by decide +kernel
theorem dX4_orientedStations_34 : decode cX4_orientedStations 34 = .ok (.ireturn, 1) := by decide +kernel
theorem dX4_validObservations_0 : decode cX4_validObservations 0 = .ok (.iconst 0, 1) := by decide +kernel
theorem dX4_validObservations_1 : decode cX4_validObservations 1 = .ok (.istore_n 1, 1) := by decide +kernel
theorem dX4_validObservations_2 : decode cX4_validObservations 2 = .ok (.iconst 0, 1) := by decide +kernel
theorem dX4_validObservations_3 : decode cX4_validObservations 3 = .ok (.istore_n 2, 1) := by decide +kernel
theorem dX4_validObservations_4 : decode cX4_validObservations 4 = .ok (.iload_n 2, 1) := by decide +kernel
theorem dX4_validObservations_5 : decode cX4_validObservations 5 = .ok (.aload_n 0, 1) := by decide +kernel
theorem dX4_validObservations_6 : decode cX4_validObservations 6 = .ok (.getfield 49, 3) := by decide +kernel
theorem dX4_validObservations_9 : decode cX4_validObservations 9 = .ok (.if_icmp .ge 21, 3) := by decide +kernel
theorem dX4_validObservations_12 : decode cX4_validObservations 12 = .ok (.iload_n 1, 1) := by decide +kernel
theorem dX4_validObservations_13 : decode cX4_validObservations 13 = .ok (.aload_n 0, 1) := by decide +kernel
theorem dX4_validObservations_14 : decode cX4_validObservations 14 = .ok (.getfield 27, 3) := by decide +kernel
theorem dX4_validObservations_17 : decode cX4_validObservations 17 = .ok (.iload_n 2, 1) := by decide +kernel
theorem dX4_validObservations_18 : decode cX4_validObservations 18 = .ok (.aaload, 1) := by decide +kernel
theorem dX4_validObservations_19 : decode cX4_validObservations 19 = .ok (.invokevirtual 65, 3) := by decide +kernel
theorem dX4_validObservations_22 : decode cX4_validObservations 22 = .ok (.iadd, 1) := by decide +kernel
theorem dX4_validObservations_23 : decode cX4_validObservations 23 = .ok (.istore_n 1, 1) := by decide +kernel
theorem dX4_validObservations_24 : decode cX4_validObservations 24 = .ok (.iinc 2 1, 3) := by decide +kernel
theorem dX4_validObservations_27 : decode cX4_validObservations 27 = .ok (.goto (-23), 3) := by decide +kernel
theorem dX4_validObservations_30 : decode cX4_validObservations 30 = .ok (.iload_n 1, 1) := by decide +kernel
theorem dX4_validObservations_31 : decode cX4_validObservations 31 = .ok (.ireturn, 1) := by decide +kernel
theorem dX4_voidWire_0 : decode cX4_voidWire 0 = .ok (.iconst 0, 1) := by decide +kernel
theorem dX4_voidWire_1 : decode cX4_voidWire 1 = .ok (.istore_n 2, 1) := by decide +kernel
theorem dX4_voidWire_2 : decode cX4_voidWire 2 = .ok (.iconst 0, 1) := by decide +kernel
theorem dX4_voidWire_3 : decode cX4_voidWire 3 = .ok (.istore_n 3, 1) := by decide +kernel
theorem dX4_voidWire_4 : decode cX4_voidWire 4 = .ok (.iload_n 3, 1) := by decide +kernel
theorem dX4_voidWire_5 : decode cX4_voidWire 5 = .ok (.aload_n 0, 1) := by decide +kernel
theorem dX4_voidWire_6 : decode cX4_voidWire 6 = .ok (.getfield 49, 3) := by decide +kernel
theorem dX4_voidWire_9 : decode cX4_voidWire 9 = .ok (.if_icmp .ge 39, 3) := by decide +kernel
theorem dX4_voidWire_12 : decode cX4_voidWire 12 = .ok (.aload_n 0, 1) := by decide +kernel
theorem dX4_voidWire_13 : decode cX4_voidWire 13 = .ok (.getfield 27, 3) := by decide +kernel
theorem dX4_voidWire_16 : decode cX4_voidWire 16 = .ok (.iload_n 3, 1) := by decide +kernel
theorem dX4_voidWire_17 : decode cX4_voidWire 17 = .ok (.aaload, 1) := by decide +kernel
theorem dX4_voidWire_18 : decode cX4_voidWire 18 = .ok (.getfield 69, 3) := by decide +kernel
theorem dX4_voidWire_21 : decode cX4_voidWire 21 = .ok (.iload_n 1, 1) := by decide +kernel
theorem dX4_voidWire_22 : decode cX4_voidWire 22 = .ok (.aaload, 1) := by decide +kernel
theorem dX4_voidWire_23 : decode cX4_voidWire 23 = .ok (.astore 4, 2) := by decide +kernel
theorem dX4_voidWire_25 : decode cX4_voidWire 25 = .ok (.aload 4, 2) := by decide +kernel
theorem dX4_voidWire_27 : decode cX4_voidWire 27 = .ok (.getfield 73, 3) := by decide +kernel
theorem dX4_voidWire_30 : decode cX4_voidWire 30 = .ok (.ifCond .eq 12, 3) := by decide +kernel
theorem dX4_voidWire_33 : decode cX4_voidWire 33 = .ok (.aload 4, 2) := by decide +kernel
theorem dX4_voidWire_35 : decode cX4_voidWire 35 = .ok (.iconst 0, 1) := by decide +kernel
theorem dX4_voidWire_36 : decode cX4_voidWire 36 = .ok (.putfield 73, 3) := by decide +kernel
theorem dX4_voidWire_39 : decode cX4_voidWire 39 = .ok (.iinc 2 1, 3) := by decide +kernel
theorem dX4_voidWire_42 : decode cX4_voidWire 42 = .ok (.iinc 3 1, 3) := by decide +kernel
theorem dX4_voidWire_45 : decode cX4_voidWire 45 = .ok (.goto (-41), 3) := by decide +kernel
theorem dX4_voidWire_48 : decode cX4_voidWire 48 = .ok (.iload_n 2, 1) := by decide +kernel
theorem dX4_voidWire_49 : decode cX4_voidWire 49 = .ok (.ireturn, 1) := by decide +kernel
theorem dX4_voidAllWires_0 : decode cX4_voidAllWires 0 = .ok (.iconst 0, 1) := by decide +kernel
theorem dX4_voidAllWires_1 : decode cX4_voidAllWires 1 = .ok (.istore_n 1, 1) := by decide +kernel
theorem dX4_voidAllWires_2 : decode cX4_voidAllWires 2 = .ok (.iload_n 1, 1) := by decide +kernel
theorem dX4_voidAllWires_3 : decode cX4_voidAllWires 3 = .ok (.iconst 4, 1) := by decide +kernel
theorem dX4_voidAllWires_4 : decode cX4_voidAllWires 4 = .ok (.if_icmp .ge 15, 3) := by decide +kernel
theorem dX4_voidAllWires_7 : decode cX4_voidAllWires 7 = .ok (.aload_n 0, 1) := by decide +kernel
theorem dX4_voidAllWires_8 : decode cX4_voidAllWires 8 = .ok (.iload_n 1, 1) := by decide +kernel
theorem dX4_voidAllWires_9 : decode cX4_voidAllWires 9 = .ok (.invokevirtual 78, 3) := by decide +kernel
theorem dX4_voidAllWires_12 : decode cX4_voidAllWires 12 = .ok (.pop, 1) := by decide +kernel
theorem dX4_voidAllWires_13 : decode cX4_voidAllWires 13 = .ok (.iinc 1 1, 3) := by decide +kernel
theorem dX4_voidAllWires_16 : decode cX4_voidAllWires 16 = .ok (.goto (-14), 3) := by decide +kernel
theorem dX4_voidAllWires_19 : decode cX4_voidAllWires 19 = .ok (.return_, 1) := by decide +kernel
theorem dX4_passTick_0 : decode cX4_passTick 0 = .ok (.aload_n 0, 1) := by decide +kernel
theorem dX4_passTick_1 : decode cX4_passTick 1 = .ok (.dup, 1) := by decide +kernel
theorem dX4_passTick_2 : decode cX4_passTick 2 = .ok (.getfield 52, 3) := by decide +kernel
theorem dX4_passTick_5 : decode cX4_passTick 5 = .ok (.iconst 1, 1) := by decide +kernel
theorem dX4_passTick_6 : decode cX4_passTick 6 = .ok (.iadd, 1) := by decide +kernel
theorem dX4_passTick_7 : decode cX4_passTick 7 = .ok (.putfield 52, 3) := by decide +kernel
theorem dX4_passTick_10 : decode cX4_passTick 10 = .ok (.iconst 0, 1) := by decide +kernel
theorem dX4_passTick_11 : decode cX4_passTick 11 = .ok (.istore_n 1, 1) := by decide +kernel
theorem dX4_passTick_12 : decode cX4_passTick 12 = .ok (.iload_n 1, 1) := by decide +kernel
theorem dX4_passTick_13 : decode cX4_passTick 13 = .ok (.iconst 4, 1) := by decide +kernel
theorem dX4_passTick_14 : decode cX4_passTick 14 = .ok (.if_icmp .ge 30, 3) := by decide +kernel
theorem dX4_passTick_17 : decode cX4_passTick 17 = .ok (.aload_n 0, 1) := by decide +kernel
theorem dX4_passTick_18 : decode cX4_passTick 18 = .ok (.getfield 11, 3) := by decide +kernel
theorem dX4_passTick_21 : decode cX4_passTick 21 = .ok (.iload_n 1, 1) := by decide +kernel
theorem dX4_passTick_22 : decode cX4_passTick 22 = .ok (.aaload, 1) := by decide +kernel
theorem dX4_passTick_23 : decode cX4_passTick 23 = .ok (.getfield 58, 3) := by decide +kernel
theorem dX4_passTick_26 : decode cX4_passTick 26 = .ok (.ifCond .eq 12, 3) := by decide +kernel
theorem dX4_passTick_29 : decode cX4_passTick 29 = .ok (.aload_n 0, 1) := by decide +kernel
theorem dX4_passTick_30 : decode cX4_passTick 30 = .ok (.getfield 11, 3) := by decide +kernel
theorem dX4_passTick_33 : decode cX4_passTick 33 = .ok (.iload_n 1, 1) := by decide +kernel
theorem dX4_passTick_34 : decode cX4_passTick 34 = .ok (.aaload, 1) := by decide +kernel
theorem dX4_passTick_35 : decode cX4_passTick 35 = .ok (.invokevirtual 82, 3) := by decide +kernel
theorem dX4_passTick_38 : decode cX4_passTick 38 = .ok (.iinc 1 1, 3) := by decide +kernel
theorem dX4_passTick_41 : decode cX4_passTick 41 = .ok (.goto (-29), 3) := by decide +kernel
theorem dX4_passTick_44 : decode cX4_passTick 44 = .ok (.return_, 1) := by decide +kernel
theorem dX4_restAt_0 : decode cX4_restAt 0 = .ok (.iload_n 3, 1) := by decide +kernel
theorem dX4_restAt_1 : decode cX4_restAt 1 = .ok (.ifCond .ne 15, 3) := by decide +kernel
theorem dX4_restAt_4 : decode cX4_restAt 4 = .ok (.aload_n 1, 1) := by decide +kernel
theorem dX4_restAt_5 : decode cX4_restAt 5 = .ok (.getfield 85, 3) := by decide +kernel
theorem dX4_restAt_8 : decode cX4_restAt 8 = .ok (.aload_n 1, 1) := by decide +kernel
theorem dX4_restAt_9 : decode cX4_restAt 9 = .ok (.getfield 88, 3) := by decide +kernel
theorem dX4_restAt_12 : decode cX4_restAt 12 = .ok (.iadd, 1) := by decide +kernel
theorem dX4_restAt_13 : decode cX4_restAt 13 = .ok (.goto 12, 3) := by decide +kernel
theorem dX4_restAt_16 : decode cX4_restAt 16 = .ok (.aload_n 1, 1) := by decide +kernel
theorem dX4_restAt_17 : decode cX4_restAt 17 = .ok (.getfield 91, 3) := by decide +kernel
theorem dX4_restAt_20 : decode cX4_restAt 20 = .ok (.aload_n 1, 1) := by decide +kernel
theorem dX4_restAt_21 : decode cX4_restAt 21 = .ok (.getfield 94, 3) := by decide +kernel
theorem dX4_restAt_24 : decode cX4_restAt 24 = .ok (.iadd, 1) := by decide +kernel
theorem dX4_restAt_25 : decode cX4_restAt 25 = .ok (.istore 4, 2) := by decide +kernel
theorem dX4_restAt_27 : decode cX4_restAt 27 = .ok (.iconst 0, 1) := by decide +kernel
theorem dX4_restAt_28 : decode cX4_restAt 28 = .ok (.istore 5, 2) := by decide +kernel
theorem dX4_restAt_30 : decode cX4_restAt 30 = .ok (.iload 5, 2) := by decide +kernel
theorem dX4_restAt_32 : decode cX4_restAt 32 = .ok (.aload_n 0, 1) := by decide +kernel
theorem dX4_restAt_33 : decode cX4_restAt 33 = .ok (.getfield 43, 3) := by decide +kernel
theorem dX4_restAt_36 : decode cX4_restAt 36 = .ok (.if_icmp .ge 30, 3) := by decide +kernel
theorem dX4_restAt_39 : decode cX4_restAt 39 = .ok (.iload 4, 2) := by decide +kernel
theorem dX4_restAt_41 : decode cX4_restAt 41 = .ok (.aload_n 0, 1) := by decide +kernel
theorem dX4_restAt_42 : decode cX4_restAt 42 = .ok (.getfield 20, 3) := by decide +kernel
theorem dX4_restAt_45 : decode cX4_restAt 45 = .ok (.iload 5, 2) := by decide +kernel
theorem dX4_restAt_47 : decode cX4_restAt 47 = .ok (.aaload, 1) := by decide +kernel
theorem dX4_restAt_48 : decode cX4_restAt 48 = .ok (.aload_n 1, 1) := by decide +kernel
theorem dX4_restAt_49 : decode cX4_restAt 49 = .ok (.getfield 97, 3) := by decide +kernel
theorem dX4_restAt_52 : decode cX4_restAt 52 = .ok (.iload_n 2, 1) := by decide +kernel
theorem dX4_restAt_53 : decode cX4_restAt 53 = .ok (.iload_n 3, 1) := by decide +kernel
theorem dX4_restAt_54 : decode cX4_restAt 54 = .ok (.invokevirtual 100, 3) := by decide +kernel
theorem dX4_restAt_57 : decode cX4_restAt 57 = .ok (.iadd, 1) := by decide +kernel
theorem dX4_restAt_58 : decode cX4_restAt 58 = .ok (.istore 4, 2) := by decide +kernel
theorem dX4_restAt_60 : decode cX4_restAt 60 = .ok (.iinc 5 1, 3) := by decide +kernel
theorem dX4_restAt_63 : decode cX4_restAt 63 = .ok (.goto (-33), 3) := by decide +kernel
theorem dX4_restAt_66 : decode cX4_restAt 66 = .ok (.iload 4, 2) := by decide +kernel
theorem dX4_restAt_68 : decode cX4_restAt 68 = .ok (.ireturn, 1) := by decide +kernel
theorem dX4_look_0 : decode cX4_look 0 = .ok (.aload_n 0, 1) := by decide +kernel
theorem dX4_look_1 : decode cX4_look 1 = .ok (.getfield 11, 3) := by decide +kernel
theorem dX4_look_4 : decode cX4_look 4 = .ok (.iload_n 1, 1) := by decide +kernel
theorem dX4_look_5 : decode cX4_look 5 = .ok (.aaload, 1) := by decide +kernel
theorem dX4_look_6 : decode cX4_look 6 = .ok (.astore 4, 2) := by decide +kernel
theorem dX4_look_8 : decode cX4_look 8 = .ok (.aload_n 0, 1) := by decide +kernel
theorem dX4_look_9 : decode cX4_look 9 = .ok (.getfield 27, 3) := by decide +kernel
theorem dX4_look_12 : decode cX4_look 12 = .ok (.iload_n 2, 1) := by decide +kernel
theorem dX4_look_13 : decode cX4_look 13 = .ok (.aaload, 1) := by decide +kernel
theorem dX4_look_14 : decode cX4_look 14 = .ok (.getfield 104, 3) := by decide +kernel
theorem dX4_look_17 : decode cX4_look 17 = .ok (.istore 5, 2) := by decide +kernel
theorem dX4_look_19 : decode cX4_look 19 = .ok (.aload_n 0, 1) := by decide +kernel
theorem dX4_look_20 : decode cX4_look 20 = .ok (.aload 4, 2) := by decide +kernel
theorem dX4_look_22 : decode cX4_look 22 = .ok (.iload 5, 2) := by decide +kernel
theorem dX4_look_24 : decode cX4_look 24 = .ok (.iconst 0, 1) := by decide +kernel
theorem dX4_look_25 : decode cX4_look 25 = .ok (.invokevirtual 107, 3) := by decide +kernel
theorem dX4_look_28 : decode cX4_look 28 = .ok (.istore 6, 2) := by decide +kernel
theorem dX4_look_30 : decode cX4_look 30 = .ok (.aload_n 0, 1) := by decide +kernel
theorem dX4_look_31 : decode cX4_look 31 = .ok (.aload 4, 2) := by decide +kernel
theorem dX4_look_33 : decode cX4_look 33 = .ok (.iload 5, 2) := by decide +kernel
theorem dX4_look_35 : decode cX4_look 35 = .ok (.iconst 1, 1) := by decide +kernel
theorem dX4_look_36 : decode cX4_look 36 = .ok (.invokevirtual 107, 3) := by decide +kernel
theorem dX4_look_39 : decode cX4_look 39 = .ok (.istore 7, 2) := by decide +kernel
theorem dX4_look_41 : decode cX4_look 41 = .ok (.new 111, 3) := by decide +kernel
theorem dX4_look_44 : decode cX4_look 44 = .ok (.dup, 1) := by decide +kernel
theorem dX4_look_45 : decode cX4_look 45 = .ok (.invokespecial 113, 3) := by decide +kernel
theorem dX4_look_48 : decode cX4_look 48 = .ok (.astore 8, 2) := by decide +kernel
theorem dX4_look_50 : decode cX4_look 50 = .ok (.new 111, 3) := by decide +kernel
theorem dX4_look_53 : decode cX4_look 53 = .ok (.dup, 1) := by decide +kernel
theorem dX4_look_54 : decode cX4_look 54 = .ok (.invokespecial 113, 3) := by decide +kernel
theorem dX4_look_57 : decode cX4_look 57 = .ok (.astore 9, 2) := by decide +kernel
theorem dX4_look_59 : decode cX4_look 59 = .ok (.iconst 0, 1) := by decide +kernel
theorem dX4_look_60 : decode cX4_look 60 = .ok (.istore 10, 2) := by decide +kernel
theorem dX4_look_62 : decode cX4_look 62 = .ok (.iload 10, 2) := by decide +kernel
theorem dX4_look_64 : decode cX4_look 64 = .ok (.iload_n 3, 1) := by decide +kernel
theorem dX4_look_65 : decode cX4_look 65 = .ok (.if_icmp .ge 45, 3) := by decide +kernel
theorem dX4_look_68 : decode cX4_look 68 = .ok (.aload 8, 2) := by decide +kernel
theorem dX4_look_70 : decode cX4_look 70 = .ok (.iload 6, 2) := by decide +kernel
theorem dX4_look_72 : decode cX4_look 72 = .ok (.aload 4, 2) := by decide +kernel
theorem dX4_look_74 : decode cX4_look 74 = .ok (.iload 5, 2) := by decide +kernel
theorem dX4_look_76 : decode cX4_look 76 = .ok (.iconst 0, 1) := by decide +kernel
theorem dX4_look_77 : decode cX4_look 77 = .ok (.invokevirtual 114, 3) := by decide +kernel
theorem dX4_look_80 : decode cX4_look 80 = .ok (.iadd, 1) := by decide +kernel
theorem dX4_look_81 : decode cX4_look 81 = .ok (.invokevirtual 118, 3) := by decide +kernel
theorem dX4_look_84 : decode cX4_look 84 = .ok (.aload 9, 2) := by decide +kernel
theorem dX4_look_86 : decode cX4_look 86 = .ok (.iload 7, 2) := by decide +kernel
theorem dX4_look_88 : decode cX4_look 88 = .ok (.aload 4, 2) := by decide +kernel
theorem dX4_look_90 : decode cX4_look 90 = .ok (.iload 5, 2) := by decide +kernel
theorem dX4_look_92 : decode cX4_look 92 = .ok (.iconst 1, 1) := by decide +kernel
theorem dX4_look_93 : decode cX4_look 93 = .ok (.invokevirtual 114, 3) := by decide +kernel
theorem dX4_look_96 : decode cX4_look 96 = .ok (.iadd, 1) := by decide +kernel
theorem dX4_look_97 : decode cX4_look 97 = .ok (.invokevirtual 118, 3) := by decide +kernel
theorem dX4_look_100 : decode cX4_look 100 = .ok (.aload_n 0, 1) := by decide +kernel
theorem dX4_look_101 : decode cX4_look 101 = .ok (.invokevirtual 122, 3) := by decide +kernel
theorem dX4_look_104 : decode cX4_look 104 = .ok (.iinc 10 1, 3) := by decide +kernel
theorem dX4_look_107 : decode cX4_look 107 = .ok (.goto (-45), 3) := by decide +kernel
theorem dX4_look_110 : decode cX4_look 110 = .ok (.aload_n 0, 1) := by decide +kernel
theorem dX4_look_111 : decode cX4_look 111 = .ok (.dup, 1) := by decide +kernel
theorem dX4_look_112 : decode cX4_look 112 = .ok (.getfield 55, 3) := by decide +kernel
theorem dX4_look_115 : decode cX4_look 115 = .ok (.iload_n 3, 1) := by decide +kernel
theorem dX4_look_116 : decode cX4_look 116 = .ok (.iadd, 1) := by decide +kernel
theorem dX4_look_117 : decode cX4_look 117 = .ok (.putfield 55, 3) := by decide +kernel
theorem dX4_look_120 : decode cX4_look 120 = .ok (.aload_n 0, 1) := by decide +kernel
theorem dX4_look_121 : decode cX4_look 121 = .ok (.getfield 27, 3) := by decide +kernel
theorem dX4_look_124 : decode cX4_look 124 = .ok (.iload_n 2, 1) := by decide +kernel
theorem dX4_look_125 : decode cX4_look 125 = .ok (.aaload, 1) := by decide +kernel
theorem dX4_look_126 : decode cX4_look 126 = .ok (.getfield 69, 3) := by decide +kernel
theorem dX4_look_129 : decode cX4_look 129 = .ok (.iload_n 1, 1) := by decide +kernel
theorem dX4_look_130 : decode cX4_look 130 = .ok (.aaload, 1) := by decide +kernel
theorem dX4_look_131 : decode cX4_look 131 = .ok (.astore 10, 2) := by decide +kernel
theorem dX4_look_133 : decode cX4_look 133 = .ok (.aload 10, 2) := by decide +kernel
theorem dX4_look_135 : decode cX4_look 135 = .ok (.iconst 1, 1) := by decide +kernel
theorem dX4_look_136 : decode cX4_look 136 = .ok (.putfield 73, 3) := by decide +kernel
theorem dX4_look_139 : decode cX4_look 139 = .ok (.aload 10, 2) := by decide +kernel
theorem dX4_look_141 : decode cX4_look 141 = .ok (.aload 8, 2) := by decide +kernel
theorem dX4_look_143 : decode cX4_look 143 = .ok (.invokevirtual 125, 3) := by decide +kernel
theorem dX4_look_146 : decode cX4_look 146 = .ok (.putfield 128, 3) := by decide +kernel
theorem dX4_look_149 : decode cX4_look 149 = .ok (.aload 10, 2) := by decide +kernel
theorem dX4_look_151 : decode cX4_look 151 = .ok (.aload 9, 2) := by decide +kernel
theorem dX4_look_153 : decode cX4_look 153 = .ok (.invokevirtual 125, 3) := by decide +kernel
theorem dX4_look_156 : decode cX4_look 156 = .ok (.putfield 131, 3) := by decide +kernel
theorem dX4_look_159 : decode cX4_look 159 = .ok (.aload 10, 2) := by decide +kernel
theorem dX4_look_161 : decode cX4_look 161 = .ok (.aload 8, 2) := by decide +kernel
theorem dX4_look_163 : decode cX4_look 163 = .ok (.invokevirtual 134, 3) := by decide +kernel
theorem dX4_look_166 : decode cX4_look 166 = .ok (.aload 9, 2) := by decide +kernel
theorem dX4_look_168 : decode cX4_look 168 = .ok (.invokevirtual 134, 3) := by decide +kernel
theorem dX4_look_171 : decode cX4_look 171 = .ok (.invokestatic 137, 3) := by decide +kernel
theorem dX4_look_174 : decode cX4_look 174 = .ok (.putfield 142, 3) := by decide +kernel
theorem dX4_look_177 : decode cX4_look 177 = .ok (.aload 10, 2) := by decide +kernel
theorem dX4_look_179 : decode cX4_look 179 = .ok (.iload_n 3, 1) := by decide +kernel
theorem dX4_look_180 : decode cX4_look 180 = .ok (.putfield 144, 3) := by decide +kernel
theorem dX4_look_183 : decode cX4_look 183 = .ok (.aload 10, 2) := by decide +kernel
theorem dX4_look_185 : decode cX4_look 185 = .ok (.aload_n 0, 1) := by decide +kernel
theorem dX4_look_186 : decode cX4_look 186 = .ok (.getfield 52, 3) := by decide +kernel
theorem dX4_look_189 : decode cX4_look 189 = .ok (.putfield 147, 3) := by decide +kernel
theorem dX4_look_192 : decode cX4_look 192 = .ok (.return_, 1) := by decide +kernel
theorem dX5_init_0 : decode cX5_init 0 = .ok (.aload_n 0, 1) := by decide +kernel
theorem dX5_init_1 : decode cX5_init 1 = .ok (.invokespecial 3, 3) := by decide +kernel
theorem dX5_init_4 : decode cX5_init 4 = .ok (.aload_n 0, 1) := by decide +kernel
theorem dX5_init_5 : decode cX5_init 5 = .ok (.iconst 4, 1) := by decide +kernel
theorem dX5_init_6 : decode cX5_init 6 = .ok (.anewarray 9, 3) := by decide +kernel
theorem dX5_init_9 : decode cX5_init 9 = .ok (.putfield 11, 3) := by decide +kernel
theorem dX5_init_12 : decode cX5_init 12 = .ok (.iconst 0, 1) := by decide +kernel
theorem dX5_init_13 : decode cX5_init 13 = .ok (.istore_n 1, 1) := by decide +kernel
theorem dX5_init_14 : decode cX5_init 14 = .ok (.iload_n 1, 1) := by decide +kernel
theorem dX5_init_15 : decode cX5_init 15 = .ok (.iconst 4, 1) := by decide +kernel
theorem dX5_init_16 : decode cX5_init 16 = .ok (.if_icmp .ge 22, 3) := by decide +kernel
theorem dX5_init_19 : decode cX5_init 19 = .ok (.aload_n 0, 1) := by decide +kernel
theorem dX5_init_20 : decode cX5_init 20 = .ok (.getfield 11, 3) := by decide +kernel
theorem dX5_init_23 : decode cX5_init 23 = .ok (.iload_n 1, 1) := by decide +kernel
theorem dX5_init_24 : decode cX5_init 24 = .ok (.new 9, 3) := by decide +kernel
theorem dX5_init_27 : decode cX5_init 27 = .ok (.dup, 1) := by decide +kernel
theorem dX5_init_28 : decode cX5_init 28 = .ok (.invokespecial 17, 3) := by decide +kernel
theorem dX5_init_31 : decode cX5_init 31 = .ok (.aastore, 1) := by decide +kernel
theorem dX5_init_32 : decode cX5_init 32 = .ok (.iinc 1 1, 3) := by decide +kernel
theorem dX5_init_35 : decode cX5_init 35 = .ok (.goto (-21), 3) := by decide +kernel
theorem dX5_init_38 : decode cX5_init 38 = .ok (.return_, 1) := by decide +kernel
theorem dX5_copyFrom_0 : decode cX5_copyFrom 0 = .ok (.aload_n 0, 1) := by decide +kernel
theorem dX5_copyFrom_1 : decode cX5_copyFrom 1 = .ok (.aload_n 1, 1) := by decide +kernel
theorem dX5_copyFrom_2 : decode cX5_copyFrom 2 = .ok (.getfield 18, 3) := by decide +kernel
theorem dX5_copyFrom_5 : decode cX5_copyFrom 5 = .ok (.putfield 18, 3) := by decide +kernel
theorem dX5_copyFrom_8 : decode cX5_copyFrom 8 = .ok (.aload_n 0, 1) := by decide +kernel
theorem dX5_copyFrom_9 : decode cX5_copyFrom 9 = .ok (.aload_n 1, 1) := by decide +kernel
theorem dX5_copyFrom_10 : decode cX5_copyFrom 10 = .ok (.getfield 22, 3) := by decide +kernel
theorem dX5_copyFrom_13 : decode cX5_copyFrom 13 = .ok (.putfield 22, 3) := by decide +kernel
theorem dX5_copyFrom_16 : decode cX5_copyFrom 16 = .ok (.aload_n 0, 1) := by decide +kernel
theorem dX5_copyFrom_17 : decode cX5_copyFrom 17 = .ok (.aload_n 1, 1) := by decide +kernel
theorem dX5_copyFrom_18 : decode cX5_copyFrom 18 = .ok (.getfield 25, 3) := by decide +kernel
theorem dX5_copyFrom_21 : decode cX5_copyFrom 21 = .ok (.putfield 25, 3) := by decide +kernel
theorem dX5_copyFrom_24 : decode cX5_copyFrom 24 = .ok (.aload_n 0, 1) := by decide +kernel
theorem dX5_copyFrom_25 : decode cX5_copyFrom 25 = .ok (.aload_n 1, 1) := by decide +kernel
theorem dX5_copyFrom_26 : decode cX5_copyFrom 26 = .ok (.getfield 29, 3) := by decide +kernel
theorem dX5_copyFrom_29 : decode cX5_copyFrom 29 = .ok (.putfield 29, 3) := by decide +kernel
theorem dX5_copyFrom_32 : decode cX5_copyFrom 32 = .ok (.iconst 0, 1) := by decide +kernel
theorem dX5_copyFrom_33 : decode cX5_copyFrom 33 = .ok (.istore_n 2, 1) := by decide +kernel
theorem dX5_copyFrom_34 : decode cX5_copyFrom 34 = .ok (.iload_n 2, 1) := by decide +kernel
theorem dX5_copyFrom_35 : decode cX5_copyFrom 35 = .ok (.iconst 4, 1) := by decide +kernel
theorem dX5_copyFrom_36 : decode cX5_copyFrom 36 = .ok (.if_icmp .ge 24, 3) := by decide +kernel
theorem dX5_copyFrom_39 : decode cX5_copyFrom 39 = .ok (.aload_n 0, 1) := by decide +kernel
theorem dX5_copyFrom_40 : decode cX5_copyFrom 40 = .ok (.getfield 11, 3) := by decide +kernel
theorem dX5_copyFrom_43 : decode cX5_copyFrom 43 = .ok (.iload_n 2, 1) := by decide +kernel
theorem dX5_copyFrom_44 : decode cX5_copyFrom 44 = .ok (.aaload, 1) := by decide +kernel
theorem dX5_copyFrom_45 : decode cX5_copyFrom 45 = .ok (.aload_n 1, 1) := by decide +kernel
theorem dX5_copyFrom_46 : decode cX5_copyFrom 46 = .ok (.getfield 11, 3) := by decide +kernel
theorem dX5_copyFrom_49 : decode cX5_copyFrom 49 = .ok (.iload_n 2, 1) := by decide +kernel
theorem dX5_copyFrom_50 : decode cX5_copyFrom 50 = .ok (.aaload, 1) := by decide +kernel
theorem dX5_copyFrom_51 : decode cX5_copyFrom 51 = .ok (.invokevirtual 32, 3) := by decide +kernel
theorem dX5_copyFrom_54 : decode cX5_copyFrom 54 = .ok (.iinc 2 1, 3) := by decide +kernel
theorem dX5_copyFrom_57 : decode cX5_copyFrom 57 = .ok (.goto (-23), 3) := by decide +kernel
theorem dX5_copyFrom_60 : decode cX5_copyFrom 60 = .ok (.return_, 1) := by decide +kernel
theorem dX5_become_0 : decode cX5_become 0 = .ok (.aload_n 0, 1) := by decide +kernel
theorem dX5_become_1 : decode cX5_become 1 = .ok (.iload_n 1, 1) := by decide +kernel
theorem dX5_become_2 : decode cX5_become 2 = .ok (.putfield 18, 3) := by decide +kernel
theorem dX5_become_5 : decode cX5_become 5 = .ok (.aload_n 0, 1) := by decide +kernel
theorem dX5_become_6 : decode cX5_become 6 = .ok (.iload_n 2, 1) := by decide +kernel
theorem dX5_become_7 : decode cX5_become 7 = .ok (.putfield 22, 3) := by decide +kernel
theorem dX5_become_10 : decode cX5_become 10 = .ok (.aload_n 0, 1) := by decide +kernel
theorem dX5_become_11 : decode cX5_become 11 = .ok (.iconst 0, 1) := by decide +kernel
theorem dX5_become_12 : decode cX5_become 12 = .ok (.putfield 25, 3) := by decide +kernel
theorem dX5_become_15 : decode cX5_become 15 = .ok (.aload_n 0, 1) := by decide +kernel
theorem dX5_become_16 : decode cX5_become 16 = .ok (.iconst 0, 1) := by decide +kernel
theorem dX5_become_17 : decode cX5_become 17 = .ok (.putfield 29, 3) := by decide +kernel
theorem dX5_become_20 : decode cX5_become 20 = .ok (.iconst 0, 1) := by decide +kernel
theorem dX5_become_21 : decode cX5_become 21 = .ok (.istore_n 3, 1) := by decide +kernel
theorem dX5_become_22 : decode cX5_become 22 = .ok (.iload_n 3, 1) := by decide +kernel
theorem dX5_become_23 : decode cX5_become 23 = .ok (.iconst 4, 1) := by decide +kernel
theorem dX5_become_24 : decode cX5_become 24 = .ok (.if_icmp .ge 19, 3) := by decide +kernel
theorem dX5_become_27 : decode cX5_become 27 = .ok (.aload_n 0, 1) := by decide +kernel
theorem dX5_become_28 : decode cX5_become 28 = .ok (.getfield 11, 3) := by decide +kernel
theorem dX5_become_31 : decode cX5_become 31 = .ok (.iload_n 3, 1) := by decide +kernel
theorem dX5_become_32 : decode cX5_become 32 = .ok (.aaload, 1) := by decide +kernel
theorem dX5_become_33 : decode cX5_become 33 = .ok (.iconst 0, 1) := by decide +kernel
theorem dX5_become_34 : decode cX5_become 34 = .ok (.putfield 36, 3) := by decide +kernel
theorem dX5_become_37 : decode cX5_become 37 = .ok (.iinc 3 1, 3) := by decide +kernel
theorem dX5_become_40 : decode cX5_become 40 = .ok (.goto (-18), 3) := by decide +kernel
theorem dX5_become_43 : decode cX5_become 43 = .ok (.return_, 1) := by decide +kernel
theorem dX5_validObservations_0 : decode cX5_validObservations 0 = .ok (.iconst 0, 1) := by decide +kernel
theorem dX5_validObservations_1 : decode cX5_validObservations 1 = .ok (.istore_n 1, 1) := by decide +kernel
theorem dX5_validObservations_2 : decode cX5_validObservations 2 = .ok (.iconst 0, 1) := by decide +kernel
theorem dX5_validObservations_3 : decode cX5_validObservations 3 = .ok (.istore_n 2, 1) := by decide +kernel
theorem dX5_validObservations_4 : decode cX5_validObservations 4 = .ok (.iload_n 2, 1) := by decide +kernel
theorem dX5_validObservations_5 : decode cX5_validObservations 5 = .ok (.iconst 4, 1) := by decide +kernel
theorem dX5_validObservations_6 : decode cX5_validObservations 6 = .ok (.if_icmp .ge 24, 3) := by decide +kernel
theorem dX5_validObservations_9 : decode cX5_validObservations 9 = .ok (.aload_n 0, 1) := by decide +kernel
theorem dX5_validObservations_10 : decode cX5_validObservations 10 = .ok (.getfield 11, 3) := by decide +kernel
theorem dX5_validObservations_13 : decode cX5_validObservations 13 = .ok (.iload_n 2, 1) := by decide +kernel
theorem dX5_validObservations_14 : decode cX5_validObservations 14 = .ok (.aaload, 1) := by decide +kernel
theorem dX5_validObservations_15 : decode cX5_validObservations 15 = .ok (.getfield 36, 3) := by decide +kernel
theorem dX5_validObservations_18 : decode cX5_validObservations 18 = .ok (.ifCond .eq 6, 3) := by decide +kernel
theorem dX5_validObservations_21 : decode cX5_validObservations 21 = .ok (.iinc 1 1, 3) := by decide +kernel
theorem dX5_validObservations_24 : decode cX5_validObservations 24 = .ok (.iinc 2 1, 3) := by decide +kernel
theorem dX5_validObservations_27 : decode cX5_validObservations 27 = .ok (.goto (-23), 3) := by decide +kernel
theorem dX5_validObservations_30 : decode cX5_validObservations 30 = .ok (.iload_n 1, 1) := by decide +kernel
theorem dX5_validObservations_31 : decode cX5_validObservations 31 = .ok (.ireturn, 1) := by decide +kernel
theorem dX6_init_0 : decode cX6_init 0 = .ok (.aload_n 0, 1) := by decide +kernel
theorem dX6_init_1 : decode cX6_init 1 = .ok (.invokespecial 3, 3) := by decide +kernel
theorem dX6_init_4 : decode cX6_init 4 = .ok (.return_, 1) := by decide +kernel
theorem dX6_copyFrom_0 : decode cX6_copyFrom 0 = .ok (.aload_n 0, 1) := by decide +kernel
theorem dX6_copyFrom_1 : decode cX6_copyFrom 1 = .ok (.aload_n 1, 1) := by decide +kernel
theorem dX6_copyFrom_2 : decode cX6_copyFrom 2 = .ok (.getfield 9, 3) := by decide +kernel
theorem dX6_copyFrom_5 : decode cX6_copyFrom 5 = .ok (.putfield 9, 3) := by decide +kernel
theorem dX6_copyFrom_8 : decode cX6_copyFrom 8 = .ok (.aload_n 0, 1) := by decide +kernel
theorem dX6_copyFrom_9 : decode cX6_copyFrom 9 = .ok (.aload_n 1, 1) := by decide +kernel
theorem dX6_copyFrom_10 : decode cX6_copyFrom 10 = .ok (.getfield 15, 3) := by decide +kernel
theorem dX6_copyFrom_13 : decode cX6_copyFrom 13 = .ok (.putfield 15, 3) := by decide +kernel
theorem dX6_copyFrom_16 : decode cX6_copyFrom 16 = .ok (.aload_n 0, 1) := by decide +kernel
theorem dX6_copyFrom_17 : decode cX6_copyFrom 17 = .ok (.aload_n 1, 1) := by decide +kernel
theorem dX6_copyFrom_18 : decode cX6_copyFrom 18 = .ok (.getfield 19, 3) := by decide +kernel
theorem dX6_copyFrom_21 : decode cX6_copyFrom 21 = .ok (.putfield 19, 3) := by decide +kernel
theorem dX6_copyFrom_24 : decode cX6_copyFrom 24 = .ok (.aload_n 0, 1) := by decide +kernel
theorem dX6_copyFrom_25 : decode cX6_copyFrom 25 = .ok (.aload_n 1, 1) := by decide +kernel
theorem dX6_copyFrom_26 : decode cX6_copyFrom 26 = .ok (.getfield 22, 3) := by decide +kernel
theorem dX6_copyFrom_29 : decode cX6_copyFrom 29 = .ok (.putfield 22, 3) := by decide +kernel
theorem dX6_copyFrom_32 : decode cX6_copyFrom 32 = .ok (.aload_n 0, 1) := by decide +kernel
theorem dX6_copyFrom_33 : decode cX6_copyFrom 33 = .ok (.aload_n 1, 1) := by decide +kernel
theorem dX6_copyFrom_34 : decode cX6_copyFrom 34 = .ok (.getfield 25, 3) := by decide +kernel
theorem dX6_copyFrom_37 : decode cX6_copyFrom 37 = .ok (.putfield 25, 3) := by decide +kernel
theorem dX6_copyFrom_40 : decode cX6_copyFrom 40 = .ok (.aload_n 0, 1) := by decide +kernel
theorem dX6_copyFrom_41 : decode cX6_copyFrom 41 = .ok (.aload_n 1, 1) := by decide +kernel
theorem dX6_copyFrom_42 : decode cX6_copyFrom 42 = .ok (.getfield 28, 3) := by decide +kernel
theorem dX6_copyFrom_45 : decode cX6_copyFrom 45 = .ok (.putfield 28, 3) := by decide +kernel
theorem dX6_copyFrom_48 : decode cX6_copyFrom 48 = .ok (.aload_n 0, 1) := by decide +kernel
theorem dX6_copyFrom_49 : decode cX6_copyFrom 49 = .ok (.aload_n 1, 1) := by decide +kernel
theorem dX6_copyFrom_50 : decode cX6_copyFrom 50 = .ok (.getfield 31, 3) := by decide +kernel
theorem dX6_copyFrom_53 : decode cX6_copyFrom 53 = .ok (.putfield 31, 3) := by decide +kernel
theorem dX6_copyFrom_56 : decode cX6_copyFrom 56 = .ok (.aload_n 0, 1) := by decide +kernel
theorem dX6_copyFrom_57 : decode cX6_copyFrom 57 = .ok (.aload_n 1, 1) := by decide +kernel
theorem dX6_copyFrom_58 : decode cX6_copyFrom 58 = .ok (.getfield 34, 3) := by decide +kernel
theorem dX6_copyFrom_61 : decode cX6_copyFrom 61 = .ok (.putfield 34, 3) := by decide +kernel
theorem dX6_copyFrom_64 : decode cX6_copyFrom 64 = .ok (.aload_n 0, 1) := by decide +kernel
theorem dX6_copyFrom_65 : decode cX6_copyFrom 65 = .ok (.aload_n 1, 1) := by decide +kernel
theorem dX6_copyFrom_66 : decode cX6_copyFrom 66 = .ok (.getfield 37, 3) := by decide +kernel
theorem dX6_copyFrom_69 : decode cX6_copyFrom 69 = .ok (.putfield 37, 3) := by decide +kernel
theorem dX6_copyFrom_72 : decode cX6_copyFrom 72 = .ok (.aload_n 0, 1) := by decide +kernel
theorem dX6_copyFrom_73 : decode cX6_copyFrom 73 = .ok (.aload_n 1, 1) := by decide +kernel
theorem dX6_copyFrom_74 : decode cX6_copyFrom 74 = .ok (.getfield 40, 3) := by decide +kernel
theorem dX6_copyFrom_77 : decode cX6_copyFrom 77 = .ok (.putfield 40, 3) := by decide +kernel
theorem dX6_copyFrom_80 : decode cX6_copyFrom 80 = .ok (.aload_n 0, 1) := by decide +kernel
theorem dX6_copyFrom_81 : decode cX6_copyFrom 81 = .ok (.aload_n 1, 1) := by decide +kernel
theorem dX6_copyFrom_82 : decode cX6_copyFrom 82 = .ok (.getfield 43, 3) := by decide +kernel
theorem dX6_copyFrom_85 : decode cX6_copyFrom 85 = .ok (.putfield 43, 3) := by decide +kernel
theorem dX6_copyFrom_88 : decode cX6_copyFrom 88 = .ok (.return_, 1) := by decide +kernel
theorem dX6_hangAnew_0 : decode cX6_hangAnew 0 = .ok (.aload_n 0, 1) := by decide +kernel
theorem dX6_hangAnew_1 : decode cX6_hangAnew 1 = .ok (.iconst 1, 1) := by decide +kernel
theorem dX6_hangAnew_2 : decode cX6_hangAnew 2 = .ok (.putfield 9, 3) := by decide +kernel
theorem dX6_hangAnew_5 : decode cX6_hangAnew 5 = .ok (.aload_n 0, 1) := by decide +kernel
theorem dX6_hangAnew_6 : decode cX6_hangAnew 6 = .ok (.iload_n 1, 1) := by decide +kernel
theorem dX6_hangAnew_7 : decode cX6_hangAnew 7 = .ok (.putfield 15, 3) := by decide +kernel
theorem dX6_hangAnew_10 : decode cX6_hangAnew 10 = .ok (.aload_n 0, 1) := by decide +kernel
theorem dX6_hangAnew_11 : decode cX6_hangAnew 11 = .ok (.iload_n 2, 1) := by decide +kernel
theorem dX6_hangAnew_12 : decode cX6_hangAnew 12 = .ok (.putfield 19, 3) := by decide +kernel
theorem dX6_hangAnew_15 : decode cX6_hangAnew 15 = .ok (.aload_n 0, 1) := by decide +kernel
theorem dX6_hangAnew_16 : decode cX6_hangAnew 16 = .ok (.iload_n 3, 1) := by decide +kernel
theorem dX6_hangAnew_17 : decode cX6_hangAnew 17 = .ok (.putfield 22, 3) := by decide +kernel
theorem dX6_hangAnew_20 : decode cX6_hangAnew 20 = .ok (.aload_n 0, 1) := by decide +kernel
theorem dX6_hangAnew_21 : decode cX6_hangAnew 21 = .ok (.iload 4, 2) := by decide +kernel
theorem dX6_hangAnew_23 : decode cX6_hangAnew 23 = .ok (.putfield 25, 3) := by decide +kernel
theorem dX6_hangAnew_26 : decode cX6_hangAnew 26 = .ok (.aload_n 0, 1) := by decide +kernel
theorem dX6_hangAnew_27 : decode cX6_hangAnew 27 = .ok (.iconst 0, 1) := by decide +kernel
theorem dX6_hangAnew_28 : decode cX6_hangAnew 28 = .ok (.putfield 28, 3) := by decide +kernel
theorem dX6_hangAnew_31 : decode cX6_hangAnew 31 = .ok (.aload_n 0, 1) := by decide +kernel
theorem dX6_hangAnew_32 : decode cX6_hangAnew 32 = .ok (.iconst 0, 1) := by decide +kernel
theorem dX6_hangAnew_33 : decode cX6_hangAnew 33 = .ok (.putfield 31, 3) := by decide +kernel
theorem dX6_hangAnew_36 : decode cX6_hangAnew 36 = .ok (.aload_n 0, 1) := by decide +kernel
theorem dX6_hangAnew_37 : decode cX6_hangAnew 37 = .ok (.iconst 0, 1) := by decide +kernel
theorem dX6_hangAnew_38 : decode cX6_hangAnew 38 = .ok (.putfield 34, 3) := by decide +kernel
theorem dX6_hangAnew_41 : decode cX6_hangAnew 41 = .ok (.aload_n 0, 1) := by decide +kernel
theorem dX6_hangAnew_42 : decode cX6_hangAnew 42 = .ok (.iconst 0, 1) := by decide +kernel
theorem dX6_hangAnew_43 : decode cX6_hangAnew 43 = .ok (.putfield 37, 3) := by decide +kernel
theorem dX6_hangAnew_46 : decode cX6_hangAnew 46 = .ok (.aload_n 0, 1) := by decide +kernel
theorem dX6_hangAnew_47 : decode cX6_hangAnew 47 = .ok (.iconst 0, 1) := by decide +kernel
theorem dX6_hangAnew_48 : decode cX6_hangAnew 48 = .ok (.invokevirtual 46, 3) := by decide +kernel
theorem dX6_hangAnew_51 : decode cX6_hangAnew 51 = .ok (.return_, 1) := by decide +kernel
theorem dX6_startSway_0 : decode cX6_startSway 0 = .ok (.aload_n 0, 1) := by decide +kernel
theorem dX6_startSway_1 : decode cX6_startSway 1 = .ok (.iload_n 1, 1) := by decide +kernel
theorem dX6_startSway_2 : decode cX6_startSway 2 = .ok (.putfield 40, 3) := by decide +kernel
theorem dX6_startSway_5 : decode cX6_startSway 5 = .ok (.aload_n 0, 1) := by decide +kernel
theorem dX6_startSway_6 : decode cX6_startSway 6 = .ok (.iconst 0, 1) := by decide +kernel
theorem dX6_startSway_7 : decode cX6_startSway 7 = .ok (.putfield 43, 3) := by decide +kernel
theorem dX6_startSway_10 : decode cX6_startSway 10 = .ok (.return_, 1) := by decide +kernel
theorem dX6_tradePlaces_0 : decode cX6_tradePlaces 0 = .ok (.aload_n 0, 1) := by decide +kernel
theorem dX6_tradePlaces_1 : decode cX6_tradePlaces 1 = .ok (.getfield 15, 3) := by decide +kernel
theorem dX6_tradePlaces_4 : decode cX6_tradePlaces 4 = .ok (.istore_n 2, 1) := by decide +kernel
theorem dX6_tradePlaces_5 : decode cX6_tradePlaces 5 = .ok (.aload_n 0, 1) := by decide +kernel
theorem dX6_tradePlaces_6 : decode cX6_tradePlaces 6 = .ok (.getfield 19, 3) := by decide +kernel
theorem dX6_tradePlaces_9 : decode cX6_tradePlaces 9 = .ok (.istore_n 3, 1) := by decide +kernel
theorem dX6_tradePlaces_10 : decode cX6_tradePlaces 10 = .ok (.aload_n 0, 1) := by decide +kernel
theorem dX6_tradePlaces_11 : decode cX6_tradePlaces 11 = .ok (.aload_n 1, 1) := by decide +kernel
theorem dX6_tradePlaces_12 : decode cX6_tradePlaces 12 = .ok (.getfield 15, 3) := by decide +kernel
theorem dX6_tradePlaces_15 : decode cX6_tradePlaces 15 = .ok (.putfield 15, 3) := by decide +kernel
theorem dX6_tradePlaces_18 : decode cX6_tradePlaces 18 = .ok (.aload_n 0, 1) := by decide +kernel
theorem dX6_tradePlaces_19 : decode cX6_tradePlaces 19 = .ok (.aload_n 1, 1) := by decide +kernel
theorem dX6_tradePlaces_20 : decode cX6_tradePlaces 20 = .ok (.getfield 19, 3) := by decide +kernel
theorem dX6_tradePlaces_23 : decode cX6_tradePlaces 23 = .ok (.putfield 19, 3) := by decide +kernel
theorem dX6_tradePlaces_26 : decode cX6_tradePlaces 26 = .ok (.aload_n 1, 1) := by decide +kernel
theorem dX6_tradePlaces_27 : decode cX6_tradePlaces 27 = .ok (.iload_n 2, 1) := by decide +kernel
theorem dX6_tradePlaces_28 : decode cX6_tradePlaces 28 = .ok (.putfield 15, 3) := by decide +kernel
theorem dX6_tradePlaces_31 : decode cX6_tradePlaces 31 = .ok (.aload_n 1, 1) := by decide +kernel
theorem dX6_tradePlaces_32 : decode cX6_tradePlaces 32 = .ok (.iload_n 3, 1) := by decide +kernel
theorem dX6_tradePlaces_33 : decode cX6_tradePlaces 33 = .ok (.putfield 19, 3) := by decide +kernel
theorem dX6_tradePlaces_36 : decode cX6_tradePlaces 36 = .ok (.return_, 1) := by decide +kernel
theorem dX6_quarterTicks_0 : decode cX6_quarterTicks 0 = .ok (.iconst 1, 1) := by decide +kernel
theorem dX6_quarterTicks_1 : decode cX6_quarterTicks 1 = .ok (.aload_n 0, 1) := by decide +kernel
theorem dX6_quarterTicks_2 : decode cX6_quarterTicks 2 = .ok (.getfield 25, 3) := by decide +kernel
theorem dX6_quarterTicks_5 : decode cX6_quarterTicks 5 = .ok (.bipush 100, 2) := by decide +kernel
theorem dX6_quarterTicks_7 : decode cX6_quarterTicks 7 = .ok (.idiv, 1) := by decide +kernel
theorem dX6_quarterTicks_8 : decode cX6_quarterTicks 8 = .ok (.iadd, 1) := by decide +kernel
theorem dX6_quarterTicks_9 : decode cX6_quarterTicks 9 = .ok (.ireturn, 1) := by decide +kernel
theorem dX6_periodTicks_0 : decode cX6_periodTicks 0 = .ok (.iconst 4, 1) := by decide +kernel
theorem dX6_periodTicks_1 : decode cX6_periodTicks 1 = .ok (.aload_n 0, 1) := by decide +kernel
theorem dX6_periodTicks_2 : decode cX6_periodTicks 2 = .ok (.invokevirtual 50, 3) := by decide +kernel
theorem dX6_periodTicks_5 : decode cX6_periodTicks 5 = .ok (.imul, 1) := by decide +kernel
theorem dX6_periodTicks_6 : decode cX6_periodTicks 6 = .ok (.ireturn, 1) := by decide +kernel
theorem dX6_swayOneTick_0 : decode cX6_swayOneTick 0 = .ok (.aload_n 0, 1) := by decide +kernel
theorem dX6_swayOneTick_1 : decode cX6_swayOneTick 1 = .ok (.dup, 1) := by decide +kernel
theorem dX6_swayOneTick_2 : decode cX6_swayOneTick 2 = .ok (.getfield 43, 3) := by decide +kernel
theorem dX6_swayOneTick_5 : decode cX6_swayOneTick 5 = .ok (.iconst 1, 1) := by decide +kernel
theorem dX6_swayOneTick_6 : decode cX6_swayOneTick 6 = .ok (.iadd, 1) := by decide +kernel
theorem dX6_swayOneTick_7 : decode cX6_swayOneTick 7 = .ok (.putfield 43, 3) := by decide +kernel
theorem dX6_swayOneTick_10 : decode cX6_swayOneTick 10 = .ok (.aload_n 0, 1) := by decide +kernel
theorem dX6_swayOneTick_11 : decode cX6_swayOneTick 11 = .ok (.getfield 43, 3) := by decide +kernel
theorem dX6_swayOneTick_14 : decode cX6_swayOneTick 14 = .ok (.aload_n 0, 1) := by decide +kernel
theorem dX6_swayOneTick_15 : decode cX6_swayOneTick 15 = .ok (.invokevirtual 54, 3) := by decide +kernel
theorem dX6_swayOneTick_18 : decode cX6_swayOneTick 18 = .ok (.if_icmp .lt 20, 3) := by decide +kernel
theorem dX6_swayOneTick_21 : decode cX6_swayOneTick 21 = .ok (.aload_n 0, 1) := by decide +kernel
theorem dX6_swayOneTick_22 : decode cX6_swayOneTick 22 = .ok (.iconst 0, 1) := by decide +kernel
theorem dX6_swayOneTick_23 : decode cX6_swayOneTick 23 = .ok (.putfield 43, 3) := by decide +kernel
theorem dX6_swayOneTick_26 : decode cX6_swayOneTick 26 = .ok (.aload_n 0, 1) := by decide +kernel
theorem dX6_swayOneTick_27 : decode cX6_swayOneTick 27 = .ok (.aload_n 0, 1) := by decide +kernel
theorem dX6_swayOneTick_28 : decode cX6_swayOneTick 28 = .ok (.aload_n 0, 1) := by decide +kernel
theorem dX6_swayOneTick_29 : decode cX6_swayOneTick 29 = .ok (.getfield 40, 3) := by decide +kernel
theorem dX6_swayOneTick_32 : decode cX6_swayOneTick 32 = .ok (.invokevirtual 57, 3) := by decide +kernel
theorem dX6_swayOneTick_35 : decode cX6_swayOneTick 35 = .ok (.putfield 40, 3) := by decide +kernel
theorem dX6_swayOneTick_38 : decode cX6_swayOneTick 38 = .ok (.return_, 1) := by decide +kernel
theorem dX6_calmed_0 : decode cX6_calmed 0 = .ok (.aload_n 0, 1) := by decide +kernel
theorem dX6_calmed_1 : decode cX6_calmed 1 = .ok (.getfield 34, 3) := by decide +kernel
theorem dX6_calmed_4 : decode cX6_calmed 4 = .ok (.lookupswitch 44 #[(1, 28), (2, 36)], 28) := by decide +kernel
theorem dX6_calmed_32 : decode cX6_calmed 32 = .ok (.iload_n 1, 1) := by decide +kernel
theorem dX6_calmed_33 : decode cX6_calmed 33 = .ok (.bipush 70, 2) := by decide +kernel
theorem dX6_calmed_35 : decode cX6_calmed 35 = .ok (.imul, 1) := by decide +kernel
theorem dX6_calmed_36 : decode cX6_calmed 36 = .ok (.bipush 100, 2) := by decide +kernel
theorem dX6_calmed_38 : decode cX6_calmed 38 = .ok (.idiv, 1) := by decide +kernel
theorem dX6_calmed_39 : decode cX6_calmed 39 = .ok (.ireturn, 1) := by decide +kernel
theorem dX6_calmed_40 : decode cX6_calmed 40 = .ok (.iload_n 1, 1) := by decide +kernel
theorem dX6_calmed_41 : decode cX6_calmed 41 = .ok (.bipush 50, 2) := by decide +kernel
theorem dX6_calmed_43 : decode cX6_calmed 43 = .ok (.imul, 1) := by decide +kernel
theorem dX6_calmed_44 : decode cX6_calmed 44 = .ok (.bipush 100, 2) := by decide +kernel
theorem dX6_calmed_46 : decode cX6_calmed 46 = .ok (.idiv, 1) := by decide +kernel
theorem dX6_calmed_47 : decode cX6_calmed 47 = .ok (.ireturn, 1) := by decide +kernel
theorem dX6_calmed_48 : decode cX6_calmed 48 = .ok (.iload_n 1, 1) := by decide +kernel
theorem dX6_calmed_49 : decode cX6_calmed 49 = .ok (.bipush 95, 2) := by decide +kernel
theorem dX6_calmed_51 : decode cX6_calmed 51 = .ok (.imul, 1) := by decide +kernel
theorem dX6_calmed_52 : decode cX6_calmed 52 = .ok (.bipush 100, 2) := by decide +kernel
theorem dX6_calmed_54 : decode cX6_calmed 54 = .ok (.idiv, 1) := by decide +kernel
theorem dX6_calmed_55 : decode cX6_calmed 55 = .ok (.ireturn, 1) := by decide +kernel
theorem dX6_ticksUntilCalm_0 : decode cX6_ticksUntilCalm 0 = .ok (.aload_n 0, 1) := by decide +kernel
theorem dX6_ticksUntilCalm_1 : decode cX6_ticksUntilCalm 1 = .ok (.getfield 40, 3) := by decide +kernel
theorem dX6_ticksUntilCalm_4 : decode cX6_ticksUntilCalm 4 = .ok (.iload_n 1, 1) := by decide +kernel
theorem dX6_ticksUntilCalm_5 : decode cX6_ticksUntilCalm 5 = .ok (.if_icmp .gt 5, 3) := by decide +kernel
theorem dX6_ticksUntilCalm_8 : decode cX6_ticksUntilCalm 8 = .ok (.iconst 0, 1) := by decide +kernel
theorem dX6_ticksUntilCalm_9 : decode cX6_ticksUntilCalm 9 = .ok (.ireturn, 1) := by decide +kernel
theorem dX6_ticksUntilCalm_10 : decode cX6_ticksUntilCalm 10 = .ok (.aload_n 0, 1) := by decide +kernel
theorem dX6_ticksUntilCalm_11 : decode cX6_ticksUntilCalm 11 = .ok (.invokevirtual 54, 3) := by decide +kernel
theorem dX6_ticksUntilCalm_14 : decode cX6_ticksUntilCalm 14 = .ok (.aload_n 0, 1) := by decide +kernel
theorem dX6_ticksUntilCalm_15 : decode cX6_ticksUntilCalm 15 = .ok (.getfield 43, 3) := by decide +kernel
theorem dX6_ticksUntilCalm_18 : decode cX6_ticksUntilCalm 18 = .ok (.isub, 1) := by decide +kernel
theorem dX6_ticksUntilCalm_19 : decode cX6_ticksUntilCalm 19 = .ok (.istore_n 2, 1) := by decide +kernel
theorem dX6_ticksUntilCalm_20 : decode cX6_ticksUntilCalm 20 = .ok (.aload_n 0, 1) := by decide +kernel
theorem dX6_ticksUntilCalm_21 : decode cX6_ticksUntilCalm 21 = .ok (.aload_n 0, 1) := by decide +kernel
theorem dX6_ticksUntilCalm_22 : decode cX6_ticksUntilCalm 22 = .ok (.getfield 40, 3) := by decide +kernel
theorem dX6_ticksUntilCalm_25 : decode cX6_ticksUntilCalm 25 = .ok (.invokevirtual 57, 3) := by decide +kernel
theorem dX6_ticksUntilCalm_28 : decode cX6_ticksUntilCalm 28 = .ok (.istore_n 3, 1) := by decide +kernel
theorem dX6_ticksUntilCalm_29 : decode cX6_ticksUntilCalm 29 = .ok (.iconst 0, 1) := by decide +kernel
theorem dX6_ticksUntilCalm_30 : decode cX6_ticksUntilCalm 30 = .ok (.istore 4, 2) := by decide +kernel
theorem dX6_ticksUntilCalm_32 : decode cX6_ticksUntilCalm 32 = .ok (.iload 4, 2) := by decide +kernel
theorem dX6_ticksUntilCalm_34 : decode cX6_ticksUntilCalm 34 = .ok (.sipush 500, 3) := by decide +kernel
theorem dX6_ticksUntilCalm_37 : decode cX6_ticksUntilCalm 37 = .ok (.if_icmp .ge 27, 3) := by decide +kernel
theorem dX6_ticksUntilCalm_40 : decode cX6_ticksUntilCalm 40 = .ok (.iload_n 3, 1) := by decide +kernel
theorem dX6_ticksUntilCalm_41 : decode cX6_ticksUntilCalm 41 = .ok (.iload_n 1, 1) := by decide +kernel
theorem dX6_ticksUntilCalm_42 : decode cX6_ticksUntilCalm 42 = .ok (.if_icmp .le 22, 3) := by decide +kernel
theorem dX6_ticksUntilCalm_45 : decode cX6_ticksUntilCalm 45 = .ok (.iload_n 2, 1) := by decide +kernel
theorem dX6_ticksUntilCalm_46 : decode cX6_ticksUntilCalm 46 = .ok (.aload_n 0, 1) := by decide +kernel
theorem dX6_ticksUntilCalm_47 : decode cX6_ticksUntilCalm 47 = .ok (.invokevirtual 54, 3) := by decide +kernel
theorem dX6_ticksUntilCalm_50 : decode cX6_ticksUntilCalm 50 = .ok (.iadd, 1) := by decide +kernel
theorem dX6_ticksUntilCalm_51 : decode cX6_ticksUntilCalm 51 = .ok (.istore_n 2, 1) := by decide +kernel
theorem dX6_ticksUntilCalm_52 : decode cX6_ticksUntilCalm 52 = .ok (.aload_n 0, 1) := by decide +kernel
theorem dX6_ticksUntilCalm_53 : decode cX6_ticksUntilCalm 53 = .ok (.iload_n 3, 1) := by decide +kernel
theorem dX6_ticksUntilCalm_54 : decode cX6_ticksUntilCalm 54 = .ok (.invokevirtual 57, 3) := by decide +kernel
theorem dX6_ticksUntilCalm_57 : decode cX6_ticksUntilCalm 57 = .ok (.istore_n 3, 1) := by decide +kernel
theorem dX6_ticksUntilCalm_58 : decode cX6_ticksUntilCalm 58 = .ok (.iinc 4 1, 3) := by decide +kernel
theorem dX6_ticksUntilCalm_61 : decode cX6_ticksUntilCalm 61 = .ok (.goto (-29), 3) := by decide +kernel
theorem dX6_ticksUntilCalm_64 : decode cX6_ticksUntilCalm 64 = .ok (.iload_n 2, 1) := by decide +kernel
theorem dX6_ticksUntilCalm_65 : decode cX6_ticksUntilCalm 65 = .ok (.ireturn, 1) := by decide +kernel
theorem dX6_swing_0 : decode cX6_swing 0 = .ok (.aload_n 0, 1) := by decide +kernel
theorem dX6_swing_1 : decode cX6_swing 1 = .ok (.invokevirtual 50, 3) := by decide +kernel
theorem dX6_swing_4 : decode cX6_swing 4 = .ok (.istore_n 1, 1) := by decide +kernel
theorem dX6_swing_5 : decode cX6_swing 5 = .ok (.aload_n 0, 1) := by decide +kernel
theorem dX6_swing_6 : decode cX6_swing 6 = .ok (.getfield 43, 3) := by decide +kernel
theorem dX6_swing_9 : decode cX6_swing 9 = .ok (.iload_n 1, 1) := by decide +kernel
theorem dX6_swing_10 : decode cX6_swing 10 = .ok (.if_icmp .ge 17, 3) := by decide +kernel
theorem dX6_swing_13 : decode cX6_swing 13 = .ok (.aload_n 0, 1) := by decide +kernel
theorem dX6_swing_14 : decode cX6_swing 14 = .ok (.getfield 40, 3) := by decide +kernel
theorem dX6_swing_17 : decode cX6_swing 17 = .ok (.aload_n 0, 1) := by decide +kernel
theorem dX6_swing_18 : decode cX6_swing 18 = .ok (.getfield 43, 3) := by decide +kernel
theorem dX6_swing_21 : decode cX6_swing 21 = .ok (.imul, 1) := by decide +kernel
theorem dX6_swing_22 : decode cX6_swing 22 = .ok (.iload_n 1, 1) := by decide +kernel
theorem dX6_swing_23 : decode cX6_swing 23 = .ok (.invokestatic 61, 3) := by decide +kernel
theorem dX6_swing_26 : decode cX6_swing 26 = .ok (.ireturn, 1) := by decide +kernel
theorem dX6_swing_27 : decode cX6_swing 27 = .ok (.aload_n 0, 1) := by decide +kernel
theorem dX6_swing_28 : decode cX6_swing 28 = .ok (.getfield 43, 3) := by decide +kernel
theorem dX6_swing_31 : decode cX6_swing 31 = .ok (.iconst 3, 1) := by decide +kernel
theorem dX6_swing_32 : decode cX6_swing 32 = .ok (.iload_n 1, 1) := by decide +kernel
theorem dX6_swing_33 : decode cX6_swing 33 = .ok (.imul, 1) := by decide +kernel
theorem dX6_swing_34 : decode cX6_swing 34 = .ok (.if_icmp .ge 21, 3) := by decide +kernel
theorem dX6_swing_37 : decode cX6_swing 37 = .ok (.aload_n 0, 1) := by decide +kernel
theorem dX6_swing_38 : decode cX6_swing 38 = .ok (.getfield 40, 3) := by decide +kernel
theorem dX6_swing_41 : decode cX6_swing 41 = .ok (.iconst 2, 1) := by decide +kernel
theorem dX6_swing_42 : decode cX6_swing 42 = .ok (.iload_n 1, 1) := by decide +kernel
theorem dX6_swing_43 : decode cX6_swing 43 = .ok (.imul, 1) := by decide +kernel
theorem dX6_swing_44 : decode cX6_swing 44 = .ok (.aload_n 0, 1) := by decide +kernel
theorem dX6_swing_45 : decode cX6_swing 45 = .ok (.getfield 43, 3) := by decide +kernel
theorem dX6_swing_48 : decode cX6_swing 48 = .ok (.isub, 1) := by decide +kernel
theorem dX6_swing_49 : decode cX6_swing 49 = .ok (.imul, 1) := by decide +kernel
theorem dX6_swing_50 : decode cX6_swing 50 = .ok (.iload_n 1, 1) := by decide +kernel
theorem dX6_swing_51 : decode cX6_swing 51 = .ok (.invokestatic 61, 3) := by decide +kernel
theorem dX6_swing_54 : decode cX6_swing 54 = .ok (.ireturn, 1) := by decide +kernel
theorem dX6_swing_55 : decode cX6_swing 55 = .ok (.aload_n 0, 1) := by decide +kernel
theorem dX6_swing_56 : decode cX6_swing 56 = .ok (.getfield 40, 3) := by decide +kernel
theorem dX6_swing_59 : decode cX6_swing 59 = .ok (.aload_n 0, 1) := by decide +kernel
theorem dX6_swing_60 : decode cX6_swing 60 = .ok (.getfield 43, 3) := by decide +kernel
theorem dX6_swing_63 : decode cX6_swing 63 = .ok (.iconst 4, 1) := by decide +kernel
theorem dX6_swing_64 : decode cX6_swing 64 = .ok (.iload_n 1, 1) := by decide +kernel
theorem dX6_swing_65 : decode cX6_swing 65 = .ok (.imul, 1) := by decide +kernel
theorem dX6_swing_66 : decode cX6_swing 66 = .ok (.isub, 1) := by decide +kernel
theorem dX6_swing_67 : decode cX6_swing 67 = .ok (.imul, 1) := by decide +kernel
theorem dX6_swing_68 : decode cX6_swing 68 = .ok (.iload_n 1, 1) := by decide +kernel
theorem dX6_swing_69 : decode cX6_swing 69 = .ok (.invokestatic 61, 3) := by decide +kernel
theorem dX6_swing_72 : decode cX6_swing 72 = .ok (.ireturn, 1) := by decide +kernel
theorem dX6_swayAt_0 : decode cX6_swayAt 0 = .ok (.aload_n 0, 1) := by decide +kernel
theorem dX6_swayAt_1 : decode cX6_swayAt 1 = .ok (.getfield 37, 3) := by decide +kernel
theorem dX6_swayAt_4 : decode cX6_swayAt 4 = .ok (.iconst 0, 1) := by decide +kernel
theorem dX6_swayAt_5 : decode cX6_swayAt 5 = .ok (.bipush 7, 2) := by decide +kernel
theorem dX6_swayAt_7 : decode cX6_swayAt 7 = .ok (.invokestatic 65, 3) := by decide +kernel
theorem dX6_swayAt_10 : decode cX6_swayAt 10 = .ok (.ifCond .ne 5, 3) := by decide +kernel
theorem dX6_swayAt_13 : decode cX6_swayAt 13 = .ok (.iconst 0, 1) := by decide +kernel
theorem dX6_swayAt_14 : decode cX6_swayAt 14 = .ok (.ireturn, 1) := by decide +kernel
theorem dX6_swayAt_15 : decode cX6_swayAt 15 = .ok (.iload_n 2, 1) := by decide +kernel
theorem dX6_swayAt_16 : decode cX6_swayAt 16 = .ok (.ifCond .ne 14, 3) := by decide +kernel
theorem dX6_swayAt_19 : decode cX6_swayAt 19 = .ok (.getstatic 69, 3) := by decide +kernel
theorem dX6_swayAt_22 : decode cX6_swayAt 22 = .ok (.aload_n 0, 1) := by decide +kernel
theorem dX6_swayAt_23 : decode cX6_swayAt 23 = .ok (.getfield 37, 3) := by decide +kernel
theorem dX6_swayAt_26 : decode cX6_swayAt 26 = .ok (.iaload, 1) := by decide +kernel
theorem dX6_swayAt_27 : decode cX6_swayAt 27 = .ok (.goto 11, 3) := by decide +kernel
theorem dX6_swayAt_30 : decode cX6_swayAt 30 = .ok (.getstatic 73, 3) := by decide +kernel
theorem dX6_swayAt_33 : decode cX6_swayAt 33 = .ok (.aload_n 0, 1) := by decide +kernel
theorem dX6_swayAt_34 : decode cX6_swayAt 34 = .ok (.getfield 37, 3) := by decide +kernel
theorem dX6_swayAt_37 : decode cX6_swayAt 37 = .ok (.iaload, 1) := by decide +kernel
theorem dX6_swayAt_38 : decode cX6_swayAt 38 = .ok (.istore_n 3, 1) := by decide +kernel
theorem dX6_swayAt_39 : decode cX6_swayAt 39 = .ok (.iload_n 3, 1) := by decide +kernel
theorem dX6_swayAt_40 : decode cX6_swayAt 40 = .ok (.aload_n 0, 1) := by decide +kernel
theorem dX6_swayAt_41 : decode cX6_swayAt 41 = .ok (.invokevirtual 76, 3) := by decide +kernel
theorem dX6_swayAt_44 : decode cX6_swayAt 44 = .ok (.iload_n 1, 1) := by decide +kernel
theorem dX6_swayAt_45 : decode cX6_swayAt 45 = .ok (.imul, 1) := by decide +kernel
theorem dX6_swayAt_46 : decode cX6_swayAt 46 = .ok (.aload_n 0, 1) := by decide +kernel
theorem dX6_swayAt_47 : decode cX6_swayAt 47 = .ok (.getfield 25, 3) := by decide +kernel
theorem dX6_swayAt_50 : decode cX6_swayAt 50 = .ok (.invokestatic 61, 3) := by decide +kernel
theorem dX6_swayAt_53 : decode cX6_swayAt 53 = .ok (.imul, 1) := by decide +kernel
theorem dX6_swayAt_54 : decode cX6_swayAt 54 = .ok (.ireturn, 1) := by decide +kernel
theorem dX6_property_0 : decode cX6_property 0 = .ok (.iload_n 1, 1) := by decide +kernel
theorem dX6_property_1 : decode cX6_property 1 = .ok (.tableswitch 105 0 9 #[55, 60, 65, 70, 75, 80, 85, 90, 95, 100], 55) := by decide +kernel
theorem dX6_property_56 : decode cX6_property 56 = .ok (.aload_n 0, 1) := by decide +kernel
theorem dX6_property_57 : decode cX6_property 57 = .ok (.getfield 15, 3) := by decide +kernel
theorem dX6_property_60 : decode cX6_property 60 = .ok (.ireturn, 1) := by decide +kernel
theorem dX6_property_61 : decode cX6_property 61 = .ok (.aload_n 0, 1) := by decide +kernel
theorem dX6_property_62 : decode cX6_property 62 = .ok (.getfield 19, 3) := by decide +kernel
theorem dX6_property_65 : decode cX6_property 65 = .ok (.ireturn, 1) := by decide +kernel
theorem dX6_property_66 : decode cX6_property 66 = .ok (.aload_n 0, 1) := by decide +kernel
theorem dX6_property_67 : decode cX6_property 67 = .ok (.getfield 22, 3) := by decide +kernel
theorem dX6_property_70 : decode cX6_property 70 = .ok (.ireturn, 1) := by decide +kernel
theorem dX6_property_71 : decode cX6_property 71 = .ok (.aload_n 0, 1) := by decide +kernel
theorem dX6_property_72 : decode cX6_property 72 = .ok (.getfield 25, 3) := by decide +kernel
theorem dX6_property_75 : decode cX6_property 75 = .ok (.ireturn, 1) := by decide +kernel
theorem dX6_property_76 : decode cX6_property 76 = .ok (.aload_n 0, 1) := by decide +kernel
theorem dX6_property_77 : decode cX6_property 77 = .ok (.getfield 28, 3) := by decide +kernel
theorem dX6_property_80 : decode cX6_property 80 = .ok (.ireturn, 1) := by decide +kernel
theorem dX6_property_81 : decode cX6_property 81 = .ok (.aload_n 0, 1) := by decide +kernel
theorem dX6_property_82 : decode cX6_property 82 = .ok (.getfield 31, 3) := by decide +kernel
theorem dX6_property_85 : decode cX6_property 85 = .ok (.ireturn, 1) := by decide +kernel
theorem dX6_property_86 : decode cX6_property 86 = .ok (.aload_n 0, 1) := by decide +kernel
theorem dX6_property_87 : decode cX6_property 87 = .ok (.getfield 34, 3) := by decide +kernel
theorem dX6_property_90 : decode cX6_property 90 = .ok (.ireturn, 1) := by decide +kernel
theorem dX6_property_91 : decode cX6_property 91 = .ok (.aload_n 0, 1) := by decide +kernel
theorem dX6_property_92 : decode cX6_property 92 = .ok (.getfield 37, 3) := by decide +kernel
theorem dX6_property_95 : decode cX6_property 95 = .ok (.ireturn, 1) := by decide +kernel
theorem dX6_property_96 : decode cX6_property 96 = .ok (.aload_n 0, 1) := by decide +kernel
theorem dX6_property_97 : decode cX6_property 97 = .ok (.getfield 40, 3) := by decide +kernel
theorem dX6_property_100 : decode cX6_property 100 = .ok (.ireturn, 1) := by decide +kernel
theorem dX6_property_101 : decode cX6_property 101 = .ok (.aload_n 0, 1) := by decide +kernel
theorem dX6_property_102 : decode cX6_property 102 = .ok (.getfield 43, 3) := by decide +kernel
theorem dX6_property_105 : decode cX6_property 105 = .ok (.ireturn, 1) := by decide +kernel
theorem dX6_property_106 : decode cX6_property 106 = .ok (.aload_n 0, 1) := by decide +kernel
theorem dX6_property_107 : decode cX6_property 107 = .ok (.invokevirtual 54, 3) := by decide +kernel
theorem dX6_property_110 : decode cX6_property 110 = .ok (.ireturn, 1) := by decide +kernel
end
