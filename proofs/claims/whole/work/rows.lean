section
-- ===== PART A: goes FIRST, ahead of the names: the tables' words, and 'selects' of the private methods out of them =====
/-- a private method of a class that the tables say can be made, by its rows of tables_1 -/
def lw_okq (q : MethodName × Nat) : Prop := (q.1.cls ≠ "java/lang/invoke/MethodHandle" ∧ q.1.cls ≠ "java/lang/invoke/VarHandle") ∧ Cond.instantiable q.1.cls q.2 ∈ tables_1 ∧ Cond.privateMethod q.1 ∈ tables_1 ∧ Cond.instanceMethod q.1 ∈ tables_1
theorem lw_p0 : lw_okq (⟨"SmokeRings", "error", "(I)I"⟩, 9) := ⟨⟨by decide +kernel, by decide +kernel⟩, List.mem_of_getElem? (i := 23) (by decide +kernel), List.mem_of_getElem? (i := 239) (by decide +kernel), List.mem_of_getElem? (i := 240) (by decide +kernel)⟩
theorem lw_p1 : lw_okq (⟨"SmokeRings$Text", "push", "(I)V"⟩, 7) := ⟨⟨by decide +kernel, by decide +kernel⟩, List.mem_of_getElem? (i := 92) (by decide +kernel), List.mem_of_getElem? (i := 532) (by decide +kernel), List.mem_of_getElem? (i := 533) (by decide +kernel)⟩
theorem lw_p2 : lw_okq (⟨"SmokeRings$Text", "takesOperand", "(ILjava/lang/String;)Z"⟩, 7) := ⟨⟨by decide +kernel, by decide +kernel⟩, List.mem_of_getElem? (i := 92) (by decide +kernel), List.mem_of_getElem? (i := 575) (by decide +kernel), List.mem_of_getElem? (i := 576) (by decide +kernel)⟩
theorem lw_p3 : lw_okq (⟨"SmokeRings$Text", "append", "(I)V"⟩, 7) := ⟨⟨by decide +kernel, by decide +kernel⟩, List.mem_of_getElem? (i := 92) (by decide +kernel), List.mem_of_getElem? (i := 582) (by decide +kernel), List.mem_of_getElem? (i := 583) (by decide +kernel)⟩
theorem lw_p4 : lw_okq (⟨"SmokeRings$Text", "takesOperator", "(I)Z"⟩, 7) := ⟨⟨by decide +kernel, by decide +kernel⟩, List.mem_of_getElem? (i := 92) (by decide +kernel), List.mem_of_getElem? (i := 668) (by decide +kernel), List.mem_of_getElem? (i := 669) (by decide +kernel)⟩
theorem lw_p5 : lw_okq (⟨"SmokeRings$Text", "takesDigit", "(I)Z"⟩, 7) := ⟨⟨by decide +kernel, by decide +kernel⟩, List.mem_of_getElem? (i := 92) (by decide +kernel), List.mem_of_getElem? (i := 672) (by decide +kernel), List.mem_of_getElem? (i := 673) (by decide +kernel)⟩
theorem lw_p6 : lw_okq (⟨"SmokeRings$Text", "takesClose", "()Z"⟩, 7) := ⟨⟨by decide +kernel, by decide +kernel⟩, List.mem_of_getElem? (i := 92) (by decide +kernel), List.mem_of_getElem? (i := 676) (by decide +kernel), List.mem_of_getElem? (i := 677) (by decide +kernel)⟩
theorem lw_p7 : lw_okq (⟨"SmokeRings$Text", "popAbove", "(I)V"⟩, 7) := ⟨⟨by decide +kernel, by decide +kernel⟩, List.mem_of_getElem? (i := 92) (by decide +kernel), List.mem_of_getElem? (i := 680) (by decide +kernel), List.mem_of_getElem? (i := 681) (by decide +kernel)⟩
theorem lw_p8 : lw_okq (⟨"SmokeRings$Text", "pop", "()V"⟩, 7) := ⟨⟨by decide +kernel, by decide +kernel⟩, List.mem_of_getElem? (i := 92) (by decide +kernel), List.mem_of_getElem? (i := 687) (by decide +kernel), List.mem_of_getElem? (i := 688) (by decide +kernel)⟩
theorem lw_p9 : lw_okq (⟨"SmokeRings$Text", "isComplete", "()Z"⟩, 7) := ⟨⟨by decide +kernel, by decide +kernel⟩, List.mem_of_getElem? (i := 92) (by decide +kernel), List.mem_of_getElem? (i := 691) (by decide +kernel), List.mem_of_getElem? (i := 692) (by decide +kernel)⟩
theorem lw_p10 : lw_okq (⟨"SmokeRings", "pass", "(IZ)I"⟩, 9) := ⟨⟨by decide +kernel, by decide +kernel⟩, List.mem_of_getElem? (i := 23) (by decide +kernel), List.mem_of_getElem? (i := 712) (by decide +kernel), List.mem_of_getElem? (i := 713) (by decide +kernel)⟩
theorem lw_p11 : lw_okq (⟨"SmokeRings$Room", "advance", "(LSmokeRings$Ring;LSmokeRings$Ring;)V"⟩, 13) := ⟨⟨by decide +kernel, by decide +kernel⟩, List.mem_of_getElem? (i := 31) (by decide +kernel), List.mem_of_getElem? (i := 725) (by decide +kernel), List.mem_of_getElem? (i := 726) (by decide +kernel)⟩
theorem lw_p12 : lw_okq (⟨"SmokeRings$Room", "lawOn", "(I)LSmokeRings$Law;"⟩, 13) := ⟨⟨by decide +kernel, by decide +kernel⟩, List.mem_of_getElem? (i := 31) (by decide +kernel), List.mem_of_getElem? (i := 729) (by decide +kernel), List.mem_of_getElem? (i := 730) (by decide +kernel)⟩
theorem lw_p13 : lw_okq (⟨"SmokeRings$Room", "widen", "(LSmokeRings$Ring;LSmokeRings$Ring;)V"⟩, 13) := ⟨⟨by decide +kernel, by decide +kernel⟩, List.mem_of_getElem? (i := 31) (by decide +kernel), List.mem_of_getElem? (i := 737) (by decide +kernel), List.mem_of_getElem? (i := 738) (by decide +kernel)⟩
theorem lw_p14 : lw_okq (⟨"SmokeRings$Room", "endIfDue", "(I)V"⟩, 13) := ⟨⟨by decide +kernel, by decide +kernel⟩, List.mem_of_getElem? (i := 31) (by decide +kernel), List.mem_of_getElem? (i := 746) (by decide +kernel), List.mem_of_getElem? (i := 747) (by decide +kernel)⟩
theorem lw_p15 : lw_okq (⟨"SmokeRings$Room", "endingLaw", "(LSmokeRings$Ring;LSmokeRings$Ring;)LSmokeRings$Law;"⟩, 13) := ⟨⟨by decide +kernel, by decide +kernel⟩, List.mem_of_getElem? (i := 31) (by decide +kernel), List.mem_of_getElem? (i := 750) (by decide +kernel), List.mem_of_getElem? (i := 751) (by decide +kernel)⟩
def lw_privs_1 : List (MethodName × Nat) := [(⟨"SmokeRings", "error", "(I)I"⟩, 9), (⟨"SmokeRings$Text", "push", "(I)V"⟩, 7), (⟨"SmokeRings$Text", "takesOperand", "(ILjava/lang/String;)Z"⟩, 7), (⟨"SmokeRings$Text", "append", "(I)V"⟩, 7), (⟨"SmokeRings$Text", "takesOperator", "(I)Z"⟩, 7), (⟨"SmokeRings$Text", "takesDigit", "(I)Z"⟩, 7), (⟨"SmokeRings$Text", "takesClose", "()Z"⟩, 7), (⟨"SmokeRings$Text", "popAbove", "(I)V"⟩, 7), (⟨"SmokeRings$Text", "pop", "()V"⟩, 7), (⟨"SmokeRings$Text", "isComplete", "()Z"⟩, 7), (⟨"SmokeRings", "pass", "(IZ)I"⟩, 9), (⟨"SmokeRings$Room", "advance", "(LSmokeRings$Ring;LSmokeRings$Ring;)V"⟩, 13), (⟨"SmokeRings$Room", "lawOn", "(I)LSmokeRings$Law;"⟩, 13), (⟨"SmokeRings$Room", "widen", "(LSmokeRings$Ring;LSmokeRings$Ring;)V"⟩, 13), (⟨"SmokeRings$Room", "endIfDue", "(I)V"⟩, 13), (⟨"SmokeRings$Room", "endingLaw", "(LSmokeRings$Ring;LSmokeRings$Ring;)LSmokeRings$Law;"⟩, 13)]
theorem lw_r1 : ∀ q ∈ lw_privs_1, lw_okq q := List.forall_mem_cons.mpr ⟨lw_p0, List.forall_mem_cons.mpr ⟨lw_p1, List.forall_mem_cons.mpr ⟨lw_p2, List.forall_mem_cons.mpr ⟨lw_p3, List.forall_mem_cons.mpr ⟨lw_p4, List.forall_mem_cons.mpr ⟨lw_p5, List.forall_mem_cons.mpr ⟨lw_p6, List.forall_mem_cons.mpr ⟨lw_p7, List.forall_mem_cons.mpr ⟨lw_p8, List.forall_mem_cons.mpr ⟨lw_p9, List.forall_mem_cons.mpr ⟨lw_p10, List.forall_mem_cons.mpr ⟨lw_p11, List.forall_mem_cons.mpr ⟨lw_p12, List.forall_mem_cons.mpr ⟨lw_p13, List.forall_mem_cons.mpr ⟨lw_p14, List.forall_mem_cons.mpr ⟨lw_p15, fun _ h => absurd h List.not_mem_nil⟩⟩⟩⟩⟩⟩⟩⟩⟩⟩⟩⟩⟩⟩⟩⟩
theorem lw_p16 : lw_okq (⟨"SmokeRings$Room", "settle", "(LSmokeRings$Ring;)V"⟩, 13) := ⟨⟨by decide +kernel, by decide +kernel⟩, List.mem_of_getElem? (i := 31) (by decide +kernel), List.mem_of_getElem? (i := 756) (by decide +kernel), List.mem_of_getElem? (i := 757) (by decide +kernel)⟩
theorem lw_p17 : lw_okq (⟨"SmokeRings", "goAhead", "(I)V"⟩, 9) := ⟨⟨by decide +kernel, by decide +kernel⟩, List.mem_of_getElem? (i := 23) (by decide +kernel), List.mem_of_getElem? (i := 785) (by decide +kernel), List.mem_of_getElem? (i := 786) (by decide +kernel)⟩
theorem lw_p18 : lw_okq (⟨"SmokeRings", "filmError", "(I)I"⟩, 9) := ⟨⟨by decide +kernel, by decide +kernel⟩, List.mem_of_getElem? (i := 23) (by decide +kernel), List.mem_of_getElem? (i := 854) (by decide +kernel), List.mem_of_getElem? (i := 855) (by decide +kernel)⟩
theorem lw_p19 : lw_okq (⟨"SmokeRings", "isMissing", "(I)Z"⟩, 9) := ⟨⟨by decide +kernel, by decide +kernel⟩, List.mem_of_getElem? (i := 23) (by decide +kernel), List.mem_of_getElem? (i := 861) (by decide +kernel), List.mem_of_getElem? (i := 862) (by decide +kernel)⟩
theorem lw_p20 : lw_okq (⟨"SmokeRings", "offBy", "(LSmokeRings$Row;I)I"⟩, 9) := ⟨⟨by decide +kernel, by decide +kernel⟩, List.mem_of_getElem? (i := 23) (by decide +kernel), List.mem_of_getElem? (i := 866) (by decide +kernel), List.mem_of_getElem? (i := 867) (by decide +kernel)⟩
theorem lw_p21 : lw_okq (⟨"SmokeRings", "checked", "(LSmokeRings$Row;)I"⟩, 9) := ⟨⟨by decide +kernel, by decide +kernel⟩, List.mem_of_getElem? (i := 23) (by decide +kernel), List.mem_of_getElem? (i := 1039) (by decide +kernel), List.mem_of_getElem? (i := 1040) (by decide +kernel)⟩
theorem lw_p22 : lw_okq (⟨"SmokeRingsModel", "finds", "(I)I"⟩, 21) := ⟨⟨by decide +kernel, by decide +kernel⟩, List.mem_of_getElem? (i := 1051) (by decide +kernel), List.mem_of_getElem? (i := 1136) (by decide +kernel), List.mem_of_getElem? (i := 1137) (by decide +kernel)⟩
theorem lw_p23 : lw_okq (⟨"SmokeRingsModel", "isRing", "(I)Z"⟩, 21) := ⟨⟨by decide +kernel, by decide +kernel⟩, List.mem_of_getElem? (i := 1051) (by decide +kernel), List.mem_of_getElem? (i := 1148) (by decide +kernel), List.mem_of_getElem? (i := 1149) (by decide +kernel)⟩
theorem lw_p24 : lw_okq (⟨"SmokeRingsModel", "isLaw", "(I)Z"⟩, 21) := ⟨⟨by decide +kernel, by decide +kernel⟩, List.mem_of_getElem? (i := 1051) (by decide +kernel), List.mem_of_getElem? (i := 1177) (by decide +kernel), List.mem_of_getElem? (i := 1178) (by decide +kernel)⟩
theorem lw_p25 : lw_okq (⟨"SmokeRingsModel", "worked", "(III)I"⟩, 21) := ⟨⟨by decide +kernel, by decide +kernel⟩, List.mem_of_getElem? (i := 1051) (by decide +kernel), List.mem_of_getElem? (i := 1236) (by decide +kernel), List.mem_of_getElem? (i := 1237) (by decide +kernel)⟩
theorem lw_p26 : lw_okq (⟨"SmokeRingsModel", "either", "()I"⟩, 21) := ⟨⟨by decide +kernel, by decide +kernel⟩, List.mem_of_getElem? (i := 1051) (by decide +kernel), List.mem_of_getElem? (i := 1240) (by decide +kernel), List.mem_of_getElem? (i := 1241) (by decide +kernel)⟩
theorem lw_p27 : lw_okq (⟨"SmokeRingsModel", "both", "()I"⟩, 21) := ⟨⟨by decide +kernel, by decide +kernel⟩, List.mem_of_getElem? (i := 1051) (by decide +kernel), List.mem_of_getElem? (i := 1244) (by decide +kernel), List.mem_of_getElem? (i := 1245) (by decide +kernel)⟩
theorem lw_p28 : lw_okq (⟨"SmokeRingsModel", "compared", "()I"⟩, 21) := ⟨⟨by decide +kernel, by decide +kernel⟩, List.mem_of_getElem? (i := 1051) (by decide +kernel), List.mem_of_getElem? (i := 1248) (by decide +kernel), List.mem_of_getElem? (i := 1249) (by decide +kernel)⟩
theorem lw_p29 : lw_okq (⟨"SmokeRingsModel", "sum", "()I"⟩, 21) := ⟨⟨by decide +kernel, by decide +kernel⟩, List.mem_of_getElem? (i := 1051) (by decide +kernel), List.mem_of_getElem? (i := 1252) (by decide +kernel), List.mem_of_getElem? (i := 1253) (by decide +kernel)⟩
theorem lw_p30 : lw_okq (⟨"SmokeRingsModel", "product", "()I"⟩, 21) := ⟨⟨by decide +kernel, by decide +kernel⟩, List.mem_of_getElem? (i := 1051) (by decide +kernel), List.mem_of_getElem? (i := 1256) (by decide +kernel), List.mem_of_getElem? (i := 1257) (by decide +kernel)⟩
theorem lw_p31 : lw_okq (⟨"SmokeRingsModel", "unit", "()I"⟩, 21) := ⟨⟨by decide +kernel, by decide +kernel⟩, List.mem_of_getElem? (i := 1051) (by decide +kernel), List.mem_of_getElem? (i := 1260) (by decide +kernel), List.mem_of_getElem? (i := 1261) (by decide +kernel)⟩
def lw_privs_2 : List (MethodName × Nat) := [(⟨"SmokeRings$Room", "settle", "(LSmokeRings$Ring;)V"⟩, 13), (⟨"SmokeRings", "goAhead", "(I)V"⟩, 9), (⟨"SmokeRings", "filmError", "(I)I"⟩, 9), (⟨"SmokeRings", "isMissing", "(I)Z"⟩, 9), (⟨"SmokeRings", "offBy", "(LSmokeRings$Row;I)I"⟩, 9), (⟨"SmokeRings", "checked", "(LSmokeRings$Row;)I"⟩, 9), (⟨"SmokeRingsModel", "finds", "(I)I"⟩, 21), (⟨"SmokeRingsModel", "isRing", "(I)Z"⟩, 21), (⟨"SmokeRingsModel", "isLaw", "(I)Z"⟩, 21), (⟨"SmokeRingsModel", "worked", "(III)I"⟩, 21), (⟨"SmokeRingsModel", "either", "()I"⟩, 21), (⟨"SmokeRingsModel", "both", "()I"⟩, 21), (⟨"SmokeRingsModel", "compared", "()I"⟩, 21), (⟨"SmokeRingsModel", "sum", "()I"⟩, 21), (⟨"SmokeRingsModel", "product", "()I"⟩, 21), (⟨"SmokeRingsModel", "unit", "()I"⟩, 21)]
theorem lw_r2 : ∀ q ∈ lw_privs_2, lw_okq q := List.forall_mem_cons.mpr ⟨lw_p16, List.forall_mem_cons.mpr ⟨lw_p17, List.forall_mem_cons.mpr ⟨lw_p18, List.forall_mem_cons.mpr ⟨lw_p19, List.forall_mem_cons.mpr ⟨lw_p20, List.forall_mem_cons.mpr ⟨lw_p21, List.forall_mem_cons.mpr ⟨lw_p22, List.forall_mem_cons.mpr ⟨lw_p23, List.forall_mem_cons.mpr ⟨lw_p24, List.forall_mem_cons.mpr ⟨lw_p25, List.forall_mem_cons.mpr ⟨lw_p26, List.forall_mem_cons.mpr ⟨lw_p27, List.forall_mem_cons.mpr ⟨lw_p28, List.forall_mem_cons.mpr ⟨lw_p29, List.forall_mem_cons.mpr ⟨lw_p30, List.forall_mem_cons.mpr ⟨lw_p31, fun _ h => absurd h List.not_mem_nil⟩⟩⟩⟩⟩⟩⟩⟩⟩⟩⟩⟩⟩⟩⟩⟩
theorem lw_p32 : lw_okq (⟨"SmokeRingsModel", "here", "()I"⟩, 21) := ⟨⟨by decide +kernel, by decide +kernel⟩, List.mem_of_getElem? (i := 1051) (by decide +kernel), List.mem_of_getElem? (i := 1264) (by decide +kernel), List.mem_of_getElem? (i := 1265) (by decide +kernel)⟩
theorem lw_p33 : lw_okq (⟨"SmokeRingsModel", "wrong", "()I"⟩, 21) := ⟨⟨by decide +kernel, by decide +kernel⟩, List.mem_of_getElem? (i := 1051) (by decide +kernel), List.mem_of_getElem? (i := 1268) (by decide +kernel), List.mem_of_getElem? (i := 1269) (by decide +kernel)⟩
theorem lw_p34 : lw_okq (⟨"SmokeRingsModel", "takes", "(I)Z"⟩, 21) := ⟨⟨by decide +kernel, by decide +kernel⟩, List.mem_of_getElem? (i := 1051) (by decide +kernel), List.mem_of_getElem? (i := 1272) (by decide +kernel), List.mem_of_getElem? (i := 1273) (by decide +kernel)⟩
theorem lw_p35 : lw_okq (⟨"SmokeRingsModel", "nameOf", "(I)I"⟩, 21) := ⟨⟨by decide +kernel, by decide +kernel⟩, List.mem_of_getElem? (i := 1051) (by decide +kernel), List.mem_of_getElem? (i := 1276) (by decide +kernel), List.mem_of_getElem? (i := 1277) (by decide +kernel)⟩
theorem lw_p36 : lw_okq (⟨"SmokeRingsModel", "givesOf", "(IIII)I"⟩, 21) := ⟨⟨by decide +kernel, by decide +kernel⟩, List.mem_of_getElem? (i := 1051) (by decide +kernel), List.mem_of_getElem? (i := 1286) (by decide +kernel), List.mem_of_getElem? (i := 1287) (by decide +kernel)⟩
theorem lw_p37 : lw_okq (⟨"SmokeRingsModel", "strokes", "([III)I"⟩, 21) := ⟨⟨by decide +kernel, by decide +kernel⟩, List.mem_of_getElem? (i := 1051) (by decide +kernel), List.mem_of_getElem? (i := 1302) (by decide +kernel), List.mem_of_getElem? (i := 1303) (by decide +kernel)⟩
theorem lw_p38 : lw_okq (⟨"SmokeRingsModel", "trailsOf", "(I)I"⟩, 21) := ⟨⟨by decide +kernel, by decide +kernel⟩, List.mem_of_getElem? (i := 1051) (by decide +kernel), List.mem_of_getElem? (i := 1310) (by decide +kernel), List.mem_of_getElem? (i := 1311) (by decide +kernel)⟩
theorem lw_p39 : lw_okq (⟨"SmokeRingsModel", "goesAhead", "([II)V"⟩, 21) := ⟨⟨by decide +kernel, by decide +kernel⟩, List.mem_of_getElem? (i := 1051) (by decide +kernel), List.mem_of_getElem? (i := 1319) (by decide +kernel), List.mem_of_getElem? (i := 1320) (by decide +kernel)⟩
theorem lw_p40 : lw_okq (⟨"SmokeRingsModel", "goesBy", "([I)V"⟩, 21) := ⟨⟨by decide +kernel, by decide +kernel⟩, List.mem_of_getElem? (i := 1051) (by decide +kernel), List.mem_of_getElem? (i := 1323) (by decide +kernel), List.mem_of_getElem? (i := 1324) (by decide +kernel)⟩
theorem lw_p41 : lw_okq (⟨"SmokeRingsModel", "goesOn", "([II)V"⟩, 21) := ⟨⟨by decide +kernel, by decide +kernel⟩, List.mem_of_getElem? (i := 1051) (by decide +kernel), List.mem_of_getElem? (i := 1330) (by decide +kernel), List.mem_of_getElem? (i := 1331) (by decide +kernel)⟩
theorem lw_p42 : lw_okq (⟨"SmokeRingsModel", "mayEnd", "([II)V"⟩, 21) := ⟨⟨by decide +kernel, by decide +kernel⟩, List.mem_of_getElem? (i := 1051) (by decide +kernel), List.mem_of_getElem? (i := 1335) (by decide +kernel), List.mem_of_getElem? (i := 1336) (by decide +kernel)⟩
theorem lw_p43 : lw_okq (⟨"SmokeRingsModel", "lawThatEnds", "([III)I"⟩, 21) := ⟨⟨by decide +kernel, by decide +kernel⟩, List.mem_of_getElem? (i := 1051) (by decide +kernel), List.mem_of_getElem? (i := 1339) (by decide +kernel), List.mem_of_getElem? (i := 1340) (by decide +kernel)⟩
theorem lw_p44 : lw_okq (⟨"SmokeRingsModel", "ahead", "(I)V"⟩, 21) := ⟨⟨by decide +kernel, by decide +kernel⟩, List.mem_of_getElem? (i := 1051) (by decide +kernel), List.mem_of_getElem? (i := 1363) (by decide +kernel), List.mem_of_getElem? (i := 1364) (by decide +kernel)⟩
theorem lw_p45 : lw_okq (⟨"SmokeRingsModel", "turnsIn", "([II)I"⟩, 21) := ⟨⟨by decide +kernel, by decide +kernel⟩, List.mem_of_getElem? (i := 1051) (by decide +kernel), List.mem_of_getElem? (i := 1381) (by decide +kernel), List.mem_of_getElem? (i := 1382) (by decide +kernel)⟩
theorem lw_p46 : lw_okq (⟨"SmokeRingsModel", "farIn", "([III)I"⟩, 21) := ⟨⟨by decide +kernel, by decide +kernel⟩, List.mem_of_getElem? (i := 1051) (by decide +kernel), List.mem_of_getElem? (i := 1389) (by decide +kernel), List.mem_of_getElem? (i := 1390) (by decide +kernel)⟩
theorem lw_p47 : lw_okq (⟨"SmokeRingsModel", "whyNoFilm", "(I)I"⟩, 21) := ⟨⟨by decide +kernel, by decide +kernel⟩, List.mem_of_getElem? (i := 1051) (by decide +kernel), List.mem_of_getElem? (i := 1415) (by decide +kernel), List.mem_of_getElem? (i := 1416) (by decide +kernel)⟩
def lw_privs_3 : List (MethodName × Nat) := [(⟨"SmokeRingsModel", "here", "()I"⟩, 21), (⟨"SmokeRingsModel", "wrong", "()I"⟩, 21), (⟨"SmokeRingsModel", "takes", "(I)Z"⟩, 21), (⟨"SmokeRingsModel", "nameOf", "(I)I"⟩, 21), (⟨"SmokeRingsModel", "givesOf", "(IIII)I"⟩, 21), (⟨"SmokeRingsModel", "strokes", "([III)I"⟩, 21), (⟨"SmokeRingsModel", "trailsOf", "(I)I"⟩, 21), (⟨"SmokeRingsModel", "goesAhead", "([II)V"⟩, 21), (⟨"SmokeRingsModel", "goesBy", "([I)V"⟩, 21), (⟨"SmokeRingsModel", "goesOn", "([II)V"⟩, 21), (⟨"SmokeRingsModel", "mayEnd", "([II)V"⟩, 21), (⟨"SmokeRingsModel", "lawThatEnds", "([III)I"⟩, 21), (⟨"SmokeRingsModel", "ahead", "(I)V"⟩, 21), (⟨"SmokeRingsModel", "turnsIn", "([II)I"⟩, 21), (⟨"SmokeRingsModel", "farIn", "([III)I"⟩, 21), (⟨"SmokeRingsModel", "whyNoFilm", "(I)I"⟩, 21)]
theorem lw_r3 : ∀ q ∈ lw_privs_3, lw_okq q := List.forall_mem_cons.mpr ⟨lw_p32, List.forall_mem_cons.mpr ⟨lw_p33, List.forall_mem_cons.mpr ⟨lw_p34, List.forall_mem_cons.mpr ⟨lw_p35, List.forall_mem_cons.mpr ⟨lw_p36, List.forall_mem_cons.mpr ⟨lw_p37, List.forall_mem_cons.mpr ⟨lw_p38, List.forall_mem_cons.mpr ⟨lw_p39, List.forall_mem_cons.mpr ⟨lw_p40, List.forall_mem_cons.mpr ⟨lw_p41, List.forall_mem_cons.mpr ⟨lw_p42, List.forall_mem_cons.mpr ⟨lw_p43, List.forall_mem_cons.mpr ⟨lw_p44, List.forall_mem_cons.mpr ⟨lw_p45, List.forall_mem_cons.mpr ⟨lw_p46, List.forall_mem_cons.mpr ⟨lw_p47, fun _ h => absurd h List.not_mem_nil⟩⟩⟩⟩⟩⟩⟩⟩⟩⟩⟩⟩⟩⟩⟩⟩
theorem lw_p48 : lw_okq (⟨"SmokeRingsModel", "offIn", "([II)I"⟩, 21) := ⟨⟨by decide +kernel, by decide +kernel⟩, List.mem_of_getElem? (i := 1051) (by decide +kernel), List.mem_of_getElem? (i := 1422) (by decide +kernel), List.mem_of_getElem? (i := 1423) (by decide +kernel)⟩
theorem lw_p49 : lw_okq (⟨"SmokeRingsModel", "own", "()I"⟩, 21) := ⟨⟨by decide +kernel, by decide +kernel⟩, List.mem_of_getElem? (i := 1051) (by decide +kernel), List.mem_of_getElem? (i := 1449) (by decide +kernel), List.mem_of_getElem? (i := 1450) (by decide +kernel)⟩
theorem lw_p50 : lw_okq (⟨"SmokeRingsModel", "goes", "(II)I"⟩, 21) := ⟨⟨by decide +kernel, by decide +kernel⟩, List.mem_of_getElem? (i := 1051) (by decide +kernel), List.mem_of_getElem? (i := 1453) (by decide +kernel), List.mem_of_getElem? (i := 1454) (by decide +kernel)⟩
theorem lw_p51 : lw_okq (⟨"SmokeRingsModel", "ran", "(I)V"⟩, 21) := ⟨⟨by decide +kernel, by decide +kernel⟩, List.mem_of_getElem? (i := 1051) (by decide +kernel), List.mem_of_getElem? (i := 1457) (by decide +kernel), List.mem_of_getElem? (i := 1458) (by decide +kernel)⟩
theorem lw_p52 : lw_okq (⟨"SmokeRingsModel", "moves", "(II)I"⟩, 21) := ⟨⟨by decide +kernel, by decide +kernel⟩, List.mem_of_getElem? (i := 1051) (by decide +kernel), List.mem_of_getElem? (i := 1464) (by decide +kernel), List.mem_of_getElem? (i := 1465) (by decide +kernel)⟩
theorem lw_p53 : lw_okq (⟨"SmokeRingsModel", "ends", "(II)I"⟩, 21) := ⟨⟨by decide +kernel, by decide +kernel⟩, List.mem_of_getElem? (i := 1051) (by decide +kernel), List.mem_of_getElem? (i := 1468) (by decide +kernel), List.mem_of_getElem? (i := 1469) (by decide +kernel)⟩
theorem lw_p54 : lw_okq (⟨"SmokeRingsModel", "toldM", "()I"⟩, 21) := ⟨⟨by decide +kernel, by decide +kernel⟩, List.mem_of_getElem? (i := 1051) (by decide +kernel), List.mem_of_getElem? (i := 1472) (by decide +kernel), List.mem_of_getElem? (i := 1473) (by decide +kernel)⟩
theorem lw_p55 : lw_okq (⟨"SmokeRingsModel", "tells", "(II)I"⟩, 21) := ⟨⟨by decide +kernel, by decide +kernel⟩, List.mem_of_getElem? (i := 1051) (by decide +kernel), List.mem_of_getElem? (i := 1476) (by decide +kernel), List.mem_of_getElem? (i := 1477) (by decide +kernel)⟩
def lw_privs_4 : List (MethodName × Nat) := [(⟨"SmokeRingsModel", "offIn", "([II)I"⟩, 21), (⟨"SmokeRingsModel", "own", "()I"⟩, 21), (⟨"SmokeRingsModel", "goes", "(II)I"⟩, 21), (⟨"SmokeRingsModel", "ran", "(I)V"⟩, 21), (⟨"SmokeRingsModel", "moves", "(II)I"⟩, 21), (⟨"SmokeRingsModel", "ends", "(II)I"⟩, 21), (⟨"SmokeRingsModel", "toldM", "()I"⟩, 21), (⟨"SmokeRingsModel", "tells", "(II)I"⟩, 21)]
theorem lw_r4 : ∀ q ∈ lw_privs_4, lw_okq q := List.forall_mem_cons.mpr ⟨lw_p48, List.forall_mem_cons.mpr ⟨lw_p49, List.forall_mem_cons.mpr ⟨lw_p50, List.forall_mem_cons.mpr ⟨lw_p51, List.forall_mem_cons.mpr ⟨lw_p52, List.forall_mem_cons.mpr ⟨lw_p53, List.forall_mem_cons.mpr ⟨lw_p54, List.forall_mem_cons.mpr ⟨lw_p55, fun _ h => absurd h List.not_mem_nil⟩⟩⟩⟩⟩⟩⟩⟩
def lw_privs : List (MethodName × Nat) := lw_privs_1 ++ (lw_privs_2 ++ (lw_privs_3 ++ (lw_privs_4)))
def lw_tbl : List Cond := k2_sels lw_privs ++ tables_1
theorem lw_privs_ok : ∀ q ∈ lw_privs, lw_okq q := by
  show ∀ q ∈ lw_privs_1 ++ (lw_privs_2 ++ (lw_privs_3 ++ (lw_privs_4))), lw_okq q
  exact List.forall_mem_append.mpr ⟨lw_r1, List.forall_mem_append.mpr ⟨lw_r2, List.forall_mem_append.mpr ⟨lw_r3, lw_r4⟩⟩⟩
end
section

/-! ===== BEGIN printed: names, fields, word lists, decode rows ===== -/
def RX0 : String := "SmokeRings$Headlong"
def TX0 : u_T := fun k => match k with
  | 0 => ("SmokeRings$Law", "kind", "I", true)
  | 1 => ("SmokeRings$Law", "number", "I", true)
  | _ => ("SmokeRings$Law", "m", "I", true)
def tyX0 : Nat → FieldType := fun k => match k with
  | 0 => .int
  | 1 => .int
  | _ => .int
abbrev wsX00 : List Cond := u_ws RX0 TX0 3
theorem nmX0 : ∀ a, a < 3 → ∀ b, b < 3 → a ≠ b → (TX0 a).2.1 ≠ (TX0 b).2.1 := by decide +kernel
theorem tyX0_ok : ∀ k, k < 3 → parseFieldDescriptor (TX0 k).2.2.1 = some (tyX0 k) := by decide +kernel
abbrev cX0_init : ByteArray := prog_2_method_1_code
def yX0_init : MethodName := ⟨RX0, "<init>", "(III)V"⟩
abbrev cX0_widens : ByteArray := prog_2_method_2_code
def yX0_widens : MethodName := ⟨RX0, "widens", "(LSmokeRings$Ring;LSmokeRings$Ring;)I"⟩
abbrev cX0_ends : ByteArray := prog_2_method_3_code
def yX0_ends : MethodName := ⟨RX0, "ends", "(ILSmokeRings$Row;)I"⟩
def RX1 : String := "SmokeRings$Joining"
def TX1 : u_T := fun k => match k with
  | 0 => ("SmokeRings$Law", "kind", "I", true)
  | 1 => ("SmokeRings$Law", "number", "I", true)
  | _ => ("SmokeRings$Law", "m", "I", true)
def tyX1 : Nat → FieldType := fun k => match k with
  | 0 => .int
  | 1 => .int
  | _ => .int
abbrev wsX10 : List Cond := u_ws RX1 TX1 3
theorem nmX1 : ∀ a, a < 3 → ∀ b, b < 3 → a ≠ b → (TX1 a).2.1 ≠ (TX1 b).2.1 := by decide +kernel
theorem tyX1_ok : ∀ k, k < 3 → parseFieldDescriptor (TX1 k).2.2.1 = some (tyX1 k) := by decide +kernel
abbrev cX1_init : ByteArray := prog_3_method_1_code
def yX1_init : MethodName := ⟨RX1, "<init>", "(II)V"⟩
abbrev cX1_endsBy : ByteArray := prog_3_method_2_code
def yX1_endsBy : MethodName := ⟨RX1, "endsBy", "(LSmokeRings$Ring;LSmokeRings$Ring;)Z"⟩
abbrev cX1_goes : ByteArray := prog_3_method_3_code
def yX1_goes : MethodName := ⟨RX1, "goes", "(ILSmokeRings$Row;)I"⟩
def RX2 : String := "SmokeRings$Law"
def TX2 : u_T := fun k => match k with
  | 0 => ("SmokeRings$Law", "kind", "I", true)
  | 1 => ("SmokeRings$Law", "number", "I", true)
  | _ => ("SmokeRings$Law", "m", "I", true)
def tyX2 : Nat → FieldType := fun k => match k with
  | 0 => .int
  | 1 => .int
  | _ => .int
abbrev wsX20 : List Cond := u_ws RX2 TX2 3
theorem nmX2 : ∀ a, a < 3 → ∀ b, b < 3 → a ≠ b → (TX2 a).2.1 ≠ (TX2 b).2.1 := by decide +kernel
theorem tyX2_ok : ∀ k, k < 3 → parseFieldDescriptor (TX2 k).2.2.1 = some (tyX2 k) := by decide +kernel
abbrev cX2_init : ByteArray := prog_4_method_1_code
def yX2_init : MethodName := ⟨RX2, "<init>", "(III)V"⟩
abbrev cX2_pull : ByteArray := prog_4_method_2_code
def yX2_pull : MethodName := ⟨RX2, "pull", "(LSmokeRings$Ring;LSmokeRings$Ring;)I"⟩
abbrev cX2_widens : ByteArray := prog_4_method_3_code
def yX2_widens : MethodName := ⟨RX2, "widens", "(LSmokeRings$Ring;LSmokeRings$Ring;)I"⟩
abbrev cX2_spreads : ByteArray := prog_4_method_4_code
def yX2_spreads : MethodName := ⟨RX2, "spreads", "(LSmokeRings$Ring;I)I"⟩
abbrev cX2_lifts : ByteArray := prog_4_method_5_code
def yX2_lifts : MethodName := ⟨RX2, "lifts", "(LSmokeRings$Ring;I)I"⟩
abbrev cX2_endsBy : ByteArray := prog_4_method_6_code
def yX2_endsBy : MethodName := ⟨RX2, "endsBy", "(LSmokeRings$Ring;LSmokeRings$Ring;)Z"⟩
abbrev cX2_goes : ByteArray := prog_4_method_7_code
def yX2_goes : MethodName := ⟨RX2, "goes", "(ILSmokeRings$Row;)I"⟩
abbrev cX2_moves : ByteArray := prog_4_method_8_code
def yX2_moves : MethodName := ⟨RX2, "moves", "(ILSmokeRings$Row;)I"⟩
abbrev cX2_ends : ByteArray := prog_4_method_9_code
def yX2_ends : MethodName := ⟨RX2, "ends", "(ILSmokeRings$Row;)I"⟩
abbrev cX2_tells : ByteArray := prog_4_method_10_code
def yX2_tells : MethodName := ⟨RX2, "tells", "(ILSmokeRings$Row;)I"⟩
def RX3 : String := "SmokeRings$Ring"
def TX3 : u_T := fun k => match k with
  | 0 => ("SmokeRings$Ring", "number", "I", true)
  | 1 => ("SmokeRings$Ring", "x", "I", false)
  | 2 => ("SmokeRings$Ring", "y", "I", false)
  | 3 => ("SmokeRings$Ring", "way", "I", false)
  | 4 => ("SmokeRings$Ring", "turning", "I", false)
  | 5 => ("SmokeRings$Ring", "wide", "I", false)
  | 6 => ("SmokeRings$Ring", "thick", "I", false)
  | _ => ("SmokeRings$Ring", "whole", "Z", false)
def tyX3 : Nat → FieldType := fun k => match k with
  | 0 => .int
  | 1 => .int
  | 2 => .int
  | 3 => .int
  | 4 => .int
  | 5 => .int
  | 6 => .int
  | _ => .boolean
abbrev wsX30 : List Cond := u_ws RX3 TX3 8
theorem nmX3 : ∀ a, a < 8 → ∀ b, b < 8 → a ≠ b → (TX3 a).2.1 ≠ (TX3 b).2.1 := by decide +kernel
theorem tyX3_ok : ∀ k, k < 8 → parseFieldDescriptor (TX3 k).2.2.1 = some (tyX3 k) := by decide +kernel
abbrev cX3_init : ByteArray := prog_5_method_1_code
def yX3_init : MethodName := ⟨RX3, "<init>", "(I)V"⟩
abbrev cX3_become : ByteArray := prog_5_method_2_code
def yX3_become : MethodName := ⟨RX3, "become", "(LSmokeRings$Ring;)V"⟩
abbrev cX3_pace : ByteArray := prog_5_method_3_code
def yX3_pace : MethodName := ⟨RX3, "pace", "()I"⟩
abbrev cX3_trait : ByteArray := prog_5_method_4_code
def yX3_trait : MethodName := ⟨RX3, "trait", "(I)I"⟩
abbrev cX3_gap : ByteArray := prog_5_method_5_code
def yX3_gap : MethodName := ⟨RX3, "gap", "(LSmokeRings$Ring;)I"⟩
abbrev cX3_isNear : ByteArray := prog_5_method_6_code
def yX3_isNear : MethodName := ⟨RX3, "isNear", "(LSmokeRings$Ring;)Z"⟩
abbrev cX3_isBehind : ByteArray := prog_5_method_7_code
def yX3_isBehind : MethodName := ⟨RX3, "isBehind", "(LSmokeRings$Ring;)Z"⟩
def RX4 : String := "SmokeRings$Room"
def TX4 : u_T := fun k => match k with
  | 0 => ("SmokeRings$Room", "rings", "[LSmokeRings$Ring;", true)
  | 1 => ("SmokeRings$Room", "ringCount", "I", false)
  | 2 => ("SmokeRings$Room", "before", "[LSmokeRings$Ring;", true)
  | 3 => ("SmokeRings$Room", "laws", "[LSmokeRings$Law;", true)
  | 4 => ("SmokeRings$Room", "lawCount", "I", false)
  | 5 => ("SmokeRings$Room", "on", "I", false)
  | 6 => ("SmokeRings$Room", "wall", "I", false)
  | 7 => ("SmokeRings$Room", "hole", "I", false)
  | 8 => ("SmokeRings$Room", "now", "I", false)
  | 9 => ("SmokeRings$Room", "z", "I", false)
  | 10 => ("SmokeRings$Room", "texts", "[LSmokeRings$Text;", true)
  | 11 => ("SmokeRings$Room", "tape", "LSmokeRings$Row;", true)
  | _ => ("SmokeRings$Room", "waiting", "LSmokeRings$Row;", true)
def tyX4 : Nat → FieldType := fun k => match k with
  | 0 => .array (.object "SmokeRings$Ring")
  | 1 => .int
  | 2 => .array (.object "SmokeRings$Ring")
  | 3 => .array (.object "SmokeRings$Law")
  | 4 => .int
  | 5 => .int
  | 6 => .int
  | 7 => .int
  | 8 => .int
  | 9 => .int
  | 10 => .array (.object "SmokeRings$Text")
  | 11 => .object "SmokeRings$Row"
  | _ => .object "SmokeRings$Row"
abbrev wsX40 : List Cond := u_ws RX4 TX4 13
theorem nmX4 : ∀ a, a < 13 → ∀ b, b < 13 → a ≠ b → (TX4 a).2.1 ≠ (TX4 b).2.1 := by decide +kernel
theorem tyX4_ok : ∀ k, k < 13 → parseFieldDescriptor (TX4 k).2.2.1 = some (tyX4 k) := by decide +kernel
abbrev cX4_init : ByteArray := prog_6_method_1_code
def yX4_init : MethodName := ⟨RX4, "<init>", "()V"⟩
abbrev cX4_become : ByteArray := prog_6_method_2_code
def yX4_become : MethodName := ⟨RX4, "become", "(LSmokeRings$Room;)V"⟩
abbrev cX4_takeRings : ByteArray := prog_6_method_3_code
def yX4_takeRings : MethodName := ⟨RX4, "takeRings", "(LSmokeRings$Room;)V"⟩
abbrev cX4_isFull : ByteArray := prog_6_method_4_code
def yX4_isFull : MethodName := ⟨RX4, "isFull", "()Z"⟩
abbrev cX4_hasRing : ByteArray := prog_6_method_5_code
def yX4_hasRing : MethodName := ⟨RX4, "hasRing", "(I)Z"⟩
abbrev cX4_hasLaw : ByteArray := prog_6_method_6_code
def yX4_hasLaw : MethodName := ⟨RX4, "hasLaw", "(I)Z"⟩
abbrev cX4_isOn : ByteArray := prog_6_method_7_code
def yX4_isOn : MethodName := ⟨RX4, "isOn", "(I)Z"⟩
abbrev cX4_lawOn : ByteArray := prog_6_method_8_code
def yX4_lawOn : MethodName := ⟨RX4, "lawOn", "(I)LSmokeRings$Law;"⟩
abbrev cX4_addRing : ByteArray := prog_6_method_9_code
def yX4_addRing : MethodName := ⟨RX4, "addRing", "(IIIIII)I"⟩
abbrev cX4_addStroke : ByteArray := prog_6_method_10_code
def yX4_addStroke : MethodName := ⟨RX4, "addStroke", "(II)I"⟩
abbrev cX4_addLaw : ByteArray := prog_6_method_11_code
def yX4_addLaw : MethodName := ⟨RX4, "addLaw", "(LSmokeRings$Law;)I"⟩
abbrev cX4_trailing : ByteArray := prog_6_method_12_code
def yX4_trailing : MethodName := ⟨RX4, "trailing", "(I)I"⟩
abbrev cX4_given : ByteArray := prog_6_method_13_code
def yX4_given : MethodName := ⟨RX4, "given", "(IIII)I"⟩
abbrev cX4_foremost : ByteArray := prog_6_method_14_code
def yX4_foremost : MethodName := ⟨RX4, "foremost", "()I"⟩
abbrev cX4_wholeCount : ByteArray := prog_6_method_15_code
def yX4_wholeCount : MethodName := ⟨RX4, "wholeCount", "()I"⟩
abbrev cX4_changesOfFront : ByteArray := prog_6_method_16_code
def yX4_changesOfFront : MethodName := ⟨RX4, "changesOfFront", "(II)I"⟩
abbrev cX4_greatestX : ByteArray := prog_6_method_17_code
def yX4_greatestX : MethodName := ⟨RX4, "greatestX", "(II)I"⟩
abbrev cX4_tick : ByteArray := prog_6_method_18_code
def yX4_tick : MethodName := ⟨RX4, "tick", "()V"⟩
abbrev cX4_blow : ByteArray := prog_6_method_19_code
def yX4_blow : MethodName := ⟨RX4, "blow", "()V"⟩
abbrev cX4_advance : ByteArray := prog_6_method_20_code
def yX4_advance : MethodName := ⟨RX4, "advance", "(LSmokeRings$Ring;LSmokeRings$Ring;)V"⟩
abbrev cX4_widen : ByteArray := prog_6_method_21_code
def yX4_widen : MethodName := ⟨RX4, "widen", "(LSmokeRings$Ring;LSmokeRings$Ring;)V"⟩
abbrev cX4_isOther : ByteArray := prog_6_method_22_code
def yX4_isOther : MethodName := ⟨RX4, "isOther", "(LSmokeRings$Ring;LSmokeRings$Ring;)Z"⟩
abbrev cX4_endIfDue : ByteArray := prog_6_method_23_code
def yX4_endIfDue : MethodName := ⟨RX4, "endIfDue", "(I)V"⟩
abbrev cX4_endingLaw : ByteArray := prog_6_method_24_code
def yX4_endingLaw : MethodName := ⟨RX4, "endingLaw", "(LSmokeRings$Ring;LSmokeRings$Ring;)LSmokeRings$Law;"⟩
abbrev cX4_settle : ByteArray := prog_6_method_25_code
def yX4_settle : MethodName := ⟨RX4, "settle", "(LSmokeRings$Ring;)V"⟩
def RX5 : String := "SmokeRings$Row"
def TX5 : u_T := fun k => match k with
  | 0 => ("SmokeRings$Row", "numbers", "[I", true)
  | 1 => ("SmokeRings$Row", "size", "I", false)
  | _ => ("SmokeRings$Row", "bits", "I", false)
def tyX5 : Nat → FieldType := fun k => match k with
  | 0 => .array .int
  | 1 => .int
  | _ => .int
abbrev wsX50 : List Cond := u_ws RX5 TX5 3
theorem nmX5 : ∀ a, a < 3 → ∀ b, b < 3 → a ≠ b → (TX5 a).2.1 ≠ (TX5 b).2.1 := by decide +kernel
theorem tyX5_ok : ∀ k, k < 3 → parseFieldDescriptor (TX5 k).2.2.1 = some (tyX5 k) := by decide +kernel
abbrev cX5_init : ByteArray := prog_7_method_1_code
def yX5_init : MethodName := ⟨RX5, "<init>", "(I)V"⟩
abbrev cX5_become : ByteArray := prog_7_method_2_code
def yX5_become : MethodName := ⟨RX5, "become", "(LSmokeRings$Row;)V"⟩
abbrev cX5_add : ByteArray := prog_7_method_3_code
def yX5_add : MethodName := ⟨RX5, "add", "(I)V"⟩
abbrev cX5_has : ByteArray := prog_7_method_4_code
def yX5_has : MethodName := ⟨RX5, "has", "(I)Z"⟩
abbrev cX5_stands : ByteArray := prog_7_method_5_code
def yX5_stands : MethodName := ⟨RX5, "stands", "(II)Z"⟩
abbrev cX5_begin : ByteArray := prog_7_method_6_code
def yX5_begin : MethodName := ⟨RX5, "begin", "(II)V"⟩
abbrev cX5_write : ByteArray := prog_7_method_7_code
def yX5_write : MethodName := ⟨RX5, "write", "(II)V"⟩
def RX6 : String := "SmokeRings$Slanted"
def TX6 : u_T := fun k => match k with
  | 0 => ("SmokeRings$Law", "kind", "I", true)
  | 1 => ("SmokeRings$Law", "number", "I", true)
  | _ => ("SmokeRings$Law", "m", "I", true)
def tyX6 : Nat → FieldType := fun k => match k with
  | 0 => .int
  | 1 => .int
  | _ => .int
abbrev wsX60 : List Cond := u_ws RX6 TX6 3
theorem nmX6 : ∀ a, a < 3 → ∀ b, b < 3 → a ≠ b → (TX6 a).2.1 ≠ (TX6 b).2.1 := by decide +kernel
theorem tyX6_ok : ∀ k, k < 3 → parseFieldDescriptor (TX6 k).2.2.1 = some (tyX6 k) := by decide +kernel
abbrev cX6_init : ByteArray := prog_8_method_1_code
def yX6_init : MethodName := ⟨RX6, "<init>", "(II)V"⟩
abbrev cX6_spreads : ByteArray := prog_8_method_2_code
def yX6_spreads : MethodName := ⟨RX6, "spreads", "(LSmokeRings$Ring;I)I"⟩
abbrev cX6_lifts : ByteArray := prog_8_method_3_code
def yX6_lifts : MethodName := ⟨RX6, "lifts", "(LSmokeRings$Ring;I)I"⟩
abbrev cX6_ends : ByteArray := prog_8_method_4_code
def yX6_ends : MethodName := ⟨RX6, "ends", "(ILSmokeRings$Row;)I"⟩
abbrev cX6_tells : ByteArray := prog_8_method_5_code
def yX6_tells : MethodName := ⟨RX6, "tells", "(ILSmokeRings$Row;)I"⟩
def RX7 : String := "SmokeRings$Text"
def TX7 : u_T := fun k => match k with
  | 0 => ("SmokeRings$Text", "codes", "[I", true)
  | 1 => ("SmokeRings$Text", "size", "I", false)
  | 2 => ("SmokeRings$Text", "stack", "[I", true)
  | 3 => ("SmokeRings$Text", "top", "I", false)
  | 4 => ("SmokeRings$Text", "open", "I", false)
  | 5 => ("SmokeRings$Text", "digits", "I", false)
  | _ => ("SmokeRings$Text", "wanting", "Z", false)
def tyX7 : Nat → FieldType := fun k => match k with
  | 0 => .array .int
  | 1 => .int
  | 2 => .array .int
  | 3 => .int
  | 4 => .int
  | 5 => .int
  | _ => .boolean
abbrev wsX70 : List Cond := u_ws RX7 TX7 7
theorem nmX7 : ∀ a, a < 7 → ∀ b, b < 7 → a ≠ b → (TX7 a).2.1 ≠ (TX7 b).2.1 := by decide +kernel
theorem tyX7_ok : ∀ k, k < 7 → parseFieldDescriptor (TX7 k).2.2.1 = some (tyX7 k) := by decide +kernel
abbrev cX7_init : ByteArray := prog_9_method_1_code
def yX7_init : MethodName := ⟨RX7, "<init>", "()V"⟩
abbrev cX7_become : ByteArray := prog_9_method_2_code
def yX7_become : MethodName := ⟨RX7, "become", "(LSmokeRings$Text;)V"⟩
abbrev cX7_read : ByteArray := prog_9_method_3_code
def yX7_read : MethodName := ⟨RX7, "read", "(LSmokeRings$Row;Ljava/lang/String;)I"⟩
abbrev cX7_takesOperand : ByteArray := prog_9_method_4_code
def yX7_takesOperand : MethodName := ⟨RX7, "takesOperand", "(ILjava/lang/String;)Z"⟩
abbrev cX7_takesOperator : ByteArray := prog_9_method_5_code
def yX7_takesOperator : MethodName := ⟨RX7, "takesOperator", "(I)Z"⟩
abbrev cX7_takesDigit : ByteArray := prog_9_method_6_code
def yX7_takesDigit : MethodName := ⟨RX7, "takesDigit", "(I)Z"⟩
abbrev cX7_takesClose : ByteArray := prog_9_method_7_code
def yX7_takesClose : MethodName := ⟨RX7, "takesClose", "()Z"⟩
abbrev cX7_isComplete : ByteArray := prog_9_method_8_code
def yX7_isComplete : MethodName := ⟨RX7, "isComplete", "()Z"⟩
abbrev cX7_popAbove : ByteArray := prog_9_method_9_code
def yX7_popAbove : MethodName := ⟨RX7, "popAbove", "(I)V"⟩
abbrev cX7_pop : ByteArray := prog_9_method_10_code
def yX7_pop : MethodName := ⟨RX7, "pop", "()V"⟩
abbrev cX7_push : ByteArray := prog_9_method_11_code
def yX7_push : MethodName := ⟨RX7, "push", "(I)V"⟩
abbrev cX7_append : ByteArray := prog_9_method_12_code
def yX7_append : MethodName := ⟨RX7, "append", "(I)V"⟩
abbrev cX7_value : ByteArray := prog_9_method_13_code
def yX7_value : MethodName := ⟨RX7, "value", "(III)I"⟩
abbrev cX7_result : ByteArray := prog_9_method_14_code
def yX7_result : MethodName := ⟨RX7, "result", "(III)I"⟩
abbrev cX7_rank : ByteArray := prog_9_method_15_code
def yX7_rank : MethodName := ⟨RX7, "rank", "(I)I"⟩
abbrev cX7_isDigit : ByteArray := prog_9_method_16_code
def yX7_isDigit : MethodName := ⟨RX7, "isDigit", "(I)Z"⟩
def RX8 : String := "SmokeRings$Through"
def TX8 : u_T := fun k => match k with
  | 0 => ("SmokeRings$Law", "kind", "I", true)
  | 1 => ("SmokeRings$Law", "number", "I", true)
  | _ => ("SmokeRings$Law", "m", "I", true)
def tyX8 : Nat → FieldType := fun k => match k with
  | 0 => .int
  | 1 => .int
  | _ => .int
abbrev wsX80 : List Cond := u_ws RX8 TX8 3
theorem nmX8 : ∀ a, a < 3 → ∀ b, b < 3 → a ≠ b → (TX8 a).2.1 ≠ (TX8 b).2.1 := by decide +kernel
theorem tyX8_ok : ∀ k, k < 3 → parseFieldDescriptor (TX8 k).2.2.1 = some (tyX8 k) := by decide +kernel
abbrev cX8_init : ByteArray := prog_10_method_1_code
def yX8_init : MethodName := ⟨RX8, "<init>", "(II)V"⟩
abbrev cX8_widens : ByteArray := prog_10_method_2_code
def yX8_widens : MethodName := ⟨RX8, "widens", "(LSmokeRings$Ring;LSmokeRings$Ring;)I"⟩
abbrev cX8_moves : ByteArray := prog_10_method_3_code
def yX8_moves : MethodName := ⟨RX8, "moves", "(ILSmokeRings$Row;)I"⟩
def RX9 : String := "SmokeRings$Torn"
def TX9 : u_T := fun k => match k with
  | 0 => ("SmokeRings$Law", "kind", "I", true)
  | 1 => ("SmokeRings$Law", "number", "I", true)
  | _ => ("SmokeRings$Law", "m", "I", true)
def tyX9 : Nat → FieldType := fun k => match k with
  | 0 => .int
  | 1 => .int
  | _ => .int
abbrev wsX90 : List Cond := u_ws RX9 TX9 3
theorem nmX9 : ∀ a, a < 3 → ∀ b, b < 3 → a ≠ b → (TX9 a).2.1 ≠ (TX9 b).2.1 := by decide +kernel
theorem tyX9_ok : ∀ k, k < 3 → parseFieldDescriptor (TX9 k).2.2.1 = some (tyX9 k) := by decide +kernel
abbrev cX9_init : ByteArray := prog_11_method_1_code
def yX9_init : MethodName := ⟨RX9, "<init>", "(II)V"⟩
abbrev cX9_endsBy : ByteArray := prog_11_method_2_code
def yX9_endsBy : MethodName := ⟨RX9, "endsBy", "(LSmokeRings$Ring;LSmokeRings$Ring;)Z"⟩
abbrev cX9_goes : ByteArray := prog_11_method_3_code
def yX9_goes : MethodName := ⟨RX9, "goes", "(ILSmokeRings$Row;)I"⟩
abbrev cX9_tells : ByteArray := prog_11_method_4_code
def yX9_tells : MethodName := ⟨RX9, "tells", "(ILSmokeRings$Row;)I"⟩
def RX10 : String := "SmokeRings$Walled"
def TX10 : u_T := fun k => match k with
  | 0 => ("SmokeRings$Law", "kind", "I", true)
  | 1 => ("SmokeRings$Law", "number", "I", true)
  | _ => ("SmokeRings$Law", "m", "I", true)
def tyX10 : Nat → FieldType := fun k => match k with
  | 0 => .int
  | 1 => .int
  | _ => .int
abbrev wsX100 : List Cond := u_ws RX10 TX10 3
theorem nmX10 : ∀ a, a < 3 → ∀ b, b < 3 → a ≠ b → (TX10 a).2.1 ≠ (TX10 b).2.1 := by decide +kernel
theorem tyX10_ok : ∀ k, k < 3 → parseFieldDescriptor (TX10 k).2.2.1 = some (tyX10 k) := by decide +kernel
abbrev cX10_init : ByteArray := prog_12_method_1_code
def yX10_init : MethodName := ⟨RX10, "<init>", "(III)V"⟩
abbrev cX10_widens : ByteArray := prog_12_method_2_code
def yX10_widens : MethodName := ⟨RX10, "widens", "(LSmokeRings$Ring;LSmokeRings$Ring;)I"⟩
abbrev cX10_spreads : ByteArray := prog_12_method_3_code
def yX10_spreads : MethodName := ⟨RX10, "spreads", "(LSmokeRings$Ring;I)I"⟩
abbrev cX10_moves : ByteArray := prog_12_method_4_code
def yX10_moves : MethodName := ⟨RX10, "moves", "(ILSmokeRings$Row;)I"⟩
def RX11 : String := "SmokeRings"
def TX11 : u_T := fun k => match k with
  | 0 => ("SmokeRings", "room", "LSmokeRings$Room;", true)
  | 1 => ("SmokeRings", "ahead", "LSmokeRings$Room;", true)
  | 2 => ("SmokeRings", "start", "LSmokeRings$Room;", true)
  | 3 => ("SmokeRings", "kept", "LSmokeRings$Room;", true)
  | 4 => ("SmokeRings", "images", "I", false)
  | 5 => ("SmokeRings", "sheets", "[LSmokeRings$Row;", true)
  | 6 => ("SmokeRings", "traced", "LSmokeRings$Row;", true)
  | 7 => ("SmokeRings", "fresh", "LSmokeRings$Text;", true)
  | _ => ("SmokeRings", "errors", "[I", true)
def tyX11 : Nat → FieldType := fun k => match k with
  | 0 => .object "SmokeRings$Room"
  | 1 => .object "SmokeRings$Room"
  | 2 => .object "SmokeRings$Room"
  | 3 => .object "SmokeRings$Room"
  | 4 => .int
  | 5 => .array (.object "SmokeRings$Row")
  | 6 => .object "SmokeRings$Row"
  | 7 => .object "SmokeRings$Text"
  | _ => .array .int
abbrev wsX110 : List Cond := u_ws RX11 TX11 9
theorem nmX11 : ∀ a, a < 9 → ∀ b, b < 9 → a ≠ b → (TX11 a).2.1 ≠ (TX11 b).2.1 := by decide +kernel
theorem tyX11_ok : ∀ k, k < 9 → parseFieldDescriptor (TX11 k).2.2.1 = some (tyX11 k) := by decide +kernel
abbrev cX11_init : ByteArray := prog_1_method_1_code
def yX11_init : MethodName := ⟨RX11, "<init>", "()V"⟩
abbrev cX11_ring : ByteArray := prog_1_method_2_code
def yX11_ring : MethodName := ⟨RX11, "ring", "(IIII)I"⟩
abbrev cX11_ofRing : ByteArray := prog_1_method_3_code
def yX11_ofRing : MethodName := ⟨RX11, "ofRing", "(II)I"⟩
abbrev cX11_end : ByteArray := prog_1_method_4_code
def yX11_end : MethodName := ⟨RX11, "end", "(I)I"⟩
abbrev cX11_wall : ByteArray := prog_1_method_5_code
def yX11_wall : MethodName := ⟨RX11, "wall", "(I)I"⟩
abbrev cX11_law : ByteArray := prog_1_method_6_code
def yX11_law : MethodName := ⟨RX11, "law", "(II)I"⟩
abbrev cX11_ofLaw : ByteArray := prog_1_method_7_code
def yX11_ofLaw : MethodName := ⟨RX11, "ofLaw", "(II)I"⟩
abbrev cX11_as : ByteArray := prog_1_method_8_code
def yX11_as : MethodName := ⟨RX11, "as", "(II)I"⟩
abbrev cX11_turn : ByteArray := prog_1_method_9_code
def yX11_turn : MethodName := ⟨RX11, "turn", "(II)I"⟩
abbrev cX11_does : ByteArray := prog_1_method_10_code
def yX11_does : MethodName := ⟨RX11, "does", "(IIII)I"⟩
abbrev cX11_pair : ByteArray := prog_1_method_11_code
def yX11_pair : MethodName := ⟨RX11, "pair", "(III)I"⟩
abbrev cX11_hole : ByteArray := prog_1_method_12_code
def yX11_hole : MethodName := ⟨RX11, "hole", "(I)I"⟩
abbrev cX11_stroke : ByteArray := prog_1_method_13_code
def yX11_stroke : MethodName := ⟨RX11, "stroke", "(II)I"⟩
abbrev cX11_trails : ByteArray := prog_1_method_14_code
def yX11_trails : MethodName := ⟨RX11, "trails", "(I)I"⟩
abbrev cX11_feed : ByteArray := prog_1_method_15_code
def yX11_feed : MethodName := ⟨RX11, "feed", "(JI)I"⟩
abbrev cX11_text : ByteArray := prog_1_method_16_code
def yX11_text : MethodName := ⟨RX11, "text", "(I)I"⟩
abbrev cX11_gives : ByteArray := prog_1_method_17_code
def yX11_gives : MethodName := ⟨RX11, "gives", "(IIII)I"⟩
abbrev cX11_ticks : ByteArray := prog_1_method_18_code
def yX11_ticks : MethodName := ⟨RX11, "ticks", "(I)I"⟩
abbrev cX11_breeze : ByteArray := prog_1_method_19_code
def yX11_breeze : MethodName := ⟨RX11, "breeze", "(I)I"⟩
abbrev cX11_front : ByteArray := prog_1_method_20_code
def yX11_front : MethodName := ⟨RX11, "front", "()I"⟩
abbrev cX11_then : ByteArray := prog_1_method_21_code
def yX11_then : MethodName := ⟨RX11, "then", "(III)I"⟩
abbrev cX11_whole : ByteArray := prog_1_method_22_code
def yX11_whole : MethodName := ⟨RX11, "whole", "(I)I"⟩
abbrev cX11_turns : ByteArray := prog_1_method_23_code
def yX11_turns : MethodName := ⟨RX11, "turns", "(I)I"⟩
abbrev cX11_far : ByteArray := prog_1_method_24_code
def yX11_far : MethodName := ⟨RX11, "far", "(II)I"⟩
abbrev cX11_knock : ByteArray := prog_1_method_25_code
def yX11_knock : MethodName := ⟨RX11, "knock", "(III)I"⟩
abbrev cX11_farthest : ByteArray := prog_1_method_26_code
def yX11_farthest : MethodName := ⟨RX11, "farthest", "(III)I"⟩
abbrev cX11_second : ByteArray := prog_1_method_27_code
def yX11_second : MethodName := ⟨RX11, "second", "(III)I"⟩
abbrev cX11_alike : ByteArray := prog_1_method_28_code
def yX11_alike : MethodName := ⟨RX11, "alike", "(II)I"⟩
abbrev cX11_off : ByteArray := prog_1_method_29_code
def yX11_off : MethodName := ⟨RX11, "off", "(I)I"⟩
abbrev cX11_spun : ByteArray := prog_1_method_30_code
def yX11_spun : MethodName := ⟨RX11, "spun", "(I)I"⟩
abbrev cX11_made : ByteArray := prog_1_method_31_code
def yX11_made : MethodName := ⟨RX11, "made", "(I)I"⟩
abbrev cX11_heart : ByteArray := prog_1_method_32_code
def yX11_heart : MethodName := ⟨RX11, "heart", "(I)I"⟩
abbrev cX11_seed : ByteArray := prog_1_method_33_code
def yX11_seed : MethodName := ⟨RX11, "seed", "(I)I"⟩
abbrev cX11_voice : ByteArray := prog_1_method_34_code
def yX11_voice : MethodName := ⟨RX11, "voice", "(III)I"⟩
abbrev cX11_trace : ByteArray := prog_1_method_35_code
def yX11_trace : MethodName := ⟨RX11, "trace", "(I)I"⟩
abbrev cX11_sheet : ByteArray := prog_1_method_36_code
def yX11_sheet : MethodName := ⟨RX11, "sheet", "(III)I"⟩
abbrev cX11_put : ByteArray := prog_1_method_37_code
def yX11_put : MethodName := ⟨RX11, "put", "(III)I"⟩
abbrev cX11_move : ByteArray := prog_1_method_38_code
def yX11_move : MethodName := ⟨RX11, "move", "(IIIII)I"⟩
abbrev cX11_film : ByteArray := prog_1_method_39_code
def yX11_film : MethodName := ⟨RX11, "film", "(I)I"⟩
abbrev cX11_image : ByteArray := prog_1_method_40_code
def yX11_image : MethodName := ⟨RX11, "image", "()I"⟩
abbrev cX11_restore : ByteArray := prog_1_method_41_code
def yX11_restore : MethodName := ⟨RX11, "restore", "()I"⟩
abbrev cX11_tell : ByteArray := prog_1_method_42_code
def yX11_tell : MethodName := ⟨RX11, "tell", "(I)I"⟩
abbrev cX11_check : ByteArray := prog_1_method_43_code
def yX11_check : MethodName := ⟨RX11, "check", "(I)I"⟩
abbrev cX11_count : ByteArray := prog_1_method_44_code
def yX11_count : MethodName := ⟨RX11, "count", "(I)I"⟩
abbrev cX11_told : ByteArray := prog_1_method_45_code
def yX11_told : MethodName := ⟨RX11, "told", "(I)I"⟩
abbrev cX11_error : ByteArray := prog_1_method_46_code
def yX11_error : MethodName := ⟨RX11, "error", "(I)I"⟩
abbrev cX11_pass : ByteArray := prog_1_method_47_code
def yX11_pass : MethodName := ⟨RX11, "pass", "(IZ)I"⟩
abbrev cX11_goAhead : ByteArray := prog_1_method_48_code
def yX11_goAhead : MethodName := ⟨RX11, "goAhead", "(I)V"⟩
abbrev cX11_checked : ByteArray := prog_1_method_49_code
def yX11_checked : MethodName := ⟨RX11, "checked", "(LSmokeRings$Row;)I"⟩
abbrev cX11_filmError : ByteArray := prog_1_method_50_code
def yX11_filmError : MethodName := ⟨RX11, "filmError", "(I)I"⟩
abbrev cX11_offBy : ByteArray := prog_1_method_51_code
def yX11_offBy : MethodName := ⟨RX11, "offBy", "(LSmokeRings$Row;I)I"⟩
abbrev cX11_isMissing : ByteArray := prog_1_method_52_code
def yX11_isMissing : MethodName := ⟨RX11, "isMissing", "(I)Z"⟩
abbrev cX11_isSheet : ByteArray := prog_1_method_53_code
def yX11_isSheet : MethodName := ⟨RX11, "isSheet", "(I)Z"⟩
abbrev cX11_isAhead : ByteArray := prog_1_method_54_code
def yX11_isAhead : MethodName := ⟨RX11, "isAhead", "(I)Z"⟩
abbrev cX11_isHeld : ByteArray := prog_1_method_55_code
def yX11_isHeld : MethodName := ⟨RX11, "isHeld", "(III)Z"⟩
abbrev cX11_held : ByteArray := prog_1_method_56_code
def yX11_held : MethodName := ⟨RX11, "held", "(III)I"⟩
abbrev cX11_asBit : ByteArray := prog_1_method_57_code
def yX11_asBit : MethodName := ⟨RX11, "asBit", "(Z)I"⟩
abbrev cX11_quotient : ByteArray := prog_1_method_58_code
def yX11_quotient : MethodName := ⟨RX11, "quotient", "(II)I"⟩
abbrev cX11_makeLaw : ByteArray := prog_1_method_59_code
def yX11_makeLaw : MethodName := ⟨RX11, "makeLaw", "(III)LSmokeRings$Law;"⟩
abbrev cX11_isOfKind : ByteArray := prog_1_method_60_code
def yX11_isOfKind : MethodName := ⟨RX11, "isOfKind", "(LSmokeRings$Law;I)Z"⟩
def RX12 : String := "SmokeRingsModel"
def TX12 : u_T := fun k => match k with
  | 0 => ("SmokeRingsModel", "d", "[I", true)
  | 1 => ("SmokeRingsModel", "e", "[I", true)
  | 2 => ("SmokeRingsModel", "g", "[I", true)
  | 3 => ("SmokeRingsModel", "was", "[I", true)
  | 4 => ("SmokeRingsModel", "kept", "[I", true)
  | 5 => ("SmokeRingsModel", "images", "I", false)
  | 6 => ("SmokeRingsModel", "found", "[I", true)
  | 7 => ("SmokeRingsModel", "base", "I", false)
  | 8 => ("SmokeRingsModel", "at", "I", false)
  | 9 => ("SmokeRingsModel", "size", "I", false)
  | 10 => ("SmokeRingsModel", "fault", "I", false)
  | 11 => ("SmokeRingsModel", "opened", "I", false)
  | 12 => ("SmokeRingsModel", "isStroke", "Z", false)
  | 13 => ("SmokeRingsModel", "names", "[I", true)
  | 14 => ("SmokeRingsModel", "traced", "[I", true)
  | 15 => ("SmokeRingsModel", "traceMany", "I", false)
  | 16 => ("SmokeRingsModel", "who", "I", false)
  | 17 => ("SmokeRingsModel", "bitsOf", "[I", true)
  | 18 => ("SmokeRingsModel", "sizeOf", "[I", true)
  | 19 => ("SmokeRingsModel", "number", "[I", true)
  | _ => ("SmokeRingsModel", "lifted", "[I", true)
def tyX12 : Nat → FieldType := fun k => match k with
  | 0 => .array .int
  | 1 => .array .int
  | 2 => .array .int
  | 3 => .array .int
  | 4 => .array .int
  | 5 => .int
  | 6 => .array .int
  | 7 => .int
  | 8 => .int
  | 9 => .int
  | 10 => .int
  | 11 => .int
  | 12 => .boolean
  | 13 => .array .int
  | 14 => .array .int
  | 15 => .int
  | 16 => .int
  | 17 => .array .int
  | 18 => .array .int
  | 19 => .array .int
  | _ => .array .int
abbrev wsX120 : List Cond := u_ws RX12 TX12 21
theorem nmX12 : ∀ a, a < 21 → ∀ b, b < 21 → a ≠ b → (TX12 a).2.1 ≠ (TX12 b).2.1 := by decide +kernel
theorem tyX12_ok : ∀ k, k < 21 → parseFieldDescriptor (TX12 k).2.2.1 = some (tyX12 k) := by decide +kernel
abbrev cX12_init : ByteArray := prog_14_method_1_code
def yX12_init : MethodName := ⟨RX12, "<init>", "()V"⟩
abbrev cX12_finds : ByteArray := prog_14_method_3_code
def yX12_finds : MethodName := ⟨RX12, "finds", "(I)I"⟩
abbrev cX12_in : ByteArray := prog_14_method_4_code
def yX12_in : MethodName := ⟨RX12, "in", "(JJJ)Z"⟩
abbrev cX12_held : ByteArray := prog_14_method_5_code
def yX12_held : MethodName := ⟨RX12, "held", "(JII)I"⟩
abbrev cX12_copies : ByteArray := prog_14_method_6_code
def yX12_copies : MethodName := ⟨RX12, "copies", "([I[I)V"⟩
abbrev cX12_isRing : ByteArray := prog_14_method_7_code
def yX12_isRing : MethodName := ⟨RX12, "isRing", "(I)Z"⟩
abbrev cX12_isLaw : ByteArray := prog_14_method_8_code
def yX12_isLaw : MethodName := ⟨RX12, "isLaw", "(I)Z"⟩
abbrev cX12_of : ByteArray := prog_14_method_9_code
def yX12_of : MethodName := ⟨RX12, "of", "([III)I"⟩
abbrev cX12_isWhole : ByteArray := prog_14_method_10_code
def yX12_isWhole : MethodName := ⟨RX12, "isWhole", "([II)Z"⟩
abbrev cX12_adds : ByteArray := prog_14_method_11_code
def yX12_adds : MethodName := ⟨RX12, "adds", "([IIIIIII)I"⟩
abbrev cX12_ring : ByteArray := prog_14_method_12_code
def yX12_ring : MethodName := ⟨RX12, "ring", "(IIII)I"⟩
abbrev cX12_paceOf : ByteArray := prog_14_method_13_code
def yX12_paceOf : MethodName := ⟨RX12, "paceOf", "([II)I"⟩
abbrev cX12_ofRing : ByteArray := prog_14_method_14_code
def yX12_ofRing : MethodName := ⟨RX12, "ofRing", "(II)I"⟩
abbrev cX12_end : ByteArray := prog_14_method_15_code
def yX12_end : MethodName := ⟨RX12, "end", "(I)I"⟩
abbrev cX12_wall : ByteArray := prog_14_method_16_code
def yX12_wall : MethodName := ⟨RX12, "wall", "(I)I"⟩
abbrev cX12_law : ByteArray := prog_14_method_17_code
def yX12_law : MethodName := ⟨RX12, "law", "(II)I"⟩
abbrev cX12_ofLaw : ByteArray := prog_14_method_18_code
def yX12_ofLaw : MethodName := ⟨RX12, "ofLaw", "(II)I"⟩
abbrev cX12_isOf : ByteArray := prog_14_method_19_code
def yX12_isOf : MethodName := ⟨RX12, "isOf", "(II)Z"⟩
abbrev cX12_as : ByteArray := prog_14_method_20_code
def yX12_as : MethodName := ⟨RX12, "as", "(II)I"⟩
abbrev cX12_turn : ByteArray := prog_14_method_21_code
def yX12_turn : MethodName := ⟨RX12, "turn", "(II)I"⟩
abbrev cX12_apart : ByteArray := prog_14_method_22_code
def yX12_apart : MethodName := ⟨RX12, "apart", "(II)I"⟩
abbrev cX12_gap : ByteArray := prog_14_method_23_code
def yX12_gap : MethodName := ⟨RX12, "gap", "([III)I"⟩
abbrev cX12_areNear : ByteArray := prog_14_method_24_code
def yX12_areNear : MethodName := ⟨RX12, "areNear", "([III)Z"⟩
abbrev cX12_isBehind : ByteArray := prog_14_method_25_code
def yX12_isBehind : MethodName := ⟨RX12, "isBehind", "([III)Z"⟩
abbrev cX12_widens : ByteArray := prog_14_method_26_code
def yX12_widens : MethodName := ⟨RX12, "widens", "([IIII)I"⟩
abbrev cX12_spreads : ByteArray := prog_14_method_27_code
def yX12_spreads : MethodName := ⟨RX12, "spreads", "([III)I"⟩
abbrev cX12_lifts : ByteArray := prog_14_method_28_code
def yX12_lifts : MethodName := ⟨RX12, "lifts", "([III)I"⟩
abbrev cX12_doesEnd : ByteArray := prog_14_method_29_code
def yX12_doesEnd : MethodName := ⟨RX12, "doesEnd", "([IIII)Z"⟩
abbrev cX12_does : ByteArray := prog_14_method_30_code
def yX12_does : MethodName := ⟨RX12, "does", "(IIII)I"⟩
abbrev cX12_pair : ByteArray := prog_14_method_31_code
def yX12_pair : MethodName := ⟨RX12, "pair", "(III)I"⟩
abbrev cX12_here : ByteArray := prog_14_method_32_code
def yX12_here : MethodName := ⟨RX12, "here", "()I"⟩
abbrev cX12_wrong : ByteArray := prog_14_method_33_code
def yX12_wrong : MethodName := ⟨RX12, "wrong", "()I"⟩
abbrev cX12_takes : ByteArray := prog_14_method_34_code
def yX12_takes : MethodName := ⟨RX12, "takes", "(I)Z"⟩
abbrev cX12_nameOf : ByteArray := prog_14_method_35_code
def yX12_nameOf : MethodName := ⟨RX12, "nameOf", "(I)I"⟩
abbrev cX12_either : ByteArray := prog_14_method_36_code
def yX12_either : MethodName := ⟨RX12, "either", "()I"⟩
abbrev cX12_both : ByteArray := prog_14_method_37_code
def yX12_both : MethodName := ⟨RX12, "both", "()I"⟩
abbrev cX12_compared : ByteArray := prog_14_method_38_code
def yX12_compared : MethodName := ⟨RX12, "compared", "()I"⟩
abbrev cX12_sum : ByteArray := prog_14_method_39_code
def yX12_sum : MethodName := ⟨RX12, "sum", "()I"⟩
abbrev cX12_product : ByteArray := prog_14_method_40_code
def yX12_product : MethodName := ⟨RX12, "product", "()I"⟩
abbrev cX12_unit : ByteArray := prog_14_method_41_code
def yX12_unit : MethodName := ⟨RX12, "unit", "()I"⟩
abbrev cX12_worked : ByteArray := prog_14_method_42_code
def yX12_worked : MethodName := ⟨RX12, "worked", "(III)I"⟩
abbrev cX12_feed : ByteArray := prog_14_method_43_code
def yX12_feed : MethodName := ⟨RX12, "feed", "(JI)I"⟩
abbrev cX12_text : ByteArray := prog_14_method_44_code
def yX12_text : MethodName := ⟨RX12, "text", "(I)I"⟩
abbrev cX12_givesOf : ByteArray := prog_14_method_45_code
def yX12_givesOf : MethodName := ⟨RX12, "givesOf", "(IIII)I"⟩
abbrev cX12_gives : ByteArray := prog_14_method_46_code
def yX12_gives : MethodName := ⟨RX12, "gives", "(IIII)I"⟩
abbrev cX12_hole : ByteArray := prog_14_method_47_code
def yX12_hole : MethodName := ⟨RX12, "hole", "(I)I"⟩
abbrev cX12_strokes : ByteArray := prog_14_method_48_code
def yX12_strokes : MethodName := ⟨RX12, "strokes", "([III)I"⟩
abbrev cX12_stroke : ByteArray := prog_14_method_49_code
def yX12_stroke : MethodName := ⟨RX12, "stroke", "(II)I"⟩
abbrev cX12_trailsOf : ByteArray := prog_14_method_50_code
def yX12_trailsOf : MethodName := ⟨RX12, "trailsOf", "(I)I"⟩
abbrev cX12_trails : ByteArray := prog_14_method_51_code
def yX12_trails : MethodName := ⟨RX12, "trails", "(I)I"⟩
abbrev cX12_goesOn : ByteArray := prog_14_method_52_code
def yX12_goesOn : MethodName := ⟨RX12, "goesOn", "([II)V"⟩
abbrev cX12_lawThatEnds : ByteArray := prog_14_method_53_code
def yX12_lawThatEnds : MethodName := ⟨RX12, "lawThatEnds", "([III)I"⟩
abbrev cX12_mayEnd : ByteArray := prog_14_method_54_code
def yX12_mayEnd : MethodName := ⟨RX12, "mayEnd", "([II)V"⟩
abbrev cX12_goesBy : ByteArray := prog_14_method_55_code
def yX12_goesBy : MethodName := ⟨RX12, "goesBy", "([I)V"⟩
abbrev cX12_goesAhead : ByteArray := prog_14_method_56_code
def yX12_goesAhead : MethodName := ⟨RX12, "goesAhead", "([II)V"⟩
abbrev cX12_ticks : ByteArray := prog_14_method_57_code
def yX12_ticks : MethodName := ⟨RX12, "ticks", "(I)I"⟩
abbrev cX12_breeze : ByteArray := prog_14_method_58_code
def yX12_breeze : MethodName := ⟨RX12, "breeze", "(I)I"⟩
abbrev cX12_frontOf : ByteArray := prog_14_method_59_code
def yX12_frontOf : MethodName := ⟨RX12, "frontOf", "([I)I"⟩
abbrev cX12_front : ByteArray := prog_14_method_60_code
def yX12_front : MethodName := ⟨RX12, "front", "()I"⟩
abbrev cX12_isAhead : ByteArray := prog_14_method_61_code
def yX12_isAhead : MethodName := ⟨RX12, "isAhead", "(I)Z"⟩
abbrev cX12_ahead : ByteArray := prog_14_method_62_code
def yX12_ahead : MethodName := ⟨RX12, "ahead", "(I)V"⟩
abbrev cX12_then : ByteArray := prog_14_method_63_code
def yX12_then : MethodName := ⟨RX12, "then", "(III)I"⟩
abbrev cX12_wholeIn : ByteArray := prog_14_method_64_code
def yX12_wholeIn : MethodName := ⟨RX12, "wholeIn", "([I)I"⟩
abbrev cX12_whole : ByteArray := prog_14_method_65_code
def yX12_whole : MethodName := ⟨RX12, "whole", "(I)I"⟩
abbrev cX12_turnsIn : ByteArray := prog_14_method_66_code
def yX12_turnsIn : MethodName := ⟨RX12, "turnsIn", "([II)I"⟩
abbrev cX12_turns : ByteArray := prog_14_method_67_code
def yX12_turns : MethodName := ⟨RX12, "turns", "(I)I"⟩
abbrev cX12_farIn : ByteArray := prog_14_method_68_code
def yX12_farIn : MethodName := ⟨RX12, "farIn", "([III)I"⟩
abbrev cX12_far : ByteArray := prog_14_method_69_code
def yX12_far : MethodName := ⟨RX12, "far", "(II)I"⟩
abbrev cX12_knock : ByteArray := prog_14_method_70_code
def yX12_knock : MethodName := ⟨RX12, "knock", "(III)I"⟩
abbrev cX12_farthest : ByteArray := prog_14_method_71_code
def yX12_farthest : MethodName := ⟨RX12, "farthest", "(III)I"⟩
abbrev cX12_second : ByteArray := prog_14_method_72_code
def yX12_second : MethodName := ⟨RX12, "second", "(III)I"⟩
abbrev cX12_alike : ByteArray := prog_14_method_73_code
def yX12_alike : MethodName := ⟨RX12, "alike", "(II)I"⟩
abbrev cX12_offIn : ByteArray := prog_14_method_74_code
def yX12_offIn : MethodName := ⟨RX12, "offIn", "([II)I"⟩
abbrev cX12_whyNoFilm : ByteArray := prog_14_method_75_code
def yX12_whyNoFilm : MethodName := ⟨RX12, "whyNoFilm", "(I)I"⟩
abbrev cX12_off : ByteArray := prog_14_method_76_code
def yX12_off : MethodName := ⟨RX12, "off", "(I)I"⟩
abbrev cX12_spun : ByteArray := prog_14_method_77_code
def yX12_spun : MethodName := ⟨RX12, "spun", "(I)I"⟩
abbrev cX12_made : ByteArray := prog_14_method_78_code
def yX12_made : MethodName := ⟨RX12, "made", "(I)I"⟩
abbrev cX12_heart : ByteArray := prog_14_method_79_code
def yX12_heart : MethodName := ⟨RX12, "heart", "(I)I"⟩
abbrev cX12_seed : ByteArray := prog_14_method_80_code
def yX12_seed : MethodName := ⟨RX12, "seed", "(I)I"⟩
abbrev cX12_ran : ByteArray := prog_14_method_81_code
def yX12_ran : MethodName := ⟨RX12, "ran", "(I)V"⟩
abbrev cX12_above : ByteArray := prog_14_method_82_code
def yX12_above : MethodName := ⟨RX12, "above", "(I)I"⟩
abbrev cX12_own : ByteArray := prog_14_method_83_code
def yX12_own : MethodName := ⟨RX12, "own", "()I"⟩
abbrev cX12_toldM : ByteArray := prog_14_method_84_code
def yX12_toldM : MethodName := ⟨RX12, "toldM", "()I"⟩
abbrev cX12_goes : ByteArray := prog_14_method_85_code
def yX12_goes : MethodName := ⟨RX12, "goes", "(II)I"⟩
abbrev cX12_moves : ByteArray := prog_14_method_86_code
def yX12_moves : MethodName := ⟨RX12, "moves", "(II)I"⟩
abbrev cX12_ends : ByteArray := prog_14_method_87_code
def yX12_ends : MethodName := ⟨RX12, "ends", "(II)I"⟩
abbrev cX12_tells : ByteArray := prog_14_method_88_code
def yX12_tells : MethodName := ⟨RX12, "tells", "(II)I"⟩
abbrev cX12_voice : ByteArray := prog_14_method_89_code
def yX12_voice : MethodName := ⟨RX12, "voice", "(III)I"⟩
abbrev cX12_trace : ByteArray := prog_14_method_90_code
def yX12_trace : MethodName := ⟨RX12, "trace", "(I)I"⟩
abbrev cX12_isSheet : ByteArray := prog_14_method_91_code
def yX12_isSheet : MethodName := ⟨RX12, "isSheet", "(I)Z"⟩
abbrev cX12_sheet : ByteArray := prog_14_method_92_code
def yX12_sheet : MethodName := ⟨RX12, "sheet", "(III)I"⟩
abbrev cX12_put : ByteArray := prog_14_method_93_code
def yX12_put : MethodName := ⟨RX12, "put", "(III)I"⟩
abbrev cX12_move : ByteArray := prog_14_method_94_code
def yX12_move : MethodName := ⟨RX12, "move", "(IIIII)I"⟩
abbrev cX12_film : ByteArray := prog_14_method_95_code
def yX12_film : MethodName := ⟨RX12, "film", "(I)I"⟩
abbrev cX12_image : ByteArray := prog_14_method_96_code
def yX12_image : MethodName := ⟨RX12, "image", "()I"⟩
abbrev cX12_restore : ByteArray := prog_14_method_97_code
def yX12_restore : MethodName := ⟨RX12, "restore", "()I"⟩
abbrev cX12_tell : ByteArray := prog_14_method_98_code
def yX12_tell : MethodName := ⟨RX12, "tell", "(I)I"⟩
abbrev cX12_check : ByteArray := prog_14_method_99_code
def yX12_check : MethodName := ⟨RX12, "check", "(I)I"⟩
abbrev cX12_count : ByteArray := prog_14_method_100_code
def yX12_count : MethodName := ⟨RX12, "count", "(I)I"⟩
abbrev cX12_told : ByteArray := prog_14_method_101_code
def yX12_told : MethodName := ⟨RX12, "told", "(I)I"⟩
def RJx145de : String := "java/io/Serializable"
def TJx145de : u_T := fun k => match k with
  | _ => ("", "", "", false)
def tyJx145de : Nat → FieldType := fun k => match k with
  | _ => .int
abbrev wsJx145de0 : List Cond := u_ws RJx145de TJx145de 0
theorem nmJx145de : ∀ a, a < 0 → ∀ b, b < 0 → a ≠ b → (TJx145de a).2.1 ≠ (TJx145de b).2.1 := by decide +kernel
theorem tyJx145de_ok : ∀ k, k < 0 → parseFieldDescriptor (TJx145de k).2.2.1 = some (tyJx145de k) := by decide +kernel
def RJx9f9b0 : String := "java/lang/CharSequence"
def TJx9f9b0 : u_T := fun k => match k with
  | _ => ("", "", "", false)
def tyJx9f9b0 : Nat → FieldType := fun k => match k with
  | _ => .int
abbrev wsJx9f9b00 : List Cond := u_ws RJx9f9b0 TJx9f9b0 0
theorem nmJx9f9b0 : ∀ a, a < 0 → ∀ b, b < 0 → a ≠ b → (TJx9f9b0 a).2.1 ≠ (TJx9f9b0 b).2.1 := by decide +kernel
theorem tyJx9f9b0_ok : ∀ k, k < 0 → parseFieldDescriptor (TJx9f9b0 k).2.2.1 = some (tyJx9f9b0 k) := by decide +kernel
def RJ11 : String := "java/lang/Character"
def TJ11 : u_T := fun k => match k with
  | _ => ("", "", "", false)
def tyJ11 : Nat → FieldType := fun k => match k with
  | _ => .int
abbrev wsJ110 : List Cond := u_ws RJ11 TJ11 0
theorem nmJ11 : ∀ a, a < 0 → ∀ b, b < 0 → a ≠ b → (TJ11 a).2.1 ≠ (TJ11 b).2.1 := by decide +kernel
theorem tyJ11_ok : ∀ k, k < 0 → parseFieldDescriptor (TJ11 k).2.2.1 = some (tyJ11 k) := by decide +kernel
abbrev cJ11_isValidCodePoint_9a6ad : ByteArray := prog_15_method_11_code
def yJ11_isValidCodePoint_9a6ad : MethodName := ⟨RJ11, "isValidCodePoint", "(I)Z"⟩
abbrev cJ11_highSurrogate_5068e : ByteArray := prog_15_method_28_code
def yJ11_highSurrogate_5068e : MethodName := ⟨RJ11, "highSurrogate", "(I)C"⟩
abbrev cJ11_lowSurrogate_5068e : ByteArray := prog_15_method_29_code
def yJ11_lowSurrogate_5068e : MethodName := ⟨RJ11, "lowSurrogate", "(I)C"⟩
def RJxb160c : String := "java/lang/Comparable"
def TJxb160c : u_T := fun k => match k with
  | _ => ("", "", "", false)
def tyJxb160c : Nat → FieldType := fun k => match k with
  | _ => .int
abbrev wsJxb160c0 : List Cond := u_ws RJxb160c TJxb160c 0
theorem nmJxb160c : ∀ a, a < 0 → ∀ b, b < 0 → a ≠ b → (TJxb160c a).2.1 ≠ (TJxb160c b).2.1 := by decide +kernel
theorem tyJxb160c_ok : ∀ k, k < 0 → parseFieldDescriptor (TJxb160c k).2.2.1 = some (tyJxb160c k) := by decide +kernel
def RJ9 : String := "java/lang/Math"
def TJ9 : u_T := fun k => match k with
  | _ => ("", "", "", false)
def tyJ9 : Nat → FieldType := fun k => match k with
  | _ => .int
abbrev wsJ90 : List Cond := u_ws RJ9 TJ9 0
theorem nmJ9 : ∀ a, a < 0 → ∀ b, b < 0 → a ≠ b → (TJ9 a).2.1 ≠ (TJ9 b).2.1 := by decide +kernel
theorem tyJ9_ok : ∀ k, k < 0 → parseFieldDescriptor (TJ9 k).2.2.1 = some (tyJ9 k) := by decide +kernel
abbrev cJ9_abs_0f7a4 : ByteArray := prog_16_method_59_code
def yJ9_abs_0f7a4 : MethodName := ⟨RJ9, "abs", "(I)I"⟩
abbrev cJ9_abs_067f4 : ByteArray := prog_16_method_61_code
def yJ9_abs_067f4 : MethodName := ⟨RJ9, "abs", "(J)J"⟩
abbrev cJ9_max_7cf53 : ByteArray := prog_16_method_65_code
def yJ9_max_7cf53 : MethodName := ⟨RJ9, "max", "(II)I"⟩
abbrev cJ9_min_7cf53 : ByteArray := prog_16_method_69_code
def yJ9_min_7cf53 : MethodName := ⟨RJ9, "min", "(II)I"⟩
abbrev cJ9_min_f86c9 : ByteArray := prog_16_method_70_code
def yJ9_min_f86c9 : MethodName := ⟨RJ9, "min", "(JJ)J"⟩
def RJ0 : String := "java/lang/String"
def TJ0 : u_T := fun k => match k with
  | _ => ("", "", "", false)
def tyJ0 : Nat → FieldType := fun k => match k with
  | _ => .int
abbrev wsJ00 : List Cond := u_ws RJ0 TJ0 0
theorem nmJ0 : ∀ a, a < 0 → ∀ b, b < 0 → a ≠ b → (TJ0 a).2.1 ≠ (TJ0 b).2.1 := by decide +kernel
theorem tyJ0_ok : ∀ k, k < 0 → parseFieldDescriptor (TJ0 k).2.2.1 = some (tyJ0 k) := by decide +kernel
abbrev cJ0_length_8abf5 : ByteArray := prog_17_method_54_code
def yJ0_length_8abf5 : MethodName := ⟨RJ0, "length", "()I"⟩
abbrev cJ0_indexOf_0f7a4 : ByteArray := prog_17_method_79_code
def yJ0_indexOf_0f7a4 : MethodName := ⟨RJ0, "indexOf", "(I)I"⟩
abbrev cJ0_indexOf_7cf53 : ByteArray := prog_17_method_80_code
def yJ0_indexOf_7cf53 : MethodName := ⟨RJ0, "indexOf", "(II)I"⟩
abbrev cJ0_coder_7d493 : ByteArray := prog_17_method_152_code
def yJ0_coder_7d493 : MethodName := ⟨RJ0, "coder", "()B"⟩
abbrev cJ0_isLatin1_aae02 : ByteArray := prog_17_method_154_code
def yJ0_isLatin1_aae02 : MethodName := ⟨RJ0, "isLatin1", "()Z"⟩
abbrev cJ0_checkBoundsBeginEnd_23922 : ByteArray := prog_17_method_158_code
def yJ0_checkBoundsBeginEnd_23922 : MethodName := ⟨RJ0, "checkBoundsBeginEnd", "(III)V"⟩
def RJ1 : String := "java/lang/StringLatin1"
def TJ1 : u_T := fun k => match k with
  | _ => ("", "", "", false)
def tyJ1 : Nat → FieldType := fun k => match k with
  | _ => .int
abbrev wsJ10 : List Cond := u_ws RJ1 TJ1 0
theorem nmJ1 : ∀ a, a < 0 → ∀ b, b < 0 → a ≠ b → (TJ1 a).2.1 ≠ (TJ1 b).2.1 := by decide +kernel
theorem tyJ1_ok : ∀ k, k < 0 → parseFieldDescriptor (TJ1 k).2.2.1 = some (tyJ1 k) := by decide +kernel
abbrev cJ1_canEncode_9a6ad : ByteArray := prog_18_method_4_code
def yJ1_canEncode_9a6ad : MethodName := ⟨RJ1, "canEncode", "(I)Z"⟩
abbrev cJ1_indexOf_4cfef : ByteArray := prog_18_method_22_code
def yJ1_indexOf_4cfef : MethodName := ⟨RJ1, "indexOf", "([BIII)I"⟩
abbrev cJ1_indexOfChar_4cfef : ByteArray := prog_18_method_23_code
def yJ1_indexOfChar_4cfef : MethodName := ⟨RJ1, "indexOfChar", "([BIII)I"⟩
def RJ2 : String := "java/lang/StringUTF16"
def TJ2 : u_T := fun k => match k with
  | _ => ("", "", "", false)
def tyJ2 : Nat → FieldType := fun k => match k with
  | _ => .int
abbrev wsJ20 : List Cond := u_ws RJ2 TJ2 0
theorem nmJ2 : ∀ a, a < 0 → ∀ b, b < 0 → a ≠ b → (TJ2 a).2.1 ≠ (TJ2 b).2.1 := by decide +kernel
theorem tyJ2_ok : ∀ k, k < 0 → parseFieldDescriptor (TJ2 k).2.2.1 = some (tyJ2 k) := by decide +kernel
abbrev cJ2_getChar_3b067 : ByteArray := prog_19_method_5_code
def yJ2_getChar_3b067 : MethodName := ⟨RJ2, "getChar", "([BI)C"⟩
abbrev cJ2_length_9d52b : ByteArray := prog_19_method_6_code
def yJ2_length_9d52b : MethodName := ⟨RJ2, "length", "([B)I"⟩
abbrev cJ2_indexOf_4cfef : ByteArray := prog_19_method_40_code
def yJ2_indexOf_4cfef : MethodName := ⟨RJ2, "indexOf", "([BIII)I"⟩
abbrev cJ2_indexOfChar_4cfef : ByteArray := prog_19_method_47_code
def yJ2_indexOfChar_4cfef : MethodName := ⟨RJ2, "indexOfChar", "([BIII)I"⟩
abbrev cJ2_indexOfCharUnsafe_4cfef : ByteArray := prog_19_method_48_code
def yJ2_indexOfCharUnsafe_4cfef : MethodName := ⟨RJ2, "indexOfCharUnsafe", "([BIII)I"⟩
abbrev cJ2_indexOfSupplementary_4cfef : ByteArray := prog_19_method_49_code
def yJ2_indexOfSupplementary_4cfef : MethodName := ⟨RJ2, "indexOfSupplementary", "([BIII)I"⟩
abbrev cJ2_checkBoundsBeginEnd_d044e : ByteArray := prog_19_method_93_code
def yJ2_checkBoundsBeginEnd_d044e : MethodName := ⟨RJ2, "checkBoundsBeginEnd", "(II[B)V"⟩
def RJ10 : String := "java/lang/System"
def TJ10 : u_T := fun k => match k with
  | _ => ("", "", "", false)
def tyJ10 : Nat → FieldType := fun k => match k with
  | _ => .int
abbrev wsJ100 : List Cond := u_ws RJ10 TJ10 0
theorem nmJ10 : ∀ a, a < 0 → ∀ b, b < 0 → a ≠ b → (TJ10 a).2.1 ≠ (TJ10 b).2.1 := by decide +kernel
theorem tyJ10_ok : ∀ k, k < 0 → parseFieldDescriptor (TJ10 k).2.2.1 = some (tyJ10 k) := by decide +kernel
def RJxfd54e : String := "java/lang/constant/Constable"
def TJxfd54e : u_T := fun k => match k with
  | _ => ("", "", "", false)
def tyJxfd54e : Nat → FieldType := fun k => match k with
  | _ => .int
abbrev wsJxfd54e0 : List Cond := u_ws RJxfd54e TJxfd54e 0
theorem nmJxfd54e : ∀ a, a < 0 → ∀ b, b < 0 → a ≠ b → (TJxfd54e a).2.1 ≠ (TJxfd54e b).2.1 := by decide +kernel
theorem tyJxfd54e_ok : ∀ k, k < 0 → parseFieldDescriptor (TJxfd54e k).2.2.1 = some (tyJxfd54e k) := by decide +kernel
def RJx3cf43 : String := "java/lang/constant/ConstantDesc"
def TJx3cf43 : u_T := fun k => match k with
  | _ => ("", "", "", false)
def tyJx3cf43 : Nat → FieldType := fun k => match k with
  | _ => .int
abbrev wsJx3cf430 : List Cond := u_ws RJx3cf43 TJx3cf43 0
theorem nmJx3cf43 : ∀ a, a < 0 → ∀ b, b < 0 → a ≠ b → (TJx3cf43 a).2.1 ≠ (TJx3cf43 b).2.1 := by decide +kernel
theorem tyJx3cf43_ok : ∀ k, k < 0 → parseFieldDescriptor (TJx3cf43 k).2.2.1 = some (tyJx3cf43 k) := by decide +kernel
def RJ7 : String := "java/util/Arrays"
def TJ7 : u_T := fun k => match k with
  | _ => ("", "", "", false)
def tyJ7 : Nat → FieldType := fun k => match k with
  | _ => .int
abbrev wsJ70 : List Cond := u_ws RJ7 TJ7 0
theorem nmJ7 : ∀ a, a < 0 → ∀ b, b < 0 → a ≠ b → (TJ7 a).2.1 ≠ (TJ7 b).2.1 := by decide +kernel
theorem tyJ7_ok : ∀ k, k < 0 → parseFieldDescriptor (TJ7 k).2.2.1 = some (tyJ7 k) := by decide +kernel
abbrev cJ7_fill_53178 : ByteArray := prog_21_method_103_code
def yJ7_fill_53178 : MethodName := ⟨RJ7, "fill", "([II)V"⟩
def RJ3 : String := "jdk/internal/util/Preconditions"
def TJ3 : u_T := fun k => match k with
  | _ => ("", "", "", false)
def tyJ3 : Nat → FieldType := fun k => match k with
  | _ => .int
abbrev wsJ30 : List Cond := u_ws RJ3 TJ3 0
theorem nmJ3 : ∀ a, a < 0 → ∀ b, b < 0 → a ≠ b → (TJ3 a).2.1 ≠ (TJ3 b).2.1 := by decide +kernel
theorem tyJ3_ok : ∀ k, k < 0 → parseFieldDescriptor (TJ3 k).2.2.1 = some (tyJ3 k) := by decide +kernel
abbrev cJ3_checkFromToIndex_8c36e : ByteArray := prog_22_method_12_code
def yJ3_checkFromToIndex_8c36e : MethodName := ⟨RJ3, "checkFromToIndex", "(IIILjava/util/function/BiFunction;)I"⟩
def RL : String := "SmokeRingsLaw"
abbrev cL_law : ByteArray := code
def yL_law : MethodName := ⟨RL, "law", "([I)Z"⟩
abbrev vwCl : List vw_C := [(RX0, TX0, 3), (RX1, TX1, 3), (RX2, TX2, 3), (RX3, TX3, 8), (RX4, TX4, 13), (RX5, TX5, 3), (RX6, TX6, 3), (RX7, TX7, 7), (RX8, TX8, 3), (RX9, TX9, 3), (RX10, TX10, 3), (RX11, TX11, 9), (RX12, TX12, 21)]
end
section
/-! THE ABSTRACT MACHINE: objects have names (three numbers), a heap is three functions: kinds, references, ints. am_W is the judgement W for it, am_Met a method's contract. -/
abbrev am_N : Type := Nat × Nat × Nat
abbrev am_V : Type := am_N ⊕ Value
abbrev am_K : Type := Nat ⊕ (Nat × Nat)
abbrev am_kd : Type := am_N → Option am_K
abbrev am_rv : Type := am_N → Nat → Option am_N
abbrev am_iv : Type := am_N → Nat → Int32
abbrev am_D : Type := va_G × (Nat → ClassId) × ((Nat → Nat) × (Nat → Nat)) × (Nat × Nat × (Nat → Int32))
abbrev am_M : Type := MethodName × ByteArray × Nat × Option FieldType
abbrev am_I (x : Int32) : am_V := .inr (.int x)
abbrev am_J (x : Int64) : am_V := .inr (.long x)
abbrev am_P (n : am_N) : am_V := .inl n
abbrev am_0 : am_V := .inr .null
def am_cv (ad : am_N → Nat) : am_V → Value
  | .inl n => .ref (ad n)
  | .inr v => v
def am_rf (o : Option am_N) : am_V := match o with
  | none => am_0
  | some n => am_P n
theorem am_cv_rf (ad : am_N → Nat) (o : Option am_N) : am_cv ad (am_rf o) = va_rf (o.map ad) := by cases o <;> rfl
def am_c2 : am_V → Bool
  | .inr (.long _) => true
  | .inr (.double _) => true
  | _ => false
theorem am_c2_cat (ad : am_N → Nat) (v : am_V) : (am_cv ad v).category = if am_c2 v then 2 else 1 := by
  cases v with
  | inl n => rfl
  | inr v => cases v <;> rfl
def am_fty (ci : Nat) : Nat → FieldType := match ci with
  | 0 => tyX0 | 1 => tyX1 | 2 => tyX2 | 3 => tyX3 | 4 => tyX4 | 5 => tyX5 | 6 => tyX6 | 7 => tyX7 | 8 => tyX8 | 9 => tyX9 | 10 => tyX10 | 11 => tyX11 | 12 => tyX12 | _ => fun _ => .int
def am_aty (t : Nat) : FieldType := match t with
  | 0 => .int | 1 => .object RX3 | 2 => .object RX2 | 3 => .object RX7 | _ => .object RX5
def am_isr (t : FieldType) : Bool := match t with
  | .object _ => true
  | .array _ => true
  | _ => false
def am_sv (ad : am_N → Nat) (rv : am_rv) (iv : am_iv) (r : Bool) (n : am_N) (k : Nat) : Value := if r = true then va_rf ((rv n k).map ad) else .int (iv n k)
/-- the cell of a name: an object, an array, or (arrays of kinds 8, 9) something old that is only named -/
def am_at (D : am_D) (ad : am_N → Nat) (rv : am_rv) (iv : am_iv) (n : am_N) (K : am_K) (H : Heap) : Prop := match K with
  | .inl ci => ∃ r : vw_C, vwCl[ci]? = some r ∧ t_OB (ad n) (D.1.1 ci) r.2.2 (D.1.2 ci) H (fun k => am_sv ad rv iv (am_isr (am_fty ci k)) n k)
  | .inr a => (a.1 < 5 → H[ad n]? = some (arrV (D.2.1 a.1) a.2 (fun j => am_sv ad rv iv (am_isr (am_aty a.1)) n j))) ∧ (a.1 = 8 → ad n = D.2.2.2.1) ∧ (a.1 = 9 → ad n = D.2.2.1.1 n.2.1)
/-- a kind of which only the name is known -/
def am_op (K : am_K) : Prop := match K with
  | .inl _ => False
  | .inr a => 5 ≤ a.1
def am_HR (D : am_D) (ad : am_N → Nat) (kd : am_kd) (rv : am_rv) (iv : am_iv) (H : Heap) : Prop :=
  (∀ n K, kd n = some K → am_at D ad rv iv n K H) ∧ (∀ n n', kd n ≠ none → kd n' ≠ none → n.1 < 40 → n'.1 < 40 → ad n = ad n' → n = n') ∧ (∀ n k o, kd n ≠ none → rv n k = some o → kd o ≠ none) ∧ ∀ n K, kd n = some K → (40 ≤ n.1 ↔ am_op K)
def am_lv (kd : am_kd) : am_V → Prop
  | .inl n => kd n ≠ none
  | .inr _ => True
def am_T : List Cond := lw_tbl.filter goodWord
def am_ws (M : am_M) : List Cond := Cond.code M.1 M.2.1 M.2.2.1 M.2.2.2 :: am_T
def am_tys (D : am_D) : List (ClassId × FieldType) := [(D.2.1 0, .int), (D.2.1 1, .object RX3), (D.2.1 2, .object RX2), (D.2.1 3, .object RX7), (D.2.1 4, .object RX5)]
def am_nw : List Cond := lw_tbl.filter (fun w => match w with | .methodLinkNest _ _ _ _ => true | _ => false)
def am_nc : List (String × String) := [(RX0, RX1), (RX0, RX6), (RX0, RX8), (RX0, RX9), (RX0, RX10), (RX1, RX0), (RX1, RX6), (RX1, RX8), (RX1, RX9), (RX1, RX10), (RX2, RX0), (RX2, RX1), (RX2, RX6), (RX2, RX8), (RX2, RX9), (RX2, RX10), (RX6, RX0), (RX6, RX1), (RX6, RX8), (RX6, RX9), (RX8, RX0), (RX8, RX1), (RX8, RX6), (RX8, RX9), (RX8, RX10), (RX9, RX1), (RX9, RX6), (RX9, RX8), (RX9, RX10), (RX10, RX0), (RX10, RX1), (RX10, RX6), (RX10, RX8), (RX10, RX9)]
def am_yc : List (String × String) := [(RX9, RX0), (RX6, RX10), (RX8, RX2), (RX1, RX2), (RX0, RX2), (RX9, RX2), (RX10, RX2), (RX6, RX2)]
def am_Yc (C T : String) (U : State) : Prop := ∃ c t : ClassId, U.vm.findClass C = some c ∧ U.vm.findClass T = some t ∧ U.vm.assignable c t = true
theorem am_Yc.moved {C T : String} {u U : State} (hvm : u.vm.Alike U.vm) (h : am_Yc C T u) : am_Yc C T U := by
  obtain ⟨c, t, h1, h2, h3⟩ := h
  exact ⟨c, t, by rw [hvm.findClass]; exact h1, by rw [hvm.findClass]; exact h2, by rw [hvm.assignable]; exact h3⟩
/-- what the tables and the old heap say, for every method's start -/
def am_KF (D : am_D) (A : Nat → Prop) (s : State) : Prop :=
  va_K D.1 vwCl (am_tys D) s ∧ (∀ w ∈ am_nw, va_Nw w s) ∧ ((∀ q ∈ am_nc, va_Nc q.1 q.2 s) ∧ (∀ q ∈ am_yc, am_Yc q.1 q.2 s) ∧ ∀ C ∈ [RX3, RX2, RX7, RX5], va_AO C s) ∧
  vk_S 2 [3, 3] [[108, 113, 104], [116, 119, 107]] D.2.2.1.1 D.2.2.1.2 A s s.heap ∧ vk_R RX11 182 "lqh" (D.2.2.1.1 0) s ∧ vk_R RX11 184 "twk" (D.2.2.1.1 1) s ∧
  (va_X D.2.2.2.1 D.2.2.2.2.1 D.2.2.2.2.2 s s.heap ∧ D.2.2.2.1 < s.heap.size ∧ ¬ A D.2.2.2.1)
def am_A (kd : am_kd) (ad : am_N → Nat) (sz : Nat) : Nat → Prop := fun q => (∃ n, kd n ≠ none ∧ n.1 < 40 ∧ ad n = q) ∨ sz ≤ q
def am_L (ad : am_N → Nat) (ls : List (Option am_V)) (nL : Nat) (lsA : Array Slot) : Prop := lsA.size = nL ∧ lv_wf lsA ∧ ∀ (i : Nat) (v : am_V), ls[i]? = some (some v) → lsA[i]? = some (Slot.val (am_cv ad v))
abbrev am_Post : Type := Option am_V → am_kd → am_rv → am_iv → Prop
def am_Qc (D : am_D) (A : Nat → Prop) (ad0 : am_N → Nat) (kd0 : am_kd) (post : am_Post) : Array Value → State → Outcome → State → Prop := fun _ s o t =>
  (∃ (v : Option am_V) (kd : am_kd) (rv : am_rv) (iv : am_iv) (ad : am_N → Nat), o = .returned (v.map (am_cv ad)) ∧ post v kd rv iv ∧ am_HR D ad kd rv iv t.heap ∧ (∀ n, kd n ≠ none → n.1 < 40 → A (ad n)) ∧ (∀ n, kd0 n ≠ none → ad n = ad0 n ∧ kd n ≠ none) ∧ ∀ w, v = some w → am_lv kd w) ∧ va_F A s t
def am_C (M : am_M) (p : Program) (s : State) (m : MethodId) (args : Array Value) (meth : Method) (c : Code) (D : am_D) (A : Nat → Prop) : Prop :=
  p.tables.exec = Jvm.exec ∧ c.code = M.2.1 ∧ meth.sig.returnType = M.2.2.2 ∧ c.maxLocals = M.2.2.1 ∧ s.vm.findClass M.1.cls = some m.cls ∧ (∀ w ∈ am_ws M, w.before args s = true) ∧ meth.locks = false ∧ meth.name = M.1.name ∧ am_KF D A s ∧ ∀ q, s.heap.size ≤ q → A q
def am_R (M : am_M) (s : State) (D : am_D) (A : Nat → Prop) (ad0 : am_N → Nat) (kd0 : am_kd) (H : Heap) (locs : List Loc) (lsA : Array Slot) (ad : am_N → Nat) (ls : List (Option am_V)) (st : List am_V) (kd : am_kd) (rv : am_rv) (iv : am_iv) : Prop :=
  am_HR D ad kd rv iv H ∧ (∀ n, kd n ≠ none → n.1 < 40 → A (ad n)) ∧ va_S A s.heap H locs ∧ (∀ n, kd0 n ≠ none → ad n = ad0 n ∧ kd n ≠ none) ∧ am_L ad ls M.2.2.1 lsA ∧ (∀ v, some v ∈ ls → am_lv kd v) ∧ ∀ v ∈ st, am_lv kd v
def am_W (l : Launch) (M : am_M) (R : Room) (post : am_Post) (pc : Nat) (ls : List (Option am_V)) (st : List am_V) (kd : am_kd) (rv : am_rv) (iv : am_iv) (cu su : Nat) : Prop :=
  ∀ (p : Program) (e : Env) (s : State) (m : MethodId) (args : Array Value) (below : List Frame) (meth : Method) (c : Code) (D : am_D) (A : Nat → Prop) (ad0 : am_N → Nat) (kd0 : am_kd) (H : Heap) (locs : List Loc) (lsA : Array Slot) (ad : am_N → Nat),
    am_C M p s m args meth c D A → am_R M s D A ad0 kd0 H locs lsA ad ls st kd rv iv →
    W p l e R s m args below meth c H locs cu su (MQ below (am_Qc D A ad0 kd0 post) args s R.cells R.slots A) (F0 m pc lsA (st.map (am_cv ad)))
def am_Pc (D : am_D) (ad : am_N → Nat) (sz : Nat) (av : List am_V) (kd : am_kd) (rv : am_rv) (iv : am_iv) : Array Value → State → Prop := fun args U =>
  args = (av.map (am_cv ad)).toArray ∧ U.heap.size = sz ∧ am_KF D (am_A kd ad sz) U ∧ am_HR D ad kd rv iv U.heap ∧ ∀ v ∈ av, am_lv kd v
def am_Met (l : Launch) (M : am_M) (R : Room) (av : List am_V) (kd : am_kd) (rv : am_rv) (iv : am_iv) (post : am_Post) : Prop :=
  ∀ (D : am_D) (ad : am_N → Nat) (sz : Nat), Met l M.1 (am_ws M) R (am_Pc D ad sz av kd rv iv) (am_Qc D (am_A kd ad sz) ad kd post) R.cells R.slots (am_A kd ad sz)
/-- the locals at a method's entry -/
def am_ent : List am_V → List (Option am_V)
  | [] => []
  | v :: vs => if am_c2 v = true then some v :: none :: am_ent vs else some v :: am_ent vs
theorem am_ent_len (ad : am_N → Nat) (av : List am_V) : (lg_sl (av.map (am_cv ad))).length = (am_ent av).length := by
  induction av with
  | nil => rfl
  | cons v vs ih =>
    have e : lg_sl ((v :: vs).map (am_cv ad)) = (if (am_cv ad v).category = 2 then [.val (am_cv ad v), .second] else [.val (am_cv ad v)]) ++ lg_sl (vs.map (am_cv ad)) := by
      simp [lg_sl]
    rw [e, am_c2_cat]
    by_cases h : am_c2 v = true
    · simp [am_ent, h, ih]
    · simp [am_ent, h, ih]
theorem am_ent_args (ad : am_N → Nat) : ∀ (av : List am_V) (z i : Nat) (w : am_V), (am_ent av)[i]? = some (some w) → (z + i, am_cv ad w) ∈ lv_args z (av.map (am_cv ad)) := by
  intro av
  induction av with
  | nil => intro z i w h; simp [am_ent] at h
  | cons v vs ih =>
    intro z i w h
    have e : lv_args z ((v :: vs).map (am_cv ad)) = (z, am_cv ad v) :: lv_args (if (am_cv ad v).category = 2 then z + 2 else z + 1) (vs.map (am_cv ad)) := rfl
    rw [e, am_c2_cat]
    by_cases hc : am_c2 v = true
    · simp only [am_ent, hc, if_true] at h ⊢
      match i, h with
      | 0, h => simp at h; subst h; simp
      | 1, h => simp at h
      | i + 2, h =>
        simp only [List.getElem?_cons_succ] at h
        have h2 := ih (z + 2) i w h
        rw [show z + (i + 2) = z + 2 + i by omega]
        exact List.mem_cons_of_mem _ h2
    · simp only [am_ent, hc] at h ⊢
      match i, h with
      | 0, h => simp at h; subst h; simp
      | i + 1, h =>
        simp at h
        have h2 := ih (z + 1) i w h
        rw [show z + (i + 1) = z + 1 + i by omega]
        simp
        exact Or.inr h2
theorem am_KF.blind {D : am_D} {A : Nat → Prop} {U U' : State} (hv : U'.vm = U.vm) (hh : U'.heap = U.heap) (h : am_KF D A U) : am_KF D A U' := by
  obtain ⟨h1, h2, h3, h4, h5, h6, h7, h8, h9⟩ := h
  have hal : U.vm.Alike U'.vm := by rw [hv]; exact Vm.Alike.refl _
  refine ⟨h1.moved hal, fun w hw => ?_, ⟨fun q hq => (h3.1 q hq).moved hal, fun q hq => (h3.2.1 q hq).moved hal, fun q hq => (h3.2.2 q hq).moved hal⟩, ?_, h5.same hv, h6.same hv, ?_, by rw [hh]; exact h8, h9⟩
  · refine va_Nw.same ?_ hv.symm (h2 w hw)
    have h3 := (List.mem_filter.mp hw).2
    cases w <;> first | rfl | cases h3
  · rw [hh]; exact h4.moved hal
  · rw [hh]; exact h7.moved hal
theorem am_Pc_blind {D : am_D} {ad : am_N → Nat} {sz : Nat} {av : List am_V} {kd : am_kd} {rv : am_rv} {iv : am_iv} : FrameBlind (am_Pc D ad sz av kd rv iv) := by
  intro a U g mk h
  obtain ⟨h1, h2, h3, h4, h5⟩ := h
  exact ⟨h1, h2, am_KF.blind (U := U) (U' := U.calling g mk a) rfl rfl h3, h4, h5⟩
/-- the callee's start, from the caller's -/
theorem am_KF.call {D : am_D} {A B : Nat → Prop} {s U : State} {H : Heap} {locs : List Loc} (hK : am_KF D A s) (hS : va_S A s.heap H locs) (hAB : ∀ q, B q → A q) (hU : U.heap = H) (hW : s.WarmedH U.vm) : am_KF D B U := by
  obtain ⟨h1, h2, h3, h4, h5, h6, h7, h8, h9⟩ := hK
  refine ⟨h1.moved hW.alike, fun w hw => ?_, ⟨fun q hq => (h3.1 q hq).moved hW.alike, fun q hq => (h3.2.1 q hq).moved hW.alike, fun q hq => (h3.2.2 q hq).moved hW.alike⟩, ?_, h5.warm hW, h6.warm hW, ?_, ?_, fun h => h9 (hAB _ h)⟩
  · have h3 := (List.mem_filter.mp hw).2
    cases w <;> first | exact va_Nw.warmM hW (h2 _ hw) | cases h3
  · rw [hU]; exact ((h4.kept hS.2.1).moved hW.alike).narrow hAB
  · rw [hU]; exact (h7.kept (hS.2.1 _ h8 h9)).moved hW.alike
  · rw [hU]; exact Nat.lt_of_lt_of_le h8 hS.1
set_option maxHeartbeats 1000000 in
/-- a contract out of a walk -/
theorem am_Met.of {l : Launch} {M : am_M} {R : Room} {av : List am_V} {kd : am_kd} {rv : am_rv} {iv : am_iv} {post : am_Post} (hy : plainName M.1.cls = true) (hn : (am_ent av).length ≤ M.2.2.1) {ls : List (Option am_V)} (hls : am_ent av ++ List.replicate (M.2.2.1 - (am_ent av).length) none = ls) (k : am_W l M R post 0 ls [] kd rv iv 0 0) : am_Met l M R av kd rv iv post := by
  intro D ad sz
  refine Met.ofW (cc := M.2.1) (maxL := M.2.2.1) (ret := M.2.2.2) (ws' := am_T) hy rfl ?_
  intro p e s m args below meth c s₁ B hml hv
  obtain ⟨rfl, hsz, hKF, hHR, hlv⟩ := hv
  subst hsz
  have hl := lv_entry (av.map (am_cv ad)) (n := M.2.2.1) (by rw [am_ent_len]; exact hn)
  rw [lg_entry_eq]
  generalize (lg_sl (av.map (am_cv ad)) ++ List.replicate (M.2.2.1 - (lg_sl (av.map (am_cv ad))).length) Slot.unset).toArray = lsA at hl ⊢
  refine k p e s m _ below meth c D _ ad kd s.heap [] lsA ad ⟨B.exec, B.bytes, B.returns, hml, findClass_of_methodNamed B.named, atoms_spec (ws := am_ws M) B.pre, B.notSynchronized, (name_of_methodNamed B.named B.method).1, hKF, fun q h => Or.inr h⟩ ⟨hHR, fun n h1 h2 => Or.inl ⟨n, h1, h2, rfl⟩, va_S.rf, fun n h => ⟨rfl, h⟩, ⟨hl.1, hl.2.1, fun i v hi => ?_⟩, fun v hv => ?_, fun v hv => by cases hv⟩
  · subst hls
    rw [List.getElem?_append] at hi
    split at hi
    · have h2 := am_ent_args ad av 0 i v hi
      rw [Nat.zero_add] at h2
      exact hl.2.2 _ h2
    · have h2 := List.mem_of_getElem? hi
      have h3 := List.eq_of_mem_replicate h2
      cases h3
  · subst hls
    rcases List.mem_append.mp hv with h | h
    · have : ∀ (l : List am_V), some v ∈ am_ent l → v ∈ l := by
        intro l
        induction l with
        | nil => intro h; cases h
        | cons a t ih =>
          intro h
          by_cases hc : am_c2 a = true
          · simp [am_ent, hc] at h
            rcases h with h | h
            · subst h; simp
            · exact List.mem_cons_of_mem _ (ih h)
          · simp [am_ent, hc] at h
            rcases h with h | h
            · subst h; simp
            · exact List.mem_cons_of_mem _ (ih h)
      exact hlv v (this av h)
    · have h3 := List.eq_of_mem_replicate h
      cases h3
end
section
section AR
variable {l : Launch} {M : am_M} {R : Room} {post : am_Post} {pc : Nat} {ls : List (Option am_V)} {st : List am_V} {kd : am_kd} {rv : am_rv} {iv : am_iv} {cu su : Nat}
theorem am_R.stk {s : State} {D : am_D} {A : Nat → Prop} {ad0 : am_N → Nat} {kd0 : am_kd} {H : Heap} {locs : List Loc} {lsA : Array Slot} {ad : am_N → Nat} {st' : List am_V} (h : am_R M s D A ad0 kd0 H locs lsA ad ls st kd rv iv) (h' : ∀ v ∈ st', am_lv kd v) : am_R M s D A ad0 kd0 H locs lsA ad ls st' kd rv iv := ⟨h.1, h.2.1, h.2.2.1, h.2.2.2.1, h.2.2.2.2.1, h.2.2.2.2.2.1, h'⟩
theorem am_l0 {kd : am_kd} {st : List am_V} {v : Value} (h : ∀ v ∈ st, am_lv kd v) : ∀ w ∈ (Sum.inr v : am_V) :: st, am_lv kd w := fun w hw => by
  rcases List.mem_cons.mp hw with h1 | h1
  · subst h1; trivial
  · exact h w h1
theorem am_l1 {kd : am_kd} {st : List am_V} {v : am_V} (h : ∀ w ∈ v :: st, am_lv kd w) : ∀ w ∈ st, am_lv kd w := fun w hw => h w (List.mem_cons_of_mem _ hw)
theorem am_lc {kd : am_kd} {st : List am_V} {v : am_V} (hv : am_lv kd v) (h : ∀ v ∈ st, am_lv kd v) : ∀ w ∈ v :: st, am_lv kd w := fun w hw => by
  rcases List.mem_cons.mp hw with h1 | h1
  · subst h1; exact hv
  · exact h w h1
theorem A_iconst {n : Int} (v : Int32) (hd : decode M.2.1 pc = .ok (.iconst n, 1)) (hv : Int32.ofInt n = v) (k : am_W l M R post (pc + 1) ls (am_I v :: st) kd rv iv cu su) : am_W l M R post pc ls st kd rv iv cu su := by
  intro p e s m args below meth c D A ad0 kd0 H locs lsA ad C Rr
  have hL := Rr.2.2.2.2.2.2
  exact lv_iconst C.1 C.2.1 hd hv (k p e s m args below meth c D A ad0 kd0 H locs lsA ad C (Rr.stk (am_l0 hL)))
theorem A_bipush {n : Int} (v : Int32) (hd : decode M.2.1 pc = .ok (.bipush n, 2)) (hv : (Int8.ofInt n).toInt32 = v) (k : am_W l M R post (pc + 2) ls (am_I v :: st) kd rv iv cu su) : am_W l M R post pc ls st kd rv iv cu su := by
  intro p e s m args below meth c D A ad0 kd0 H locs lsA ad C Rr
  have hL := Rr.2.2.2.2.2.2
  exact lv_bipush C.1 C.2.1 hd hv (k p e s m args below meth c D A ad0 kd0 H locs lsA ad C (Rr.stk (am_l0 hL)))
theorem A_sipush {n : Int} (v : Int32) (hd : decode M.2.1 pc = .ok (.sipush n, 3)) (hv : (Int16.ofInt n).toInt32 = v) (k : am_W l M R post (pc + 3) ls (am_I v :: st) kd rv iv cu su) : am_W l M R post pc ls st kd rv iv cu su := by
  intro p e s m args below meth c D A ad0 kd0 H locs lsA ad C Rr
  have hL := Rr.2.2.2.2.2.2
  exact lv_sipush C.1 C.2.1 hd hv (k p e s m args below meth c D A ad0 kd0 H locs lsA ad C (Rr.stk (am_l0 hL)))
theorem A_lconst {n : Fin 2} (v : Int64) (hd : decode M.2.1 pc = .ok (.lconst n, 1)) (hv : Int64.ofNat (n : Nat) = v) (k : am_W l M R post (pc + 1) ls (am_J v :: st) kd rv iv cu su) : am_W l M R post pc ls st kd rv iv cu su := by
  intro p e s m args below meth c D A ad0 kd0 H locs lsA ad C Rr
  have hL := Rr.2.2.2.2.2.2
  exact lv_lconst C.1 C.2.1 hd hv (k p e s m args below meth c D A ad0 kd0 H locs lsA ad C (Rr.stk (am_l0 hL)))
theorem A_null  (hd : decode M.2.1 pc = .ok (.aconst_null, 1))  (k : am_W l M R post (pc + 1) ls (am_0 :: st) kd rv iv cu su) : am_W l M R post pc ls st kd rv iv cu su := by
  intro p e s m args below meth c D A ad0 kd0 H locs lsA ad C Rr
  have hL := Rr.2.2.2.2.2.2
  exact lv_null C.1 C.2.1 hd  (k p e s m args below meth c D A ad0 kd0 H locs lsA ad C (Rr.stk (am_l0 hL)))
theorem A_iadd {x y : Int32} (hd : decode M.2.1 pc = .ok (.iadd, 1))  (k : am_W l M R post (pc + 1) ls (am_I (x + y) :: st) kd rv iv cu su) : am_W l M R post pc ls (am_I y :: am_I x :: st) kd rv iv cu su := by
  intro p e s m args below meth c D A ad0 kd0 H locs lsA ad C Rr
  have hL := Rr.2.2.2.2.2.2
  exact lv_iadd C.1 C.2.1 hd  (k p e s m args below meth c D A ad0 kd0 H locs lsA ad C (Rr.stk (am_l0 (am_l1 (am_l1 hL)))))
theorem A_isub {x y : Int32} (hd : decode M.2.1 pc = .ok (.isub, 1))  (k : am_W l M R post (pc + 1) ls (am_I (x - y) :: st) kd rv iv cu su) : am_W l M R post pc ls (am_I y :: am_I x :: st) kd rv iv cu su := by
  intro p e s m args below meth c D A ad0 kd0 H locs lsA ad C Rr
  have hL := Rr.2.2.2.2.2.2
  exact lv_isub C.1 C.2.1 hd  (k p e s m args below meth c D A ad0 kd0 H locs lsA ad C (Rr.stk (am_l0 (am_l1 (am_l1 hL)))))
theorem A_imul {x y : Int32} (hd : decode M.2.1 pc = .ok (.imul, 1))  (k : am_W l M R post (pc + 1) ls (am_I (x * y) :: st) kd rv iv cu su) : am_W l M R post pc ls (am_I y :: am_I x :: st) kd rv iv cu su := by
  intro p e s m args below meth c D A ad0 kd0 H locs lsA ad C Rr
  have hL := Rr.2.2.2.2.2.2
  exact lv_imul C.1 C.2.1 hd  (k p e s m args below meth c D A ad0 kd0 H locs lsA ad C (Rr.stk (am_l0 (am_l1 (am_l1 hL)))))
theorem A_iand {x y : Int32} (hd : decode M.2.1 pc = .ok (.iand, 1))  (k : am_W l M R post (pc + 1) ls (am_I (x &&& y) :: st) kd rv iv cu su) : am_W l M R post pc ls (am_I y :: am_I x :: st) kd rv iv cu su := by
  intro p e s m args below meth c D A ad0 kd0 H locs lsA ad C Rr
  have hL := Rr.2.2.2.2.2.2
  exact lv_iand C.1 C.2.1 hd  (k p e s m args below meth c D A ad0 kd0 H locs lsA ad C (Rr.stk (am_l0 (am_l1 (am_l1 hL)))))
theorem A_ior {x y : Int32} (hd : decode M.2.1 pc = .ok (.ior, 1))  (k : am_W l M R post (pc + 1) ls (am_I (x ||| y) :: st) kd rv iv cu su) : am_W l M R post pc ls (am_I y :: am_I x :: st) kd rv iv cu su := by
  intro p e s m args below meth c D A ad0 kd0 H locs lsA ad C Rr
  have hL := Rr.2.2.2.2.2.2
  exact lv_ior C.1 C.2.1 hd  (k p e s m args below meth c D A ad0 kd0 H locs lsA ad C (Rr.stk (am_l0 (am_l1 (am_l1 hL)))))
theorem A_ixor {x y : Int32} (hd : decode M.2.1 pc = .ok (.ixor, 1))  (k : am_W l M R post (pc + 1) ls (am_I (x ^^^ y) :: st) kd rv iv cu su) : am_W l M R post pc ls (am_I y :: am_I x :: st) kd rv iv cu su := by
  intro p e s m args below meth c D A ad0 kd0 H locs lsA ad C Rr
  have hL := Rr.2.2.2.2.2.2
  exact lv_ixor C.1 C.2.1 hd  (k p e s m args below meth c D A ad0 kd0 H locs lsA ad C (Rr.stk (am_l0 (am_l1 (am_l1 hL)))))
theorem A_ishl {x y : Int32} (hd : decode M.2.1 pc = .ok (.ishl, 1))  (k : am_W l M R post (pc + 1) ls (am_I (x <<< (y &&& 31)) :: st) kd rv iv cu su) : am_W l M R post pc ls (am_I y :: am_I x :: st) kd rv iv cu su := by
  intro p e s m args below meth c D A ad0 kd0 H locs lsA ad C Rr
  have hL := Rr.2.2.2.2.2.2
  exact lv_ishl C.1 C.2.1 hd  (k p e s m args below meth c D A ad0 kd0 H locs lsA ad C (Rr.stk (am_l0 (am_l1 (am_l1 hL)))))
theorem A_ishr {x y : Int32} (hd : decode M.2.1 pc = .ok (.ishr, 1))  (k : am_W l M R post (pc + 1) ls (am_I (x >>> (y &&& 31)) :: st) kd rv iv cu su) : am_W l M R post pc ls (am_I y :: am_I x :: st) kd rv iv cu su := by
  intro p e s m args below meth c D A ad0 kd0 H locs lsA ad C Rr
  have hL := Rr.2.2.2.2.2.2
  exact lv_ishr C.1 C.2.1 hd  (k p e s m args below meth c D A ad0 kd0 H locs lsA ad C (Rr.stk (am_l0 (am_l1 (am_l1 hL)))))
theorem A_idiv {x y : Int32} (hd : decode M.2.1 pc = .ok (.idiv, 1)) (hne : ¬ y = 0) (k : am_W l M R post (pc + 1) ls (am_I (x / y) :: st) kd rv iv cu su) : am_W l M R post pc ls (am_I y :: am_I x :: st) kd rv iv cu su := by
  intro p e s m args below meth c D A ad0 kd0 H locs lsA ad C Rr
  have hL := Rr.2.2.2.2.2.2
  exact lv_idiv C.1 C.2.1 hd hne (k p e s m args below meth c D A ad0 kd0 H locs lsA ad C (Rr.stk (am_l0 (am_l1 (am_l1 hL)))))
theorem A_irem {x y : Int32} (hd : decode M.2.1 pc = .ok (.irem, 1)) (hne : ¬ y = 0) (k : am_W l M R post (pc + 1) ls (am_I (x - x / y * y) :: st) kd rv iv cu su) : am_W l M R post pc ls (am_I y :: am_I x :: st) kd rv iv cu su := by
  intro p e s m args below meth c D A ad0 kd0 H locs lsA ad C Rr
  have hL := Rr.2.2.2.2.2.2
  exact lv_irem C.1 C.2.1 hd hne (k p e s m args below meth c D A ad0 kd0 H locs lsA ad C (Rr.stk (am_l0 (am_l1 (am_l1 hL)))))
theorem A_iushr {x y : Int32} (hd : decode M.2.1 pc = .ok (.iushr, 1))  (k : am_W l M R post (pc + 1) ls (am_I ((x.toUInt32 >>> (y.toUInt32 &&& Int32.toUInt32 31)).toInt32) :: st) kd rv iv cu su) : am_W l M R post pc ls (am_I y :: am_I x :: st) kd rv iv cu su := by
  intro p e s m args below meth c D A ad0 kd0 H locs lsA ad C Rr
  have hL := Rr.2.2.2.2.2.2
  exact lv_iushr C.1 C.2.1 hd rfl (k p e s m args below meth c D A ad0 kd0 H locs lsA ad C (Rr.stk (am_l0 (am_l1 (am_l1 hL)))))
theorem A_ineg {x : Int32} (hd : decode M.2.1 pc = .ok (.ineg, 1))  (k : am_W l M R post (pc + 1) ls (am_I (-x) :: st) kd rv iv cu su) : am_W l M R post pc ls (am_I x :: st) kd rv iv cu su := by
  intro p e s m args below meth c D A ad0 kd0 H locs lsA ad C Rr
  have hL := Rr.2.2.2.2.2.2
  exact lv_ineg C.1 C.2.1 hd  (k p e s m args below meth c D A ad0 kd0 H locs lsA ad C (Rr.stk (am_l0 (am_l1 hL))))
theorem A_lsub {x y : Int64} (hd : decode M.2.1 pc = .ok (.lsub, 1))  (k : am_W l M R post (pc + 1) ls (am_J (x - y) :: st) kd rv iv cu su) : am_W l M R post pc ls (am_J y :: am_J x :: st) kd rv iv cu su := by
  intro p e s m args below meth c D A ad0 kd0 H locs lsA ad C Rr
  have hL := Rr.2.2.2.2.2.2
  exact lv_lsub C.1 C.2.1 hd  (k p e s m args below meth c D A ad0 kd0 H locs lsA ad C (Rr.stk (am_l0 (am_l1 (am_l1 hL)))))
theorem A_land {x y : Int64} (hd : decode M.2.1 pc = .ok (.land, 1))  (k : am_W l M R post (pc + 1) ls (am_J (x &&& y) :: st) kd rv iv cu su) : am_W l M R post pc ls (am_J y :: am_J x :: st) kd rv iv cu su := by
  intro p e s m args below meth c D A ad0 kd0 H locs lsA ad C Rr
  have hL := Rr.2.2.2.2.2.2
  exact lv_land C.1 C.2.1 hd  (k p e s m args below meth c D A ad0 kd0 H locs lsA ad C (Rr.stk (am_l0 (am_l1 (am_l1 hL)))))
theorem A_lor {x y : Int64} (hd : decode M.2.1 pc = .ok (.lor, 1))  (k : am_W l M R post (pc + 1) ls (am_J (x ||| y) :: st) kd rv iv cu su) : am_W l M R post pc ls (am_J y :: am_J x :: st) kd rv iv cu su := by
  intro p e s m args below meth c D A ad0 kd0 H locs lsA ad C Rr
  have hL := Rr.2.2.2.2.2.2
  exact lv_lor C.1 C.2.1 hd  (k p e s m args below meth c D A ad0 kd0 H locs lsA ad C (Rr.stk (am_l0 (am_l1 (am_l1 hL)))))
theorem A_lneg {x : Int64} (hd : decode M.2.1 pc = .ok (.lneg, 1))  (k : am_W l M R post (pc + 1) ls (am_J (-x) :: st) kd rv iv cu su) : am_W l M R post pc ls (am_J x :: st) kd rv iv cu su := by
  intro p e s m args below meth c D A ad0 kd0 H locs lsA ad C Rr
  have hL := Rr.2.2.2.2.2.2
  exact lv_lneg C.1 C.2.1 hd  (k p e s m args below meth c D A ad0 kd0 H locs lsA ad C (Rr.stk (am_l0 (am_l1 hL))))
theorem A_lshl {x : Int64} {y : Int32} (hd : decode M.2.1 pc = .ok (.lshl, 1))  (k : am_W l M R post (pc + 1) ls (am_J (x <<< (y.toInt64 &&& 63)) :: st) kd rv iv cu su) : am_W l M R post pc ls (am_I y :: am_J x :: st) kd rv iv cu su := by
  intro p e s m args below meth c D A ad0 kd0 H locs lsA ad C Rr
  have hL := Rr.2.2.2.2.2.2
  exact lv_lshl C.1 C.2.1 hd rfl (k p e s m args below meth c D A ad0 kd0 H locs lsA ad C (Rr.stk (am_l0 (am_l1 (am_l1 hL)))))
theorem A_lshr {x : Int64} {y : Int32} (hd : decode M.2.1 pc = .ok (.lshr, 1))  (k : am_W l M R post (pc + 1) ls (am_J (x >>> (y.toInt64 &&& 63)) :: st) kd rv iv cu su) : am_W l M R post pc ls (am_I y :: am_J x :: st) kd rv iv cu su := by
  intro p e s m args below meth c D A ad0 kd0 H locs lsA ad C Rr
  have hL := Rr.2.2.2.2.2.2
  exact lv_lshr C.1 C.2.1 hd rfl (k p e s m args below meth c D A ad0 kd0 H locs lsA ad C (Rr.stk (am_l0 (am_l1 (am_l1 hL)))))
theorem A_i2l {x : Int32} (hd : decode M.2.1 pc = .ok (.i2l, 1))  (k : am_W l M R post (pc + 1) ls (am_J x.toInt64 :: st) kd rv iv cu su) : am_W l M R post pc ls (am_I x :: st) kd rv iv cu su := by
  intro p e s m args below meth c D A ad0 kd0 H locs lsA ad C Rr
  have hL := Rr.2.2.2.2.2.2
  exact lv_i2l C.1 C.2.1 hd rfl (k p e s m args below meth c D A ad0 kd0 H locs lsA ad C (Rr.stk (am_l0 (am_l1 hL))))
theorem A_l2i {x : Int64} (hd : decode M.2.1 pc = .ok (.l2i, 1))  (k : am_W l M R post (pc + 1) ls (am_I x.toInt32 :: st) kd rv iv cu su) : am_W l M R post pc ls (am_J x :: st) kd rv iv cu su := by
  intro p e s m args below meth c D A ad0 kd0 H locs lsA ad C Rr
  have hL := Rr.2.2.2.2.2.2
  exact lv_l2i C.1 C.2.1 hd rfl (k p e s m args below meth c D A ad0 kd0 H locs lsA ad C (Rr.stk (am_l0 (am_l1 hL))))
theorem A_i2b {x : Int32} (hd : decode M.2.1 pc = .ok (.i2b, 1))  (k : am_W l M R post (pc + 1) ls (am_I x.toInt8.toInt32 :: st) kd rv iv cu su) : am_W l M R post pc ls (am_I x :: st) kd rv iv cu su := by
  intro p e s m args below meth c D A ad0 kd0 H locs lsA ad C Rr
  have hL := Rr.2.2.2.2.2.2
  exact lv_i2b C.1 C.2.1 hd rfl (k p e s m args below meth c D A ad0 kd0 H locs lsA ad C (Rr.stk (am_l0 (am_l1 hL))))
theorem A_i2s {x : Int32} (hd : decode M.2.1 pc = .ok (.i2s, 1))  (k : am_W l M R post (pc + 1) ls (am_I x.toInt16.toInt32 :: st) kd rv iv cu su) : am_W l M R post pc ls (am_I x :: st) kd rv iv cu su := by
  intro p e s m args below meth c D A ad0 kd0 H locs lsA ad C Rr
  have hL := Rr.2.2.2.2.2.2
  exact lv_i2s C.1 C.2.1 hd rfl (k p e s m args below meth c D A ad0 kd0 H locs lsA ad C (Rr.stk (am_l0 (am_l1 hL))))
theorem A_i2c {x : Int32} (hd : decode M.2.1 pc = .ok (.i2c, 1))  (k : am_W l M R post (pc + 1) ls (am_I (x.toUInt32 % 65536).toInt32 :: st) kd rv iv cu su) : am_W l M R post pc ls (am_I x :: st) kd rv iv cu su := by
  intro p e s m args below meth c D A ad0 kd0 H locs lsA ad C Rr
  have hL := Rr.2.2.2.2.2.2
  exact lv_i2c C.1 C.2.1 hd rfl (k p e s m args below meth c D A ad0 kd0 H locs lsA ad C (Rr.stk (am_l0 (am_l1 hL))))
theorem A_lcmp {x y : Int64} (hd : decode M.2.1 pc = .ok (.lcmp, 1))  (k : am_W l M R post (pc + 1) ls (am_I (lg_cmp x y) :: st) kd rv iv cu su) : am_W l M R post pc ls (am_J y :: am_J x :: st) kd rv iv cu su := by
  intro p e s m args below meth c D A ad0 kd0 H locs lsA ad C Rr
  have hL := Rr.2.2.2.2.2.2
  exact W.lcmp C.1 C.2.1 hd  (k p e s m args below meth c D A ad0 kd0 H locs lsA ad C (Rr.stk (am_l0 (am_l1 (am_l1 hL)))))
theorem am_cat1 (ad : am_N → Nat) {v : am_V} (h : am_c2 v = false) : (am_cv ad v).category = 1 := by rw [am_c2_cat, h]; rfl
theorem A_dup {v : am_V} (hd : decode M.2.1 pc = .ok (.dup, 1)) (hc : am_c2 v = false) (k : am_W l M R post (pc + 1) ls (v :: v :: st) kd rv iv cu su) : am_W l M R post pc ls (v :: st) kd rv iv cu su := by
  intro p e s m args below meth c D A ad0 kd0 H locs lsA ad C Rr
  have hL := Rr.2.2.2.2.2.2
  exact lv_dup C.1 C.2.1 hd (am_cat1 ad hc) (k p e s m args below meth c D A ad0 kd0 H locs lsA ad C (Rr.stk (am_lc (hL _ List.mem_cons_self) hL)))
theorem A_dup2 {v w : am_V} (hd : decode M.2.1 pc = .ok (.dup2, 1)) (hc : am_c2 v = false) (hc2 : am_c2 w = false) (k : am_W l M R post (pc + 1) ls (v :: w :: v :: w :: st) kd rv iv cu su) : am_W l M R post pc ls (v :: w :: st) kd rv iv cu su := by
  intro p e s m args below meth c D A ad0 kd0 H locs lsA ad C Rr
  have hL := Rr.2.2.2.2.2.2
  exact lv_dup2_11 C.1 C.2.1 hd (am_cat1 ad hc) (am_cat1 ad hc2) (k p e s m args below meth c D A ad0 kd0 H locs lsA ad C (Rr.stk (am_lc (hL _ List.mem_cons_self) (am_lc (hL _ (List.mem_cons_of_mem _ List.mem_cons_self)) hL))))
theorem A_pop {v : am_V} (hd : decode M.2.1 pc = .ok (.pop, 1)) (hc : am_c2 v = false) (k : am_W l M R post (pc + 1) ls st kd rv iv cu su) : am_W l M R post pc ls (v :: st) kd rv iv cu su := by
  intro p e s m args below meth c D A ad0 kd0 H locs lsA ad C Rr
  have hL := Rr.2.2.2.2.2.2
  exact lv_pop C.1 C.2.1 hd (am_cat1 ad hc) (k p e s m args below meth c D A ad0 kd0 H locs lsA ad C (Rr.stk (am_l1 hL)))
theorem am_tin {M : am_M} {w : Cond} (i : Nat) (h : lw_tbl[i]? = some w) (g : goodWord w = true) : w ∈ am_ws M := List.mem_cons_of_mem _ (List.mem_filter.mpr ⟨List.mem_of_getElem? h, g⟩)
theorem A_ldc {index : Nat} {v : Int32} (hc : Cond.constant M.1.cls index v ∈ am_ws M) (hd : decode M.2.1 pc = .ok (.ldc index, 2))  (k : am_W l M R post (pc + 2) ls (am_I v :: st) kd rv iv cu su) : am_W l M R post pc ls st kd rv iv cu su := by
  intro p e s m args below meth c D A ad0 kd0 H locs lsA ad C Rr
  have hL := Rr.2.2.2.2.2.2
  exact (fun a b d => lv_ldc a b C.2.2.2.2.1 (C.2.2.2.2.2.1 _ hc) d) C.1 C.2.1 hd  (k p e s m args below meth c D A ad0 kd0 H locs lsA ad C (Rr.stk (am_l0 hL)))
theorem A_ldcw {index : Nat} {v : Int32} (hc : Cond.constant M.1.cls index v ∈ am_ws M) (hd : decode M.2.1 pc = .ok (.ldc_w index, 3))  (k : am_W l M R post (pc + 3) ls (am_I v :: st) kd rv iv cu su) : am_W l M R post pc ls st kd rv iv cu su := by
  intro p e s m args below meth c D A ad0 kd0 H locs lsA ad C Rr
  have hL := Rr.2.2.2.2.2.2
  exact (fun a b d => lv_ldcw a b C.2.2.2.2.1 (C.2.2.2.2.2.1 _ hc) d) C.1 C.2.1 hd  (k p e s m args below meth c D A ad0 kd0 H locs lsA ad C (Rr.stk (am_l0 hL)))
theorem A_ldc2 {index : Nat} {v : Int64} (hc : Cond.constantLong M.1.cls index v ∈ am_ws M) (hd : decode M.2.1 pc = .ok (.ldc2_w index, 3))  (k : am_W l M R post (pc + 3) ls (am_J v :: st) kd rv iv cu su) : am_W l M R post pc ls st kd rv iv cu su := by
  intro p e s m args below meth c D A ad0 kd0 H locs lsA ad C Rr
  have hL := Rr.2.2.2.2.2.2
  exact (fun a b d => lv_ldc2 a b C.2.2.2.2.1 (C.2.2.2.2.2.1 _ hc) d) C.1 C.2.1 hd  (k p e s m args below meth c D A ad0 kd0 H locs lsA ad C (Rr.stk (am_l0 hL)))
theorem A_goto {off : Int} (tgt : Nat) (hd : decode M.2.1 pc = .ok (.goto off, 3)) (ht : (pc : Int) + off = (tgt : Int)) (k : am_W l M R post tgt ls st kd rv iv cu su) : am_W l M R post pc ls st kd rv iv cu su := by
  intro p e s m args below meth c D A ad0 kd0 H locs lsA ad C Rr
  exact lv_goto C.1 C.2.1 hd ht (k p e s m args below meth c D A ad0 kd0 H locs lsA ad C Rr)
theorem A_ifeq {x : Int32} {off : Int} (tgt : Nat) (hd : decode M.2.1 pc = .ok (.ifCond .eq off, 3)) (ht : (pc : Int) + off = (tgt : Int)) (kt : x = 0 → am_W l M R post tgt ls st kd rv iv cu su) (kf : ¬ (x = 0) → am_W l M R post (pc + 3) ls st kd rv iv cu su) : am_W l M R post pc ls (am_I x :: st) kd rv iv cu su := by
  intro p e s m args below meth c D A ad0 kd0 H locs lsA ad C Rr
  have hL := Rr.2.2.2.2.2.2
  exact lv_if_eq C.1 C.2.1 hd ht (fun h => kt h p e s m args below meth c D A ad0 kd0 H locs lsA ad C (Rr.stk (am_l1 hL))) (fun h => kf h p e s m args below meth c D A ad0 kd0 H locs lsA ad C (Rr.stk (am_l1 hL)))
theorem A_ifne {x : Int32} {off : Int} (tgt : Nat) (hd : decode M.2.1 pc = .ok (.ifCond .ne off, 3)) (ht : (pc : Int) + off = (tgt : Int)) (kt : ¬ x = 0 → am_W l M R post tgt ls st kd rv iv cu su) (kf : x = 0 → am_W l M R post (pc + 3) ls st kd rv iv cu su) : am_W l M R post pc ls (am_I x :: st) kd rv iv cu su := by
  intro p e s m args below meth c D A ad0 kd0 H locs lsA ad C Rr
  have hL := Rr.2.2.2.2.2.2
  exact lv_if_ne C.1 C.2.1 hd ht (fun h => kt h p e s m args below meth c D A ad0 kd0 H locs lsA ad C (Rr.stk (am_l1 hL))) (fun h => kf h p e s m args below meth c D A ad0 kd0 H locs lsA ad C (Rr.stk (am_l1 hL)))
theorem A_iflt {x : Int32} {off : Int} (tgt : Nat) (hd : decode M.2.1 pc = .ok (.ifCond .lt off, 3)) (ht : (pc : Int) + off = (tgt : Int)) (kt : x < 0 → am_W l M R post tgt ls st kd rv iv cu su) (kf : ¬ (x < 0) → am_W l M R post (pc + 3) ls st kd rv iv cu su) : am_W l M R post pc ls (am_I x :: st) kd rv iv cu su := by
  intro p e s m args below meth c D A ad0 kd0 H locs lsA ad C Rr
  have hL := Rr.2.2.2.2.2.2
  exact lv_if_lt C.1 C.2.1 hd ht (fun h => kt h p e s m args below meth c D A ad0 kd0 H locs lsA ad C (Rr.stk (am_l1 hL))) (fun h => kf h p e s m args below meth c D A ad0 kd0 H locs lsA ad C (Rr.stk (am_l1 hL)))
theorem A_ifge {x : Int32} {off : Int} (tgt : Nat) (hd : decode M.2.1 pc = .ok (.ifCond .ge off, 3)) (ht : (pc : Int) + off = (tgt : Int)) (kt : 0 ≤ x → am_W l M R post tgt ls st kd rv iv cu su) (kf : ¬ (0 ≤ x) → am_W l M R post (pc + 3) ls st kd rv iv cu su) : am_W l M R post pc ls (am_I x :: st) kd rv iv cu su := by
  intro p e s m args below meth c D A ad0 kd0 H locs lsA ad C Rr
  have hL := Rr.2.2.2.2.2.2
  exact lv_if_ge C.1 C.2.1 hd ht (fun h => kt h p e s m args below meth c D A ad0 kd0 H locs lsA ad C (Rr.stk (am_l1 hL))) (fun h => kf h p e s m args below meth c D A ad0 kd0 H locs lsA ad C (Rr.stk (am_l1 hL)))
theorem A_ifgt {x : Int32} {off : Int} (tgt : Nat) (hd : decode M.2.1 pc = .ok (.ifCond .gt off, 3)) (ht : (pc : Int) + off = (tgt : Int)) (kt : 0 < x → am_W l M R post tgt ls st kd rv iv cu su) (kf : ¬ (0 < x) → am_W l M R post (pc + 3) ls st kd rv iv cu su) : am_W l M R post pc ls (am_I x :: st) kd rv iv cu su := by
  intro p e s m args below meth c D A ad0 kd0 H locs lsA ad C Rr
  have hL := Rr.2.2.2.2.2.2
  exact lv_if_gt C.1 C.2.1 hd ht (fun h => kt h p e s m args below meth c D A ad0 kd0 H locs lsA ad C (Rr.stk (am_l1 hL))) (fun h => kf h p e s m args below meth c D A ad0 kd0 H locs lsA ad C (Rr.stk (am_l1 hL)))
theorem A_ifle {x : Int32} {off : Int} (tgt : Nat) (hd : decode M.2.1 pc = .ok (.ifCond .le off, 3)) (ht : (pc : Int) + off = (tgt : Int)) (kt : x ≤ 0 → am_W l M R post tgt ls st kd rv iv cu su) (kf : ¬ (x ≤ 0) → am_W l M R post (pc + 3) ls st kd rv iv cu su) : am_W l M R post pc ls (am_I x :: st) kd rv iv cu su := by
  intro p e s m args below meth c D A ad0 kd0 H locs lsA ad C Rr
  have hL := Rr.2.2.2.2.2.2
  exact lv_if_le C.1 C.2.1 hd ht (fun h => kt h p e s m args below meth c D A ad0 kd0 H locs lsA ad C (Rr.stk (am_l1 hL))) (fun h => kf h p e s m args below meth c D A ad0 kd0 H locs lsA ad C (Rr.stk (am_l1 hL)))
theorem A_icmpeq {x y : Int32} {off : Int} (tgt : Nat) (hd : decode M.2.1 pc = .ok (.if_icmp .eq off, 3)) (ht : (pc : Int) + off = (tgt : Int)) (kt : x = y → am_W l M R post tgt ls st kd rv iv cu su) (kf : ¬ (x = y) → am_W l M R post (pc + 3) ls st kd rv iv cu su) : am_W l M R post pc ls (am_I y :: am_I x :: st) kd rv iv cu su := by
  intro p e s m args below meth c D A ad0 kd0 H locs lsA ad C Rr
  have hL := Rr.2.2.2.2.2.2
  exact lv_icmp_eq C.1 C.2.1 hd ht (fun h => kt h p e s m args below meth c D A ad0 kd0 H locs lsA ad C (Rr.stk (am_l1 (am_l1 hL)))) (fun h => kf h p e s m args below meth c D A ad0 kd0 H locs lsA ad C (Rr.stk (am_l1 (am_l1 hL))))
theorem A_icmpne {x y : Int32} {off : Int} (tgt : Nat) (hd : decode M.2.1 pc = .ok (.if_icmp .ne off, 3)) (ht : (pc : Int) + off = (tgt : Int)) (kt : ¬ x = y → am_W l M R post tgt ls st kd rv iv cu su) (kf : x = y → am_W l M R post (pc + 3) ls st kd rv iv cu su) : am_W l M R post pc ls (am_I y :: am_I x :: st) kd rv iv cu su := by
  intro p e s m args below meth c D A ad0 kd0 H locs lsA ad C Rr
  have hL := Rr.2.2.2.2.2.2
  exact lv_icmp_ne C.1 C.2.1 hd ht (fun h => kt h p e s m args below meth c D A ad0 kd0 H locs lsA ad C (Rr.stk (am_l1 (am_l1 hL)))) (fun h => kf h p e s m args below meth c D A ad0 kd0 H locs lsA ad C (Rr.stk (am_l1 (am_l1 hL))))
theorem A_icmplt {x y : Int32} {off : Int} (tgt : Nat) (hd : decode M.2.1 pc = .ok (.if_icmp .lt off, 3)) (ht : (pc : Int) + off = (tgt : Int)) (kt : x < y → am_W l M R post tgt ls st kd rv iv cu su) (kf : ¬ (x < y) → am_W l M R post (pc + 3) ls st kd rv iv cu su) : am_W l M R post pc ls (am_I y :: am_I x :: st) kd rv iv cu su := by
  intro p e s m args below meth c D A ad0 kd0 H locs lsA ad C Rr
  have hL := Rr.2.2.2.2.2.2
  exact lv_icmp_lt C.1 C.2.1 hd ht (fun h => kt h p e s m args below meth c D A ad0 kd0 H locs lsA ad C (Rr.stk (am_l1 (am_l1 hL)))) (fun h => kf h p e s m args below meth c D A ad0 kd0 H locs lsA ad C (Rr.stk (am_l1 (am_l1 hL))))
theorem A_icmpge {x y : Int32} {off : Int} (tgt : Nat) (hd : decode M.2.1 pc = .ok (.if_icmp .ge off, 3)) (ht : (pc : Int) + off = (tgt : Int)) (kt : y ≤ x → am_W l M R post tgt ls st kd rv iv cu su) (kf : ¬ (y ≤ x) → am_W l M R post (pc + 3) ls st kd rv iv cu su) : am_W l M R post pc ls (am_I y :: am_I x :: st) kd rv iv cu su := by
  intro p e s m args below meth c D A ad0 kd0 H locs lsA ad C Rr
  have hL := Rr.2.2.2.2.2.2
  exact lv_icmp_ge C.1 C.2.1 hd ht (fun h => kt h p e s m args below meth c D A ad0 kd0 H locs lsA ad C (Rr.stk (am_l1 (am_l1 hL)))) (fun h => kf h p e s m args below meth c D A ad0 kd0 H locs lsA ad C (Rr.stk (am_l1 (am_l1 hL))))
theorem A_icmpgt {x y : Int32} {off : Int} (tgt : Nat) (hd : decode M.2.1 pc = .ok (.if_icmp .gt off, 3)) (ht : (pc : Int) + off = (tgt : Int)) (kt : y < x → am_W l M R post tgt ls st kd rv iv cu su) (kf : ¬ (y < x) → am_W l M R post (pc + 3) ls st kd rv iv cu su) : am_W l M R post pc ls (am_I y :: am_I x :: st) kd rv iv cu su := by
  intro p e s m args below meth c D A ad0 kd0 H locs lsA ad C Rr
  have hL := Rr.2.2.2.2.2.2
  exact lv_icmp_gt C.1 C.2.1 hd ht (fun h => kt h p e s m args below meth c D A ad0 kd0 H locs lsA ad C (Rr.stk (am_l1 (am_l1 hL)))) (fun h => kf h p e s m args below meth c D A ad0 kd0 H locs lsA ad C (Rr.stk (am_l1 (am_l1 hL))))
theorem A_icmple {x y : Int32} {off : Int} (tgt : Nat) (hd : decode M.2.1 pc = .ok (.if_icmp .le off, 3)) (ht : (pc : Int) + off = (tgt : Int)) (kt : x ≤ y → am_W l M R post tgt ls st kd rv iv cu su) (kf : ¬ (x ≤ y) → am_W l M R post (pc + 3) ls st kd rv iv cu su) : am_W l M R post pc ls (am_I y :: am_I x :: st) kd rv iv cu su := by
  intro p e s m args below meth c D A ad0 kd0 H locs lsA ad C Rr
  have hL := Rr.2.2.2.2.2.2
  exact lv_icmp_le C.1 C.2.1 hd ht (fun h => kt h p e s m args below meth c D A ad0 kd0 H locs lsA ad C (Rr.stk (am_l1 (am_l1 hL)))) (fun h => kf h p e s m args below meth c D A ad0 kd0 H locs lsA ad C (Rr.stk (am_l1 (am_l1 hL))))
theorem A_ifnullP {n : am_N} {off : Int} (hd : decode M.2.1 pc = .ok (.ifnull off, 3)) (k : am_W l M R post (pc + 3) ls st kd rv iv cu su) : am_W l M R post pc ls (am_P n :: st) kd rv iv cu su := by
  intro p e s m args below meth c D A ad0 kd0 H locs lsA ad C Rr
  exact lv_ifnull C.1 C.2.1 hd (k p e s m args below meth c D A ad0 kd0 H locs lsA ad C (Rr.stk (am_l1 Rr.2.2.2.2.2.2)))
theorem A_ifnull0 {off : Int} (tgt : Nat) (hd : decode M.2.1 pc = .ok (.ifnull off, 3)) (ht : (pc : Int) + off = (tgt : Int)) (k : am_W l M R post tgt ls st kd rv iv cu su) : am_W l M R post pc ls (am_0 :: st) kd rv iv cu su := by
  intro p e s m args below meth c D A ad0 kd0 H locs lsA ad C Rr
  exact lv_ifnullN C.1 C.2.1 hd ht (k p e s m args below meth c D A ad0 kd0 H locs lsA ad C (Rr.stk (am_l1 Rr.2.2.2.2.2.2)))
theorem A_tableOut {dflt lo hi : Int} {offs : Array Int} {len : Nat} {x : Int32} (tgt : Nat) (hd : decode M.2.1 pc = .ok (.tableswitch dflt lo hi offs, len)) (h : x.toInt < lo ∨ hi < x.toInt) (ht : (pc : Int) + dflt = (tgt : Int)) (k : am_W l M R post tgt ls st kd rv iv cu su) : am_W l M R post pc ls (am_I x :: st) kd rv iv cu su := by
  intro p e s m args below meth c D A ad0 kd0 H locs lsA ad C Rr
  exact lv_tableOut C.1 C.2.1 hd h ht (k p e s m args below meth c D A ad0 kd0 H locs lsA ad C (Rr.stk (am_l1 Rr.2.2.2.2.2.2)))
theorem A_tableIn {dflt lo hi : Int} {offs : Array Int} {len : Nat} {x : Int32} {off : Int} (tgt : Nat) (hd : decode M.2.1 pc = .ok (.tableswitch dflt lo hi offs, len)) (h1 : ¬ x.toInt < lo) (h2 : ¬ hi < x.toInt) (ho : offs[(x.toInt - lo).toNat]? = some off) (ht : (pc : Int) + off = (tgt : Int)) (k : am_W l M R post tgt ls st kd rv iv cu su) : am_W l M R post pc ls (am_I x :: st) kd rv iv cu su := by
  intro p e s m args below meth c D A ad0 kd0 H locs lsA ad C Rr
  exact lv_tableIn C.1 C.2.1 hd h1 h2 ho ht (k p e s m args below meth c D A ad0 kd0 H locs lsA ad C (Rr.stk (am_l1 Rr.2.2.2.2.2.2)))
theorem A_lookup {dflt : Int} {ps : Array (Int × Int)} {len : Nat} {x : Int32} {off : Int} (tgt : Nat) (hd : decode M.2.1 pc = .ok (.lookupswitch dflt ps, len)) (hp : (ps.toList.zip (ps.toList.drop 1)).all (fun (a, next) => a.1 < next.1) = true) (ho : Op.lookupswitch.offset ps.toList dflt x.toInt = off) (ht : (pc : Int) + off = (tgt : Int)) (k : am_W l M R post tgt ls st kd rv iv cu su) : am_W l M R post pc ls (am_I x :: st) kd rv iv cu su := by
  intro p e s m args below meth c D A ad0 kd0 H locs lsA ad C Rr
  exact lv_lookup C.1 C.2.1 hd hp ho ht (k p e s m args below meth c D A ad0 kd0 H locs lsA ad C (Rr.stk (am_l1 Rr.2.2.2.2.2.2)))
theorem A_iload {i : Nat} {x : Int32} (hd : decode M.2.1 pc = .ok (.iload i, 2)) (hv : ls[i]? = some (some (am_I x))) (k : am_W l M R post (pc + 2) ls (am_I x :: st) kd rv iv cu su) : am_W l M R post pc ls st kd rv iv cu su := by
  intro p e s m args below meth c D A ad0 kd0 H locs lsA ad C Rr
  have hL := Rr.2.2.2.2.2.2
  exact lv_iload C.1 C.2.1 hd (Rr.2.2.2.2.1.2.2 i _ hv) (k p e s m args below meth c D A ad0 kd0 H locs lsA ad C (Rr.stk (am_l0 hL)))
theorem A_iload_n {i : Nat} {k9 : Fin 4} {x : Int32} (hd : decode M.2.1 pc = .ok (.iload_n k9, 1)) (hi : (k9 : Nat) = i) (hv : ls[i]? = some (some (am_I x))) (k : am_W l M R post (pc + 1) ls (am_I x :: st) kd rv iv cu su) : am_W l M R post pc ls st kd rv iv cu su := by
  intro p e s m args below meth c D A ad0 kd0 H locs lsA ad C Rr
  have hL := Rr.2.2.2.2.2.2
  exact lv_iload_n C.1 C.2.1 hd hi (Rr.2.2.2.2.1.2.2 i _ hv) (k p e s m args below meth c D A ad0 kd0 H locs lsA ad C (Rr.stk (am_l0 hL)))
theorem A_lload {i : Nat} {x : Int64} (hd : decode M.2.1 pc = .ok (.lload i, 2)) (hv : ls[i]? = some (some (am_J x))) (k : am_W l M R post (pc + 2) ls (am_J x :: st) kd rv iv cu su) : am_W l M R post pc ls st kd rv iv cu su := by
  intro p e s m args below meth c D A ad0 kd0 H locs lsA ad C Rr
  have hL := Rr.2.2.2.2.2.2
  exact lv_lload C.1 C.2.1 hd (Rr.2.2.2.2.1.2.2 i _ hv) (k p e s m args below meth c D A ad0 kd0 H locs lsA ad C (Rr.stk (am_l0 hL)))
theorem A_lload_n {i : Nat} {k9 : Fin 4} {x : Int64} (hd : decode M.2.1 pc = .ok (.lload_n k9, 1)) (hi : (k9 : Nat) = i) (hv : ls[i]? = some (some (am_J x))) (k : am_W l M R post (pc + 1) ls (am_J x :: st) kd rv iv cu su) : am_W l M R post pc ls st kd rv iv cu su := by
  intro p e s m args below meth c D A ad0 kd0 H locs lsA ad C Rr
  have hL := Rr.2.2.2.2.2.2
  exact lv_lload_n C.1 C.2.1 hd hi (Rr.2.2.2.2.1.2.2 i _ hv) (k p e s m args below meth c D A ad0 kd0 H locs lsA ad C (Rr.stk (am_l0 hL)))
theorem A_aload {i : Nat} {n : am_N} (hd : decode M.2.1 pc = .ok (.aload i, 2)) (hv : ls[i]? = some (some (am_P n))) (k : am_W l M R post (pc + 2) ls (am_P n :: st) kd rv iv cu su) : am_W l M R post pc ls st kd rv iv cu su := by
  intro p e s m args below meth c D A ad0 kd0 H locs lsA ad C Rr
  have hL := Rr.2.2.2.2.2.2
  exact lv_aload C.1 C.2.1 hd (Rr.2.2.2.2.1.2.2 i _ hv) (k p e s m args below meth c D A ad0 kd0 H locs lsA ad C (Rr.stk (am_lc (Rr.2.2.2.2.2.1 _ (List.mem_of_getElem? hv)) hL)))
theorem A_aload0 {i : Nat}  (hd : decode M.2.1 pc = .ok (.aload i, 2)) (hv : ls[i]? = some (some am_0)) (k : am_W l M R post (pc + 2) ls (am_0 :: st) kd rv iv cu su) : am_W l M R post pc ls st kd rv iv cu su := by
  intro p e s m args below meth c D A ad0 kd0 H locs lsA ad C Rr
  have hL := Rr.2.2.2.2.2.2
  exact lv_aloadN C.1 C.2.1 hd (Rr.2.2.2.2.1.2.2 i _ hv) (k p e s m args below meth c D A ad0 kd0 H locs lsA ad C (Rr.stk (am_l0 hL)))
theorem A_aload_n {i : Nat} {k9 : Fin 4} {n : am_N} (hd : decode M.2.1 pc = .ok (.aload_n k9, 1)) (hi : (k9 : Nat) = i) (hv : ls[i]? = some (some (am_P n))) (k : am_W l M R post (pc + 1) ls (am_P n :: st) kd rv iv cu su) : am_W l M R post pc ls st kd rv iv cu su := by
  intro p e s m args below meth c D A ad0 kd0 H locs lsA ad C Rr
  have hL := Rr.2.2.2.2.2.2
  exact lv_aload_n C.1 C.2.1 hd hi (Rr.2.2.2.2.1.2.2 i _ hv) (k p e s m args below meth c D A ad0 kd0 H locs lsA ad C (Rr.stk (am_lc (Rr.2.2.2.2.2.1 _ (List.mem_of_getElem? hv)) hL)))
theorem A_aload0_n {i : Nat} {k9 : Fin 4}  (hd : decode M.2.1 pc = .ok (.aload_n k9, 1)) (hi : (k9 : Nat) = i) (hv : ls[i]? = some (some am_0)) (k : am_W l M R post (pc + 1) ls (am_0 :: st) kd rv iv cu su) : am_W l M R post pc ls st kd rv iv cu su := by
  intro p e s m args below meth c D A ad0 kd0 H locs lsA ad C Rr
  have hL := Rr.2.2.2.2.2.2
  exact lv_aload_nN C.1 C.2.1 hd hi (Rr.2.2.2.2.1.2.2 i _ hv) (k p e s m args below meth c D A ad0 kd0 H locs lsA ad C (Rr.stk (am_l0 hL)))
/-- the listed locals as the kit lists them -/
def am_al (ad : am_N → Nat) (ls : List (Option am_V)) : List (Nat × Value) := (List.range ls.length).filterMap (fun i => (ls[i]?).join.map (fun v => (i, am_cv ad v)))
theorem am_al_mem {ad : am_N → Nat} {ls : List (Option am_V)} {q : Nat × Value} : q ∈ am_al ad ls ↔ ∃ v, ls[q.1]? = some (some v) ∧ q.2 = am_cv ad v := by
  unfold am_al
  rw [List.mem_filterMap]
  constructor
  · rintro ⟨i, hi, h⟩
    cases hx : ls[i]? with
    | none => simp [hx] at h
    | some o =>
      cases o with
      | none => simp [hx] at h
      | some v =>
        simp [hx] at h
        subst h
        exact ⟨v, hx, rfl⟩
  · rintro ⟨v, h1, h2⟩
    refine ⟨q.1, List.mem_range.mpr (List.getElem?_eq_some_iff.mp h1).1, ?_⟩
    simp [h1, ← h2]
theorem am_L.has {ad : am_N → Nat} {ls : List (Option am_V)} {nL : Nat} {lsA : Array Slot} (h : am_L ad ls nL lsA) : lv_has lsA nL (am_al ad ls) := ⟨h.1, h.2.1, fun q hq => by
  obtain ⟨v, h1, h2⟩ := am_al_mem.mp hq
  rw [h2]
  exact h.2.2 _ _ h1⟩
def am_c1 : Option am_V → Bool
  | some v => !am_c2 v
  | none => true
/-- what stood before the place isn't a long -/
def am_ok1 (ls : List (Option am_V)) (i : Nat) : Bool := match i with
  | 0 => true
  | j + 1 => match ls[j]? with
    | some o => am_c1 o
    | none => true
theorem am_L.put1 {ad : am_N → Nat} {ls : List (Option am_V)} {nL : Nat} {lsA lsA' : Array Slot} {i : Nat} {v : am_V} (hok : am_ok1 ls i = true) (hi : i < ls.length) (h : lv_has lsA' nL ((i, am_cv ad v) :: (am_al ad ls).filter (fun q => !(q.1 == i) && !(q.1 + 1 == i && q.2.category == 2)))) : am_L ad (ls.set i (some v)) nL lsA' := by
  refine ⟨h.1, h.2.1, fun j w hj => ?_⟩
  by_cases hji : i = j
  · subst hji
    rw [List.getElem?_set_self hi] at hj
    cases hj
    exact h.2.2 _ List.mem_cons_self
  · rw [List.getElem?_set_ne hji] at hj
    refine h.2.2 (j, am_cv ad w) (List.mem_cons_of_mem _ (List.mem_filter.mpr ⟨am_al_mem.mpr ⟨w, hj, rfl⟩, ?_⟩))
    have h1 : (j == i) = false := by simpa using fun e : j = i => hji e.symm
    rw [h1]
    by_cases h2 : j + 1 = i
    · subst h2
      simp only [am_ok1, hj, am_c1] at hok
      rw [am_c2_cat]
      simp at hok
      simp [hok]
    · have h3 : (j + 1 == i) = false := by simpa using h2
      rw [h3]; rfl
theorem am_L.put2 {ad : am_N → Nat} {ls : List (Option am_V)} {nL : Nat} {lsA' : Array Slot} {i : Nat} {v : am_V} (hok : am_ok1 ls i = true) (hi : i < ls.length) (h : lv_has lsA' nL ((i, am_cv ad v) :: (am_al ad ls).filter (fun q => !(q.1 == i) && (!(q.1 == i + 1) && !(q.1 + 1 == i && q.2.category == 2))))) : am_L ad ((ls.set i (some v)).set (i + 1) none) nL lsA' := by
  refine ⟨h.1, h.2.1, fun j w hj => ?_⟩
  by_cases hj2 : i + 1 = j
  · subst hj2
    by_cases hl : i + 1 < (ls.set i (some v)).length
    · rw [List.getElem?_set_self hl] at hj
      cases hj
    · rw [List.getElem?_eq_none (by rw [List.length_set]; omega)] at hj
      cases hj
  · rw [List.getElem?_set_ne hj2] at hj
    by_cases hji : i = j
    · subst hji
      rw [List.getElem?_set_self hi] at hj
      cases hj
      exact h.2.2 _ List.mem_cons_self
    · rw [List.getElem?_set_ne hji] at hj
      refine h.2.2 (j, am_cv ad w) (List.mem_cons_of_mem _ (List.mem_filter.mpr ⟨am_al_mem.mpr ⟨w, hj, rfl⟩, ?_⟩))
      have h1 : (j == i) = false := by simpa using fun e : j = i => hji e.symm
      have h4 : (j == i + 1) = false := by simpa using fun e : j = i + 1 => hj2 e.symm
      rw [h1, h4]
      by_cases h2 : j + 1 = i
      · subst h2
        simp only [am_ok1, hj, am_c1] at hok
        rw [am_c2_cat]
        simp at hok
        simp [hok]
      · have h3 : (j + 1 == i) = false := by simpa using h2
        rw [h3]; rfl
theorem am_R.loc {s : State} {D : am_D} {A : Nat → Prop} {ad0 : am_N → Nat} {kd0 : am_kd} {H : Heap} {locs : List Loc} {lsA lsA' : Array Slot} {ad : am_N → Nat} {st' : List am_V} {ls' : List (Option am_V)} (h : am_R M s D A ad0 kd0 H locs lsA ad ls st kd rv iv) (hl : am_L ad ls' M.2.2.1 lsA') (hv : ∀ v, some v ∈ ls' → am_lv kd v) (h' : ∀ v ∈ st', am_lv kd v) : am_R M s D A ad0 kd0 H locs lsA' ad ls' st' kd rv iv := ⟨h.1, h.2.1, h.2.2.1, h.2.2.2.1, hl, hv, h'⟩
theorem am_setl {kd : am_kd} {ls : List (Option am_V)} {i : Nat} {v : am_V} (h : ∀ v, some v ∈ ls → am_lv kd v) (hv : am_lv kd v) : ∀ w, some w ∈ ls.set i (some v) → am_lv kd w := fun w hw => by
  rcases List.mem_or_eq_of_mem_set hw with h1 | h1
  · exact h w h1
  · cases h1; exact hv
theorem am_setn {kd : am_kd} {ls : List (Option am_V)} {i : Nat} (h : ∀ v, some v ∈ ls → am_lv kd v) : ∀ w, some w ∈ ls.set i none → am_lv kd w := fun w hw => by
  rcases List.mem_or_eq_of_mem_set hw with h1 | h1
  · exact h w h1
  · cases h1
theorem A_istore {i : Nat} {x : Int32} {ls' : List (Option am_V)} (hd : decode M.2.1 pc = .ok (.istore i, 2)) (hn : i < M.2.2.1) (hok : am_ok1 ls i = true) (hl : i < ls.length) (hs : ls.set i (some (am_I x)) = ls') (k : am_W l M R post (pc + 2) ls' st kd rv iv cu su) : am_W l M R post pc ls (am_I x :: st) kd rv iv cu su := by
  intro p e s m args below meth c D A ad0 kd0 H locs lsA ad C Rr
  have hL := Rr.2.2.2.2.2.2
  subst hs
  refine lv_istore C.1 C.2.1 hd Rr.2.2.2.2.1.has hn rfl (fun ls9 h9 => ?_)
  exact k p e s m args below meth c D A ad0 kd0 H locs ls9 ad C (Rr.loc (am_L.put1 (lsA := lsA) hok hl h9) (am_setl Rr.2.2.2.2.2.1 (hL _ List.mem_cons_self)) (am_l1 hL))
theorem A_istore_n {i : Nat} {k9 : Fin 4} {x : Int32} {ls' : List (Option am_V)} (hd : decode M.2.1 pc = .ok (.istore_n k9, 1)) (hi : (k9 : Nat) = i) (hn : i < M.2.2.1) (hok : am_ok1 ls i = true) (hl : i < ls.length) (hs : ls.set i (some (am_I x)) = ls') (k : am_W l M R post (pc + 1) ls' st kd rv iv cu su) : am_W l M R post pc ls (am_I x :: st) kd rv iv cu su := by
  intro p e s m args below meth c D A ad0 kd0 H locs lsA ad C Rr
  have hL := Rr.2.2.2.2.2.2
  subst hs
  refine lv_istore_n C.1 C.2.1 hd hi Rr.2.2.2.2.1.has hn rfl (fun ls9 h9 => ?_)
  exact k p e s m args below meth c D A ad0 kd0 H locs ls9 ad C (Rr.loc (am_L.put1 (lsA := lsA) hok hl h9) (am_setl Rr.2.2.2.2.2.1 (hL _ List.mem_cons_self)) (am_l1 hL))
theorem A_astore {i : Nat} {n : am_N} {ls' : List (Option am_V)} (hd : decode M.2.1 pc = .ok (.astore i, 2)) (hn : i < M.2.2.1) (hok : am_ok1 ls i = true) (hl : i < ls.length) (hs : ls.set i (some (am_P n)) = ls') (k : am_W l M R post (pc + 2) ls' st kd rv iv cu su) : am_W l M R post pc ls (am_P n :: st) kd rv iv cu su := by
  intro p e s m args below meth c D A ad0 kd0 H locs lsA ad C Rr
  have hL := Rr.2.2.2.2.2.2
  subst hs
  refine lv_astore C.1 C.2.1 hd Rr.2.2.2.2.1.has hn rfl (fun ls9 h9 => ?_)
  exact k p e s m args below meth c D A ad0 kd0 H locs ls9 ad C (Rr.loc (am_L.put1 (lsA := lsA) hok hl h9) (am_setl Rr.2.2.2.2.2.1 (hL _ List.mem_cons_self)) (am_l1 hL))
theorem A_astore_n {i : Nat} {k9 : Fin 4} {n : am_N} {ls' : List (Option am_V)} (hd : decode M.2.1 pc = .ok (.astore_n k9, 1)) (hi : (k9 : Nat) = i) (hn : i < M.2.2.1) (hok : am_ok1 ls i = true) (hl : i < ls.length) (hs : ls.set i (some (am_P n)) = ls') (k : am_W l M R post (pc + 1) ls' st kd rv iv cu su) : am_W l M R post pc ls (am_P n :: st) kd rv iv cu su := by
  intro p e s m args below meth c D A ad0 kd0 H locs lsA ad C Rr
  have hL := Rr.2.2.2.2.2.2
  subst hs
  refine lv_astore_n C.1 C.2.1 hd hi Rr.2.2.2.2.1.has hn rfl (fun ls9 h9 => ?_)
  exact k p e s m args below meth c D A ad0 kd0 H locs ls9 ad C (Rr.loc (am_L.put1 (lsA := lsA) hok hl h9) (am_setl Rr.2.2.2.2.2.1 (hL _ List.mem_cons_self)) (am_l1 hL))
theorem A_astore0 {i : Nat}  {ls' : List (Option am_V)} (hd : decode M.2.1 pc = .ok (.astore i, 2)) (hn : i < M.2.2.1) (hok : am_ok1 ls i = true) (hl : i < ls.length) (hs : ls.set i (some (am_0)) = ls') (k : am_W l M R post (pc + 2) ls' st kd rv iv cu su) : am_W l M R post pc ls (am_0 :: st) kd rv iv cu su := by
  intro p e s m args below meth c D A ad0 kd0 H locs lsA ad C Rr
  have hL := Rr.2.2.2.2.2.2
  subst hs
  refine lv_astoreN C.1 C.2.1 hd Rr.2.2.2.2.1.has hn rfl (fun ls9 h9 => ?_)
  exact k p e s m args below meth c D A ad0 kd0 H locs ls9 ad C (Rr.loc (am_L.put1 (lsA := lsA) hok hl h9) (am_setl Rr.2.2.2.2.2.1 (hL _ List.mem_cons_self)) (am_l1 hL))
theorem A_astore0_n {i : Nat} {k9 : Fin 4}  {ls' : List (Option am_V)} (hd : decode M.2.1 pc = .ok (.astore_n k9, 1)) (hi : (k9 : Nat) = i) (hn : i < M.2.2.1) (hok : am_ok1 ls i = true) (hl : i < ls.length) (hs : ls.set i (some (am_0)) = ls') (k : am_W l M R post (pc + 1) ls' st kd rv iv cu su) : am_W l M R post pc ls (am_0 :: st) kd rv iv cu su := by
  intro p e s m args below meth c D A ad0 kd0 H locs lsA ad C Rr
  have hL := Rr.2.2.2.2.2.2
  subst hs
  refine lv_astore_nN C.1 C.2.1 hd hi Rr.2.2.2.2.1.has hn rfl (fun ls9 h9 => ?_)
  exact k p e s m args below meth c D A ad0 kd0 H locs ls9 ad C (Rr.loc (am_L.put1 (lsA := lsA) hok hl h9) (am_setl Rr.2.2.2.2.2.1 (hL _ List.mem_cons_self)) (am_l1 hL))
theorem A_lstore {i : Nat} {x : Int64} {ls' : List (Option am_V)} (hd : decode M.2.1 pc = .ok (.lstore i, 2)) (hn : i + 1 < M.2.2.1) (hok : am_ok1 ls i = true) (hl : i < ls.length) (hs : (ls.set i (some (am_J x))).set (i + 1) none = ls') (k : am_W l M R post (pc + 2) ls' st kd rv iv cu su) : am_W l M R post pc ls (am_J x :: st) kd rv iv cu su := by
  intro p e s m args below meth c D A ad0 kd0 H locs lsA ad C Rr
  have hL := Rr.2.2.2.2.2.2
  subst hs
  refine lv_lstore C.1 C.2.1 hd Rr.2.2.2.2.1.has hn rfl (fun ls9 h9 => ?_)
  exact k p e s m args below meth c D A ad0 kd0 H locs ls9 ad C (Rr.loc (am_L.put2 hok hl h9) (am_setn (am_setl Rr.2.2.2.2.2.1 (hL _ List.mem_cons_self))) (am_l1 hL))
theorem A_lstore_n {i : Nat} {k9 : Fin 4} {x : Int64} {ls' : List (Option am_V)} (hd : decode M.2.1 pc = .ok (.lstore_n k9, 1)) (hi : (k9 : Nat) = i) (hn : i + 1 < M.2.2.1) (hok : am_ok1 ls i = true) (hl : i < ls.length) (hs : (ls.set i (some (am_J x))).set (i + 1) none = ls') (k : am_W l M R post (pc + 1) ls' st kd rv iv cu su) : am_W l M R post pc ls (am_J x :: st) kd rv iv cu su := by
  intro p e s m args below meth c D A ad0 kd0 H locs lsA ad C Rr
  have hL := Rr.2.2.2.2.2.2
  subst hs
  refine lv_lstore_n C.1 C.2.1 hd hi Rr.2.2.2.2.1.has hn rfl (fun ls9 h9 => ?_)
  exact k p e s m args below meth c D A ad0 kd0 H locs ls9 ad C (Rr.loc (am_L.put2 hok hl h9) (am_setn (am_setl Rr.2.2.2.2.2.1 (hL _ List.mem_cons_self))) (am_l1 hL))
theorem A_iinc {i : Nat} {n : Int} {x : Int32} (v : Int32) {ls' : List (Option am_V)} (hd : decode M.2.1 pc = .ok (.iinc i n, 3)) (hx : ls[i]? = some (some (am_I x))) (hv : x + Int32.ofInt n = v) (hn : i < M.2.2.1) (hok : am_ok1 ls i = true) (hs : ls.set i (some (am_I v)) = ls') (k : am_W l M R post (pc + 3) ls' st kd rv iv cu su) : am_W l M R post pc ls st kd rv iv cu su := by
  intro p e s m args below meth c D A ad0 kd0 H locs lsA ad C Rr
  have hL := Rr.2.2.2.2.2.2
  subst hs
  have hm : (i, Value.int x) ∈ am_al ad ls := am_al_mem.mpr ⟨am_I x, hx, rfl⟩
  obtain ⟨k0, hk0⟩ := List.getElem?_of_mem hm
  refine lv_iinc C.1 C.2.1 hd Rr.2.2.2.2.1.has hk0 hv hn rfl (fun ls9 h9 => ?_)
  exact k p e s m args below meth c D A ad0 kd0 H locs ls9 ad C (Rr.loc (am_L.put1 (lsA := lsA) (v := am_I v) hok (List.getElem?_eq_some_iff.mp hx).1 h9) (am_setl Rr.2.2.2.2.2.1 trivial) hL)
end AR
end
section
/-! the classes' words in the tables, by their places -/
theorem am_u0 : ∀ w ∈ u_ws RX0 TX0 3, w ∈ am_T := by
  have e : u_ws RX0 TX0 3 = ([394, 395, 396] : List Nat).filterMap (fun i => lw_tbl[i]?) := by decide +kernel
  have g : (u_ws RX0 TX0 3).all goodWord = true := by decide +kernel
  intro w hw
  refine List.mem_filter.mpr ⟨?_, List.all_eq_true.mp g w hw⟩
  rw [e] at hw
  obtain ⟨i, -, hi⟩ := List.mem_filterMap.mp hw
  exact List.mem_of_getElem? hi
theorem am_u1 : ∀ w ∈ u_ws RX1 TX1 3, w ∈ am_T := by
  have e : u_ws RX1 TX1 3 = ([384, 385, 386] : List Nat).filterMap (fun i => lw_tbl[i]?) := by decide +kernel
  have g : (u_ws RX1 TX1 3).all goodWord = true := by decide +kernel
  intro w hw
  refine List.mem_filter.mpr ⟨?_, List.all_eq_true.mp g w hw⟩
  rw [e] at hw
  obtain ⟨i, -, hi⟩ := List.mem_filterMap.mp hw
  exact List.mem_of_getElem? hi
theorem am_u2 : ∀ w ∈ u_ws RX2 TX2 3, w ∈ am_T := by
  have e : u_ws RX2 TX2 3 = ([431, 432, 433] : List Nat).filterMap (fun i => lw_tbl[i]?) := by decide +kernel
  have g : (u_ws RX2 TX2 3).all goodWord = true := by decide +kernel
  intro w hw
  refine List.mem_filter.mpr ⟨?_, List.all_eq_true.mp g w hw⟩
  rw [e] at hw
  obtain ⟨i, -, hi⟩ := List.mem_filterMap.mp hw
  exact List.mem_of_getElem? hi
theorem am_u3 : ∀ w ∈ u_ws RX3 TX3 8, w ∈ am_T := by
  have e : u_ws RX3 TX3 8 = ([126, 128, 130, 132, 134, 136, 138, 140] : List Nat).filterMap (fun i => lw_tbl[i]?) := by decide +kernel
  have g : (u_ws RX3 TX3 8).all goodWord = true := by decide +kernel
  intro w hw
  refine List.mem_filter.mpr ⟨?_, List.all_eq_true.mp g w hw⟩
  rw [e] at hw
  obtain ⟨i, -, hi⟩ := List.mem_filterMap.mp hw
  exact List.mem_of_getElem? hi
theorem am_u4 : ∀ w ∈ u_ws RX4 TX4 13, w ∈ am_T := by
  have e : u_ws RX4 TX4 13 = ([223, 225, 227, 229, 231, 233, 235, 237, 239, 241, 243, 245, 247] : List Nat).filterMap (fun i => lw_tbl[i]?) := by decide +kernel
  have g : (u_ws RX4 TX4 13).all goodWord = true := by decide +kernel
  intro w hw
  refine List.mem_filter.mpr ⟨?_, List.all_eq_true.mp g w hw⟩
  rw [e] at hw
  obtain ⟨i, -, hi⟩ := List.mem_filterMap.mp hw
  exact List.mem_of_getElem? hi
theorem am_u5 : ∀ w ∈ u_ws RX5 TX5 3, w ∈ am_T := by
  have e : u_ws RX5 TX5 3 = ([191, 193, 195] : List Nat).filterMap (fun i => lw_tbl[i]?) := by decide +kernel
  have g : (u_ws RX5 TX5 3).all goodWord = true := by decide +kernel
  intro w hw
  refine List.mem_filter.mpr ⟨?_, List.all_eq_true.mp g w hw⟩
  rw [e] at hw
  obtain ⟨i, -, hi⟩ := List.mem_filterMap.mp hw
  exact List.mem_of_getElem? hi
theorem am_u6 : ∀ w ∈ u_ws RX6 TX6 3, w ∈ am_T := by
  have e : u_ws RX6 TX6 3 = ([424, 425, 426] : List Nat).filterMap (fun i => lw_tbl[i]?) := by decide +kernel
  have g : (u_ws RX6 TX6 3).all goodWord = true := by decide +kernel
  intro w hw
  refine List.mem_filter.mpr ⟨?_, List.all_eq_true.mp g w hw⟩
  rw [e] at hw
  obtain ⟨i, -, hi⟩ := List.mem_filterMap.mp hw
  exact List.mem_of_getElem? hi
theorem am_u7 : ∀ w ∈ u_ws RX7 TX7 7, w ∈ am_T := by
  have e : u_ws RX7 TX7 7 = ([161, 163, 165, 167, 169, 171, 173] : List Nat).filterMap (fun i => lw_tbl[i]?) := by decide +kernel
  have g : (u_ws RX7 TX7 7).all goodWord = true := by decide +kernel
  intro w hw
  refine List.mem_filter.mpr ⟨?_, List.all_eq_true.mp g w hw⟩
  rw [e] at hw
  obtain ⟨i, -, hi⟩ := List.mem_filterMap.mp hw
  exact List.mem_of_getElem? hi
theorem am_u8 : ∀ w ∈ u_ws RX8 TX8 3, w ∈ am_T := by
  have e : u_ws RX8 TX8 3 = ([371, 373, 375] : List Nat).filterMap (fun i => lw_tbl[i]?) := by decide +kernel
  have g : (u_ws RX8 TX8 3).all goodWord = true := by decide +kernel
  intro w hw
  refine List.mem_filter.mpr ⟨?_, List.all_eq_true.mp g w hw⟩
  rw [e] at hw
  obtain ⟨i, -, hi⟩ := List.mem_filterMap.mp hw
  exact List.mem_of_getElem? hi
theorem am_u9 : ∀ w ∈ u_ws RX9 TX9 3, w ∈ am_T := by
  have e : u_ws RX9 TX9 3 = ([404, 405, 406] : List Nat).filterMap (fun i => lw_tbl[i]?) := by decide +kernel
  have g : (u_ws RX9 TX9 3).all goodWord = true := by decide +kernel
  intro w hw
  refine List.mem_filter.mpr ⟨?_, List.all_eq_true.mp g w hw⟩
  rw [e] at hw
  obtain ⟨i, -, hi⟩ := List.mem_filterMap.mp hw
  exact List.mem_of_getElem? hi
theorem am_u10 : ∀ w ∈ u_ws RX10 TX10 3, w ∈ am_T := by
  have e : u_ws RX10 TX10 3 = ([414, 415, 416] : List Nat).filterMap (fun i => lw_tbl[i]?) := by decide +kernel
  have g : (u_ws RX10 TX10 3).all goodWord = true := by decide +kernel
  intro w hw
  refine List.mem_filter.mpr ⟨?_, List.all_eq_true.mp g w hw⟩
  rw [e] at hw
  obtain ⟨i, -, hi⟩ := List.mem_filterMap.mp hw
  exact List.mem_of_getElem? hi
theorem am_u11 : ∀ w ∈ u_ws RX11 TX11 9, w ∈ am_T := by
  have e : u_ws RX11 TX11 9 = ([264, 266, 268, 270, 272, 274, 276, 278, 280] : List Nat).filterMap (fun i => lw_tbl[i]?) := by decide +kernel
  have g : (u_ws RX11 TX11 9).all goodWord = true := by decide +kernel
  intro w hw
  refine List.mem_filter.mpr ⟨?_, List.all_eq_true.mp g w hw⟩
  rw [e] at hw
  obtain ⟨i, -, hi⟩ := List.mem_filterMap.mp hw
  exact List.mem_of_getElem? hi
theorem am_u12 : ∀ w ∈ u_ws RX12 TX12 21, w ∈ am_T := by
  have e : u_ws RX12 TX12 21 = ([1134, 1136, 1138, 1140, 1142, 1144, 1146, 1148, 1150, 1152, 1154, 1156, 1158, 1160, 1162, 1164, 1166, 1168, 1170, 1172, 1174] : List Nat).filterMap (fun i => lw_tbl[i]?) := by decide +kernel
  have g : (u_ws RX12 TX12 21).all goodWord = true := by decide +kernel
  intro w hw
  refine List.mem_filter.mpr ⟨?_, List.all_eq_true.mp g w hw⟩
  rw [e] at hw
  obtain ⟨i, -, hi⟩ := List.mem_filterMap.mp hw
  exact List.mem_of_getElem? hi
def am_okty (t : FieldType) : Bool := match t with
  | .int => true | .boolean => true | .object _ => true | .array _ => true | _ => false
def am_cls (ci : Nat) (r : vw_C) : Prop := (∀ w ∈ u_ws r.1 r.2.1 r.2.2, w ∈ am_T) ∧ (∀ k, k < r.2.2 → parseFieldDescriptor (r.2.1 k).2.2.1 = some (am_fty ci k)) ∧ (∀ a, a < r.2.2 → ∀ b, b < r.2.2 → a ≠ b → (r.2.1 a).2.1 ≠ (r.2.1 b).2.1) ∧ ∀ k, k < r.2.2 → am_okty (am_fty ci k) = true
theorem am_cls_ok : ∀ (ci : Nat) (r : vw_C), vwCl[ci]? = some r → am_cls ci r := by
  intro ci r h
  match ci, h with
  | 0, h => cases h; exact ⟨am_u0, tyX0_ok, nmX0, by decide +kernel⟩
  | 1, h => cases h; exact ⟨am_u1, tyX1_ok, nmX1, by decide +kernel⟩
  | 2, h => cases h; exact ⟨am_u2, tyX2_ok, nmX2, by decide +kernel⟩
  | 3, h => cases h; exact ⟨am_u3, tyX3_ok, nmX3, by decide +kernel⟩
  | 4, h => cases h; exact ⟨am_u4, tyX4_ok, nmX4, by decide +kernel⟩
  | 5, h => cases h; exact ⟨am_u5, tyX5_ok, nmX5, by decide +kernel⟩
  | 6, h => cases h; exact ⟨am_u6, tyX6_ok, nmX6, by decide +kernel⟩
  | 7, h => cases h; exact ⟨am_u7, tyX7_ok, nmX7, by decide +kernel⟩
  | 8, h => cases h; exact ⟨am_u8, tyX8_ok, nmX8, by decide +kernel⟩
  | 9, h => cases h; exact ⟨am_u9, tyX9_ok, nmX9, by decide +kernel⟩
  | 10, h => cases h; exact ⟨am_u10, tyX10_ok, nmX10, by decide +kernel⟩
  | 11, h => cases h; exact ⟨am_u11, tyX11_ok, nmX11, by decide +kernel⟩
  | 12, h => cases h; exact ⟨am_u12, tyX12_ok, nmX12, by decide +kernel⟩
  | n + 13, h => simp [vwCl] at h
/-- a field by a place of a class's pool: class number ci, slot k -/
def am_Fl (own : String) (idx ci k : Nat) : Prop := ∃ (r : vw_C) (ref : String), vwCl[ci]? = some r ∧ k < r.2.2 ∧ Cond.fieldLink own idx ref (r.2.1 k).2.1 (r.2.1 k).2.2.1 ∈ am_T ∧ (ref = (r.2.1 k).1 ∨ Cond.sameField ref (r.2.1 k).1 (r.2.1 k).2.1 (r.2.1 k).2.2.1 ∈ am_T)
def am_ui (iv : am_iv) (n : am_N) (k : Nat) (v : Int32) : am_iv := fun n' k' => if n' = n ∧ k' = k then v else iv n' k'
def am_ur (rv : am_rv) (n : am_N) (k : Nat) (o : Option am_N) : am_rv := fun n' k' => if n' = n ∧ k' = k then o else rv n' k'
def am_uk (kd : am_kd) (n : am_N) (K : am_K) : am_kd := fun n' => if n' = n then some K else kd n'
theorem am_ui_s (iv : am_iv) (n : am_N) (k : Nat) (v : Int32) : am_ui iv n k v n k = v := by simp [am_ui]
theorem am_ui_n {iv : am_iv} {n n' : am_N} {k k' : Nat} {v : Int32} (h : ¬ (n' = n ∧ k' = k)) : am_ui iv n k v n' k' = iv n' k' := by simp [am_ui, h]
theorem am_at.to {D : am_D} {ad : am_N → Nat} {rv rv' : am_rv} {iv iv' : am_iv} {n : am_N} {K : am_K} {H H' : Heap} (h : am_at D ad rv iv n K H) (hH : ¬ am_op K → H'[ad n]? = H[ad n]?) (hr : ∀ k, rv' n k = rv n k) (hi : ∀ k, iv' n k = iv n k) : am_at D ad rv' iv' n K H' := by
  have hs : ∀ r k, am_sv ad rv' iv' r n k = am_sv ad rv iv r n k := fun r k => by simp only [am_sv, hr, hi]
  cases K with
  | inl ci =>
    obtain ⟨r, h1, h2⟩ := h
    exact ⟨r, h1, (h2.kept (hH (fun h => h))).to (fun k _ => (hs _ k).symm)⟩
  | inr a =>
    refine ⟨fun h9 => ?_, h.2⟩
    have e : (fun j => am_sv ad rv' iv' (am_isr (am_aty a.1)) n j) = fun j => am_sv ad rv iv (am_isr (am_aty a.1)) n j := funext fun j => hs _ j
    rw [hH (fun h8 => by simp only [am_op] at h8; omega), e]
    exact h.1 h9
theorem am_HR.lt {D : am_D} {ad : am_N → Nat} {kd : am_kd} {rv : am_rv} {iv : am_iv} {H : Heap} (h : am_HR D ad kd rv iv H) {n : am_N} {K : am_K} (hk : kd n = some K) (ho : ¬ am_op K) : ad n < H.size := by
  have h1 := h.1 n K hk
  cases K with
  | inl ci =>
    obtain ⟨r, -, cell, h2, -⟩ := h1
    exact (Array.getElem?_eq_some_iff.mp h2).1
  | inr a => exact (Array.getElem?_eq_some_iff.mp (h1.1 (by simp only [am_op] at ho; omega))).1
/-- one cell changes -/
theorem am_HR.set {D : am_D} {ad : am_N → Nat} {kd : am_kd} {rv rv' : am_rv} {iv iv' : am_iv} {H H' : Heap} (h : am_HR D ad kd rv iv H) {n : am_N} {K : am_K} (hk : kd n = some K) (ho : ¬ am_op K) (oq : ∀ q : Nat, q ≠ ad n → H'[q]? = H[q]?) (hn : am_at D ad rv' iv' n K H') (hr : ∀ n' k, n' ≠ n → rv' n' k = rv n' k) (hi : ∀ n' k, n' ≠ n → iv' n' k = iv n' k) (hl : ∀ k o, rv' n k = some o → kd o ≠ none) : am_HR D ad kd rv' iv' H' := by
  have ht : n.1 < 40 := by
    have := h.2.2.2 n K hk
    rcases Nat.lt_or_ge n.1 40 with h1 | h1
    · exact h1
    · exact absurd (this.mp h1) ho
  refine ⟨fun n' K' hk' => ?_, h.2.1, fun n' k o h1 h2 => ?_, h.2.2.2⟩
  · by_cases hn' : n' = n
    · subst hn'
      rw [hk] at hk'; cases hk'
      exact hn
    · refine (h.1 n' K' hk').to (fun hop => oq _ (fun e => hn' ?_)) (fun k => hr n' k hn') (fun k => hi n' k hn')
      have ht' : n'.1 < 40 := by
        have := h.2.2.2 n' K' hk'
        rcases Nat.lt_or_ge n'.1 40 with h1 | h1
        · exact h1
        · exact absurd (this.mp h1) hop
      exact h.2.1 n' n (by rw [hk']; exact fun h => by cases h) (by rw [hk]; exact fun h => by cases h) ht' ht e
  · by_cases hn' : n' = n
    · subst hn'; exact hl k o h2
    · rw [hr n' k hn'] at h2
      exact h.2.2.1 n' k o h1 h2
theorem am_R.heap {M : am_M} {ls : List (Option am_V)} {st st' : List am_V} {kd : am_kd} {rv rv' : am_rv} {iv iv' : am_iv} {s : State} {D : am_D} {A : Nat → Prop} {ad0 : am_N → Nat} {kd0 : am_kd} {H H' : Heap} {locs locs' : List Loc} {lsA : Array Slot} {ad : am_N → Nat} (h : am_R M s D A ad0 kd0 H locs lsA ad ls st kd rv iv) (hH : am_HR D ad kd rv' iv' H') (hS : va_S A s.heap H' locs') (h' : ∀ v ∈ st', am_lv kd v) : am_R M s D A ad0 kd0 H' locs' lsA ad ls st' kd rv' iv' := ⟨hH, h.2.1, hS, h.2.2.2.1, h.2.2.2.2.1, h.2.2.2.2.2.1, h'⟩
section AH
variable {l : Launch} {M : am_M} {R : Room} {post : am_Post} {pc : Nat} {ls : List (Option am_V)} {st : List am_V} {kd : am_kd} {rv : am_rv} {iv : am_iv} {cu su : Nat}
theorem am_KT {D : am_D} {A : Nat → Prop} {s : State} (h : am_KF D A s) : va_K D.1 vwCl (am_tys D) s := h.1
theorem am_arr {D : am_D} {A : Nat → Prop} {s : State} (h : am_KF D A s) {t : Nat} (ht : t < 5) : ArrOfT s (D.2.1 t) (am_aty t) ∧ va_RA s (D.2.1 t) (am_aty t) := by
  match t, ht with
  | 0, _ => exact h.1.2 0 _ rfl
  | 1, _ => exact h.1.2 1 _ rfl
  | 2, _ => exact h.1.2 2 _ rfl
  | 3, _ => exact h.1.2 3 _ rfl
  | 4, _ => exact h.1.2 4 _ rfl
set_option maxHeartbeats 1000000 in
theorem am_getc {p : Program} {e : Env} {s : State} {m : MethodId} {args : Array Value} {below : List Frame} {meth : Method} {c : Code} {D : am_D} {A : Nat → Prop} {H : Heap} {locs : List Loc} {lsA : Array Slot} {ad : am_N → Nat} {Q : State → Prop} {n : am_N} {ci idx slot : Nat} {rest : List Value} (C : am_C M p s m args meth c D A) (hR : am_HR D ad kd rv iv H) (hf : am_Fl M.1.cls idx ci slot) (hk : kd n = some (.inl ci)) (hd : decode M.2.1 pc = .ok (.getfield idx, 3))
    (kk : W p l e R s m args below meth c H locs cu su Q (F0 m (pc + 3) lsA (am_sv ad rv iv (am_isr (am_fty ci slot)) n slot :: rest))) : W p l e R s m args below meth c H locs cu su Q (F0 m pc lsA (.ref (ad n) :: rest)) := by
  obtain ⟨r, ref, hr, hsl, hlink, hsame⟩ := hf
  obtain ⟨h1, h2, -⟩ := am_cls_ok ci r hr
  obtain ⟨r', hr', hob⟩ := hR.1 n _ hk
  cases hr.symm.trans hr'
  have hts : ∀ w ∈ am_T, w.before args s = true := fun w hw => C.2.2.2.2.2.1 w (List.mem_cons_of_mem _ hw)
  have hP : va_P D.1 vwCl [(ad n, .inr (ci, (List.range r.2.2).map (fun k => am_sv ad rv iv (am_isr (am_fty ci k)) n k)))] H := by
    intro k q hq
    match k, hq with
    | 0, hq =>
      cases hq
      refine ⟨r, hr, hob.to (fun k hk => ?_)⟩
      simp [vp_V, List.getD, hk]
    | k + 1, hq => simp at hq
  refine va_get (C := r.1) (T := r.2.1) (N := r.2.2) (v := am_sv ad rv iv (am_isr (am_fty ci slot)) n slot) C.1 C.2.1 hts h1 C.2.2.2.2.1 (am_KT C.2.2.2.2.2.2.2.2.1) hP 0 rfl hr slot hsl (hts _ hlink) (fun x hx => ?_) ?_ hd kk
  · rcases hsame with h | h
    · rw [h]; exact hx
    · exact u_same (hts _ h) x hx
  · simp [hsl]
theorem A_geti {n : am_N} {ci idx : Nat} (slot : Nat) (hf : am_Fl M.1.cls idx ci slot) (hk : kd n = some (.inl ci)) (ht : am_isr (am_fty ci slot) = false) (hd : decode M.2.1 pc = .ok (.getfield idx, 3)) (k : am_W l M R post (pc + 3) ls (am_I (iv n slot) :: st) kd rv iv cu su) : am_W l M R post pc ls (am_P n :: st) kd rv iv cu su := by
  intro p e s m args below meth c D A ad0 kd0 H locs lsA ad C Rr
  have hL := Rr.2.2.2.2.2.2
  refine am_getc C Rr.1 hf hk hd ?_
  have h := k p e s m args below meth c D A ad0 kd0 H locs lsA ad C (Rr.stk (am_l0 (am_l1 hL)))
  simp only [am_sv, ht]
  exact h
theorem A_getr {n : am_N} {ci idx : Nat} (slot : Nat) {o : am_N} (hf : am_Fl M.1.cls idx ci slot) (hk : kd n = some (.inl ci)) (ht : am_isr (am_fty ci slot) = true) (hr : rv n slot = some o) (hd : decode M.2.1 pc = .ok (.getfield idx, 3)) (k : am_W l M R post (pc + 3) ls (am_P o :: st) kd rv iv cu su) : am_W l M R post pc ls (am_P n :: st) kd rv iv cu su := by
  intro p e s m args below meth c D A ad0 kd0 H locs lsA ad C Rr
  have hL := Rr.2.2.2.2.2.2
  refine am_getc C Rr.1 hf hk hd ?_
  have h := k p e s m args below meth c D A ad0 kd0 H locs lsA ad C (Rr.stk (am_lc (Rr.1.2.2.1 n slot o (by rw [hk]; exact fun h => by cases h) hr) (am_l1 hL)))
  simp only [am_sv, ht, hr]
  exact h
set_option maxHeartbeats 1000000 in
/-- a field is written: not a final one, or in a constructor of its own class -/
theorem am_putc {p : Program} {e : Env} {s : State} {m : MethodId} {args : Array Value} {below : List Frame} {meth : Method} {c : Code} {D : am_D} {A : Nat → Prop} {H : Heap} {locs : List Loc} {lsA : Array Slot} {ad : am_N → Nat} {Q : State → Prop} {n : am_N} {ci idx slot : Nat} {rest : List Value} {v : Value} (rv' : am_rv) (iv' : am_iv) (C : am_C M p s m args meth c D A) (hR : am_HR D ad kd rv iv H) (hA : ∀ n, kd n ≠ none → n.1 < 40 → A (ad n)) (hS0 : va_S A s.heap H locs) (hf : am_Fl M.1.cls idx ci slot) (hk : kd n = some (.inl ci)) (hfin : ∀ r, vwCl[ci]? = some r → (r.2.1 slot).2.2.2 = false ∨ (M.1.name = "<init>" ∧ (r.2.1 slot).1 = M.1.cls)) (hnar : narrow (am_fty ci slot) v = v) (hfit : fits (am_fty ci slot) v = true) (hd : decode M.2.1 pc = .ok (.putfield idx, 3))
    (hsv : ∀ j, am_sv ad rv' iv' (am_isr (am_fty ci j)) n j = updV (fun j => am_sv ad rv iv (am_isr (am_fty ci j)) n j) slot v j) (hr' : ∀ n' k, n' ≠ n → rv' n' k = rv n' k) (hi' : ∀ n' k, n' ≠ n → iv' n' k = iv n' k) (hl : ∀ k o, rv' n k = some o → kd o ≠ none)
    (kk : ∀ H' locs', am_HR D ad kd rv' iv' H' → va_S A s.heap H' locs' → W p l e R s m args below meth c H' locs' cu su Q (F0 m (pc + 3) lsA rest)) : W p l e R s m args below meth c H locs cu su Q (F0 m pc lsA (v :: .ref (ad n) :: rest)) := by
  obtain ⟨r, ref, hr, hsl, hlink, hsame⟩ := hf
  obtain ⟨h1, h2, h3, -⟩ := am_cls_ok ci r hr
  obtain ⟨r', hr9, cell, q1, q2, q3, q4⟩ := hR.1 n _ hk
  cases hr.symm.trans hr9
  have hts : ∀ w ∈ am_T, w.before args s = true := fun w hw => C.2.2.2.2.2.1 w (List.mem_cons_of_mem _ hw)
  have hK := am_KT C.2.2.2.2.2.2.2.2.1
  have hap := va_apart (own := M.1.cls) (C := r.1) (T := r.2.1) (N := r.2.2) hts h1 (am_fty ci) h2 h3 hK hr
  obtain ⟨hS, hfc, kC, hkC, hkind⟩ := hK.1 ci _ hr
  obtain ⟨cf, kf, fi, f, hi, hsf⟩ := hS slot hsl
  have hsm : s.fieldFound? ref (r.2.1 slot).2.1 (r.2.1 slot).2.2.1 = some (cf, kf, fi, f) := by
    rcases hsame with h | h
    · rw [h]; exact hi
    · exact u_same (hts _ h) _ hi
  have hlay := hts _ (h1 _ (u_in_lay hsl))
  have hst := (u_facts hfc hkC (u_lays hts h1 hsl) hi).1
  have hne : ¬ am_op (.inl ci : am_K) := fun h => h
  have ht : n.1 < 40 := by
    have := hR.2.2.2 n _ hk
    rcases Nat.lt_or_ge n.1 40 with h1 | h1
    · exact h1
    · exact absurd (this.mp h1) hne
  have hAn : A (ad n) := hA n (by rw [hk]; exact fun h => by cases h) ht
  have fin : ∀ H' : Heap, H'[ad n]? = some (cell.setSlot (D.1.2 ci slot) v) → H'.size = H.size → (∀ q, q ≠ ad n → H'[q]? = H[q]?) → W p l e R s m args below meth c H' (locs ++ [⟨ad n, D.1.2 ci slot⟩]) cu su Q (F0 m (pc + 3) lsA rest) := by
    intro H' e1 e2 e3
    refine kk H' _ (hR.set hk hne e3 ⟨r, hr, ?_⟩ hr' hi' hl) (hS0.put e2 e3 hAn)
    exact t_OB.to (V := updV (fun j => am_sv ad rv iv (am_isr (am_fty ci j)) n j) slot v) ⟨_, e1, q2, q3, t_set q4 hap hsl v⟩ (fun j _ => (hsv j).symm)
  unfold u_lay at hlay
  rcases hfin r hr with hfn | ⟨hnm, hdc⟩
  · rw [if_neg (by rw [hfn]; decide)] at hlay
    have h6 := u_store hfc hkC hkind hlay hi (h2 slot hsl) hnar hfit
    refine W.putK C.1 C.2.1 (f := f) ⟨C.2.2.2.2.1, hts _ hlink, ⟨_, _, _, hsm⟩, hst⟩ (by rw [q2]; exact h6) q1 q3 (by rw [hsf]; exact k2_hasslot (q4 slot hsl)) rfl rfl hd fun H' e1 e2 e3 => ?_
    rw [hsf] at e1 ⊢
    exact fin H' e1 e2 e3
  · by_cases hfn : (r.2.1 slot).2.2.2 = true
    · rw [if_pos hfn] at hlay
      have hcf : m.cls = cf := by
        obtain ⟨_, _, c', _, _, _, -, -, hf', -, -, -, hown2, -⟩ := Cond.laysFinal_spec hlay
        have e1 : c' = cf := by have := hi.symm.trans hf'; simp at this; exact this.1.symm
        rw [hdc] at hown2
        rw [← e1]; exact Option.some.inj (C.2.2.2.2.1.symm.trans hown2)
      have h6 := u_fits hfc hkC hkind (Or.inr hlay) hi (h2 slot hsl) hnar hfit
      refine W.putFinK C.1 C.2.1 C.2.2.2.2.1 (hts _ hlink) hsm hst hcf (by rw [C.2.2.2.2.2.2.2.1]; exact hnm) (by rw [q2]; exact h6) q1 q3 (by rw [hsf]; exact k2_hasslot (q4 slot hsl)) rfl rfl hd fun H' e1 e2 e3 => ?_
      rw [hsf] at e1 ⊢
      exact fin H' e1 e2 e3
    · rw [if_neg hfn] at hlay
      have h6 := u_store hfc hkC hkind hlay hi (h2 slot hsl) hnar hfit
      refine W.putK C.1 C.2.1 (f := f) ⟨C.2.2.2.2.1, hts _ hlink, ⟨_, _, _, hsm⟩, hst⟩ (by rw [q2]; exact h6) q1 q3 (by rw [hsf]; exact k2_hasslot (q4 slot hsl)) rfl rfl hd fun H' e1 e2 e3 => ?_
      rw [hsf] at e1 ⊢
      exact fin H' e1 e2 e3
def am_fin (M : am_M) (ci slot : Nat) : Bool := match vwCl[ci]? with
  | some r => !(r.2.1 slot).2.2.2 || (decide (M.1.name = "<init>") && decide ((r.2.1 slot).1 = M.1.cls))
  | none => true
theorem am_fin_ok {M : am_M} {ci slot : Nat} (h : am_fin M ci slot = true) : ∀ r, vwCl[ci]? = some r → (r.2.1 slot).2.2.2 = false ∨ (M.1.name = "<init>" ∧ (r.2.1 slot).1 = M.1.cls) := by
  intro r hr
  simp only [am_fin, hr, Bool.or_eq_true, Bool.not_eq_true', Bool.and_eq_true, decide_eq_true_eq] at h
  exact h
theorem A_puti {n : am_N} {ci idx : Nat} (slot : Nat) {v : Int32} (hf : am_Fl M.1.cls idx ci slot) (hk : kd n = some (.inl ci)) (ht : am_isr (am_fty ci slot) = false) (hfin : am_fin M ci slot = true) (hnar : narrow (am_fty ci slot) (.int v) = .int v) (hfit : fits (am_fty ci slot) (.int v) = true) (hd : decode M.2.1 pc = .ok (.putfield idx, 3)) (k : am_W l M R post (pc + 3) ls st kd rv (am_ui iv n slot v) cu su) : am_W l M R post pc ls (am_I v :: am_P n :: st) kd rv iv cu su := by
  intro p e s m args below meth c D A ad0 kd0 H locs lsA ad C Rr
  have hL := Rr.2.2.2.2.2.2
  refine am_putc rv (am_ui iv n slot v) C Rr.1 Rr.2.1 Rr.2.2.1 hf hk (am_fin_ok hfin) hnar hfit hd (fun j => ?_) (fun _ _ _ => rfl) (fun n' k hn => by simp [am_ui, hn]) (fun k o h => Rr.1.2.2.1 n k o (by rw [hk]; exact fun h => by cases h) h) (fun H' locs' hH hS => k p e s m args below meth c D A ad0 kd0 H' locs' lsA ad C (Rr.heap hH hS (am_l1 (am_l1 hL))))
  by_cases hj : j = slot
  · subst hj; simp [updV, am_sv, ht, am_ui, am_cv]
  · simp [updV, am_sv, hj, am_ui]
theorem A_putr {n o : am_N} {ci idx : Nat} (slot : Nat) (hf : am_Fl M.1.cls idx ci slot) (hk : kd n = some (.inl ci)) (ht : am_isr (am_fty ci slot) = true) (hfin : am_fin M ci slot = true) (hd : decode M.2.1 pc = .ok (.putfield idx, 3)) (k : am_W l M R post (pc + 3) ls st kd (am_ur rv n slot (some o)) iv cu su) : am_W l M R post pc ls (am_P o :: am_P n :: st) kd rv iv cu su := by
  intro p e s m args below meth c D A ad0 kd0 H locs lsA ad C Rr
  have hL := Rr.2.2.2.2.2.2
  have ho : kd o ≠ none := hL (am_P o) List.mem_cons_self
  refine am_putc (am_ur rv n slot (some o)) iv C Rr.1 Rr.2.1 Rr.2.2.1 hf hk (am_fin_ok hfin) ?_ ?_ hd (fun j => ?_) (fun n' k hn => by simp [am_ur, hn]) (fun _ _ _ => rfl) (fun k o' h => ?_) (fun H' locs' hH hS => k p e s m args below meth c D A ad0 kd0 H' locs' lsA ad C (Rr.heap hH hS (am_l1 (am_l1 hL))))
  · revert ht; cases am_fty ci slot <;> intro ht <;> first | rfl | cases ht
  · revert ht; cases am_fty ci slot <;> intro ht <;> first | rfl | cases ht
  · by_cases hj : j = slot
    · subst hj; simp [updV, am_sv, ht, am_ur, va_rf, am_cv]
    · simp [updV, am_sv, hj, am_ur]
  · by_cases hj : k = slot
    · subst hj; simp [am_ur] at h; subst h; exact ho
    · simp [am_ur, hj] at h
      exact Rr.1.2.2.1 n k o' (by rw [hk]; exact fun h => by cases h) h
/-- arrays -/
theorem A_iald {n : am_N} {z : Nat} {i : Int32} (hk : kd n = some (.inr (0, z))) (hin : vp_in i z) (hd : decode M.2.1 pc = .ok (.iaload, 1)) (k : am_W l M R post (pc + 1) ls (am_I (iv n i.toNatClampNeg) :: st) kd rv iv cu su) : am_W l M R post pc ls (am_I i :: am_P n :: st) kd rv iv cu su := by
  intro p e s m args below meth c D A ad0 kd0 H locs lsA ad C Rr
  have hL := Rr.2.2.2.2.2.2
  have hlt : i.toNatClampNeg < z := Nat.not_le.mp fun q => hin (Or.inr q)
  exact W.iald (v := .int (iv n i.toNatClampNeg)) C.1 C.2.1 ((Rr.1.1 n _ hk).1 (show (0 : Nat) < 5 by decide)) ((am_arr C.2.2.2.2.2.2.2.2.1 (t := 0) (by decide)).1 z _) (fun q => by cases q) (by rw [arrV_size]; exact hin) (by rw [arrV_read _ _ hlt]; rfl) rfl rfl hd (k p e s m args below meth c D A ad0 kd0 H locs lsA ad C (Rr.stk (am_l0 (am_l1 (am_l1 hL)))))
theorem A_aald {n o : am_N} {t z : Nat} {i : Int32} (hk : kd n = some (.inr (t, z))) (ht : t < 5) (ht0 : 0 < t) (hin : vp_in i z) (ho : rv n i.toNatClampNeg = some o) (hd : decode M.2.1 pc = .ok (.aaload, 1)) (k : am_W l M R post (pc + 1) ls (am_P o :: st) kd rv iv cu su) : am_W l M R post pc ls (am_I i :: am_P n :: st) kd rv iv cu su := by
  intro p e s m args below meth c D A ad0 kd0 H locs lsA ad C Rr
  have hL := Rr.2.2.2.2.2.2
  have hlt : i.toNatClampNeg < z := Nat.not_le.mp fun q => hin (Or.inr q)
  have hty : (am_aty t).isReference = true ∧ am_isr (am_aty t) = true := by
    match t, ht, ht0 with
    | 1, _, _ => exact ⟨rfl, rfl⟩
    | 2, _, _ => exact ⟨rfl, rfl⟩
    | 3, _, _ => exact ⟨rfl, rfl⟩
    | 4, _, _ => exact ⟨rfl, rfl⟩
  exact W.aald (v := .ref (ad o)) (ty := am_aty t) C.1 C.2.1 ((Rr.1.1 n _ hk).1 ht) ((am_arr C.2.2.2.2.2.2.2.2.1 ht).1 z _) hty.1 (fun q => by cases q) (by rw [arrV_size]; exact hin) (by rw [arrV_read _ _ hlt]; simp [am_sv, hty.2, ho, va_rf]) rfl rfl hd (k p e s m args below meth c D A ad0 kd0 H locs lsA ad C (Rr.stk (am_lc (Rr.1.2.2.1 n _ o (by rw [hk]; exact fun h => by cases h) ho) (am_l1 (am_l1 hL)))))
theorem A_aald0 {n : am_N} {t z : Nat} {i : Int32} (hk : kd n = some (.inr (t, z))) (ht : t < 5) (ht0 : 0 < t) (hin : vp_in i z) (ho : rv n i.toNatClampNeg = none) (hd : decode M.2.1 pc = .ok (.aaload, 1)) (k : am_W l M R post (pc + 1) ls (am_0 :: st) kd rv iv cu su) : am_W l M R post pc ls (am_I i :: am_P n :: st) kd rv iv cu su := by
  intro p e s m args below meth c D A ad0 kd0 H locs lsA ad C Rr
  have hL := Rr.2.2.2.2.2.2
  have hlt : i.toNatClampNeg < z := Nat.not_le.mp fun q => hin (Or.inr q)
  have hty : (am_aty t).isReference = true ∧ am_isr (am_aty t) = true := by
    match t, ht, ht0 with
    | 1, _, _ => exact ⟨rfl, rfl⟩
    | 2, _, _ => exact ⟨rfl, rfl⟩
    | 3, _, _ => exact ⟨rfl, rfl⟩
    | 4, _, _ => exact ⟨rfl, rfl⟩
  exact W.aald (v := .null) (ty := am_aty t) C.1 C.2.1 ((Rr.1.1 n _ hk).1 ht) ((am_arr C.2.2.2.2.2.2.2.2.1 ht).1 z _) hty.1 (fun q => by cases q) (by rw [arrV_size]; exact hin) (by rw [arrV_read _ _ hlt]; simp [am_sv, hty.2, ho, va_rf]) rfl rfl hd (k p e s m args below meth c D A ad0 kd0 H locs lsA ad C (Rr.stk (am_l0 (am_l1 (am_l1 hL)))))
theorem am_tag {D : am_D} {ad : am_N → Nat} {H : Heap} (h : am_HR D ad kd rv iv H) {n : am_N} {K : am_K} (hk : kd n = some K) (ho : ¬ am_op K) : n.1 < 40 := by
  have := h.2.2.2 n K hk
  rcases Nat.lt_or_ge n.1 40 with h1 | h1
  · exact h1
  · exact absurd (this.mp h1) ho
theorem A_iast {n : am_N} {z : Nat} {i x : Int32} (hk : kd n = some (.inr (0, z))) (hin : vp_in i z) (hd : decode M.2.1 pc = .ok (.iastore, 1)) (k : am_W l M R post (pc + 1) ls st kd rv (am_ui iv n i.toNatClampNeg x) cu su) : am_W l M R post pc ls (am_I x :: am_I i :: am_P n :: st) kd rv iv cu su := by
  intro p e s m args below meth c D A ad0 kd0 H locs lsA ad C Rr
  have hL := Rr.2.2.2.2.2.2
  have hne : ¬ am_op (.inr (0, z) : am_K) := by simp [am_op]
  refine W.iast C.1 C.2.1 ((Rr.1.1 n _ hk).1 (show (0 : Nat) < 5 by decide)) ((am_arr C.2.2.2.2.2.2.2.2.1 (t := 0) (by decide)).1 z _) (fun q => by cases q) (by rw [arrV_size]; exact hin) rfl rfl hd fun H1 e1 z1 oq => ?_
  have hat : am_at D ad rv (am_ui iv n i.toNatClampNeg x) n (.inr (0, z)) H1 := by
    refine ⟨fun _ => ?_, ⟨fun h => ?_, fun h => ?_⟩⟩
    · rw [e1, arrV_store]
      congr 2
      funext q
      by_cases hq : q = i.toNatClampNeg
      · subst hq; simp [updV, am_sv, am_ui, am_isr, am_aty]
      · simp [updV, am_sv, am_ui, hq]
    · simp at h
    · simp at h
  exact k p e s m args below meth c D A ad0 kd0 H1 _ lsA ad C (Rr.heap (Rr.1.set hk hne oq hat (fun _ _ _ => rfl) (fun n' k hn => by simp [am_ui, hn]) (fun k o h => Rr.1.2.2.1 n k o (by rw [hk]; exact fun h => by cases h) h)) (Rr.2.2.1.put z1 oq (Rr.2.1 n (by rw [hk]; exact fun h => by cases h) (am_tag Rr.1 hk hne))) (am_l1 (am_l1 (am_l1 hL))))
theorem A_alen {n : am_N} {t z : Nat} (hk : kd n = some (.inr (t, z))) (ht : t < 5) (hd : decode M.2.1 pc = .ok (.arraylength, 1)) (k : am_W l M R post (pc + 1) ls (am_I (nI z) :: st) kd rv iv cu su) : am_W l M R post pc ls (am_P n :: st) kd rv iv cu su := by
  intro p e s m args below meth c D A ad0 kd0 H locs lsA ad C Rr
  have hL := Rr.2.2.2.2.2.2
  exact W.alen (n := nI z) C.1 C.2.1 ((Rr.1.1 n _ hk).1 ht) ((am_arr C.2.2.2.2.2.2.2.2.1 ht).1 z _) (by rw [arrV_size]; rfl) rfl rfl hd (k p e s m args below meth c D A ad0 kd0 H locs lsA ad C (Rr.stk (am_l0 (am_l1 hL))))
end AH
end
section
/-! returns, calls, what makes objects -/
section AC
variable {l : Launch} {M : am_M} {R : Room} {post : am_Post} {pc : Nat} {ls : List (Option am_V)} {st : List am_V} {kd : am_kd} {rv : am_rv} {iv : am_iv} {cu su : Nat}
theorem A_iret {v : Int32} (hd : decode M.2.1 pc = .ok (.ireturn, 1)) (hret : M.2.2.2 = some .int) (hc : cu ≤ R.cells) (hs : su ≤ R.slots) (hp : post (some (am_I v)) kd rv iv) : am_W l M R post pc ls [am_I v] kd rv iv cu su := by
  intro p e s m args below meth c D A ad0 kd0 H locs lsA ad C Rr
  refine W.widen hc hs ?_
  exact W.iret C.1 C.2.1 (C.2.2.1.trans hret) (fun t ht hW => ⟨⟨some (am_I v), kd, rv, iv, ad, rfl, hp, by rw [ht]; exact Rr.1, Rr.2.1, Rr.2.2.2.1, fun w hw => by cases hw; trivial⟩, Rr.2.2.1.F ht⟩) Rr.2.2.1.2.2 hd C.2.2.2.2.2.2.1
theorem A_zret {v : Int32} (hd : decode M.2.1 pc = .ok (.ireturn, 1)) (hret : M.2.2.2 = some .boolean) (hn : narrow .boolean (.int v) = .int v) (hc : cu ≤ R.cells) (hs : su ≤ R.slots) (hp : post (some (am_I v)) kd rv iv) : am_W l M R post pc ls [am_I v] kd rv iv cu su := by
  intro p e s m args below meth c D A ad0 kd0 H locs lsA ad C Rr
  refine W.widen hc hs ?_
  exact W.zret C.1 C.2.1 (C.2.2.1.trans hret) hn (fun t ht hW => ⟨⟨some (am_I v), kd, rv, iv, ad, rfl, hp, by rw [ht]; exact Rr.1, Rr.2.1, Rr.2.2.2.1, fun w hw => by cases hw; trivial⟩, Rr.2.2.1.F ht⟩) Rr.2.2.1.2.2 hd C.2.2.2.2.2.2.1
theorem A_vret (hd : decode M.2.1 pc = .ok (.return_, 1)) (hret : M.2.2.2 = none) (hc : cu ≤ R.cells) (hs : su ≤ R.slots) (hp : post none kd rv iv) : am_W l M R post pc ls [] kd rv iv cu su := by
  intro p e s m args below meth c D A ad0 kd0 H locs lsA ad C Rr
  refine W.widen hc hs ?_
  exact W.vret C.1 C.2.1 (C.2.2.1.trans hret) (fun t ht hW => ⟨⟨none, kd, rv, iv, ad, rfl, hp, by rw [ht]; exact Rr.1, Rr.2.1, Rr.2.2.2.1, fun w hw => by cases hw⟩, Rr.2.2.1.F ht⟩) Rr.2.2.1.2.2 hd C.2.2.2.2.2.2.1
theorem A_aret {o : Option am_N} {C0 : String} (hd : decode M.2.1 pc = .ok (.areturn, 1)) (hret : M.2.2.2 = some (.object C0)) (hc : cu ≤ R.cells) (hs : su ≤ R.slots) (hp : post (some (am_rf o)) kd rv iv) : am_W l M R post pc ls [am_rf o] kd rv iv cu su := by
  intro p e s m args below meth c D A ad0 kd0 H locs lsA ad C Rr
  refine W.widen hc hs ?_
  have hL := Rr.2.2.2.2.2.2
  exact W.aret C.1 C.2.1 (C.2.2.1.trans hret) (Or.inl ⟨_, rfl⟩) (by cases o with | none => exact Or.inl rfl | some n => exact Or.inr ⟨_, rfl⟩) (fun t ht hW => ⟨⟨some (am_rf o), kd, rv, iv, ad, rfl, hp, by rw [ht]; exact Rr.1, Rr.2.1, Rr.2.2.2.1, fun w hw => by cases hw; exact hL _ List.mem_cons_self⟩, Rr.2.2.1.F ht⟩) Rr.2.2.1.2.2 hd C.2.2.2.2.2.2.1
theorem am_good {M M' : am_M} (h : Cond.code M'.1 M'.2.1 M'.2.2.1 M'.2.2.2 ∈ am_T) : GoodIn (am_ws M) (am_ws M') := fun w hw => by
  rcases List.mem_cons.mp hw with h1 | h1
  · subst h1; exact ⟨List.mem_cons_of_mem _ h, good_of_word (List.mem_filter.mp h).2⟩
  · exact ⟨List.mem_cons_of_mem _ h1, good_of_word (List.mem_filter.mp h1).2⟩
def am_wt (st : List am_V) : Nat := (st.map (fun v => if am_c2 v = true then 2 else 1)).sum
theorem am_wt_ok (ad : am_N → Nat) (st : List am_V) : ((st.map (am_cv ad)).map fun v => v.category).sum = am_wt st := by
  unfold am_wt
  rw [List.map_map]
  congr 1
  exact List.map_congr_left (fun v _ => am_c2_cat ad v)
theorem am_cv_eq {ad ad' : am_N → Nat} {kd : am_kd} (h : ∀ n, kd n ≠ none → ad' n = ad n) {v : am_V} (hv : am_lv kd v) : am_cv ad' v = am_cv ad v := by
  cases v with
  | inl n => simp only [am_cv, h n hv]
  | inr v => rfl
theorem am_lv_mono {kd kd' : am_kd} (h : ∀ n, kd n ≠ none → kd' n ≠ none) {v : am_V} (hv : am_lv kd v) : am_lv kd' v := by
  cases v with
  | inl n => exact h n hv
  | inr v => trivial
/-- names get addresses anew: what was alive keeps its own -/
theorem am_R.move {s : State} {D : am_D} {A : Nat → Prop} {ad0 : am_N → Nat} {kd0 : am_kd} {H H' : Heap} {locs locs' : List Loc} {lsA : Array Slot} {ad ad' : am_N → Nat} {kd' : am_kd} {rv' : am_rv} {iv' : am_iv} {st' : List am_V} (h : am_R M s D A ad0 kd0 H locs lsA ad ls st kd rv iv) (hH : am_HR D ad' kd' rv' iv' H') (hA : ∀ n, kd' n ≠ none → n.1 < 40 → A (ad' n)) (hS : va_S A s.heap H' locs') (had : ∀ n, kd n ≠ none → ad' n = ad n ∧ kd' n ≠ none) (hst : ∀ v ∈ st', am_lv kd' v) : am_R M s D A ad0 kd0 H' locs' lsA ad' ls st' kd' rv' iv' := by
  refine ⟨hH, hA, hS, fun n hn => ?_, ⟨h.2.2.2.2.1.1, h.2.2.2.2.1.2.1, fun i v hi => ?_⟩, fun v hv => am_lv_mono (fun n hn => (had n hn).2) (h.2.2.2.2.2.1 v hv), hst⟩
  · have h1 := h.2.2.2.1 n hn
    exact ⟨(had n h1.2).1.trans h1.1, (had n h1.2).2⟩
  · rw [am_cv_eq (fun n hn => (had n hn).1) (h.2.2.2.2.2.1 v (List.mem_of_getElem? hi))]
    exact h.2.2.2.2.1.2.2 i v hi
/-- behind a call -/
theorem am_after {p : Program} {e : Env} {s : State} {m : MethodId} {args : Array Value} {below : List Frame} {meth : Method} {c : Code} {D : am_D} {A : Nat → Prop} {ad0 : am_N → Nat} {kd0 : am_kd} {H : Heap} {locs : List Loc} {lsA : Array Slot} {ad : am_N → Nat} {R' : Room} {post' : am_Post} {aa : Array Value} {st0 : List Value} {rest : List am_V} (C : am_C M p s m args meth c D A) (Rr : am_R M s D A ad0 kd0 H locs lsA ad ls st kd rv iv) (hrest : ∀ v ∈ rest, am_lv kd v)
    (hr : va_Run p l e R s m args below meth c H locs cu su R'.cells R'.slots (F0 m pc lsA st0) (rest.map (am_cv ad)) (am_Qc D (am_A kd ad H.size) ad kd post' aa) (am_A kd ad H.size))
    (kk : ∀ (v : Option am_V) (kd' : am_kd) (rv' : am_rv) (iv' : am_iv), post' v kd' rv' iv' → am_W l M R post (pc + 3) ls (v.toList ++ rest) kd' rv' iv' (cu + R'.cells) (su + R'.slots)) :
    W p l e R s m args below meth c H locs cu su (MQ below (am_Qc D A ad0 kd0 post) args s R.cells R.slots A) (F0 m pc lsA st0) := by
  intro T hT X
  obtain ⟨v, s₀, t, T', L, h0, X', hL, e1, e2, ⟨⟨v', kd', rv', iv', ad', hv, hpost, hHR, hA', had, hlv⟩, hz, hk⟩, go⟩ := hr T hT X
  cases hv
  rw [h0] at hz hk
  have hAA : ∀ q, am_A kd ad H.size q → A q := by
    intro q hq
    rcases hq with ⟨n, h1, h2, h3⟩ | h1
    · rw [← h3]; exact Rr.2.1 n h1 h2
    · exact C.2.2.2.2.2.2.2.2.2 q (Nat.le_trans Rr.2.2.1.1 h1)
  have hS : va_S A s.heap T'.heap (locs ++ L) := ⟨Nat.le_trans Rr.2.2.1.1 (by rw [e1]; exact hz), fun q h1 h2 => by rw [e1, hk q (Nat.lt_of_lt_of_le h1 Rr.2.2.1.1) (fun z => h2 (hAA q z))]; exact Rr.2.2.1.2.1 q h1 h2, fun q hq => by
    rcases List.mem_append.mp hq with h | h
    · exact Rr.2.2.1.2.2 q h
    · exact hAA _ (hL q h)⟩
  have hst : ∀ w ∈ v'.toList ++ rest, am_lv kd' w := by
    intro w hw
    rcases List.mem_append.mp hw with h | h
    · cases v' with
      | none => cases h
      | some v0 =>
        rw [Option.toList_some, List.mem_singleton] at h
        subst h; exact hlv _ rfl
    · exact am_lv_mono (fun n hn => (had n hn).2) (hrest w h)
  have K := kk v' kd' rv' iv' hpost p e s m args below meth c D A ad0 kd0 T'.heap (locs ++ L) lsA ad' C (Rr.move (by rw [e1]; exact hHR) (fun n h1 h2 => hAA _ (hA' n h1 h2)) hS had hst)
  have hmap : (v'.toList ++ rest).map (am_cv ad') = (v'.map (am_cv ad')).toList ++ rest.map (am_cv ad) := by
    rw [List.map_append]
    congr 1
    · cases v' <;> rfl
    · exact List.map_congr_left (fun w hw => am_cv_eq (fun n hn => (had n hn).1) (hrest w hw))
  rw [hmap] at K
  obtain ⟨t2, a1, b1⟩ := K T' rfl X'
  exact ⟨t2, go t2 a1, b1⟩
theorem am_pre {p : Program} {s : State} {m : MethodId} {args : Array Value} {meth : Method} {c : Code} {D : am_D} {A : Nat → Prop} {ad0 : am_N → Nat} {kd0 : am_kd} {H : Heap} {locs : List Loc} {lsA : Array Slot} {ad : am_N → Nat} {av : List am_V} (C : am_C M p s m args meth c D A) (Rr : am_R M s D A ad0 kd0 H locs lsA ad ls st kd rv iv) (hav : ∀ v ∈ av, am_lv kd v) : ∀ U : State, U.heap = H → s.WarmedH U.vm → am_Pc D ad H.size av kd rv iv (av.map (am_cv ad)).toArray U := by
  intro U hU hW
  have hAA : ∀ q, am_A kd ad H.size q → A q := by
    intro q hq
    rcases hq with ⟨n, h1, h2, h3⟩ | h1
    · rw [← h3]; exact Rr.2.1 n h1 h2
    · exact C.2.2.2.2.2.2.2.2.2 q (Nat.le_trans Rr.2.2.1.1 h1)
  exact ⟨rfl, by rw [hU], am_KF.call C.2.2.2.2.2.2.2.2.1 Rr.2.2.1 hAA hU hW, by rw [hU]; exact Rr.1, hav⟩
/-- what the tables say of a callee -/
def am_Ce (M' : am_M) (n : Nat) : Prop := Cond.code M'.1 M'.2.1 M'.2.2.1 M'.2.2.2 ∈ am_T ∧ Cond.initialized M'.1.cls ∈ am_T ∧ (M'.1.cls ≠ "java/lang/invoke/MethodHandle" ∧ M'.1.cls ≠ "java/lang/invoke/VarHandle" ∧ (parseMethodDescriptor M'.1.desc).map (fun d => d.parameters.length) = some n)
def am_CS (own : String) (idx : Nat) (M' : am_M) (n : Nat) : Prop := am_Ce M' n ∧ Cond.methodLink own idx M'.1 ∈ am_T ∧ Cond.static M'.1 ∈ am_T
def am_CN (own : String) (idx : Nat) (M' : am_M) (n : Nat) : Prop := am_Ce M' n ∧ (∃ host, Cond.methodLinkNest own idx M'.1 host ∈ am_nw) ∧ Cond.static M'.1 ∈ am_T
def am_CV (own : String) (idx : Nat) (M' : am_M) (n : Nat) : Prop := am_Ce M' n ∧ Cond.methodLink own idx M'.1 ∈ am_T ∧ Cond.instanceMethod M'.1 ∈ am_T ∧ Cond.selects M'.1.cls M'.1 M'.1 ∈ am_T
def am_CI (own : String) (idx : Nat) (M' : am_M) (n : Nat) : Prop := am_Ce M' n ∧ Cond.methodLink own idx M'.1 ∈ am_T ∧ Cond.instanceMethod M'.1 ∈ am_T ∧ M'.1.name = "<init>" ∧ M'.2.2.2 = none
def am_CU (own : String) (idx : Nat) (x : MethodName) (owner C : String) (M' : am_M) (n : Nat) : Prop := am_Ce M' n ∧ Cond.methodLink own idx x ∈ am_T ∧ Cond.sameMethod x.cls owner x.name x.desc ∈ am_T ∧ Cond.instanceMethod ⟨owner, x.name, x.desc⟩ ∈ am_T ∧ (∃ b0 m0 r0, Cond.code ⟨owner, x.name, x.desc⟩ b0 m0 r0 ∈ am_T) ∧ Cond.selects C x M'.1 ∈ am_T ∧ Cond.instanceMethod M'.1 ∈ am_T ∧ (owner ≠ "java/lang/invoke/MethodHandle" ∧ owner ≠ "java/lang/invoke/VarHandle" ∧ (parseMethodDescriptor x.desc).map (fun d => d.parameters.length) = some n)
def am_CP (own : String) (idx : Nat) (M' : am_M) (n : Nat) : Prop := am_Ce M' n ∧ Cond.methodLink own idx M'.1 ∈ am_T ∧ Cond.sameMethod M'.1.cls M'.1.cls M'.1.name M'.1.desc ∈ am_T ∧ Cond.superclass own M'.1.cls ∈ am_T ∧ Cond.instanceMethod M'.1 ∈ am_T ∧ M'.1.name ≠ "<init>"
set_option maxHeartbeats 1000000 in
theorem A_callS {M' : am_M} {R' : Room} {post' : am_Post} {idx n : Nat} {av rest : List am_V} (hC : am_CS M.1.cls idx M' n) (hM : am_Met l M' R' av kd rv iv post') (hn : av.length = n) (hst : av.reverse ++ rest = st) (hw : am_wt rest ≤ 8) (hroom : R'.frames + 1 ≤ R.frames ∧ 8 + (M'.2.2.1 + 11) + R'.locals ≤ R.locals) (hcs : cu + R'.cells ≤ R.cells ∧ su + R'.slots ≤ R.slots) (hd : decode M.2.1 pc = .ok (.invokestatic idx, 3))
    (kk : ∀ (v : Option am_V) (kd' : am_kd) (rv' : am_rv) (iv' : am_iv), post' v kd' rv' iv' → am_W l M R post (pc + 3) ls (v.toList ++ rest) kd' rv' iv' (cu + R'.cells) (su + R'.slots)) : am_W l M R post pc ls st kd rv iv cu su := by
  intro p e s m args below meth c D A ad0 kd0 H locs lsA ad C Rr
  have hL := Rr.2.2.2.2.2.2
  subst hst
  obtain ⟨⟨h1, h2, h3⟩, h4, h5⟩ := hC
  have hts : ∀ w ∈ am_T, w.before args s = true := fun w hw => C.2.2.2.2.2.1 w (List.mem_cons_of_mem _ hw)
  have hrest : ∀ v ∈ rest, am_lv kd v := fun v hv => hL v (List.mem_append_right _ hv)
  have hav : ∀ v ∈ av, am_lv kd v := fun v hv => hL v (List.mem_append_left _ (List.mem_reverse.mpr hv))
  refine am_after C Rr hrest (va_runS (As := av.map (am_cv ad)) (rest := rest.map (am_cv ad)) (n := n) ⟨C.1, C.2.1, C.2.2.2.1, C.2.2.2.2.1, C.2.2.2.2.2.1⟩ (hM D ad H.size) ⟨callB_of (ws' := am_T) n C.2.2.2.2.2.1 (am_good h1) rfl rfl rfl (hts _ h2) (hts _ h4) h3 hroom, hts _ h5⟩ ⟨am_Pc_blind, am_pre C Rr hav⟩ rfl (by rw [List.length_map]; exact hn) Rr.2.2.2.2.1.1 (by simp) (lv_room (by rw [am_wt_ok]; exact hw)) hd hcs) kk
set_option maxHeartbeats 1000000 in
theorem A_callN {M' : am_M} {R' : Room} {post' : am_Post} {idx n : Nat} {av rest : List am_V} (hC : am_CN M.1.cls idx M' n) (hM : am_Met l M' R' av kd rv iv post') (hn : av.length = n) (hst : av.reverse ++ rest = st) (hw : am_wt rest ≤ 8) (hroom : R'.frames + 1 ≤ R.frames ∧ 8 + (M'.2.2.1 + 11) + R'.locals ≤ R.locals) (hcs : cu + R'.cells ≤ R.cells ∧ su + R'.slots ≤ R.slots) (hd : decode M.2.1 pc = .ok (.invokestatic idx, 3))
    (kk : ∀ (v : Option am_V) (kd' : am_kd) (rv' : am_rv) (iv' : am_iv), post' v kd' rv' iv' → am_W l M R post (pc + 3) ls (v.toList ++ rest) kd' rv' iv' (cu + R'.cells) (su + R'.slots)) : am_W l M R post pc ls st kd rv iv cu su := by
  intro p e s m args below meth c D A ad0 kd0 H locs lsA ad C Rr
  have hL := Rr.2.2.2.2.2.2
  subst hst
  obtain ⟨⟨h1, h2, h3⟩, ⟨host, h4⟩, h5⟩ := hC
  have hts : ∀ w ∈ am_T, w.before args s = true := fun w hw => C.2.2.2.2.2.1 w (List.mem_cons_of_mem _ hw)
  have hrest : ∀ v ∈ rest, am_lv kd v := fun v hv => hL v (List.mem_append_right _ hv)
  have hav : ∀ v ∈ av, am_lv kd v := fun v hv => hL v (List.mem_append_left _ (List.mem_reverse.mpr hv))
  refine am_after C Rr hrest (va_runSN (As := av.map (am_cv ad)) (rest := rest.map (am_cv ad)) (n := n) ⟨C.1, C.2.1, C.2.2.2.1, C.2.2.2.2.1, C.2.2.2.2.2.1⟩ (hM D ad H.size) ⟨va_cnB (ws' := am_T) n C.2.2.2.2.2.1 (am_good h1) rfl rfl rfl (C.2.2.2.2.2.2.2.2.1.2.1 _ h4) (hts _ h2) h3 hroom, hts _ h5, trivial⟩ ⟨am_Pc_blind, am_pre C Rr hav⟩ rfl (by rw [List.length_map]; exact hn) Rr.2.2.2.2.1.1 (by simp) (lv_room (by rw [am_wt_ok]; exact hw)) hd hcs) kk
theorem am_recv {s : State} {D : am_D} {A : Nat → Prop} {H : Heap} {ad : am_N → Nat} {n : am_N} {ci : Nat} {r : vw_C} (hK : am_KF D A s) (hR : am_HR D ad kd rv iv H) (hk : kd n = some (.inl ci)) (hr : vwCl[ci]? = some r) : ∃ cell : Cell, H[ad n]? = some cell ∧ cell.vm.isStatics = false ∧ s.vm.findClass r.1 = some cell.cls := by
  obtain ⟨r', hr', cell, q1, q2, q3, -⟩ := hR.1 n _ hk
  exact ⟨cell, q1, by rw [q3]; rfl, by rw [q2]; exact (hK.1.1 ci r hr).2.1⟩
set_option maxHeartbeats 1000000 in
theorem A_callV {M' : am_M} {R' : Room} {post' : am_Post} {idx n ci : Nat} {o : am_N} {r : vw_C} {av rest : List am_V} (hC : am_CV M.1.cls idx M' n) (hM : am_Met l M' R' (am_P o :: av) kd rv iv post') (hk : kd o = some (.inl ci)) (hr : vwCl[ci]? = some r) (hrc : r.1 = M'.1.cls) (hn : av.length = n) (hst : av.reverse ++ am_P o :: rest = st) (hw : am_wt rest ≤ 8) (hroom : R'.frames + 1 ≤ R.frames ∧ 8 + (M'.2.2.1 + 11) + R'.locals ≤ R.locals) (hcs : cu + R'.cells ≤ R.cells ∧ su + R'.slots ≤ R.slots) (hd : decode M.2.1 pc = .ok (.invokevirtual idx, 3))
    (kk : ∀ (v : Option am_V) (kd' : am_kd) (rv' : am_rv) (iv' : am_iv), post' v kd' rv' iv' → am_W l M R post (pc + 3) ls (v.toList ++ rest) kd' rv' iv' (cu + R'.cells) (su + R'.slots)) : am_W l M R post pc ls st kd rv iv cu su := by
  intro p e s m args below meth c D A ad0 kd0 H locs lsA ad C Rr
  have hL := Rr.2.2.2.2.2.2
  subst hst
  obtain ⟨⟨h1, h2, h3⟩, h4, h5, h6⟩ := hC
  have hts : ∀ w ∈ am_T, w.before args s = true := fun w hw => C.2.2.2.2.2.1 w (List.mem_cons_of_mem _ hw)
  have hrest : ∀ v ∈ rest, am_lv kd v := fun v hv => hL v (List.mem_append_right _ (List.mem_cons_of_mem _ hv))
  have hav : ∀ v ∈ am_P o :: av, am_lv kd v := fun v hv => by
    rcases List.mem_cons.mp hv with h | h
    · subst h; exact hL _ (List.mem_append_right _ List.mem_cons_self)
    · exact hL v (List.mem_append_left _ (List.mem_reverse.mpr h))
  have hrv := am_recv C.2.2.2.2.2.2.2.2.1 Rr.1 hk hr
  rw [hrc] at hrv
  refine am_after C Rr hrest (va_runV (As := av.map (am_cv ad)) (rest := rest.map (am_cv ad)) (n := n) (C := M'.1.cls) (b := ad o) ⟨C.1, C.2.1, C.2.2.2.1, C.2.2.2.2.1, C.2.2.2.2.2.1⟩ (hM D ad H.size) ⟨callB_of (ws' := am_T) n C.2.2.2.2.2.1 (am_good h1) rfl rfl rfl (hts _ h2) (hts _ h4) h3 hroom, hts _ h5, hts _ h6⟩ ⟨am_Pc_blind, hrv, am_pre C Rr hav⟩ rfl (by rw [List.length_map]; exact hn) Rr.2.2.2.2.1.1 (by simp [am_cv]) (lv_room (by rw [am_wt_ok]; exact hw)) hd hcs) kk
set_option maxHeartbeats 1000000 in
theorem A_callU {M' : am_M} {R' : Room} {post' : am_Post} {idx n ci : Nat} {x : MethodName} {owner : String} {o : am_N} {r : vw_C} {av rest : List am_V} (hC : am_CU M.1.cls idx x owner r.1 M' n) (hM : am_Met l M' R' (am_P o :: av) kd rv iv post') (hk : kd o = some (.inl ci)) (hr : vwCl[ci]? = some r) (hn : av.length = n) (hst : av.reverse ++ am_P o :: rest = st) (hw : am_wt rest ≤ 8) (hroom : R'.frames + 1 ≤ R.frames ∧ 8 + (M'.2.2.1 + 11) + R'.locals ≤ R.locals) (hcs : cu + R'.cells ≤ R.cells ∧ su + R'.slots ≤ R.slots) (hd : decode M.2.1 pc = .ok (.invokevirtual idx, 3))
    (kk : ∀ (v : Option am_V) (kd' : am_kd) (rv' : am_rv) (iv' : am_iv), post' v kd' rv' iv' → am_W l M R post (pc + 3) ls (v.toList ++ rest) kd' rv' iv' (cu + R'.cells) (su + R'.slots)) : am_W l M R post pc ls st kd rv iv cu su := by
  intro p e s m args below meth c D A ad0 kd0 H locs lsA ad C Rr
  have hL := Rr.2.2.2.2.2.2
  subst hst
  obtain ⟨⟨h1, h2, h3⟩, h4, h5, h6, ⟨b0, m0, r0, h7⟩, h8, h9, h10, h11, h12⟩ := hC
  have hts : ∀ w ∈ am_T, w.before args s = true := fun w hw => C.2.2.2.2.2.1 w (List.mem_cons_of_mem _ hw)
  have hrest : ∀ v ∈ rest, am_lv kd v := fun v hv => hL v (List.mem_append_right _ (List.mem_cons_of_mem _ hv))
  have hav : ∀ v ∈ am_P o :: av, am_lv kd v := fun v hv => by
    rcases List.mem_cons.mp hv with h | h
    · subst h; exact hL _ (List.mem_append_right _ List.mem_cons_self)
    · exact hL v (List.mem_append_left _ (List.mem_reverse.mpr h))
  have hrv := am_recv C.2.2.2.2.2.2.2.2.1 Rr.1 hk hr
  have hG := am_good (M := M) h1
  refine am_after C Rr hrest (va_runU (x := x) (owner := owner) (bytes := M'.2.1) (maxL := M'.2.2.1) (ret := M'.2.2.2) (As := av.map (am_cv ad)) (rest := rest.map (am_cv ad)) (n := n) (C := r.1) (b := ad o) ⟨C.1, C.2.1, C.2.2.2.1, C.2.2.2.2.1, C.2.2.2.2.2.1⟩ (hM D ad H.size) ⟨⟨rfl, rfl, hroom.1, hroom.2, pay_in C.2.2.2.2.2.1 hG, List.mem_cons_self⟩, hts _ h1, hts _ h2, ⟨h10, h11⟩, fun sig h => ?_, hts _ h4, hts _ h5, va_Decl.of (hts _ h6) (hts _ h7), hts _ h8, hts _ h9⟩ ⟨am_Pc_blind, hrv, am_pre C Rr hav⟩ rfl (by rw [List.length_map]; exact hn) Rr.2.2.2.2.1.1 (by simp [am_cv]) (lv_room (by rw [am_wt_ok]; exact hw)) hd hcs) kk
  rw [h] at h12
  exact (Option.some.inj h12).symm
set_option maxHeartbeats 1000000 in
theorem A_callP {M' : am_M} {R' : Room} {post' : am_Post} {idx n ci : Nat} {o : am_N} {r : vw_C} {av rest : List am_V} (hC : am_CP M.1.cls idx M' n) (hM : am_Met l M' R' (am_P o :: av) kd rv iv post') (hk : kd o = some (.inl ci)) (hr : vwCl[ci]? = some r) (hn : av.length = n) (hst : av.reverse ++ am_P o :: rest = st) (hw : am_wt rest ≤ 8) (hroom : R'.frames + 1 ≤ R.frames ∧ 8 + (M'.2.2.1 + 11) + R'.locals ≤ R.locals) (hcs : cu + R'.cells ≤ R.cells ∧ su + R'.slots ≤ R.slots) (hd : decode M.2.1 pc = .ok (.invokespecial idx, 3))
    (kk : ∀ (v : Option am_V) (kd' : am_kd) (rv' : am_rv) (iv' : am_iv), post' v kd' rv' iv' → am_W l M R post (pc + 3) ls (v.toList ++ rest) kd' rv' iv' (cu + R'.cells) (su + R'.slots)) : am_W l M R post pc ls st kd rv iv cu su := by
  intro p e s m args below meth c D A ad0 kd0 H locs lsA ad C Rr
  have hL := Rr.2.2.2.2.2.2
  subst hst
  obtain ⟨⟨h1, h2, h3, h3b, h3c⟩, h4, h5, h6, h7, h8⟩ := hC
  have hts : ∀ w ∈ am_T, w.before args s = true := fun w hw => C.2.2.2.2.2.1 w (List.mem_cons_of_mem _ hw)
  have hrest : ∀ v ∈ rest, am_lv kd v := fun v hv => hL v (List.mem_append_right _ (List.mem_cons_of_mem _ hv))
  have hav : ∀ v ∈ am_P o :: av, am_lv kd v := fun v hv => by
    rcases List.mem_cons.mp hv with h | h
    · subst h; exact hL _ (List.mem_append_right _ List.mem_cons_self)
    · exact hL v (List.mem_append_left _ (List.mem_reverse.mpr h))
  have hrv := am_recv C.2.2.2.2.2.2.2.2.1 Rr.1 hk hr
  have hat := (C.2.2.2.2.2.2.2.2.1.1.1 ci r hr).2
  have hG := am_good (M := M) h1
  refine am_after C Rr hrest (va_runSU (C := r.1) hat (bytes := M'.2.1) (maxL := M'.2.2.1) (ret := M'.2.2.2) (As := av.map (am_cv ad)) (rest := rest.map (am_cv ad)) (n := n) (b := ad o) ⟨C.1, C.2.1, C.2.2.2.1, C.2.2.2.2.1, C.2.2.2.2.2.1⟩ (hM D ad H.size) ⟨⟨rfl, rfl, hroom.1, hroom.2, pay_in C.2.2.2.2.2.1 hG, List.mem_cons_self⟩, hts _ h4, hts _ h5, hts _ h6, hts _ h7, hts _ h2, hts _ h1, h8, fun sig h => ?_⟩ ⟨am_Pc_blind, hrv, am_pre C Rr hav⟩ rfl (by rw [List.length_map]; exact hn) Rr.2.2.2.2.1.1 (by simp [am_cv]) (lv_room (by rw [am_wt_ok]; exact hw)) hd hcs) kk
  rw [h] at h3c
  exact (Option.some.inj h3c).symm
set_option maxHeartbeats 1000000 in
theorem A_callI {y : MethodName} {cc : ByteArray} {mL : Nat} {R' : Room} {post' : am_Post} {idx n : Nat} {o : am_N} {av rest : List am_V} (hC : am_CI M.1.cls idx (y, cc, mL, none) n) (hM : am_Met l (y, cc, mL, none) R' (am_P o :: av) kd rv iv post') (hn : av.length = n) (hst : av.reverse ++ am_P o :: rest = st) (hw : am_wt rest ≤ 8) (hroom : R'.frames + 1 ≤ R.frames ∧ 8 + (mL + 11) + R'.locals ≤ R.locals) (hcs : cu + R'.cells ≤ R.cells ∧ su + R'.slots ≤ R.slots) (hd : decode M.2.1 pc = .ok (.invokespecial idx, 3))
    (kk : ∀ (v : Option am_V) (kd' : am_kd) (rv' : am_rv) (iv' : am_iv), post' v kd' rv' iv' → am_W l M R post (pc + 3) ls (v.toList ++ rest) kd' rv' iv' (cu + R'.cells) (su + R'.slots)) : am_W l M R post pc ls st kd rv iv cu su := by
  intro p e s m args below meth c D A ad0 kd0 H locs lsA ad C Rr
  have hL := Rr.2.2.2.2.2.2
  subst hst
  obtain ⟨⟨h1, h2, h3⟩, h4, h5, h6, h7⟩ := hC
  have hts : ∀ w ∈ am_T, w.before args s = true := fun w hw => C.2.2.2.2.2.1 w (List.mem_cons_of_mem _ hw)
  have hrest : ∀ v ∈ rest, am_lv kd v := fun v hv => hL v (List.mem_append_right _ (List.mem_cons_of_mem _ hv))
  have hav : ∀ v ∈ am_P o :: av, am_lv kd v := fun v hv => by
    rcases List.mem_cons.mp hv with h | h
    · subst h; exact hL _ (List.mem_append_right _ List.mem_cons_self)
    · exact hL v (List.mem_append_left _ (List.mem_reverse.mpr h))
  refine am_after C Rr hrest (va_runI (As := av.map (am_cv ad)) (rest := rest.map (am_cv ad)) (n := n) (b := ad o) ⟨C.1, C.2.1, C.2.2.2.1, C.2.2.2.2.1, C.2.2.2.2.2.1⟩ (hM D ad H.size) ⟨callB_of (ws' := am_T) n C.2.2.2.2.2.1 (am_good (M' := (y, cc, mL, none)) h1) rfl rfl rfl (hts _ h2) (hts _ h4) h3 hroom, h6, hts _ h5⟩ ⟨am_Pc_blind, am_pre C Rr hav⟩ rfl (by rw [List.length_map]; exact hn) Rr.2.2.2.2.1.1 (by simp [am_cv]) (lv_room (by rw [am_wt_ok]; exact hw)) hd hcs) kk
theorem A_objInit {idx : Nat} {v : am_N} (h1 : Cond.methodLink M.1.cls idx Lib.objectInit ∈ am_T) (h2 : Cond.instanceMethod Lib.objectInit ∈ am_T) (h3 : Cond.code Lib.objectInit ⟨#[0xb1]⟩ 1 none ∈ am_T) (hR : 1 ≤ R.frames) (hw : am_wt st + 12 ≤ R.locals) (hd : decode M.2.1 pc = .ok (.invokespecial idx, 3)) (k : am_W l M R post (pc + 3) ls st kd rv iv cu su) : am_W l M R post pc ls (am_P v :: st) kd rv iv cu su := by
  intro p e s m args below meth c D A ad0 kd0 H locs lsA ad C Rr
  have hts : ∀ w ∈ am_T, w.before args s = true := fun w hw => C.2.2.2.2.2.1 w (List.mem_cons_of_mem _ hw)
  refine W.objInit C.1 C.2.1 C.2.2.2.2.1 (hts _ h1) (hts _ h2) (hts _ h3) rfl (Rr.2.2.2.2.1.1.trans C.2.2.2.1.symm) rfl hd hR ?_ (k p e s m args below meth c D A ad0 kd0 H locs lsA ad C (Rr.stk (am_l1 Rr.2.2.2.2.2.2)))
  show 2 * 0 + _ + 12 ≤ R.locals
  rw [am_wt_ok]
  omega
end AC
end
section
/-! what makes objects; stores of references; instanceof; the script; the texts' names; Math; arraycopy -/
def am_na (ad : am_N → Nat) (n : am_N) (a : Nat) : am_N → Nat := fun n' => if n' = n then a else ad n'
theorem am_at.ad {D : am_D} {ad ad' : am_N → Nat} {rv : am_rv} {iv : am_iv} {n : am_N} {K : am_K} {H : Heap} (h : am_at D ad rv iv n K H) (hn : ad' n = ad n) (hr : ∀ k o, rv n k = some o → ad' o = ad o) : am_at D ad' rv iv n K H := by
  have hs : ∀ r k, am_sv ad' rv iv r n k = am_sv ad rv iv r n k := fun r k => by
    simp only [am_sv]
    cases ho : rv n k with
    | none => rfl
    | some o => simp only [Option.map_some, hr k o ho]
  cases K with
  | inl ci =>
    obtain ⟨r, h1, h2⟩ := h
    refine ⟨r, h1, ?_⟩
    rw [hn]
    exact h2.to (fun k _ => (hs _ k).symm)
  | inr a =>
    refine ⟨fun h9 => ?_, fun h9 => hn.trans (h.2.1 h9), fun h9 => hn.trans (h.2.2 h9)⟩
    have e : (fun j => am_sv ad' rv iv (am_isr (am_aty a.1)) n j) = fun j => am_sv ad rv iv (am_isr (am_aty a.1)) n j := funext fun j => hs _ j
    rw [hn, e]
    exact h.1 h9
theorem am_HR.new {D : am_D} {ad : am_N → Nat} {kd : am_kd} {rv : am_rv} {iv : am_iv} {H H1 : Heap} (h : am_HR D ad kd rv iv H) {n : am_N} {K : am_K} (hk : kd n = none) (ht : n.1 < 40) (ho : ¬ am_op K) (hr0 : ∀ k, rv n k = none) (o1 : ∀ q : Nat, q < H.size → H1[q]? = H[q]?) (hn : am_at D (am_na ad n H.size) rv iv n K H1) : am_HR D (am_na ad n H.size) (am_uk kd n K) rv iv H1 := by
  have had : ∀ n', kd n' ≠ none → am_na ad n H.size n' = ad n' := fun n' h' => by
    have : n' ≠ n := fun e => h' (by rw [e]; exact hk)
    simp [am_na, this]
  have hs : am_na ad n H.size n = H.size := by simp [am_na]
  have hnop : ∀ n' K', kd n' = some K' → n'.1 < 40 → ¬ am_op K' := fun n' K' h1 h2 h3 => by
    have := (h.2.2.2 n' K' h1).mpr h3
    omega
  have hlt : ∀ n', kd n' ≠ none → n'.1 < 40 → ad n' < H.size := fun n' h1 h2 => by
    cases h3 : kd n' with
    | none => exact absurd h3 h1
    | some K' => exact h.lt h3 (hnop n' K' h3 h2)
  refine ⟨fun n' K' hk' => ?_, fun n1 n2 h1 h2 t1 t2 e => ?_, fun n' k o h1 h2 => ?_, fun n' K' hk' => ?_⟩
  · by_cases hn' : n' = n
    · subst hn'
      simp [am_uk] at hk'; subst hk'
      exact hn
    · simp [am_uk, hn'] at hk'
      refine ((h.1 n' K' hk').to (H' := H1) (fun hop => o1 _ (h.lt hk' hop)) (fun _ => rfl) (fun _ => rfl)).ad (had n' (by rw [hk']; exact fun h => by cases h)) (fun k o ho' => had o (h.2.2.1 n' k o (by rw [hk']; exact fun h => by cases h) ho'))
  · by_cases e1 : n1 = n <;> by_cases e2 : n2 = n
    · rw [e1, e2]
    · simp [am_uk, e2] at h2
      rw [e1, hs, had n2 h2] at e
      have := hlt n2 h2 t2
      omega
    · simp [am_uk, e1] at h1
      rw [e2, hs, had n1 h1] at e
      have := hlt n1 h1 t1
      omega
    · simp [am_uk, e1] at h1
      simp [am_uk, e2] at h2
      rw [had n1 h1, had n2 h2] at e
      exact h.2.1 n1 n2 h1 h2 t1 t2 e
  · by_cases e1 : o = n
    · simp [am_uk, e1]
    · by_cases e2 : n' = n
      · rw [e2, hr0] at h2; cases h2
      · simp [am_uk, e2] at h1
        simp only [am_uk, e1, if_false]
        exact h.2.2.1 n' k o h1 h2
  · by_cases hn' : n' = n
    · subst hn'
      simp [am_uk] at hk'; subst hk'
      exact ⟨fun h => by omega, fun h => absurd h ho⟩
    · simp [am_uk, hn'] at hk'
      exact h.2.2.2 n' K' hk'
theorem am_R.new {M : am_M} {ls : List (Option am_V)} {st st' : List am_V} {kd : am_kd} {rv : am_rv} {iv : am_iv} {s : State} {D : am_D} {A : Nat → Prop} {ad0 : am_N → Nat} {kd0 : am_kd} {H H1 : Heap} {locs : List Loc} {lsA : Array Slot} {ad : am_N → Nat} (h : am_R M s D A ad0 kd0 H locs lsA ad ls st kd rv iv) (hA : ∀ q, s.heap.size ≤ q → A q) {n : am_N} {K : am_K} (hk : kd n = none) (ht : n.1 < 40) (ho : ¬ am_op K) (hr0 : ∀ k, rv n k = none) (hz : H1.size = H.size + 1) (o1 : ∀ q : Nat, q < H.size → H1[q]? = H[q]?) (hn : am_at D (am_na ad n H.size) rv iv n K H1) (hst : ∀ v ∈ st', am_lv kd v) : am_R M s D A ad0 kd0 H1 locs lsA (am_na ad n H.size) ls (am_P n :: st') (am_uk kd n K) rv iv := by
  have had : ∀ n', kd n' ≠ none → am_na ad n H.size n' = ad n' ∧ am_uk kd n K n' ≠ none := fun n' h' => by
    have : n' ≠ n := fun e => h' (by rw [e]; exact hk)
    simp [am_na, am_uk, this, h']
  refine h.move (h.1.new hk ht ho hr0 o1 hn) (fun n' h1 h2 => ?_) ⟨Nat.le_trans h.2.2.1.1 (by omega), fun q h1 h2 => (o1 q (Nat.lt_of_lt_of_le h1 h.2.2.1.1)).trans (h.2.2.1.2.1 q h1 h2), h.2.2.1.2.2⟩ had (am_lc ?_ (fun v hv => am_lv_mono (fun n' h' => (had n' h').2) (hst v hv)))
  · by_cases hn' : n' = n
    · subst hn'
      simp only [am_na, if_true]
      exact hA _ h.2.2.1.1
    · simp [am_uk, hn'] at h1
      rw [(had n' h1).1]
      exact h.2.1 n' h1 h2
  · show am_uk kd n K n ≠ none
    simp [am_uk]
theorem am_st_eq {kd : am_kd} {K : am_K} {n : am_N} (hk : kd n = none) (ad : am_N → Nat) (a : Nat) {st : List am_V} (h : ∀ v ∈ st, am_lv kd v) : (am_P n :: st).map (am_cv (am_na ad n a)) = .ref a :: st.map (am_cv ad) := by
  rw [List.map_cons]
  congr 1
  · simp [am_cv, am_na]
  · refine List.map_congr_left (fun v hv => am_cv_eq (kd := kd) (fun n' h' => ?_) (h v hv))
    have : n' ≠ n := fun e => h' (by rw [e]; exact hk)
    simp [am_na, this]
section AN
variable {l : Launch} {M : am_M} {R : Room} {post : am_Post} {pc : Nat} {ls : List (Option am_V)} {st : List am_V} {kd : am_kd} {rv : am_rv} {iv : am_iv} {cu su : Nat}
theorem am_dflt {t : FieldType} (h : am_okty t = true) : defaultValue t = if am_isr t = true then .null else .int 0 := by
  cases t <;> first | rfl | cases h
set_option maxHeartbeats 1000000 in
theorem A_new (n : am_N) {ci idx : Nat} {r : vw_C} (hr : vwCl[ci]? = some r) (h1 : Cond.classLink M.1.cls idx r.1 ∈ am_T) (h2 : Cond.instantiable r.1 r.2.2 ∈ am_T) (h3 : Cond.initialized r.1 ∈ am_T) (hk : kd n = none) (ht : n.1 < 40) (hi0 : ∀ k, iv n k = 0) (hr0 : ∀ k, rv n k = none) (hcu : cu + 1 ≤ R.cells) (hsu : su + r.2.2 ≤ R.slots) (hd : decode M.2.1 pc = .ok (.new idx, 3)) (k : am_W l M R post (pc + 3) ls (am_P n :: st) (am_uk kd n (.inl ci)) rv iv (cu + 1) (su + r.2.2)) : am_W l M R post pc ls st kd rv iv cu su := by
  intro p e s m args below meth c D A ad0 kd0 H locs lsA ad C Rr
  have hL := Rr.2.2.2.2.2.2
  have hts : ∀ w ∈ am_T, w.before args s = true := fun w hw => C.2.2.2.2.2.1 w (List.mem_cons_of_mem _ hw)
  have hKn := C.2.2.2.2.2.2.2.2.1.1.1 ci r hr
  obtain ⟨c1, c2, -, c4⟩ := am_cls_ok ci r hr
  refine W.newcK C.1 C.2.1 C.2.2.2.2.1 (hts _ h1) (hts _ h2) (hts _ h3) rfl hd hcu hsu hKn.2.1 rfl fun H1 kC hkC e1 z1 o1 => ?_
  have hat : am_at D (am_na ad n H.size) rv iv n (.inl ci) H1 := by
    refine ⟨r, hr, ?_⟩
    have e9 : am_na ad n H.size n = H.size := by simp [am_na]
    rw [e9]
    refine (u_born (am_fty ci) hts c1 hKn hkC e1 c2).to (fun k hk => ?_)
    rw [am_dflt (c4 k hk)]
    simp [am_sv, hi0, hr0, va_rf]
  have K := k p e s m args below meth c D A ad0 kd0 H1 locs lsA (am_na ad n H.size) C (Rr.new C.2.2.2.2.2.2.2.2.2 hk ht (fun h => h) hr0 z1 o1 hat hL)
  rw [am_st_eq (K := .inl ci) hk ad H.size hL] at K
  exact K
set_option maxHeartbeats 1000000 in
theorem A_newa (n : am_N) {z : Nat} (h1 : Cond.arrayClass .int ∈ am_T) (hk : kd n = none) (ht : n.1 < 40) (hi0 : ∀ k, iv n k = 0) (hr0 : ∀ k, rv n k = none) {x : Int32} (hx : ¬ x < 0) (hxz : x.toNatClampNeg = z) (hz : z * 4 ≤ 536870912) (hcu : cu + 1 ≤ R.cells) (hsu : su + z ≤ R.slots) (hd : decode M.2.1 pc = .ok (.newarray .int, 2)) (k : am_W l M R post (pc + 2) ls (am_P n :: st) (am_uk kd n (.inr (0, z))) rv iv (cu + 1) (su + z)) : am_W l M R post pc ls (am_I x :: st) kd rv iv cu su := by
  intro p e s m args below meth c D A ad0 kd0 H locs lsA ad C Rr
  have hL := am_l1 Rr.2.2.2.2.2.2
  have hts : ∀ w ∈ am_T, w.before args s = true := fun w hw => C.2.2.2.2.2.1 w (List.mem_cons_of_mem _ hw)
  refine va_newaK (atype := .int) C.1 C.2.1 (hts _ h1) rfl hd rfl hx hxz hz hcu hsu rfl fun H1 cA e1 z1 o1 hAr hNm => ?_
  have hcA : cA = D.2.1 0 := by
    have h := (am_arr C.2.2.2.2.2.2.2.2.1 (t := 0) (by decide)).2
    exact Option.some.inj (hNm.symm.trans h)
  have hat : am_at D (am_na ad n H.size) rv iv n (.inr (0, z)) H1 := by
    have e9 : am_na ad n H.size n = H.size := by simp [am_na]
    refine ⟨fun _ => ?_, ⟨fun h => ?_, fun h => ?_⟩⟩
    · rw [e9, e1, hcA]
      congr 2
      funext j
      simp [am_sv, hi0, am_isr, am_aty]
      rfl
    · simp at h
    · simp at h
  have K := k p e s m args below meth c D A ad0 kd0 H1 locs lsA (am_na ad n H.size) C (Rr.new C.2.2.2.2.2.2.2.2.2 hk ht (fun h => by simp [am_op] at h) hr0 z1 o1 hat hL)
  rw [am_st_eq (K := .inr (0, z)) hk ad H.size hL] at K
  exact K
set_option maxHeartbeats 1000000 in
theorem A_anew (n : am_N) {t z idx : Nat} {C0 : String} (ht5 : t < 5) (hty : am_aty t = .object C0) (hC0 : C0 ∈ [RX3, RX2, RX7, RX5]) (h1 : Cond.classLink M.1.cls idx C0 ∈ am_T) (hk : kd n = none) (ht : n.1 < 40) (hr0 : ∀ k, rv n k = none) {x : Int32} (hx : ¬ x < 0) (hxz : x.toNatClampNeg = z) (hz : z * 4 ≤ 536870912) (hcu : cu + 1 ≤ R.cells) (hsu : su + z ≤ R.slots) (hd : decode M.2.1 pc = .ok (.anewarray idx, 3)) (k : am_W l M R post (pc + 3) ls (am_P n :: st) (am_uk kd n (.inr (t, z))) rv iv (cu + 1) (su + z)) : am_W l M R post pc ls (am_I x :: st) kd rv iv cu su := by
  intro p e s m args below meth c D A ad0 kd0 H locs lsA ad C Rr
  subst hxz
  have hL := am_l1 Rr.2.2.2.2.2.2
  have hts : ∀ w ∈ am_T, w.before args s = true := fun w hw => C.2.2.2.2.2.1 w (List.mem_cons_of_mem _ hw)
  refine W.anew C.1 C.2.1 C.2.2.2.2.1 (hts _ h1) (va_AO.use (C.2.2.2.2.2.2.2.2.1.2.2.1.2.2 C0 hC0)) rfl hd rfl hx hz hcu hsu fun cA kA comp f1 f2 f3 f4 => ?_
  generalize hH1 : H.push ({ cls := cA, slots := Array.replicate x.toNatClampNeg .null, vm := .none } : Cell) = H1
  have z1 : H1.size = H.size + 1 := by rw [← hH1]; simp
  have o1 : ∀ q : Nat, q < H.size → H1[q]? = H[q]? := fun q hq => by rw [← hH1, Array.getElem?_push, if_neg (Nat.ne_of_lt hq)]
  have e1 : H1[H.size]? = some (arrV cA x.toNatClampNeg (fun _ => .null)) := by rw [← hH1, ← arrV_new]; simp
  have hcA : cA = D.2.1 t := by
    have h := (am_arr C.2.2.2.2.2.2.2.2.1 ht5).2
    rw [hty] at h
    obtain ⟨_, _, _, _, _, h4⟩ := h
    exact Option.some.inj (f1.symm.trans h4)
  have hat : am_at D (am_na ad n H.size) rv iv n (.inr (t, x.toNatClampNeg)) H1 := by
    have e9 : am_na ad n H.size n = H.size := by simp [am_na]
    refine ⟨fun _ => ?_, ⟨fun h => ?_, fun h => ?_⟩⟩
    · rw [e9, e1, hcA]
      congr 2
      funext j
      simp [am_sv, hr0, am_isr, hty, va_rf]
    · simp at h; omega
    · simp at h; omega
  have K := k p e s m args below meth c D A ad0 kd0 H1 locs lsA (am_na ad n H.size) C (Rr.new C.2.2.2.2.2.2.2.2.2 hk ht (fun h => by simp [am_op] at h; omega) hr0 z1 o1 hat hL)
  rw [am_st_eq (K := .inr (t, x.toNatClampNeg)) hk ad H.size hL] at K
  exact K
theorem am_aat {D : am_D} {ad : am_N → Nat} {n : am_N} {t z j : Nat} {H1 : Heap} {o : Option am_N} (ht : t < 5) (hr : am_isr (am_aty t) = true) (e1 : H1[ad n]? = some (arrV (D.2.1 t) z (updV (fun j => am_sv ad rv iv (am_isr (am_aty t)) n j) j (va_rf (o.map ad))))) : am_at D ad (am_ur rv n j o) iv n (.inr (t, z)) H1 := by
  refine ⟨fun _ => ?_, ⟨fun h => ?_, fun h => ?_⟩⟩
  · rw [e1]
    congr 2
    funext q
    by_cases hq : q = j
    · subst hq; simp [updV, am_sv, am_ur, hr]
    · simp [updV, am_sv, am_ur, hq]
  · simp at h; omega
  · simp at h; omega
set_option maxHeartbeats 1000000 in
theorem A_aast {n o : am_N} {t z ci : Nat} {r : vw_C} {C0 : String} {i : Int32} (hk : kd n = some (.inr (t, z))) (ht5 : t < 5) (hty : am_aty t = .object C0) (ho : kd o = some (.inl ci)) (hr : vwCl[ci]? = some r) (hsub : r.1 = C0 ∨ (r.1, C0) ∈ am_yc) (hin : vp_in i z) (hd : decode M.2.1 pc = .ok (.aastore, 1)) (k : am_W l M R post (pc + 1) ls st kd (am_ur rv n i.toNatClampNeg (some o)) iv cu su) : am_W l M R post pc ls (am_P o :: am_I i :: am_P n :: st) kd rv iv cu su := by
  intro p e s m args below meth c D A ad0 kd0 H locs lsA ad C Rr
  have hL := Rr.2.2.2.2.2.2
  have hKF := C.2.2.2.2.2.2.2.2.1
  have hlt : i.toNatClampNeg < z := Nat.not_le.mp fun q => hin (Or.inr q)
  have h0 : ¬ i < 0 := fun q => hin (Or.inl q)
  have hne : ¬ am_op (.inr (t, z) : am_K) := by simp only [am_op]; omega
  have hisr : am_isr (am_aty t) = true := by rw [hty]; rfl
  obtain ⟨r', hr', cellV, g1, g2, g3, -⟩ := Rr.1.1 o _ ho
  cases hr.symm.trans hr'
  have hcls := (hKF.1.1 ci r hr).2
  have hra := (am_arr hKF ht5).2
  rw [hty] at hra
  obtain ⟨kA, comp, k1, k2, k3, -⟩ := hra
  obtain ⟨kE, hkE, -⟩ := Vm.findClass_spec k3
  obtain ⟨kC, hkC, -⟩ := hcls.2
  have hasg : s.vm.assignable (D.1.1 ci) comp = true := by
    rcases hsub with h | h
    · have e1 : comp = D.1.1 ci := by rw [← h] at k3; exact Option.some.inj (k3.symm.trans hcls.1)
      rw [e1]; exact va_assign hcls
    · obtain ⟨c1, t1, f1, f2, f3⟩ := hKF.2.2.1.2.1 _ h
      cases hcls.1.symm.trans f1
      cases k3.symm.trans f2
      exact f3
  have hv := (Rr.1.1 n _ hk).1 ht5
  refine W.aast C.1 C.2.1 hv (fun q h => by cases h) (fun h => by cases h) k1 k2 rfl hkE ⟨h0, by rw [arrV_size]; exact hlt⟩ g1 (fun q h => by rw [g3] at h; cases h) (by rw [g2]; exact hkC) (by rw [g2]; exact hasg) rfl rfl hd fun H1 e1 z1 oq => ?_
  rw [arrV_store] at e1
  exact k p e s m args below meth c D A ad0 kd0 H1 _ lsA ad C (Rr.heap (Rr.1.set hk hne oq (am_aat (o := some o) ht5 hisr e1) (fun n' k hn => by simp [am_ur, hn]) (fun _ _ _ => rfl) (fun k o' h => by
    by_cases hj : k = i.toNatClampNeg
    · subst hj; simp [am_ur] at h; subst h; rw [ho]; exact fun h => by cases h
    · simp [am_ur, hj] at h
      exact Rr.1.2.2.1 n k o' (by rw [hk]; exact fun h => by cases h) h)) (Rr.2.2.1.put z1 oq (Rr.2.1 n (by rw [hk]; exact fun h => by cases h) (am_tag Rr.1 hk hne))) (am_l1 (am_l1 (am_l1 hL))))
set_option maxHeartbeats 1000000 in
theorem A_aast0 {n : am_N} {t z : Nat} {C0 : String} {i : Int32} (hk : kd n = some (.inr (t, z))) (ht5 : t < 5) (hty : am_aty t = .object C0) (hin : vp_in i z) (hd : decode M.2.1 pc = .ok (.aastore, 1)) (k : am_W l M R post (pc + 1) ls st kd (am_ur rv n i.toNatClampNeg none) iv cu su) : am_W l M R post pc ls (am_0 :: am_I i :: am_P n :: st) kd rv iv cu su := by
  intro p e s m args below meth c D A ad0 kd0 H locs lsA ad C Rr
  have hL := Rr.2.2.2.2.2.2
  have hKF := C.2.2.2.2.2.2.2.2.1
  have hne : ¬ am_op (.inr (t, z) : am_K) := by simp only [am_op]; omega
  have hisr : am_isr (am_aty t) = true := by rw [hty]; rfl
  have hv := (Rr.1.1 n _ hk).1 ht5
  have hao := (am_arr hKF ht5).1 z (fun j => am_sv ad rv iv (am_isr (am_aty t)) n j)
  rw [hty] at hao
  refine va_WaastN (C := C0) C.1 C.2.1 hv (by rw [← hty] at hao ⊢; exact hao) (fun h => by cases h) (by rw [arrV_size]; exact hin) rfl rfl hd fun H1 e1 z1 oq => ?_
  rw [arrV_store] at e1
  exact k p e s m args below meth c D A ad0 kd0 H1 _ lsA ad C (Rr.heap (Rr.1.set hk hne oq (am_aat (o := none) ht5 hisr e1) (fun n' k hn => by simp [am_ur, hn]) (fun _ _ _ => rfl) (fun k o' h => by
    by_cases hj : k = i.toNatClampNeg
    · subst hj; simp [am_ur] at h
    · simp [am_ur, hj] at h
      exact Rr.1.2.2.1 n k o' (by rw [hk]; exact fun h => by cases h) h)) (Rr.2.2.1.put z1 oq (Rr.2.1 n (by rw [hk]; exact fun h => by cases h) (am_tag Rr.1 hk hne))) (am_l1 (am_l1 (am_l1 hL))))
theorem A_instY {n : am_N} {ci idx : Nat} {r : vw_C} {nm : String} (hcl : Cond.classLink M.1.cls idx nm ∈ am_T) (hk : kd n = some (.inl ci)) (hr : vwCl[ci]? = some r) (hsub : r.1 = nm ∨ (r.1, nm) ∈ am_yc) (hd : decode M.2.1 pc = .ok (.instanceof idx, 3)) (k : am_W l M R post (pc + 3) ls (am_I 1 :: st) kd rv iv cu su) : am_W l M R post pc ls (am_P n :: st) kd rv iv cu su := by
  intro p e s m args below meth c D A ad0 kd0 H locs lsA ad C Rr
  have hL := Rr.2.2.2.2.2.2
  have hKF := C.2.2.2.2.2.2.2.2.1
  have hts : ∀ w ∈ am_T, w.before args s = true := fun w hw => C.2.2.2.2.2.1 w (List.mem_cons_of_mem _ hw)
  obtain ⟨cell, h1, h2, h3⟩ := am_recv hKF Rr.1 hk hr
  have K := k p e s m args below meth c D A ad0 kd0 H locs lsA ad C (Rr.stk (am_l0 (am_l1 hL)))
  have hcls := (hKF.1.1 ci r hr).2
  have hf : ∃ t1, s.vm.findClass nm = some t1 ∧ s.vm.assignable cell.cls t1 = true := by
    have ec : cell.cls = D.1.1 ci := Option.some.inj (h3.symm.trans hcls.1)
    rcases hsub with h | h
    · exact ⟨D.1.1 ci, by rw [← h]; exact hcls.1, by rw [ec]; exact va_assign hcls⟩
    · obtain ⟨c1, t1, f1, f2, f3⟩ := hKF.2.2.1.2.1 _ h
      cases h3.symm.trans f1
      exact ⟨t1, f2, f3⟩
  obtain ⟨t1, f2, f3⟩ := hf
  intro T hT X
  obtain ⟨vm', X', st'⟩ := X.instanceofYes C.1 C.2.2.2.2.1 (hts _ hcl) (by rw [hT]; exact h1) h2 f2 f3 (g := F0 m pc lsA (.ref (ad n) :: st.map (am_cv ad))) rfl rfl (by rw [C.2.1]; exact hd)
  obtain ⟨t, a1, b1⟩ := K (T.setVm vm') hT X'
  exact ⟨t, st' t a1, b1⟩
theorem A_instN {n : am_N} {ci idx : Nat} {r : vw_C} {nm : String} (hcl : Cond.classLink M.1.cls idx nm ∈ am_T) (hk : kd n = some (.inl ci)) (hr : vwCl[ci]? = some r) (hno : (r.1, nm) ∈ am_nc) (hd : decode M.2.1 pc = .ok (.instanceof idx, 3)) (k : am_W l M R post (pc + 3) ls (am_I 0 :: st) kd rv iv cu su) : am_W l M R post pc ls (am_P n :: st) kd rv iv cu su := by
  intro p e s m args below meth c D A ad0 kd0 H locs lsA ad C Rr
  have hL := Rr.2.2.2.2.2.2
  have hKF := C.2.2.2.2.2.2.2.2.1
  have hts : ∀ w ∈ am_T, w.before args s = true := fun w hw => C.2.2.2.2.2.1 w (List.mem_cons_of_mem _ hw)
  exact va_instNo C.1 C.2.1 C.2.2.2.2.1 (hts _ hcl) (hKF.2.2.1.1 _ hno) (am_recv hKF Rr.1 hk hr) hd (k p e s m args below meth c D A ad0 kd0 H locs lsA ad C (Rr.stk (am_l0 (am_l1 hL))))
end AN
end
