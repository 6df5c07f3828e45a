section
-- ===== PART A: goes FIRST, ahead of the names: the tables' words, and 'selects' of the private methods out of them =====
/-- a private method of a class that the tables say can be made, by its rows of tables_1 -/
def lw_okq (q : MethodName × Nat) : Prop := (q.1.cls ≠ "java/lang/invoke/MethodHandle" ∧ q.1.cls ≠ "java/lang/invoke/VarHandle") ∧ Cond.instantiable q.1.cls q.2 ∈ tables_1 ∧ Cond.privateMethod q.1 ∈ tables_1 ∧ Cond.instanceMethod q.1 ∈ tables_1
theorem lw_p0 : lw_okq (⟨"SmokeRings", "error", "(I)I"⟩, 9) := ⟨⟨by decide +kernel, by decide +kernel⟩, List.mem_of_getElem? (i := 23) (by decide +kernel), List.mem_of_getElem? (i := 239) (by decide +kernel), List.mem_of_getElem? (i := 240) (by decide +kernel)⟩
theorem lw_p1 : lw_okq (⟨"SmokeRings$Text", "push", "(I)V"⟩, 7) := ⟨⟨by decide +kernel, by decide +kernel⟩, List.mem_of_getElem? (i := 92) (by decide +kernel), List.mem_of_getElem? (i := 532) (by decide +kernel), List.mem_of_getElem? (i := 533) (by decide +kernel)⟩
theorem lw_p2 : lw_okq (⟨"SmokeRings$Text", "takesOperand", "(ILjava/lang/String;)Z"⟩, 7) := ⟨⟨by decide +kernel, by decide +kernel⟩, List.mem_of_getElem? (i := 92) (by decide +kernel), List.mem_of_getElem? (i := 575) (by decide +kernel), List.mem_of_getElem? (i := 576) (by decide +kernel)⟩
theorem lw_p3 : lw_okq (⟨"SmokeRings$Text", "append", "(I)V"⟩, 7) := ⟨⟨by decide +kernel, by decide +kernel⟩, List.mem_of_getElem? (i := 92) (by decide +kernel), List.mem_of_getElem? (i := 582) (by decide +kernel), List.mem_of_getElem? (i := 583) (by decide +kernel)⟩
theorem lw_p4 : lw_okq (⟨"SmokeRings$Text", "takesOperator", "(I)Z"⟩, 7) := ⟨⟨by decide +kernel, by decide +kernel⟩, List.mem_of_getElem? (i := 92) (by decide +kernel), List.mem_of_getElem? (i := 668) (by decide +kernel), List.mem_of_getElem? (i := 669) (by decide +kernel)⟩
theorem lw_p5 : lw_okq (⟨"SmokeRings$Text", "takesDigit", "(I)Z"⟩, 7) := ⟨⟨by decide +kernel, by decide +kernel⟩, List.mem_of_getElem? (i := 92) (by decide +kernel), List.mem_of_getElem? (i := 672) (by decide +kernel), List.mem_of_getElem? (i := 673) (by decide +kernel)⟩
theorem lw_p6 : lw_okq (⟨"SmokeRings$Text", "takesClose", "()Z"⟩, 7) := ⟨⟨by decide +kernel, by decide +kernel⟩, List.mem_of_getElem? (i := 92) (by decide +kernel), List.mem_of_getElem? (i := 676) (by decide +kernel), List.mem_of_getElem? (i := 677) (by decide +kernel)⟩
theorem lw_p7 : lw_okq (⟨"SmokeRings$Text", "popAbove", "(I)V"⟩, 7) := ⟨⟨by decide +kernel, by decide +kernel⟩, List.mem_of_getElem? (i := 92) (by decide +kernel), List.mem_of_getElem? (i := 680) (by decide +kernel), List.mem_of_getElem? (i := 681) (by decide +kernel)⟩
theorem lw_p8 : lw_okq (⟨"SmokeRings$Text", "pop", "()V"⟩, 7) := ⟨⟨by decide +kernel, by decide +kernel⟩, List.mem_of_getElem? (i := 92) (by decide +kernel), List.mem_of_getElem? (i := 687) (by decide +kernel), List.mem_of_getElem? (i := 688) (by decide +kernel)⟩
theorem lw_p9 : lw_okq (⟨"SmokeRings$Text", "isComplete", "()Z"⟩, 7) := ⟨⟨by decide +kernel, by decide +kernel⟩, List.mem_of_getElem? (i := 92) (by decide +kernel), List.mem_of_getElem? (i := 691) (by decide +kernel), List.mem_of_getElem? (i := 692) (by decide +kernel)⟩
theorem lw_p10 : lw_okq (⟨"SmokeRings", "pass", "(IZ)I"⟩, 9) := ⟨⟨by decide +kernel, by decide +kernel⟩, List.mem_of_getElem? (i := 23) (by decide +kernel), List.mem_of_getElem? (i := 712) (by decide +kernel), List.mem_of_getElem? (i := 713) (by decide +kernel)⟩
theorem lw_p11 : lw_okq (⟨"SmokeRings$Room", "advance", "(LSmokeRings$Ring;LSmokeRings$Ring;)V"⟩, 13) := ⟨⟨by decide +kernel, by decide +kernel⟩, List.mem_of_getElem? (i := 31) (by decide +kernel), List.mem_of_getElem? (i := 725) (by decide +kernel), List.mem_of_getElem? (i := 726) (by decide +kernel)⟩
theorem lw_p12 : lw_okq (⟨"SmokeRings$Room", "lawOn", "(I)LSmokeRings$Law;"⟩, 13) := ⟨⟨by decide +kernel, by decide +kernel⟩, List.mem_of_getElem? (i := 31) (by decide +kernel), List.mem_of_getElem? (i := 729) (by decide +kernel), List.mem_of_getElem? (i := 730) (by decide +kernel)⟩
theorem lw_p13 : lw_okq (⟨"SmokeRings$Room", "widen", "(LSmokeRings$Ring;LSmokeRings$Ring;)V"⟩, 13) := ⟨⟨by decide +kernel, by decide +kernel⟩, List.mem_of_getElem? (i := 31) (by decide +kernel), List.mem_of_getElem? (i := 737) (by decide +kernel), List.mem_of_getElem? (i := 738) (by decide +kernel)⟩
theorem lw_p14 : lw_okq (⟨"SmokeRings$Room", "endIfDue", "(I)V"⟩, 13) := ⟨⟨by decide +kernel, by decide +kernel⟩, List.mem_of_getElem? (i := 31) (by decide +kernel), List.mem_of_getElem? (i := 746) (by decide +kernel), List.mem_of_getElem? (i := 747) (by decide +kernel)⟩
theorem lw_p15 : lw_okq (⟨"SmokeRings$Room", "endingLaw", "(LSmokeRings$Ring;LSmokeRings$Ring;)LSmokeRings$Law;"⟩, 13) := ⟨⟨by decide +kernel, by decide +kernel⟩, List.mem_of_getElem? (i := 31) (by decide +kernel), List.mem_of_getElem? (i := 750) (by decide +kernel), List.mem_of_getElem? (i := 751) (by decide +kernel)⟩
def lw_privs_1 : List (MethodName × Nat) := [(⟨"SmokeRings", "error", "(I)I"⟩, 9), (⟨"SmokeRings$Text", "push", "(I)V"⟩, 7), (⟨"SmokeRings$Text", "takesOperand", "(ILjava/lang/String;)Z"⟩, 7), (⟨"SmokeRings$Text", "append", "(I)V"⟩, 7), (⟨"SmokeRings$Text", "takesOperator", "(I)Z"⟩, 7), (⟨"SmokeRings$Text", "takesDigit", "(I)Z"⟩, 7), (⟨"SmokeRings$Text", "takesClose", "()Z"⟩, 7), (⟨"SmokeRings$Text", "popAbove", "(I)V"⟩, 7), (⟨"SmokeRings$Text", "pop", "()V"⟩, 7), (⟨"SmokeRings$Text", "isComplete", "()Z"⟩, 7), (⟨"SmokeRings", "pass", "(IZ)I"⟩, 9), (⟨"SmokeRings$Room", "advance", "(LSmokeRings$Ring;LSmokeRings$Ring;)V"⟩, 13), (⟨"SmokeRings$Room", "lawOn", "(I)LSmokeRings$Law;"⟩, 13), (⟨"SmokeRings$Room", "widen", "(LSmokeRings$Ring;LSmokeRings$Ring;)V"⟩, 13), (⟨"SmokeRings$Room", "endIfDue", "(I)V"⟩, 13), (⟨"SmokeRings$Room", "endingLaw", "(LSmokeRings$Ring;LSmokeRings$Ring;)LSmokeRings$Law;"⟩, 13)]
theorem lw_r1 : ∀ q ∈ lw_privs_1, lw_okq q := List.forall_mem_cons.mpr ⟨lw_p0, List.forall_mem_cons.mpr ⟨lw_p1, List.forall_mem_cons.mpr ⟨lw_p2, List.forall_mem_cons.mpr ⟨lw_p3, List.forall_mem_cons.mpr ⟨lw_p4, List.forall_mem_cons.mpr ⟨lw_p5, List.forall_mem_cons.mpr ⟨lw_p6, List.forall_mem_cons.mpr ⟨lw_p7, List.forall_mem_cons.mpr ⟨lw_p8, List.forall_mem_cons.mpr ⟨lw_p9, List.forall_mem_cons.mpr ⟨lw_p10, List.forall_mem_cons.mpr ⟨lw_p11, List.forall_mem_cons.mpr ⟨lw_p12, List.forall_mem_cons.mpr ⟨lw_p13, List.forall_mem_cons.mpr ⟨lw_p14, List.forall_mem_cons.mpr ⟨lw_p15, fun _ h => absurd h List.not_mem_nil⟩⟩⟩⟩⟩⟩⟩⟩⟩⟩⟩⟩⟩⟩⟩⟩
theorem lw_p16 : lw_okq (⟨"SmokeRings$Room", "settle", "(LSmokeRings$Ring;)V"⟩, 13) := ⟨⟨by decide +kernel, by decide +kernel⟩, List.mem_of_getElem? (i := 31) (by decide +kernel), List.mem_of_getElem? (i := 756) (by decide +kernel), List.mem_of_getElem? (i := 757) (by decide +kernel)⟩
theorem lw_p17 : lw_okq (⟨"SmokeRings", "goAhead", "(I)V"⟩, 9) := ⟨⟨by decide +kernel, by decide +kernel⟩, List.mem_of_getElem? (i := 23) (by decide +kernel), List.mem_of_getElem? (i := 785) (by decide +kernel), List.mem_of_getElem? (i := 786) (by decide +kernel)⟩
theorem lw_p18 : lw_okq (⟨"SmokeRings", "filmError", "(I)I"⟩, 9) := ⟨⟨by decide +kernel, by decide +kernel⟩, List.mem_of_getElem? (i := 23) (by decide +kernel), List.mem_of_getElem? (i := 854) (by decide +kernel), List.mem_of_getElem? (i := 855) (by decide +kernel)⟩
theorem lw_p19 : lw_okq (⟨"SmokeRings", "isMissing", "(I)Z"⟩, 9) := ⟨⟨by decide +kernel, by decide +kernel⟩, List.mem_of_getElem? (i := 23) (by decide +kernel), List.mem_of_getElem? (i := 861) (by decide +kernel), List.mem_of_getElem? (i := 862) (by decide +kernel)⟩
theorem lw_p20 : lw_okq (⟨"SmokeRings", "offBy", "(LSmokeRings$Row;I)I"⟩, 9) := ⟨⟨by decide +kernel, by decide +kernel⟩, List.mem_of_getElem? (i := 23) (by decide +kernel), List.mem_of_getElem? (i := 866) (by decide +kernel), List.mem_of_getElem? (i := 867) (by decide +kernel)⟩
theorem lw_p21 : lw_okq (⟨"SmokeRings", "checked", "(LSmokeRings$Row;)I"⟩, 9) := ⟨⟨by decide +kernel, by decide +kernel⟩, List.mem_of_getElem? (i := 23) (by decide +kernel), List.mem_of_getElem? (i := 1039) (by decide +kernel), List.mem_of_getElem? (i := 1040) (by decide +kernel)⟩
theorem lw_p22 : lw_okq (⟨"SmokeRingsModel", "finds", "(I)I"⟩, 21) := ⟨⟨by decide +kernel, by decide +kernel⟩, List.mem_of_getElem? (i := 1051) (by decide +kernel), List.mem_of_getElem? (i := 1136) (by decide +kernel), List.mem_of_getElem? (i := 1137) (by decide +kernel)⟩
theorem lw_p23 : lw_okq (⟨"SmokeRingsModel", "isRing", "(I)Z"⟩, 21) := ⟨⟨by decide +kernel, by decide +kernel⟩, List.mem_of_getElem? (i := 1051) (by decide +kernel), List.mem_of_getElem? (i := 1148) (by decide +kernel), List.mem_of_getElem? (i := 1149) (by decide +kernel)⟩
theorem lw_p24 : lw_okq (⟨"SmokeRingsModel", "isLaw", "(I)Z"⟩, 21) := ⟨⟨by decide +kernel, by decide +kernel⟩, List.mem_of_getElem? (i := 1051) (by decide +kernel), List.mem_of_getElem? (i := 1177) (by decide +kernel), List.mem_of_getElem? (i := 1178) (by decide +kernel)⟩
theorem lw_p25 : lw_okq (⟨"SmokeRingsModel", "worked", "(III)I"⟩, 21) := ⟨⟨by decide +kernel, by decide +kernel⟩, List.mem_of_getElem? (i := 1051) (by decide +kernel), List.mem_of_getElem? (i := 1236) (by decide +kernel), List.mem_of_getElem? (i := 1237) (by decide +kernel)⟩
theorem lw_p26 : lw_okq (⟨"SmokeRingsModel", "either", "()I"⟩, 21) := ⟨⟨by decide +kernel, by decide +kernel⟩, List.mem_of_getElem? (i := 1051) (by decide +kernel), List.mem_of_getElem? (i := 1240) (by decide +kernel), List.mem_of_getElem? (i := 1241) (by decide +kernel)⟩
theorem lw_p27 : lw_okq (⟨"SmokeRingsModel", "both", "()I"⟩, 21) := ⟨⟨by decide +kernel, by decide +kernel⟩, List.mem_of_getElem? (i := 1051) (by decide +kernel), List.mem_of_getElem? (i := 1244) (by decide +kernel), List.mem_of_getElem? (i := 1245) (by decide +kernel)⟩
theorem lw_p28 : lw_okq (⟨"SmokeRingsModel", "compared", "()I"⟩, 21) := ⟨⟨by decide +kernel, by decide +kernel⟩, List.mem_of_getElem? (i := 1051) (by decide +kernel), List.mem_of_getElem? (i := 1248) (by decide +kernel), List.mem_of_getElem? (i := 1249) (by decide +kernel)⟩
theorem lw_p29 : lw_okq (⟨"SmokeRingsModel", "sum", "()I"⟩, 21) := ⟨⟨by decide +kernel, by decide +kernel⟩, List.mem_of_getElem? (i := 1051) (by decide +kernel), List.mem_of_getElem? (i := 1252) (by decide +kernel), List.mem_of_getElem? (i := 1253) (by decide +kernel)⟩
theorem lw_p30 : lw_okq (⟨"SmokeRingsModel", "product", "()I"⟩, 21) := ⟨⟨by decide +kernel, by decide +kernel⟩, List.mem_of_getElem? (i := 1051) (by decide +kernel), List.mem_of_getElem? (i := 1256) (by decide +kernel), List.mem_of_getElem? (i := 1257) (by decide +kernel)⟩
theorem lw_p31 : lw_okq (⟨"SmokeRingsModel", "unit", "()I"⟩, 21) := ⟨⟨by decide +kernel, by decide +kernel⟩, List.mem_of_getElem? (i := 1051) (by decide +kernel), List.mem_of_getElem? (i := 1260) (by decide +kernel), List.mem_of_getElem? (i := 1261) (by decide +kernel)⟩
def lw_privs_2 : List (MethodName × Nat) := [(⟨"SmokeRings$Room", "settle", "(LSmokeRings$Ring;)V"⟩, 13), (⟨"SmokeRings", "goAhead", "(I)V"⟩, 9), (⟨"SmokeRings", "filmError", "(I)I"⟩, 9), (⟨"SmokeRings", "isMissing", "(I)Z"⟩, 9), (⟨"SmokeRings", "offBy", "(LSmokeRings$Row;I)I"⟩, 9), (⟨"SmokeRings", "checked", "(LSmokeRings$Row;)I"⟩, 9), (⟨"SmokeRingsModel", "finds", "(I)I"⟩, 21), (⟨"SmokeRingsModel", "isRing", "(I)Z"⟩, 21), (⟨"SmokeRingsModel", "isLaw", "(I)Z"⟩, 21), (⟨"SmokeRingsModel", "worked", "(III)I"⟩, 21), (⟨"SmokeRingsModel", "either", "()I"⟩, 21), (⟨"SmokeRingsModel", "both", "()I"⟩, 21), (⟨"SmokeRingsModel", "compared", "()I"⟩, 21), (⟨"SmokeRingsModel", "sum", "()I"⟩, 21), (⟨"SmokeRingsModel", "product", "()I"⟩, 21), (⟨"SmokeRingsModel", "unit", "()I"⟩, 21)]
theorem lw_r2 : ∀ q ∈ lw_privs_2, lw_okq q := List.forall_mem_cons.mpr ⟨lw_p16, List.forall_mem_cons.mpr ⟨lw_p17, List.forall_mem_cons.mpr ⟨lw_p18, List.forall_mem_cons.mpr ⟨lw_p19, List.forall_mem_cons.mpr ⟨lw_p20, List.forall_mem_cons.mpr ⟨lw_p21, List.forall_mem_cons.mpr ⟨lw_p22, List.forall_mem_cons.mpr ⟨lw_p23, List.forall_mem_cons.mpr ⟨lw_p24, List.forall_mem_cons.mpr ⟨lw_p25, List.forall_mem_cons.mpr ⟨lw_p26, List.forall_mem_cons.mpr ⟨lw_p27, List.forall_mem_cons.mpr ⟨lw_p28, List.forall_mem_cons.mpr ⟨lw_p29, List.forall_mem_cons.mpr ⟨lw_p30, List.forall_mem_cons.mpr ⟨lw_p31, fun _ h => absurd h List.not_mem_nil⟩⟩⟩⟩⟩⟩⟩⟩⟩⟩⟩⟩⟩⟩⟩⟩
theorem lw_p32 : lw_okq (⟨"SmokeRingsModel", "here", "()I"⟩, 21) := ⟨⟨by decide +kernel, by decide +kernel⟩, List.mem_of_getElem? (i := 1051) (by decide +kernel), List.mem_of_getElem? (i := 1264) (by decide +kernel), List.mem_of_getElem? (i := 1265) (by decide +kernel)⟩
theorem lw_p33 : lw_okq (⟨"SmokeRingsModel", "wrong", "()I"⟩, 21) := ⟨⟨by decide +kernel, by decide +kernel⟩, List.mem_of_getElem? (i := 1051) (by decide +kernel), List.mem_of_getElem? (i := 1268) (by decide +kernel), List.mem_of_getElem? (i := 1269) (by decide +kernel)⟩
theorem lw_p34 : lw_okq (⟨"SmokeRingsModel", "takes", "(I)Z"⟩, 21) := ⟨⟨by decide +kernel, by decide +kernel⟩, List.mem_of_getElem? (i := 1051) (by decide +kernel), List.mem_of_getElem? (i := 1272) (by decide +kernel), List.mem_of_getElem? (i := 1273) (by decide +kernel)⟩
theorem lw_p35 : lw_okq (⟨"SmokeRingsModel", "nameOf", "(I)I"⟩, 21) := ⟨⟨by decide +kernel, by decide +kernel⟩, List.mem_of_getElem? (i := 1051) (by decide +kernel), List.mem_of_getElem? (i := 1276) (by decide +kernel), List.mem_of_getElem? (i := 1277) (by decide +kernel)⟩
theorem lw_p36 : lw_okq (⟨"SmokeRingsModel", "givesOf", "(IIII)I"⟩, 21) := ⟨⟨by decide +kernel, by decide +kernel⟩, List.mem_of_getElem? (i := 1051) (by decide +kernel), List.mem_of_getElem? (i := 1286) (by decide +kernel), List.mem_of_getElem? (i := 1287) (by decide +kernel)⟩
theorem lw_p37 : lw_okq (⟨"SmokeRingsModel", "strokes", "([III)I"⟩, 21) := ⟨⟨by decide +kernel, by decide +kernel⟩, List.mem_of_getElem? (i := 1051) (by decide +kernel), List.mem_of_getElem? (i := 1302) (by decide +kernel), List.mem_of_getElem? (i := 1303) (by decide +kernel)⟩
theorem lw_p38 : lw_okq (⟨"SmokeRingsModel", "trailsOf", "(I)I"⟩, 21) := ⟨⟨by decide +kernel, by decide +kernel⟩, List.mem_of_getElem? (i := 1051) (by decide +kernel), List.mem_of_getElem? (i := 1310) (by decide +kernel), List.mem_of_getElem? (i := 1311) (by decide +kernel)⟩
theorem lw_p39 : lw_okq (⟨"SmokeRingsModel", "goesAhead", "([II)V"⟩, 21) := ⟨⟨by decide +kernel, by decide +kernel⟩, List.mem_of_getElem? (i := 1051) (by decide +kernel), List.mem_of_getElem? (i := 1319) (by decide +kernel), List.mem_of_getElem? (i := 1320) (by decide +kernel)⟩
theorem lw_p40 : lw_okq (⟨"SmokeRingsModel", "goesBy", "([I)V"⟩, 21) := ⟨⟨by decide +kernel, by decide +kernel⟩, List.mem_of_getElem? (i := 1051) (by decide +kernel), List.mem_of_getElem? (i := 1323) (by decide +kernel), List.mem_of_getElem? (i := 1324) (by decide +kernel)⟩
theorem lw_p41 : lw_okq (⟨"SmokeRingsModel", "goesOn", "([II)V"⟩, 21) := ⟨⟨by decide +kernel, by decide +kernel⟩, List.mem_of_getElem? (i := 1051) (by decide +kernel), List.mem_of_getElem? (i := 1330) (by decide +kernel), List.mem_of_getElem? (i := 1331) (by decide +kernel)⟩
theorem lw_p42 : lw_okq (⟨"SmokeRingsModel", "mayEnd", "([II)V"⟩, 21) := ⟨⟨by decide +kernel, by decide +kernel⟩, List.mem_of_getElem? (i := 1051) (by decide +kernel), List.mem_of_getElem? (i := 1335) (by decide +kernel), List.mem_of_getElem? (i := 1336) (by decide +kernel)⟩
theorem lw_p43 : lw_okq (⟨"SmokeRingsModel", "lawThatEnds", "([III)I"⟩, 21) := ⟨⟨by decide +kernel, by decide +kernel⟩, List.mem_of_getElem? (i := 1051) (by decide +kernel), List.mem_of_getElem? (i := 1339) (by decide +kernel), List.mem_of_getElem? (i := 1340) (by decide +kernel)⟩
theorem lw_p44 : lw_okq (⟨"SmokeRingsModel", "ahead", "(I)V"⟩, 21) := ⟨⟨by decide +kernel, by decide +kernel⟩, List.mem_of_getElem? (i := 1051) (by decide +kernel), List.mem_of_getElem? (i := 1363) (by decide +kernel), List.mem_of_getElem? (i := 1364) (by decide +kernel)⟩
theorem lw_p45 : lw_okq (⟨"SmokeRingsModel", "turnsIn", "([II)I"⟩, 21) := ⟨⟨by decide +kernel, by decide +kernel⟩, List.mem_of_getElem? (i := 1051) (by decide +kernel), List.mem_of_getElem? (i := 1381) (by decide +kernel), List.mem_of_getElem? (i := 1382) (by decide +kernel)⟩
theorem lw_p46 : lw_okq (⟨"SmokeRingsModel", "farIn", "([III)I"⟩, 21) := ⟨⟨by decide +kernel, by decide +kernel⟩, List.mem_of_getElem? (i := 1051) (by decide +kernel), List.mem_of_getElem? (i := 1389) (by decide +kernel), List.mem_of_getElem? (i := 1390) (by decide +kernel)⟩
theorem lw_p47 : lw_okq (⟨"SmokeRingsModel", "whyNoFilm", "(I)I"⟩, 21) := ⟨⟨by decide +kernel, by decide +kernel⟩, List.mem_of_getElem? (i := 1051) (by decide +kernel), List.mem_of_getElem? (i := 1415) (by decide +kernel), List.mem_of_getElem? (i := 1416) (by decide +kernel)⟩
def lw_privs_3 : List (MethodName × Nat) := [(⟨"SmokeRingsModel", "here", "()I"⟩, 21), (⟨"SmokeRingsModel", "wrong", "()I"⟩, 21), (⟨"SmokeRingsModel", "takes", "(I)Z"⟩, 21), (⟨"SmokeRingsModel", "nameOf", "(I)I"⟩, 21), (⟨"SmokeRingsModel", "givesOf", "(IIII)I"⟩, 21), (⟨"SmokeRingsModel", "strokes", "([III)I"⟩, 21), (⟨"SmokeRingsModel", "trailsOf", "(I)I"⟩, 21), (⟨"SmokeRingsModel", "goesAhead", "([II)V"⟩, 21), (⟨"SmokeRingsModel", "goesBy", "([I)V"⟩, 21), (⟨"SmokeRingsModel", "goesOn", "([II)V"⟩, 21), (⟨"SmokeRingsModel", "mayEnd", "([II)V"⟩, 21), (⟨"SmokeRingsModel", "lawThatEnds", "([III)I"⟩, 21), (⟨"SmokeRingsModel", "ahead", "(I)V"⟩, 21), (⟨"SmokeRingsModel", "turnsIn", "([II)I"⟩, 21), (⟨"SmokeRingsModel", "farIn", "([III)I"⟩, 21), (⟨"SmokeRingsModel", "whyNoFilm", "(I)I"⟩, 21)]
theorem lw_r3 : ∀ q ∈ lw_privs_3, lw_okq q := List.forall_mem_cons.mpr ⟨lw_p32, List.forall_mem_cons.mpr ⟨lw_p33, List.forall_mem_cons.mpr ⟨lw_p34, List.forall_mem_cons.mpr ⟨lw_p35, List.forall_mem_cons.mpr ⟨lw_p36, List.forall_mem_cons.mpr ⟨lw_p37, List.forall_mem_cons.mpr ⟨lw_p38, List.forall_mem_cons.mpr ⟨lw_p39, List.forall_mem_cons.mpr ⟨lw_p40, List.forall_mem_cons.mpr ⟨lw_p41, List.forall_mem_cons.mpr ⟨lw_p42, List.forall_mem_cons.mpr ⟨lw_p43, List.forall_mem_cons.mpr ⟨lw_p44, List.forall_mem_cons.mpr ⟨lw_p45, List.forall_mem_cons.mpr ⟨lw_p46, List.forall_mem_cons.mpr ⟨lw_p47, fun _ h => absurd h List.not_mem_nil⟩⟩⟩⟩⟩⟩⟩⟩⟩⟩⟩⟩⟩⟩⟩⟩
theorem lw_p48 : lw_okq (⟨"SmokeRingsModel", "offIn", "([II)I"⟩, 21) := ⟨⟨by decide +kernel, by decide +kernel⟩, List.mem_of_getElem? (i := 1051) (by decide +kernel), List.mem_of_getElem? (i := 1422) (by decide +kernel), List.mem_of_getElem? (i := 1423) (by decide +kernel)⟩
theorem lw_p49 : lw_okq (⟨"SmokeRingsModel", "own", "()I"⟩, 21) := ⟨⟨by decide +kernel, by decide +kernel⟩, List.mem_of_getElem? (i := 1051) (by decide +kernel), List.mem_of_getElem? (i := 1449) (by decide +kernel), List.mem_of_getElem? (i := 1450) (by decide +kernel)⟩
theorem lw_p50 : lw_okq (⟨"SmokeRingsModel", "goes", "(II)I"⟩, 21) := ⟨⟨by decide +kernel, by decide +kernel⟩, List.mem_of_getElem? (i := 1051) (by decide +kernel), List.mem_of_getElem? (i := 1453) (by decide +kernel), List.mem_of_getElem? (i := 1454) (by decide +kernel)⟩
theorem lw_p51 : lw_okq (⟨"SmokeRingsModel", "ran", "(I)V"⟩, 21) := ⟨⟨by decide +kernel, by decide +kernel⟩, List.mem_of_getElem? (i := 1051) (by decide +kernel), List.mem_of_getElem? (i := 1457) (by decide +kernel), List.mem_of_getElem? (i := 1458) (by decide +kernel)⟩
theorem lw_p52 : lw_okq (⟨"SmokeRingsModel", "moves", "(II)I"⟩, 21) := ⟨⟨by decide +kernel, by decide +kernel⟩, List.mem_of_getElem? (i := 1051) (by decide +kernel), List.mem_of_getElem? (i := 1464) (by decide +kernel), List.mem_of_getElem? (i := 1465) (by decide +kernel)⟩
theorem lw_p53 : lw_okq (⟨"SmokeRingsModel", "ends", "(II)I"⟩, 21) := ⟨⟨by decide +kernel, by decide +kernel⟩, List.mem_of_getElem? (i := 1051) (by decide +kernel), List.mem_of_getElem? (i := 1468) (by decide +kernel), List.mem_of_getElem? (i := 1469) (by decide +kernel)⟩
theorem lw_p54 : lw_okq (⟨"SmokeRingsModel", "toldM", "()I"⟩, 21) := ⟨⟨by decide +kernel, by decide +kernel⟩, List.mem_of_getElem? (i := 1051) (by decide +kernel), List.mem_of_getElem? (i := 1472) (by decide +kernel), List.mem_of_getElem? (i := 1473) (by decide +kernel)⟩
theorem lw_p55 : lw_okq (⟨"SmokeRingsModel", "tells", "(II)I"⟩, 21) := ⟨⟨by decide +kernel, by decide +kernel⟩, List.mem_of_getElem? (i := 1051) (by decide +kernel), List.mem_of_getElem? (i := 1476) (by decide +kernel), List.mem_of_getElem? (i := 1477) (by decide +kernel)⟩
def lw_privs_4 : List (MethodName × Nat) := [(⟨"SmokeRingsModel", "offIn", "([II)I"⟩, 21), (⟨"SmokeRingsModel", "own", "()I"⟩, 21), (⟨"SmokeRingsModel", "goes", "(II)I"⟩, 21), (⟨"SmokeRingsModel", "ran", "(I)V"⟩, 21), (⟨"SmokeRingsModel", "moves", "(II)I"⟩, 21), (⟨"SmokeRingsModel", "ends", "(II)I"⟩, 21), (⟨"SmokeRingsModel", "toldM", "()I"⟩, 21), (⟨"SmokeRingsModel", "tells", "(II)I"⟩, 21)]
theorem lw_r4 : ∀ q ∈ lw_privs_4, lw_okq q := List.forall_mem_cons.mpr ⟨lw_p48, List.forall_mem_cons.mpr ⟨lw_p49, List.forall_mem_cons.mpr ⟨lw_p50, List.forall_mem_cons.mpr ⟨lw_p51, List.forall_mem_cons.mpr ⟨lw_p52, List.forall_mem_cons.mpr ⟨lw_p53, List.forall_mem_cons.mpr ⟨lw_p54, List.forall_mem_cons.mpr ⟨lw_p55, fun _ h => absurd h List.not_mem_nil⟩⟩⟩⟩⟩⟩⟩⟩
def lw_privs : List (MethodName × Nat) := lw_privs_1 ++ (lw_privs_2 ++ (lw_privs_3 ++ (lw_privs_4)))
def lw_tbl : List Cond := k2_sels lw_privs ++ tables_1
theorem lw_privs_ok : ∀ q ∈ lw_privs, lw_okq q := by
  show ∀ q ∈ lw_privs_1 ++ (lw_privs_2 ++ (lw_privs_3 ++ (lw_privs_4))), lw_okq q
  exact List.forall_mem_append.mpr ⟨lw_r1, List.forall_mem_append.mpr ⟨lw_r2, List.forall_mem_append.mpr ⟨lw_r3, lw_r4⟩⟩⟩
end
section

/-! ===== BEGIN printed: names, fields, word lists, decode rows ===== -/
def RX0 : String := "SmokeRings$Headlong"
def TX0 : u_T := fun k => match k with
  | 0 => ("SmokeRings$Law", "kind", "I", true)
  | 1 => ("SmokeRings$Law", "number", "I", true)
  | _ => ("SmokeRings$Law", "m", "I", true)
def tyX0 : Nat → FieldType := fun k => match k with
  | 0 => .int
  | 1 => .int
  | _ => .int
abbrev wsX00 : List Cond := u_ws RX0 TX0 3
theorem nmX0 : ∀ a, a < 3 → ∀ b, b < 3 → a ≠ b → (TX0 a).2.1 ≠ (TX0 b).2.1 := by decide +kernel
theorem tyX0_ok : ∀ k, k < 3 → parseFieldDescriptor (TX0 k).2.2.1 = some (tyX0 k) := by decide +kernel
abbrev cX0_init : ByteArray := prog_2_method_1_code
def yX0_init : MethodName := ⟨RX0, "<init>", "(III)V"⟩
abbrev cX0_widens : ByteArray := prog_2_method_2_code
def yX0_widens : MethodName := ⟨RX0, "widens", "(LSmokeRings$Ring;LSmokeRings$Ring;)I"⟩
abbrev cX0_ends : ByteArray := prog_2_method_3_code
def yX0_ends : MethodName := ⟨RX0, "ends", "(ILSmokeRings$Row;)I"⟩
def RX1 : String := "SmokeRings$Joining"
def TX1 : u_T := fun k => match k with
  | 0 => ("SmokeRings$Law", "kind", "I", true)
  | 1 => ("SmokeRings$Law", "number", "I", true)
  | _ => ("SmokeRings$Law", "m", "I", true)
def tyX1 : Nat → FieldType := fun k => match k with
  | 0 => .int
  | 1 => .int
  | _ => .int
abbrev wsX10 : List Cond := u_ws RX1 TX1 3
theorem nmX1 : ∀ a, a < 3 → ∀ b, b < 3 → a ≠ b → (TX1 a).2.1 ≠ (TX1 b).2.1 := by decide +kernel
theorem tyX1_ok : ∀ k, k < 3 → parseFieldDescriptor (TX1 k).2.2.1 = some (tyX1 k) := by decide +kernel
abbrev cX1_init : ByteArray := prog_3_method_1_code
def yX1_init : MethodName := ⟨RX1, "<init>", "(II)V"⟩
abbrev cX1_endsBy : ByteArray := prog_3_method_2_code
def yX1_endsBy : MethodName := ⟨RX1, "endsBy", "(LSmokeRings$Ring;LSmokeRings$Ring;)Z"⟩
abbrev cX1_goes : ByteArray := prog_3_method_3_code
def yX1_goes : MethodName := ⟨RX1, "goes", "(ILSmokeRings$Row;)I"⟩
def RX2 : String := "SmokeRings$Law"
def TX2 : u_T := fun k => match k with
  | 0 => ("SmokeRings$Law", "kind", "I", true)
  | 1 => ("SmokeRings$Law", "number", "I", true)
  | _ => ("SmokeRings$Law", "m", "I", true)
def tyX2 : Nat → FieldType := fun k => match k with
  | 0 => .int
  | 1 => .int
  | _ => .int
abbrev wsX20 : List Cond := u_ws RX2 TX2 3
theorem nmX2 : ∀ a, a < 3 → ∀ b, b < 3 → a ≠ b → (TX2 a).2.1 ≠ (TX2 b).2.1 := by decide +kernel
theorem tyX2_ok : ∀ k, k < 3 → parseFieldDescriptor (TX2 k).2.2.1 = some (tyX2 k) := by decide +kernel
abbrev cX2_init : ByteArray := prog_4_method_1_code
def yX2_init : MethodName := ⟨RX2, "<init>", "(III)V"⟩
abbrev cX2_pull : ByteArray := prog_4_method_2_code
def yX2_pull : MethodName := ⟨RX2, "pull", "(LSmokeRings$Ring;LSmokeRings$Ring;)I"⟩
abbrev cX2_widens : ByteArray := prog_4_method_3_code
def yX2_widens : MethodName := ⟨RX2, "widens", "(LSmokeRings$Ring;LSmokeRings$Ring;)I"⟩
abbrev cX2_spreads : ByteArray := prog_4_method_4_code
def yX2_spreads : MethodName := ⟨RX2, "spreads", "(LSmokeRings$Ring;I)I"⟩
abbrev cX2_lifts : ByteArray := prog_4_method_5_code
def yX2_lifts : MethodName := ⟨RX2, "lifts", "(LSmokeRings$Ring;I)I"⟩
abbrev cX2_endsBy : ByteArray := prog_4_method_6_code
def yX2_endsBy : MethodName := ⟨RX2, "endsBy", "(LSmokeRings$Ring;LSmokeRings$Ring;)Z"⟩
abbrev cX2_goes : ByteArray := prog_4_method_7_code
def yX2_goes : MethodName := ⟨RX2, "goes", "(ILSmokeRings$Row;)I"⟩
abbrev cX2_moves : ByteArray := prog_4_method_8_code
def yX2_moves : MethodName := ⟨RX2, "moves", "(ILSmokeRings$Row;)I"⟩
abbrev cX2_ends : ByteArray := prog_4_method_9_code
def yX2_ends : MethodName := ⟨RX2, "ends", "(ILSmokeRings$Row;)I"⟩
abbrev cX2_tells : ByteArray := prog_4_method_10_code
def yX2_tells : MethodName := ⟨RX2, "tells", "(ILSmokeRings$Row;)I"⟩
def RX3 : String := "SmokeRings$Ring"
def TX3 : u_T := fun k => match k with
  | 0 => ("SmokeRings$Ring", "number", "I", true)
  | 1 => ("SmokeRings$Ring", "x", "I", false)
  | 2 => ("SmokeRings$Ring", "y", "I", false)
  | 3 => ("SmokeRings$Ring", "way", "I", false)
  | 4 => ("SmokeRings$Ring", "turning", "I", false)
  | 5 => ("SmokeRings$Ring", "wide", "I", false)
  | 6 => ("SmokeRings$Ring", "thick", "I", false)
  | _ => ("SmokeRings$Ring", "whole", "Z", false)
def tyX3 : Nat → FieldType := fun k => match k with
  | 0 => .int
  | 1 => .int
  | 2 => .int
  | 3 => .int
  | 4 => .int
  | 5 => .int
  | 6 => .int
  | _ => .boolean
abbrev wsX30 : List Cond := u_ws RX3 TX3 8
theorem nmX3 : ∀ a, a < 8 → ∀ b, b < 8 → a ≠ b → (TX3 a).2.1 ≠ (TX3 b).2.1 := by decide +kernel
theorem tyX3_ok : ∀ k, k < 8 → parseFieldDescriptor (TX3 k).2.2.1 = some (tyX3 k) := by decide +kernel
abbrev cX3_init : ByteArray := prog_5_method_1_code
def yX3_init : MethodName := ⟨RX3, "<init>", "(I)V"⟩
abbrev cX3_become : ByteArray := prog_5_method_2_code
def yX3_become : MethodName := ⟨RX3, "become", "(LSmokeRings$Ring;)V"⟩
abbrev cX3_pace : ByteArray := prog_5_method_3_code
def yX3_pace : MethodName := ⟨RX3, "pace", "()I"⟩
abbrev cX3_trait : ByteArray := prog_5_method_4_code
def yX3_trait : MethodName := ⟨RX3, "trait", "(I)I"⟩
abbrev cX3_gap : ByteArray := prog_5_method_5_code
def yX3_gap : MethodName := ⟨RX3, "gap", "(LSmokeRings$Ring;)I"⟩
abbrev cX3_isNear : ByteArray := prog_5_method_6_code
def yX3_isNear : MethodName := ⟨RX3, "isNear", "(LSmokeRings$Ring;)Z"⟩
abbrev cX3_isBehind : ByteArray := prog_5_method_7_code
def yX3_isBehind : MethodName := ⟨RX3, "isBehind", "(LSmokeRings$Ring;)Z"⟩
def RX4 : String := "SmokeRings$Room"
def TX4 : u_T := fun k => match k with
  | 0 => ("SmokeRings$Room", "rings", "[LSmokeRings$Ring;", true)
  | 1 => ("SmokeRings$Room", "ringCount", "I", false)
  | 2 => ("SmokeRings$Room", "before", "[LSmokeRings$Ring;", true)
  | 3 => ("SmokeRings$Room", "laws", "[LSmokeRings$Law;", true)
  | 4 => ("SmokeRings$Room", "lawCount", "I", false)
  | 5 => ("SmokeRings$Room", "on", "I", false)
  | 6 => ("SmokeRings$Room", "wall", "I", false)
  | 7 => ("SmokeRings$Room", "hole", "I", false)
  | 8 => ("SmokeRings$Room", "now", "I", false)
  | 9 => ("SmokeRings$Room", "z", "I", false)
  | 10 => ("SmokeRings$Room", "texts", "[LSmokeRings$Text;", true)
  | 11 => ("SmokeRings$Room", "tape", "LSmokeRings$Row;", true)
  | _ => ("SmokeRings$Room", "waiting", "LSmokeRings$Row;", true)
def tyX4 : Nat → FieldType := fun k => match k with
  | 0 => .array (.object "SmokeRings$Ring")
  | 1 => .int
  | 2 => .array (.object "SmokeRings$Ring")
  | 3 => .array (.object "SmokeRings$Law")
  | 4 => .int
  | 5 => .int
  | 6 => .int
  | 7 => .int
  | 8 => .int
  | 9 => .int
  | 10 => .array (.object "SmokeRings$Text")
  | 11 => .object "SmokeRings$Row"
  | _ => .object "SmokeRings$Row"
abbrev wsX40 : List Cond := u_ws RX4 TX4 13
theorem nmX4 : ∀ a, a < 13 → ∀ b, b < 13 → a ≠ b → (TX4 a).2.1 ≠ (TX4 b).2.1 := by decide +kernel
theorem tyX4_ok : ∀ k, k < 13 → parseFieldDescriptor (TX4 k).2.2.1 = some (tyX4 k) := by decide +kernel
abbrev cX4_init : ByteArray := prog_6_method_1_code
def yX4_init : MethodName := ⟨RX4, "<init>", "()V"⟩
abbrev cX4_become : ByteArray := prog_6_method_2_code
def yX4_become : MethodName := ⟨RX4, "become", "(LSmokeRings$Room;)V"⟩
abbrev cX4_takeRings : ByteArray := prog_6_method_3_code
def yX4_takeRings : MethodName := ⟨RX4, "takeRings", "(LSmokeRings$Room;)V"⟩
abbrev cX4_isFull : ByteArray := prog_6_method_4_code
def yX4_isFull : MethodName := ⟨RX4, "isFull", "()Z"⟩
abbrev cX4_hasRing : ByteArray := prog_6_method_5_code
def yX4_hasRing : MethodName := ⟨RX4, "hasRing", "(I)Z"⟩
abbrev cX4_hasLaw : ByteArray := prog_6_method_6_code
def yX4_hasLaw : MethodName := ⟨RX4, "hasLaw", "(I)Z"⟩
abbrev cX4_isOn : ByteArray := prog_6_method_7_code
def yX4_isOn : MethodName := ⟨RX4, "isOn", "(I)Z"⟩
abbrev cX4_lawOn : ByteArray := prog_6_method_8_code
def yX4_lawOn : MethodName := ⟨RX4, "lawOn", "(I)LSmokeRings$Law;"⟩
abbrev cX4_addRing : ByteArray := prog_6_method_9_code
def yX4_addRing : MethodName := ⟨RX4, "addRing", "(IIIIII)I"⟩
abbrev cX4_addStroke : ByteArray := prog_6_method_10_code
def yX4_addStroke : MethodName := ⟨RX4, "addStroke", "(II)I"⟩
abbrev cX4_addLaw : ByteArray := prog_6_method_11_code
def yX4_addLaw : MethodName := ⟨RX4, "addLaw", "(LSmokeRings$Law;)I"⟩
abbrev cX4_trailing : ByteArray := prog_6_method_12_code
def yX4_trailing : MethodName := ⟨RX4, "trailing", "(I)I"⟩
abbrev cX4_given : ByteArray := prog_6_method_13_code
def yX4_given : MethodName := ⟨RX4, "given", "(IIII)I"⟩
abbrev cX4_foremost : ByteArray := prog_6_method_14_code
def yX4_foremost : MethodName := ⟨RX4, "foremost", "()I"⟩
abbrev cX4_wholeCount : ByteArray := prog_6_method_15_code
def yX4_wholeCount : MethodName := ⟨RX4, "wholeCount", "()I"⟩
abbrev cX4_changesOfFront : ByteArray := prog_6_method_16_code
def yX4_changesOfFront : MethodName := ⟨RX4, "changesOfFront", "(II)I"⟩
abbrev cX4_greatestX : ByteArray := prog_6_method_17_code
def yX4_greatestX : MethodName := ⟨RX4, "greatestX", "(II)I"⟩
abbrev cX4_tick : ByteArray := prog_6_method_18_code
def yX4_tick : MethodName := ⟨RX4, "tick", "()V"⟩
abbrev cX4_blow : ByteArray := prog_6_method_19_code
def yX4_blow : MethodName := ⟨RX4, "blow", "()V"⟩
abbrev cX4_advance : ByteArray := prog_6_method_20_code
def yX4_advance : MethodName := ⟨RX4, "advance", "(LSmokeRings$Ring;LSmokeRings$Ring;)V"⟩
abbrev cX4_widen : ByteArray := prog_6_method_21_code
def yX4_widen : MethodName := ⟨RX4, "widen", "(LSmokeRings$Ring;LSmokeRings$Ring;)V"⟩
abbrev cX4_isOther : ByteArray := prog_6_method_22_code
def yX4_isOther : MethodName := ⟨RX4, "isOther", "(LSmokeRings$Ring;LSmokeRings$Ring;)Z"⟩
abbrev cX4_endIfDue : ByteArray := prog_6_method_23_code
def yX4_endIfDue : MethodName := ⟨RX4, "endIfDue", "(I)V"⟩
abbrev cX4_endingLaw : ByteArray := prog_6_method_24_code
def yX4_endingLaw : MethodName := ⟨RX4, "endingLaw", "(LSmokeRings$Ring;LSmokeRings$Ring;)LSmokeRings$Law;"⟩
abbrev cX4_settle : ByteArray := prog_6_method_25_code
def yX4_settle : MethodName := ⟨RX4, "settle", "(LSmokeRings$Ring;)V"⟩
def RX5 : String := "SmokeRings$Row"
def TX5 : u_T := fun k => match k with
  | 0 => ("SmokeRings$Row", "numbers", "[I", true)
  | 1 => ("SmokeRings$Row", "size", "I", false)
  | _ => ("SmokeRings$Row", "bits", "I", false)
def tyX5 : Nat → FieldType := fun k => match k with
  | 0 => .array .int
  | 1 => .int
  | _ => .int
abbrev wsX50 : List Cond := u_ws RX5 TX5 3
theorem nmX5 : ∀ a, a < 3 → ∀ b, b < 3 → a ≠ b → (TX5 a).2.1 ≠ (TX5 b).2.1 := by decide +kernel
theorem tyX5_ok : ∀ k, k < 3 → parseFieldDescriptor (TX5 k).2.2.1 = some (tyX5 k) := by decide +kernel
abbrev cX5_init : ByteArray := prog_7_method_1_code
def yX5_init : MethodName := ⟨RX5, "<init>", "(I)V"⟩
abbrev cX5_become : ByteArray := prog_7_method_2_code
def yX5_become : MethodName := ⟨RX5, "become", "(LSmokeRings$Row;)V"⟩
abbrev cX5_add : ByteArray := prog_7_method_3_code
def yX5_add : MethodName := ⟨RX5, "add", "(I)V"⟩
abbrev cX5_has : ByteArray := prog_7_method_4_code
def yX5_has : MethodName := ⟨RX5, "has", "(I)Z"⟩
abbrev cX5_stands : ByteArray := prog_7_method_5_code
def yX5_stands : MethodName := ⟨RX5, "stands", "(II)Z"⟩
abbrev cX5_begin : ByteArray := prog_7_method_6_code
def yX5_begin : MethodName := ⟨RX5, "begin", "(II)V"⟩
abbrev cX5_write : ByteArray := prog_7_method_7_code
def yX5_write : MethodName := ⟨RX5, "write", "(II)V"⟩
def RX6 : String := "SmokeRings$Slanted"
def TX6 : u_T := fun k => match k with
  | 0 => ("SmokeRings$Law", "kind", "I", true)
  | 1 => ("SmokeRings$Law", "number", "I", true)
  | _ => ("SmokeRings$Law", "m", "I", true)
def tyX6 : Nat → FieldType := fun k => match k with
  | 0 => .int
  | 1 => .int
  | _ => .int
abbrev wsX60 : List Cond := u_ws RX6 TX6 3
theorem nmX6 : ∀ a, a < 3 → ∀ b, b < 3 → a ≠ b → (TX6 a).2.1 ≠ (TX6 b).2.1 := by decide +kernel
theorem tyX6_ok : ∀ k, k < 3 → parseFieldDescriptor (TX6 k).2.2.1 = some (tyX6 k) := by decide +kernel
abbrev cX6_init : ByteArray := prog_8_method_1_code
def yX6_init : MethodName := ⟨RX6, "<init>", "(II)V"⟩
abbrev cX6_spreads : ByteArray := prog_8_method_2_code
def yX6_spreads : MethodName := ⟨RX6, "spreads", "(LSmokeRings$Ring;I)I"⟩
abbrev cX6_lifts : ByteArray := prog_8_method_3_code
def yX6_lifts : MethodName := ⟨RX6, "lifts", "(LSmokeRings$Ring;I)I"⟩
abbrev cX6_ends : ByteArray := prog_8_method_4_code
def yX6_ends : MethodName := ⟨RX6, "ends", "(ILSmokeRings$Row;)I"⟩
abbrev cX6_tells : ByteArray := prog_8_method_5_code
def yX6_tells : MethodName := ⟨RX6, "tells", "(ILSmokeRings$Row;)I"⟩
def RX7 : String := "SmokeRings$Text"
def TX7 : u_T := fun k => match k with
  | 0 => ("SmokeRings$Text", "codes", "[I", true)
  | 1 => ("SmokeRings$Text", "size", "I", false)
  | 2 => ("SmokeRings$Text", "stack", "[I", true)
  | 3 => ("SmokeRings$Text", "top", "I", false)
  | 4 => ("SmokeRings$Text", "open", "I", false)
  | 5 => ("SmokeRings$Text", "digits", "I", false)
  | _ => ("SmokeRings$Text", "wanting", "Z", false)
def tyX7 : Nat → FieldType := fun k => match k with
  | 0 => .array .int
  | 1 => .int
  | 2 => .array .int
  | 3 => .int
  | 4 => .int
  | 5 => .int
  | _ => .boolean
abbrev wsX70 : List Cond := u_ws RX7 TX7 7
theorem nmX7 : ∀ a, a < 7 → ∀ b, b < 7 → a ≠ b → (TX7 a).2.1 ≠ (TX7 b).2.1 := by decide +kernel
theorem tyX7_ok : ∀ k, k < 7 → parseFieldDescriptor (TX7 k).2.2.1 = some (tyX7 k) := by decide +kernel
abbrev cX7_init : ByteArray := prog_9_method_1_code
def yX7_init : MethodName := ⟨RX7, "<init>", "()V"⟩
abbrev cX7_become : ByteArray := prog_9_method_2_code
def yX7_become : MethodName := ⟨RX7, "become", "(LSmokeRings$Text;)V"⟩
abbrev cX7_read : ByteArray := prog_9_method_3_code
def yX7_read : MethodName := ⟨RX7, "read", "(LSmokeRings$Row;Ljava/lang/String;)I"⟩
abbrev cX7_takesOperand : ByteArray := prog_9_method_4_code
def yX7_takesOperand : MethodName := ⟨RX7, "takesOperand", "(ILjava/lang/String;)Z"⟩
abbrev cX7_takesOperator : ByteArray := prog_9_method_5_code
def yX7_takesOperator : MethodName := ⟨RX7, "takesOperator", "(I)Z"⟩
abbrev cX7_takesDigit : ByteArray := prog_9_method_6_code
def yX7_takesDigit : MethodName := ⟨RX7, "takesDigit", "(I)Z"⟩
abbrev cX7_takesClose : ByteArray := prog_9_method_7_code
def yX7_takesClose : MethodName := ⟨RX7, "takesClose", "()Z"⟩
abbrev cX7_isComplete : ByteArray := prog_9_method_8_code
def yX7_isComplete : MethodName := ⟨RX7, "isComplete", "()Z"⟩
abbrev cX7_popAbove : ByteArray := prog_9_method_9_code
def yX7_popAbove : MethodName := ⟨RX7, "popAbove", "(I)V"⟩
abbrev cX7_pop : ByteArray := prog_9_method_10_code
def yX7_pop : MethodName := ⟨RX7, "pop", "()V"⟩
abbrev cX7_push : ByteArray := prog_9_method_11_code
def yX7_push : MethodName := ⟨RX7, "push", "(I)V"⟩
abbrev cX7_append : ByteArray := prog_9_method_12_code
def yX7_append : MethodName := ⟨RX7, "append", "(I)V"⟩
abbrev cX7_value : ByteArray := prog_9_method_13_code
def yX7_value : MethodName := ⟨RX7, "value", "(III)I"⟩
abbrev cX7_result : ByteArray := prog_9_method_14_code
def yX7_result : MethodName := ⟨RX7, "result", "(III)I"⟩
abbrev cX7_rank : ByteArray := prog_9_method_15_code
def yX7_rank : MethodName := ⟨RX7, "rank", "(I)I"⟩
abbrev cX7_isDigit : ByteArray := prog_9_method_16_code
def yX7_isDigit : MethodName := ⟨RX7, "isDigit", "(I)Z"⟩
def RX8 : String := "SmokeRings$Through"
def TX8 : u_T := fun k => match k with
  | 0 => ("SmokeRings$Law", "kind", "I", true)
  | 1 => ("SmokeRings$Law", "number", "I", true)
  | _ => ("SmokeRings$Law", "m", "I", true)
def tyX8 : Nat → FieldType := fun k => match k with
  | 0 => .int
  | 1 => .int
  | _ => .int
abbrev wsX80 : List Cond := u_ws RX8 TX8 3
theorem nmX8 : ∀ a, a < 3 → ∀ b, b < 3 → a ≠ b → (TX8 a).2.1 ≠ (TX8 b).2.1 := by decide +kernel
theorem tyX8_ok : ∀ k, k < 3 → parseFieldDescriptor (TX8 k).2.2.1 = some (tyX8 k) := by decide +kernel
abbrev cX8_init : ByteArray := prog_10_method_1_code
def yX8_init : MethodName := ⟨RX8, "<init>", "(II)V"⟩
abbrev cX8_widens : ByteArray := prog_10_method_2_code
def yX8_widens : MethodName := ⟨RX8, "widens", "(LSmokeRings$Ring;LSmokeRings$Ring;)I"⟩
abbrev cX8_moves : ByteArray := prog_10_method_3_code
def yX8_moves : MethodName := ⟨RX8, "moves", "(ILSmokeRings$Row;)I"⟩
def RX9 : String := "SmokeRings$Torn"
def TX9 : u_T := fun k => match k with
  | 0 => ("SmokeRings$Law", "kind", "I", true)
  | 1 => ("SmokeRings$Law", "number", "I", true)
  | _ => ("SmokeRings$Law", "m", "I", true)
def tyX9 : Nat → FieldType := fun k => match k with
  | 0 => .int
  | 1 => .int
  | _ => .int
abbrev wsX90 : List Cond := u_ws RX9 TX9 3
theorem nmX9 : ∀ a, a < 3 → ∀ b, b < 3 → a ≠ b → (TX9 a).2.1 ≠ (TX9 b).2.1 := by decide +kernel
theorem tyX9_ok : ∀ k, k < 3 → parseFieldDescriptor (TX9 k).2.2.1 = some (tyX9 k) := by decide +kernel
abbrev cX9_init : ByteArray := prog_11_method_1_code
def yX9_init : MethodName := ⟨RX9, "<init>", "(II)V"⟩
abbrev cX9_endsBy : ByteArray := prog_11_method_2_code
def yX9_endsBy : MethodName := ⟨RX9, "endsBy", "(LSmokeRings$Ring;LSmokeRings$Ring;)Z"⟩
abbrev cX9_goes : ByteArray := prog_11_method_3_code
def yX9_goes : MethodName := ⟨RX9, "goes", "(ILSmokeRings$Row;)I"⟩
abbrev cX9_tells : ByteArray := prog_11_method_4_code
def yX9_tells : MethodName := ⟨RX9, "tells", "(ILSmokeRings$Row;)I"⟩
def RX10 : String := "SmokeRings$Walled"
def TX10 : u_T := fun k => match k with
  | 0 => ("SmokeRings$Law", "kind", "I", true)
  | 1 => ("SmokeRings$Law", "number", "I", true)
  | _ => ("SmokeRings$Law", "m", "I", true)
def tyX10 : Nat → FieldType := fun k => match k with
  | 0 => .int
  | 1 => .int
  | _ => .int
abbrev wsX100 : List Cond := u_ws RX10 TX10 3
theorem nmX10 : ∀ a, a < 3 → ∀ b, b < 3 → a ≠ b → (TX10 a).2.1 ≠ (TX10 b).2.1 := by decide +kernel
theorem tyX10_ok : ∀ k, k < 3 → parseFieldDescriptor (TX10 k).2.2.1 = some (tyX10 k) := by decide +kernel
abbrev cX10_init : ByteArray := prog_12_method_1_code
def yX10_init : MethodName := ⟨RX10, "<init>", "(III)V"⟩
abbrev cX10_widens : ByteArray := prog_12_method_2_code
def yX10_widens : MethodName := ⟨RX10, "widens", "(LSmokeRings$Ring;LSmokeRings$Ring;)I"⟩
abbrev cX10_spreads : ByteArray := prog_12_method_3_code
def yX10_spreads : MethodName := ⟨RX10, "spreads", "(LSmokeRings$Ring;I)I"⟩
abbrev cX10_moves : ByteArray := prog_12_method_4_code
def yX10_moves : MethodName := ⟨RX10, "moves", "(ILSmokeRings$Row;)I"⟩
def RX11 : String := "SmokeRings"
def TX11 : u_T := fun k => match k with
  | 0 => ("SmokeRings", "room", "LSmokeRings$Room;", true)
  | 1 => ("SmokeRings", "ahead", "LSmokeRings$Room;", true)
  | 2 => ("SmokeRings", "start", "LSmokeRings$Room;", true)
  | 3 => ("SmokeRings", "kept", "LSmokeRings$Room;", true)
  | 4 => ("SmokeRings", "images", "I", false)
  | 5 => ("SmokeRings", "sheets", "[LSmokeRings$Row;", true)
  | 6 => ("SmokeRings", "traced", "LSmokeRings$Row;", true)
  | 7 => ("SmokeRings", "fresh", "LSmokeRings$Text;", true)
  | _ => ("SmokeRings", "errors", "[I", true)
def tyX11 : Nat → FieldType := fun k => match k with
  | 0 => .object "SmokeRings$Room"
  | 1 => .object "SmokeRings$Room"
  | 2 => .object "SmokeRings$Room"
  | 3 => .object "SmokeRings$Room"
  | 4 => .int
  | 5 => .array (.object "SmokeRings$Row")
  | 6 => .object "SmokeRings$Row"
  | 7 => .object "SmokeRings$Text"
  | _ => .array .int
abbrev wsX110 : List Cond := u_ws RX11 TX11 9
theorem nmX11 : ∀ a, a < 9 → ∀ b, b < 9 → a ≠ b → (TX11 a).2.1 ≠ (TX11 b).2.1 := by decide +kernel
theorem tyX11_ok : ∀ k, k < 9 → parseFieldDescriptor (TX11 k).2.2.1 = some (tyX11 k) := by decide +kernel
abbrev cX11_init : ByteArray := prog_1_method_1_code
def yX11_init : MethodName := ⟨RX11, "<init>", "()V"⟩
abbrev cX11_ring : ByteArray := prog_1_method_2_code
def yX11_ring : MethodName := ⟨RX11, "ring", "(IIII)I"⟩
abbrev cX11_ofRing : ByteArray := prog_1_method_3_code
def yX11_ofRing : MethodName := ⟨RX11, "ofRing", "(II)I"⟩
abbrev cX11_end : ByteArray := prog_1_method_4_code
def yX11_end : MethodName := ⟨RX11, "end", "(I)I"⟩
abbrev cX11_wall : ByteArray := prog_1_method_5_code
def yX11_wall : MethodName := ⟨RX11, "wall", "(I)I"⟩
abbrev cX11_law : ByteArray := prog_1_method_6_code
def yX11_law : MethodName := ⟨RX11, "law", "(II)I"⟩
abbrev cX11_ofLaw : ByteArray := prog_1_method_7_code
def yX11_ofLaw : MethodName := ⟨RX11, "ofLaw", "(II)I"⟩
abbrev cX11_as : ByteArray := prog_1_method_8_code
def yX11_as : MethodName := ⟨RX11, "as", "(II)I"⟩
abbrev cX11_turn : ByteArray := prog_1_method_9_code
def yX11_turn : MethodName := ⟨RX11, "turn", "(II)I"⟩
abbrev cX11_does : ByteArray := prog_1_method_10_code
def yX11_does : MethodName := ⟨RX11, "does", "(IIII)I"⟩
abbrev cX11_pair : ByteArray := prog_1_method_11_code
def yX11_pair : MethodName := ⟨RX11, "pair", "(III)I"⟩
abbrev cX11_hole : ByteArray := prog_1_method_12_code
def yX11_hole : MethodName := ⟨RX11, "hole", "(I)I"⟩
abbrev cX11_stroke : ByteArray := prog_1_method_13_code
def yX11_stroke : MethodName := ⟨RX11, "stroke", "(II)I"⟩
abbrev cX11_trails : ByteArray := prog_1_method_14_code
def yX11_trails : MethodName := ⟨RX11, "trails", "(I)I"⟩
abbrev cX11_feed : ByteArray := prog_1_method_15_code
def yX11_feed : MethodName := ⟨RX11, "feed", "(JI)I"⟩
abbrev cX11_text : ByteArray := prog_1_method_16_code
def yX11_text : MethodName := ⟨RX11, "text", "(I)I"⟩
abbrev cX11_gives : ByteArray := prog_1_method_17_code
def yX11_gives : MethodName := ⟨RX11, "gives", "(IIII)I"⟩
abbrev cX11_ticks : ByteArray := prog_1_method_18_code
def yX11_ticks : MethodName := ⟨RX11, "ticks", "(I)I"⟩
abbrev cX11_breeze : ByteArray := prog_1_method_19_code
def yX11_breeze : MethodName := ⟨RX11, "breeze", "(I)I"⟩
abbrev cX11_front : ByteArray := prog_1_method_20_code
def yX11_front : MethodName := ⟨RX11, "front", "()I"⟩
abbrev cX11_then : ByteArray := prog_1_method_21_code
def yX11_then : MethodName := ⟨RX11, "then", "(III)I"⟩
abbrev cX11_whole : ByteArray := prog_1_method_22_code
def yX11_whole : MethodName := ⟨RX11, "whole", "(I)I"⟩
abbrev cX11_turns : ByteArray := prog_1_method_23_code
def yX11_turns : MethodName := ⟨RX11, "turns", "(I)I"⟩
abbrev cX11_far : ByteArray := prog_1_method_24_code
def yX11_far : MethodName := ⟨RX11, "far", "(II)I"⟩
abbrev cX11_knock : ByteArray := prog_1_method_25_code
def yX11_knock : MethodName := ⟨RX11, "knock", "(III)I"⟩
abbrev cX11_farthest : ByteArray := prog_1_method_26_code
def yX11_farthest : MethodName := ⟨RX11, "farthest", "(III)I"⟩
abbrev cX11_second : ByteArray := prog_1_method_27_code
def yX11_second : MethodName := ⟨RX11, "second", "(III)I"⟩
abbrev cX11_alike : ByteArray := prog_1_method_28_code
def yX11_alike : MethodName := ⟨RX11, "alike", "(II)I"⟩
abbrev cX11_off : ByteArray := prog_1_method_29_code
def yX11_off : MethodName := ⟨RX11, "off", "(I)I"⟩
abbrev cX11_spun : ByteArray := prog_1_method_30_code
def yX11_spun : MethodName := ⟨RX11, "spun", "(I)I"⟩
abbrev cX11_made : ByteArray := prog_1_method_31_code
def yX11_made : MethodName := ⟨RX11, "made", "(I)I"⟩
abbrev cX11_heart : ByteArray := prog_1_method_32_code
def yX11_heart : MethodName := ⟨RX11, "heart", "(I)I"⟩
abbrev cX11_seed : ByteArray := prog_1_method_33_code
def yX11_seed : MethodName := ⟨RX11, "seed", "(I)I"⟩
abbrev cX11_voice : ByteArray := prog_1_method_34_code
def yX11_voice : MethodName := ⟨RX11, "voice", "(III)I"⟩
abbrev cX11_trace : ByteArray := prog_1_method_35_code
def yX11_trace : MethodName := ⟨RX11, "trace", "(I)I"⟩
abbrev cX11_sheet : ByteArray := prog_1_method_36_code
def yX11_sheet : MethodName := ⟨RX11, "sheet", "(III)I"⟩
abbrev cX11_put : ByteArray := prog_1_method_37_code
def yX11_put : MethodName := ⟨RX11, "put", "(III)I"⟩
abbrev cX11_move : ByteArray := prog_1_method_38_code
def yX11_move : MethodName := ⟨RX11, "move", "(IIIII)I"⟩
abbrev cX11_film : ByteArray := prog_1_method_39_code
def yX11_film : MethodName := ⟨RX11, "film", "(I)I"⟩
abbrev cX11_image : ByteArray := prog_1_method_40_code
def yX11_image : MethodName := ⟨RX11, "image", "()I"⟩
abbrev cX11_restore : ByteArray := prog_1_method_41_code
def yX11_restore : MethodName := ⟨RX11, "restore", "()I"⟩
abbrev cX11_tell : ByteArray := prog_1_method_42_code
def yX11_tell : MethodName := ⟨RX11, "tell", "(I)I"⟩
abbrev cX11_check : ByteArray := prog_1_method_43_code
def yX11_check : MethodName := ⟨RX11, "check", "(I)I"⟩
abbrev cX11_count : ByteArray := prog_1_method_44_code
def yX11_count : MethodName := ⟨RX11, "count", "(I)I"⟩
abbrev cX11_told : ByteArray := prog_1_method_45_code
def yX11_told : MethodName := ⟨RX11, "told", "(I)I"⟩
abbrev cX11_error : ByteArray := prog_1_method_46_code
def yX11_error : MethodName := ⟨RX11, "error", "(I)I"⟩
abbrev cX11_pass : ByteArray := prog_1_method_47_code
def yX11_pass : MethodName := ⟨RX11, "pass", "(IZ)I"⟩
abbrev cX11_goAhead : ByteArray := prog_1_method_48_code
def yX11_goAhead : MethodName := ⟨RX11, "goAhead", "(I)V"⟩
abbrev cX11_checked : ByteArray := prog_1_method_49_code
def yX11_checked : MethodName := ⟨RX11, "checked", "(LSmokeRings$Row;)I"⟩
abbrev cX11_filmError : ByteArray := prog_1_method_50_code
def yX11_filmError : MethodName := ⟨RX11, "filmError", "(I)I"⟩
abbrev cX11_offBy : ByteArray := prog_1_method_51_code
def yX11_offBy : MethodName := ⟨RX11, "offBy", "(LSmokeRings$Row;I)I"⟩
abbrev cX11_isMissing : ByteArray := prog_1_method_52_code
def yX11_isMissing : MethodName := ⟨RX11, "isMissing", "(I)Z"⟩
abbrev cX11_isSheet : ByteArray := prog_1_method_53_code
def yX11_isSheet : MethodName := ⟨RX11, "isSheet", "(I)Z"⟩
abbrev cX11_isAhead : ByteArray := prog_1_method_54_code
def yX11_isAhead : MethodName := ⟨RX11, "isAhead", "(I)Z"⟩
abbrev cX11_isHeld : ByteArray := prog_1_method_55_code
def yX11_isHeld : MethodName := ⟨RX11, "isHeld", "(III)Z"⟩
abbrev cX11_held : ByteArray := prog_1_method_56_code
def yX11_held : MethodName := ⟨RX11, "held", "(III)I"⟩
abbrev cX11_asBit : ByteArray := prog_1_method_57_code
def yX11_asBit : MethodName := ⟨RX11, "asBit", "(Z)I"⟩
abbrev cX11_quotient : ByteArray := prog_1_method_58_code
def yX11_quotient : MethodName := ⟨RX11, "quotient", "(II)I"⟩
abbrev cX11_makeLaw : ByteArray := prog_1_method_59_code
def yX11_makeLaw : MethodName := ⟨RX11, "makeLaw", "(III)LSmokeRings$Law;"⟩
abbrev cX11_isOfKind : ByteArray := prog_1_method_60_code
def yX11_isOfKind : MethodName := ⟨RX11, "isOfKind", "(LSmokeRings$Law;I)Z"⟩
def RX12 : String := "SmokeRingsModel"
def TX12 : u_T := fun k => match k with
  | 0 => ("SmokeRingsModel", "d", "[I", true)
  | 1 => ("SmokeRingsModel", "e", "[I", true)
  | 2 => ("SmokeRingsModel", "g", "[I", true)
  | 3 => ("SmokeRingsModel", "was", "[I", true)
  | 4 => ("SmokeRingsModel", "kept", "[I", true)
  | 5 => ("SmokeRingsModel", "images", "I", false)
  | 6 => ("SmokeRingsModel", "found", "[I", true)
  | 7 => ("SmokeRingsModel", "base", "I", false)
  | 8 => ("SmokeRingsModel", "at", "I", false)
  | 9 => ("SmokeRingsModel", "size", "I", false)
  | 10 => ("SmokeRingsModel", "fault", "I", false)
  | 11 => ("SmokeRingsModel", "opened", "I", false)
  | 12 => ("SmokeRingsModel", "isStroke", "Z", false)
  | 13 => ("SmokeRingsModel", "names", "[I", true)
  | 14 => ("SmokeRingsModel", "traced", "[I", true)
  | 15 => ("SmokeRingsModel", "traceMany", "I", false)
  | 16 => ("SmokeRingsModel", "who", "I", false)
  | 17 => ("SmokeRingsModel", "bitsOf", "[I", true)
  | 18 => ("SmokeRingsModel", "sizeOf", "[I", true)
  | 19 => ("SmokeRingsModel", "number", "[I", true)
  | _ => ("SmokeRingsModel", "lifted", "[I", true)
def tyX12 : Nat → FieldType := fun k => match k with
  | 0 => .array .int
  | 1 => .array .int
  | 2 => .array .int
  | 3 => .array .int
  | 4 => .array .int
  | 5 => .int
  | 6 => .array .int
  | 7 => .int
  | 8 => .int
  | 9 => .int
  | 10 => .int
  | 11 => .int
  | 12 => .boolean
  | 13 => .array .int
  | 14 => .array .int
  | 15 => .int
  | 16 => .int
  | 17 => .array .int
  | 18 => .array .int
  | 19 => .array .int
  | _ => .array .int
abbrev wsX120 : List Cond := u_ws RX12 TX12 21
theorem nmX12 : ∀ a, a < 21 → ∀ b, b < 21 → a ≠ b → (TX12 a).2.1 ≠ (TX12 b).2.1 := by decide +kernel
theorem tyX12_ok : ∀ k, k < 21 → parseFieldDescriptor (TX12 k).2.2.1 = some (tyX12 k) := by decide +kernel
abbrev cX12_init : ByteArray := prog_14_method_1_code
def yX12_init : MethodName := ⟨RX12, "<init>", "()V"⟩
abbrev cX12_finds : ByteArray := prog_14_method_3_code
def yX12_finds : MethodName := ⟨RX12, "finds", "(I)I"⟩
abbrev cX12_in : ByteArray := prog_14_method_4_code
def yX12_in : MethodName := ⟨RX12, "in", "(JJJ)Z"⟩
abbrev cX12_held : ByteArray := prog_14_method_5_code
def yX12_held : MethodName := ⟨RX12, "held", "(JII)I"⟩
abbrev cX12_copies : ByteArray := prog_14_method_6_code
def yX12_copies : MethodName := ⟨RX12, "copies", "([I[I)V"⟩
abbrev cX12_isRing : ByteArray := prog_14_method_7_code
def yX12_isRing : MethodName := ⟨RX12, "isRing", "(I)Z"⟩
abbrev cX12_isLaw : ByteArray := prog_14_method_8_code
def yX12_isLaw : MethodName := ⟨RX12, "isLaw", "(I)Z"⟩
abbrev cX12_of : ByteArray := prog_14_method_9_code
def yX12_of : MethodName := ⟨RX12, "of", "([III)I"⟩
abbrev cX12_isWhole : ByteArray := prog_14_method_10_code
def yX12_isWhole : MethodName := ⟨RX12, "isWhole", "([II)Z"⟩
abbrev cX12_adds : ByteArray := prog_14_method_11_code
def yX12_adds : MethodName := ⟨RX12, "adds", "([IIIIIII)I"⟩
abbrev cX12_ring : ByteArray := prog_14_method_12_code
def yX12_ring : MethodName := ⟨RX12, "ring", "(IIII)I"⟩
abbrev cX12_paceOf : ByteArray := prog_14_method_13_code
def yX12_paceOf : MethodName := ⟨RX12, "paceOf", "([II)I"⟩
abbrev cX12_ofRing : ByteArray := prog_14_method_14_code
def yX12_ofRing : MethodName := ⟨RX12, "ofRing", "(II)I"⟩
abbrev cX12_end : ByteArray := prog_14_method_15_code
def yX12_end : MethodName := ⟨RX12, "end", "(I)I"⟩
abbrev cX12_wall : ByteArray := prog_14_method_16_code
def yX12_wall : MethodName := ⟨RX12, "wall", "(I)I"⟩
abbrev cX12_law : ByteArray := prog_14_method_17_code
def yX12_law : MethodName := ⟨RX12, "law", "(II)I"⟩
abbrev cX12_ofLaw : ByteArray := prog_14_method_18_code
def yX12_ofLaw : MethodName := ⟨RX12, "ofLaw", "(II)I"⟩
abbrev cX12_isOf : ByteArray := prog_14_method_19_code
def yX12_isOf : MethodName := ⟨RX12, "isOf", "(II)Z"⟩
abbrev cX12_as : ByteArray := prog_14_method_20_code
def yX12_as : MethodName := ⟨RX12, "as", "(II)I"⟩
abbrev cX12_turn : ByteArray := prog_14_method_21_code
def yX12_turn : MethodName := ⟨RX12, "turn", "(II)I"⟩
abbrev cX12_apart : ByteArray := prog_14_method_22_code
def yX12_apart : MethodName := ⟨RX12, "apart", "(II)I"⟩
abbrev cX12_gap : ByteArray := prog_14_method_23_code
def yX12_gap : MethodName := ⟨RX12, "gap", "([III)I"⟩
abbrev cX12_areNear : ByteArray := prog_14_method_24_code
def yX12_areNear : MethodName := ⟨RX12, "areNear", "([III)Z"⟩
abbrev cX12_isBehind : ByteArray := prog_14_method_25_code
def yX12_isBehind : MethodName := ⟨RX12, "isBehind", "([III)Z"⟩
abbrev cX12_widens : ByteArray := prog_14_method_26_code
def yX12_widens : MethodName := ⟨RX12, "widens", "([IIII)I"⟩
abbrev cX12_spreads : ByteArray := prog_14_method_27_code
def yX12_spreads : MethodName := ⟨RX12, "spreads", "([III)I"⟩
abbrev cX12_lifts : ByteArray := prog_14_method_28_code
def yX12_lifts : MethodName := ⟨RX12, "lifts", "([III)I"⟩
abbrev cX12_doesEnd : ByteArray := prog_14_method_29_code
def yX12_doesEnd : MethodName := ⟨RX12, "doesEnd", "([IIII)Z"⟩
abbrev cX12_does : ByteArray := prog_14_method_30_code
def yX12_does : MethodName := ⟨RX12, "does", "(IIII)I"⟩
abbrev cX12_pair : ByteArray := prog_14_method_31_code
def yX12_pair : MethodName := ⟨RX12, "pair", "(III)I"⟩
abbrev cX12_here : ByteArray := prog_14_method_32_code
def yX12_here : MethodName := ⟨RX12, "here", "()I"⟩
abbrev cX12_wrong : ByteArray := prog_14_method_33_code
def yX12_wrong : MethodName := ⟨RX12, "wrong", "()I"⟩
abbrev cX12_takes : ByteArray := prog_14_method_34_code
def yX12_takes : MethodName := ⟨RX12, "takes", "(I)Z"⟩
abbrev cX12_nameOf : ByteArray := prog_14_method_35_code
def yX12_nameOf : MethodName := ⟨RX12, "nameOf", "(I)I"⟩
abbrev cX12_either : ByteArray := prog_14_method_36_code
def yX12_either : MethodName := ⟨RX12, "either", "()I"⟩
abbrev cX12_both : ByteArray := prog_14_method_37_code
def yX12_both : MethodName := ⟨RX12, "both", "()I"⟩
abbrev cX12_compared : ByteArray := prog_14_method_38_code
def yX12_compared : MethodName := ⟨RX12, "compared", "()I"⟩
abbrev cX12_sum : ByteArray := prog_14_method_39_code
def yX12_sum : MethodName := ⟨RX12, "sum", "()I"⟩
abbrev cX12_product : ByteArray := prog_14_method_40_code
def yX12_product : MethodName := ⟨RX12, "product", "()I"⟩
abbrev cX12_unit : ByteArray := prog_14_method_41_code
def yX12_unit : MethodName := ⟨RX12, "unit", "()I"⟩
abbrev cX12_worked : ByteArray := prog_14_method_42_code
def yX12_worked : MethodName := ⟨RX12, "worked", "(III)I"⟩
abbrev cX12_feed : ByteArray := prog_14_method_43_code
def yX12_feed : MethodName := ⟨RX12, "feed", "(JI)I"⟩
abbrev cX12_text : ByteArray := prog_14_method_44_code
def yX12_text : MethodName := ⟨RX12, "text", "(I)I"⟩
abbrev cX12_givesOf : ByteArray := prog_14_method_45_code
def yX12_givesOf : MethodName := ⟨RX12, "givesOf", "(IIII)I"⟩
abbrev cX12_gives : ByteArray := prog_14_method_46_code
def yX12_gives : MethodName := ⟨RX12, "gives", "(IIII)I"⟩
abbrev cX12_hole : ByteArray := prog_14_method_47_code
def yX12_hole : MethodName := ⟨RX12, "hole", "(I)I"⟩
abbrev cX12_strokes : ByteArray := prog_14_method_48_code
def yX12_strokes : MethodName := ⟨RX12, "strokes", "([III)I"⟩
abbrev cX12_stroke : ByteArray := prog_14_method_49_code
def yX12_stroke : MethodName := ⟨RX12, "stroke", "(II)I"⟩
abbrev cX12_trailsOf : ByteArray := prog_14_method_50_code
def yX12_trailsOf : MethodName := ⟨RX12, "trailsOf", "(I)I"⟩
abbrev cX12_trails : ByteArray := prog_14_method_51_code
def yX12_trails : MethodName := ⟨RX12, "trails", "(I)I"⟩
abbrev cX12_goesOn : ByteArray := prog_14_method_52_code
def yX12_goesOn : MethodName := ⟨RX12, "goesOn", "([II)V"⟩
abbrev cX12_lawThatEnds : ByteArray := prog_14_method_53_code
def yX12_lawThatEnds : MethodName := ⟨RX12, "lawThatEnds", "([III)I"⟩
abbrev cX12_mayEnd : ByteArray := prog_14_method_54_code
def yX12_mayEnd : MethodName := ⟨RX12, "mayEnd", "([II)V"⟩
abbrev cX12_goesBy : ByteArray := prog_14_method_55_code
def yX12_goesBy : MethodName := ⟨RX12, "goesBy", "([I)V"⟩
abbrev cX12_goesAhead : ByteArray := prog_14_method_56_code
def yX12_goesAhead : MethodName := ⟨RX12, "goesAhead", "([II)V"⟩
abbrev cX12_ticks : ByteArray := prog_14_method_57_code
def yX12_ticks : MethodName := ⟨RX12, "ticks", "(I)I"⟩
abbrev cX12_breeze : ByteArray := prog_14_method_58_code
def yX12_breeze : MethodName := ⟨RX12, "breeze", "(I)I"⟩
abbrev cX12_frontOf : ByteArray := prog_14_method_59_code
def yX12_frontOf : MethodName := ⟨RX12, "frontOf", "([I)I"⟩
abbrev cX12_front : ByteArray := prog_14_method_60_code
def yX12_front : MethodName := ⟨RX12, "front", "()I"⟩
abbrev cX12_isAhead : ByteArray := prog_14_method_61_code
def yX12_isAhead : MethodName := ⟨RX12, "isAhead", "(I)Z"⟩
abbrev cX12_ahead : ByteArray := prog_14_method_62_code
def yX12_ahead : MethodName := ⟨RX12, "ahead", "(I)V"⟩
abbrev cX12_then : ByteArray := prog_14_method_63_code
def yX12_then : MethodName := ⟨RX12, "then", "(III)I"⟩
abbrev cX12_wholeIn : ByteArray := prog_14_method_64_code
def yX12_wholeIn : MethodName := ⟨RX12, "wholeIn", "([I)I"⟩
abbrev cX12_whole : ByteArray := prog_14_method_65_code
def yX12_whole : MethodName := ⟨RX12, "whole", "(I)I"⟩
abbrev cX12_turnsIn : ByteArray := prog_14_method_66_code
def yX12_turnsIn : MethodName := ⟨RX12, "turnsIn", "([II)I"⟩
abbrev cX12_turns : ByteArray := prog_14_method_67_code
def yX12_turns : MethodName := ⟨RX12, "turns", "(I)I"⟩
abbrev cX12_farIn : ByteArray := prog_14_method_68_code
def yX12_farIn : MethodName := ⟨RX12, "farIn", "([III)I"⟩
abbrev cX12_far : ByteArray := prog_14_method_69_code
def yX12_far : MethodName := ⟨RX12, "far", "(II)I"⟩
abbrev cX12_knock : ByteArray := prog_14_method_70_code
def yX12_knock : MethodName := ⟨RX12, "knock", "(III)I"⟩
abbrev cX12_farthest : ByteArray := prog_14_method_71_code
def yX12_farthest : MethodName := ⟨RX12, "farthest", "(III)I"⟩
abbrev cX12_second : ByteArray := prog_14_method_72_code
def yX12_second : MethodName := ⟨RX12, "second", "(III)I"⟩
abbrev cX12_alike : ByteArray := prog_14_method_73_code
def yX12_alike : MethodName := ⟨RX12, "alike", "(II)I"⟩
abbrev cX12_offIn : ByteArray := prog_14_method_74_code
def yX12_offIn : MethodName := ⟨RX12, "offIn", "([II)I"⟩
abbrev cX12_whyNoFilm : ByteArray := prog_14_method_75_code
def yX12_whyNoFilm : MethodName := ⟨RX12, "whyNoFilm", "(I)I"⟩
abbrev cX12_off : ByteArray := prog_14_method_76_code
def yX12_off : MethodName := ⟨RX12, "off", "(I)I"⟩
abbrev cX12_spun : ByteArray := prog_14_method_77_code
def yX12_spun : MethodName := ⟨RX12, "spun", "(I)I"⟩
abbrev cX12_made : ByteArray := prog_14_method_78_code
def yX12_made : MethodName := ⟨RX12, "made", "(I)I"⟩
abbrev cX12_heart : ByteArray := prog_14_method_79_code
def yX12_heart : MethodName := ⟨RX12, "heart", "(I)I"⟩
abbrev cX12_seed : ByteArray := prog_14_method_80_code
def yX12_seed : MethodName := ⟨RX12, "seed", "(I)I"⟩
abbrev cX12_ran : ByteArray := prog_14_method_81_code
def yX12_ran : MethodName := ⟨RX12, "ran", "(I)V"⟩
abbrev cX12_above : ByteArray := prog_14_method_82_code
def yX12_above : MethodName := ⟨RX12, "above", "(I)I"⟩
abbrev cX12_own : ByteArray := prog_14_method_83_code
def yX12_own : MethodName := ⟨RX12, "own", "()I"⟩
abbrev cX12_toldM : ByteArray := prog_14_method_84_code
def yX12_toldM : MethodName := ⟨RX12, "toldM", "()I"⟩
abbrev cX12_goes : ByteArray := prog_14_method_85_code
def yX12_goes : MethodName := ⟨RX12, "goes", "(II)I"⟩
abbrev cX12_moves : ByteArray := prog_14_method_86_code
def yX12_moves : MethodName := ⟨RX12, "moves", "(II)I"⟩
abbrev cX12_ends : ByteArray := prog_14_method_87_code
def yX12_ends : MethodName := ⟨RX12, "ends", "(II)I"⟩
abbrev cX12_tells : ByteArray := prog_14_method_88_code
def yX12_tells : MethodName := ⟨RX12, "tells", "(II)I"⟩
abbrev cX12_voice : ByteArray := prog_14_method_89_code
def yX12_voice : MethodName := ⟨RX12, "voice", "(III)I"⟩
abbrev cX12_trace : ByteArray := prog_14_method_90_code
def yX12_trace : MethodName := ⟨RX12, "trace", "(I)I"⟩
abbrev cX12_isSheet : ByteArray := prog_14_method_91_code
def yX12_isSheet : MethodName := ⟨RX12, "isSheet", "(I)Z"⟩
abbrev cX12_sheet : ByteArray := prog_14_method_92_code
def yX12_sheet : MethodName := ⟨RX12, "sheet", "(III)I"⟩
abbrev cX12_put : ByteArray := prog_14_method_93_code
def yX12_put : MethodName := ⟨RX12, "put", "(III)I"⟩
abbrev cX12_move : ByteArray := prog_14_method_94_code
def yX12_move : MethodName := ⟨RX12, "move", "(IIIII)I"⟩
abbrev cX12_film : ByteArray := prog_14_method_95_code
def yX12_film : MethodName := ⟨RX12, "film", "(I)I"⟩
abbrev cX12_image : ByteArray := prog_14_method_96_code
def yX12_image : MethodName := ⟨RX12, "image", "()I"⟩
abbrev cX12_restore : ByteArray := prog_14_method_97_code
def yX12_restore : MethodName := ⟨RX12, "restore", "()I"⟩
abbrev cX12_tell : ByteArray := prog_14_method_98_code
def yX12_tell : MethodName := ⟨RX12, "tell", "(I)I"⟩
abbrev cX12_check : ByteArray := prog_14_method_99_code
def yX12_check : MethodName := ⟨RX12, "check", "(I)I"⟩
abbrev cX12_count : ByteArray := prog_14_method_100_code
def yX12_count : MethodName := ⟨RX12, "count", "(I)I"⟩
abbrev cX12_told : ByteArray := prog_14_method_101_code
def yX12_told : MethodName := ⟨RX12, "told", "(I)I"⟩
def RJx145de : String := "java/io/Serializable"
def TJx145de : u_T := fun k => match k with
  | _ => ("", "", "", false)
def tyJx145de : Nat → FieldType := fun k => match k with
  | _ => .int
abbrev wsJx145de0 : List Cond := u_ws RJx145de TJx145de 0
theorem nmJx145de : ∀ a, a < 0 → ∀ b, b < 0 → a ≠ b → (TJx145de a).2.1 ≠ (TJx145de b).2.1 := by decide +kernel
theorem tyJx145de_ok : ∀ k, k < 0 → parseFieldDescriptor (TJx145de k).2.2.1 = some (tyJx145de k) := by decide +kernel
def RJx9f9b0 : String := "java/lang/CharSequence"
def TJx9f9b0 : u_T := fun k => match k with
  | _ => ("", "", "", false)
def tyJx9f9b0 : Nat → FieldType := fun k => match k with
  | _ => .int
abbrev wsJx9f9b00 : List Cond := u_ws RJx9f9b0 TJx9f9b0 0
theorem nmJx9f9b0 : ∀ a, a < 0 → ∀ b, b < 0 → a ≠ b → (TJx9f9b0 a).2.1 ≠ (TJx9f9b0 b).2.1 := by decide +kernel
theorem tyJx9f9b0_ok : ∀ k, k < 0 → parseFieldDescriptor (TJx9f9b0 k).2.2.1 = some (tyJx9f9b0 k) := by decide +kernel
def RJ11 : String := "java/lang/Character"
def TJ11 : u_T := fun k => match k with
  | _ => ("", "", "", false)
def tyJ11 : Nat → FieldType := fun k => match k with
  | _ => .int
abbrev wsJ110 : List Cond := u_ws RJ11 TJ11 0
theorem nmJ11 : ∀ a, a < 0 → ∀ b, b < 0 → a ≠ b → (TJ11 a).2.1 ≠ (TJ11 b).2.1 := by decide +kernel
theorem tyJ11_ok : ∀ k, k < 0 → parseFieldDescriptor (TJ11 k).2.2.1 = some (tyJ11 k) := by decide +kernel
abbrev cJ11_isValidCodePoint_9a6ad : ByteArray := prog_15_method_11_code
def yJ11_isValidCodePoint_9a6ad : MethodName := ⟨RJ11, "isValidCodePoint", "(I)Z"⟩
abbrev cJ11_highSurrogate_5068e : ByteArray := prog_15_method_28_code
def yJ11_highSurrogate_5068e : MethodName := ⟨RJ11, "highSurrogate", "(I)C"⟩
abbrev cJ11_lowSurrogate_5068e : ByteArray := prog_15_method_29_code
def yJ11_lowSurrogate_5068e : MethodName := ⟨RJ11, "lowSurrogate", "(I)C"⟩
def RJxb160c : String := "java/lang/Comparable"
def TJxb160c : u_T := fun k => match k with
  | _ => ("", "", "", false)
def tyJxb160c : Nat → FieldType := fun k => match k with
  | _ => .int
abbrev wsJxb160c0 : List Cond := u_ws RJxb160c TJxb160c 0
theorem nmJxb160c : ∀ a, a < 0 → ∀ b, b < 0 → a ≠ b → (TJxb160c a).2.1 ≠ (TJxb160c b).2.1 := by decide +kernel
theorem tyJxb160c_ok : ∀ k, k < 0 → parseFieldDescriptor (TJxb160c k).2.2.1 = some (tyJxb160c k) := by decide +kernel
def RJ9 : String := "java/lang/Math"
def TJ9 : u_T := fun k => match k with
  | _ => ("", "", "", false)
def tyJ9 : Nat → FieldType := fun k => match k with
  | _ => .int
abbrev wsJ90 : List Cond := u_ws RJ9 TJ9 0
theorem nmJ9 : ∀ a, a < 0 → ∀ b, b < 0 → a ≠ b → (TJ9 a).2.1 ≠ (TJ9 b).2.1 := by decide +kernel
theorem tyJ9_ok : ∀ k, k < 0 → parseFieldDescriptor (TJ9 k).2.2.1 = some (tyJ9 k) := by decide +kernel
abbrev cJ9_abs_0f7a4 : ByteArray := prog_16_method_59_code
def yJ9_abs_0f7a4 : MethodName := ⟨RJ9, "abs", "(I)I"⟩
abbrev cJ9_abs_067f4 : ByteArray := prog_16_method_61_code
def yJ9_abs_067f4 : MethodName := ⟨RJ9, "abs", "(J)J"⟩
abbrev cJ9_max_7cf53 : ByteArray := prog_16_method_65_code
def yJ9_max_7cf53 : MethodName := ⟨RJ9, "max", "(II)I"⟩
abbrev cJ9_min_7cf53 : ByteArray := prog_16_method_69_code
def yJ9_min_7cf53 : MethodName := ⟨RJ9, "min", "(II)I"⟩
abbrev cJ9_min_f86c9 : ByteArray := prog_16_method_70_code
def yJ9_min_f86c9 : MethodName := ⟨RJ9, "min", "(JJ)J"⟩
def RJ0 : String := "java/lang/String"
def TJ0 : u_T := fun k => match k with
  | _ => ("", "", "", false)
def tyJ0 : Nat → FieldType := fun k => match k with
  | _ => .int
abbrev wsJ00 : List Cond := u_ws RJ0 TJ0 0
theorem nmJ0 : ∀ a, a < 0 → ∀ b, b < 0 → a ≠ b → (TJ0 a).2.1 ≠ (TJ0 b).2.1 := by decide +kernel
theorem tyJ0_ok : ∀ k, k < 0 → parseFieldDescriptor (TJ0 k).2.2.1 = some (tyJ0 k) := by decide +kernel
abbrev cJ0_length_8abf5 : ByteArray := prog_17_method_54_code
def yJ0_length_8abf5 : MethodName := ⟨RJ0, "length", "()I"⟩
abbrev cJ0_indexOf_0f7a4 : ByteArray := prog_17_method_79_code
def yJ0_indexOf_0f7a4 : MethodName := ⟨RJ0, "indexOf", "(I)I"⟩
abbrev cJ0_indexOf_7cf53 : ByteArray := prog_17_method_80_code
def yJ0_indexOf_7cf53 : MethodName := ⟨RJ0, "indexOf", "(II)I"⟩
abbrev cJ0_coder_7d493 : ByteArray := prog_17_method_152_code
def yJ0_coder_7d493 : MethodName := ⟨RJ0, "coder", "()B"⟩
abbrev cJ0_isLatin1_aae02 : ByteArray := prog_17_method_154_code
def yJ0_isLatin1_aae02 : MethodName := ⟨RJ0, "isLatin1", "()Z"⟩
abbrev cJ0_checkBoundsBeginEnd_23922 : ByteArray := prog_17_method_158_code
def yJ0_checkBoundsBeginEnd_23922 : MethodName := ⟨RJ0, "checkBoundsBeginEnd", "(III)V"⟩
def RJ1 : String := "java/lang/StringLatin1"
def TJ1 : u_T := fun k => match k with
  | _ => ("", "", "", false)
def tyJ1 : Nat → FieldType := fun k => match k with
  | _ => .int
abbrev wsJ10 : List Cond := u_ws RJ1 TJ1 0
theorem nmJ1 : ∀ a, a < 0 → ∀ b, b < 0 → a ≠ b → (TJ1 a).2.1 ≠ (TJ1 b).2.1 := by decide +kernel
theorem tyJ1_ok : ∀ k, k < 0 → parseFieldDescriptor (TJ1 k).2.2.1 = some (tyJ1 k) := by decide +kernel
abbrev cJ1_canEncode_9a6ad : ByteArray := prog_18_method_4_code
def yJ1_canEncode_9a6ad : MethodName := ⟨RJ1, "canEncode", "(I)Z"⟩
abbrev cJ1_indexOf_4cfef : ByteArray := prog_18_method_22_code
def yJ1_indexOf_4cfef : MethodName := ⟨RJ1, "indexOf", "([BIII)I"⟩
abbrev cJ1_indexOfChar_4cfef : ByteArray := prog_18_method_23_code
def yJ1_indexOfChar_4cfef : MethodName := ⟨RJ1, "indexOfChar", "([BIII)I"⟩
def RJ2 : String := "java/lang/StringUTF16"
def TJ2 : u_T := fun k => match k with
  | _ => ("", "", "", false)
def tyJ2 : Nat → FieldType := fun k => match k with
  | _ => .int
abbrev wsJ20 : List Cond := u_ws RJ2 TJ2 0
theorem nmJ2 : ∀ a, a < 0 → ∀ b, b < 0 → a ≠ b → (TJ2 a).2.1 ≠ (TJ2 b).2.1 := by decide +kernel
theorem tyJ2_ok : ∀ k, k < 0 → parseFieldDescriptor (TJ2 k).2.2.1 = some (tyJ2 k) := by decide +kernel
abbrev cJ2_getChar_3b067 : ByteArray := prog_19_method_5_code
def yJ2_getChar_3b067 : MethodName := ⟨RJ2, "getChar", "([BI)C"⟩
abbrev cJ2_length_9d52b : ByteArray := prog_19_method_6_code
def yJ2_length_9d52b : MethodName := ⟨RJ2, "length", "([B)I"⟩
abbrev cJ2_indexOf_4cfef : ByteArray := prog_19_method_40_code
def yJ2_indexOf_4cfef : MethodName := ⟨RJ2, "indexOf", "([BIII)I"⟩
abbrev cJ2_indexOfChar_4cfef : ByteArray := prog_19_method_47_code
def yJ2_indexOfChar_4cfef : MethodName := ⟨RJ2, "indexOfChar", "([BIII)I"⟩
abbrev cJ2_indexOfCharUnsafe_4cfef : ByteArray := prog_19_method_48_code
def yJ2_indexOfCharUnsafe_4cfef : MethodName := ⟨RJ2, "indexOfCharUnsafe", "([BIII)I"⟩
abbrev cJ2_indexOfSupplementary_4cfef : ByteArray := prog_19_method_49_code
def yJ2_indexOfSupplementary_4cfef : MethodName := ⟨RJ2, "indexOfSupplementary", "([BIII)I"⟩
abbrev cJ2_checkBoundsBeginEnd_d044e : ByteArray := prog_19_method_93_code
def yJ2_checkBoundsBeginEnd_d044e : MethodName := ⟨RJ2, "checkBoundsBeginEnd", "(II[B)V"⟩
def RJ10 : String := "java/lang/System"
def TJ10 : u_T := fun k => match k with
  | _ => ("", "", "", false)
def tyJ10 : Nat → FieldType := fun k => match k with
  | _ => .int
abbrev wsJ100 : List Cond := u_ws RJ10 TJ10 0
theorem nmJ10 : ∀ a, a < 0 → ∀ b, b < 0 → a ≠ b → (TJ10 a).2.1 ≠ (TJ10 b).2.1 := by decide +kernel
theorem tyJ10_ok : ∀ k, k < 0 → parseFieldDescriptor (TJ10 k).2.2.1 = some (tyJ10 k) := by decide +kernel
def RJxfd54e : String := "java/lang/constant/Constable"
def TJxfd54e : u_T := fun k => match k with
  | _ => ("", "", "", false)
def tyJxfd54e : Nat → FieldType := fun k => match k with
  | _ => .int
abbrev wsJxfd54e0 : List Cond := u_ws RJxfd54e TJxfd54e 0
theorem nmJxfd54e : ∀ a, a < 0 → ∀ b, b < 0 → a ≠ b → (TJxfd54e a).2.1 ≠ (TJxfd54e b).2.1 := by decide +kernel
theorem tyJxfd54e_ok : ∀ k, k < 0 → parseFieldDescriptor (TJxfd54e k).2.2.1 = some (tyJxfd54e k) := by decide +kernel
def RJx3cf43 : String := "java/lang/constant/ConstantDesc"
def TJx3cf43 : u_T := fun k => match k with
  | _ => ("", "", "", false)
def tyJx3cf43 : Nat → FieldType := fun k => match k with
  | _ => .int
abbrev wsJx3cf430 : List Cond := u_ws RJx3cf43 TJx3cf43 0
theorem nmJx3cf43 : ∀ a, a < 0 → ∀ b, b < 0 → a ≠ b → (TJx3cf43 a).2.1 ≠ (TJx3cf43 b).2.1 := by decide +kernel
theorem tyJx3cf43_ok : ∀ k, k < 0 → parseFieldDescriptor (TJx3cf43 k).2.2.1 = some (tyJx3cf43 k) := by decide +kernel
def RJ7 : String := "java/util/Arrays"
def TJ7 : u_T := fun k => match k with
  | _ => ("", "", "", false)
def tyJ7 : Nat → FieldType := fun k => match k with
  | _ => .int
abbrev wsJ70 : List Cond := u_ws RJ7 TJ7 0
theorem nmJ7 : ∀ a, a < 0 → ∀ b, b < 0 → a ≠ b → (TJ7 a).2.1 ≠ (TJ7 b).2.1 := by decide +kernel
theorem tyJ7_ok : ∀ k, k < 0 → parseFieldDescriptor (TJ7 k).2.2.1 = some (tyJ7 k) := by decide +kernel
abbrev cJ7_fill_53178 : ByteArray := prog_21_method_103_code
def yJ7_fill_53178 : MethodName := ⟨RJ7, "fill", "([II)V"⟩
def RJ3 : String := "jdk/internal/util/Preconditions"
def TJ3 : u_T := fun k => match k with
  | _ => ("", "", "", false)
def tyJ3 : Nat → FieldType := fun k => match k with
  | _ => .int
abbrev wsJ30 : List Cond := u_ws RJ3 TJ3 0
theorem nmJ3 : ∀ a, a < 0 → ∀ b, b < 0 → a ≠ b → (TJ3 a).2.1 ≠ (TJ3 b).2.1 := by decide +kernel
theorem tyJ3_ok : ∀ k, k < 0 → parseFieldDescriptor (TJ3 k).2.2.1 = some (tyJ3 k) := by decide +kernel
abbrev cJ3_checkFromToIndex_8c36e : ByteArray := prog_22_method_12_code
def yJ3_checkFromToIndex_8c36e : MethodName := ⟨RJ3, "checkFromToIndex", "(IIILjava/util/function/BiFunction;)I"⟩
def RL : String := "SmokeRingsLaw"
abbrev cL_law : ByteArray := code
def yL_law : MethodName := ⟨RL, "law", "([I)Z"⟩
abbrev vwCl : List vw_C := [(RX0, TX0, 3), (RX1, TX1, 3), (RX2, TX2, 3), (RX3, TX3, 8), (RX4, TX4, 13), (RX5, TX5, 3), (RX6, TX6, 3), (RX7, TX7, 7), (RX8, TX8, 3), (RX9, TX9, 3), (RX10, TX10, 3), (RX11, TX11, 9), (RX12, TX12, 21)]
end
section
/-! THE ABSTRACT MACHINE: objects have names (three numbers), a heap is three functions: kinds, references, ints. am_W is the judgement W for it, am_Met a method's contract. -/
abbrev am_N : Type := Nat × Nat × Nat
abbrev am_V : Type := am_N ⊕ Value
abbrev am_K : Type := Nat ⊕ (Nat × Nat)
abbrev am_kd : Type := am_N → Option am_K
abbrev am_rv : Type := am_N → Nat → Option am_N
abbrev am_iv : Type := am_N → Nat → Int32
abbrev am_D : Type := va_G × (Nat → ClassId) × ((Nat → Nat) × (Nat → Nat)) × (Nat × Nat × (Nat → Int32))
abbrev am_M : Type := MethodName × ByteArray × Nat × Option FieldType
abbrev am_I (x : Int32) : am_V := .inr (.int x)
abbrev am_J (x : Int64) : am_V := .inr (.long x)
abbrev am_P (n : am_N) : am_V := .inl n
abbrev am_0 : am_V := .inr .null
def am_cv (ad : am_N → Nat) : am_V → Value
  | .inl n => .ref (ad n)
  | .inr v => v
def am_rf (o : Option am_N) : am_V := match o with
  | none => am_0
  | some n => am_P n
theorem am_cv_rf (ad : am_N → Nat) (o : Option am_N) : am_cv ad (am_rf o) = va_rf (o.map ad) := by cases o <;> rfl
def am_c2 : am_V → Bool
  | .inr (.long _) => true
  | .inr (.double _) => true
  | _ => false
theorem am_c2_cat (ad : am_N → Nat) (v : am_V) : (am_cv ad v).category = if am_c2 v then 2 else 1 := by
  cases v with
  | inl n => rfl
  | inr v => cases v <;> rfl
def am_fty (ci : Nat) : Nat → FieldType := match ci with
  | 0 => tyX0 | 1 => tyX1 | 2 => tyX2 | 3 => tyX3 | 4 => tyX4 | 5 => tyX5 | 6 => tyX6 | 7 => tyX7 | 8 => tyX8 | 9 => tyX9 | 10 => tyX10 | 11 => tyX11 | 12 => tyX12 | _ => fun _ => .int
def am_aty (t : Nat) : FieldType := match t with
  | 0 => .int | 1 => .object RX3 | 2 => .object RX2 | 3 => .object RX7 | _ => .object RX5
def am_isr (t : FieldType) : Bool := match t with
  | .object _ => true
  | .array _ => true
  | _ => false
def am_sv (ad : am_N → Nat) (rv : am_rv) (iv : am_iv) (r : Bool) (n : am_N) (k : Nat) : Value := if r = true then va_rf ((rv n k).map ad) else .int (iv n k)
/-- the cell of a name: an object, an array, or (arrays of kinds 8, 9) something old that is only named -/
def am_at (D : am_D) (ad : am_N → Nat) (rv : am_rv) (iv : am_iv) (n : am_N) (K : am_K) (H : Heap) : Prop := match K with
  | .inl ci => ∃ r : vw_C, vwCl[ci]? = some r ∧ t_OB (ad n) (D.1.1 ci) r.2.2 (D.1.2 ci) H (fun k => am_sv ad rv iv (am_isr (am_fty ci k)) n k)
  | .inr a => (a.1 < 5 → H[ad n]? = some (arrV (D.2.1 a.1) a.2 (fun j => am_sv ad rv iv (am_isr (am_aty a.1)) n j))) ∧ (a.1 = 8 → ad n = D.2.2.2.1) ∧ (a.1 = 9 → ad n = D.2.2.1.1 n.2.1)
/-- a kind of which only the name is known -/
def am_op (K : am_K) : Prop := match K with
  | .inl _ => False
  | .inr a => 5 ≤ a.1
def am_HR (D : am_D) (ad : am_N → Nat) (kd : am_kd) (rv : am_rv) (iv : am_iv) (H : Heap) : Prop :=
  (∀ n K, kd n = some K → am_at D ad rv iv n K H) ∧ (∀ n n', kd n ≠ none → kd n' ≠ none → n.1 < 40 → n'.1 < 40 → ad n = ad n' → n = n') ∧ (∀ n k o, kd n ≠ none → rv n k = some o → kd o ≠ none) ∧ ∀ n K, kd n = some K → (40 ≤ n.1 ↔ am_op K)
def am_lv (kd : am_kd) : am_V → Prop
  | .inl n => kd n ≠ none
  | .inr _ => True
def am_T : List Cond := lw_tbl.filter goodWord
def am_ws (M : am_M) : List Cond := Cond.code M.1 M.2.1 M.2.2.1 M.2.2.2 :: am_T
def am_tys (D : am_D) : List (ClassId × FieldType) := [(D.2.1 0, .int), (D.2.1 1, .object RX3), (D.2.1 2, .object RX2), (D.2.1 3, .object RX7), (D.2.1 4, .object RX5)]
def am_nw : List Cond := lw_tbl.filter (fun w => match w with | .methodLinkNest _ _ _ _ => true | _ => false)
def am_nc : List (String × String) := [(RX0, RX1), (RX0, RX6), (RX0, RX8), (RX0, RX9), (RX0, RX10), (RX1, RX0), (RX1, RX6), (RX1, RX8), (RX1, RX9), (RX1, RX10), (RX2, RX0), (RX2, RX1), (RX2, RX6), (RX2, RX8), (RX2, RX9), (RX2, RX10), (RX6, RX0), (RX6, RX1), (RX6, RX8), (RX6, RX9), (RX8, RX0), (RX8, RX1), (RX8, RX6), (RX8, RX9), (RX8, RX10), (RX9, RX1), (RX9, RX6), (RX9, RX8), (RX9, RX10), (RX10, RX0), (RX10, RX1), (RX10, RX6), (RX10, RX8), (RX10, RX9)]
def am_yc : List (String × String) := [(RX9, RX0), (RX6, RX10), (RX8, RX2), (RX1, RX2), (RX0, RX2), (RX9, RX2), (RX10, RX2), (RX6, RX2)]
def am_Yc (C T : String) (U : State) : Prop := ∃ c t : ClassId, U.vm.findClass C = some c ∧ U.vm.findClass T = some t ∧ U.vm.assignable c t = true
theorem am_Yc.moved {C T : String} {u U : State} (hvm : u.vm.Alike U.vm) (h : am_Yc C T u) : am_Yc C T U := by
  obtain ⟨c, t, h1, h2, h3⟩ := h
  exact ⟨c, t, by rw [hvm.findClass]; exact h1, by rw [hvm.findClass]; exact h2, by rw [hvm.assignable]; exact h3⟩
/-- what the tables and the old heap say, for every method's start -/
def am_KF (D : am_D) (A : Nat → Prop) (s : State) : Prop :=
  va_K D.1 vwCl (am_tys D) s ∧ (∀ w ∈ am_nw, va_Nw w s) ∧ ((∀ q ∈ am_nc, va_Nc q.1 q.2 s) ∧ (∀ q ∈ am_yc, am_Yc q.1 q.2 s) ∧ ∀ C ∈ [RX3, RX2, RX7, RX5], va_AO C s) ∧
  vk_S 2 [3, 3] [[108, 113, 104], [116, 119, 107]] D.2.2.1.1 D.2.2.1.2 A s s.heap ∧ vk_R RX11 182 "lqh" (D.2.2.1.1 0) s ∧ vk_R RX11 184 "twk" (D.2.2.1.1 1) s ∧
  (va_X D.2.2.2.1 D.2.2.2.2.1 D.2.2.2.2.2 s s.heap ∧ D.2.2.2.1 < s.heap.size ∧ ¬ A D.2.2.2.1)
def am_A (kd : am_kd) (ad : am_N → Nat) (sz : Nat) : Nat → Prop := fun q => (∃ n, kd n ≠ none ∧ n.1 < 40 ∧ ad n = q) ∨ sz ≤ q
def am_L (ad : am_N → Nat) (ls : List (Option am_V)) (nL : Nat) (lsA : Array Slot) : Prop := lsA.size = nL ∧ lv_wf lsA ∧ ∀ (i : Nat) (v : am_V), ls[i]? = some (some v) → lsA[i]? = some (Slot.val (am_cv ad v))
abbrev am_Post : Type := Option am_V → am_kd → am_rv → am_iv → Prop
def am_Qc (D : am_D) (A : Nat → Prop) (ad0 : am_N → Nat) (kd0 : am_kd) (post : am_Post) : Array Value → State → Outcome → State → Prop := fun _ s o t =>
  (∃ (v : Option am_V) (kd : am_kd) (rv : am_rv) (iv : am_iv) (ad : am_N → Nat), o = .returned (v.map (am_cv ad)) ∧ post v kd rv iv ∧ am_HR D ad kd rv iv t.heap ∧ (∀ n, kd n ≠ none → n.1 < 40 → A (ad n)) ∧ (∀ n, kd0 n ≠ none → ad n = ad0 n ∧ kd n ≠ none) ∧ ∀ w, v = some w → am_lv kd w) ∧ va_F A s t
def am_C (M : am_M) (p : Program) (s : State) (m : MethodId) (args : Array Value) (meth : Method) (c : Code) (D : am_D) (A : Nat → Prop) : Prop :=
  p.tables.exec = Jvm.exec ∧ c.code = M.2.1 ∧ meth.sig.returnType = M.2.2.2 ∧ c.maxLocals = M.2.2.1 ∧ s.vm.findClass M.1.cls = some m.cls ∧ (∀ w ∈ am_ws M, w.before args s = true) ∧ meth.locks = false ∧ meth.name = M.1.name ∧ am_KF D A s ∧ ∀ q, s.heap.size ≤ q → A q
def am_R (M : am_M) (s : State) (D : am_D) (A : Nat → Prop) (ad0 : am_N → Nat) (kd0 : am_kd) (H : Heap) (locs : List Loc) (lsA : Array Slot) (ad : am_N → Nat) (ls : List (Option am_V)) (st : List am_V) (kd : am_kd) (rv : am_rv) (iv : am_iv) : Prop :=
  am_HR D ad kd rv iv H ∧ (∀ n, kd n ≠ none → n.1 < 40 → A (ad n)) ∧ va_S A s.heap H locs ∧ (∀ n, kd0 n ≠ none → ad n = ad0 n ∧ kd n ≠ none) ∧ am_L ad ls M.2.2.1 lsA ∧ (∀ v, some v ∈ ls → am_lv kd v) ∧ ∀ v ∈ st, am_lv kd v
def am_W (l : Launch) (M : am_M) (R : Room) (post : am_Post) (pc : Nat) (ls : List (Option am_V)) (st : List am_V) (kd : am_kd) (rv : am_rv) (iv : am_iv) (cu su : Nat) : Prop :=
  ∀ (p : Program) (e : Env) (s : State) (m : MethodId) (args : Array Value) (below : List Frame) (meth : Method) (c : Code) (D : am_D) (A : Nat → Prop) (ad0 : am_N → Nat) (kd0 : am_kd) (H : Heap) (locs : List Loc) (lsA : Array Slot) (ad : am_N → Nat),
    am_C M p s m args meth c D A → am_R M s D A ad0 kd0 H locs lsA ad ls st kd rv iv →
    W p l e R s m args below meth c H locs cu su (MQ below (am_Qc D A ad0 kd0 post) args s R.cells R.slots A) (F0 m pc lsA (st.map (am_cv ad)))
def am_Pc (D : am_D) (ad : am_N → Nat) (sz : Nat) (av : List am_V) (kd : am_kd) (rv : am_rv) (iv : am_iv) : Array Value → State → Prop := fun args U =>
  args = (av.map (am_cv ad)).toArray ∧ U.heap.size = sz ∧ am_KF D (am_A kd ad sz) U ∧ am_HR D ad kd rv iv U.heap ∧ ∀ v ∈ av, am_lv kd v
def am_Met (l : Launch) (M : am_M) (R : Room) (av : List am_V) (kd : am_kd) (rv : am_rv) (iv : am_iv) (post : am_Post) : Prop :=
  ∀ (D : am_D) (ad : am_N → Nat) (sz : Nat), Met l M.1 (am_ws M) R (am_Pc D ad sz av kd rv iv) (am_Qc D (am_A kd ad sz) ad kd post) R.cells R.slots (am_A kd ad sz)
/-- the locals at a method's entry -/
def am_ent : List am_V → List (Option am_V)
  | [] => []
  | v :: vs => if am_c2 v = true then some v :: none :: am_ent vs else some v :: am_ent vs
theorem am_ent_len (ad : am_N → Nat) (av : List am_V) : (lg_sl (av.map (am_cv ad))).length = (am_ent av).length := by
  induction av with
  | nil => rfl
  | cons v vs ih =>
    have e : lg_sl ((v :: vs).map (am_cv ad)) = (if (am_cv ad v).category = 2 then [.val (am_cv ad v), .second] else [.val (am_cv ad v)]) ++ lg_sl (vs.map (am_cv ad)) := by
      simp [lg_sl]
    rw [e, am_c2_cat]
    by_cases h : am_c2 v = true
    · simp [am_ent, h, ih]
    · simp [am_ent, h, ih]
theorem am_ent_args (ad : am_N → Nat) : ∀ (av : List am_V) (z i : Nat) (w : am_V), (am_ent av)[i]? = some (some w) → (z + i, am_cv ad w) ∈ lv_args z (av.map (am_cv ad)) := by
  intro av
  induction av with
  | nil => intro z i w h; simp [am_ent] at h
  | cons v vs ih =>
    intro z i w h
    have e : lv_args z ((v :: vs).map (am_cv ad)) = (z, am_cv ad v) :: lv_args (if (am_cv ad v).category = 2 then z + 2 else z + 1) (vs.map (am_cv ad)) := rfl
    rw [e, am_c2_cat]
    by_cases hc : am_c2 v = true
    · simp only [am_ent, hc, if_true] at h ⊢
      match i, h with
      | 0, h => simp at h; subst h; simp
      | 1, h => simp at h
      | i + 2, h =>
        simp only [List.getElem?_cons_succ] at h
        have h2 := ih (z + 2) i w h
        rw [show z + (i + 2) = z + 2 + i by omega]
        exact List.mem_cons_of_mem _ h2
    · simp only [am_ent, hc] at h ⊢
      match i, h with
      | 0, h => simp at h; subst h; simp
      | i + 1, h =>
        simp at h
        have h2 := ih (z + 1) i w h
        rw [show z + (i + 1) = z + 1 + i by omega]
        simp
        exact Or.inr h2
theorem am_KF.blind {D : am_D} {A : Nat → Prop} {U U' : State} (hv : U'.vm = U.vm) (hh : U'.heap = U.heap) (h : am_KF D A U) : am_KF D A U' := by
  obtain ⟨h1, h2, h3, h4, h5, h6, h7, h8, h9⟩ := h
  have hal : U.vm.Alike U'.vm := by rw [hv]; exact Vm.Alike.refl _
  refine ⟨h1.moved hal, fun w hw => ?_, ⟨fun q hq => (h3.1 q hq).moved hal, fun q hq => (h3.2.1 q hq).moved hal, fun q hq => (h3.2.2 q hq).moved hal⟩, ?_, h5.same hv, h6.same hv, ?_, by rw [hh]; exact h8, h9⟩
  · refine va_Nw.same ?_ hv.symm (h2 w hw)
    have h3 := (List.mem_filter.mp hw).2
    cases w <;> first | rfl | cases h3
  · rw [hh]; exact h4.moved hal
  · rw [hh]; exact h7.moved hal
theorem am_Pc_blind {D : am_D} {ad : am_N → Nat} {sz : Nat} {av : List am_V} {kd : am_kd} {rv : am_rv} {iv : am_iv} : FrameBlind (am_Pc D ad sz av kd rv iv) := by
  intro a U g mk h
  obtain ⟨h1, h2, h3, h4, h5⟩ := h
  exact ⟨h1, h2, am_KF.blind (U := U) (U' := U.calling g mk a) rfl rfl h3, h4, h5⟩
/-- the callee's start, from the caller's -/
theorem am_KF.call {D : am_D} {A B : Nat → Prop} {s U : State} {H : Heap} {locs : List Loc} (hK : am_KF D A s) (hS : va_S A s.heap H locs) (hAB : ∀ q, B q → A q) (hU : U.heap = H) (hW : s.WarmedH U.vm) : am_KF D B U := by
  obtain ⟨h1, h2, h3, h4, h5, h6, h7, h8, h9⟩ := hK
  refine ⟨h1.moved hW.alike, fun w hw => ?_, ⟨fun q hq => (h3.1 q hq).moved hW.alike, fun q hq => (h3.2.1 q hq).moved hW.alike, fun q hq => (h3.2.2 q hq).moved hW.alike⟩, ?_, h5.warm hW, h6.warm hW, ?_, ?_, fun h => h9 (hAB _ h)⟩
  · have h3 := (List.mem_filter.mp hw).2
    cases w <;> first | exact va_Nw.warmM hW (h2 _ hw) | cases h3
  · rw [hU]; exact ((h4.kept hS.2.1).moved hW.alike).narrow hAB
  · rw [hU]; exact (h7.kept (hS.2.1 _ h8 h9)).moved hW.alike
  · rw [hU]; exact Nat.lt_of_lt_of_le h8 hS.1
set_option maxHeartbeats 1000000 in
/-- a contract out of a walk -/
theorem am_Met.of {l : Launch} {M : am_M} {R : Room} {av : List am_V} {kd : am_kd} {rv : am_rv} {iv : am_iv} {post : am_Post} (hy : plainName M.1.cls = true) (hn : (am_ent av).length ≤ M.2.2.1) {ls : List (Option am_V)} (hls : am_ent av ++ List.replicate (M.2.2.1 - (am_ent av).length) none = ls) (k : am_W l M R post 0 ls [] kd rv iv 0 0) : am_Met l M R av kd rv iv post := by
  intro D ad sz
  refine Met.ofW (cc := M.2.1) (maxL := M.2.2.1) (ret := M.2.2.2) (ws' := am_T) hy rfl ?_
  intro p e s m args below meth c s₁ B hml hv
  obtain ⟨rfl, hsz, hKF, hHR, hlv⟩ := hv
  subst hsz
  have hl := lv_entry (av.map (am_cv ad)) (n := M.2.2.1) (by rw [am_ent_len]; exact hn)
  rw [lg_entry_eq]
  generalize (lg_sl (av.map (am_cv ad)) ++ List.replicate (M.2.2.1 - (lg_sl (av.map (am_cv ad))).length) Slot.unset).toArray = lsA at hl ⊢
  refine k p e s m _ below meth c D _ ad kd s.heap [] lsA ad ⟨B.exec, B.bytes, B.returns, hml, findClass_of_methodNamed B.named, atoms_spec (ws := am_ws M) B.pre, B.notSynchronized, (name_of_methodNamed B.named B.method).1, hKF, fun q h => Or.inr h⟩ ⟨hHR, fun n h1 h2 => Or.inl ⟨n, h1, h2, rfl⟩, va_S.rf, fun n h => ⟨rfl, h⟩, ⟨hl.1, hl.2.1, fun i v hi => ?_⟩, fun v hv => ?_, fun v hv => by cases hv⟩
  · subst hls
    rw [List.getElem?_append] at hi
    split at hi
    · have h2 := am_ent_args ad av 0 i v hi
      rw [Nat.zero_add] at h2
      exact hl.2.2 _ h2
    · have h2 := List.mem_of_getElem? hi
      have h3 := List.eq_of_mem_replicate h2
      cases h3
  · subst hls
    rcases List.mem_append.mp hv with h | h
    · have : ∀ (l : List am_V), some v ∈ am_ent l → v ∈ l := by
        intro l
        induction l with
        | nil => intro h; cases h
        | cons a t ih =>
          intro h
          by_cases hc : am_c2 a = true
          · simp [am_ent, hc] at h
            rcases h with h | h
            · subst h; simp
            · exact List.mem_cons_of_mem _ (ih h)
          · simp [am_ent, hc] at h
            rcases h with h | h
            · subst h; simp
            · exact List.mem_cons_of_mem _ (ih h)
      exact hlv v (this av h)
    · have h3 := List.eq_of_mem_replicate h
      cases h3
end
section
section AR
variable {l : Launch} {M : am_M} {R : Room} {post : am_Post} {pc : Nat} {ls : List (Option am_V)} {st : List am_V} {kd : am_kd} {rv : am_rv} {iv : am_iv} {cu su : Nat}
theorem am_R.stk {s : State} {D : am_D} {A : Nat → Prop} {ad0 : am_N → Nat} {kd0 : am_kd} {H : Heap} {locs : List Loc} {lsA : Array Slot} {ad : am_N → Nat} {st' : List am_V} (h : am_R M s D A ad0 kd0 H locs lsA ad ls st kd rv iv) (h' : ∀ v ∈ st', am_lv kd v) : am_R M s D A ad0 kd0 H locs lsA ad ls st' kd rv iv := ⟨h.1, h.2.1, h.2.2.1, h.2.2.2.1, h.2.2.2.2.1, h.2.2.2.2.2.1, h'⟩
theorem am_l0 {kd : am_kd} {st : List am_V} {v : Value} (h : ∀ v ∈ st, am_lv kd v) : ∀ w ∈ (Sum.inr v : am_V) :: st, am_lv kd w := fun w hw => by
  rcases List.mem_cons.mp hw with h1 | h1
  · subst h1; trivial
  · exact h w h1
theorem am_l1 {kd : am_kd} {st : List am_V} {v : am_V} (h : ∀ w ∈ v :: st, am_lv kd w) : ∀ w ∈ st, am_lv kd w := fun w hw => h w (List.mem_cons_of_mem _ hw)
theorem am_lc {kd : am_kd} {st : List am_V} {v : am_V} (hv : am_lv kd v) (h : ∀ v ∈ st, am_lv kd v) : ∀ w ∈ v :: st, am_lv kd w := fun w hw => by
  rcases List.mem_cons.mp hw with h1 | h1
  · subst h1; exact hv
  · exact h w h1
theorem A_iconst {n : Int} (v : Int32) (hd : decode M.2.1 pc = .ok (.iconst n, 1)) (hv : Int32.ofInt n = v) (k : am_W l M R post (pc + 1) ls (am_I v :: st) kd rv iv cu su) : am_W l M R post pc ls st kd rv iv cu su := by
  intro p e s m args below meth c D A ad0 kd0 H locs lsA ad C Rr
  have hL := Rr.2.2.2.2.2.2
  exact lv_iconst C.1 C.2.1 hd hv (k p e s m args below meth c D A ad0 kd0 H locs lsA ad C (Rr.stk (am_l0 hL)))
theorem A_bipush {n : Int} (v : Int32) (hd : decode M.2.1 pc = .ok (.bipush n, 2)) (hv : (Int8.ofInt n).toInt32 = v) (k : am_W l M R post (pc + 2) ls (am_I v :: st) kd rv iv cu su) : am_W l M R post pc ls st kd rv iv cu su := by
  intro p e s m args below meth c D A ad0 kd0 H locs lsA ad C Rr
  have hL := Rr.2.2.2.2.2.2
  exact lv_bipush C.1 C.2.1 hd hv (k p e s m args below meth c D A ad0 kd0 H locs lsA ad C (Rr.stk (am_l0 hL)))
theorem A_sipush {n : Int} (v : Int32) (hd : decode M.2.1 pc = .ok (.sipush n, 3)) (hv : (Int16.ofInt n).toInt32 = v) (k : am_W l M R post (pc + 3) ls (am_I v :: st) kd rv iv cu su) : am_W l M R post pc ls st kd rv iv cu su := by
  intro p e s m args below meth c D A ad0 kd0 H locs lsA ad C Rr
  have hL := Rr.2.2.2.2.2.2
  exact lv_sipush C.1 C.2.1 hd hv (k p e s m args below meth c D A ad0 kd0 H locs lsA ad C (Rr.stk (am_l0 hL)))
theorem A_lconst {n : Fin 2} (v : Int64) (hd : decode M.2.1 pc = .ok (.lconst n, 1)) (hv : Int64.ofNat (n : Nat) = v) (k : am_W l M R post (pc + 1) ls (am_J v :: st) kd rv iv cu su) : am_W l M R post pc ls st kd rv iv cu su := by
  intro p e s m args below meth c D A ad0 kd0 H locs lsA ad C Rr
  have hL := Rr.2.2.2.2.2.2
  exact lv_lconst C.1 C.2.1 hd hv (k p e s m args below meth c D A ad0 kd0 H locs lsA ad C (Rr.stk (am_l0 hL)))
theorem A_null  (hd : decode M.2.1 pc = .ok (.aconst_null, 1))  (k : am_W l M R post (pc + 1) ls (am_0 :: st) kd rv iv cu su) : am_W l M R post pc ls st kd rv iv cu su := by
  intro p e s m args below meth c D A ad0 kd0 H locs lsA ad C Rr
  have hL := Rr.2.2.2.2.2.2
  exact lv_null C.1 C.2.1 hd  (k p e s m args below meth c D A ad0 kd0 H locs lsA ad C (Rr.stk (am_l0 hL)))
theorem A_iadd {x y : Int32} (hd : decode M.2.1 pc = .ok (.iadd, 1))  (k : am_W l M R post (pc + 1) ls (am_I (x + y) :: st) kd rv iv cu su) : am_W l M R post pc ls (am_I y :: am_I x :: st) kd rv iv cu su := by
  intro p e s m args below meth c D A ad0 kd0 H locs lsA ad C Rr
  have hL := Rr.2.2.2.2.2.2
  exact lv_iadd C.1 C.2.1 hd  (k p e s m args below meth c D A ad0 kd0 H locs lsA ad C (Rr.stk (am_l0 (am_l1 (am_l1 hL)))))
theorem A_isub {x y : Int32} (hd : decode M.2.1 pc = .ok (.isub, 1))  (k : am_W l M R post (pc + 1) ls (am_I (x - y) :: st) kd rv iv cu su) : am_W l M R post pc ls (am_I y :: am_I x :: st) kd rv iv cu su := by
  intro p e s m args below meth c D A ad0 kd0 H locs lsA ad C Rr
  have hL := Rr.2.2.2.2.2.2
  exact lv_isub C.1 C.2.1 hd  (k p e s m args below meth c D A ad0 kd0 H locs lsA ad C (Rr.stk (am_l0 (am_l1 (am_l1 hL)))))
theorem A_imul {x y : Int32} (hd : decode M.2.1 pc = .ok (.imul, 1))  (k : am_W l M R post (pc + 1) ls (am_I (x * y) :: st) kd rv iv cu su) : am_W l M R post pc ls (am_I y :: am_I x :: st) kd rv iv cu su := by
  intro p e s m args below meth c D A ad0 kd0 H locs lsA ad C Rr
  have hL := Rr.2.2.2.2.2.2
  exact lv_imul C.1 C.2.1 hd  (k p e s m args below meth c D A ad0 kd0 H locs lsA ad C (Rr.stk (am_l0 (am_l1 (am_l1 hL)))))
theorem A_iand {x y : Int32} (hd : decode M.2.1 pc = .ok (.iand, 1))  (k : am_W l M R post (pc + 1) ls (am_I (x &&& y) :: st) kd rv iv cu su) : am_W l M R post pc ls (am_I y :: am_I x :: st) kd rv iv cu su := by
  intro p e s m args below meth c D A ad0 kd0 H locs lsA ad C Rr
  have hL := Rr.2.2.2.2.2.2
  exact lv_iand C.1 C.2.1 hd  (k p e s m args below meth c D A ad0 kd0 H locs lsA ad C (Rr.stk (am_l0 (am_l1 (am_l1 hL)))))
theorem A_ior {x y : Int32} (hd : decode M.2.1 pc = .ok (.ior, 1))  (k : am_W l M R post (pc + 1) ls (am_I (x ||| y) :: st) kd rv iv cu su) : am_W l M R post pc ls (am_I y :: am_I x :: st) kd rv iv cu su := by
  intro p e s m args below meth c D A ad0 kd0 H locs lsA ad C Rr
  have hL := Rr.2.2.2.2.2.2
  exact lv_ior C.1 C.2.1 hd  (k p e s m args below meth c D A ad0 kd0 H locs lsA ad C (Rr.stk (am_l0 (am_l1 (am_l1 hL)))))
theorem A_ixor {x y : Int32} (hd : decode M.2.1 pc = .ok (.ixor, 1))  (k : am_W l M R post (pc + 1) ls (am_I (x ^^^ y) :: st) kd rv iv cu su) : am_W l M R post pc ls (am_I y :: am_I x :: st) kd rv iv cu su := by
  intro p e s m args below meth c D A ad0 kd0 H locs lsA ad C Rr
  have hL := Rr.2.2.2.2.2.2
  exact lv_ixor C.1 C.2.1 hd  (k p e s m args below meth c D A ad0 kd0 H locs lsA ad C (Rr.stk (am_l0 (am_l1 (am_l1 hL)))))
theorem A_ishl {x y : Int32} (hd : decode M.2.1 pc = .ok (.ishl, 1))  (k : am_W l M R post (pc + 1) ls (am_I (x <<< (y &&& 31)) :: st) kd rv iv cu su) : am_W l M R post pc ls (am_I y :: am_I x :: st) kd rv iv cu su := by
  intro p e s m args below meth c D A ad0 kd0 H locs lsA ad C Rr
  have hL := Rr.2.2.2.2.2.2
  exact lv_ishl C.1 C.2.1 hd  (k p e s m args below meth c D A ad0 kd0 H locs lsA ad C (Rr.stk (am_l0 (am_l1 (am_l1 hL)))))
theorem A_ishr {x y : Int32} (hd : decode M.2.1 pc = .ok (.ishr, 1))  (k : am_W l M R post (pc + 1) ls (am_I (x >>> (y &&& 31)) :: st) kd rv iv cu su) : am_W l M R post pc ls (am_I y :: am_I x :: st) kd rv iv cu su := by
  intro p e s m args below meth c D A ad0 kd0 H locs lsA ad C Rr
  have hL := Rr.2.2.2.2.2.2
  exact lv_ishr C.1 C.2.1 hd  (k p e s m args below meth c D A ad0 kd0 H locs lsA ad C (Rr.stk (am_l0 (am_l1 (am_l1 hL)))))
theorem A_idiv {x y : Int32} (hd : decode M.2.1 pc = .ok (.idiv, 1)) (hne : ¬ y = 0) (k : am_W l M R post (pc + 1) ls (am_I (x / y) :: st) kd rv iv cu su) : am_W l M R post pc ls (am_I y :: am_I x :: st) kd rv iv cu su := by
  intro p e s m args below meth c D A ad0 kd0 H locs lsA ad C Rr
  have hL := Rr.2.2.2.2.2.2
  exact lv_idiv C.1 C.2.1 hd hne (k p e s m args below meth c D A ad0 kd0 H locs lsA ad C (Rr.stk (am_l0 (am_l1 (am_l1 hL)))))
theorem A_irem {x y : Int32} (hd : decode M.2.1 pc = .ok (.irem, 1)) (hne : ¬ y = 0) (k : am_W l M R post (pc + 1) ls (am_I (x - x / y * y) :: st) kd rv iv cu su) : am_W l M R post pc ls (am_I y :: am_I x :: st) kd rv iv cu su := by
  intro p e s m args below meth c D A ad0 kd0 H locs lsA ad C Rr
  have hL := Rr.2.2.2.2.2.2
  exact lv_irem C.1 C.2.1 hd hne (k p e s m args below meth c D A ad0 kd0 H locs lsA ad C (Rr.stk (am_l0 (am_l1 (am_l1 hL)))))
theorem A_iushr {x y : Int32} (hd : decode M.2.1 pc = .ok (.iushr, 1))  (k : am_W l M R post (pc + 1) ls (am_I ((x.toUInt32 >>> (y.toUInt32 &&& Int32.toUInt32 31)).toInt32) :: st) kd rv iv cu su) : am_W l M R post pc ls (am_I y :: am_I x :: st) kd rv iv cu su := by
  intro p e s m args below meth c D A ad0 kd0 H locs lsA ad C Rr
  have hL := Rr.2.2.2.2.2.2
  exact lv_iushr C.1 C.2.1 hd rfl (k p e s m args below meth c D A ad0 kd0 H locs lsA ad C (Rr.stk (am_l0 (am_l1 (am_l1 hL)))))
theorem A_ineg {x : Int32} (hd : decode M.2.1 pc = .ok (.ineg, 1))  (k : am_W l M R post (pc + 1) ls (am_I (-x) :: st) kd rv iv cu su) : am_W l M R post pc ls (am_I x :: st) kd rv iv cu su := by
  intro p e s m args below meth c D A ad0 kd0 H locs lsA ad C Rr
  have hL := Rr.2.2.2.2.2.2
  exact lv_ineg C.1 C.2.1 hd  (k p e s m args below meth c D A ad0 kd0 H locs lsA ad C (Rr.stk (am_l0 (am_l1 hL))))
theorem A_lsub {x y : Int64} (hd : decode M.2.1 pc = .ok (.lsub, 1))  (k : am_W l M R post (pc + 1) ls (am_J (x - y) :: st) kd rv iv cu su) : am_W l M R post pc ls (am_J y :: am_J x :: st) kd rv iv cu su := by
  intro p e s m args below meth c D A ad0 kd0 H locs lsA ad C Rr
  have hL := Rr.2.2.2.2.2.2
  exact lv_lsub C.1 C.2.1 hd  (k p e s m args below meth c D A ad0 kd0 H locs lsA ad C (Rr.stk (am_l0 (am_l1 (am_l1 hL)))))
theorem A_land {x y : Int64} (hd : decode M.2.1 pc = .ok (.land, 1))  (k : am_W l M R post (pc + 1) ls (am_J (x &&& y) :: st) kd rv iv cu su) : am_W l M R post pc ls (am_J y :: am_J x :: st) kd rv iv cu su := by
  intro p e s m args below meth c D A ad0 kd0 H locs lsA ad C Rr
  have hL := Rr.2.2.2.2.2.2
  exact lv_land C.1 C.2.1 hd  (k p e s m args below meth c D A ad0 kd0 H locs lsA ad C (Rr.stk (am_l0 (am_l1 (am_l1 hL)))))
theorem A_lor {x y : Int64} (hd : decode M.2.1 pc = .ok (.lor, 1))  (k : am_W l M R post (pc + 1) ls (am_J (x ||| y) :: st) kd rv iv cu su) : am_W l M R post pc ls (am_J y :: am_J x :: st) kd rv iv cu su := by
  intro p e s m args below meth c D A ad0 kd0 H locs lsA ad C Rr
  have hL := Rr.2.2.2.2.2.2
  exact lv_lor C.1 C.2.1 hd  (k p e s m args below meth c D A ad0 kd0 H locs lsA ad C (Rr.stk (am_l0 (am_l1 (am_l1 hL)))))
theorem A_lneg {x : Int64} (hd : decode M.2.1 pc = .ok (.lneg, 1))  (k : am_W l M R post (pc + 1) ls (am_J (-x) :: st) kd rv iv cu su) : am_W l M R post pc ls (am_J x :: st) kd rv iv cu su := by
  intro p e s m args below meth c D A ad0 kd0 H locs lsA ad C Rr
  have hL := Rr.2.2.2.2.2.2
  exact lv_lneg C.1 C.2.1 hd  (k p e s m args below meth c D A ad0 kd0 H locs lsA ad C (Rr.stk (am_l0 (am_l1 hL))))
theorem A_lshl {x : Int64} {y : Int32} (hd : decode M.2.1 pc = .ok (.lshl, 1))  (k : am_W l M R post (pc + 1) ls (am_J (x <<< (y.toInt64 &&& 63)) :: st) kd rv iv cu su) : am_W l M R post pc ls (am_I y :: am_J x :: st) kd rv iv cu su := by
  intro p e s m args below meth c D A ad0 kd0 H locs lsA ad C Rr
  have hL := Rr.2.2.2.2.2.2
  exact lv_lshl C.1 C.2.1 hd rfl (k p e s m args below meth c D A ad0 kd0 H locs lsA ad C (Rr.stk (am_l0 (am_l1 (am_l1 hL)))))
theorem A_lshr {x : Int64} {y : Int32} (hd : decode M.2.1 pc = .ok (.lshr, 1))  (k : am_W l M R post (pc + 1) ls (am_J (x >>> (y.toInt64 &&& 63)) :: st) kd rv iv cu su) : am_W l M R post pc ls (am_I y :: am_J x :: st) kd rv iv cu su := by
  intro p e s m args below meth c D A ad0 kd0 H locs lsA ad C Rr
  have hL := Rr.2.2.2.2.2.2
  exact lv_lshr C.1 C.2.1 hd rfl (k p e s m args below meth c D A ad0 kd0 H locs lsA ad C (Rr.stk (am_l0 (am_l1 (am_l1 hL)))))
theorem A_i2l {x : Int32} (hd : decode M.2.1 pc = .ok (.i2l, 1))  (k : am_W l M R post (pc + 1) ls (am_J x.toInt64 :: st) kd rv iv cu su) : am_W l M R post pc ls (am_I x :: st) kd rv iv cu su := by
  intro p e s m args below meth c D A ad0 kd0 H locs lsA ad C Rr
  have hL := Rr.2.2.2.2.2.2
  exact lv_i2l C.1 C.2.1 hd rfl (k p e s m args below meth c D A ad0 kd0 H locs lsA ad C (Rr.stk (am_l0 (am_l1 hL))))
theorem A_l2i {x : Int64} (hd : decode M.2.1 pc = .ok (.l2i, 1))  (k : am_W l M R post (pc + 1) ls (am_I x.toInt32 :: st) kd rv iv cu su) : am_W l M R post pc ls (am_J x :: st) kd rv iv cu su := by
  intro p e s m args below meth c D A ad0 kd0 H locs lsA ad C Rr
  have hL := Rr.2.2.2.2.2.2
  exact lv_l2i C.1 C.2.1 hd rfl (k p e s m args below meth c D A ad0 kd0 H locs lsA ad C (Rr.stk (am_l0 (am_l1 hL))))
theorem A_i2b {x : Int32} (hd : decode M.2.1 pc = .ok (.i2b, 1))  (k : am_W l M R post (pc + 1) ls (am_I x.toInt8.toInt32 :: st) kd rv iv cu su) : am_W l M R post pc ls (am_I x :: st) kd rv iv cu su := by
  intro p e s m args below meth c D A ad0 kd0 H locs lsA ad C Rr
  have hL := Rr.2.2.2.2.2.2
  exact lv_i2b C.1 C.2.1 hd rfl (k p e s m args below meth c D A ad0 kd0 H locs lsA ad C (Rr.stk (am_l0 (am_l1 hL))))
theorem A_i2s {x : Int32} (hd : decode M.2.1 pc = .ok (.i2s, 1))  (k : am_W l M R post (pc + 1) ls (am_I x.toInt16.toInt32 :: st) kd rv iv cu su) : am_W l M R post pc ls (am_I x :: st) kd rv iv cu su := by
  intro p e s m args below meth c D A ad0 kd0 H locs lsA ad C Rr
  have hL := Rr.2.2.2.2.2.2
  exact lv_i2s C.1 C.2.1 hd rfl (k p e s m args below meth c D A ad0 kd0 H locs lsA ad C (Rr.stk (am_l0 (am_l1 hL))))
theorem A_i2c {x : Int32} (hd : decode M.2.1 pc = .ok (.i2c, 1))  (k : am_W l M R post (pc + 1) ls (am_I (x.toUInt32 % 65536).toInt32 :: st) kd rv iv cu su) : am_W l M R post pc ls (am_I x :: st) kd rv iv cu su := by
  intro p e s m args below meth c D A ad0 kd0 H locs lsA ad C Rr
  have hL := Rr.2.2.2.2.2.2
  exact lv_i2c C.1 C.2.1 hd rfl (k p e s m args below meth c D A ad0 kd0 H locs lsA ad C (Rr.stk (am_l0 (am_l1 hL))))
theorem A_lcmp {x y : Int64} (hd : decode M.2.1 pc = .ok (.lcmp, 1))  (k : am_W l M R post (pc + 1) ls (am_I (lg_cmp x y) :: st) kd rv iv cu su) : am_W l M R post pc ls (am_J y :: am_J x :: st) kd rv iv cu su := by
  intro p e s m args below meth c D A ad0 kd0 H locs lsA ad C Rr
  have hL := Rr.2.2.2.2.2.2
  exact W.lcmp C.1 C.2.1 hd  (k p e s m args below meth c D A ad0 kd0 H locs lsA ad C (Rr.stk (am_l0 (am_l1 (am_l1 hL)))))
theorem am_cat1 (ad : am_N → Nat) {v : am_V} (h : am_c2 v = false) : (am_cv ad v).category = 1 := by rw [am_c2_cat, h]; rfl
theorem A_dup {v : am_V} (hd : decode M.2.1 pc = .ok (.dup, 1)) (hc : am_c2 v = false) (k : am_W l M R post (pc + 1) ls (v :: v :: st) kd rv iv cu su) : am_W l M R post pc ls (v :: st) kd rv iv cu su := by
  intro p e s m args below meth c D A ad0 kd0 H locs lsA ad C Rr
  have hL := Rr.2.2.2.2.2.2
  exact lv_dup C.1 C.2.1 hd (am_cat1 ad hc) (k p e s m args below meth c D A ad0 kd0 H locs lsA ad C (Rr.stk (am_lc (hL _ List.mem_cons_self) hL)))
theorem A_dup2 {v w : am_V} (hd : decode M.2.1 pc = .ok (.dup2, 1)) (hc : am_c2 v = false) (hc2 : am_c2 w = false) (k : am_W l M R post (pc + 1) ls (v :: w :: v :: w :: st) kd rv iv cu su) : am_W l M R post pc ls (v :: w :: st) kd rv iv cu su := by
  intro p e s m args below meth c D A ad0 kd0 H locs lsA ad C Rr
  have hL := Rr.2.2.2.2.2.2
  exact lv_dup2_11 C.1 C.2.1 hd (am_cat1 ad hc) (am_cat1 ad hc2) (k p e s m args below meth c D A ad0 kd0 H locs lsA ad C (Rr.stk (am_lc (hL _ List.mem_cons_self) (am_lc (hL _ (List.mem_cons_of_mem _ List.mem_cons_self)) hL))))
theorem A_pop {v : am_V} (hd : decode M.2.1 pc = .ok (.pop, 1)) (hc : am_c2 v = false) (k : am_W l M R post (pc + 1) ls st kd rv iv cu su) : am_W l M R post pc ls (v :: st) kd rv iv cu su := by
  intro p e s m args below meth c D A ad0 kd0 H locs lsA ad C Rr
  have hL := Rr.2.2.2.2.2.2
  exact lv_pop C.1 C.2.1 hd (am_cat1 ad hc) (k p e s m args below meth c D A ad0 kd0 H locs lsA ad C (Rr.stk (am_l1 hL)))
theorem am_tin {M : am_M} {w : Cond} (i : Nat) (h : lw_tbl[i]? = some w) (g : goodWord w = true) : w ∈ am_ws M := List.mem_cons_of_mem _ (List.mem_filter.mpr ⟨List.mem_of_getElem? h, g⟩)
theorem A_ldc {index : Nat} {v : Int32} (hc : Cond.constant M.1.cls index v ∈ am_ws M) (hd : decode M.2.1 pc = .ok (.ldc index, 2))  (k : am_W l M R post (pc + 2) ls (am_I v :: st) kd rv iv cu su) : am_W l M R post pc ls st kd rv iv cu su := by
  intro p e s m args below meth c D A ad0 kd0 H locs lsA ad C Rr
  have hL := Rr.2.2.2.2.2.2
  exact (fun a b d => lv_ldc a b C.2.2.2.2.1 (C.2.2.2.2.2.1 _ hc) d) C.1 C.2.1 hd  (k p e s m args below meth c D A ad0 kd0 H locs lsA ad C (Rr.stk (am_l0 hL)))
theorem A_ldcw {index : Nat} {v : Int32} (hc : Cond.constant M.1.cls index v ∈ am_ws M) (hd : decode M.2.1 pc = .ok (.ldc_w index, 3))  (k : am_W l M R post (pc + 3) ls (am_I v :: st) kd rv iv cu su) : am_W l M R post pc ls st kd rv iv cu su := by
  intro p e s m args below meth c D A ad0 kd0 H locs lsA ad C Rr
  have hL := Rr.2.2.2.2.2.2
  exact (fun a b d => lv_ldcw a b C.2.2.2.2.1 (C.2.2.2.2.2.1 _ hc) d) C.1 C.2.1 hd  (k p e s m args below meth c D A ad0 kd0 H locs lsA ad C (Rr.stk (am_l0 hL)))
theorem A_ldc2 {index : Nat} {v : Int64} (hc : Cond.constantLong M.1.cls index v ∈ am_ws M) (hd : decode M.2.1 pc = .ok (.ldc2_w index, 3))  (k : am_W l M R post (pc + 3) ls (am_J v :: st) kd rv iv cu su) : am_W l M R post pc ls st kd rv iv cu su := by
  intro p e s m args below meth c D A ad0 kd0 H locs lsA ad C Rr
  have hL := Rr.2.2.2.2.2.2
  exact (fun a b d => lv_ldc2 a b C.2.2.2.2.1 (C.2.2.2.2.2.1 _ hc) d) C.1 C.2.1 hd  (k p e s m args below meth c D A ad0 kd0 H locs lsA ad C (Rr.stk (am_l0 hL)))
theorem A_goto {off : Int} (tgt : Nat) (hd : decode M.2.1 pc = .ok (.goto off, 3)) (ht : (pc : Int) + off = (tgt : Int)) (k : am_W l M R post tgt ls st kd rv iv cu su) : am_W l M R post pc ls st kd rv iv cu su := by
  intro p e s m args below meth c D A ad0 kd0 H locs lsA ad C Rr
  exact lv_goto C.1 C.2.1 hd ht (k p e s m args below meth c D A ad0 kd0 H locs lsA ad C Rr)
theorem A_ifeq {x : Int32} {off : Int} (tgt : Nat) (hd : decode M.2.1 pc = .ok (.ifCond .eq off, 3)) (ht : (pc : Int) + off = (tgt : Int)) (kt : x = 0 → am_W l M R post tgt ls st kd rv iv cu su) (kf : ¬ (x = 0) → am_W l M R post (pc + 3) ls st kd rv iv cu su) : am_W l M R post pc ls (am_I x :: st) kd rv iv cu su := by
  intro p e s m args below meth c D A ad0 kd0 H locs lsA ad C Rr
  have hL := Rr.2.2.2.2.2.2
  exact lv_if_eq C.1 C.2.1 hd ht (fun h => kt h p e s m args below meth c D A ad0 kd0 H locs lsA ad C (Rr.stk (am_l1 hL))) (fun h => kf h p e s m args below meth c D A ad0 kd0 H locs lsA ad C (Rr.stk (am_l1 hL)))
theorem A_ifne {x : Int32} {off : Int} (tgt : Nat) (hd : decode M.2.1 pc = .ok (.ifCond .ne off, 3)) (ht : (pc : Int) + off = (tgt : Int)) (kt : ¬ x = 0 → am_W l M R post tgt ls st kd rv iv cu su) (kf : x = 0 → am_W l M R post (pc + 3) ls st kd rv iv cu su) : am_W l M R post pc ls (am_I x :: st) kd rv iv cu su := by
  intro p e s m args below meth c D A ad0 kd0 H locs lsA ad C Rr
  have hL := Rr.2.2.2.2.2.2
  exact lv_if_ne C.1 C.2.1 hd ht (fun h => kt h p e s m args below meth c D A ad0 kd0 H locs lsA ad C (Rr.stk (am_l1 hL))) (fun h => kf h p e s m args below meth c D A ad0 kd0 H locs lsA ad C (Rr.stk (am_l1 hL)))
theorem A_iflt {x : Int32} {off : Int} (tgt : Nat) (hd : decode M.2.1 pc = .ok (.ifCond .lt off, 3)) (ht : (pc : Int) + off = (tgt : Int)) (kt : x < 0 → am_W l M R post tgt ls st kd rv iv cu su) (kf : ¬ (x < 0) → am_W l M R post (pc + 3) ls st kd rv iv cu su) : am_W l M R post pc ls (am_I x :: st) kd rv iv cu su := by
  intro p e s m args below meth c D A ad0 kd0 H locs lsA ad C Rr
  have hL := Rr.2.2.2.2.2.2
  exact lv_if_lt C.1 C.2.1 hd ht (fun h => kt h p e s m args below meth c D A ad0 kd0 H locs lsA ad C (Rr.stk (am_l1 hL))) (fun h => kf h p e s m args below meth c D A ad0 kd0 H locs lsA ad C (Rr.stk (am_l1 hL)))
theorem A_ifge {x : Int32} {off : Int} (tgt : Nat) (hd : decode M.2.1 pc = .ok (.ifCond .ge off, 3)) (ht : (pc : Int) + off = (tgt : Int)) (kt : 0 ≤ x → am_W l M R post tgt ls st kd rv iv cu su) (kf : ¬ (0 ≤ x) → am_W l M R post (pc + 3) ls st kd rv iv cu su) : am_W l M R post pc ls (am_I x :: st) kd rv iv cu su := by
  intro p e s m args below meth c D A ad0 kd0 H locs lsA ad C Rr
  have hL := Rr.2.2.2.2.2.2
  exact lv_if_ge C.1 C.2.1 hd ht (fun h => kt h p e s m args below meth c D A ad0 kd0 H locs lsA ad C (Rr.stk (am_l1 hL))) (fun h => kf h p e s m args below meth c D A ad0 kd0 H locs lsA ad C (Rr.stk (am_l1 hL)))
theorem A_ifgt {x : Int32} {off : Int} (tgt : Nat) (hd : decode M.2.1 pc = .ok (.ifCond .gt off, 3)) (ht : (pc : Int) + off = (tgt : Int)) (kt : 0 < x → am_W l M R post tgt ls st kd rv iv cu su) (kf : ¬ (0 < x) → am_W l M R post (pc + 3) ls st kd rv iv cu su) : am_W l M R post pc ls (am_I x :: st) kd rv iv cu su := by
  intro p e s m args below meth c D A ad0 kd0 H locs lsA ad C Rr
  have hL := Rr.2.2.2.2.2.2
  exact lv_if_gt C.1 C.2.1 hd ht (fun h => kt h p e s m args below meth c D A ad0 kd0 H locs lsA ad C (Rr.stk (am_l1 hL))) (fun h => kf h p e s m args below meth c D A ad0 kd0 H locs lsA ad C (Rr.stk (am_l1 hL)))
theorem A_ifle {x : Int32} {off : Int} (tgt : Nat) (hd : decode M.2.1 pc = .ok (.ifCond .le off, 3)) (ht : (pc : Int) + off = (tgt : Int)) (kt : x ≤ 0 → am_W l M R post tgt ls st kd rv iv cu su) (kf : ¬ (x ≤ 0) → am_W l M R post (pc + 3) ls st kd rv iv cu su) : am_W l M R post pc ls (am_I x :: st) kd rv iv cu su := by
  intro p e s m args below meth c D A ad0 kd0 H locs lsA ad C Rr
  have hL := Rr.2.2.2.2.2.2
  exact lv_if_le C.1 C.2.1 hd ht (fun h => kt h p e s m args below meth c D A ad0 kd0 H locs lsA ad C (Rr.stk (am_l1 hL))) (fun h => kf h p e s m args below meth c D A ad0 kd0 H locs lsA ad C (Rr.stk (am_l1 hL)))
theorem A_icmpeq {x y : Int32} {off : Int} (tgt : Nat) (hd : decode M.2.1 pc = .ok (.if_icmp .eq off, 3)) (ht : (pc : Int) + off = (tgt : Int)) (kt : x = y → am_W l M R post tgt ls st kd rv iv cu su) (kf : ¬ (x = y) → am_W l M R post (pc + 3) ls st kd rv iv cu su) : am_W l M R post pc ls (am_I y :: am_I x :: st) kd rv iv cu su := by
  intro p e s m args below meth c D A ad0 kd0 H locs lsA ad C Rr
  have hL := Rr.2.2.2.2.2.2
  exact lv_icmp_eq C.1 C.2.1 hd ht (fun h => kt h p e s m args below meth c D A ad0 kd0 H locs lsA ad C (Rr.stk (am_l1 (am_l1 hL)))) (fun h => kf h p e s m args below meth c D A ad0 kd0 H locs lsA ad C (Rr.stk (am_l1 (am_l1 hL))))
theorem A_icmpne {x y : Int32} {off : Int} (tgt : Nat) (hd : decode M.2.1 pc = .ok (.if_icmp .ne off, 3)) (ht : (pc : Int) + off = (tgt : Int)) (kt : ¬ x = y → am_W l M R post tgt ls st kd rv iv cu su) (kf : x = y → am_W l M R post (pc + 3) ls st kd rv iv cu su) : am_W l M R post pc ls (am_I y :: am_I x :: st) kd rv iv cu su := by
  intro p e s m args below meth c D A ad0 kd0 H locs lsA ad C Rr
  have hL := Rr.2.2.2.2.2.2
  exact lv_icmp_ne C.1 C.2.1 hd ht (fun h => kt h p e s m args below meth c D A ad0 kd0 H locs lsA ad C (Rr.stk (am_l1 (am_l1 hL)))) (fun h => kf h p e s m args below meth c D A ad0 kd0 H locs lsA ad C (Rr.stk (am_l1 (am_l1 hL))))
theorem A_icmplt {x y : Int32} {off : Int} (tgt : Nat) (hd : decode M.2.1 pc = .ok (.if_icmp .lt off, 3)) (ht : (pc : Int) + off = (tgt : Int)) (kt : x < y → am_W l M R post tgt ls st kd rv iv cu su) (kf : ¬ (x < y) → am_W l M R post (pc + 3) ls st kd rv iv cu su) : am_W l M R post pc ls (am_I y :: am_I x :: st) kd rv iv cu su := by
  intro p e s m args below meth c D A ad0 kd0 H locs lsA ad C Rr
  have hL := Rr.2.2.2.2.2.2
  exact lv_icmp_lt C.1 C.2.1 hd ht (fun h => kt h p e s m args below meth c D A ad0 kd0 H locs lsA ad C (Rr.stk (am_l1 (am_l1 hL)))) (fun h => kf h p e s m args below meth c D A ad0 kd0 H locs lsA ad C (Rr.stk (am_l1 (am_l1 hL))))
theorem A_icmpge {x y : Int32} {off : Int} (tgt : Nat) (hd : decode M.2.1 pc = .ok (.if_icmp .ge off, 3)) (ht : (pc : Int) + off = (tgt : Int)) (kt : y ≤ x → am_W l M R post tgt ls st kd rv iv cu su) (kf : ¬ (y ≤ x) → am_W l M R post (pc + 3) ls st kd rv iv cu su) : am_W l M R post pc ls (am_I y :: am_I x :: st) kd rv iv cu su := by
  intro p e s m args below meth c D A ad0 kd0 H locs lsA ad C Rr
  have hL := Rr.2.2.2.2.2.2
  exact lv_icmp_ge C.1 C.2.1 hd ht (fun h => kt h p e s m args below meth c D A ad0 kd0 H locs lsA ad C (Rr.stk (am_l1 (am_l1 hL)))) (fun h => kf h p e s m args below meth c D A ad0 kd0 H locs lsA ad C (Rr.stk (am_l1 (am_l1 hL))))
theorem A_icmpgt {x y : Int32} {off : Int} (tgt : Nat) (hd : decode M.2.1 pc = .ok (.if_icmp .gt off, 3)) (ht : (pc : Int) + off = (tgt : Int)) (kt : y < x → am_W l M R post tgt ls st kd rv iv cu su) (kf : ¬ (y < x) → am_W l M R post (pc + 3) ls st kd rv iv cu su) : am_W l M R post pc ls (am_I y :: am_I x :: st) kd rv iv cu su := by
  intro p e s m args below meth c D A ad0 kd0 H locs lsA ad C Rr
  have hL := Rr.2.2.2.2.2.2
  exact lv_icmp_gt C.1 C.2.1 hd ht (fun h => kt h p e s m args below meth c D A ad0 kd0 H locs lsA ad C (Rr.stk (am_l1 (am_l1 hL)))) (fun h => kf h p e s m args below meth c D A ad0 kd0 H locs lsA ad C (Rr.stk (am_l1 (am_l1 hL))))
theorem A_icmple {x y : Int32} {off : Int} (tgt : Nat) (hd : decode M.2.1 pc = .ok (.if_icmp .le off, 3)) (ht : (pc : Int) + off = (tgt : Int)) (kt : x ≤ y → am_W l M R post tgt ls st kd rv iv cu su) (kf : ¬ (x ≤ y) → am_W l M R post (pc + 3) ls st kd rv iv cu su) : am_W l M R post pc ls (am_I y :: am_I x :: st) kd rv iv cu su := by
  intro p e s m args below meth c D A ad0 kd0 H locs lsA ad C Rr
  have hL := Rr.2.2.2.2.2.2
  exact lv_icmp_le C.1 C.2.1 hd ht (fun h => kt h p e s m args below meth c D A ad0 kd0 H locs lsA ad C (Rr.stk (am_l1 (am_l1 hL)))) (fun h => kf h p e s m args below meth c D A ad0 kd0 H locs lsA ad C (Rr.stk (am_l1 (am_l1 hL))))
theorem A_ifnullP {n : am_N} {off : Int} (hd : decode M.2.1 pc = .ok (.ifnull off, 3)) (k : am_W l M R post (pc + 3) ls st kd rv iv cu su) : am_W l M R post pc ls (am_P n :: st) kd rv iv cu su := by
  intro p e s m args below meth c D A ad0 kd0 H locs lsA ad C Rr
  exact lv_ifnull C.1 C.2.1 hd (k p e s m args below meth c D A ad0 kd0 H locs lsA ad C (Rr.stk (am_l1 Rr.2.2.2.2.2.2)))
theorem A_ifnull0 {off : Int} (tgt : Nat) (hd : decode M.2.1 pc = .ok (.ifnull off, 3)) (ht : (pc : Int) + off = (tgt : Int)) (k : am_W l M R post tgt ls st kd rv iv cu su) : am_W l M R post pc ls (am_0 :: st) kd rv iv cu su := by
  intro p e s m args below meth c D A ad0 kd0 H locs lsA ad C Rr
  exact lv_ifnullN C.1 C.2.1 hd ht (k p e s m args below meth c D A ad0 kd0 H locs lsA ad C (Rr.stk (am_l1 Rr.2.2.2.2.2.2)))
theorem A_tableOut {dflt lo hi : Int} {offs : Array Int} {len : Nat} {x : Int32} (tgt : Nat) (hd : decode M.2.1 pc = .ok (.tableswitch dflt lo hi offs, len)) (h : x.toInt < lo ∨ hi < x.toInt) (ht : (pc : Int) + dflt = (tgt : Int)) (k : am_W l M R post tgt ls st kd rv iv cu su) : am_W l M R post pc ls (am_I x :: st) kd rv iv cu su := by
  intro p e s m args below meth c D A ad0 kd0 H locs lsA ad C Rr
  exact lv_tableOut C.1 C.2.1 hd h ht (k p e s m args below meth c D A ad0 kd0 H locs lsA ad C (Rr.stk (am_l1 Rr.2.2.2.2.2.2)))
theorem A_tableIn {dflt lo hi : Int} {offs : Array Int} {len : Nat} {x : Int32} {off : Int} (tgt : Nat) (hd : decode M.2.1 pc = .ok (.tableswitch dflt lo hi offs, len)) (h1 : ¬ x.toInt < lo) (h2 : ¬ hi < x.toInt) (ho : offs[(x.toInt - lo).toNat]? = some off) (ht : (pc : Int) + off = (tgt : Int)) (k : am_W l M R post tgt ls st kd rv iv cu su) : am_W l M R post pc ls (am_I x :: st) kd rv iv cu su := by
  intro p e s m args below meth c D A ad0 kd0 H locs lsA ad C Rr
  exact lv_tableIn C.1 C.2.1 hd h1 h2 ho ht (k p e s m args below meth c D A ad0 kd0 H locs lsA ad C (Rr.stk (am_l1 Rr.2.2.2.2.2.2)))
theorem A_lookup {dflt : Int} {ps : Array (Int × Int)} {len : Nat} {x : Int32} {off : Int} (tgt : Nat) (hd : decode M.2.1 pc = .ok (.lookupswitch dflt ps, len)) (hp : (ps.toList.zip (ps.toList.drop 1)).all (fun (a, next) => a.1 < next.1) = true) (ho : Op.lookupswitch.offset ps.toList dflt x.toInt = off) (ht : (pc : Int) + off = (tgt : Int)) (k : am_W l M R post tgt ls st kd rv iv cu su) : am_W l M R post pc ls (am_I x :: st) kd rv iv cu su := by
  intro p e s m args below meth c D A ad0 kd0 H locs lsA ad C Rr
  exact lv_lookup C.1 C.2.1 hd hp ho ht (k p e s m args below meth c D A ad0 kd0 H locs lsA ad C (Rr.stk (am_l1 Rr.2.2.2.2.2.2)))
theorem A_iload {i : Nat} {x : Int32} (hd : decode M.2.1 pc = .ok (.iload i, 2)) (hv : ls[i]? = some (some (am_I x))) (k : am_W l M R post (pc + 2) ls (am_I x :: st) kd rv iv cu su) : am_W l M R post pc ls st kd rv iv cu su := by
  intro p e s m args below meth c D A ad0 kd0 H locs lsA ad C Rr
  have hL := Rr.2.2.2.2.2.2
  exact lv_iload C.1 C.2.1 hd (Rr.2.2.2.2.1.2.2 i _ hv) (k p e s m args below meth c D A ad0 kd0 H locs lsA ad C (Rr.stk (am_l0 hL)))
theorem A_iload_n {i : Nat} {k9 : Fin 4} {x : Int32} (hd : decode M.2.1 pc = .ok (.iload_n k9, 1)) (hi : (k9 : Nat) = i) (hv : ls[i]? = some (some (am_I x))) (k : am_W l M R post (pc + 1) ls (am_I x :: st) kd rv iv cu su) : am_W l M R post pc ls st kd rv iv cu su := by
  intro p e s m args below meth c D A ad0 kd0 H locs lsA ad C Rr
  have hL := Rr.2.2.2.2.2.2
  exact lv_iload_n C.1 C.2.1 hd hi (Rr.2.2.2.2.1.2.2 i _ hv) (k p e s m args below meth c D A ad0 kd0 H locs lsA ad C (Rr.stk (am_l0 hL)))
theorem A_lload {i : Nat} {x : Int64} (hd : decode M.2.1 pc = .ok (.lload i, 2)) (hv : ls[i]? = some (some (am_J x))) (k : am_W l M R post (pc + 2) ls (am_J x :: st) kd rv iv cu su) : am_W l M R post pc ls st kd rv iv cu su := by
  intro p e s m args below meth c D A ad0 kd0 H locs lsA ad C Rr
  have hL := Rr.2.2.2.2.2.2
  exact lv_lload C.1 C.2.1 hd (Rr.2.2.2.2.1.2.2 i _ hv) (k p e s m args below meth c D A ad0 kd0 H locs lsA ad C (Rr.stk (am_l0 hL)))
theorem A_lload_n {i : Nat} {k9 : Fin 4} {x : Int64} (hd : decode M.2.1 pc = .ok (.lload_n k9, 1)) (hi : (k9 : Nat) = i) (hv : ls[i]? = some (some (am_J x))) (k : am_W l M R post (pc + 1) ls (am_J x :: st) kd rv iv cu su) : am_W l M R post pc ls st kd rv iv cu su := by
  intro p e s m args below meth c D A ad0 kd0 H locs lsA ad C Rr
  have hL := Rr.2.2.2.2.2.2
  exact lv_lload_n C.1 C.2.1 hd hi (Rr.2.2.2.2.1.2.2 i _ hv) (k p e s m args below meth c D A ad0 kd0 H locs lsA ad C (Rr.stk (am_l0 hL)))
theorem A_aload {i : Nat} {n : am_N} (hd : decode M.2.1 pc = .ok (.aload i, 2)) (hv : ls[i]? = some (some (am_P n))) (k : am_W l M R post (pc + 2) ls (am_P n :: st) kd rv iv cu su) : am_W l M R post pc ls st kd rv iv cu su := by
  intro p e s m args below meth c D A ad0 kd0 H locs lsA ad C Rr
  have hL := Rr.2.2.2.2.2.2
  exact lv_aload C.1 C.2.1 hd (Rr.2.2.2.2.1.2.2 i _ hv) (k p e s m args below meth c D A ad0 kd0 H locs lsA ad C (Rr.stk (am_lc (Rr.2.2.2.2.2.1 _ (List.mem_of_getElem? hv)) hL)))
theorem A_aload0 {i : Nat}  (hd : decode M.2.1 pc = .ok (.aload i, 2)) (hv : ls[i]? = some (some am_0)) (k : am_W l M R post (pc + 2) ls (am_0 :: st) kd rv iv cu su) : am_W l M R post pc ls st kd rv iv cu su := by
  intro p e s m args below meth c D A ad0 kd0 H locs lsA ad C Rr
  have hL := Rr.2.2.2.2.2.2
  exact lv_aloadN C.1 C.2.1 hd (Rr.2.2.2.2.1.2.2 i _ hv) (k p e s m args below meth c D A ad0 kd0 H locs lsA ad C (Rr.stk (am_l0 hL)))
theorem A_aload_n {i : Nat} {k9 : Fin 4} {n : am_N} (hd : decode M.2.1 pc = .ok (.aload_n k9, 1)) (hi : (k9 : Nat) = i) (hv : ls[i]? = some (some (am_P n))) (k : am_W l M R post (pc + 1) ls (am_P n :: st) kd rv iv cu su) : am_W l M R post pc ls st kd rv iv cu su := by
  intro p e s m args below meth c D A ad0 kd0 H locs lsA ad C Rr
  have hL := Rr.2.2.2.2.2.2
  exact lv_aload_n C.1 C.2.1 hd hi (Rr.2.2.2.2.1.2.2 i _ hv) (k p e s m args below meth c D A ad0 kd0 H locs lsA ad C (Rr.stk (am_lc (Rr.2.2.2.2.2.1 _ (List.mem_of_getElem? hv)) hL)))
theorem A_aload0_n {i : Nat} {k9 : Fin 4}  (hd : decode M.2.1 pc = .ok (.aload_n k9, 1)) (hi : (k9 : Nat) = i) (hv : ls[i]? = some (some am_0)) (k : am_W l M R post (pc + 1) ls (am_0 :: st) kd rv iv cu su) : am_W l M R post pc ls st kd rv iv cu su := by
  intro p e s m args below meth c D A ad0 kd0 H locs lsA ad C Rr
  have hL := Rr.2.2.2.2.2.2
  exact lv_aload_nN C.1 C.2.1 hd hi (Rr.2.2.2.2.1.2.2 i _ hv) (k p e s m args below meth c D A ad0 kd0 H locs lsA ad C (Rr.stk (am_l0 hL)))
/-- the listed locals as the kit lists them -/
def am_al (ad : am_N → Nat) (ls : List (Option am_V)) : List (Nat × Value) := (List.range ls.length).filterMap (fun i => (ls[i]?).join.map (fun v => (i, am_cv ad v)))
theorem am_al_mem {ad : am_N → Nat} {ls : List (Option am_V)} {q : Nat × Value} : q ∈ am_al ad ls ↔ ∃ v, ls[q.1]? = some (some v) ∧ q.2 = am_cv ad v := by
  unfold am_al
  rw [List.mem_filterMap]
  constructor
  · rintro ⟨i, hi, h⟩
    cases hx : ls[i]? with
    | none => simp [hx] at h
    | some o =>
      cases o with
      | none => simp [hx] at h
      | some v =>
        simp [hx] at h
        subst h
        exact ⟨v, hx, rfl⟩
  · rintro ⟨v, h1, h2⟩
    refine ⟨q.1, List.mem_range.mpr (List.getElem?_eq_some_iff.mp h1).1, ?_⟩
    simp [h1, ← h2]
theorem am_L.has {ad : am_N → Nat} {ls : List (Option am_V)} {nL : Nat} {lsA : Array Slot} (h : am_L ad ls nL lsA) : lv_has lsA nL (am_al ad ls) := ⟨h.1, h.2.1, fun q hq => by
  obtain ⟨v, h1, h2⟩ := am_al_mem.mp hq
  rw [h2]
  exact h.2.2 _ _ h1⟩
def am_c1 : Option am_V → Bool
  | some v => !am_c2 v
  | none => true
/-- what stood before the place isn't a long -/
def am_ok1 (ls : List (Option am_V)) (i : Nat) : Bool := match i with
  | 0 => true
  | j + 1 => match ls[j]? with
    | some o => am_c1 o
    | none => true
theorem am_L.put1 {ad : am_N → Nat} {ls : List (Option am_V)} {nL : Nat} {lsA lsA' : Array Slot} {i : Nat} {v : am_V} (hok : am_ok1 ls i = true) (hi : i < ls.length) (h : lv_has lsA' nL ((i, am_cv ad v) :: (am_al ad ls).filter (fun q => !(q.1 == i) && !(q.1 + 1 == i && q.2.category == 2)))) : am_L ad (ls.set i (some v)) nL lsA' := by
  refine ⟨h.1, h.2.1, fun j w hj => ?_⟩
  by_cases hji : i = j
  · subst hji
    rw [List.getElem?_set_self hi] at hj
    cases hj
    exact h.2.2 _ List.mem_cons_self
  · rw [List.getElem?_set_ne hji] at hj
    refine h.2.2 (j, am_cv ad w) (List.mem_cons_of_mem _ (List.mem_filter.mpr ⟨am_al_mem.mpr ⟨w, hj, rfl⟩, ?_⟩))
    have h1 : (j == i) = false := by simpa using fun e : j = i => hji e.symm
    rw [h1]
    by_cases h2 : j + 1 = i
    · subst h2
      simp only [am_ok1, hj, am_c1] at hok
      rw [am_c2_cat]
      simp at hok
      simp [hok]
    · have h3 : (j + 1 == i) = false := by simpa using h2
      rw [h3]; rfl
theorem am_L.put2 {ad : am_N → Nat} {ls : List (Option am_V)} {nL : Nat} {lsA' : Array Slot} {i : Nat} {v : am_V} (hok : am_ok1 ls i = true) (hi : i < ls.length) (h : lv_has lsA' nL ((i, am_cv ad v) :: (am_al ad ls).filter (fun q => !(q.1 == i) && (!(q.1 == i + 1) && !(q.1 + 1 == i && q.2.category == 2))))) : am_L ad ((ls.set i (some v)).set (i + 1) none) nL lsA' := by
  refine ⟨h.1, h.2.1, fun j w hj => ?_⟩
  by_cases hj2 : i + 1 = j
  · subst hj2
    by_cases hl : i + 1 < (ls.set i (some v)).length
    · rw [List.getElem?_set_self hl] at hj
      cases hj
    · rw [List.getElem?_eq_none (by rw [List.length_set]; omega)] at hj
      cases hj
  · rw [List.getElem?_set_ne hj2] at hj
    by_cases hji : i = j
    · subst hji
      rw [List.getElem?_set_self hi] at hj
      cases hj
      exact h.2.2 _ List.mem_cons_self
    · rw [List.getElem?_set_ne hji] at hj
      refine h.2.2 (j, am_cv ad w) (List.mem_cons_of_mem _ (List.mem_filter.mpr ⟨am_al_mem.mpr ⟨w, hj, rfl⟩, ?_⟩))
      have h1 : (j == i) = false := by simpa using fun e : j = i => hji e.symm
      have h4 : (j == i + 1) = false := by simpa using fun e : j = i + 1 => hj2 e.symm
      rw [h1, h4]
      by_cases h2 : j + 1 = i
      · subst h2
        simp only [am_ok1, hj, am_c1] at hok
        rw [am_c2_cat]
        simp at hok
        simp [hok]
      · have h3 : (j + 1 == i) = false := by simpa using h2
        rw [h3]; rfl
theorem am_R.loc {s : State} {D : am_D} {A : Nat → Prop} {ad0 : am_N → Nat} {kd0 : am_kd} {H : Heap} {locs : List Loc} {lsA lsA' : Array Slot} {ad : am_N → Nat} {st' : List am_V} {ls' : List (Option am_V)} (h : am_R M s D A ad0 kd0 H locs lsA ad ls st kd rv iv) (hl : am_L ad ls' M.2.2.1 lsA') (hv : ∀ v, some v ∈ ls' → am_lv kd v) (h' : ∀ v ∈ st', am_lv kd v) : am_R M s D A ad0 kd0 H locs lsA' ad ls' st' kd rv iv := ⟨h.1, h.2.1, h.2.2.1, h.2.2.2.1, hl, hv, h'⟩
theorem am_setl {kd : am_kd} {ls : List (Option am_V)} {i : Nat} {v : am_V} (h : ∀ v, some v ∈ ls → am_lv kd v) (hv : am_lv kd v) : ∀ w, some w ∈ ls.set i (some v) → am_lv kd w := fun w hw => by
  rcases List.mem_or_eq_of_mem_set hw with h1 | h1
  · exact h w h1
  · cases h1; exact hv
theorem am_setn {kd : am_kd} {ls : List (Option am_V)} {i : Nat} (h : ∀ v, some v ∈ ls → am_lv kd v) : ∀ w, some w ∈ ls.set i none → am_lv kd w := fun w hw => by
  rcases List.mem_or_eq_of_mem_set hw with h1 | h1
  · exact h w h1
  · cases h1
theorem A_istore {i : Nat} {x : Int32} {ls' : List (Option am_V)} (hd : decode M.2.1 pc = .ok (.istore i, 2)) (hn : i < M.2.2.1) (hok : am_ok1 ls i = true) (hl : i < ls.length) (hs : ls.set i (some (am_I x)) = ls') (k : am_W l M R post (pc + 2) ls' st kd rv iv cu su) : am_W l M R post pc ls (am_I x :: st) kd rv iv cu su := by
  intro p e s m args below meth c D A ad0 kd0 H locs lsA ad C Rr
  have hL := Rr.2.2.2.2.2.2
  subst hs
  refine lv_istore C.1 C.2.1 hd Rr.2.2.2.2.1.has hn rfl (fun ls9 h9 => ?_)
  exact k p e s m args below meth c D A ad0 kd0 H locs ls9 ad C (Rr.loc (am_L.put1 (lsA := lsA) hok hl h9) (am_setl Rr.2.2.2.2.2.1 (hL _ List.mem_cons_self)) (am_l1 hL))
theorem A_istore_n {i : Nat} {k9 : Fin 4} {x : Int32} {ls' : List (Option am_V)} (hd : decode M.2.1 pc = .ok (.istore_n k9, 1)) (hi : (k9 : Nat) = i) (hn : i < M.2.2.1) (hok : am_ok1 ls i = true) (hl : i < ls.length) (hs : ls.set i (some (am_I x)) = ls') (k : am_W l M R post (pc + 1) ls' st kd rv iv cu su) : am_W l M R post pc ls (am_I x :: st) kd rv iv cu su := by
  intro p e s m args below meth c D A ad0 kd0 H locs lsA ad C Rr
  have hL := Rr.2.2.2.2.2.2
  subst hs
  refine lv_istore_n C.1 C.2.1 hd hi Rr.2.2.2.2.1.has hn rfl (fun ls9 h9 => ?_)
  exact k p e s m args below meth c D A ad0 kd0 H locs ls9 ad C (Rr.loc (am_L.put1 (lsA := lsA) hok hl h9) (am_setl Rr.2.2.2.2.2.1 (hL _ List.mem_cons_self)) (am_l1 hL))
theorem A_astore {i : Nat} {n : am_N} {ls' : List (Option am_V)} (hd : decode M.2.1 pc = .ok (.astore i, 2)) (hn : i < M.2.2.1) (hok : am_ok1 ls i = true) (hl : i < ls.length) (hs : ls.set i (some (am_P n)) = ls') (k : am_W l M R post (pc + 2) ls' st kd rv iv cu su) : am_W l M R post pc ls (am_P n :: st) kd rv iv cu su := by
  intro p e s m args below meth c D A ad0 kd0 H locs lsA ad C Rr
  have hL := Rr.2.2.2.2.2.2
  subst hs
  refine lv_astore C.1 C.2.1 hd Rr.2.2.2.2.1.has hn rfl (fun ls9 h9 => ?_)
  exact k p e s m args below meth c D A ad0 kd0 H locs ls9 ad C (Rr.loc (am_L.put1 (lsA := lsA) hok hl h9) (am_setl Rr.2.2.2.2.2.1 (hL _ List.mem_cons_self)) (am_l1 hL))
theorem A_astore_n {i : Nat} {k9 : Fin 4} {n : am_N} {ls' : List (Option am_V)} (hd : decode M.2.1 pc = .ok (.astore_n k9, 1)) (hi : (k9 : Nat) = i) (hn : i < M.2.2.1) (hok : am_ok1 ls i = true) (hl : i < ls.length) (hs : ls.set i (some (am_P n)) = ls') (k : am_W l M R post (pc + 1) ls' st kd rv iv cu su) : am_W l M R post pc ls (am_P n :: st) kd rv iv cu su := by
  intro p e s m args below meth c D A ad0 kd0 H locs lsA ad C Rr
  have hL := Rr.2.2.2.2.2.2
  subst hs
  refine lv_astore_n C.1 C.2.1 hd hi Rr.2.2.2.2.1.has hn rfl (fun ls9 h9 => ?_)
  exact k p e s m args below meth c D A ad0 kd0 H locs ls9 ad C (Rr.loc (am_L.put1 (lsA := lsA) hok hl h9) (am_setl Rr.2.2.2.2.2.1 (hL _ List.mem_cons_self)) (am_l1 hL))
theorem A_astore0 {i : Nat}  {ls' : List (Option am_V)} (hd : decode M.2.1 pc = .ok (.astore i, 2)) (hn : i < M.2.2.1) (hok : am_ok1 ls i = true) (hl : i < ls.length) (hs : ls.set i (some (am_0)) = ls') (k : am_W l M R post (pc + 2) ls' st kd rv iv cu su) : am_W l M R post pc ls (am_0 :: st) kd rv iv cu su := by
  intro p e s m args below meth c D A ad0 kd0 H locs lsA ad C Rr
  have hL := Rr.2.2.2.2.2.2
  subst hs
  refine lv_astoreN C.1 C.2.1 hd Rr.2.2.2.2.1.has hn rfl (fun ls9 h9 => ?_)
  exact k p e s m args below meth c D A ad0 kd0 H locs ls9 ad C (Rr.loc (am_L.put1 (lsA := lsA) hok hl h9) (am_setl Rr.2.2.2.2.2.1 (hL _ List.mem_cons_self)) (am_l1 hL))
theorem A_astore0_n {i : Nat} {k9 : Fin 4}  {ls' : List (Option am_V)} (hd : decode M.2.1 pc = .ok (.astore_n k9, 1)) (hi : (k9 : Nat) = i) (hn : i < M.2.2.1) (hok : am_ok1 ls i = true) (hl : i < ls.length) (hs : ls.set i (some (am_0)) = ls') (k : am_W l M R post (pc + 1) ls' st kd rv iv cu su) : am_W l M R post pc ls (am_0 :: st) kd rv iv cu su := by
  intro p e s m args below meth c D A ad0 kd0 H locs lsA ad C Rr
  have hL := Rr.2.2.2.2.2.2
  subst hs
  refine lv_astore_nN C.1 C.2.1 hd hi Rr.2.2.2.2.1.has hn rfl (fun ls9 h9 => ?_)
  exact k p e s m args below meth c D A ad0 kd0 H locs ls9 ad C (Rr.loc (am_L.put1 (lsA := lsA) hok hl h9) (am_setl Rr.2.2.2.2.2.1 (hL _ List.mem_cons_self)) (am_l1 hL))
theorem A_lstore {i : Nat} {x : Int64} {ls' : List (Option am_V)} (hd : decode M.2.1 pc = .ok (.lstore i, 2)) (hn : i + 1 < M.2.2.1) (hok : am_ok1 ls i = true) (hl : i < ls.length) (hs : (ls.set i (some (am_J x))).set (i + 1) none = ls') (k : am_W l M R post (pc + 2) ls' st kd rv iv cu su) : am_W l M R post pc ls (am_J x :: st) kd rv iv cu su := by
  intro p e s m args below meth c D A ad0 kd0 H locs lsA ad C Rr
  have hL := Rr.2.2.2.2.2.2
  subst hs
  refine lv_lstore C.1 C.2.1 hd Rr.2.2.2.2.1.has hn rfl (fun ls9 h9 => ?_)
  exact k p e s m args below meth c D A ad0 kd0 H locs ls9 ad C (Rr.loc (am_L.put2 hok hl h9) (am_setn (am_setl Rr.2.2.2.2.2.1 (hL _ List.mem_cons_self))) (am_l1 hL))
theorem A_lstore_n {i : Nat} {k9 : Fin 4} {x : Int64} {ls' : List (Option am_V)} (hd : decode M.2.1 pc = .ok (.lstore_n k9, 1)) (hi : (k9 : Nat) = i) (hn : i + 1 < M.2.2.1) (hok : am_ok1 ls i = true) (hl : i < ls.length) (hs : (ls.set i (some (am_J x))).set (i + 1) none = ls') (k : am_W l M R post (pc + 1) ls' st kd rv iv cu su) : am_W l M R post pc ls (am_J x :: st) kd rv iv cu su := by
  intro p e s m args below meth c D A ad0 kd0 H locs lsA ad C Rr
  have hL := Rr.2.2.2.2.2.2
  subst hs
  refine lv_lstore_n C.1 C.2.1 hd hi Rr.2.2.2.2.1.has hn rfl (fun ls9 h9 => ?_)
  exact k p e s m args below meth c D A ad0 kd0 H locs ls9 ad C (Rr.loc (am_L.put2 hok hl h9) (am_setn (am_setl Rr.2.2.2.2.2.1 (hL _ List.mem_cons_self))) (am_l1 hL))
theorem A_iinc {i : Nat} {n : Int} {x : Int32} (v : Int32) {ls' : List (Option am_V)} (hd : decode M.2.1 pc = .ok (.iinc i n, 3)) (hx : ls[i]? = some (some (am_I x))) (hv : x + Int32.ofInt n = v) (hn : i < M.2.2.1) (hok : am_ok1 ls i = true) (hs : ls.set i (some (am_I v)) = ls') (k : am_W l M R post (pc + 3) ls' st kd rv iv cu su) : am_W l M R post pc ls st kd rv iv cu su := by
  intro p e s m args below meth c D A ad0 kd0 H locs lsA ad C Rr
  have hL := Rr.2.2.2.2.2.2
  subst hs
  have hm : (i, Value.int x) ∈ am_al ad ls := am_al_mem.mpr ⟨am_I x, hx, rfl⟩
  obtain ⟨k0, hk0⟩ := List.getElem?_of_mem hm
  refine lv_iinc C.1 C.2.1 hd Rr.2.2.2.2.1.has hk0 hv hn rfl (fun ls9 h9 => ?_)
  exact k p e s m args below meth c D A ad0 kd0 H locs ls9 ad C (Rr.loc (am_L.put1 (lsA := lsA) (v := am_I v) hok (List.getElem?_eq_some_iff.mp hx).1 h9) (am_setl Rr.2.2.2.2.2.1 trivial) hL)
end AR
end
section
/-! the classes' words in the tables, by their places -/
theorem am_u0 : ∀ w ∈ u_ws RX0 TX0 3, w ∈ am_T := by
  have e : u_ws RX0 TX0 3 = ([394, 395, 396] : List Nat).filterMap (fun i => lw_tbl[i]?) := by decide +kernel
  have g : (u_ws RX0 TX0 3).all goodWord = true := by decide +kernel
  intro w hw
  refine List.mem_filter.mpr ⟨?_, List.all_eq_true.mp g w hw⟩
  rw [e] at hw
  obtain ⟨i, -, hi⟩ := List.mem_filterMap.mp hw
  exact List.mem_of_getElem? hi
theorem am_u1 : ∀ w ∈ u_ws RX1 TX1 3, w ∈ am_T := by
  have e : u_ws RX1 TX1 3 = ([384, 385, 386] : List Nat).filterMap (fun i => lw_tbl[i]?) := by decide +kernel
  have g : (u_ws RX1 TX1 3).all goodWord = true := by decide +kernel
  intro w hw
  refine List.mem_filter.mpr ⟨?_, List.all_eq_true.mp g w hw⟩
  rw [e] at hw
  obtain ⟨i, -, hi⟩ := List.mem_filterMap.mp hw
  exact List.mem_of_getElem? hi
theorem am_u2 : ∀ w ∈ u_ws RX2 TX2 3, w ∈ am_T := by
  have e : u_ws RX2 TX2 3 = ([431, 432, 433] : List Nat).filterMap (fun i => lw_tbl[i]?) := by decide +kernel
  have g : (u_ws RX2 TX2 3).all goodWord = true := by decide +kernel
  intro w hw
  refine List.mem_filter.mpr ⟨?_, List.all_eq_true.mp g w hw⟩
  rw [e] at hw
  obtain ⟨i, -, hi⟩ := List.mem_filterMap.mp hw
  exact List.mem_of_getElem? hi
theorem am_u3 : ∀ w ∈ u_ws RX3 TX3 8, w ∈ am_T := by
  have e : u_ws RX3 TX3 8 = ([126, 128, 130, 132, 134, 136, 138, 140] : List Nat).filterMap (fun i => lw_tbl[i]?) := by decide +kernel
  have g : (u_ws RX3 TX3 8).all goodWord = true := by decide +kernel
  intro w hw
  refine List.mem_filter.mpr ⟨?_, List.all_eq_true.mp g w hw⟩
  rw [e] at hw
  obtain ⟨i, -, hi⟩ := List.mem_filterMap.mp hw
  exact List.mem_of_getElem? hi
theorem am_u4 : ∀ w ∈ u_ws RX4 TX4 13, w ∈ am_T := by
  have e : u_ws RX4 TX4 13 = ([223, 225, 227, 229, 231, 233, 235, 237, 239, 241, 243, 245, 247] : List Nat).filterMap (fun i => lw_tbl[i]?) := by decide +kernel
  have g : (u_ws RX4 TX4 13).all goodWord = true := by decide +kernel
  intro w hw
  refine List.mem_filter.mpr ⟨?_, List.all_eq_true.mp g w hw⟩
  rw [e] at hw
  obtain ⟨i, -, hi⟩ := List.mem_filterMap.mp hw
  exact List.mem_of_getElem? hi
theorem am_u5 : ∀ w ∈ u_ws RX5 TX5 3, w ∈ am_T := by
  have e : u_ws RX5 TX5 3 = ([191, 193, 195] : List Nat).filterMap (fun i => lw_tbl[i]?) := by decide +kernel
  have g : (u_ws RX5 TX5 3).all goodWord = true := by decide +kernel
  intro w hw
  refine List.mem_filter.mpr ⟨?_, List.all_eq_true.mp g w hw⟩
  rw [e] at hw
  obtain ⟨i, -, hi⟩ := List.mem_filterMap.mp hw
  exact List.mem_of_getElem? hi
theorem am_u6 : ∀ w ∈ u_ws RX6 TX6 3, w ∈ am_T := by
  have e : u_ws RX6 TX6 3 = ([424, 425, 426] : List Nat).filterMap (fun i => lw_tbl[i]?) := by decide +kernel
  have g : (u_ws RX6 TX6 3).all goodWord = true := by decide +kernel
  intro w hw
  refine List.mem_filter.mpr ⟨?_, List.all_eq_true.mp g w hw⟩
  rw [e] at hw
  obtain ⟨i, -, hi⟩ := List.mem_filterMap.mp hw
  exact List.mem_of_getElem? hi
theorem am_u7 : ∀ w ∈ u_ws RX7 TX7 7, w ∈ am_T := by
  have e : u_ws RX7 TX7 7 = ([161, 163, 165, 167, 169, 171, 173] : List Nat).filterMap (fun i => lw_tbl[i]?) := by decide +kernel
  have g : (u_ws RX7 TX7 7).all goodWord = true := by decide +kernel
  intro w hw
  refine List.mem_filter.mpr ⟨?_, List.all_eq_true.mp g w hw⟩
  rw [e] at hw
  obtain ⟨i, -, hi⟩ := List.mem_filterMap.mp hw
  exact List.mem_of_getElem? hi
theorem am_u8 : ∀ w ∈ u_ws RX8 TX8 3, w ∈ am_T := by
  have e : u_ws RX8 TX8 3 = ([371, 373, 375] : List Nat).filterMap (fun i => lw_tbl[i]?) := by decide +kernel
  have g : (u_ws RX8 TX8 3).all goodWord = true := by decide +kernel
  intro w hw
  refine List.mem_filter.mpr ⟨?_, List.all_eq_true.mp g w hw⟩
  rw [e] at hw
  obtain ⟨i, -, hi⟩ := List.mem_filterMap.mp hw
  exact List.mem_of_getElem? hi
theorem am_u9 : ∀ w ∈ u_ws RX9 TX9 3, w ∈ am_T := by
  have e : u_ws RX9 TX9 3 = ([404, 405, 406] : List Nat).filterMap (fun i => lw_tbl[i]?) := by decide +kernel
  have g : (u_ws RX9 TX9 3).all goodWord = true := by decide +kernel
  intro w hw
  refine List.mem_filter.mpr ⟨?_, List.all_eq_true.mp g w hw⟩
  rw [e] at hw
  obtain ⟨i, -, hi⟩ := List.mem_filterMap.mp hw
  exact List.mem_of_getElem? hi
theorem am_u10 : ∀ w ∈ u_ws RX10 TX10 3, w ∈ am_T := by
  have e : u_ws RX10 TX10 3 = ([414, 415, 416] : List Nat).filterMap (fun i => lw_tbl[i]?) := by decide +kernel
  have g : (u_ws RX10 TX10 3).all goodWord = true := by decide +kernel
  intro w hw
  refine List.mem_filter.mpr ⟨?_, List.all_eq_true.mp g w hw⟩
  rw [e] at hw
  obtain ⟨i, -, hi⟩ := List.mem_filterMap.mp hw
  exact List.mem_of_getElem? hi
theorem am_u11 : ∀ w ∈ u_ws RX11 TX11 9, w ∈ am_T := by
  have e : u_ws RX11 TX11 9 = ([264, 266, 268, 270, 272, 274, 276, 278, 280] : List Nat).filterMap (fun i => lw_tbl[i]?) := by decide +kernel
  have g : (u_ws RX11 TX11 9).all goodWord = true := by decide +kernel
  intro w hw
  refine List.mem_filter.mpr ⟨?_, List.all_eq_true.mp g w hw⟩
  rw [e] at hw
  obtain ⟨i, -, hi⟩ := List.mem_filterMap.mp hw
  exact List.mem_of_getElem? hi
theorem am_u12 : ∀ w ∈ u_ws RX12 TX12 21, w ∈ am_T := by
  have e : u_ws RX12 TX12 21 = ([1134, 1136, 1138, 1140, 1142, 1144, 1146, 1148, 1150, 1152, 1154, 1156, 1158, 1160, 1162, 1164, 1166, 1168, 1170, 1172, 1174] : List Nat).filterMap (fun i => lw_tbl[i]?) := by decide +kernel
  have g : (u_ws RX12 TX12 21).all goodWord = true := by decide +kernel
  intro w hw
  refine List.mem_filter.mpr ⟨?_, List.all_eq_true.mp g w hw⟩
  rw [e] at hw
  obtain ⟨i, -, hi⟩ := List.mem_filterMap.mp hw
  exact List.mem_of_getElem? hi
def am_okty (t : FieldType) : Bool := match t with
  | .int => true | .boolean => true | .object _ => true | .array _ => true | _ => false
def am_cls (ci : Nat) (r : vw_C) : Prop := (∀ w ∈ u_ws r.1 r.2.1 r.2.2, w ∈ am_T) ∧ (∀ k, k < r.2.2 → parseFieldDescriptor (r.2.1 k).2.2.1 = some (am_fty ci k)) ∧ (∀ a, a < r.2.2 → ∀ b, b < r.2.2 → a ≠ b → (r.2.1 a).2.1 ≠ (r.2.1 b).2.1) ∧ ∀ k, k < r.2.2 → am_okty (am_fty ci k) = true
theorem am_cls_ok : ∀ (ci : Nat) (r : vw_C), vwCl[ci]? = some r → am_cls ci r := by
  intro ci r h
  match ci, h with
  | 0, h => cases h; exact ⟨am_u0, tyX0_ok, nmX0, by decide +kernel⟩
  | 1, h => cases h; exact ⟨am_u1, tyX1_ok, nmX1, by decide +kernel⟩
  | 2, h => cases h; exact ⟨am_u2, tyX2_ok, nmX2, by decide +kernel⟩
  | 3, h => cases h; exact ⟨am_u3, tyX3_ok, nmX3, by decide +kernel⟩
  | 4, h => cases h; exact ⟨am_u4, tyX4_ok, nmX4, by decide +kernel⟩
  | 5, h => cases h; exact ⟨am_u5, tyX5_ok, nmX5, by decide +kernel⟩
  | 6, h => cases h; exact ⟨am_u6, tyX6_ok, nmX6, by decide +kernel⟩
  | 7, h => cases h; exact ⟨am_u7, tyX7_ok, nmX7, by decide +kernel⟩
  | 8, h => cases h; exact ⟨am_u8, tyX8_ok, nmX8, by decide +kernel⟩
  | 9, h => cases h; exact ⟨am_u9, tyX9_ok, nmX9, by decide +kernel⟩
  | 10, h => cases h; exact ⟨am_u10, tyX10_ok, nmX10, by decide +kernel⟩
  | 11, h => cases h; exact ⟨am_u11, tyX11_ok, nmX11, by decide +kernel⟩
  | 12, h => cases h; exact ⟨am_u12, tyX12_ok, nmX12, by decide +kernel⟩
  | n + 13, h => simp [vwCl] at h
/-- a field by a place of a class's pool: class number ci, slot k -/
def am_Fl (own : String) (idx ci k : Nat) : Prop := ∃ (r : vw_C) (ref : String), vwCl[ci]? = some r ∧ k < r.2.2 ∧ Cond.fieldLink own idx ref (r.2.1 k).2.1 (r.2.1 k).2.2.1 ∈ am_T ∧ (ref = (r.2.1 k).1 ∨ Cond.sameField ref (r.2.1 k).1 (r.2.1 k).2.1 (r.2.1 k).2.2.1 ∈ am_T)
def am_ui (iv : am_iv) (n : am_N) (k : Nat) (v : Int32) : am_iv := fun n' k' => if n' = n ∧ k' = k then v else iv n' k'
def am_ur (rv : am_rv) (n : am_N) (k : Nat) (o : Option am_N) : am_rv := fun n' k' => if n' = n ∧ k' = k then o else rv n' k'
def am_uk (kd : am_kd) (n : am_N) (K : am_K) : am_kd := fun n' => if n' = n then some K else kd n'
theorem am_ui_s (iv : am_iv) (n : am_N) (k : Nat) (v : Int32) : am_ui iv n k v n k = v := by simp [am_ui]
theorem am_ui_n {iv : am_iv} {n n' : am_N} {k k' : Nat} {v : Int32} (h : ¬ (n' = n ∧ k' = k)) : am_ui iv n k v n' k' = iv n' k' := by simp [am_ui, h]
theorem am_at.to {D : am_D} {ad : am_N → Nat} {rv rv' : am_rv} {iv iv' : am_iv} {n : am_N} {K : am_K} {H H' : Heap} (h : am_at D ad rv iv n K H) (hH : ¬ am_op K → H'[ad n]? = H[ad n]?) (hr : ∀ k, rv' n k = rv n k) (hi : ∀ k, iv' n k = iv n k) : am_at D ad rv' iv' n K H' := by
  have hs : ∀ r k, am_sv ad rv' iv' r n k = am_sv ad rv iv r n k := fun r k => by simp only [am_sv, hr, hi]
  cases K with
  | inl ci =>
    obtain ⟨r, h1, h2⟩ := h
    exact ⟨r, h1, (h2.kept (hH (fun h => h))).to (fun k _ => (hs _ k).symm)⟩
  | inr a =>
    refine ⟨fun h9 => ?_, h.2⟩
    have e : (fun j => am_sv ad rv' iv' (am_isr (am_aty a.1)) n j) = fun j => am_sv ad rv iv (am_isr (am_aty a.1)) n j := funext fun j => hs _ j
    rw [hH (fun h8 => by simp only [am_op] at h8; omega), e]
    exact h.1 h9
theorem am_HR.lt {D : am_D} {ad : am_N → Nat} {kd : am_kd} {rv : am_rv} {iv : am_iv} {H : Heap} (h : am_HR D ad kd rv iv H) {n : am_N} {K : am_K} (hk : kd n = some K) (ho : ¬ am_op K) : ad n < H.size := by
  have h1 := h.1 n K hk
  cases K with
  | inl ci =>
    obtain ⟨r, -, cell, h2, -⟩ := h1
    exact (Array.getElem?_eq_some_iff.mp h2).1
  | inr a => exact (Array.getElem?_eq_some_iff.mp (h1.1 (by simp only [am_op] at ho; omega))).1
/-- one cell changes -/
theorem am_HR.set {D : am_D} {ad : am_N → Nat} {kd : am_kd} {rv rv' : am_rv} {iv iv' : am_iv} {H H' : Heap} (h : am_HR D ad kd rv iv H) {n : am_N} {K : am_K} (hk : kd n = some K) (ho : ¬ am_op K) (oq : ∀ q : Nat, q ≠ ad n → H'[q]? = H[q]?) (hn : am_at D ad rv' iv' n K H') (hr : ∀ n' k, n' ≠ n → rv' n' k = rv n' k) (hi : ∀ n' k, n' ≠ n → iv' n' k = iv n' k) (hl : ∀ k o, rv' n k = some o → kd o ≠ none) : am_HR D ad kd rv' iv' H' := by
  have ht : n.1 < 40 := by
    have := h.2.2.2 n K hk
    rcases Nat.lt_or_ge n.1 40 with h1 | h1
    · exact h1
    · exact absurd (this.mp h1) ho
  refine ⟨fun n' K' hk' => ?_, h.2.1, fun n' k o h1 h2 => ?_, h.2.2.2⟩
  · by_cases hn' : n' = n
    · subst hn'
      rw [hk] at hk'; cases hk'
      exact hn
    · refine (h.1 n' K' hk').to (fun hop => oq _ (fun e => hn' ?_)) (fun k => hr n' k hn') (fun k => hi n' k hn')
      have ht' : n'.1 < 40 := by
        have := h.2.2.2 n' K' hk'
        rcases Nat.lt_or_ge n'.1 40 with h1 | h1
        · exact h1
        · exact absurd (this.mp h1) hop
      exact h.2.1 n' n (by rw [hk']; exact fun h => by cases h) (by rw [hk]; exact fun h => by cases h) ht' ht e
  · by_cases hn' : n' = n
    · subst hn'; exact hl k o h2
    · rw [hr n' k hn'] at h2
      exact h.2.2.1 n' k o h1 h2
theorem am_R.heap {M : am_M} {ls : List (Option am_V)} {st st' : List am_V} {kd : am_kd} {rv rv' : am_rv} {iv iv' : am_iv} {s : State} {D : am_D} {A : Nat → Prop} {ad0 : am_N → Nat} {kd0 : am_kd} {H H' : Heap} {locs locs' : List Loc} {lsA : Array Slot} {ad : am_N → Nat} (h : am_R M s D A ad0 kd0 H locs lsA ad ls st kd rv iv) (hH : am_HR D ad kd rv' iv' H') (hS : va_S A s.heap H' locs') (h' : ∀ v ∈ st', am_lv kd v) : am_R M s D A ad0 kd0 H' locs' lsA ad ls st' kd rv' iv' := ⟨hH, h.2.1, hS, h.2.2.2.1, h.2.2.2.2.1, h.2.2.2.2.2.1, h'⟩
section AH
variable {l : Launch} {M : am_M} {R : Room} {post : am_Post} {pc : Nat} {ls : List (Option am_V)} {st : List am_V} {kd : am_kd} {rv : am_rv} {iv : am_iv} {cu su : Nat}
theorem am_KT {D : am_D} {A : Nat → Prop} {s : State} (h : am_KF D A s) : va_K D.1 vwCl (am_tys D) s := h.1
theorem am_arr {D : am_D} {A : Nat → Prop} {s : State} (h : am_KF D A s) {t : Nat} (ht : t < 5) : ArrOfT s (D.2.1 t) (am_aty t) ∧ va_RA s (D.2.1 t) (am_aty t) := by
  match t, ht with
  | 0, _ => exact h.1.2 0 _ rfl
  | 1, _ => exact h.1.2 1 _ rfl
  | 2, _ => exact h.1.2 2 _ rfl
  | 3, _ => exact h.1.2 3 _ rfl
  | 4, _ => exact h.1.2 4 _ rfl
set_option maxHeartbeats 1000000 in
theorem am_getc {p : Program} {e : Env} {s : State} {m : MethodId} {args : Array Value} {below : List Frame} {meth : Method} {c : Code} {D : am_D} {A : Nat → Prop} {H : Heap} {locs : List Loc} {lsA : Array Slot} {ad : am_N → Nat} {Q : State → Prop} {n : am_N} {ci idx slot : Nat} {rest : List Value} (C : am_C M p s m args meth c D A) (hR : am_HR D ad kd rv iv H) (hf : am_Fl M.1.cls idx ci slot) (hk : kd n = some (.inl ci)) (hd : decode M.2.1 pc = .ok (.getfield idx, 3))
    (kk : W p l e R s m args below meth c H locs cu su Q (F0 m (pc + 3) lsA (am_sv ad rv iv (am_isr (am_fty ci slot)) n slot :: rest))) : W p l e R s m args below meth c H locs cu su Q (F0 m pc lsA (.ref (ad n) :: rest)) := by
  obtain ⟨r, ref, hr, hsl, hlink, hsame⟩ := hf
  obtain ⟨h1, h2, -⟩ := am_cls_ok ci r hr
  obtain ⟨r', hr', hob⟩ := hR.1 n _ hk
  cases hr.symm.trans hr'
  have hts : ∀ w ∈ am_T, w.before args s = true := fun w hw => C.2.2.2.2.2.1 w (List.mem_cons_of_mem _ hw)
  have hP : va_P D.1 vwCl [(ad n, .inr (ci, (List.range r.2.2).map (fun k => am_sv ad rv iv (am_isr (am_fty ci k)) n k)))] H := by
    intro k q hq
    match k, hq with
    | 0, hq =>
      cases hq
      refine ⟨r, hr, hob.to (fun k hk => ?_)⟩
      simp [vp_V, List.getD, hk]
    | k + 1, hq => simp at hq
  refine va_get (C := r.1) (T := r.2.1) (N := r.2.2) (v := am_sv ad rv iv (am_isr (am_fty ci slot)) n slot) C.1 C.2.1 hts h1 C.2.2.2.2.1 (am_KT C.2.2.2.2.2.2.2.2.1) hP 0 rfl hr slot hsl (hts _ hlink) (fun x hx => ?_) ?_ hd kk
  · rcases hsame with h | h
    · rw [h]; exact hx
    · exact u_same (hts _ h) x hx
  · simp [hsl]
theorem A_geti {n : am_N} {ci idx : Nat} (slot : Nat) (hf : am_Fl M.1.cls idx ci slot) (hk : kd n = some (.inl ci)) (ht : am_isr (am_fty ci slot) = false) (hd : decode M.2.1 pc = .ok (.getfield idx, 3)) (k : am_W l M R post (pc + 3) ls (am_I (iv n slot) :: st) kd rv iv cu su) : am_W l M R post pc ls (am_P n :: st) kd rv iv cu su := by
  intro p e s m args below meth c D A ad0 kd0 H locs lsA ad C Rr
  have hL := Rr.2.2.2.2.2.2
  refine am_getc C Rr.1 hf hk hd ?_
  have h := k p e s m args below meth c D A ad0 kd0 H locs lsA ad C (Rr.stk (am_l0 (am_l1 hL)))
  simp only [am_sv, ht]
  exact h
theorem A_getr {n : am_N} {ci idx : Nat} (slot : Nat) {o : am_N} (hf : am_Fl M.1.cls idx ci slot) (hk : kd n = some (.inl ci)) (ht : am_isr (am_fty ci slot) = true) (hr : rv n slot = some o) (hd : decode M.2.1 pc = .ok (.getfield idx, 3)) (k : am_W l M R post (pc + 3) ls (am_P o :: st) kd rv iv cu su) : am_W l M R post pc ls (am_P n :: st) kd rv iv cu su := by
  intro p e s m args below meth c D A ad0 kd0 H locs lsA ad C Rr
  have hL := Rr.2.2.2.2.2.2
  refine am_getc C Rr.1 hf hk hd ?_
  have h := k p e s m args below meth c D A ad0 kd0 H locs lsA ad C (Rr.stk (am_lc (Rr.1.2.2.1 n slot o (by rw [hk]; exact fun h => by cases h) hr) (am_l1 hL)))
  simp only [am_sv, ht, hr]
  exact h
set_option maxHeartbeats 1000000 in
/-- a field is written: not a final one, or in a constructor of its own class -/
theorem am_putc {p : Program} {e : Env} {s : State} {m : MethodId} {args : Array Value} {below : List Frame} {meth : Method} {c : Code} {D : am_D} {A : Nat → Prop} {H : Heap} {locs : List Loc} {lsA : Array Slot} {ad : am_N → Nat} {Q : State → Prop} {n : am_N} {ci idx slot : Nat} {rest : List Value} {v : Value} (rv' : am_rv) (iv' : am_iv) (C : am_C M p s m args meth c D A) (hR : am_HR D ad kd rv iv H) (hA : ∀ n, kd n ≠ none → n.1 < 40 → A (ad n)) (hS0 : va_S A s.heap H locs) (hf : am_Fl M.1.cls idx ci slot) (hk : kd n = some (.inl ci)) (hfin : ∀ r, vwCl[ci]? = some r → (r.2.1 slot).2.2.2 = false ∨ (M.1.name = "<init>" ∧ (r.2.1 slot).1 = M.1.cls)) (hnar : narrow (am_fty ci slot) v = v) (hfit : fits (am_fty ci slot) v = true) (hd : decode M.2.1 pc = .ok (.putfield idx, 3))
    (hsv : ∀ j, am_sv ad rv' iv' (am_isr (am_fty ci j)) n j = updV (fun j => am_sv ad rv iv (am_isr (am_fty ci j)) n j) slot v j) (hr' : ∀ n' k, n' ≠ n → rv' n' k = rv n' k) (hi' : ∀ n' k, n' ≠ n → iv' n' k = iv n' k) (hl : ∀ k o, rv' n k = some o → kd o ≠ none)
    (kk : ∀ H' locs', am_HR D ad kd rv' iv' H' → va_S A s.heap H' locs' → W p l e R s m args below meth c H' locs' cu su Q (F0 m (pc + 3) lsA rest)) : W p l e R s m args below meth c H locs cu su Q (F0 m pc lsA (v :: .ref (ad n) :: rest)) := by
  obtain ⟨r, ref, hr, hsl, hlink, hsame⟩ := hf
  obtain ⟨h1, h2, h3, -⟩ := am_cls_ok ci r hr
  obtain ⟨r', hr9, cell, q1, q2, q3, q4⟩ := hR.1 n _ hk
  cases hr.symm.trans hr9
  have hts : ∀ w ∈ am_T, w.before args s = true := fun w hw => C.2.2.2.2.2.1 w (List.mem_cons_of_mem _ hw)
  have hK := am_KT C.2.2.2.2.2.2.2.2.1
  have hap := va_apart (own := M.1.cls) (C := r.1) (T := r.2.1) (N := r.2.2) hts h1 (am_fty ci) h2 h3 hK hr
  obtain ⟨hS, hfc, kC, hkC, hkind⟩ := hK.1 ci _ hr
  obtain ⟨cf, kf, fi, f, hi, hsf⟩ := hS slot hsl
  have hsm : s.fieldFound? ref (r.2.1 slot).2.1 (r.2.1 slot).2.2.1 = some (cf, kf, fi, f) := by
    rcases hsame with h | h
    · rw [h]; exact hi
    · exact u_same (hts _ h) _ hi
  have hlay := hts _ (h1 _ (u_in_lay hsl))
  have hst := (u_facts hfc hkC (u_lays hts h1 hsl) hi).1
  have hne : ¬ am_op (.inl ci : am_K) := fun h => h
  have ht : n.1 < 40 := by
    have := hR.2.2.2 n _ hk
    rcases Nat.lt_or_ge n.1 40 with h1 | h1
    · exact h1
    · exact absurd (this.mp h1) hne
  have hAn : A (ad n) := hA n (by rw [hk]; exact fun h => by cases h) ht
  have fin : ∀ H' : Heap, H'[ad n]? = some (cell.setSlot (D.1.2 ci slot) v) → H'.size = H.size → (∀ q, q ≠ ad n → H'[q]? = H[q]?) → W p l e R s m args below meth c H' (locs ++ [⟨ad n, D.1.2 ci slot⟩]) cu su Q (F0 m (pc + 3) lsA rest) := by
    intro H' e1 e2 e3
    refine kk H' _ (hR.set hk hne e3 ⟨r, hr, ?_⟩ hr' hi' hl) (hS0.put e2 e3 hAn)
    exact t_OB.to (V := updV (fun j => am_sv ad rv iv (am_isr (am_fty ci j)) n j) slot v) ⟨_, e1, q2, q3, t_set q4 hap hsl v⟩ (fun j _ => (hsv j).symm)
  unfold u_lay at hlay
  rcases hfin r hr with hfn | ⟨hnm, hdc⟩
  · rw [if_neg (by rw [hfn]; decide)] at hlay
    have h6 := u_store hfc hkC hkind hlay hi (h2 slot hsl) hnar hfit
    refine W.putK C.1 C.2.1 (f := f) ⟨C.2.2.2.2.1, hts _ hlink, ⟨_, _, _, hsm⟩, hst⟩ (by rw [q2]; exact h6) q1 q3 (by rw [hsf]; exact k2_hasslot (q4 slot hsl)) rfl rfl hd fun H' e1 e2 e3 => ?_
    rw [hsf] at e1 ⊢
    exact fin H' e1 e2 e3
  · by_cases hfn : (r.2.1 slot).2.2.2 = true
    · rw [if_pos hfn] at hlay
      have hcf : m.cls = cf := by
        obtain ⟨_, _, c', _, _, _, -, -, hf', -, -, -, hown2, -⟩ := Cond.laysFinal_spec hlay
        have e1 : c' = cf := by have := hi.symm.trans hf'; simp at this; exact this.1.symm
        rw [hdc] at hown2
        rw [← e1]; exact Option.some.inj (C.2.2.2.2.1.symm.trans hown2)
      have h6 := u_fits hfc hkC hkind (Or.inr hlay) hi (h2 slot hsl) hnar hfit
      refine W.putFinK C.1 C.2.1 C.2.2.2.2.1 (hts _ hlink) hsm hst hcf (by rw [C.2.2.2.2.2.2.2.1]; exact hnm) (by rw [q2]; exact h6) q1 q3 (by rw [hsf]; exact k2_hasslot (q4 slot hsl)) rfl rfl hd fun H' e1 e2 e3 => ?_
      rw [hsf] at e1 ⊢
      exact fin H' e1 e2 e3
    · rw [if_neg hfn] at hlay
      have h6 := u_store hfc hkC hkind hlay hi (h2 slot hsl) hnar hfit
      refine W.putK C.1 C.2.1 (f := f) ⟨C.2.2.2.2.1, hts _ hlink, ⟨_, _, _, hsm⟩, hst⟩ (by rw [q2]; exact h6) q1 q3 (by rw [hsf]; exact k2_hasslot (q4 slot hsl)) rfl rfl hd fun H' e1 e2 e3 => ?_
      rw [hsf] at e1 ⊢
      exact fin H' e1 e2 e3
def am_fin (M : am_M) (ci slot : Nat) : Bool := match vwCl[ci]? with
  | some r => !(r.2.1 slot).2.2.2 || (decide (M.1.name = "<init>") && decide ((r.2.1 slot).1 = M.1.cls))
  | none => true
theorem am_fin_ok {M : am_M} {ci slot : Nat} (h : am_fin M ci slot = true) : ∀ r, vwCl[ci]? = some r → (r.2.1 slot).2.2.2 = false ∨ (M.1.name = "<init>" ∧ (r.2.1 slot).1 = M.1.cls) := by
  intro r hr
  simp only [am_fin, hr, Bool.or_eq_true, Bool.not_eq_true', Bool.and_eq_true, decide_eq_true_eq] at h
  exact h
theorem A_puti {n : am_N} {ci idx : Nat} (slot : Nat) {v : Int32} (hf : am_Fl M.1.cls idx ci slot) (hk : kd n = some (.inl ci)) (ht : am_isr (am_fty ci slot) = false) (hfin : am_fin M ci slot = true) (hnar : narrow (am_fty ci slot) (.int v) = .int v) (hfit : fits (am_fty ci slot) (.int v) = true) (hd : decode M.2.1 pc = .ok (.putfield idx, 3)) (k : am_W l M R post (pc + 3) ls st kd rv (am_ui iv n slot v) cu su) : am_W l M R post pc ls (am_I v :: am_P n :: st) kd rv iv cu su := by
  intro p e s m args below meth c D A ad0 kd0 H locs lsA ad C Rr
  have hL := Rr.2.2.2.2.2.2
  refine am_putc rv (am_ui iv n slot v) C Rr.1 Rr.2.1 Rr.2.2.1 hf hk (am_fin_ok hfin) hnar hfit hd (fun j => ?_) (fun _ _ _ => rfl) (fun n' k hn => by simp [am_ui, hn]) (fun k o h => Rr.1.2.2.1 n k o (by rw [hk]; exact fun h => by cases h) h) (fun H' locs' hH hS => k p e s m args below meth c D A ad0 kd0 H' locs' lsA ad C (Rr.heap hH hS (am_l1 (am_l1 hL))))
  by_cases hj : j = slot
  · subst hj; simp [updV, am_sv, ht, am_ui, am_cv]
  · simp [updV, am_sv, hj, am_ui]
theorem A_putr {n o : am_N} {ci idx : Nat} (slot : Nat) (hf : am_Fl M.1.cls idx ci slot) (hk : kd n = some (.inl ci)) (ht : am_isr (am_fty ci slot) = true) (hfin : am_fin M ci slot = true) (hd : decode M.2.1 pc = .ok (.putfield idx, 3)) (k : am_W l M R post (pc + 3) ls st kd (am_ur rv n slot (some o)) iv cu su) : am_W l M R post pc ls (am_P o :: am_P n :: st) kd rv iv cu su := by
  intro p e s m args below meth c D A ad0 kd0 H locs lsA ad C Rr
  have hL := Rr.2.2.2.2.2.2
  have ho : kd o ≠ none := hL (am_P o) List.mem_cons_self
  refine am_putc (am_ur rv n slot (some o)) iv C Rr.1 Rr.2.1 Rr.2.2.1 hf hk (am_fin_ok hfin) ?_ ?_ hd (fun j => ?_) (fun n' k hn => by simp [am_ur, hn]) (fun _ _ _ => rfl) (fun k o' h => ?_) (fun H' locs' hH hS => k p e s m args below meth c D A ad0 kd0 H' locs' lsA ad C (Rr.heap hH hS (am_l1 (am_l1 hL))))
  · revert ht; cases am_fty ci slot <;> intro ht <;> first | rfl | cases ht
  · revert ht; cases am_fty ci slot <;> intro ht <;> first | rfl | cases ht
  · by_cases hj : j = slot
    · subst hj; simp [updV, am_sv, ht, am_ur, va_rf, am_cv]
    · simp [updV, am_sv, hj, am_ur]
  · by_cases hj : k = slot
    · subst hj; simp [am_ur] at h; subst h; exact ho
    · simp [am_ur, hj] at h
      exact Rr.1.2.2.1 n k o' (by rw [hk]; exact fun h => by cases h) h
/-- arrays -/
theorem A_iald {n : am_N} {z : Nat} {i : Int32} (hk : kd n = some (.inr (0, z))) (hin : vp_in i z) (hd : decode M.2.1 pc = .ok (.iaload, 1)) (k : am_W l M R post (pc + 1) ls (am_I (iv n i.toNatClampNeg) :: st) kd rv iv cu su) : am_W l M R post pc ls (am_I i :: am_P n :: st) kd rv iv cu su := by
  intro p e s m args below meth c D A ad0 kd0 H locs lsA ad C Rr
  have hL := Rr.2.2.2.2.2.2
  have hlt : i.toNatClampNeg < z := Nat.not_le.mp fun q => hin (Or.inr q)
  exact W.iald (v := .int (iv n i.toNatClampNeg)) C.1 C.2.1 ((Rr.1.1 n _ hk).1 (show (0 : Nat) < 5 by decide)) ((am_arr C.2.2.2.2.2.2.2.2.1 (t := 0) (by decide)).1 z _) (fun q => by cases q) (by rw [arrV_size]; exact hin) (by rw [arrV_read _ _ hlt]; rfl) rfl rfl hd (k p e s m args below meth c D A ad0 kd0 H locs lsA ad C (Rr.stk (am_l0 (am_l1 (am_l1 hL)))))
theorem A_aald {n o : am_N} {t z : Nat} {i : Int32} (hk : kd n = some (.inr (t, z))) (ht : t < 5) (ht0 : 0 < t) (hin : vp_in i z) (ho : rv n i.toNatClampNeg = some o) (hd : decode M.2.1 pc = .ok (.aaload, 1)) (k : am_W l M R post (pc + 1) ls (am_P o :: st) kd rv iv cu su) : am_W l M R post pc ls (am_I i :: am_P n :: st) kd rv iv cu su := by
  intro p e s m args below meth c D A ad0 kd0 H locs lsA ad C Rr
  have hL := Rr.2.2.2.2.2.2
  have hlt : i.toNatClampNeg < z := Nat.not_le.mp fun q => hin (Or.inr q)
  have hty : (am_aty t).isReference = true ∧ am_isr (am_aty t) = true := by
    match t, ht, ht0 with
    | 1, _, _ => exact ⟨rfl, rfl⟩
    | 2, _, _ => exact ⟨rfl, rfl⟩
    | 3, _, _ => exact ⟨rfl, rfl⟩
    | 4, _, _ => exact ⟨rfl, rfl⟩
  exact W.aald (v := .ref (ad o)) (ty := am_aty t) C.1 C.2.1 ((Rr.1.1 n _ hk).1 ht) ((am_arr C.2.2.2.2.2.2.2.2.1 ht).1 z _) hty.1 (fun q => by cases q) (by rw [arrV_size]; exact hin) (by rw [arrV_read _ _ hlt]; simp [am_sv, hty.2, ho, va_rf]) rfl rfl hd (k p e s m args below meth c D A ad0 kd0 H locs lsA ad C (Rr.stk (am_lc (Rr.1.2.2.1 n _ o (by rw [hk]; exact fun h => by cases h) ho) (am_l1 (am_l1 hL)))))
theorem A_aald0 {n : am_N} {t z : Nat} {i : Int32} (hk : kd n = some (.inr (t, z))) (ht : t < 5) (ht0 : 0 < t) (hin : vp_in i z) (ho : rv n i.toNatClampNeg = none) (hd : decode M.2.1 pc = .ok (.aaload, 1)) (k : am_W l M R post (pc + 1) ls (am_0 :: st) kd rv iv cu su) : am_W l M R post pc ls (am_I i :: am_P n :: st) kd rv iv cu su := by
  intro p e s m args below meth c D A ad0 kd0 H locs lsA ad C Rr
  have hL := Rr.2.2.2.2.2.2
  have hlt : i.toNatClampNeg < z := Nat.not_le.mp fun q => hin (Or.inr q)
  have hty : (am_aty t).isReference = true ∧ am_isr (am_aty t) = true := by
    match t, ht, ht0 with
    | 1, _, _ => exact ⟨rfl, rfl⟩
    | 2, _, _ => exact ⟨rfl, rfl⟩
    | 3, _, _ => exact ⟨rfl, rfl⟩
    | 4, _, _ => exact ⟨rfl, rfl⟩
  exact W.aald (v := .null) (ty := am_aty t) C.1 C.2.1 ((Rr.1.1 n _ hk).1 ht) ((am_arr C.2.2.2.2.2.2.2.2.1 ht).1 z _) hty.1 (fun q => by cases q) (by rw [arrV_size]; exact hin) (by rw [arrV_read _ _ hlt]; simp [am_sv, hty.2, ho, va_rf]) rfl rfl hd (k p e s m args below meth c D A ad0 kd0 H locs lsA ad C (Rr.stk (am_l0 (am_l1 (am_l1 hL)))))
theorem am_tag {D : am_D} {ad : am_N → Nat} {H : Heap} (h : am_HR D ad kd rv iv H) {n : am_N} {K : am_K} (hk : kd n = some K) (ho : ¬ am_op K) : n.1 < 40 := by
  have := h.2.2.2 n K hk
  rcases Nat.lt_or_ge n.1 40 with h1 | h1
  · exact h1
  · exact absurd (this.mp h1) ho
theorem A_iast {n : am_N} {z : Nat} {i x : Int32} (hk : kd n = some (.inr (0, z))) (hin : vp_in i z) (hd : decode M.2.1 pc = .ok (.iastore, 1)) (k : am_W l M R post (pc + 1) ls st kd rv (am_ui iv n i.toNatClampNeg x) cu su) : am_W l M R post pc ls (am_I x :: am_I i :: am_P n :: st) kd rv iv cu su := by
  intro p e s m args below meth c D A ad0 kd0 H locs lsA ad C Rr
  have hL := Rr.2.2.2.2.2.2
  have hne : ¬ am_op (.inr (0, z) : am_K) := by simp [am_op]
  refine W.iast C.1 C.2.1 ((Rr.1.1 n _ hk).1 (show (0 : Nat) < 5 by decide)) ((am_arr C.2.2.2.2.2.2.2.2.1 (t := 0) (by decide)).1 z _) (fun q => by cases q) (by rw [arrV_size]; exact hin) rfl rfl hd fun H1 e1 z1 oq => ?_
  have hat : am_at D ad rv (am_ui iv n i.toNatClampNeg x) n (.inr (0, z)) H1 := by
    refine ⟨fun _ => ?_, ⟨fun h => ?_, fun h => ?_⟩⟩
    · rw [e1, arrV_store]
      congr 2
      funext q
      by_cases hq : q = i.toNatClampNeg
      · subst hq; simp [updV, am_sv, am_ui, am_isr, am_aty]
      · simp [updV, am_sv, am_ui, hq]
    · simp at h
    · simp at h
  exact k p e s m args below meth c D A ad0 kd0 H1 _ lsA ad C (Rr.heap (Rr.1.set hk hne oq hat (fun _ _ _ => rfl) (fun n' k hn => by simp [am_ui, hn]) (fun k o h => Rr.1.2.2.1 n k o (by rw [hk]; exact fun h => by cases h) h)) (Rr.2.2.1.put z1 oq (Rr.2.1 n (by rw [hk]; exact fun h => by cases h) (am_tag Rr.1 hk hne))) (am_l1 (am_l1 (am_l1 hL))))
theorem A_alen {n : am_N} {t z : Nat} (hk : kd n = some (.inr (t, z))) (ht : t < 5) (hd : decode M.2.1 pc = .ok (.arraylength, 1)) (k : am_W l M R post (pc + 1) ls (am_I (nI z) :: st) kd rv iv cu su) : am_W l M R post pc ls (am_P n :: st) kd rv iv cu su := by
  intro p e s m args below meth c D A ad0 kd0 H locs lsA ad C Rr
  have hL := Rr.2.2.2.2.2.2
  exact W.alen (n := nI z) C.1 C.2.1 ((Rr.1.1 n _ hk).1 ht) ((am_arr C.2.2.2.2.2.2.2.2.1 ht).1 z _) (by rw [arrV_size]; rfl) rfl rfl hd (k p e s m args below meth c D A ad0 kd0 H locs lsA ad C (Rr.stk (am_l0 (am_l1 hL))))
end AH
end
section
/-! returns, calls, what makes objects -/
section AC
variable {l : Launch} {M : am_M} {R : Room} {post : am_Post} {pc : Nat} {ls : List (Option am_V)} {st : List am_V} {kd : am_kd} {rv : am_rv} {iv : am_iv} {cu su : Nat}
theorem A_iret {v : Int32} (hd : decode M.2.1 pc = .ok (.ireturn, 1)) (hret : M.2.2.2 = some .int) (hc : cu ≤ R.cells) (hs : su ≤ R.slots) (hp : post (some (am_I v)) kd rv iv) : am_W l M R post pc ls [am_I v] kd rv iv cu su := by
  intro p e s m args below meth c D A ad0 kd0 H locs lsA ad C Rr
  refine W.widen hc hs ?_
  exact W.iret C.1 C.2.1 (C.2.2.1.trans hret) (fun t ht hW => ⟨⟨some (am_I v), kd, rv, iv, ad, rfl, hp, by rw [ht]; exact Rr.1, Rr.2.1, Rr.2.2.2.1, fun w hw => by cases hw; trivial⟩, Rr.2.2.1.F ht⟩) Rr.2.2.1.2.2 hd C.2.2.2.2.2.2.1
theorem A_zret {v : Int32} (hd : decode M.2.1 pc = .ok (.ireturn, 1)) (hret : M.2.2.2 = some .boolean) (hn : narrow .boolean (.int v) = .int v) (hc : cu ≤ R.cells) (hs : su ≤ R.slots) (hp : post (some (am_I v)) kd rv iv) : am_W l M R post pc ls [am_I v] kd rv iv cu su := by
  intro p e s m args below meth c D A ad0 kd0 H locs lsA ad C Rr
  refine W.widen hc hs ?_
  exact W.zret C.1 C.2.1 (C.2.2.1.trans hret) hn (fun t ht hW => ⟨⟨some (am_I v), kd, rv, iv, ad, rfl, hp, by rw [ht]; exact Rr.1, Rr.2.1, Rr.2.2.2.1, fun w hw => by cases hw; trivial⟩, Rr.2.2.1.F ht⟩) Rr.2.2.1.2.2 hd C.2.2.2.2.2.2.1
theorem A_vret (hd : decode M.2.1 pc = .ok (.return_, 1)) (hret : M.2.2.2 = none) (hc : cu ≤ R.cells) (hs : su ≤ R.slots) (hp : post none kd rv iv) : am_W l M R post pc ls [] kd rv iv cu su := by
  intro p e s m args below meth c D A ad0 kd0 H locs lsA ad C Rr
  refine W.widen hc hs ?_
  exact W.vret C.1 C.2.1 (C.2.2.1.trans hret) (fun t ht hW => ⟨⟨none, kd, rv, iv, ad, rfl, hp, by rw [ht]; exact Rr.1, Rr.2.1, Rr.2.2.2.1, fun w hw => by cases hw⟩, Rr.2.2.1.F ht⟩) Rr.2.2.1.2.2 hd C.2.2.2.2.2.2.1
theorem A_aret {o : Option am_N} {C0 : String} (hd : decode M.2.1 pc = .ok (.areturn, 1)) (hret : M.2.2.2 = some (.object C0)) (hc : cu ≤ R.cells) (hs : su ≤ R.slots) (hp : post (some (am_rf o)) kd rv iv) : am_W l M R post pc ls [am_rf o] kd rv iv cu su := by
  intro p e s m args below meth c D A ad0 kd0 H locs lsA ad C Rr
  refine W.widen hc hs ?_
  have hL := Rr.2.2.2.2.2.2
  exact W.aret C.1 C.2.1 (C.2.2.1.trans hret) (Or.inl ⟨_, rfl⟩) (by cases o with | none => exact Or.inl rfl | some n => exact Or.inr ⟨_, rfl⟩) (fun t ht hW => ⟨⟨some (am_rf o), kd, rv, iv, ad, rfl, hp, by rw [ht]; exact Rr.1, Rr.2.1, Rr.2.2.2.1, fun w hw => by cases hw; exact hL _ List.mem_cons_self⟩, Rr.2.2.1.F ht⟩) Rr.2.2.1.2.2 hd C.2.2.2.2.2.2.1
theorem am_good {M M' : am_M} (h : Cond.code M'.1 M'.2.1 M'.2.2.1 M'.2.2.2 ∈ am_T) : GoodIn (am_ws M) (am_ws M') := fun w hw => by
  rcases List.mem_cons.mp hw with h1 | h1
  · subst h1; exact ⟨List.mem_cons_of_mem _ h, good_of_word (List.mem_filter.mp h).2⟩
  · exact ⟨List.mem_cons_of_mem _ h1, good_of_word (List.mem_filter.mp h1).2⟩
def am_wt (st : List am_V) : Nat := (st.map (fun v => if am_c2 v = true then 2 else 1)).sum
theorem am_wt_ok (ad : am_N → Nat) (st : List am_V) : ((st.map (am_cv ad)).map fun v => v.category).sum = am_wt st := by
  unfold am_wt
  rw [List.map_map]
  congr 1
  exact List.map_congr_left (fun v _ => am_c2_cat ad v)
theorem am_cv_eq {ad ad' : am_N → Nat} {kd : am_kd} (h : ∀ n, kd n ≠ none → ad' n = ad n) {v : am_V} (hv : am_lv kd v) : am_cv ad' v = am_cv ad v := by
  cases v with
  | inl n => simp only [am_cv, h n hv]
  | inr v => rfl
theorem am_lv_mono {kd kd' : am_kd} (h : ∀ n, kd n ≠ none → kd' n ≠ none) {v : am_V} (hv : am_lv kd v) : am_lv kd' v := by
  cases v with
  | inl n => exact h n hv
  | inr v => trivial
/-- names get addresses anew: what was alive keeps its own -/
theorem am_R.move {s : State} {D : am_D} {A : Nat → Prop} {ad0 : am_N → Nat} {kd0 : am_kd} {H H' : Heap} {locs locs' : List Loc} {lsA : Array Slot} {ad ad' : am_N → Nat} {kd' : am_kd} {rv' : am_rv} {iv' : am_iv} {st' : List am_V} (h : am_R M s D A ad0 kd0 H locs lsA ad ls st kd rv iv) (hH : am_HR D ad' kd' rv' iv' H') (hA : ∀ n, kd' n ≠ none → n.1 < 40 → A (ad' n)) (hS : va_S A s.heap H' locs') (had : ∀ n, kd n ≠ none → ad' n = ad n ∧ kd' n ≠ none) (hst : ∀ v ∈ st', am_lv kd' v) : am_R M s D A ad0 kd0 H' locs' lsA ad' ls st' kd' rv' iv' := by
  refine ⟨hH, hA, hS, fun n hn => ?_, ⟨h.2.2.2.2.1.1, h.2.2.2.2.1.2.1, fun i v hi => ?_⟩, fun v hv => am_lv_mono (fun n hn => (had n hn).2) (h.2.2.2.2.2.1 v hv), hst⟩
  · have h1 := h.2.2.2.1 n hn
    exact ⟨(had n h1.2).1.trans h1.1, (had n h1.2).2⟩
  · rw [am_cv_eq (fun n hn => (had n hn).1) (h.2.2.2.2.2.1 v (List.mem_of_getElem? hi))]
    exact h.2.2.2.2.1.2.2 i v hi
/-- behind a call -/
theorem am_after {p : Program} {e : Env} {s : State} {m : MethodId} {args : Array Value} {below : List Frame} {meth : Method} {c : Code} {D : am_D} {A : Nat → Prop} {ad0 : am_N → Nat} {kd0 : am_kd} {H : Heap} {locs : List Loc} {lsA : Array Slot} {ad : am_N → Nat} {R' : Room} {post' : am_Post} {aa : Array Value} {st0 : List Value} {rest : List am_V} (C : am_C M p s m args meth c D A) (Rr : am_R M s D A ad0 kd0 H locs lsA ad ls st kd rv iv) (hrest : ∀ v ∈ rest, am_lv kd v)
    (hr : va_Run p l e R s m args below meth c H locs cu su R'.cells R'.slots (F0 m pc lsA st0) (rest.map (am_cv ad)) (am_Qc D (am_A kd ad H.size) ad kd post' aa) (am_A kd ad H.size))
    (kk : ∀ (v : Option am_V) (kd' : am_kd) (rv' : am_rv) (iv' : am_iv), post' v kd' rv' iv' → am_W l M R post (pc + 3) ls (v.toList ++ rest) kd' rv' iv' (cu + R'.cells) (su + R'.slots)) :
    W p l e R s m args below meth c H locs cu su (MQ below (am_Qc D A ad0 kd0 post) args s R.cells R.slots A) (F0 m pc lsA st0) := by
  intro T hT X
  obtain ⟨v, s₀, t, T', L, h0, X', hL, e1, e2, ⟨⟨v', kd', rv', iv', ad', hv, hpost, hHR, hA', had, hlv⟩, hz, hk⟩, go⟩ := hr T hT X
  cases hv
  rw [h0] at hz hk
  have hAA : ∀ q, am_A kd ad H.size q → A q := by
    intro q hq
    rcases hq with ⟨n, h1, h2, h3⟩ | h1
    · rw [← h3]; exact Rr.2.1 n h1 h2
    · exact C.2.2.2.2.2.2.2.2.2 q (Nat.le_trans Rr.2.2.1.1 h1)
  have hS : va_S A s.heap T'.heap (locs ++ L) := ⟨Nat.le_trans Rr.2.2.1.1 (by rw [e1]; exact hz), fun q h1 h2 => by rw [e1, hk q (Nat.lt_of_lt_of_le h1 Rr.2.2.1.1) (fun z => h2 (hAA q z))]; exact Rr.2.2.1.2.1 q h1 h2, fun q hq => by
    rcases List.mem_append.mp hq with h | h
    · exact Rr.2.2.1.2.2 q h
    · exact hAA _ (hL q h)⟩
  have hst : ∀ w ∈ v'.toList ++ rest, am_lv kd' w := by
    intro w hw
    rcases List.mem_append.mp hw with h | h
    · cases v' with
      | none => cases h
      | some v0 =>
        rw [Option.toList_some, List.mem_singleton] at h
        subst h; exact hlv _ rfl
    · exact am_lv_mono (fun n hn => (had n hn).2) (hrest w h)
  have K := kk v' kd' rv' iv' hpost p e s m args below meth c D A ad0 kd0 T'.heap (locs ++ L) lsA ad' C (Rr.move (by rw [e1]; exact hHR) (fun n h1 h2 => hAA _ (hA' n h1 h2)) hS had hst)
  have hmap : (v'.toList ++ rest).map (am_cv ad') = (v'.map (am_cv ad')).toList ++ rest.map (am_cv ad) := by
    rw [List.map_append]
    congr 1
    · cases v' <;> rfl
    · exact List.map_congr_left (fun w hw => am_cv_eq (fun n hn => (had n hn).1) (hrest w hw))
  rw [hmap] at K
  obtain ⟨t2, a1, b1⟩ := K T' rfl X'
  exact ⟨t2, go t2 a1, b1⟩
theorem am_pre {p : Program} {s : State} {m : MethodId} {args : Array Value} {meth : Method} {c : Code} {D : am_D} {A : Nat → Prop} {ad0 : am_N → Nat} {kd0 : am_kd} {H : Heap} {locs : List Loc} {lsA : Array Slot} {ad : am_N → Nat} {av : List am_V} (C : am_C M p s m args meth c D A) (Rr : am_R M s D A ad0 kd0 H locs lsA ad ls st kd rv iv) (hav : ∀ v ∈ av, am_lv kd v) : ∀ U : State, U.heap = H → s.WarmedH U.vm → am_Pc D ad H.size av kd rv iv (av.map (am_cv ad)).toArray U := by
  intro U hU hW
  have hAA : ∀ q, am_A kd ad H.size q → A q := by
    intro q hq
    rcases hq with ⟨n, h1, h2, h3⟩ | h1
    · rw [← h3]; exact Rr.2.1 n h1 h2
    · exact C.2.2.2.2.2.2.2.2.2 q (Nat.le_trans Rr.2.2.1.1 h1)
  exact ⟨rfl, by rw [hU], am_KF.call C.2.2.2.2.2.2.2.2.1 Rr.2.2.1 hAA hU hW, by rw [hU]; exact Rr.1, hav⟩
/-- what the tables say of a callee -/
def am_Ce (M' : am_M) (n : Nat) : Prop := Cond.code M'.1 M'.2.1 M'.2.2.1 M'.2.2.2 ∈ am_T ∧ Cond.initialized M'.1.cls ∈ am_T ∧ (M'.1.cls ≠ "java/lang/invoke/MethodHandle" ∧ M'.1.cls ≠ "java/lang/invoke/VarHandle" ∧ (parseMethodDescriptor M'.1.desc).map (fun d => d.parameters.length) = some n)
def am_CS (own : String) (idx : Nat) (M' : am_M) (n : Nat) : Prop := am_Ce M' n ∧ Cond.methodLink own idx M'.1 ∈ am_T ∧ Cond.static M'.1 ∈ am_T
def am_CN (own : String) (idx : Nat) (M' : am_M) (n : Nat) : Prop := am_Ce M' n ∧ (∃ host, Cond.methodLinkNest own idx M'.1 host ∈ am_nw) ∧ Cond.static M'.1 ∈ am_T
def am_CV (own : String) (idx : Nat) (M' : am_M) (n : Nat) : Prop := am_Ce M' n ∧ Cond.methodLink own idx M'.1 ∈ am_T ∧ Cond.instanceMethod M'.1 ∈ am_T ∧ Cond.selects M'.1.cls M'.1 M'.1 ∈ am_T
def am_CI (own : String) (idx : Nat) (M' : am_M) (n : Nat) : Prop := am_Ce M' n ∧ Cond.methodLink own idx M'.1 ∈ am_T ∧ Cond.instanceMethod M'.1 ∈ am_T ∧ M'.1.name = "<init>" ∧ M'.2.2.2 = none
def am_CU (own : String) (idx : Nat) (x : MethodName) (owner C : String) (M' : am_M) (n : Nat) : Prop := am_Ce M' n ∧ Cond.methodLink own idx x ∈ am_T ∧ Cond.sameMethod x.cls owner x.name x.desc ∈ am_T ∧ Cond.instanceMethod ⟨owner, x.name, x.desc⟩ ∈ am_T ∧ (∃ b0 m0 r0, Cond.code ⟨owner, x.name, x.desc⟩ b0 m0 r0 ∈ am_T) ∧ Cond.selects C x M'.1 ∈ am_T ∧ Cond.instanceMethod M'.1 ∈ am_T ∧ (owner ≠ "java/lang/invoke/MethodHandle" ∧ owner ≠ "java/lang/invoke/VarHandle" ∧ (parseMethodDescriptor x.desc).map (fun d => d.parameters.length) = some n)
def am_CP (own : String) (idx : Nat) (M' : am_M) (n : Nat) : Prop := am_Ce M' n ∧ Cond.methodLink own idx M'.1 ∈ am_T ∧ Cond.sameMethod M'.1.cls M'.1.cls M'.1.name M'.1.desc ∈ am_T ∧ Cond.superclass own M'.1.cls ∈ am_T ∧ Cond.instanceMethod M'.1 ∈ am_T ∧ M'.1.name ≠ "<init>"
set_option maxHeartbeats 1000000 in
theorem A_callS {M' : am_M} {R' : Room} {post' : am_Post} {idx n : Nat} {av rest : List am_V} (hC : am_CS M.1.cls idx M' n) (hM : am_Met l M' R' av kd rv iv post') (hn : av.length = n) (hst : av.reverse ++ rest = st) (hw : am_wt rest ≤ 8) (hroom : R'.frames + 1 ≤ R.frames ∧ 8 + (M'.2.2.1 + 11) + R'.locals ≤ R.locals) (hcs : cu + R'.cells ≤ R.cells ∧ su + R'.slots ≤ R.slots) (hd : decode M.2.1 pc = .ok (.invokestatic idx, 3))
    (kk : ∀ (v : Option am_V) (kd' : am_kd) (rv' : am_rv) (iv' : am_iv), post' v kd' rv' iv' → am_W l M R post (pc + 3) ls (v.toList ++ rest) kd' rv' iv' (cu + R'.cells) (su + R'.slots)) : am_W l M R post pc ls st kd rv iv cu su := by
  intro p e s m args below meth c D A ad0 kd0 H locs lsA ad C Rr
  have hL := Rr.2.2.2.2.2.2
  subst hst
  obtain ⟨⟨h1, h2, h3⟩, h4, h5⟩ := hC
  have hts : ∀ w ∈ am_T, w.before args s = true := fun w hw => C.2.2.2.2.2.1 w (List.mem_cons_of_mem _ hw)
  have hrest : ∀ v ∈ rest, am_lv kd v := fun v hv => hL v (List.mem_append_right _ hv)
  have hav : ∀ v ∈ av, am_lv kd v := fun v hv => hL v (List.mem_append_left _ (List.mem_reverse.mpr hv))
  refine am_after C Rr hrest (va_runS (As := av.map (am_cv ad)) (rest := rest.map (am_cv ad)) (n := n) ⟨C.1, C.2.1, C.2.2.2.1, C.2.2.2.2.1, C.2.2.2.2.2.1⟩ (hM D ad H.size) ⟨callB_of (ws' := am_T) n C.2.2.2.2.2.1 (am_good h1) rfl rfl rfl (hts _ h2) (hts _ h4) h3 hroom, hts _ h5⟩ ⟨am_Pc_blind, am_pre C Rr hav⟩ rfl (by rw [List.length_map]; exact hn) Rr.2.2.2.2.1.1 (by simp) (lv_room (by rw [am_wt_ok]; exact hw)) hd hcs) kk
set_option maxHeartbeats 1000000 in
theorem A_callN {M' : am_M} {R' : Room} {post' : am_Post} {idx n : Nat} {av rest : List am_V} (hC : am_CN M.1.cls idx M' n) (hM : am_Met l M' R' av kd rv iv post') (hn : av.length = n) (hst : av.reverse ++ rest = st) (hw : am_wt rest ≤ 8) (hroom : R'.frames + 1 ≤ R.frames ∧ 8 + (M'.2.2.1 + 11) + R'.locals ≤ R.locals) (hcs : cu + R'.cells ≤ R.cells ∧ su + R'.slots ≤ R.slots) (hd : decode M.2.1 pc = .ok (.invokestatic idx, 3))
    (kk : ∀ (v : Option am_V) (kd' : am_kd) (rv' : am_rv) (iv' : am_iv), post' v kd' rv' iv' → am_W l M R post (pc + 3) ls (v.toList ++ rest) kd' rv' iv' (cu + R'.cells) (su + R'.slots)) : am_W l M R post pc ls st kd rv iv cu su := by
  intro p e s m args below meth c D A ad0 kd0 H locs lsA ad C Rr
  have hL := Rr.2.2.2.2.2.2
  subst hst
  obtain ⟨⟨h1, h2, h3⟩, ⟨host, h4⟩, h5⟩ := hC
  have hts : ∀ w ∈ am_T, w.before args s = true := fun w hw => C.2.2.2.2.2.1 w (List.mem_cons_of_mem _ hw)
  have hrest : ∀ v ∈ rest, am_lv kd v := fun v hv => hL v (List.mem_append_right _ hv)
  have hav : ∀ v ∈ av, am_lv kd v := fun v hv => hL v (List.mem_append_left _ (List.mem_reverse.mpr hv))
  refine am_after C Rr hrest (va_runSN (As := av.map (am_cv ad)) (rest := rest.map (am_cv ad)) (n := n) ⟨C.1, C.2.1, C.2.2.2.1, C.2.2.2.2.1, C.2.2.2.2.2.1⟩ (hM D ad H.size) ⟨va_cnB (ws' := am_T) n C.2.2.2.2.2.1 (am_good h1) rfl rfl rfl (C.2.2.2.2.2.2.2.2.1.2.1 _ h4) (hts _ h2) h3 hroom, hts _ h5, trivial⟩ ⟨am_Pc_blind, am_pre C Rr hav⟩ rfl (by rw [List.length_map]; exact hn) Rr.2.2.2.2.1.1 (by simp) (lv_room (by rw [am_wt_ok]; exact hw)) hd hcs) kk
theorem am_recv {s : State} {D : am_D} {A : Nat → Prop} {H : Heap} {ad : am_N → Nat} {n : am_N} {ci : Nat} {r : vw_C} (hK : am_KF D A s) (hR : am_HR D ad kd rv iv H) (hk : kd n = some (.inl ci)) (hr : vwCl[ci]? = some r) : ∃ cell : Cell, H[ad n]? = some cell ∧ cell.vm.isStatics = false ∧ s.vm.findClass r.1 = some cell.cls := by
  obtain ⟨r', hr', cell, q1, q2, q3, -⟩ := hR.1 n _ hk
  exact ⟨cell, q1, by rw [q3]; rfl, by rw [q2]; exact (hK.1.1 ci r hr).2.1⟩
set_option maxHeartbeats 1000000 in
theorem A_callV {M' : am_M} {R' : Room} {post' : am_Post} {idx n ci : Nat} {o : am_N} {r : vw_C} {av rest : List am_V} (hC : am_CV M.1.cls idx M' n) (hM : am_Met l M' R' (am_P o :: av) kd rv iv post') (hk : kd o = some (.inl ci)) (hr : vwCl[ci]? = some r) (hrc : r.1 = M'.1.cls) (hn : av.length = n) (hst : av.reverse ++ am_P o :: rest = st) (hw : am_wt rest ≤ 8) (hroom : R'.frames + 1 ≤ R.frames ∧ 8 + (M'.2.2.1 + 11) + R'.locals ≤ R.locals) (hcs : cu + R'.cells ≤ R.cells ∧ su + R'.slots ≤ R.slots) (hd : decode M.2.1 pc = .ok (.invokevirtual idx, 3))
    (kk : ∀ (v : Option am_V) (kd' : am_kd) (rv' : am_rv) (iv' : am_iv), post' v kd' rv' iv' → am_W l M R post (pc + 3) ls (v.toList ++ rest) kd' rv' iv' (cu + R'.cells) (su + R'.slots)) : am_W l M R post pc ls st kd rv iv cu su := by
  intro p e s m args below meth c D A ad0 kd0 H locs lsA ad C Rr
  have hL := Rr.2.2.2.2.2.2
  subst hst
  obtain ⟨⟨h1, h2, h3⟩, h4, h5, h6⟩ := hC
  have hts : ∀ w ∈ am_T, w.before args s = true := fun w hw => C.2.2.2.2.2.1 w (List.mem_cons_of_mem _ hw)
  have hrest : ∀ v ∈ rest, am_lv kd v := fun v hv => hL v (List.mem_append_right _ (List.mem_cons_of_mem _ hv))
  have hav : ∀ v ∈ am_P o :: av, am_lv kd v := fun v hv => by
    rcases List.mem_cons.mp hv with h | h
    · subst h; exact hL _ (List.mem_append_right _ List.mem_cons_self)
    · exact hL v (List.mem_append_left _ (List.mem_reverse.mpr h))
  have hrv := am_recv C.2.2.2.2.2.2.2.2.1 Rr.1 hk hr
  rw [hrc] at hrv
  refine am_after C Rr hrest (va_runV (As := av.map (am_cv ad)) (rest := rest.map (am_cv ad)) (n := n) (C := M'.1.cls) (b := ad o) ⟨C.1, C.2.1, C.2.2.2.1, C.2.2.2.2.1, C.2.2.2.2.2.1⟩ (hM D ad H.size) ⟨callB_of (ws' := am_T) n C.2.2.2.2.2.1 (am_good h1) rfl rfl rfl (hts _ h2) (hts _ h4) h3 hroom, hts _ h5, hts _ h6⟩ ⟨am_Pc_blind, hrv, am_pre C Rr hav⟩ rfl (by rw [List.length_map]; exact hn) Rr.2.2.2.2.1.1 (by simp [am_cv]) (lv_room (by rw [am_wt_ok]; exact hw)) hd hcs) kk
set_option maxHeartbeats 1000000 in
theorem A_callU {M' : am_M} {R' : Room} {post' : am_Post} {idx n ci : Nat} {x : MethodName} {owner : String} {o : am_N} {r : vw_C} {av rest : List am_V} (hC : am_CU M.1.cls idx x owner r.1 M' n) (hM : am_Met l M' R' (am_P o :: av) kd rv iv post') (hk : kd o = some (.inl ci)) (hr : vwCl[ci]? = some r) (hn : av.length = n) (hst : av.reverse ++ am_P o :: rest = st) (hw : am_wt rest ≤ 8) (hroom : R'.frames + 1 ≤ R.frames ∧ 8 + (M'.2.2.1 + 11) + R'.locals ≤ R.locals) (hcs : cu + R'.cells ≤ R.cells ∧ su + R'.slots ≤ R.slots) (hd : decode M.2.1 pc = .ok (.invokevirtual idx, 3))
    (kk : ∀ (v : Option am_V) (kd' : am_kd) (rv' : am_rv) (iv' : am_iv), post' v kd' rv' iv' → am_W l M R post (pc + 3) ls (v.toList ++ rest) kd' rv' iv' (cu + R'.cells) (su + R'.slots)) : am_W l M R post pc ls st kd rv iv cu su := by
  intro p e s m args below meth c D A ad0 kd0 H locs lsA ad C Rr
  have hL := Rr.2.2.2.2.2.2
  subst hst
  obtain ⟨⟨h1, h2, h3⟩, h4, h5, h6, ⟨b0, m0, r0, h7⟩, h8, h9, h10, h11, h12⟩ := hC
  have hts : ∀ w ∈ am_T, w.before args s = true := fun w hw => C.2.2.2.2.2.1 w (List.mem_cons_of_mem _ hw)
  have hrest : ∀ v ∈ rest, am_lv kd v := fun v hv => hL v (List.mem_append_right _ (List.mem_cons_of_mem _ hv))
  have hav : ∀ v ∈ am_P o :: av, am_lv kd v := fun v hv => by
    rcases List.mem_cons.mp hv with h | h
    · subst h; exact hL _ (List.mem_append_right _ List.mem_cons_self)
    · exact hL v (List.mem_append_left _ (List.mem_reverse.mpr h))
  have hrv := am_recv C.2.2.2.2.2.2.2.2.1 Rr.1 hk hr
  have hG := am_good (M := M) h1
  refine am_after C Rr hrest (va_runU (x := x) (owner := owner) (bytes := M'.2.1) (maxL := M'.2.2.1) (ret := M'.2.2.2) (As := av.map (am_cv ad)) (rest := rest.map (am_cv ad)) (n := n) (C := r.1) (b := ad o) ⟨C.1, C.2.1, C.2.2.2.1, C.2.2.2.2.1, C.2.2.2.2.2.1⟩ (hM D ad H.size) ⟨⟨rfl, rfl, hroom.1, hroom.2, pay_in C.2.2.2.2.2.1 hG, List.mem_cons_self⟩, hts _ h1, hts _ h2, ⟨h10, h11⟩, fun sig h => ?_, hts _ h4, hts _ h5, va_Decl.of (hts _ h6) (hts _ h7), hts _ h8, hts _ h9⟩ ⟨am_Pc_blind, hrv, am_pre C Rr hav⟩ rfl (by rw [List.length_map]; exact hn) Rr.2.2.2.2.1.1 (by simp [am_cv]) (lv_room (by rw [am_wt_ok]; exact hw)) hd hcs) kk
  rw [h] at h12
  exact (Option.some.inj h12).symm
set_option maxHeartbeats 1000000 in
theorem A_callP {M' : am_M} {R' : Room} {post' : am_Post} {idx n ci : Nat} {o : am_N} {r : vw_C} {av rest : List am_V} (hC : am_CP M.1.cls idx M' n) (hM : am_Met l M' R' (am_P o :: av) kd rv iv post') (hk : kd o = some (.inl ci)) (hr : vwCl[ci]? = some r) (hn : av.length = n) (hst : av.reverse ++ am_P o :: rest = st) (hw : am_wt rest ≤ 8) (hroom : R'.frames + 1 ≤ R.frames ∧ 8 + (M'.2.2.1 + 11) + R'.locals ≤ R.locals) (hcs : cu + R'.cells ≤ R.cells ∧ su + R'.slots ≤ R.slots) (hd : decode M.2.1 pc = .ok (.invokespecial idx, 3))
    (kk : ∀ (v : Option am_V) (kd' : am_kd) (rv' : am_rv) (iv' : am_iv), post' v kd' rv' iv' → am_W l M R post (pc + 3) ls (v.toList ++ rest) kd' rv' iv' (cu + R'.cells) (su + R'.slots)) : am_W l M R post pc ls st kd rv iv cu su := by
  intro p e s m args below meth c D A ad0 kd0 H locs lsA ad C Rr
  have hL := Rr.2.2.2.2.2.2
  subst hst
  obtain ⟨⟨h1, h2, h3, h3b, h3c⟩, h4, h5, h6, h7, h8⟩ := hC
  have hts : ∀ w ∈ am_T, w.before args s = true := fun w hw => C.2.2.2.2.2.1 w (List.mem_cons_of_mem _ hw)
  have hrest : ∀ v ∈ rest, am_lv kd v := fun v hv => hL v (List.mem_append_right _ (List.mem_cons_of_mem _ hv))
  have hav : ∀ v ∈ am_P o :: av, am_lv kd v := fun v hv => by
    rcases List.mem_cons.mp hv with h | h
    · subst h; exact hL _ (List.mem_append_right _ List.mem_cons_self)
    · exact hL v (List.mem_append_left _ (List.mem_reverse.mpr h))
  have hrv := am_recv C.2.2.2.2.2.2.2.2.1 Rr.1 hk hr
  have hat := (C.2.2.2.2.2.2.2.2.1.1.1 ci r hr).2
  have hG := am_good (M := M) h1
  refine am_after C Rr hrest (va_runSU (C := r.1) hat (bytes := M'.2.1) (maxL := M'.2.2.1) (ret := M'.2.2.2) (As := av.map (am_cv ad)) (rest := rest.map (am_cv ad)) (n := n) (b := ad o) ⟨C.1, C.2.1, C.2.2.2.1, C.2.2.2.2.1, C.2.2.2.2.2.1⟩ (hM D ad H.size) ⟨⟨rfl, rfl, hroom.1, hroom.2, pay_in C.2.2.2.2.2.1 hG, List.mem_cons_self⟩, hts _ h4, hts _ h5, hts _ h6, hts _ h7, hts _ h2, hts _ h1, h8, fun sig h => ?_⟩ ⟨am_Pc_blind, hrv, am_pre C Rr hav⟩ rfl (by rw [List.length_map]; exact hn) Rr.2.2.2.2.1.1 (by simp [am_cv]) (lv_room (by rw [am_wt_ok]; exact hw)) hd hcs) kk
  rw [h] at h3c
  exact (Option.some.inj h3c).symm
set_option maxHeartbeats 1000000 in
theorem A_callI {y : MethodName} {cc : ByteArray} {mL : Nat} {R' : Room} {post' : am_Post} {idx n : Nat} {o : am_N} {av rest : List am_V} (hC : am_CI M.1.cls idx (y, cc, mL, none) n) (hM : am_Met l (y, cc, mL, none) R' (am_P o :: av) kd rv iv post') (hn : av.length = n) (hst : av.reverse ++ am_P o :: rest = st) (hw : am_wt rest ≤ 8) (hroom : R'.frames + 1 ≤ R.frames ∧ 8 + (mL + 11) + R'.locals ≤ R.locals) (hcs : cu + R'.cells ≤ R.cells ∧ su + R'.slots ≤ R.slots) (hd : decode M.2.1 pc = .ok (.invokespecial idx, 3))
    (kk : ∀ (v : Option am_V) (kd' : am_kd) (rv' : am_rv) (iv' : am_iv), post' v kd' rv' iv' → am_W l M R post (pc + 3) ls (v.toList ++ rest) kd' rv' iv' (cu + R'.cells) (su + R'.slots)) : am_W l M R post pc ls st kd rv iv cu su := by
  intro p e s m args below meth c D A ad0 kd0 H locs lsA ad C Rr
  have hL := Rr.2.2.2.2.2.2
  subst hst
  obtain ⟨⟨h1, h2, h3⟩, h4, h5, h6, h7⟩ := hC
  have hts : ∀ w ∈ am_T, w.before args s = true := fun w hw => C.2.2.2.2.2.1 w (List.mem_cons_of_mem _ hw)
  have hrest : ∀ v ∈ rest, am_lv kd v := fun v hv => hL v (List.mem_append_right _ (List.mem_cons_of_mem _ hv))
  have hav : ∀ v ∈ am_P o :: av, am_lv kd v := fun v hv => by
    rcases List.mem_cons.mp hv with h | h
    · subst h; exact hL _ (List.mem_append_right _ List.mem_cons_self)
    · exact hL v (List.mem_append_left _ (List.mem_reverse.mpr h))
  refine am_after C Rr hrest (va_runI (As := av.map (am_cv ad)) (rest := rest.map (am_cv ad)) (n := n) (b := ad o) ⟨C.1, C.2.1, C.2.2.2.1, C.2.2.2.2.1, C.2.2.2.2.2.1⟩ (hM D ad H.size) ⟨callB_of (ws' := am_T) n C.2.2.2.2.2.1 (am_good (M' := (y, cc, mL, none)) h1) rfl rfl rfl (hts _ h2) (hts _ h4) h3 hroom, h6, hts _ h5⟩ ⟨am_Pc_blind, am_pre C Rr hav⟩ rfl (by rw [List.length_map]; exact hn) Rr.2.2.2.2.1.1 (by simp [am_cv]) (lv_room (by rw [am_wt_ok]; exact hw)) hd hcs) kk
theorem A_objInit {idx : Nat} {v : am_N} (h1 : Cond.methodLink M.1.cls idx Lib.objectInit ∈ am_T) (h2 : Cond.instanceMethod Lib.objectInit ∈ am_T) (h3 : Cond.code Lib.objectInit ⟨#[0xb1]⟩ 1 none ∈ am_T) (hR : 1 ≤ R.frames) (hw : am_wt st + 12 ≤ R.locals) (hd : decode M.2.1 pc = .ok (.invokespecial idx, 3)) (k : am_W l M R post (pc + 3) ls st kd rv iv cu su) : am_W l M R post pc ls (am_P v :: st) kd rv iv cu su := by
  intro p e s m args below meth c D A ad0 kd0 H locs lsA ad C Rr
  have hts : ∀ w ∈ am_T, w.before args s = true := fun w hw => C.2.2.2.2.2.1 w (List.mem_cons_of_mem _ hw)
  refine W.objInit C.1 C.2.1 C.2.2.2.2.1 (hts _ h1) (hts _ h2) (hts _ h3) rfl (Rr.2.2.2.2.1.1.trans C.2.2.2.1.symm) rfl hd hR ?_ (k p e s m args below meth c D A ad0 kd0 H locs lsA ad C (Rr.stk (am_l1 Rr.2.2.2.2.2.2)))
  show 2 * 0 + _ + 12 ≤ R.locals
  rw [am_wt_ok]
  omega
end AC
end
section
/-! what makes objects; stores of references; instanceof; the script; the texts' names; Math; arraycopy -/
def am_na (ad : am_N → Nat) (n : am_N) (a : Nat) : am_N → Nat := fun n' => if n' = n then a else ad n'
theorem am_at.ad {D : am_D} {ad ad' : am_N → Nat} {rv : am_rv} {iv : am_iv} {n : am_N} {K : am_K} {H : Heap} (h : am_at D ad rv iv n K H) (hn : ad' n = ad n) (hr : ∀ k o, rv n k = some o → ad' o = ad o) : am_at D ad' rv iv n K H := by
  have hs : ∀ r k, am_sv ad' rv iv r n k = am_sv ad rv iv r n k := fun r k => by
    simp only [am_sv]
    cases ho : rv n k with
    | none => rfl
    | some o => simp only [Option.map_some, hr k o ho]
  cases K with
  | inl ci =>
    obtain ⟨r, h1, h2⟩ := h
    refine ⟨r, h1, ?_⟩
    rw [hn]
    exact h2.to (fun k _ => (hs _ k).symm)
  | inr a =>
    refine ⟨fun h9 => ?_, fun h9 => hn.trans (h.2.1 h9), fun h9 => hn.trans (h.2.2 h9)⟩
    have e : (fun j => am_sv ad' rv iv (am_isr (am_aty a.1)) n j) = fun j => am_sv ad rv iv (am_isr (am_aty a.1)) n j := funext fun j => hs _ j
    rw [hn, e]
    exact h.1 h9
theorem am_HR.new {D : am_D} {ad : am_N → Nat} {kd : am_kd} {rv : am_rv} {iv : am_iv} {H H1 : Heap} (h : am_HR D ad kd rv iv H) {n : am_N} {K : am_K} (hk : kd n = none) (ht : n.1 < 40) (ho : ¬ am_op K) (hr0 : ∀ k, rv n k = none) (o1 : ∀ q : Nat, q < H.size → H1[q]? = H[q]?) (hn : am_at D (am_na ad n H.size) rv iv n K H1) : am_HR D (am_na ad n H.size) (am_uk kd n K) rv iv H1 := by
  have had : ∀ n', kd n' ≠ none → am_na ad n H.size n' = ad n' := fun n' h' => by
    have : n' ≠ n := fun e => h' (by rw [e]; exact hk)
    simp [am_na, this]
  have hs : am_na ad n H.size n = H.size := by simp [am_na]
  have hnop : ∀ n' K', kd n' = some K' → n'.1 < 40 → ¬ am_op K' := fun n' K' h1 h2 h3 => by
    have := (h.2.2.2 n' K' h1).mpr h3
    omega
  have hlt : ∀ n', kd n' ≠ none → n'.1 < 40 → ad n' < H.size := fun n' h1 h2 => by
    cases h3 : kd n' with
    | none => exact absurd h3 h1
    | some K' => exact h.lt h3 (hnop n' K' h3 h2)
  refine ⟨fun n' K' hk' => ?_, fun n1 n2 h1 h2 t1 t2 e => ?_, fun n' k o h1 h2 => ?_, fun n' K' hk' => ?_⟩
  · by_cases hn' : n' = n
    · subst hn'
      simp [am_uk] at hk'; subst hk'
      exact hn
    · simp [am_uk, hn'] at hk'
      refine ((h.1 n' K' hk').to (H' := H1) (fun hop => o1 _ (h.lt hk' hop)) (fun _ => rfl) (fun _ => rfl)).ad (had n' (by rw [hk']; exact fun h => by cases h)) (fun k o ho' => had o (h.2.2.1 n' k o (by rw [hk']; exact fun h => by cases h) ho'))
  · by_cases e1 : n1 = n <;> by_cases e2 : n2 = n
    · rw [e1, e2]
    · simp [am_uk, e2] at h2
      rw [e1, hs, had n2 h2] at e
      have := hlt n2 h2 t2
      omega
    · simp [am_uk, e1] at h1
      rw [e2, hs, had n1 h1] at e
      have := hlt n1 h1 t1
      omega
    · simp [am_uk, e1] at h1
      simp [am_uk, e2] at h2
      rw [had n1 h1, had n2 h2] at e
      exact h.2.1 n1 n2 h1 h2 t1 t2 e
  · by_cases e1 : o = n
    · simp [am_uk, e1]
    · by_cases e2 : n' = n
      · rw [e2, hr0] at h2; cases h2
      · simp [am_uk, e2] at h1
        simp only [am_uk, e1, if_false]
        exact h.2.2.1 n' k o h1 h2
  · by_cases hn' : n' = n
    · subst hn'
      simp [am_uk] at hk'; subst hk'
      exact ⟨fun h => by omega, fun h => absurd h ho⟩
    · simp [am_uk, hn'] at hk'
      exact h.2.2.2 n' K' hk'
theorem am_R.new {M : am_M} {ls : List (Option am_V)} {st st' : List am_V} {kd : am_kd} {rv : am_rv} {iv : am_iv} {s : State} {D : am_D} {A : Nat → Prop} {ad0 : am_N → Nat} {kd0 : am_kd} {H H1 : Heap} {locs : List Loc} {lsA : Array Slot} {ad : am_N → Nat} (h : am_R M s D A ad0 kd0 H locs lsA ad ls st kd rv iv) (hA : ∀ q, s.heap.size ≤ q → A q) {n : am_N} {K : am_K} (hk : kd n = none) (ht : n.1 < 40) (ho : ¬ am_op K) (hr0 : ∀ k, rv n k = none) (hz : H1.size = H.size + 1) (o1 : ∀ q : Nat, q < H.size → H1[q]? = H[q]?) (hn : am_at D (am_na ad n H.size) rv iv n K H1) (hst : ∀ v ∈ st', am_lv kd v) : am_R M s D A ad0 kd0 H1 locs lsA (am_na ad n H.size) ls (am_P n :: st') (am_uk kd n K) rv iv := by
  have had : ∀ n', kd n' ≠ none → am_na ad n H.size n' = ad n' ∧ am_uk kd n K n' ≠ none := fun n' h' => by
    have : n' ≠ n := fun e => h' (by rw [e]; exact hk)
    simp [am_na, am_uk, this, h']
  refine h.move (h.1.new hk ht ho hr0 o1 hn) (fun n' h1 h2 => ?_) ⟨Nat.le_trans h.2.2.1.1 (by omega), fun q h1 h2 => (o1 q (Nat.lt_of_lt_of_le h1 h.2.2.1.1)).trans (h.2.2.1.2.1 q h1 h2), h.2.2.1.2.2⟩ had (am_lc ?_ (fun v hv => am_lv_mono (fun n' h' => (had n' h').2) (hst v hv)))
  · by_cases hn' : n' = n
    · subst hn'
      simp only [am_na, if_true]
      exact hA _ h.2.2.1.1
    · simp [am_uk, hn'] at h1
      rw [(had n' h1).1]
      exact h.2.1 n' h1 h2
  · show am_uk kd n K n ≠ none
    simp [am_uk]
theorem am_st_eq {kd : am_kd} {K : am_K} {n : am_N} (hk : kd n = none) (ad : am_N → Nat) (a : Nat) {st : List am_V} (h : ∀ v ∈ st, am_lv kd v) : (am_P n :: st).map (am_cv (am_na ad n a)) = .ref a :: st.map (am_cv ad) := by
  rw [List.map_cons]
  congr 1
  · simp [am_cv, am_na]
  · refine List.map_congr_left (fun v hv => am_cv_eq (kd := kd) (fun n' h' => ?_) (h v hv))
    have : n' ≠ n := fun e => h' (by rw [e]; exact hk)
    simp [am_na, this]
section AN
variable {l : Launch} {M : am_M} {R : Room} {post : am_Post} {pc : Nat} {ls : List (Option am_V)} {st : List am_V} {kd : am_kd} {rv : am_rv} {iv : am_iv} {cu su : Nat}
theorem am_dflt {t : FieldType} (h : am_okty t = true) : defaultValue t = if am_isr t = true then .null else .int 0 := by
  cases t <;> first | rfl | cases h
set_option maxHeartbeats 1000000 in
theorem A_new (n : am_N) {ci idx : Nat} {r : vw_C} (hr : vwCl[ci]? = some r) (h1 : Cond.classLink M.1.cls idx r.1 ∈ am_T) (h2 : Cond.instantiable r.1 r.2.2 ∈ am_T) (h3 : Cond.initialized r.1 ∈ am_T) (hk : kd n = none) (ht : n.1 < 40) (hi0 : ∀ k, iv n k = 0) (hr0 : ∀ k, rv n k = none) (hcu : cu + 1 ≤ R.cells) (hsu : su + r.2.2 ≤ R.slots) (hd : decode M.2.1 pc = .ok (.new idx, 3)) (k : am_W l M R post (pc + 3) ls (am_P n :: st) (am_uk kd n (.inl ci)) rv iv (cu + 1) (su + r.2.2)) : am_W l M R post pc ls st kd rv iv cu su := by
  intro p e s m args below meth c D A ad0 kd0 H locs lsA ad C Rr
  have hL := Rr.2.2.2.2.2.2
  have hts : ∀ w ∈ am_T, w.before args s = true := fun w hw => C.2.2.2.2.2.1 w (List.mem_cons_of_mem _ hw)
  have hKn := C.2.2.2.2.2.2.2.2.1.1.1 ci r hr
  obtain ⟨c1, c2, -, c4⟩ := am_cls_ok ci r hr
  refine W.newcK C.1 C.2.1 C.2.2.2.2.1 (hts _ h1) (hts _ h2) (hts _ h3) rfl hd hcu hsu hKn.2.1 rfl fun H1 kC hkC e1 z1 o1 => ?_
  have hat : am_at D (am_na ad n H.size) rv iv n (.inl ci) H1 := by
    refine ⟨r, hr, ?_⟩
    have e9 : am_na ad n H.size n = H.size := by simp [am_na]
    rw [e9]
    refine (u_born (am_fty ci) hts c1 hKn hkC e1 c2).to (fun k hk => ?_)
    rw [am_dflt (c4 k hk)]
    simp [am_sv, hi0, hr0, va_rf]
  have K := k p e s m args below meth c D A ad0 kd0 H1 locs lsA (am_na ad n H.size) C (Rr.new C.2.2.2.2.2.2.2.2.2 hk ht (fun h => h) hr0 z1 o1 hat hL)
  rw [am_st_eq (K := .inl ci) hk ad H.size hL] at K
  exact K
set_option maxHeartbeats 1000000 in
theorem A_newa (n : am_N) {z : Nat} (h1 : Cond.arrayClass .int ∈ am_T) (hk : kd n = none) (ht : n.1 < 40) (hi0 : ∀ k, iv n k = 0) (hr0 : ∀ k, rv n k = none) {x : Int32} (hx : ¬ x < 0) (hxz : x.toNatClampNeg = z) (hz : z * 4 ≤ 536870912) (hcu : cu + 1 ≤ R.cells) (hsu : su + z ≤ R.slots) (hd : decode M.2.1 pc = .ok (.newarray .int, 2)) (k : am_W l M R post (pc + 2) ls (am_P n :: st) (am_uk kd n (.inr (0, z))) rv iv (cu + 1) (su + z)) : am_W l M R post pc ls (am_I x :: st) kd rv iv cu su := by
  intro p e s m args below meth c D A ad0 kd0 H locs lsA ad C Rr
  have hL := am_l1 Rr.2.2.2.2.2.2
  have hts : ∀ w ∈ am_T, w.before args s = true := fun w hw => C.2.2.2.2.2.1 w (List.mem_cons_of_mem _ hw)
  refine va_newaK (atype := .int) C.1 C.2.1 (hts _ h1) rfl hd rfl hx hxz hz hcu hsu rfl fun H1 cA e1 z1 o1 hAr hNm => ?_
  have hcA : cA = D.2.1 0 := by
    have h := (am_arr C.2.2.2.2.2.2.2.2.1 (t := 0) (by decide)).2
    exact Option.some.inj (hNm.symm.trans h)
  have hat : am_at D (am_na ad n H.size) rv iv n (.inr (0, z)) H1 := by
    have e9 : am_na ad n H.size n = H.size := by simp [am_na]
    refine ⟨fun _ => ?_, ⟨fun h => ?_, fun h => ?_⟩⟩
    · rw [e9, e1, hcA]
      congr 2
      funext j
      simp [am_sv, hi0, am_isr, am_aty]
      rfl
    · simp at h
    · simp at h
  have K := k p e s m args below meth c D A ad0 kd0 H1 locs lsA (am_na ad n H.size) C (Rr.new C.2.2.2.2.2.2.2.2.2 hk ht (fun h => by simp [am_op] at h) hr0 z1 o1 hat hL)
  rw [am_st_eq (K := .inr (0, z)) hk ad H.size hL] at K
  exact K
set_option maxHeartbeats 1000000 in
theorem A_anew (n : am_N) {t z idx : Nat} {C0 : String} (ht5 : t < 5) (hty : am_aty t = .object C0) (hC0 : C0 ∈ [RX3, RX2, RX7, RX5]) (h1 : Cond.classLink M.1.cls idx C0 ∈ am_T) (hk : kd n = none) (ht : n.1 < 40) (hr0 : ∀ k, rv n k = none) {x : Int32} (hx : ¬ x < 0) (hxz : x.toNatClampNeg = z) (hz : z * 4 ≤ 536870912) (hcu : cu + 1 ≤ R.cells) (hsu : su + z ≤ R.slots) (hd : decode M.2.1 pc = .ok (.anewarray idx, 3)) (k : am_W l M R post (pc + 3) ls (am_P n :: st) (am_uk kd n (.inr (t, z))) rv iv (cu + 1) (su + z)) : am_W l M R post pc ls (am_I x :: st) kd rv iv cu su := by
  intro p e s m args below meth c D A ad0 kd0 H locs lsA ad C Rr
  subst hxz
  have hL := am_l1 Rr.2.2.2.2.2.2
  have hts : ∀ w ∈ am_T, w.before args s = true := fun w hw => C.2.2.2.2.2.1 w (List.mem_cons_of_mem _ hw)
  refine W.anew C.1 C.2.1 C.2.2.2.2.1 (hts _ h1) (va_AO.use (C.2.2.2.2.2.2.2.2.1.2.2.1.2.2 C0 hC0)) rfl hd rfl hx hz hcu hsu fun cA kA comp f1 f2 f3 f4 => ?_
  generalize hH1 : H.push ({ cls := cA, slots := Array.replicate x.toNatClampNeg .null, vm := .none } : Cell) = H1
  have z1 : H1.size = H.size + 1 := by rw [← hH1]; simp
  have o1 : ∀ q : Nat, q < H.size → H1[q]? = H[q]? := fun q hq => by rw [← hH1, Array.getElem?_push, if_neg (Nat.ne_of_lt hq)]
  have e1 : H1[H.size]? = some (arrV cA x.toNatClampNeg (fun _ => .null)) := by rw [← hH1, ← arrV_new]; simp
  have hcA : cA = D.2.1 t := by
    have h := (am_arr C.2.2.2.2.2.2.2.2.1 ht5).2
    rw [hty] at h
    obtain ⟨_, _, _, _, _, h4⟩ := h
    exact Option.some.inj (f1.symm.trans h4)
  have hat : am_at D (am_na ad n H.size) rv iv n (.inr (t, x.toNatClampNeg)) H1 := by
    have e9 : am_na ad n H.size n = H.size := by simp [am_na]
    refine ⟨fun _ => ?_, ⟨fun h => ?_, fun h => ?_⟩⟩
    · rw [e9, e1, hcA]
      congr 2
      funext j
      simp [am_sv, hr0, am_isr, hty, va_rf]
    · simp at h; omega
    · simp at h; omega
  have K := k p e s m args below meth c D A ad0 kd0 H1 locs lsA (am_na ad n H.size) C (Rr.new C.2.2.2.2.2.2.2.2.2 hk ht (fun h => by simp [am_op] at h; omega) hr0 z1 o1 hat hL)
  rw [am_st_eq (K := .inr (t, x.toNatClampNeg)) hk ad H.size hL] at K
  exact K
theorem am_aat {D : am_D} {ad : am_N → Nat} {n : am_N} {t z j : Nat} {H1 : Heap} {o : Option am_N} (ht : t < 5) (hr : am_isr (am_aty t) = true) (e1 : H1[ad n]? = some (arrV (D.2.1 t) z (updV (fun j => am_sv ad rv iv (am_isr (am_aty t)) n j) j (va_rf (o.map ad))))) : am_at D ad (am_ur rv n j o) iv n (.inr (t, z)) H1 := by
  refine ⟨fun _ => ?_, ⟨fun h => ?_, fun h => ?_⟩⟩
  · rw [e1]
    congr 2
    funext q
    by_cases hq : q = j
    · subst hq; simp [updV, am_sv, am_ur, hr]
    · simp [updV, am_sv, am_ur, hq]
  · simp at h; omega
  · simp at h; omega
set_option maxHeartbeats 1000000 in
theorem A_aast {n o : am_N} {t z ci : Nat} {r : vw_C} {C0 : String} {i : Int32} (hk : kd n = some (.inr (t, z))) (ht5 : t < 5) (hty : am_aty t = .object C0) (ho : kd o = some (.inl ci)) (hr : vwCl[ci]? = some r) (hsub : r.1 = C0 ∨ (r.1, C0) ∈ am_yc) (hin : vp_in i z) (hd : decode M.2.1 pc = .ok (.aastore, 1)) (k : am_W l M R post (pc + 1) ls st kd (am_ur rv n i.toNatClampNeg (some o)) iv cu su) : am_W l M R post pc ls (am_P o :: am_I i :: am_P n :: st) kd rv iv cu su := by
  intro p e s m args below meth c D A ad0 kd0 H locs lsA ad C Rr
  have hL := Rr.2.2.2.2.2.2
  have hKF := C.2.2.2.2.2.2.2.2.1
  have hlt : i.toNatClampNeg < z := Nat.not_le.mp fun q => hin (Or.inr q)
  have h0 : ¬ i < 0 := fun q => hin (Or.inl q)
  have hne : ¬ am_op (.inr (t, z) : am_K) := by simp only [am_op]; omega
  have hisr : am_isr (am_aty t) = true := by rw [hty]; rfl
  obtain ⟨r', hr', cellV, g1, g2, g3, -⟩ := Rr.1.1 o _ ho
  cases hr.symm.trans hr'
  have hcls := (hKF.1.1 ci r hr).2
  have hra := (am_arr hKF ht5).2
  rw [hty] at hra
  obtain ⟨kA, comp, k1, k2, k3, -⟩ := hra
  obtain ⟨kE, hkE, -⟩ := Vm.findClass_spec k3
  obtain ⟨kC, hkC, -⟩ := hcls.2
  have hasg : s.vm.assignable (D.1.1 ci) comp = true := by
    rcases hsub with h | h
    · have e1 : comp = D.1.1 ci := by rw [← h] at k3; exact Option.some.inj (k3.symm.trans hcls.1)
      rw [e1]; exact va_assign hcls
    · obtain ⟨c1, t1, f1, f2, f3⟩ := hKF.2.2.1.2.1 _ h
      cases hcls.1.symm.trans f1
      cases k3.symm.trans f2
      exact f3
  have hv := (Rr.1.1 n _ hk).1 ht5
  refine W.aast C.1 C.2.1 hv (fun q h => by cases h) (fun h => by cases h) k1 k2 rfl hkE ⟨h0, by rw [arrV_size]; exact hlt⟩ g1 (fun q h => by rw [g3] at h; cases h) (by rw [g2]; exact hkC) (by rw [g2]; exact hasg) rfl rfl hd fun H1 e1 z1 oq => ?_
  rw [arrV_store] at e1
  exact k p e s m args below meth c D A ad0 kd0 H1 _ lsA ad C (Rr.heap (Rr.1.set hk hne oq (am_aat (o := some o) ht5 hisr e1) (fun n' k hn => by simp [am_ur, hn]) (fun _ _ _ => rfl) (fun k o' h => by
    by_cases hj : k = i.toNatClampNeg
    · subst hj; simp [am_ur] at h; subst h; rw [ho]; exact fun h => by cases h
    · simp [am_ur, hj] at h
      exact Rr.1.2.2.1 n k o' (by rw [hk]; exact fun h => by cases h) h)) (Rr.2.2.1.put z1 oq (Rr.2.1 n (by rw [hk]; exact fun h => by cases h) (am_tag Rr.1 hk hne))) (am_l1 (am_l1 (am_l1 hL))))
set_option maxHeartbeats 1000000 in
theorem A_aast0 {n : am_N} {t z : Nat} {C0 : String} {i : Int32} (hk : kd n = some (.inr (t, z))) (ht5 : t < 5) (hty : am_aty t = .object C0) (hin : vp_in i z) (hd : decode M.2.1 pc = .ok (.aastore, 1)) (k : am_W l M R post (pc + 1) ls st kd (am_ur rv n i.toNatClampNeg none) iv cu su) : am_W l M R post pc ls (am_0 :: am_I i :: am_P n :: st) kd rv iv cu su := by
  intro p e s m args below meth c D A ad0 kd0 H locs lsA ad C Rr
  have hL := Rr.2.2.2.2.2.2
  have hKF := C.2.2.2.2.2.2.2.2.1
  have hne : ¬ am_op (.inr (t, z) : am_K) := by simp only [am_op]; omega
  have hisr : am_isr (am_aty t) = true := by rw [hty]; rfl
  have hv := (Rr.1.1 n _ hk).1 ht5
  have hao := (am_arr hKF ht5).1 z (fun j => am_sv ad rv iv (am_isr (am_aty t)) n j)
  rw [hty] at hao
  refine va_WaastN (C := C0) C.1 C.2.1 hv (by rw [← hty] at hao ⊢; exact hao) (fun h => by cases h) (by rw [arrV_size]; exact hin) rfl rfl hd fun H1 e1 z1 oq => ?_
  rw [arrV_store] at e1
  exact k p e s m args below meth c D A ad0 kd0 H1 _ lsA ad C (Rr.heap (Rr.1.set hk hne oq (am_aat (o := none) ht5 hisr e1) (fun n' k hn => by simp [am_ur, hn]) (fun _ _ _ => rfl) (fun k o' h => by
    by_cases hj : k = i.toNatClampNeg
    · subst hj; simp [am_ur] at h
    · simp [am_ur, hj] at h
      exact Rr.1.2.2.1 n k o' (by rw [hk]; exact fun h => by cases h) h)) (Rr.2.2.1.put z1 oq (Rr.2.1 n (by rw [hk]; exact fun h => by cases h) (am_tag Rr.1 hk hne))) (am_l1 (am_l1 (am_l1 hL))))
theorem A_instY {n : am_N} {ci idx : Nat} {r : vw_C} {nm : String} (hcl : Cond.classLink M.1.cls idx nm ∈ am_T) (hk : kd n = some (.inl ci)) (hr : vwCl[ci]? = some r) (hsub : r.1 = nm ∨ (r.1, nm) ∈ am_yc) (hd : decode M.2.1 pc = .ok (.instanceof idx, 3)) (k : am_W l M R post (pc + 3) ls (am_I 1 :: st) kd rv iv cu su) : am_W l M R post pc ls (am_P n :: st) kd rv iv cu su := by
  intro p e s m args below meth c D A ad0 kd0 H locs lsA ad C Rr
  have hL := Rr.2.2.2.2.2.2
  have hKF := C.2.2.2.2.2.2.2.2.1
  have hts : ∀ w ∈ am_T, w.before args s = true := fun w hw => C.2.2.2.2.2.1 w (List.mem_cons_of_mem _ hw)
  obtain ⟨cell, h1, h2, h3⟩ := am_recv hKF Rr.1 hk hr
  have K := k p e s m args below meth c D A ad0 kd0 H locs lsA ad C (Rr.stk (am_l0 (am_l1 hL)))
  have hcls := (hKF.1.1 ci r hr).2
  have hf : ∃ t1, s.vm.findClass nm = some t1 ∧ s.vm.assignable cell.cls t1 = true := by
    have ec : cell.cls = D.1.1 ci := Option.some.inj (h3.symm.trans hcls.1)
    rcases hsub with h | h
    · exact ⟨D.1.1 ci, by rw [← h]; exact hcls.1, by rw [ec]; exact va_assign hcls⟩
    · obtain ⟨c1, t1, f1, f2, f3⟩ := hKF.2.2.1.2.1 _ h
      cases h3.symm.trans f1
      exact ⟨t1, f2, f3⟩
  obtain ⟨t1, f2, f3⟩ := hf
  intro T hT X
  obtain ⟨vm', X', st'⟩ := X.instanceofYes C.1 C.2.2.2.2.1 (hts _ hcl) (by rw [hT]; exact h1) h2 f2 f3 (g := F0 m pc lsA (.ref (ad n) :: st.map (am_cv ad))) rfl rfl (by rw [C.2.1]; exact hd)
  obtain ⟨t, a1, b1⟩ := K (T.setVm vm') hT X'
  exact ⟨t, st' t a1, b1⟩
theorem A_instN {n : am_N} {ci idx : Nat} {r : vw_C} {nm : String} (hcl : Cond.classLink M.1.cls idx nm ∈ am_T) (hk : kd n = some (.inl ci)) (hr : vwCl[ci]? = some r) (hno : (r.1, nm) ∈ am_nc) (hd : decode M.2.1 pc = .ok (.instanceof idx, 3)) (k : am_W l M R post (pc + 3) ls (am_I 0 :: st) kd rv iv cu su) : am_W l M R post pc ls (am_P n :: st) kd rv iv cu su := by
  intro p e s m args below meth c D A ad0 kd0 H locs lsA ad C Rr
  have hL := Rr.2.2.2.2.2.2
  have hKF := C.2.2.2.2.2.2.2.2.1
  have hts : ∀ w ∈ am_T, w.before args s = true := fun w hw => C.2.2.2.2.2.1 w (List.mem_cons_of_mem _ hw)
  exact va_instNo C.1 C.2.1 C.2.2.2.2.1 (hts _ hcl) (hKF.2.2.1.1 _ hno) (am_recv hKF Rr.1 hk hr) hd (k p e s m args below meth c D A ad0 kd0 H locs lsA ad C (Rr.stk (am_l0 (am_l1 hL))))
end AN
end
section
theorem am_tT {w : Cond} (i : Nat) (h : lw_tbl[i]? = some w ∧ goodWord w = true) : w ∈ am_T := List.mem_filter.mpr ⟨List.mem_of_getElem? h.1, h.2⟩
theorem am_tC {w : Cond} (h : w ∈ lw_tbl) (g : goodWord w = true) : w ∈ am_T := List.mem_filter.mpr ⟨h, g⟩
theorem am_in1 : ∀ w ∈ tables_1_1, w ∈ lw_tbl := fun w h => List.mem_append_right _ (List.mem_append_left _ h)
theorem am_in2 : ∀ w ∈ tables_1_2, w ∈ lw_tbl := fun w h => List.mem_append_right _ (List.mem_append_right _ (List.mem_append_left _ h))
theorem am_in3 : ∀ w ∈ tables_1_3, w ∈ lw_tbl := fun w h => List.mem_append_right _ (List.mem_append_right _ (List.mem_append_right _ (List.mem_append_left _ h)))
theorem am_in4 : ∀ w ∈ tables_1_4, w ∈ lw_tbl := fun w h => List.mem_append_right _ (List.mem_append_right _ (List.mem_append_right _ (List.mem_append_right _ (List.mem_append_left _ h))))
theorem am_in5 : ∀ w ∈ tables_1_5, w ∈ lw_tbl := fun w h => List.mem_append_right _ (List.mem_append_right _ (List.mem_append_right _ (List.mem_append_right _ (List.mem_append_right _ (List.mem_append_left _ h)))))
theorem am_in6 : ∀ w ∈ tables_1_6, w ∈ lw_tbl := fun w h => List.mem_append_right _ (List.mem_append_right _ (List.mem_append_right _ (List.mem_append_right _ (List.mem_append_right _ (List.mem_append_right _ (List.mem_append_left _ h))))))
theorem am_in7 : ∀ w ∈ tables_1_7, w ∈ lw_tbl := fun w h => List.mem_append_right _ (List.mem_append_right _ (List.mem_append_right _ (List.mem_append_right _ (List.mem_append_right _ (List.mem_append_right _ (List.mem_append_right _ (h)))))))
abbrev mX0_init : am_M := (yX0_init, prog_2_method_1_code, 4, none)
abbrev mX0_widens : am_M := (yX0_widens, prog_2_method_2_code, 3, (some .int))
abbrev mX0_ends : am_M := (yX0_ends, prog_2_method_3_code, 3, (some .int))
abbrev mX1_init : am_M := (yX1_init, prog_3_method_1_code, 3, none)
abbrev mX1_endsBy : am_M := (yX1_endsBy, prog_3_method_2_code, 3, (some .boolean))
abbrev mX1_goes : am_M := (yX1_goes, prog_3_method_3_code, 3, (some .int))
abbrev mX2_init : am_M := (yX2_init, prog_4_method_1_code, 4, none)
abbrev mX2_pull : am_M := (yX2_pull, prog_4_method_2_code, 3, (some .int))
abbrev mX2_widens : am_M := (yX2_widens, prog_4_method_3_code, 4, (some .int))
abbrev mX2_spreads : am_M := (yX2_spreads, prog_4_method_4_code, 3, (some .int))
abbrev mX2_lifts : am_M := (yX2_lifts, prog_4_method_5_code, 3, (some .int))
abbrev mX2_endsBy : am_M := (yX2_endsBy, prog_4_method_6_code, 3, (some .boolean))
abbrev mX2_goes : am_M := (yX2_goes, prog_4_method_7_code, 3, (some .int))
abbrev mX2_moves : am_M := (yX2_moves, prog_4_method_8_code, 3, (some .int))
abbrev mX2_ends : am_M := (yX2_ends, prog_4_method_9_code, 3, (some .int))
abbrev mX2_tells : am_M := (yX2_tells, prog_4_method_10_code, 3, (some .int))
abbrev mX3_init : am_M := (yX3_init, prog_5_method_1_code, 2, none)
abbrev mX3_become : am_M := (yX3_become, prog_5_method_2_code, 2, none)
abbrev mX3_pace : am_M := (yX3_pace, prog_5_method_3_code, 3, (some .int))
abbrev mX3_trait : am_M := (yX3_trait, prog_5_method_4_code, 2, (some .int))
abbrev mX3_gap : am_M := (yX3_gap, prog_5_method_5_code, 2, (some .int))
abbrev mX3_isNear : am_M := (yX3_isNear, prog_5_method_6_code, 2, (some .boolean))
abbrev mX3_isBehind : am_M := (yX3_isBehind, prog_5_method_7_code, 2, (some .boolean))
abbrev mX4_init : am_M := (yX4_init, prog_6_method_1_code, 2, none)
abbrev mX4_become : am_M := (yX4_become, prog_6_method_2_code, 3, none)
abbrev mX4_takeRings : am_M := (yX4_takeRings, prog_6_method_3_code, 3, none)
abbrev mX4_isFull : am_M := (yX4_isFull, prog_6_method_4_code, 1, (some .boolean))
abbrev mX4_hasRing : am_M := (yX4_hasRing, prog_6_method_5_code, 2, (some .boolean))
abbrev mX4_hasLaw : am_M := (yX4_hasLaw, prog_6_method_6_code, 2, (some .boolean))
abbrev mX4_isOn : am_M := (yX4_isOn, prog_6_method_7_code, 2, (some .boolean))
abbrev mX4_lawOn : am_M := (yX4_lawOn, prog_6_method_8_code, 2, (some (.object "SmokeRings$Law")))
abbrev mX4_addRing : am_M := (yX4_addRing, prog_6_method_9_code, 9, (some .int))
abbrev mX4_addStroke : am_M := (yX4_addStroke, prog_6_method_10_code, 3, (some .int))
abbrev mX4_addLaw : am_M := (yX4_addLaw, prog_6_method_11_code, 3, (some .int))
abbrev mX4_trailing : am_M := (yX4_trailing, prog_6_method_12_code, 2, (some .int))
abbrev mX4_given : am_M := (yX4_given, prog_6_method_13_code, 7, (some .int))
abbrev mX4_foremost : am_M := (yX4_foremost, prog_6_method_14_code, 3, (some .int))
abbrev mX4_wholeCount : am_M := (yX4_wholeCount, prog_6_method_15_code, 3, (some .int))
abbrev mX4_changesOfFront : am_M := (yX4_changesOfFront, prog_6_method_16_code, 7, (some .int))
abbrev mX4_greatestX : am_M := (yX4_greatestX, prog_6_method_17_code, 6, (some .int))
abbrev mX4_tick : am_M := (yX4_tick, prog_6_method_18_code, 2, none)
abbrev mX4_blow : am_M := (yX4_blow, prog_6_method_19_code, 3, none)
abbrev mX4_advance : am_M := (yX4_advance, prog_6_method_20_code, 6, none)
abbrev mX4_widen : am_M := (yX4_widen, prog_6_method_21_code, 7, none)
abbrev mX4_isOther : am_M := (yX4_isOther, prog_6_method_22_code, 2, (some .boolean))
abbrev mX4_endIfDue : am_M := (yX4_endIfDue, prog_6_method_23_code, 6, none)
abbrev mX4_endingLaw : am_M := (yX4_endingLaw, prog_6_method_24_code, 5, (some (.object "SmokeRings$Law")))
abbrev mX4_settle : am_M := (yX4_settle, prog_6_method_25_code, 2, none)
abbrev mX5_init : am_M := (yX5_init, prog_7_method_1_code, 2, none)
abbrev mX5_become : am_M := (yX5_become, prog_7_method_2_code, 2, none)
abbrev mX5_add : am_M := (yX5_add, prog_7_method_3_code, 2, none)
abbrev mX5_has : am_M := (yX5_has, prog_7_method_4_code, 2, (some .boolean))
abbrev mX5_stands : am_M := (yX5_stands, prog_7_method_5_code, 3, (some .boolean))
abbrev mX5_begin : am_M := (yX5_begin, prog_7_method_6_code, 3, none)
abbrev mX5_write : am_M := (yX5_write, prog_7_method_7_code, 3, none)
abbrev mX6_init : am_M := (yX6_init, prog_8_method_1_code, 3, none)
abbrev mX6_spreads : am_M := (yX6_spreads, prog_8_method_2_code, 3, (some .int))
abbrev mX6_lifts : am_M := (yX6_lifts, prog_8_method_3_code, 3, (some .int))
abbrev mX6_ends : am_M := (yX6_ends, prog_8_method_4_code, 3, (some .int))
abbrev mX6_tells : am_M := (yX6_tells, prog_8_method_5_code, 3, (some .int))
abbrev mX7_init : am_M := (yX7_init, prog_9_method_1_code, 1, none)
abbrev mX7_become : am_M := (yX7_become, prog_9_method_2_code, 2, none)
abbrev mX7_read : am_M := (yX7_read, prog_9_method_3_code, 6, (some .int))
abbrev mX7_takesOperand : am_M := (yX7_takesOperand, prog_9_method_4_code, 4, (some .boolean))
abbrev mX7_takesOperator : am_M := (yX7_takesOperator, prog_9_method_5_code, 3, (some .boolean))
abbrev mX7_takesDigit : am_M := (yX7_takesDigit, prog_9_method_6_code, 2, (some .boolean))
abbrev mX7_takesClose : am_M := (yX7_takesClose, prog_9_method_7_code, 1, (some .boolean))
abbrev mX7_isComplete : am_M := (yX7_isComplete, prog_9_method_8_code, 1, (some .boolean))
abbrev mX7_popAbove : am_M := (yX7_popAbove, prog_9_method_9_code, 3, none)
abbrev mX7_pop : am_M := (yX7_pop, prog_9_method_10_code, 1, none)
abbrev mX7_push : am_M := (yX7_push, prog_9_method_11_code, 2, none)
abbrev mX7_append : am_M := (yX7_append, prog_9_method_12_code, 2, none)
abbrev mX7_value : am_M := (yX7_value, prog_9_method_13_code, 6, (some .int))
abbrev mX7_result : am_M := (yX7_result, prog_9_method_14_code, 3, (some .int))
abbrev mX7_rank : am_M := (yX7_rank, prog_9_method_15_code, 1, (some .int))
abbrev mX7_isDigit : am_M := (yX7_isDigit, prog_9_method_16_code, 1, (some .boolean))
abbrev mX8_init : am_M := (yX8_init, prog_10_method_1_code, 3, none)
abbrev mX8_widens : am_M := (yX8_widens, prog_10_method_2_code, 4, (some .int))
abbrev mX8_moves : am_M := (yX8_moves, prog_10_method_3_code, 3, (some .int))
abbrev mX9_init : am_M := (yX9_init, prog_11_method_1_code, 3, none)
abbrev mX9_endsBy : am_M := (yX9_endsBy, prog_11_method_2_code, 3, (some .boolean))
abbrev mX9_goes : am_M := (yX9_goes, prog_11_method_3_code, 3, (some .int))
abbrev mX9_tells : am_M := (yX9_tells, prog_11_method_4_code, 3, (some .int))
abbrev mX10_init : am_M := (yX10_init, prog_12_method_1_code, 4, none)
abbrev mX10_widens : am_M := (yX10_widens, prog_12_method_2_code, 3, (some .int))
abbrev mX10_spreads : am_M := (yX10_spreads, prog_12_method_3_code, 4, (some .int))
abbrev mX10_moves : am_M := (yX10_moves, prog_12_method_4_code, 3, (some .int))
abbrev mX11_init : am_M := (yX11_init, prog_1_method_1_code, 2, none)
abbrev mX11_ring : am_M := (yX11_ring, prog_1_method_2_code, 9, (some .int))
abbrev mX11_ofRing : am_M := (yX11_ofRing, prog_1_method_3_code, 3, (some .int))
abbrev mX11_end : am_M := (yX11_end, prog_1_method_4_code, 3, (some .int))
abbrev mX11_wall : am_M := (yX11_wall, prog_1_method_5_code, 3, (some .int))
abbrev mX11_law : am_M := (yX11_law, prog_1_method_6_code, 3, (some .int))
abbrev mX11_ofLaw : am_M := (yX11_ofLaw, prog_1_method_7_code, 3, (some .int))
abbrev mX11_as : am_M := (yX11_as, prog_1_method_8_code, 3, (some .int))
abbrev mX11_turn : am_M := (yX11_turn, prog_1_method_9_code, 4, (some .int))
abbrev mX11_does : am_M := (yX11_does, prog_1_method_10_code, 8, (some .int))
abbrev mX11_pair : am_M := (yX11_pair, prog_1_method_11_code, 6, (some .int))
abbrev mX11_hole : am_M := (yX11_hole, prog_1_method_12_code, 3, (some .int))
abbrev mX11_stroke : am_M := (yX11_stroke, prog_1_method_13_code, 3, (some .int))
abbrev mX11_trails : am_M := (yX11_trails, prog_1_method_14_code, 2, (some .int))
abbrev mX11_feed : am_M := (yX11_feed, prog_1_method_15_code, 5, (some .int))
abbrev mX11_text : am_M := (yX11_text, prog_1_method_16_code, 3, (some .int))
abbrev mX11_gives : am_M := (yX11_gives, prog_1_method_17_code, 5, (some .int))
abbrev mX11_ticks : am_M := (yX11_ticks, prog_1_method_18_code, 2, (some .int))
abbrev mX11_breeze : am_M := (yX11_breeze, prog_1_method_19_code, 2, (some .int))
abbrev mX11_front : am_M := (yX11_front, prog_1_method_20_code, 2, (some .int))
abbrev mX11_then : am_M := (yX11_then, prog_1_method_21_code, 4, (some .int))
abbrev mX11_whole : am_M := (yX11_whole, prog_1_method_22_code, 2, (some .int))
abbrev mX11_turns : am_M := (yX11_turns, prog_1_method_23_code, 2, (some .int))
abbrev mX11_far : am_M := (yX11_far, prog_1_method_24_code, 3, (some .int))
abbrev mX11_knock : am_M := (yX11_knock, prog_1_method_25_code, 6, (some .int))
abbrev mX11_farthest : am_M := (yX11_farthest, prog_1_method_26_code, 9, (some .int))
abbrev mX11_second : am_M := (yX11_second, prog_1_method_27_code, 5, (some .int))
abbrev mX11_alike : am_M := (yX11_alike, prog_1_method_28_code, 6, (some .int))
abbrev mX11_off : am_M := (yX11_off, prog_1_method_29_code, 3, (some .int))
abbrev mX11_spun : am_M := (yX11_spun, prog_1_method_30_code, 7, (some .int))
abbrev mX11_made : am_M := (yX11_made, prog_1_method_31_code, 7, (some .int))
abbrev mX11_heart : am_M := (yX11_heart, prog_1_method_32_code, 8, (some .int))
abbrev mX11_seed : am_M := (yX11_seed, prog_1_method_33_code, 3, (some .int))
abbrev mX11_voice : am_M := (yX11_voice, prog_1_method_34_code, 5, (some .int))
abbrev mX11_trace : am_M := (yX11_trace, prog_1_method_35_code, 2, (some .int))
abbrev mX11_sheet : am_M := (yX11_sheet, prog_1_method_36_code, 4, (some .int))
abbrev mX11_put : am_M := (yX11_put, prog_1_method_37_code, 4, (some .int))
abbrev mX11_move : am_M := (yX11_move, prog_1_method_38_code, 8, (some .int))
abbrev mX11_film : am_M := (yX11_film, prog_1_method_39_code, 6, (some .int))
abbrev mX11_image : am_M := (yX11_image, prog_1_method_40_code, 1, (some .int))
abbrev mX11_restore : am_M := (yX11_restore, prog_1_method_41_code, 1, (some .int))
abbrev mX11_tell : am_M := (yX11_tell, prog_1_method_42_code, 2, (some .int))
abbrev mX11_check : am_M := (yX11_check, prog_1_method_43_code, 3, (some .int))
abbrev mX11_count : am_M := (yX11_count, prog_1_method_44_code, 2, (some .int))
abbrev mX11_told : am_M := (yX11_told, prog_1_method_45_code, 2, (some .int))
abbrev mX11_error : am_M := (yX11_error, prog_1_method_46_code, 3, (some .int))
abbrev mX11_pass : am_M := (yX11_pass, prog_1_method_47_code, 4, (some .int))
abbrev mX11_goAhead : am_M := (yX11_goAhead, prog_1_method_48_code, 3, none)
abbrev mX11_checked : am_M := (yX11_checked, prog_1_method_49_code, 4, (some .int))
abbrev mX11_filmError : am_M := (yX11_filmError, prog_1_method_50_code, 2, (some .int))
abbrev mX11_offBy : am_M := (yX11_offBy, prog_1_method_51_code, 8, (some .int))
abbrev mX11_isMissing : am_M := (yX11_isMissing, prog_1_method_52_code, 2, (some .boolean))
abbrev mX11_isSheet : am_M := (yX11_isSheet, prog_1_method_53_code, 1, (some .boolean))
abbrev mX11_isAhead : am_M := (yX11_isAhead, prog_1_method_54_code, 1, (some .boolean))
abbrev mX11_isHeld : am_M := (yX11_isHeld, prog_1_method_55_code, 3, (some .boolean))
abbrev mX11_held : am_M := (yX11_held, prog_1_method_56_code, 3, (some .int))
abbrev mX11_asBit : am_M := (yX11_asBit, prog_1_method_57_code, 1, (some .int))
abbrev mX11_quotient : am_M := (yX11_quotient, prog_1_method_58_code, 2, (some .int))
abbrev mX11_makeLaw : am_M := (yX11_makeLaw, prog_1_method_59_code, 3, (some (.object "SmokeRings$Law")))
abbrev mX11_isOfKind : am_M := (yX11_isOfKind, prog_1_method_60_code, 2, (some .boolean))
abbrev mX12_init : am_M := (yX12_init, prog_14_method_1_code, 1, none)
abbrev mX12_finds : am_M := (yX12_finds, prog_14_method_3_code, 2, (some .int))
abbrev mX12_in : am_M := (yX12_in, prog_14_method_4_code, 6, (some .boolean))
abbrev mX12_held : am_M := (yX12_held, prog_14_method_5_code, 4, (some .int))
abbrev mX12_copies : am_M := (yX12_copies, prog_14_method_6_code, 3, none)
abbrev mX12_isRing : am_M := (yX12_isRing, prog_14_method_7_code, 2, (some .boolean))
abbrev mX12_isLaw : am_M := (yX12_isLaw, prog_14_method_8_code, 2, (some .boolean))
abbrev mX12_of : am_M := (yX12_of, prog_14_method_9_code, 3, (some .int))
abbrev mX12_isWhole : am_M := (yX12_isWhole, prog_14_method_10_code, 2, (some .boolean))
abbrev mX12_adds : am_M := (yX12_adds, prog_14_method_11_code, 8, (some .int))
abbrev mX12_ring : am_M := (yX12_ring, prog_14_method_12_code, 8, (some .int))
abbrev mX12_paceOf : am_M := (yX12_paceOf, prog_14_method_13_code, 4, (some .int))
abbrev mX12_ofRing : am_M := (yX12_ofRing, prog_14_method_14_code, 3, (some .int))
abbrev mX12_end : am_M := (yX12_end, prog_14_method_15_code, 3, (some .int))
abbrev mX12_wall : am_M := (yX12_wall, prog_14_method_16_code, 3, (some .int))
abbrev mX12_law : am_M := (yX12_law, prog_14_method_17_code, 3, (some .int))
abbrev mX12_ofLaw : am_M := (yX12_ofLaw, prog_14_method_18_code, 3, (some .int))
abbrev mX12_isOf : am_M := (yX12_isOf, prog_14_method_19_code, 2, (some .boolean))
abbrev mX12_as : am_M := (yX12_as, prog_14_method_20_code, 3, (some .int))
abbrev mX12_turn : am_M := (yX12_turn, prog_14_method_21_code, 4, (some .int))
abbrev mX12_apart : am_M := (yX12_apart, prog_14_method_22_code, 2, (some .int))
abbrev mX12_gap : am_M := (yX12_gap, prog_14_method_23_code, 3, (some .int))
abbrev mX12_areNear : am_M := (yX12_areNear, prog_14_method_24_code, 3, (some .boolean))
abbrev mX12_isBehind : am_M := (yX12_isBehind, prog_14_method_25_code, 5, (some .boolean))
abbrev mX12_widens : am_M := (yX12_widens, prog_14_method_26_code, 8, (some .int))
abbrev mX12_spreads : am_M := (yX12_spreads, prog_14_method_27_code, 6, (some .int))
abbrev mX12_lifts : am_M := (yX12_lifts, prog_14_method_28_code, 3, (some .int))
abbrev mX12_doesEnd : am_M := (yX12_doesEnd, prog_14_method_29_code, 4, (some .boolean))
abbrev mX12_does : am_M := (yX12_does, prog_14_method_30_code, 5, (some .int))
abbrev mX12_pair : am_M := (yX12_pair, prog_14_method_31_code, 4, (some .int))
abbrev mX12_here : am_M := (yX12_here, prog_14_method_32_code, 1, (some .int))
abbrev mX12_wrong : am_M := (yX12_wrong, prog_14_method_33_code, 1, (some .int))
abbrev mX12_takes : am_M := (yX12_takes, prog_14_method_34_code, 2, (some .boolean))
abbrev mX12_nameOf : am_M := (yX12_nameOf, prog_14_method_35_code, 2, (some .int))
abbrev mX12_either : am_M := (yX12_either, prog_14_method_36_code, 3, (some .int))
abbrev mX12_both : am_M := (yX12_both, prog_14_method_37_code, 3, (some .int))
abbrev mX12_compared : am_M := (yX12_compared, prog_14_method_38_code, 4, (some .int))
abbrev mX12_sum : am_M := (yX12_sum, prog_14_method_39_code, 4, (some .int))
abbrev mX12_product : am_M := (yX12_product, prog_14_method_40_code, 4, (some .int))
abbrev mX12_unit : am_M := (yX12_unit, prog_14_method_41_code, 5, (some .int))
abbrev mX12_worked : am_M := (yX12_worked, prog_14_method_42_code, 5, (some .int))
abbrev mX12_feed : am_M := (yX12_feed, prog_14_method_43_code, 5, (some .int))
abbrev mX12_text : am_M := (yX12_text, prog_14_method_44_code, 5, (some .int))
abbrev mX12_givesOf : am_M := (yX12_givesOf, prog_14_method_45_code, 5, (some .int))
abbrev mX12_gives : am_M := (yX12_gives, prog_14_method_46_code, 5, (some .int))
abbrev mX12_hole : am_M := (yX12_hole, prog_14_method_47_code, 3, (some .int))
abbrev mX12_strokes : am_M := (yX12_strokes, prog_14_method_48_code, 4, (some .int))
abbrev mX12_stroke : am_M := (yX12_stroke, prog_14_method_49_code, 3, (some .int))
abbrev mX12_trailsOf : am_M := (yX12_trailsOf, prog_14_method_50_code, 2, (some .int))
abbrev mX12_trails : am_M := (yX12_trails, prog_14_method_51_code, 2, (some .int))
abbrev mX12_goesOn : am_M := (yX12_goesOn, prog_14_method_52_code, 8, none)
abbrev mX12_lawThatEnds : am_M := (yX12_lawThatEnds, prog_14_method_53_code, 5, (some .int))
abbrev mX12_mayEnd : am_M := (yX12_mayEnd, prog_14_method_54_code, 5, none)
abbrev mX12_goesBy : am_M := (yX12_goesBy, prog_14_method_55_code, 4, none)
abbrev mX12_goesAhead : am_M := (yX12_goesAhead, prog_14_method_56_code, 4, none)
abbrev mX12_ticks : am_M := (yX12_ticks, prog_14_method_57_code, 2, (some .int))
abbrev mX12_breeze : am_M := (yX12_breeze, prog_14_method_58_code, 4, (some .int))
abbrev mX12_frontOf : am_M := (yX12_frontOf, prog_14_method_59_code, 3, (some .int))
abbrev mX12_front : am_M := (yX12_front, prog_14_method_60_code, 2, (some .int))
abbrev mX12_isAhead : am_M := (yX12_isAhead, prog_14_method_61_code, 1, (some .boolean))
abbrev mX12_ahead : am_M := (yX12_ahead, prog_14_method_62_code, 2, none)
abbrev mX12_then : am_M := (yX12_then, prog_14_method_63_code, 4, (some .int))
abbrev mX12_wholeIn : am_M := (yX12_wholeIn, prog_14_method_64_code, 3, (some .int))
abbrev mX12_whole : am_M := (yX12_whole, prog_14_method_65_code, 2, (some .int))
abbrev mX12_turnsIn : am_M := (yX12_turnsIn, prog_14_method_66_code, 7, (some .int))
abbrev mX12_turns : am_M := (yX12_turns, prog_14_method_67_code, 2, (some .int))
abbrev mX12_farIn : am_M := (yX12_farIn, prog_14_method_68_code, 6, (some .int))
abbrev mX12_far : am_M := (yX12_far, prog_14_method_69_code, 3, (some .int))
abbrev mX12_knock : am_M := (yX12_knock, prog_14_method_70_code, 5, (some .int))
abbrev mX12_farthest : am_M := (yX12_farthest, prog_14_method_71_code, 10, (some .int))
abbrev mX12_second : am_M := (yX12_second, prog_14_method_72_code, 6, (some .int))
abbrev mX12_alike : am_M := (yX12_alike, prog_14_method_73_code, 6, (some .int))
abbrev mX12_offIn : am_M := (yX12_offIn, prog_14_method_74_code, 9, (some .int))
abbrev mX12_whyNoFilm : am_M := (yX12_whyNoFilm, prog_14_method_75_code, 2, (some .int))
abbrev mX12_off : am_M := (yX12_off, prog_14_method_76_code, 3, (some .int))
abbrev mX12_spun : am_M := (yX12_spun, prog_14_method_77_code, 7, (some .int))
abbrev mX12_made : am_M := (yX12_made, prog_14_method_78_code, 7, (some .int))
abbrev mX12_heart : am_M := (yX12_heart, prog_14_method_79_code, 7, (some .int))
abbrev mX12_seed : am_M := (yX12_seed, prog_14_method_80_code, 3, (some .int))
abbrev mX12_ran : am_M := (yX12_ran, prog_14_method_81_code, 2, none)
abbrev mX12_above : am_M := (yX12_above, prog_14_method_82_code, 1, (some .int))
abbrev mX12_own : am_M := (yX12_own, prog_14_method_83_code, 1, (some .int))
abbrev mX12_toldM : am_M := (yX12_toldM, prog_14_method_84_code, 1, (some .int))
abbrev mX12_goes : am_M := (yX12_goes, prog_14_method_85_code, 3, (some .int))
abbrev mX12_moves : am_M := (yX12_moves, prog_14_method_86_code, 4, (some .int))
abbrev mX12_ends : am_M := (yX12_ends, prog_14_method_87_code, 3, (some .int))
abbrev mX12_tells : am_M := (yX12_tells, prog_14_method_88_code, 4, (some .int))
abbrev mX12_voice : am_M := (yX12_voice, prog_14_method_89_code, 5, (some .int))
abbrev mX12_trace : am_M := (yX12_trace, prog_14_method_90_code, 2, (some .int))
abbrev mX12_isSheet : am_M := (yX12_isSheet, prog_14_method_91_code, 1, (some .boolean))
abbrev mX12_sheet : am_M := (yX12_sheet, prog_14_method_92_code, 5, (some .int))
abbrev mX12_put : am_M := (yX12_put, prog_14_method_93_code, 4, (some .int))
abbrev mX12_move : am_M := (yX12_move, prog_14_method_94_code, 7, (some .int))
abbrev mX12_film : am_M := (yX12_film, prog_14_method_95_code, 5, (some .int))
abbrev mX12_image : am_M := (yX12_image, prog_14_method_96_code, 1, (some .int))
abbrev mX12_restore : am_M := (yX12_restore, prog_14_method_97_code, 1, (some .int))
abbrev mX12_tell : am_M := (yX12_tell, prog_14_method_98_code, 2, (some .int))
abbrev mX12_check : am_M := (yX12_check, prog_14_method_99_code, 5, (some .int))
abbrev mX12_count : am_M := (yX12_count, prog_14_method_100_code, 2, (some .int))
abbrev mX12_told : am_M := (yX12_told, prog_14_method_101_code, 2, (some .int))
abbrev mJ11_isValidCodePoint_9a6ad : am_M := (yJ11_isValidCodePoint_9a6ad, prog_15_method_11_code, 2, (some .boolean))
abbrev mJ11_highSurrogate_5068e : am_M := (yJ11_highSurrogate_5068e, prog_15_method_28_code, 1, (some .char))
abbrev mJ11_lowSurrogate_5068e : am_M := (yJ11_lowSurrogate_5068e, prog_15_method_29_code, 1, (some .char))
abbrev mJ9_abs_0f7a4 : am_M := (yJ9_abs_0f7a4, prog_16_method_59_code, 1, (some .int))
abbrev mJ9_abs_067f4 : am_M := (yJ9_abs_067f4, prog_16_method_61_code, 2, (some .long))
abbrev mJ9_max_7cf53 : am_M := (yJ9_max_7cf53, prog_16_method_65_code, 2, (some .int))
abbrev mJ9_min_7cf53 : am_M := (yJ9_min_7cf53, prog_16_method_69_code, 2, (some .int))
abbrev mJ9_min_f86c9 : am_M := (yJ9_min_f86c9, prog_16_method_70_code, 4, (some .long))
abbrev mJ0_length_8abf5 : am_M := (yJ0_length_8abf5, prog_17_method_54_code, 1, (some .int))
abbrev mJ0_indexOf_0f7a4 : am_M := (yJ0_indexOf_0f7a4, prog_17_method_79_code, 2, (some .int))
abbrev mJ0_indexOf_7cf53 : am_M := (yJ0_indexOf_7cf53, prog_17_method_80_code, 3, (some .int))
abbrev mJ0_coder_7d493 : am_M := (yJ0_coder_7d493, prog_17_method_152_code, 1, (some .byte))
abbrev mJ0_isLatin1_aae02 : am_M := (yJ0_isLatin1_aae02, prog_17_method_154_code, 1, (some .boolean))
abbrev mJ0_checkBoundsBeginEnd_23922 : am_M := (yJ0_checkBoundsBeginEnd_23922, prog_17_method_158_code, 3, none)
abbrev mJ1_canEncode_9a6ad : am_M := (yJ1_canEncode_9a6ad, prog_18_method_4_code, 1, (some .boolean))
abbrev mJ1_indexOf_4cfef : am_M := (yJ1_indexOf_4cfef, prog_18_method_22_code, 4, (some .int))
abbrev mJ1_indexOfChar_4cfef : am_M := (yJ1_indexOfChar_4cfef, prog_18_method_23_code, 6, (some .int))
abbrev mJ2_getChar_3b067 : am_M := (yJ2_getChar_3b067, prog_19_method_5_code, 2, (some .char))
abbrev mJ2_length_9d52b : am_M := (yJ2_length_9d52b, prog_19_method_6_code, 1, (some .int))
abbrev mJ2_indexOf_4cfef : am_M := (yJ2_indexOf_4cfef, prog_19_method_40_code, 4, (some .int))
abbrev mJ2_indexOfChar_4cfef : am_M := (yJ2_indexOfChar_4cfef, prog_19_method_47_code, 4, (some .int))
abbrev mJ2_indexOfCharUnsafe_4cfef : am_M := (yJ2_indexOfCharUnsafe_4cfef, prog_19_method_48_code, 5, (some .int))
abbrev mJ2_indexOfSupplementary_4cfef : am_M := (yJ2_indexOfSupplementary_4cfef, prog_19_method_49_code, 7, (some .int))
abbrev mJ2_checkBoundsBeginEnd_d044e : am_M := (yJ2_checkBoundsBeginEnd_d044e, prog_19_method_93_code, 3, none)
abbrev mJ7_fill_53178 : am_M := (yJ7_fill_53178, prog_21_method_103_code, 4, none)
abbrev mJ3_checkFromToIndex_8c36e : am_M := (yJ3_checkFromToIndex_8c36e, prog_22_method_12_code, 4, (some .int))
abbrev mL_law : am_M := (yL_law, code, 4, some .boolean)
set_option maxRecDepth 100000 in
theorem ce_X0_init : am_Ce mX0_init 3 := ⟨(am_tC (am_in2 _ (List.mem_of_getElem? (i := 96) rfl)) rfl), (am_tT 67 (by decide +kernel)), by decide +kernel⟩
set_option maxRecDepth 100000 in
theorem ce_X0_widens : am_Ce mX0_widens 2 := ⟨(am_tC (am_in2 _ (List.mem_of_getElem? (i := 210) rfl)) rfl), (am_tT 67 (by decide +kernel)), by decide +kernel⟩
set_option maxRecDepth 100000 in
theorem ce_X0_ends : am_Ce mX0_ends 2 := ⟨(am_tC (am_in4 _ (List.mem_of_getElem? (i := 226) rfl)) rfl), (am_tT 67 (by decide +kernel)), by decide +kernel⟩
set_option maxRecDepth 100000 in
theorem ce_X1_init : am_Ce mX1_init 2 := ⟨(am_tC (am_in2 _ (List.mem_of_getElem? (i := 86) rfl)) rfl), (am_tT 66 (by decide +kernel)), by decide +kernel⟩
set_option maxRecDepth 100000 in
theorem ce_X1_endsBy : am_Ce mX1_endsBy 2 := ⟨(am_tC (am_in3 _ (List.mem_of_getElem? (i := 12) rfl)) rfl), (am_tT 66 (by decide +kernel)), by decide +kernel⟩
set_option maxRecDepth 100000 in
theorem ce_X1_goes : am_Ce mX1_goes 2 := ⟨(am_tC (am_in4 _ (List.mem_of_getElem? (i := 183) rfl)) rfl), (am_tT 66 (by decide +kernel)), by decide +kernel⟩
set_option maxRecDepth 100000 in
theorem ce_X2_init : am_Ce mX2_init 3 := ⟨(am_tC (am_in2 _ (List.mem_of_getElem? (i := 60) rfl)) rfl), (am_tT 64 (by decide +kernel)), by decide +kernel⟩
set_option maxRecDepth 100000 in
theorem ce_X2_pull : am_Ce mX2_pull 2 := ⟨(am_tC (am_in2 _ (List.mem_of_getElem? (i := 222) rfl)) rfl), (am_tT 64 (by decide +kernel)), by decide +kernel⟩
set_option maxRecDepth 100000 in
theorem ce_X2_widens : am_Ce mX2_widens 2 := ⟨(am_tC (am_in2 _ (List.mem_of_getElem? (i := 238) rfl)) rfl), (am_tT 64 (by decide +kernel)), by decide +kernel⟩
set_option maxRecDepth 100000 in
theorem ce_X2_spreads : am_Ce mX2_spreads 2 := ⟨(am_tC (am_in2 _ (List.mem_of_getElem? (i := 189) rfl)) rfl), (am_tT 64 (by decide +kernel)), by decide +kernel⟩
set_option maxRecDepth 100000 in
theorem ce_X2_lifts : am_Ce mX2_lifts 2 := ⟨(am_tC (am_in2 _ (List.mem_of_getElem? (i := 203) rfl)) rfl), (am_tT 64 (by decide +kernel)), by decide +kernel⟩
set_option maxRecDepth 100000 in
theorem ce_X2_endsBy : am_Ce mX2_endsBy 2 := ⟨(am_tC (am_in3 _ (List.mem_of_getElem? (i := 23) rfl)) rfl), (am_tT 64 (by decide +kernel)), by decide +kernel⟩
set_option maxRecDepth 100000 in
theorem ce_X2_goes : am_Ce mX2_goes 2 := ⟨(am_tC (am_in4 _ (List.mem_of_getElem? (i := 196) rfl)) rfl), (am_tT 64 (by decide +kernel)), by decide +kernel⟩
set_option maxRecDepth 100000 in
theorem ce_X2_moves : am_Ce mX2_moves 2 := ⟨(am_tC (am_in4 _ (List.mem_of_getElem? (i := 222) rfl)) rfl), (am_tT 64 (by decide +kernel)), by decide +kernel⟩
set_option maxRecDepth 100000 in
theorem ce_X2_ends : am_Ce mX2_ends 2 := ⟨(am_tC (am_in4 _ (List.mem_of_getElem? (i := 219) rfl)) rfl), (am_tT 64 (by decide +kernel)), by decide +kernel⟩
set_option maxRecDepth 100000 in
theorem ce_X2_tells : am_Ce mX2_tells 2 := ⟨(am_tC (am_in5 _ (List.mem_of_getElem? (i := 18) rfl)) rfl), (am_tT 64 (by decide +kernel)), by decide +kernel⟩
set_option maxRecDepth 100000 in
theorem ce_X3_init : am_Ce mX3_init 1 := ⟨(am_tC (am_in1 _ (List.mem_of_getElem? (i := 41) rfl)) rfl), (am_tT 59 (by decide +kernel)), by decide +kernel⟩
set_option maxRecDepth 100000 in
theorem ce_X3_become : am_Ce mX3_become 1 := ⟨(am_tC (am_in4 _ (List.mem_of_getElem? (i := 3) rfl)) rfl), (am_tT 59 (by decide +kernel)), by decide +kernel⟩
set_option maxRecDepth 100000 in
theorem ce_X3_pace : am_Ce mX3_pace 0 := ⟨(am_tC (am_in2 _ (List.mem_of_getElem? (i := 33) rfl)) rfl), (am_tT 59 (by decide +kernel)), by decide +kernel⟩
set_option maxRecDepth 100000 in
theorem ce_X3_trait : am_Ce mX3_trait 1 := ⟨(am_tC (am_in2 _ (List.mem_of_getElem? (i := 26) rfl)) rfl), (am_tT 59 (by decide +kernel)), by decide +kernel⟩
set_option maxRecDepth 100000 in
theorem ce_X3_gap : am_Ce mX3_gap 1 := ⟨(am_tC (am_in2 _ (List.mem_of_getElem? (i := 226) rfl)) rfl), (am_tT 59 (by decide +kernel)), by decide +kernel⟩
set_option maxRecDepth 100000 in
theorem ce_X3_isNear : am_Ce mX3_isNear 1 := ⟨(am_tC (am_in2 _ (List.mem_of_getElem? (i := 214) rfl)) rfl), (am_tT 59 (by decide +kernel)), by decide +kernel⟩
set_option maxRecDepth 100000 in
theorem ce_X3_isBehind : am_Ce mX3_isBehind 1 := ⟨(am_tC (am_in3 _ (List.mem_of_getElem? (i := 4) rfl)) rfl), (am_tT 59 (by decide +kernel)), by decide +kernel⟩
set_option maxRecDepth 100000 in
theorem ce_X4_init : am_Ce mX4_init 0 := ⟨(am_tC (am_in1 _ (List.mem_of_getElem? (i := 34) rfl)) rfl), (am_tT 58 (by decide +kernel)), by decide +kernel⟩
set_option maxRecDepth 100000 in
theorem ce_X4_become : am_Ce mX4_become 1 := ⟨(am_tC (am_in4 _ (List.mem_of_getElem? (i := 71) rfl)) rfl), (am_tT 58 (by decide +kernel)), by decide +kernel⟩
set_option maxRecDepth 100000 in
theorem ce_X4_takeRings : am_Ce mX4_takeRings 1 := ⟨(am_tC (am_in4 _ (List.mem_of_getElem? (i := 75) rfl)) rfl), (am_tT 58 (by decide +kernel)), by decide +kernel⟩
set_option maxRecDepth 100000 in
theorem ce_X4_isFull : am_Ce mX4_isFull 0 := ⟨(am_tC (am_in2 _ (List.mem_of_getElem? (i := 6) rfl)) rfl), (am_tT 58 (by decide +kernel)), by decide +kernel⟩
set_option maxRecDepth 100000 in
theorem ce_X4_hasRing : am_Ce mX4_hasRing 1 := ⟨(am_tC (am_in2 _ (List.mem_of_getElem? (i := 22) rfl)) rfl), (am_tT 58 (by decide +kernel)), by decide +kernel⟩
set_option maxRecDepth 100000 in
theorem ce_X4_hasLaw : am_Ce mX4_hasLaw 1 := ⟨(am_tC (am_in2 _ (List.mem_of_getElem? (i := 150) rfl)) rfl), (am_tT 58 (by decide +kernel)), by decide +kernel⟩
set_option maxRecDepth 100000 in
theorem ce_X4_isOn : am_Ce mX4_isOn 1 := ⟨(am_tC (am_in2 _ (List.mem_of_getElem? (i := 154) rfl)) rfl), (am_tT 58 (by decide +kernel)), by decide +kernel⟩
set_option maxRecDepth 100000 in
theorem ce_X4_lawOn : am_Ce mX4_lawOn 1 := ⟨(am_tC (am_in4 _ (List.mem_of_getElem? (i := 11) rfl)) rfl), (am_tT 58 (by decide +kernel)), by decide +kernel⟩
set_option maxRecDepth 100000 in
theorem ce_X4_addRing : am_Ce mX4_addRing 6 := ⟨(am_tC (am_in2 _ (List.mem_of_getElem? (i := 11) rfl)) rfl), (am_tT 58 (by decide +kernel)), by decide +kernel⟩
set_option maxRecDepth 100000 in
theorem ce_X4_addStroke : am_Ce mX4_addStroke 2 := ⟨(am_tC (am_in3 _ (List.mem_of_getElem? (i := 42) rfl)) rfl), (am_tT 58 (by decide +kernel)), by decide +kernel⟩
set_option maxRecDepth 100000 in
theorem ce_X4_addLaw : am_Ce mX4_addLaw 1 := ⟨(am_tC (am_in2 _ (List.mem_of_getElem? (i := 142) rfl)) rfl), (am_tT 58 (by decide +kernel)), by decide +kernel⟩
set_option maxRecDepth 100000 in
theorem ce_X4_trailing : am_Ce mX4_trailing 1 := ⟨(am_tC (am_in3 _ (List.mem_of_getElem? (i := 71) rfl)) rfl), (am_tT 58 (by decide +kernel)), by decide +kernel⟩
set_option maxRecDepth 100000 in
theorem ce_X4_given : am_Ce mX4_given 4 := ⟨(am_tC (am_in3 _ (List.mem_of_getElem? (i := 46) rfl)) rfl), (am_tT 58 (by decide +kernel)), by decide +kernel⟩
set_option maxRecDepth 100000 in
theorem ce_X4_foremost : am_Ce mX4_foremost 0 := ⟨(am_tC (am_in4 _ (List.mem_of_getElem? (i := 55) rfl)) rfl), (am_tT 58 (by decide +kernel)), by decide +kernel⟩
set_option maxRecDepth 100000 in
theorem ce_X4_wholeCount : am_Ce mX4_wholeCount 0 := ⟨(am_tC (am_in4 _ (List.mem_of_getElem? (i := 90) rfl)) rfl), (am_tT 58 (by decide +kernel)), by decide +kernel⟩
set_option maxRecDepth 100000 in
theorem ce_X4_changesOfFront : am_Ce mX4_changesOfFront 2 := ⟨(am_tC (am_in4 _ (List.mem_of_getElem? (i := 99) rfl)) rfl), (am_tT 58 (by decide +kernel)), by decide +kernel⟩
set_option maxRecDepth 100000 in
theorem ce_X4_greatestX : am_Ce mX4_greatestX 2 := ⟨(am_tC (am_in4 _ (List.mem_of_getElem? (i := 109) rfl)) rfl), (am_tT 58 (by decide +kernel)), by decide +kernel⟩
set_option maxRecDepth 100000 in
theorem ce_X4_tick : am_Ce mX4_tick 0 := ⟨(am_tC (am_in3 _ (List.mem_of_getElem? (i := 239) rfl)) rfl), (am_tT 58 (by decide +kernel)), by decide +kernel⟩
set_option maxRecDepth 100000 in
theorem ce_X4_blow : am_Ce mX4_blow 0 := ⟨(am_tC (am_in4 _ (List.mem_of_getElem? (i := 42) rfl)) rfl), (am_tT 58 (by decide +kernel)), by decide +kernel⟩
set_option maxRecDepth 100000 in
theorem ce_X4_advance : am_Ce mX4_advance 2 := ⟨(am_tC (am_in4 _ (List.mem_of_getElem? (i := 7) rfl)) rfl), (am_tT 58 (by decide +kernel)), by decide +kernel⟩
set_option maxRecDepth 100000 in
theorem ce_X4_widen : am_Ce mX4_widen 2 := ⟨(am_tC (am_in4 _ (List.mem_of_getElem? (i := 19) rfl)) rfl), (am_tT 58 (by decide +kernel)), by decide +kernel⟩
set_option maxRecDepth 100000 in
theorem ce_X4_isOther : am_Ce mX4_isOther 2 := ⟨(am_tC (am_in4 _ (List.mem_of_getElem? (i := 23) rfl)) rfl), (am_tT 58 (by decide +kernel)), by decide +kernel⟩
set_option maxRecDepth 100000 in
theorem ce_X4_endIfDue : am_Ce mX4_endIfDue 1 := ⟨(am_tC (am_in4 _ (List.mem_of_getElem? (i := 28) rfl)) rfl), (am_tT 58 (by decide +kernel)), by decide +kernel⟩
set_option maxRecDepth 100000 in
theorem ce_X4_endingLaw : am_Ce mX4_endingLaw 2 := ⟨(am_tC (am_in4 _ (List.mem_of_getElem? (i := 32) rfl)) rfl), (am_tT 58 (by decide +kernel)), by decide +kernel⟩
set_option maxRecDepth 100000 in
theorem ce_X4_settle : am_Ce mX4_settle 1 := ⟨(am_tC (am_in4 _ (List.mem_of_getElem? (i := 38) rfl)) rfl), (am_tT 58 (by decide +kernel)), by decide +kernel⟩
set_option maxRecDepth 100000 in
theorem ce_X5_init : am_Ce mX5_init 1 := ⟨(am_tC (am_in1 _ (List.mem_of_getElem? (i := 125) rfl)) rfl), (am_tT 61 (by decide +kernel)), by decide +kernel⟩
set_option maxRecDepth 100000 in
theorem ce_X5_become : am_Ce mX5_become 1 := ⟨(am_tC (am_in4 _ (List.mem_of_getElem? (i := 80) rfl)) rfl), (am_tT 61 (by decide +kernel)), by decide +kernel⟩
set_option maxRecDepth 100000 in
theorem ce_X5_add : am_Ce mX5_add 1 := ⟨(am_tC (am_in3 _ (List.mem_of_getElem? (i := 83) rfl)) rfl), (am_tT 61 (by decide +kernel)), by decide +kernel⟩
set_option maxRecDepth 100000 in
theorem ce_X5_has : am_Ce mX5_has 1 := ⟨(am_tC (am_in5 _ (List.mem_of_getElem? (i := 28) rfl)) rfl), (am_tT 61 (by decide +kernel)), by decide +kernel⟩
set_option maxRecDepth 100000 in
theorem ce_X5_stands : am_Ce mX5_stands 2 := ⟨(am_tC (am_in5 _ (List.mem_of_getElem? (i := 56) rfl)) rfl), (am_tT 61 (by decide +kernel)), by decide +kernel⟩
set_option maxRecDepth 100000 in
theorem ce_X5_begin : am_Ce mX5_begin 2 := ⟨(am_tC (am_in5 _ (List.mem_of_getElem? (i := 36) rfl)) rfl), (am_tT 61 (by decide +kernel)), by decide +kernel⟩
set_option maxRecDepth 100000 in
theorem ce_X5_write : am_Ce mX5_write 2 := ⟨(am_tC (am_in5 _ (List.mem_of_getElem? (i := 47) rfl)) rfl), (am_tT 61 (by decide +kernel)), by decide +kernel⟩
set_option maxRecDepth 100000 in
theorem ce_X6_init : am_Ce mX6_init 2 := ⟨(am_tC (am_in2 _ (List.mem_of_getElem? (i := 126) rfl)) rfl), (am_tT 70 (by decide +kernel)), by decide +kernel⟩
set_option maxRecDepth 100000 in
theorem ce_X6_spreads : am_Ce mX6_spreads 2 := ⟨(am_tC (am_in2 _ (List.mem_of_getElem? (i := 179) rfl)) rfl), (am_tT 70 (by decide +kernel)), by decide +kernel⟩
set_option maxRecDepth 100000 in
theorem ce_X6_lifts : am_Ce mX6_lifts 2 := ⟨(am_tC (am_in2 _ (List.mem_of_getElem? (i := 198) rfl)) rfl), (am_tT 70 (by decide +kernel)), by decide +kernel⟩
set_option maxRecDepth 100000 in
theorem ce_X6_ends : am_Ce mX6_ends 2 := ⟨(am_tC (am_in4 _ (List.mem_of_getElem? (i := 230) rfl)) rfl), (am_tT 70 (by decide +kernel)), by decide +kernel⟩
set_option maxRecDepth 100000 in
theorem ce_X6_tells : am_Ce mX6_tells 2 := ⟨(am_tC (am_in5 _ (List.mem_of_getElem? (i := 2) rfl)) rfl), (am_tT 70 (by decide +kernel)), by decide +kernel⟩
set_option maxRecDepth 100000 in
theorem ce_X7_init : am_Ce mX7_init 0 := ⟨(am_tC (am_in1 _ (List.mem_of_getElem? (i := 95) rfl)) rfl), (am_tT 60 (by decide +kernel)), by decide +kernel⟩
set_option maxRecDepth 100000 in
theorem ce_X7_become : am_Ce mX7_become 1 := ⟨(am_tC (am_in3 _ (List.mem_of_getElem? (i := 217) rfl)) rfl), (am_tT 60 (by decide +kernel)), by decide +kernel⟩
set_option maxRecDepth 100000 in
theorem ce_X7_read : am_Ce mX7_read 2 := ⟨(am_tC (am_in3 _ (List.mem_of_getElem? (i := 93) rfl)) rfl), (am_tT 60 (by decide +kernel)), by decide +kernel⟩
set_option maxRecDepth 100000 in
theorem ce_X7_takesOperand : am_Ce mX7_takesOperand 2 := ⟨(am_tC (am_in3 _ (List.mem_of_getElem? (i := 97) rfl)) rfl), (am_tT 60 (by decide +kernel)), by decide +kernel⟩
set_option maxRecDepth 100000 in
theorem ce_X7_takesOperator : am_Ce mX7_takesOperator 1 := ⟨(am_tC (am_in3 _ (List.mem_of_getElem? (i := 190) rfl)) rfl), (am_tT 60 (by decide +kernel)), by decide +kernel⟩
set_option maxRecDepth 100000 in
theorem ce_X7_takesDigit : am_Ce mX7_takesDigit 1 := ⟨(am_tC (am_in3 _ (List.mem_of_getElem? (i := 194) rfl)) rfl), (am_tT 60 (by decide +kernel)), by decide +kernel⟩
set_option maxRecDepth 100000 in
theorem ce_X7_takesClose : am_Ce mX7_takesClose 0 := ⟨(am_tC (am_in3 _ (List.mem_of_getElem? (i := 198) rfl)) rfl), (am_tT 60 (by decide +kernel)), by decide +kernel⟩
set_option maxRecDepth 100000 in
theorem ce_X7_isComplete : am_Ce mX7_isComplete 0 := ⟨(am_tC (am_in3 _ (List.mem_of_getElem? (i := 213) rfl)) rfl), (am_tT 60 (by decide +kernel)), by decide +kernel⟩
set_option maxRecDepth 100000 in
theorem ce_X7_popAbove : am_Ce mX7_popAbove 1 := ⟨(am_tC (am_in3 _ (List.mem_of_getElem? (i := 202) rfl)) rfl), (am_tT 60 (by decide +kernel)), by decide +kernel⟩
set_option maxRecDepth 100000 in
theorem ce_X7_pop : am_Ce mX7_pop 0 := ⟨(am_tC (am_in3 _ (List.mem_of_getElem? (i := 209) rfl)) rfl), (am_tT 60 (by decide +kernel)), by decide +kernel⟩
set_option maxRecDepth 100000 in
theorem ce_X7_push : am_Ce mX7_push 1 := ⟨(am_tC (am_in3 _ (List.mem_of_getElem? (i := 54) rfl)) rfl), (am_tT 60 (by decide +kernel)), by decide +kernel⟩
set_option maxRecDepth 100000 in
theorem ce_X7_append : am_Ce mX7_append 1 := ⟨(am_tC (am_in3 _ (List.mem_of_getElem? (i := 104) rfl)) rfl), (am_tT 60 (by decide +kernel)), by decide +kernel⟩
set_option maxRecDepth 100000 in
theorem ce_X7_value : am_Ce mX7_value 3 := ⟨(am_tC (am_in3 _ (List.mem_of_getElem? (i := 50) rfl)) rfl), (am_tT 60 (by decide +kernel)), by decide +kernel⟩
set_option maxRecDepth 100000 in
theorem ce_X7_result : am_Ce mX7_result 3 := ⟨(am_tC (am_in3 _ (List.mem_of_getElem? (i := 58) rfl)) rfl), (am_tT 60 (by decide +kernel)), by decide +kernel⟩
set_option maxRecDepth 100000 in
theorem ce_X7_rank : am_Ce mX7_rank 1 := ⟨(am_tC (am_in3 _ (List.mem_of_getElem? (i := 205) rfl)) rfl), (am_tT 60 (by decide +kernel)), by decide +kernel⟩
set_option maxRecDepth 100000 in
theorem ce_X7_isDigit : am_Ce mX7_isDigit 1 := ⟨(am_tC (am_in3 _ (List.mem_of_getElem? (i := 100) rfl)) rfl), (am_tT 60 (by decide +kernel)), by decide +kernel⟩
set_option maxRecDepth 100000 in
theorem ce_X8_init : am_Ce mX8_init 2 := ⟨(am_tC (am_in2 _ (List.mem_of_getElem? (i := 57) rfl)) rfl), (am_tT 65 (by decide +kernel)), by decide +kernel⟩
set_option maxRecDepth 100000 in
theorem ce_X8_widens : am_Ce mX8_widens 2 := ⟨(am_tC (am_in2 _ (List.mem_of_getElem? (i := 233) rfl)) rfl), (am_tT 65 (by decide +kernel)), by decide +kernel⟩
set_option maxRecDepth 100000 in
theorem ce_X8_moves : am_Ce mX8_moves 2 := ⟨(am_tC (am_in4 _ (List.mem_of_getElem? (i := 211) rfl)) rfl), (am_tT 65 (by decide +kernel)), by decide +kernel⟩
set_option maxRecDepth 100000 in
theorem ce_X9_init : am_Ce mX9_init 2 := ⟨(am_tC (am_in2 _ (List.mem_of_getElem? (i := 106) rfl)) rfl), (am_tT 68 (by decide +kernel)), by decide +kernel⟩
set_option maxRecDepth 100000 in
theorem ce_X9_endsBy : am_Ce mX9_endsBy 2 := ⟨(am_tC (am_in3 _ (List.mem_of_getElem? (i := 20) rfl)) rfl), (am_tT 68 (by decide +kernel)), by decide +kernel⟩
set_option maxRecDepth 100000 in
theorem ce_X9_goes : am_Ce mX9_goes 2 := ⟨(am_tC (am_in4 _ (List.mem_of_getElem? (i := 190) rfl)) rfl), (am_tT 68 (by decide +kernel)), by decide +kernel⟩
set_option maxRecDepth 100000 in
theorem ce_X9_tells : am_Ce mX9_tells 2 := ⟨(am_tC (am_in5 _ (List.mem_of_getElem? (i := 13) rfl)) rfl), (am_tT 68 (by decide +kernel)), by decide +kernel⟩
set_option maxRecDepth 100000 in
theorem ce_X10_init : am_Ce mX10_init 3 := ⟨(am_tC (am_in2 _ (List.mem_of_getElem? (i := 116) rfl)) rfl), (am_tT 69 (by decide +kernel)), by decide +kernel⟩
set_option maxRecDepth 100000 in
theorem ce_X10_widens : am_Ce mX10_widens 2 := ⟨(am_tC (am_in2 _ (List.mem_of_getElem? (i := 230) rfl)) rfl), (am_tT 69 (by decide +kernel)), by decide +kernel⟩
set_option maxRecDepth 100000 in
theorem ce_X10_spreads : am_Ce mX10_spreads 2 := ⟨(am_tC (am_in2 _ (List.mem_of_getElem? (i := 182) rfl)) rfl), (am_tT 69 (by decide +kernel)), by decide +kernel⟩
set_option maxRecDepth 100000 in
theorem ce_X10_moves : am_Ce mX10_moves 2 := ⟨(am_tC (am_in4 _ (List.mem_of_getElem? (i := 206) rfl)) rfl), (am_tT 69 (by decide +kernel)), by decide +kernel⟩
set_option maxRecDepth 100000 in
theorem ce_X11_init : am_Ce mX11_init 0 := ⟨(am_tC (am_in1 _ (List.mem_of_getElem? (i := 26) rfl)) rfl), (am_tT 57 (by decide +kernel)), by decide +kernel⟩
set_option maxRecDepth 100000 in
theorem ce_X11_ring : am_Ce mX11_ring 4 := ⟨(am_tC (am_in1 _ (List.mem_of_getElem? (i := 230) rfl)) rfl), (am_tT 57 (by decide +kernel)), by decide +kernel⟩
set_option maxRecDepth 100000 in
theorem ce_X11_ofRing : am_Ce mX11_ofRing 2 := ⟨(am_tC (am_in2 _ (List.mem_of_getElem? (i := 18) rfl)) rfl), (am_tT 57 (by decide +kernel)), by decide +kernel⟩
set_option maxRecDepth 100000 in
theorem ce_X11_end : am_Ce mX11_end 1 := ⟨(am_tC (am_in2 _ (List.mem_of_getElem? (i := 40) rfl)) rfl), (am_tT 57 (by decide +kernel)), by decide +kernel⟩
set_option maxRecDepth 100000 in
theorem ce_X11_wall : am_Ce mX11_wall 1 := ⟨(am_tC (am_in2 _ (List.mem_of_getElem? (i := 45) rfl)) rfl), (am_tT 57 (by decide +kernel)), by decide +kernel⟩
set_option maxRecDepth 100000 in
theorem ce_X11_law : am_Ce mX11_law 2 := ⟨(am_tC (am_in2 _ (List.mem_of_getElem? (i := 49) rfl)) rfl), (am_tT 57 (by decide +kernel)), by decide +kernel⟩
set_option maxRecDepth 100000 in
theorem ce_X11_ofLaw : am_Ce mX11_ofLaw 2 := ⟨(am_tC (am_in2 _ (List.mem_of_getElem? (i := 146) rfl)) rfl), (am_tT 57 (by decide +kernel)), by decide +kernel⟩
set_option maxRecDepth 100000 in
theorem ce_X11_as : am_Ce mX11_as 2 := ⟨(am_tC (am_in2 _ (List.mem_of_getElem? (i := 158) rfl)) rfl), (am_tT 57 (by decide +kernel)), by decide +kernel⟩
set_option maxRecDepth 100000 in
theorem ce_X11_turn : am_Ce mX11_turn 2 := ⟨(am_tC (am_in2 _ (List.mem_of_getElem? (i := 166) rfl)) rfl), (am_tT 57 (by decide +kernel)), by decide +kernel⟩
set_option maxRecDepth 100000 in
theorem ce_X11_does : am_Ce mX11_does 4 := ⟨(am_tC (am_in2 _ (List.mem_of_getElem? (i := 170) rfl)) rfl), (am_tT 57 (by decide +kernel)), by decide +kernel⟩
set_option maxRecDepth 100000 in
theorem ce_X11_pair : am_Ce mX11_pair 3 := ⟨(am_tC (am_in3 _ (List.mem_of_getElem? (i := 27) rfl)) rfl), (am_tT 57 (by decide +kernel)), by decide +kernel⟩
set_option maxRecDepth 100000 in
theorem ce_X11_hole : am_Ce mX11_hole 1 := ⟨(am_tC (am_in3 _ (List.mem_of_getElem? (i := 34) rfl)) rfl), (am_tT 57 (by decide +kernel)), by decide +kernel⟩
set_option maxRecDepth 100000 in
theorem ce_X11_stroke : am_Ce mX11_stroke 2 := ⟨(am_tC (am_in3 _ (List.mem_of_getElem? (i := 38) rfl)) rfl), (am_tT 57 (by decide +kernel)), by decide +kernel⟩
set_option maxRecDepth 100000 in
theorem ce_X11_trails : am_Ce mX11_trails 1 := ⟨(am_tC (am_in3 _ (List.mem_of_getElem? (i := 67) rfl)) rfl), (am_tT 57 (by decide +kernel)), by decide +kernel⟩
set_option maxRecDepth 100000 in
theorem ce_X11_feed : am_Ce mX11_feed 2 := ⟨(am_tC (am_in3 _ (List.mem_of_getElem? (i := 78) rfl)) rfl), (am_tT 57 (by decide +kernel)), by decide +kernel⟩
set_option maxRecDepth 100000 in
theorem ce_X11_text : am_Ce mX11_text 1 := ⟨(am_tC (am_in3 _ (List.mem_of_getElem? (i := 87) rfl)) rfl), (am_tT 57 (by decide +kernel)), by decide +kernel⟩
set_option maxRecDepth 100000 in
theorem ce_X11_gives : am_Ce mX11_gives 4 := ⟨(am_tC (am_in3 _ (List.mem_of_getElem? (i := 225) rfl)) rfl), (am_tT 57 (by decide +kernel)), by decide +kernel⟩
set_option maxRecDepth 100000 in
theorem ce_X11_ticks : am_Ce mX11_ticks 1 := ⟨(am_tC (am_in3 _ (List.mem_of_getElem? (i := 230) rfl)) rfl), (am_tT 57 (by decide +kernel)), by decide +kernel⟩
set_option maxRecDepth 100000 in
theorem ce_X11_breeze : am_Ce mX11_breeze 1 := ⟨(am_tC (am_in4 _ (List.mem_of_getElem? (i := 47) rfl)) rfl), (am_tT 57 (by decide +kernel)), by decide +kernel⟩
set_option maxRecDepth 100000 in
theorem ce_X11_front : am_Ce mX11_front 0 := ⟨(am_tC (am_in4 _ (List.mem_of_getElem? (i := 51) rfl)) rfl), (am_tT 57 (by decide +kernel)), by decide +kernel⟩
set_option maxRecDepth 100000 in
theorem ce_X11_then : am_Ce mX11_then 3 := ⟨(am_tC (am_in4 _ (List.mem_of_getElem? (i := 60) rfl)) rfl), (am_tT 57 (by decide +kernel)), by decide +kernel⟩
set_option maxRecDepth 100000 in
theorem ce_X11_whole : am_Ce mX11_whole 1 := ⟨(am_tC (am_in4 _ (List.mem_of_getElem? (i := 86) rfl)) rfl), (am_tT 57 (by decide +kernel)), by decide +kernel⟩
set_option maxRecDepth 100000 in
theorem ce_X11_turns : am_Ce mX11_turns 1 := ⟨(am_tC (am_in4 _ (List.mem_of_getElem? (i := 95) rfl)) rfl), (am_tT 57 (by decide +kernel)), by decide +kernel⟩
set_option maxRecDepth 100000 in
theorem ce_X11_far : am_Ce mX11_far 2 := ⟨(am_tC (am_in4 _ (List.mem_of_getElem? (i := 105) rfl)) rfl), (am_tT 57 (by decide +kernel)), by decide +kernel⟩
set_option maxRecDepth 100000 in
theorem ce_X11_knock : am_Ce mX11_knock 3 := ⟨(am_tC (am_in4 _ (List.mem_of_getElem? (i := 113) rfl)) rfl), (am_tT 57 (by decide +kernel)), by decide +kernel⟩
set_option maxRecDepth 100000 in
theorem ce_X11_farthest : am_Ce mX11_farthest 3 := ⟨(am_tC (am_in4 _ (List.mem_of_getElem? (i := 118) rfl)) rfl), (am_tT 57 (by decide +kernel)), by decide +kernel⟩
set_option maxRecDepth 100000 in
theorem ce_X11_second : am_Ce mX11_second 3 := ⟨(am_tC (am_in4 _ (List.mem_of_getElem? (i := 122) rfl)) rfl), (am_tT 57 (by decide +kernel)), by decide +kernel⟩
set_option maxRecDepth 100000 in
theorem ce_X11_alike : am_Ce mX11_alike 2 := ⟨(am_tC (am_in4 _ (List.mem_of_getElem? (i := 127) rfl)) rfl), (am_tT 57 (by decide +kernel)), by decide +kernel⟩
set_option maxRecDepth 100000 in
theorem ce_X11_off : am_Ce mX11_off 1 := ⟨(am_tC (am_in4 _ (List.mem_of_getElem? (i := 132) rfl)) rfl), (am_tT 57 (by decide +kernel)), by decide +kernel⟩
set_option maxRecDepth 100000 in
theorem ce_X11_spun : am_Ce mX11_spun 1 := ⟨(am_tC (am_in4 _ (List.mem_of_getElem? (i := 159) rfl)) rfl), (am_tT 57 (by decide +kernel)), by decide +kernel⟩
set_option maxRecDepth 100000 in
theorem ce_X11_made : am_Ce mX11_made 1 := ⟨(am_tC (am_in4 _ (List.mem_of_getElem? (i := 163) rfl)) rfl), (am_tT 57 (by decide +kernel)), by decide +kernel⟩
set_option maxRecDepth 100000 in
theorem ce_X11_heart : am_Ce mX11_heart 1 := ⟨(am_tC (am_in4 _ (List.mem_of_getElem? (i := 167) rfl)) rfl), (am_tT 57 (by decide +kernel)), by decide +kernel⟩
set_option maxRecDepth 100000 in
theorem ce_X11_seed : am_Ce mX11_seed 1 := ⟨(am_tC (am_in4 _ (List.mem_of_getElem? (i := 171) rfl)) rfl), (am_tT 57 (by decide +kernel)), by decide +kernel⟩
set_option maxRecDepth 100000 in
theorem ce_X11_voice : am_Ce mX11_voice 3 := ⟨(am_tC (am_in4 _ (List.mem_of_getElem? (i := 175) rfl)) rfl), (am_tT 57 (by decide +kernel)), by decide +kernel⟩
set_option maxRecDepth 100000 in
theorem ce_X11_trace : am_Ce mX11_trace 1 := ⟨(am_tC (am_in5 _ (List.mem_of_getElem? (i := 24) rfl)) rfl), (am_tT 57 (by decide +kernel)), by decide +kernel⟩
set_option maxRecDepth 100000 in
theorem ce_X11_sheet : am_Ce mX11_sheet 3 := ⟨(am_tC (am_in5 _ (List.mem_of_getElem? (i := 32) rfl)) rfl), (am_tT 57 (by decide +kernel)), by decide +kernel⟩
set_option maxRecDepth 100000 in
theorem ce_X11_put : am_Ce mX11_put 3 := ⟨(am_tC (am_in5 _ (List.mem_of_getElem? (i := 43) rfl)) rfl), (am_tT 57 (by decide +kernel)), by decide +kernel⟩
set_option maxRecDepth 100000 in
theorem ce_X11_move : am_Ce mX11_move 5 := ⟨(am_tC (am_in5 _ (List.mem_of_getElem? (i := 52) rfl)) rfl), (am_tT 57 (by decide +kernel)), by decide +kernel⟩
set_option maxRecDepth 100000 in
theorem ce_X11_film : am_Ce mX11_film 1 := ⟨(am_tC (am_in5 _ (List.mem_of_getElem? (i := 61) rfl)) rfl), (am_tT 57 (by decide +kernel)), by decide +kernel⟩
set_option maxRecDepth 100000 in
theorem ce_X11_image : am_Ce mX11_image 0 := ⟨(am_tC (am_in5 _ (List.mem_of_getElem? (i := 65) rfl)) rfl), (am_tT 57 (by decide +kernel)), by decide +kernel⟩
set_option maxRecDepth 100000 in
theorem ce_X11_restore : am_Ce mX11_restore 0 := ⟨(am_tC (am_in5 _ (List.mem_of_getElem? (i := 69) rfl)) rfl), (am_tT 57 (by decide +kernel)), by decide +kernel⟩
set_option maxRecDepth 100000 in
theorem ce_X11_tell : am_Ce mX11_tell 1 := ⟨(am_tC (am_in5 _ (List.mem_of_getElem? (i := 73) rfl)) rfl), (am_tT 57 (by decide +kernel)), by decide +kernel⟩
set_option maxRecDepth 100000 in
theorem ce_X11_check : am_Ce mX11_check 1 := ⟨(am_tC (am_in5 _ (List.mem_of_getElem? (i := 77) rfl)) rfl), (am_tT 57 (by decide +kernel)), by decide +kernel⟩
set_option maxRecDepth 100000 in
theorem ce_X11_count : am_Ce mX11_count 1 := ⟨(am_tC (am_in5 _ (List.mem_of_getElem? (i := 85) rfl)) rfl), (am_tT 57 (by decide +kernel)), by decide +kernel⟩
set_option maxRecDepth 100000 in
theorem ce_X11_told : am_Ce mX11_told 1 := ⟨(am_tC (am_in5 _ (List.mem_of_getElem? (i := 89) rfl)) rfl), (am_tT 57 (by decide +kernel)), by decide +kernel⟩
set_option maxRecDepth 100000 in
theorem ce_X11_error : am_Ce mX11_error 1 := ⟨(am_tC (am_in2 _ (List.mem_of_getElem? (i := 1) rfl)) rfl), (am_tT 57 (by decide +kernel)), by decide +kernel⟩
set_option maxRecDepth 100000 in
theorem ce_X11_pass : am_Ce mX11_pass 2 := ⟨(am_tC (am_in3 _ (List.mem_of_getElem? (i := 234) rfl)) rfl), (am_tT 57 (by decide +kernel)), by decide +kernel⟩
set_option maxRecDepth 100000 in
theorem ce_X11_goAhead : am_Ce mX11_goAhead 1 := ⟨(am_tC (am_in4 _ (List.mem_of_getElem? (i := 67) rfl)) rfl), (am_tT 57 (by decide +kernel)), by decide +kernel⟩
set_option maxRecDepth 100000 in
theorem ce_X11_checked : am_Ce mX11_checked 1 := ⟨(am_tC (am_in5 _ (List.mem_of_getElem? (i := 81) rfl)) rfl), (am_tT 57 (by decide +kernel)), by decide +kernel⟩
set_option maxRecDepth 100000 in
theorem ce_X11_filmError : am_Ce mX11_filmError 1 := ⟨(am_tC (am_in4 _ (List.mem_of_getElem? (i := 136) rfl)) rfl), (am_tT 57 (by decide +kernel)), by decide +kernel⟩
set_option maxRecDepth 100000 in
theorem ce_X11_offBy : am_Ce mX11_offBy 2 := ⟨(am_tC (am_in4 _ (List.mem_of_getElem? (i := 148) rfl)) rfl), (am_tT 57 (by decide +kernel)), by decide +kernel⟩
set_option maxRecDepth 100000 in
theorem ce_X11_isMissing : am_Ce mX11_isMissing 1 := ⟨(am_tC (am_in4 _ (List.mem_of_getElem? (i := 143) rfl)) rfl), (am_tT 57 (by decide +kernel)), by decide +kernel⟩
set_option maxRecDepth 100000 in
theorem ce_X11_isSheet : am_Ce mX11_isSheet 1 := ⟨(am_tC (am_in4 _ (List.mem_of_getElem? (i := 139) rfl)) rfl), (am_tT 57 (by decide +kernel)), by decide +kernel⟩
set_option maxRecDepth 100000 in
theorem ce_X11_isAhead : am_Ce mX11_isAhead 1 := ⟨(am_tC (am_in4 _ (List.mem_of_getElem? (i := 63) rfl)) rfl), (am_tT 57 (by decide +kernel)), by decide +kernel⟩
set_option maxRecDepth 100000 in
theorem ce_X11_isHeld : am_Ce mX11_isHeld 3 := ⟨(am_tC (am_in1 _ (List.mem_of_getElem? (i := 236) rfl)) rfl), (am_tT 57 (by decide +kernel)), by decide +kernel⟩
set_option maxRecDepth 100000 in
theorem ce_X11_held : am_Ce mX11_held 3 := ⟨(am_tC (am_in3 _ (List.mem_of_getElem? (i := 62) rfl)) rfl), (am_tT 57 (by decide +kernel)), by decide +kernel⟩
set_option maxRecDepth 100000 in
theorem ce_X11_asBit : am_Ce mX11_asBit 1 := ⟨(am_tC (am_in2 _ (List.mem_of_getElem? (i := 29) rfl)) rfl), (am_tT 57 (by decide +kernel)), by decide +kernel⟩
set_option maxRecDepth 100000 in
theorem ce_X11_quotient : am_Ce mX11_quotient 2 := ⟨(am_tC (am_in2 _ (List.mem_of_getElem? (i := 36) rfl)) rfl), (am_tT 57 (by decide +kernel)), by decide +kernel⟩
set_option maxRecDepth 100000 in
theorem ce_X11_makeLaw : am_Ce mX11_makeLaw 3 := ⟨(am_tC (am_in2 _ (List.mem_of_getElem? (i := 52) rfl)) rfl), (am_tT 57 (by decide +kernel)), by decide +kernel⟩
set_option maxRecDepth 100000 in
theorem ce_X11_isOfKind : am_Ce mX11_isOfKind 2 := ⟨(am_tC (am_in2 _ (List.mem_of_getElem? (i := 161) rfl)) rfl), (am_tT 57 (by decide +kernel)), by decide +kernel⟩
set_option maxRecDepth 100000 in
theorem ce_X12_init : am_Ce mX12_init 0 := ⟨(am_tC (am_in5 _ (List.mem_of_getElem? (i := 94) rfl)) rfl), (am_tT 62 (by decide +kernel)), by decide +kernel⟩
set_option maxRecDepth 100000 in
theorem ce_X12_finds : am_Ce mX12_finds 1 := ⟨(am_tC (am_in5 _ (List.mem_of_getElem? (i := 178) rfl)) rfl), (am_tT 62 (by decide +kernel)), by decide +kernel⟩
set_option maxRecDepth 100000 in
theorem ce_X12_in : am_Ce mX12_in 3 := ⟨(am_tC (am_in5 _ (List.mem_of_getElem? (i := 170) rfl)) rfl), (am_tT 62 (by decide +kernel)), by decide +kernel⟩
set_option maxRecDepth 100000 in
theorem ce_X12_held : am_Ce mX12_held 3 := ⟨(am_tC (am_in6 _ (List.mem_of_getElem? (i := 91) rfl)) rfl), (am_tT 62 (by decide +kernel)), by decide +kernel⟩
set_option maxRecDepth 100000 in
theorem ce_X12_copies : am_Ce mX12_copies 2 := ⟨(am_tC (am_in6 _ (List.mem_of_getElem? (i := 168) rfl)) rfl), (am_tT 62 (by decide +kernel)), by decide +kernel⟩
set_option maxRecDepth 100000 in
theorem ce_X12_isRing : am_Ce mX12_isRing 1 := ⟨(am_tC (am_in5 _ (List.mem_of_getElem? (i := 190) rfl)) rfl), (am_tT 62 (by decide +kernel)), by decide +kernel⟩
set_option maxRecDepth 100000 in
theorem ce_X12_isLaw : am_Ce mX12_isLaw 1 := ⟨(am_tC (am_in5 _ (List.mem_of_getElem? (i := 219) rfl)) rfl), (am_tT 62 (by decide +kernel)), by decide +kernel⟩
set_option maxRecDepth 100000 in
theorem ce_X12_of : am_Ce mX12_of 3 := ⟨(am_tC (am_in5 _ (List.mem_of_getElem? (i := 197) rfl)) rfl), (am_tT 62 (by decide +kernel)), by decide +kernel⟩
set_option maxRecDepth 100000 in
theorem ce_X12_isWhole : am_Ce mX12_isWhole 2 := ⟨(am_tC (am_in6 _ (List.mem_of_getElem? (i := 128) rfl)) rfl), (am_tT 62 (by decide +kernel)), by decide +kernel⟩
set_option maxRecDepth 100000 in
theorem ce_X12_adds : am_Ce mX12_adds 7 := ⟨(am_tC (am_in5 _ (List.mem_of_getElem? (i := 182) rfl)) rfl), (am_tT 62 (by decide +kernel)), by decide +kernel⟩
set_option maxRecDepth 100000 in
theorem ce_X12_ring : am_Ce mX12_ring 4 := ⟨(am_tC (am_in5 _ (List.mem_of_getElem? (i := 164) rfl)) rfl), (am_tT 62 (by decide +kernel)), by decide +kernel⟩
set_option maxRecDepth 100000 in
theorem ce_X12_paceOf : am_Ce mX12_paceOf 2 := ⟨(am_tC (am_in5 _ (List.mem_of_getElem? (i := 194) rfl)) rfl), (am_tT 62 (by decide +kernel)), by decide +kernel⟩
set_option maxRecDepth 100000 in
theorem ce_X12_ofRing : am_Ce mX12_ofRing 2 := ⟨(am_tC (am_in5 _ (List.mem_of_getElem? (i := 186) rfl)) rfl), (am_tT 62 (by decide +kernel)), by decide +kernel⟩
set_option maxRecDepth 100000 in
theorem ce_X12_end : am_Ce mX12_end 1 := ⟨(am_tC (am_in5 _ (List.mem_of_getElem? (i := 201) rfl)) rfl), (am_tT 62 (by decide +kernel)), by decide +kernel⟩
set_option maxRecDepth 100000 in
theorem ce_X12_wall : am_Ce mX12_wall 1 := ⟨(am_tC (am_in5 _ (List.mem_of_getElem? (i := 205) rfl)) rfl), (am_tT 62 (by decide +kernel)), by decide +kernel⟩
set_option maxRecDepth 100000 in
theorem ce_X12_law : am_Ce mX12_law 2 := ⟨(am_tC (am_in5 _ (List.mem_of_getElem? (i := 209) rfl)) rfl), (am_tT 62 (by decide +kernel)), by decide +kernel⟩
set_option maxRecDepth 100000 in
theorem ce_X12_ofLaw : am_Ce mX12_ofLaw 2 := ⟨(am_tC (am_in5 _ (List.mem_of_getElem? (i := 215) rfl)) rfl), (am_tT 62 (by decide +kernel)), by decide +kernel⟩
set_option maxRecDepth 100000 in
theorem ce_X12_isOf : am_Ce mX12_isOf 2 := ⟨(am_tC (am_in5 _ (List.mem_of_getElem? (i := 227) rfl)) rfl), (am_tT 62 (by decide +kernel)), by decide +kernel⟩
set_option maxRecDepth 100000 in
theorem ce_X12_as : am_Ce mX12_as 2 := ⟨(am_tC (am_in5 _ (List.mem_of_getElem? (i := 224) rfl)) rfl), (am_tT 62 (by decide +kernel)), by decide +kernel⟩
set_option maxRecDepth 100000 in
theorem ce_X12_turn : am_Ce mX12_turn 2 := ⟨(am_tC (am_in5 _ (List.mem_of_getElem? (i := 231) rfl)) rfl), (am_tT 62 (by decide +kernel)), by decide +kernel⟩
set_option maxRecDepth 100000 in
theorem ce_X12_apart : am_Ce mX12_apart 2 := ⟨(am_tC (am_in6 _ (List.mem_of_getElem? (i := 5) rfl)) rfl), (am_tT 62 (by decide +kernel)), by decide +kernel⟩
set_option maxRecDepth 100000 in
theorem ce_X12_gap : am_Ce mX12_gap 3 := ⟨(am_tC (am_in6 _ (List.mem_of_getElem? (i := 2) rfl)) rfl), (am_tT 62 (by decide +kernel)), by decide +kernel⟩
set_option maxRecDepth 100000 in
theorem ce_X12_areNear : am_Ce mX12_areNear 3 := ⟨(am_tC (am_in6 _ (List.mem_of_getElem? (i := 8) rfl)) rfl), (am_tT 62 (by decide +kernel)), by decide +kernel⟩
set_option maxRecDepth 100000 in
theorem ce_X12_isBehind : am_Ce mX12_isBehind 3 := ⟨(am_tC (am_in6 _ (List.mem_of_getElem? (i := 11) rfl)) rfl), (am_tT 62 (by decide +kernel)), by decide +kernel⟩
set_option maxRecDepth 100000 in
theorem ce_X12_widens : am_Ce mX12_widens 4 := ⟨(am_tC (am_in5 _ (List.mem_of_getElem? (i := 239) rfl)) rfl), (am_tT 62 (by decide +kernel)), by decide +kernel⟩
set_option maxRecDepth 100000 in
theorem ce_X12_spreads : am_Ce mX12_spreads 3 := ⟨(am_tC (am_in6 _ (List.mem_of_getElem? (i := 17) rfl)) rfl), (am_tT 62 (by decide +kernel)), by decide +kernel⟩
set_option maxRecDepth 100000 in
theorem ce_X12_lifts : am_Ce mX12_lifts 3 := ⟨(am_tC (am_in6 _ (List.mem_of_getElem? (i := 20) rfl)) rfl), (am_tT 62 (by decide +kernel)), by decide +kernel⟩
set_option maxRecDepth 100000 in
theorem ce_X12_doesEnd : am_Ce mX12_doesEnd 4 := ⟨(am_tC (am_in6 _ (List.mem_of_getElem? (i := 14) rfl)) rfl), (am_tT 62 (by decide +kernel)), by decide +kernel⟩
set_option maxRecDepth 100000 in
theorem ce_X12_does : am_Ce mX12_does 4 := ⟨(am_tC (am_in5 _ (List.mem_of_getElem? (i := 235) rfl)) rfl), (am_tT 62 (by decide +kernel)), by decide +kernel⟩
set_option maxRecDepth 100000 in
theorem ce_X12_pair : am_Ce mX12_pair 3 := ⟨(am_tC (am_in6 _ (List.mem_of_getElem? (i := 24) rfl)) rfl), (am_tT 62 (by decide +kernel)), by decide +kernel⟩
set_option maxRecDepth 100000 in
theorem ce_X12_here : am_Ce mX12_here 0 := ⟨(am_tC (am_in6 _ (List.mem_of_getElem? (i := 66) rfl)) rfl), (am_tT 62 (by decide +kernel)), by decide +kernel⟩
set_option maxRecDepth 100000 in
theorem ce_X12_wrong : am_Ce mX12_wrong 0 := ⟨(am_tC (am_in6 _ (List.mem_of_getElem? (i := 70) rfl)) rfl), (am_tT 62 (by decide +kernel)), by decide +kernel⟩
set_option maxRecDepth 100000 in
theorem ce_X12_takes : am_Ce mX12_takes 1 := ⟨(am_tC (am_in6 _ (List.mem_of_getElem? (i := 74) rfl)) rfl), (am_tT 62 (by decide +kernel)), by decide +kernel⟩
set_option maxRecDepth 100000 in
theorem ce_X12_nameOf : am_Ce mX12_nameOf 1 := ⟨(am_tC (am_in6 _ (List.mem_of_getElem? (i := 78) rfl)) rfl), (am_tT 62 (by decide +kernel)), by decide +kernel⟩
set_option maxRecDepth 100000 in
theorem ce_X12_either : am_Ce mX12_either 0 := ⟨(am_tC (am_in6 _ (List.mem_of_getElem? (i := 42) rfl)) rfl), (am_tT 62 (by decide +kernel)), by decide +kernel⟩
set_option maxRecDepth 100000 in
theorem ce_X12_both : am_Ce mX12_both 0 := ⟨(am_tC (am_in6 _ (List.mem_of_getElem? (i := 46) rfl)) rfl), (am_tT 62 (by decide +kernel)), by decide +kernel⟩
set_option maxRecDepth 100000 in
theorem ce_X12_compared : am_Ce mX12_compared 0 := ⟨(am_tC (am_in6 _ (List.mem_of_getElem? (i := 50) rfl)) rfl), (am_tT 62 (by decide +kernel)), by decide +kernel⟩
set_option maxRecDepth 100000 in
theorem ce_X12_sum : am_Ce mX12_sum 0 := ⟨(am_tC (am_in6 _ (List.mem_of_getElem? (i := 54) rfl)) rfl), (am_tT 62 (by decide +kernel)), by decide +kernel⟩
set_option maxRecDepth 100000 in
theorem ce_X12_product : am_Ce mX12_product 0 := ⟨(am_tC (am_in6 _ (List.mem_of_getElem? (i := 58) rfl)) rfl), (am_tT 62 (by decide +kernel)), by decide +kernel⟩
set_option maxRecDepth 100000 in
theorem ce_X12_unit : am_Ce mX12_unit 0 := ⟨(am_tC (am_in6 _ (List.mem_of_getElem? (i := 62) rfl)) rfl), (am_tT 62 (by decide +kernel)), by decide +kernel⟩
set_option maxRecDepth 100000 in
theorem ce_X12_worked : am_Ce mX12_worked 3 := ⟨(am_tC (am_in6 _ (List.mem_of_getElem? (i := 38) rfl)) rfl), (am_tT 62 (by decide +kernel)), by decide +kernel⟩
set_option maxRecDepth 100000 in
theorem ce_X12_feed : am_Ce mX12_feed 2 := ⟨(am_tC (am_in6 _ (List.mem_of_getElem? (i := 28) rfl)) rfl), (am_tT 62 (by decide +kernel)), by decide +kernel⟩
set_option maxRecDepth 100000 in
theorem ce_X12_text : am_Ce mX12_text 1 := ⟨(am_tC (am_in6 _ (List.mem_of_getElem? (i := 34) rfl)) rfl), (am_tT 62 (by decide +kernel)), by decide +kernel⟩
set_option maxRecDepth 100000 in
theorem ce_X12_givesOf : am_Ce mX12_givesOf 4 := ⟨(am_tC (am_in6 _ (List.mem_of_getElem? (i := 88) rfl)) rfl), (am_tT 62 (by decide +kernel)), by decide +kernel⟩
set_option maxRecDepth 100000 in
theorem ce_X12_gives : am_Ce mX12_gives 4 := ⟨(am_tC (am_in6 _ (List.mem_of_getElem? (i := 84) rfl)) rfl), (am_tT 62 (by decide +kernel)), by decide +kernel⟩
set_option maxRecDepth 100000 in
theorem ce_X12_hole : am_Ce mX12_hole 1 := ⟨(am_tC (am_in6 _ (List.mem_of_getElem? (i := 95) rfl)) rfl), (am_tT 62 (by decide +kernel)), by decide +kernel⟩
set_option maxRecDepth 100000 in
theorem ce_X12_strokes : am_Ce mX12_strokes 3 := ⟨(am_tC (am_in6 _ (List.mem_of_getElem? (i := 104) rfl)) rfl), (am_tT 62 (by decide +kernel)), by decide +kernel⟩
set_option maxRecDepth 100000 in
theorem ce_X12_stroke : am_Ce mX12_stroke 2 := ⟨(am_tC (am_in6 _ (List.mem_of_getElem? (i := 99) rfl)) rfl), (am_tT 62 (by decide +kernel)), by decide +kernel⟩
set_option maxRecDepth 100000 in
theorem ce_X12_trailsOf : am_Ce mX12_trailsOf 1 := ⟨(am_tC (am_in6 _ (List.mem_of_getElem? (i := 112) rfl)) rfl), (am_tT 62 (by decide +kernel)), by decide +kernel⟩
set_option maxRecDepth 100000 in
theorem ce_X12_trails : am_Ce mX12_trails 1 := ⟨(am_tC (am_in6 _ (List.mem_of_getElem? (i := 108) rfl)) rfl), (am_tT 62 (by decide +kernel)), by decide +kernel⟩
set_option maxRecDepth 100000 in
theorem ce_X12_goesOn : am_Ce mX12_goesOn 2 := ⟨(am_tC (am_in6 _ (List.mem_of_getElem? (i := 132) rfl)) rfl), (am_tT 62 (by decide +kernel)), by decide +kernel⟩
set_option maxRecDepth 100000 in
theorem ce_X12_lawThatEnds : am_Ce mX12_lawThatEnds 3 := ⟨(am_tC (am_in6 _ (List.mem_of_getElem? (i := 141) rfl)) rfl), (am_tT 62 (by decide +kernel)), by decide +kernel⟩
set_option maxRecDepth 100000 in
theorem ce_X12_mayEnd : am_Ce mX12_mayEnd 2 := ⟨(am_tC (am_in6 _ (List.mem_of_getElem? (i := 137) rfl)) rfl), (am_tT 62 (by decide +kernel)), by decide +kernel⟩
set_option maxRecDepth 100000 in
theorem ce_X12_goesBy : am_Ce mX12_goesBy 1 := ⟨(am_tC (am_in6 _ (List.mem_of_getElem? (i := 125) rfl)) rfl), (am_tT 62 (by decide +kernel)), by decide +kernel⟩
set_option maxRecDepth 100000 in
theorem ce_X12_goesAhead : am_Ce mX12_goesAhead 2 := ⟨(am_tC (am_in6 _ (List.mem_of_getElem? (i := 121) rfl)) rfl), (am_tT 62 (by decide +kernel)), by decide +kernel⟩
set_option maxRecDepth 100000 in
theorem ce_X12_ticks : am_Ce mX12_ticks 1 := ⟨(am_tC (am_in6 _ (List.mem_of_getElem? (i := 116) rfl)) rfl), (am_tT 62 (by decide +kernel)), by decide +kernel⟩
set_option maxRecDepth 100000 in
theorem ce_X12_breeze : am_Ce mX12_breeze 1 := ⟨(am_tC (am_in6 _ (List.mem_of_getElem? (i := 145) rfl)) rfl), (am_tT 62 (by decide +kernel)), by decide +kernel⟩
set_option maxRecDepth 100000 in
theorem ce_X12_frontOf : am_Ce mX12_frontOf 1 := ⟨(am_tC (am_in6 _ (List.mem_of_getElem? (i := 153) rfl)) rfl), (am_tT 62 (by decide +kernel)), by decide +kernel⟩
set_option maxRecDepth 100000 in
theorem ce_X12_front : am_Ce mX12_front 0 := ⟨(am_tC (am_in6 _ (List.mem_of_getElem? (i := 150) rfl)) rfl), (am_tT 62 (by decide +kernel)), by decide +kernel⟩
set_option maxRecDepth 100000 in
theorem ce_X12_isAhead : am_Ce mX12_isAhead 1 := ⟨(am_tC (am_in6 _ (List.mem_of_getElem? (i := 160) rfl)) rfl), (am_tT 62 (by decide +kernel)), by decide +kernel⟩
set_option maxRecDepth 100000 in
theorem ce_X12_ahead : am_Ce mX12_ahead 1 := ⟨(am_tC (am_in6 _ (List.mem_of_getElem? (i := 165) rfl)) rfl), (am_tT 62 (by decide +kernel)), by decide +kernel⟩
set_option maxRecDepth 100000 in
theorem ce_X12_then : am_Ce mX12_then 3 := ⟨(am_tC (am_in6 _ (List.mem_of_getElem? (i := 157) rfl)) rfl), (am_tT 62 (by decide +kernel)), by decide +kernel⟩
set_option maxRecDepth 100000 in
theorem ce_X12_wholeIn : am_Ce mX12_wholeIn 1 := ⟨(am_tC (am_in6 _ (List.mem_of_getElem? (i := 175) rfl)) rfl), (am_tT 62 (by decide +kernel)), by decide +kernel⟩
set_option maxRecDepth 100000 in
theorem ce_X12_whole : am_Ce mX12_whole 1 := ⟨(am_tC (am_in6 _ (List.mem_of_getElem? (i := 172) rfl)) rfl), (am_tT 62 (by decide +kernel)), by decide +kernel⟩
set_option maxRecDepth 100000 in
theorem ce_X12_turnsIn : am_Ce mX12_turnsIn 2 := ⟨(am_tC (am_in6 _ (List.mem_of_getElem? (i := 183) rfl)) rfl), (am_tT 62 (by decide +kernel)), by decide +kernel⟩
set_option maxRecDepth 100000 in
theorem ce_X12_turns : am_Ce mX12_turns 1 := ⟨(am_tC (am_in6 _ (List.mem_of_getElem? (i := 179) rfl)) rfl), (am_tT 62 (by decide +kernel)), by decide +kernel⟩
set_option maxRecDepth 100000 in
theorem ce_X12_farIn : am_Ce mX12_farIn 3 := ⟨(am_tC (am_in6 _ (List.mem_of_getElem? (i := 191) rfl)) rfl), (am_tT 62 (by decide +kernel)), by decide +kernel⟩
set_option maxRecDepth 100000 in
theorem ce_X12_far : am_Ce mX12_far 2 := ⟨(am_tC (am_in6 _ (List.mem_of_getElem? (i := 187) rfl)) rfl), (am_tT 62 (by decide +kernel)), by decide +kernel⟩
set_option maxRecDepth 100000 in
theorem ce_X12_knock : am_Ce mX12_knock 3 := ⟨(am_tC (am_in6 _ (List.mem_of_getElem? (i := 195) rfl)) rfl), (am_tT 62 (by decide +kernel)), by decide +kernel⟩
set_option maxRecDepth 100000 in
theorem ce_X12_farthest : am_Ce mX12_farthest 3 := ⟨(am_tC (am_in6 _ (List.mem_of_getElem? (i := 199) rfl)) rfl), (am_tT 62 (by decide +kernel)), by decide +kernel⟩
set_option maxRecDepth 100000 in
theorem ce_X12_second : am_Ce mX12_second 3 := ⟨(am_tC (am_in6 _ (List.mem_of_getElem? (i := 205) rfl)) rfl), (am_tT 62 (by decide +kernel)), by decide +kernel⟩
set_option maxRecDepth 100000 in
theorem ce_X12_alike : am_Ce mX12_alike 2 := ⟨(am_tC (am_in6 _ (List.mem_of_getElem? (i := 209) rfl)) rfl), (am_tT 62 (by decide +kernel)), by decide +kernel⟩
set_option maxRecDepth 100000 in
theorem ce_X12_offIn : am_Ce mX12_offIn 2 := ⟨(am_tC (am_in6 _ (List.mem_of_getElem? (i := 224) rfl)) rfl), (am_tT 62 (by decide +kernel)), by decide +kernel⟩
set_option maxRecDepth 100000 in
theorem ce_X12_whyNoFilm : am_Ce mX12_whyNoFilm 1 := ⟨(am_tC (am_in6 _ (List.mem_of_getElem? (i := 217) rfl)) rfl), (am_tT 62 (by decide +kernel)), by decide +kernel⟩
set_option maxRecDepth 100000 in
theorem ce_X12_off : am_Ce mX12_off 1 := ⟨(am_tC (am_in6 _ (List.mem_of_getElem? (i := 213) rfl)) rfl), (am_tT 62 (by decide +kernel)), by decide +kernel⟩
set_option maxRecDepth 100000 in
theorem ce_X12_spun : am_Ce mX12_spun 1 := ⟨(am_tC (am_in6 _ (List.mem_of_getElem? (i := 230) rfl)) rfl), (am_tT 62 (by decide +kernel)), by decide +kernel⟩
set_option maxRecDepth 100000 in
theorem ce_X12_made : am_Ce mX12_made 1 := ⟨(am_tC (am_in6 _ (List.mem_of_getElem? (i := 234) rfl)) rfl), (am_tT 62 (by decide +kernel)), by decide +kernel⟩
set_option maxRecDepth 100000 in
theorem ce_X12_heart : am_Ce mX12_heart 1 := ⟨(am_tC (am_in6 _ (List.mem_of_getElem? (i := 238) rfl)) rfl), (am_tT 62 (by decide +kernel)), by decide +kernel⟩
set_option maxRecDepth 100000 in
theorem ce_X12_seed : am_Ce mX12_seed 1 := ⟨(am_tC (am_in7 _ (List.mem_of_getElem? (i := 3) rfl)) rfl), (am_tT 62 (by decide +kernel)), by decide +kernel⟩
set_option maxRecDepth 100000 in
theorem ce_X12_ran : am_Ce mX12_ran 1 := ⟨(am_tC (am_in7 _ (List.mem_of_getElem? (i := 19) rfl)) rfl), (am_tT 62 (by decide +kernel)), by decide +kernel⟩
set_option maxRecDepth 100000 in
theorem ce_X12_above : am_Ce mX12_above 1 := ⟨(am_tC (am_in7 _ (List.mem_of_getElem? (i := 22) rfl)) rfl), (am_tT 62 (by decide +kernel)), by decide +kernel⟩
set_option maxRecDepth 100000 in
theorem ce_X12_own : am_Ce mX12_own 0 := ⟨(am_tC (am_in7 _ (List.mem_of_getElem? (i := 11) rfl)) rfl), (am_tT 62 (by decide +kernel)), by decide +kernel⟩
set_option maxRecDepth 100000 in
theorem ce_X12_toldM : am_Ce mX12_toldM 0 := ⟨(am_tC (am_in7 _ (List.mem_of_getElem? (i := 34) rfl)) rfl), (am_tT 62 (by decide +kernel)), by decide +kernel⟩
set_option maxRecDepth 100000 in
theorem ce_X12_goes : am_Ce mX12_goes 2 := ⟨(am_tC (am_in7 _ (List.mem_of_getElem? (i := 15) rfl)) rfl), (am_tT 62 (by decide +kernel)), by decide +kernel⟩
set_option maxRecDepth 100000 in
theorem ce_X12_moves : am_Ce mX12_moves 2 := ⟨(am_tC (am_in7 _ (List.mem_of_getElem? (i := 26) rfl)) rfl), (am_tT 62 (by decide +kernel)), by decide +kernel⟩
set_option maxRecDepth 100000 in
theorem ce_X12_ends : am_Ce mX12_ends 2 := ⟨(am_tC (am_in7 _ (List.mem_of_getElem? (i := 30) rfl)) rfl), (am_tT 62 (by decide +kernel)), by decide +kernel⟩
set_option maxRecDepth 100000 in
theorem ce_X12_tells : am_Ce mX12_tells 2 := ⟨(am_tC (am_in7 _ (List.mem_of_getElem? (i := 38) rfl)) rfl), (am_tT 62 (by decide +kernel)), by decide +kernel⟩
set_option maxRecDepth 100000 in
theorem ce_X12_voice : am_Ce mX12_voice 3 := ⟨(am_tC (am_in7 _ (List.mem_of_getElem? (i := 7) rfl)) rfl), (am_tT 62 (by decide +kernel)), by decide +kernel⟩
set_option maxRecDepth 100000 in
theorem ce_X12_trace : am_Ce mX12_trace 1 := ⟨(am_tC (am_in7 _ (List.mem_of_getElem? (i := 42) rfl)) rfl), (am_tT 62 (by decide +kernel)), by decide +kernel⟩
set_option maxRecDepth 100000 in
theorem ce_X12_isSheet : am_Ce mX12_isSheet 1 := ⟨(am_tC (am_in6 _ (List.mem_of_getElem? (i := 220) rfl)) rfl), (am_tT 62 (by decide +kernel)), by decide +kernel⟩
set_option maxRecDepth 100000 in
theorem ce_X12_sheet : am_Ce mX12_sheet 3 := ⟨(am_tC (am_in7 _ (List.mem_of_getElem? (i := 46) rfl)) rfl), (am_tT 62 (by decide +kernel)), by decide +kernel⟩
set_option maxRecDepth 100000 in
theorem ce_X12_put : am_Ce mX12_put 3 := ⟨(am_tC (am_in7 _ (List.mem_of_getElem? (i := 50) rfl)) rfl), (am_tT 62 (by decide +kernel)), by decide +kernel⟩
set_option maxRecDepth 100000 in
theorem ce_X12_move : am_Ce mX12_move 5 := ⟨(am_tC (am_in7 _ (List.mem_of_getElem? (i := 54) rfl)) rfl), (am_tT 62 (by decide +kernel)), by decide +kernel⟩
set_option maxRecDepth 100000 in
theorem ce_X12_film : am_Ce mX12_film 1 := ⟨(am_tC (am_in7 _ (List.mem_of_getElem? (i := 58) rfl)) rfl), (am_tT 62 (by decide +kernel)), by decide +kernel⟩
set_option maxRecDepth 100000 in
theorem ce_X12_image : am_Ce mX12_image 0 := ⟨(am_tC (am_in7 _ (List.mem_of_getElem? (i := 62) rfl)) rfl), (am_tT 62 (by decide +kernel)), by decide +kernel⟩
set_option maxRecDepth 100000 in
theorem ce_X12_restore : am_Ce mX12_restore 0 := ⟨(am_tC (am_in7 _ (List.mem_of_getElem? (i := 66) rfl)) rfl), (am_tT 62 (by decide +kernel)), by decide +kernel⟩
set_option maxRecDepth 100000 in
theorem ce_X12_tell : am_Ce mX12_tell 1 := ⟨(am_tC (am_in7 _ (List.mem_of_getElem? (i := 70) rfl)) rfl), (am_tT 62 (by decide +kernel)), by decide +kernel⟩
set_option maxRecDepth 100000 in
theorem ce_X12_check : am_Ce mX12_check 1 := ⟨(am_tC (am_in7 _ (List.mem_of_getElem? (i := 74) rfl)) rfl), (am_tT 62 (by decide +kernel)), by decide +kernel⟩
set_option maxRecDepth 100000 in
theorem ce_X12_count : am_Ce mX12_count 1 := ⟨(am_tC (am_in7 _ (List.mem_of_getElem? (i := 78) rfl)) rfl), (am_tT 62 (by decide +kernel)), by decide +kernel⟩
set_option maxRecDepth 100000 in
theorem ce_X12_told : am_Ce mX12_told 1 := ⟨(am_tC (am_in7 _ (List.mem_of_getElem? (i := 82) rfl)) rfl), (am_tT 62 (by decide +kernel)), by decide +kernel⟩
set_option maxRecDepth 100000 in
theorem ce_J11_isValidCodePoint_9a6ad : am_Ce mJ11_isValidCodePoint_9a6ad 1 := ⟨(am_tC (am_in3 _ (List.mem_of_getElem? (i := 178) rfl)) rfl), (am_tT 75 (by decide +kernel)), by decide +kernel⟩
set_option maxRecDepth 100000 in
theorem ce_J11_highSurrogate_5068e : am_Ce mJ11_highSurrogate_5068e 1 := ⟨(am_tC (am_in3 _ (List.mem_of_getElem? (i := 181) rfl)) rfl), (am_tT 75 (by decide +kernel)), by decide +kernel⟩
set_option maxRecDepth 100000 in
theorem ce_J11_lowSurrogate_5068e : am_Ce mJ11_lowSurrogate_5068e 1 := ⟨(am_tC (am_in3 _ (List.mem_of_getElem? (i := 185) rfl)) rfl), (am_tT 75 (by decide +kernel)), by decide +kernel⟩
set_option maxRecDepth 100000 in
theorem ce_J9_abs_0f7a4 : am_Ce mJ9_abs_0f7a4 1 := ⟨(am_tC (am_in2 _ (List.mem_of_getElem? (i := 185) rfl)) rfl), (am_tT 63 (by decide +kernel)), by decide +kernel⟩
set_option maxRecDepth 100000 in
theorem ce_J9_abs_067f4 : am_Ce mJ9_abs_067f4 1 := ⟨(am_tC (am_in4 _ (List.mem_of_getElem? (i := 151) rfl)) rfl), (am_tT 63 (by decide +kernel)), by decide +kernel⟩
set_option maxRecDepth 100000 in
theorem ce_J9_max_7cf53 : am_Ce mJ9_max_7cf53 2 := ⟨(am_tC (am_in3 _ (List.mem_of_getElem? (i := 74) rfl)) rfl), (am_tT 63 (by decide +kernel)), by decide +kernel⟩
set_option maxRecDepth 100000 in
theorem ce_J9_min_7cf53 : am_Ce mJ9_min_7cf53 2 := ⟨(am_tC (am_in2 _ (List.mem_of_getElem? (i := 14) rfl)) rfl), (am_tT 63 (by decide +kernel)), by decide +kernel⟩
set_option maxRecDepth 100000 in
theorem ce_J9_min_f86c9 : am_Ce mJ9_min_f86c9 2 := ⟨(am_tC (am_in4 _ (List.mem_of_getElem? (i := 155) rfl)) rfl), (am_tT 63 (by decide +kernel)), by decide +kernel⟩
set_option maxRecDepth 100000 in
theorem ce_J0_length_8abf5 : am_Ce mJ0_length_8abf5 0 := ⟨(am_tC (am_in3 _ (List.mem_of_getElem? (i := 122) rfl)) rfl), (am_tT 71 (by decide +kernel)), by decide +kernel⟩
set_option maxRecDepth 100000 in
theorem ce_J0_indexOf_0f7a4 : am_Ce mJ0_indexOf_0f7a4 1 := ⟨(am_tC (am_in3 _ (List.mem_of_getElem? (i := 108) rfl)) rfl), (am_tT 71 (by decide +kernel)), by decide +kernel⟩
set_option maxRecDepth 100000 in
theorem ce_J0_indexOf_7cf53 : am_Ce mJ0_indexOf_7cf53 2 := ⟨(am_tC (am_in3 _ (List.mem_of_getElem? (i := 112) rfl)) rfl), (am_tT 71 (by decide +kernel)), by decide +kernel⟩
set_option maxRecDepth 100000 in
theorem ce_J0_coder_7d493 : am_Ce mJ0_coder_7d493 0 := ⟨(am_tC (am_in3 _ (List.mem_of_getElem? (i := 126) rfl)) rfl), (am_tT 71 (by decide +kernel)), by decide +kernel⟩
set_option maxRecDepth 100000 in
theorem ce_J0_isLatin1_aae02 : am_Ce mJ0_isLatin1_aae02 0 := ⟨(am_tC (am_in3 _ (List.mem_of_getElem? (i := 116) rfl)) rfl), (am_tT 71 (by decide +kernel)), by decide +kernel⟩
set_option maxRecDepth 100000 in
theorem ce_J0_checkBoundsBeginEnd_23922 : am_Ce mJ0_checkBoundsBeginEnd_23922 3 := ⟨(am_tC (am_in3 _ (List.mem_of_getElem? (i := 155) rfl)) rfl), (am_tT 71 (by decide +kernel)), by decide +kernel⟩
set_option maxRecDepth 100000 in
theorem ce_J1_canEncode_9a6ad : am_Ce mJ1_canEncode_9a6ad 1 := ⟨(am_tC (am_in3 _ (List.mem_of_getElem? (i := 132) rfl)) rfl), (am_tT 72 (by decide +kernel)), by decide +kernel⟩
set_option maxRecDepth 100000 in
theorem ce_J1_indexOf_4cfef : am_Ce mJ1_indexOf_4cfef 4 := ⟨(am_tC (am_in3 _ (List.mem_of_getElem? (i := 129) rfl)) rfl), (am_tT 72 (by decide +kernel)), by decide +kernel⟩
set_option maxRecDepth 100000 in
theorem ce_J1_indexOfChar_4cfef : am_Ce mJ1_indexOfChar_4cfef 4 := ⟨(am_tC (am_in3 _ (List.mem_of_getElem? (i := 137) rfl)) rfl), (am_tT 72 (by decide +kernel)), by decide +kernel⟩
set_option maxRecDepth 100000 in
theorem ce_J2_getChar_3b067 : am_Ce mJ2_getChar_3b067 2 := ⟨(am_tC (am_in3 _ (List.mem_of_getElem? (i := 166) rfl)) rfl), (am_tT 73 (by decide +kernel)), by decide +kernel⟩
set_option maxRecDepth 100000 in
theorem ce_J2_length_9d52b : am_Ce mJ2_length_9d52b 1 := ⟨(am_tC (am_in3 _ (List.mem_of_getElem? (i := 152) rfl)) rfl), (am_tT 73 (by decide +kernel)), by decide +kernel⟩
set_option maxRecDepth 100000 in
theorem ce_J2_indexOf_4cfef : am_Ce mJ2_indexOf_4cfef 4 := ⟨(am_tC (am_in3 _ (List.mem_of_getElem? (i := 140) rfl)) rfl), (am_tT 73 (by decide +kernel)), by decide +kernel⟩
set_option maxRecDepth 100000 in
theorem ce_J2_indexOfChar_4cfef : am_Ce mJ2_indexOfChar_4cfef 4 := ⟨(am_tC (am_in3 _ (List.mem_of_getElem? (i := 146) rfl)) rfl), (am_tT 73 (by decide +kernel)), by decide +kernel⟩
set_option maxRecDepth 100000 in
theorem ce_J2_indexOfCharUnsafe_4cfef : am_Ce mJ2_indexOfCharUnsafe_4cfef 4 := ⟨(am_tC (am_in3 _ (List.mem_of_getElem? (i := 163) rfl)) rfl), (am_tT 73 (by decide +kernel)), by decide +kernel⟩
set_option maxRecDepth 100000 in
theorem ce_J2_indexOfSupplementary_4cfef : am_Ce mJ2_indexOfSupplementary_4cfef 4 := ⟨(am_tC (am_in3 _ (List.mem_of_getElem? (i := 175) rfl)) rfl), (am_tT 73 (by decide +kernel)), by decide +kernel⟩
set_option maxRecDepth 100000 in
theorem ce_J2_checkBoundsBeginEnd_d044e : am_Ce mJ2_checkBoundsBeginEnd_d044e 3 := ⟨(am_tC (am_in3 _ (List.mem_of_getElem? (i := 149) rfl)) rfl), (am_tT 73 (by decide +kernel)), by decide +kernel⟩
set_option maxRecDepth 100000 in
theorem ce_J7_fill_53178 : am_Ce mJ7_fill_53178 2 := ⟨(am_tC (am_in5 _ (List.mem_of_getElem? (i := 39) rfl)) rfl), (am_tT 77 (by decide +kernel)), by decide +kernel⟩
set_option maxRecDepth 100000 in
theorem ce_J3_checkFromToIndex_8c36e : am_Ce mJ3_checkFromToIndex_8c36e 4 := ⟨(am_tC (am_in3 _ (List.mem_of_getElem? (i := 160) rfl)) rfl), (am_tT 74 (by decide +kernel)), by decide +kernel⟩
theorem kc_X4_29 : Cond.constant RX4 29 (99999) ∈ am_T := (am_tT 145 (by decide +kernel))
theorem kc_X11_53 : Cond.constant RX11 53 (100000) ∈ am_T := (am_tT 287 (by decide +kernel))
theorem kc_X11_54 : Cond.constant RX11 54 (-99999) ∈ am_T := (am_tT 288 (by decide +kernel))
theorem kc_X11_55 : Cond.constant RX11 55 (99999) ∈ am_T := (am_tT 289 (by decide +kernel))
theorem kc_X11_60 : Cond.constant RX11 60 (-1000000001) ∈ am_T := (am_tT 293 (by decide +kernel))
theorem kc_X11_322 : Cond.constant RX11 322 (-1000000000) ∈ am_T := (am_tT 298 (by decide +kernel))
theorem kc_X11_69 : Cond.constant RX11 69 (-1000000004) ∈ am_T := (am_tT 303 (by decide +kernel))
theorem kc_X11_131 : Cond.constant RX11 131 (-1000000005) ∈ am_T := (am_tT 458 (by decide +kernel))
theorem kc_X11_177 : Cond.constantLong RX11 177 (255) ∈ am_T := (am_tT 615 (by decide +kernel))
theorem kc_J2_227 : Cond.constant RJ2 227 (65536) ∈ am_T := (am_tT 679 (by decide +kernel))
theorem kc_J11_110 : Cond.constant RJ11 110 (55232) ∈ am_T := (am_tT 718 (by decide +kernel))
theorem kc_J11_76 : Cond.constant RJ11 76 (56320) ∈ am_T := (am_tT 722 (by decide +kernel))
theorem kc_X11_288 : Cond.constant RX11 288 (-1000000003) ∈ am_T := (am_tT 771 (by decide +kernel))
theorem kc_X4_172 : Cond.constant RX4 172 (-99999) ∈ am_T := (am_tT 791 (by decide +kernel))
theorem kc_X4_160 : Cond.constant RX4 160 (1103515245) ∈ am_T := (am_tT 819 (by decide +kernel))
theorem kc_X11_210 : Cond.constant RX11 210 (-1000000002) ∈ am_T := (am_tT 832 (by decide +kernel))
theorem kc_X11_258 : Cond.constant RX11 258 (40000001) ∈ am_T := (am_tT 920 (by decide +kernel))
theorem kc_X11_330 : Cond.constantLong RX11 330 (1000000) ∈ am_T := (am_tT 928 (by decide +kernel))
theorem kc_X12_46 : Cond.constant RX12 46 (99999) ∈ am_T := (am_tT 1112 (by decide +kernel))
theorem kc_X12_52 : Cond.constant RX12 52 (100000) ∈ am_T := (am_tT 1181 (by decide +kernel))
theorem kc_X12_53 : Cond.constantLong RX12 53 (-99999) ∈ am_T := (am_tT 1182 (by decide +kernel))
theorem kc_X12_55 : Cond.constantLong RX12 55 (99999) ∈ am_T := (am_tT 1183 (by decide +kernel))
theorem kc_X12_57 : Cond.constantLong RX12 57 (-999) ∈ am_T := (am_tT 1187 (by decide +kernel))
theorem kc_X12_59 : Cond.constantLong RX12 59 (999) ∈ am_T := (am_tT 1188 (by decide +kernel))
theorem kc_X12_61 : Cond.constantLong RX12 61 (200) ∈ am_T := (am_tT 1189 (by decide +kernel))
theorem kc_X12_63 : Cond.constantLong RX12 63 (50) ∈ am_T := (am_tT 1190 (by decide +kernel))
theorem kc_X12_47 : Cond.constant RX12 47 (-1000000000) ∈ am_T := (am_tT 1195 (by decide +kernel))
theorem kc_X12_81 : Cond.constantLong RX12 81 (7) ∈ am_T := (am_tT 1207 (by decide +kernel))
theorem kc_X12_87 : Cond.constantLong RX12 87 (6) ∈ am_T := (am_tT 1226 (by decide +kernel))
theorem kc_X12_89 : Cond.constantLong RX12 89 (99) ∈ am_T := (am_tT 1227 (by decide +kernel))
theorem kc_X12_94 : Cond.constantLong RX12 94 (2) ∈ am_T := (am_tT 1236 (by decide +kernel))
theorem kc_X12_117 : Cond.constantLong RX12 117 (3) ∈ am_T := (am_tT 1252 (by decide +kernel))
theorem kc_X12_185 : Cond.constantLong RX12 185 (8) ∈ am_T := (am_tT 1285 (by decide +kernel))
theorem kc_X12_187 : Cond.constantLong RX12 187 (255) ∈ am_T := (am_tT 1286 (by decide +kernel))
theorem kc_X12_181 : Cond.constantLong RX12 181 (48) ∈ am_T := (am_tT 1335 (by decide +kernel))
theorem kc_X12_183 : Cond.constantLong RX12 183 (57) ∈ am_T := (am_tT 1336 (by decide +kernel))
theorem kc_X12_201 : Cond.constantLong RX12 201 (400) ∈ am_T := (am_tT 1356 (by decide +kernel))
theorem kc_X12_228 : Cond.constantLong RX12 228 (100) ∈ am_T := (am_tT 1373 (by decide +kernel))
theorem kc_X12_213 : Cond.constant RX12 213 (-99999) ∈ am_T := (am_tT 1389 (by decide +kernel))
theorem kc_X12_233 : Cond.constant RX12 233 (1103515245) ∈ am_T := (am_tT 1402 (by decide +kernel))
theorem kc_X12_238 : Cond.constantLong RX12 238 (60) ∈ am_T := (am_tT 1417 (by decide +kernel))
theorem kc_X12_260 : Cond.constantLong RX12 260 (40) ∈ am_T := (am_tT 1456 (by decide +kernel))
theorem kc_X12_262 : Cond.constantLong RX12 262 (20) ∈ am_T := (am_tT 1457 (by decide +kernel))
theorem kc_X12_264 : Cond.constantLong RX12 264 (1000000) ∈ am_T := (am_tT 1481 (by decide +kernel))
theorem kc_X12_266 : Cond.constant RX12 266 (1000000) ∈ am_T := (am_tT 1482 (by decide +kernel))
theorem kc_X12_276 : Cond.constantLong RX12 276 (9999) ∈ am_T := (am_tT 1495 (by decide +kernel))
theorem kc_X12_311 : Cond.constantLong RX12 311 (5) ∈ am_T := (am_tT 1579 (by decide +kernel))
theorem kc_L_69 : Cond.constantLong RL 69 (4294967295) ∈ am_T := (am_tT 1580 (by decide +kernel))
theorem fl_X3_7_3 : am_Fl RX3 7 3 0 := ⟨_, RX3, rfl, by decide, (am_tT 99 (by decide +kernel)), Or.inl rfl⟩
theorem fl_X4_184_3 : am_Fl RX4 184 3 0 := ⟨_, RX3, rfl, by decide, (am_tT 100 (by decide +kernel)), Or.inl rfl⟩
theorem fl_X3_22_3 : am_Fl RX3 22 3 1 := ⟨_, RX3, rfl, by decide, (am_tT 101 (by decide +kernel)), Or.inl rfl⟩
theorem fl_X10_7_3 : am_Fl RX10 7 3 1 := ⟨_, RX3, rfl, by decide, (am_tT 102 (by decide +kernel)), Or.inl rfl⟩
theorem fl_X4_93_3 : am_Fl RX4 93 3 1 := ⟨_, RX3, rfl, by decide, (am_tT 103 (by decide +kernel)), Or.inl rfl⟩
theorem fl_X11_229_3 : am_Fl RX11 229 3 1 := ⟨_, RX3, rfl, by decide, (am_tT 104 (by decide +kernel)), Or.inl rfl⟩
theorem fl_X3_25_3 : am_Fl RX3 25 3 2 := ⟨_, RX3, rfl, by decide, (am_tT 105 (by decide +kernel)), Or.inl rfl⟩
theorem fl_X4_96_3 : am_Fl RX4 96 3 2 := ⟨_, RX3, rfl, by decide, (am_tT 106 (by decide +kernel)), Or.inl rfl⟩
theorem fl_X3_13_3 : am_Fl RX3 13 3 3 := ⟨_, RX3, rfl, by decide, (am_tT 107 (by decide +kernel)), Or.inl rfl⟩
theorem fl_X0_7_3 : am_Fl RX0 7 3 3 := ⟨_, RX3, rfl, by decide, (am_tT 108 (by decide +kernel)), Or.inl rfl⟩
theorem fl_X2_28_3 : am_Fl RX2 28 3 3 := ⟨_, RX3, rfl, by decide, (am_tT 109 (by decide +kernel)), Or.inl rfl⟩
theorem fl_X4_99_3 : am_Fl RX4 99 3 3 := ⟨_, RX3, rfl, by decide, (am_tT 110 (by decide +kernel)), Or.inl rfl⟩
theorem fl_X2_19_3 : am_Fl RX2 19 3 4 := ⟨_, RX3, rfl, by decide, (am_tT 111 (by decide +kernel)), Or.inl rfl⟩
theorem fl_X3_28_3 : am_Fl RX3 28 3 4 := ⟨_, RX3, rfl, by decide, (am_tT 112 (by decide +kernel)), Or.inl rfl⟩
theorem fl_X10_24_3 : am_Fl RX10 24 3 4 := ⟨_, RX3, rfl, by decide, (am_tT 113 (by decide +kernel)), Or.inl rfl⟩
theorem fl_X4_102_3 : am_Fl RX4 102 3 4 := ⟨_, RX3, rfl, by decide, (am_tT 114 (by decide +kernel)), Or.inl rfl⟩
theorem fl_X11_232_3 : am_Fl RX11 232 3 4 := ⟨_, RX3, rfl, by decide, (am_tT 115 (by decide +kernel)), Or.inl rfl⟩
theorem fl_X3_16_3 : am_Fl RX3 16 3 5 := ⟨_, RX3, rfl, by decide, (am_tT 116 (by decide +kernel)), Or.inl rfl⟩
theorem fl_X9_9_3 : am_Fl RX9 9 3 5 := ⟨_, RX3, rfl, by decide, (am_tT 117 (by decide +kernel)), Or.inl rfl⟩
theorem fl_X4_105_3 : am_Fl RX4 105 3 5 := ⟨_, RX3, rfl, by decide, (am_tT 118 (by decide +kernel)), Or.inl rfl⟩
theorem fl_X11_235_3 : am_Fl RX11 235 3 5 := ⟨_, RX3, rfl, by decide, (am_tT 119 (by decide +kernel)), Or.inl rfl⟩
theorem fl_X3_19_3 : am_Fl RX3 19 3 6 := ⟨_, RX3, rfl, by decide, (am_tT 120 (by decide +kernel)), Or.inl rfl⟩
theorem fl_X8_19_3 : am_Fl RX8 19 3 6 := ⟨_, RX3, rfl, by decide, (am_tT 121 (by decide +kernel)), Or.inl rfl⟩
theorem fl_X4_108_3 : am_Fl RX4 108 3 6 := ⟨_, RX3, rfl, by decide, (am_tT 122 (by decide +kernel)), Or.inl rfl⟩
theorem fl_X3_31_3 : am_Fl RX3 31 3 7 := ⟨_, RX3, rfl, by decide, (am_tT 123 (by decide +kernel)), Or.inl rfl⟩
theorem fl_X11_87_3 : am_Fl RX11 87 3 7 := ⟨_, RX3, rfl, by decide, (am_tT 124 (by decide +kernel)), Or.inl rfl⟩
theorem fl_X4_111_3 : am_Fl RX4 111 3 7 := ⟨_, RX3, rfl, by decide, (am_tT 125 (by decide +kernel)), Or.inl rfl⟩
theorem fl_X7_9_7 : am_Fl RX7 9 7 0 := ⟨_, RX7, rfl, by decide, (am_tT 153 (by decide +kernel)), Or.inl rfl⟩
theorem fl_X7_18_7 : am_Fl RX7 18 7 1 := ⟨_, RX7, rfl, by decide, (am_tT 154 (by decide +kernel)), Or.inl rfl⟩
theorem fl_X4_126_7 : am_Fl RX4 126 7 1 := ⟨_, RX7, rfl, by decide, (am_tT 155 (by decide +kernel)), Or.inl rfl⟩
theorem fl_X7_15_7 : am_Fl RX7 15 7 2 := ⟨_, RX7, rfl, by decide, (am_tT 156 (by decide +kernel)), Or.inl rfl⟩
theorem fl_X7_28_7 : am_Fl RX7 28 7 3 := ⟨_, RX7, rfl, by decide, (am_tT 157 (by decide +kernel)), Or.inl rfl⟩
theorem fl_X7_31_7 : am_Fl RX7 31 7 4 := ⟨_, RX7, rfl, by decide, (am_tT 158 (by decide +kernel)), Or.inl rfl⟩
theorem fl_X7_34_7 : am_Fl RX7 34 7 5 := ⟨_, RX7, rfl, by decide, (am_tT 159 (by decide +kernel)), Or.inl rfl⟩
theorem fl_X7_37_7 : am_Fl RX7 37 7 6 := ⟨_, RX7, rfl, by decide, (am_tT 160 (by decide +kernel)), Or.inl rfl⟩
theorem fl_X5_7_5 : am_Fl RX5 7 5 0 := ⟨_, RX5, rfl, by decide, (am_tT 183 (by decide +kernel)), Or.inl rfl⟩
theorem fl_X7_44_5 : am_Fl RX7 44 5 0 := ⟨_, RX5, rfl, by decide, (am_tT 184 (by decide +kernel)), Or.inl rfl⟩
theorem fl_X11_282_5 : am_Fl RX11 282 5 0 := ⟨_, RX5, rfl, by decide, (am_tT 185 (by decide +kernel)), Or.inl rfl⟩
theorem fl_X5_13_5 : am_Fl RX5 13 5 1 := ⟨_, RX5, rfl, by decide, (am_tT 186 (by decide +kernel)), Or.inl rfl⟩
theorem fl_X7_41_5 : am_Fl RX7 41 5 1 := ⟨_, RX5, rfl, by decide, (am_tT 187 (by decide +kernel)), Or.inl rfl⟩
theorem fl_X11_174_5 : am_Fl RX11 174 5 1 := ⟨_, RX5, rfl, by decide, (am_tT 188 (by decide +kernel)), Or.inl rfl⟩
theorem fl_X5_29_5 : am_Fl RX5 29 5 2 := ⟨_, RX5, rfl, by decide, (am_tT 189 (by decide +kernel)), Or.inl rfl⟩
theorem fl_X11_299_5 : am_Fl RX11 299 5 2 := ⟨_, RX5, rfl, by decide, (am_tT 190 (by decide +kernel)), Or.inl rfl⟩
theorem fl_X4_11_4 : am_Fl RX4 11 4 0 := ⟨_, RX4, rfl, by decide, (am_tT 198 (by decide +kernel)), Or.inl rfl⟩
theorem fl_X11_78_4 : am_Fl RX11 78 4 0 := ⟨_, RX4, rfl, by decide, (am_tT 199 (by decide +kernel)), Or.inl rfl⟩
theorem fl_X4_77_4 : am_Fl RX4 77 4 1 := ⟨_, RX4, rfl, by decide, (am_tT 200 (by decide +kernel)), Or.inl rfl⟩
theorem fl_X11_244_4 : am_Fl RX11 244 4 1 := ⟨_, RX4, rfl, by decide, (am_tT 201 (by decide +kernel)), Or.inl rfl⟩
theorem fl_X4_17_4 : am_Fl RX4 17 4 2 := ⟨_, RX4, rfl, by decide, (am_tT 202 (by decide +kernel)), Or.inl rfl⟩
theorem fl_X4_25_4 : am_Fl RX4 25 4 3 := ⟨_, RX4, rfl, by decide, (am_tT 203 (by decide +kernel)), Or.inl rfl⟩
theorem fl_X11_112_4 : am_Fl RX11 112 4 3 := ⟨_, RX4, rfl, by decide, (am_tT 204 (by decide +kernel)), Or.inl rfl⟩
theorem fl_X4_61_4 : am_Fl RX4 61 4 4 := ⟨_, RX4, rfl, by decide, (am_tT 205 (by decide +kernel)), Or.inl rfl⟩
theorem fl_X11_98_4 : am_Fl RX11 98 4 4 := ⟨_, RX4, rfl, by decide, (am_tT 206 (by decide +kernel)), Or.inl rfl⟩
theorem fl_X4_64_4 : am_Fl RX4 64 4 5 := ⟨_, RX4, rfl, by decide, (am_tT 207 (by decide +kernel)), Or.inl rfl⟩
theorem fl_X11_132_4 : am_Fl RX11 132 4 5 := ⟨_, RX4, rfl, by decide, (am_tT 208 (by decide +kernel)), Or.inl rfl⟩
theorem fl_X4_30_4 : am_Fl RX4 30 4 6 := ⟨_, RX4, rfl, by decide, (am_tT 209 (by decide +kernel)), Or.inl rfl⟩
theorem fl_X11_95_4 : am_Fl RX11 95 4 6 := ⟨_, RX4, rfl, by decide, (am_tT 210 (by decide +kernel)), Or.inl rfl⟩
theorem fl_X4_34_4 : am_Fl RX4 34 4 7 := ⟨_, RX4, rfl, by decide, (am_tT 211 (by decide +kernel)), Or.inl rfl⟩
theorem fl_X11_161_4 : am_Fl RX11 161 4 7 := ⟨_, RX4, rfl, by decide, (am_tT 212 (by decide +kernel)), Or.inl rfl⟩
theorem fl_X4_67_4 : am_Fl RX4 67 4 8 := ⟨_, RX4, rfl, by decide, (am_tT 213 (by decide +kernel)), Or.inl rfl⟩
theorem fl_X11_312_4 : am_Fl RX11 312 4 8 := ⟨_, RX4, rfl, by decide, (am_tT 214 (by decide +kernel)), Or.inl rfl⟩
theorem fl_X4_37_4 : am_Fl RX4 37 4 9 := ⟨_, RX4, rfl, by decide, (am_tT 215 (by decide +kernel)), Or.inl rfl⟩
theorem fl_X11_263_4 : am_Fl RX11 263 4 9 := ⟨_, RX4, rfl, by decide, (am_tT 216 (by decide +kernel)), Or.inl rfl⟩
theorem fl_X4_42_4 : am_Fl RX4 42 4 10 := ⟨_, RX4, rfl, by decide, (am_tT 217 (by decide +kernel)), Or.inl rfl⟩
theorem fl_X11_190_4 : am_Fl RX11 190 4 10 := ⟨_, RX4, rfl, by decide, (am_tT 218 (by decide +kernel)), Or.inl rfl⟩
theorem fl_X4_50_4 : am_Fl RX4 50 4 11 := ⟨_, RX4, rfl, by decide, (am_tT 219 (by decide +kernel)), Or.inl rfl⟩
theorem fl_X11_171_4 : am_Fl RX11 171 4 11 := ⟨_, RX4, rfl, by decide, (am_tT 220 (by decide +kernel)), Or.inl rfl⟩
theorem fl_X4_54_4 : am_Fl RX4 54 4 12 := ⟨_, RX4, rfl, by decide, (am_tT 221 (by decide +kernel)), Or.inl rfl⟩
theorem fl_X11_315_4 : am_Fl RX11 315 4 12 := ⟨_, RX4, rfl, by decide, (am_tT 222 (by decide +kernel)), Or.inl rfl⟩
theorem fl_X11_12_11 : am_Fl RX11 12 11 0 := ⟨_, RX11, rfl, by decide, (am_tT 255 (by decide +kernel)), Or.inl rfl⟩
theorem fl_X11_16_11 : am_Fl RX11 16 11 1 := ⟨_, RX11, rfl, by decide, (am_tT 256 (by decide +kernel)), Or.inl rfl⟩
theorem fl_X11_19_11 : am_Fl RX11 19 11 2 := ⟨_, RX11, rfl, by decide, (am_tT 257 (by decide +kernel)), Or.inl rfl⟩
theorem fl_X11_22_11 : am_Fl RX11 22 11 3 := ⟨_, RX11, rfl, by decide, (am_tT 258 (by decide +kernel)), Or.inl rfl⟩
theorem fl_X11_25_11 : am_Fl RX11 25 11 4 := ⟨_, RX11, rfl, by decide, (am_tT 259 (by decide +kernel)), Or.inl rfl⟩
theorem fl_X11_31_11 : am_Fl RX11 31 11 5 := ⟨_, RX11, rfl, by decide, (am_tT 260 (by decide +kernel)), Or.inl rfl⟩
theorem fl_X11_38_11 : am_Fl RX11 38 11 6 := ⟨_, RX11, rfl, by decide, (am_tT 261 (by decide +kernel)), Or.inl rfl⟩
theorem fl_X11_45_11 : am_Fl RX11 45 11 7 := ⟨_, RX11, rfl, by decide, (am_tT 262 (by decide +kernel)), Or.inl rfl⟩
theorem fl_X11_49_11 : am_Fl RX11 49 11 8 := ⟨_, RX11, rfl, by decide, (am_tT 263 (by decide +kernel)), Or.inl rfl⟩
theorem fl_X2_7_0 : am_Fl RX2 7 0 0 := ⟨_, RX2, rfl, by decide, (am_tT 358 (by decide +kernel)), Or.inl rfl⟩
theorem fl_X2_7_1 : am_Fl RX2 7 1 0 := ⟨_, RX2, rfl, by decide, (am_tT 358 (by decide +kernel)), Or.inl rfl⟩
theorem fl_X2_7_2 : am_Fl RX2 7 2 0 := ⟨_, RX2, rfl, by decide, (am_tT 358 (by decide +kernel)), Or.inl rfl⟩
theorem fl_X2_7_6 : am_Fl RX2 7 6 0 := ⟨_, RX2, rfl, by decide, (am_tT 358 (by decide +kernel)), Or.inl rfl⟩
theorem fl_X2_7_8 : am_Fl RX2 7 8 0 := ⟨_, RX2, rfl, by decide, (am_tT 358 (by decide +kernel)), Or.inl rfl⟩
theorem fl_X2_7_9 : am_Fl RX2 7 9 0 := ⟨_, RX2, rfl, by decide, (am_tT 358 (by decide +kernel)), Or.inl rfl⟩
theorem fl_X2_7_10 : am_Fl RX2 7 10 0 := ⟨_, RX2, rfl, by decide, (am_tT 358 (by decide +kernel)), Or.inl rfl⟩
theorem fl_X11_116_0 : am_Fl RX11 116 0 0 := ⟨_, RX2, rfl, by decide, (am_tT 359 (by decide +kernel)), Or.inl rfl⟩
theorem fl_X11_116_1 : am_Fl RX11 116 1 0 := ⟨_, RX2, rfl, by decide, (am_tT 359 (by decide +kernel)), Or.inl rfl⟩
theorem fl_X11_116_2 : am_Fl RX11 116 2 0 := ⟨_, RX2, rfl, by decide, (am_tT 359 (by decide +kernel)), Or.inl rfl⟩
theorem fl_X11_116_6 : am_Fl RX11 116 6 0 := ⟨_, RX2, rfl, by decide, (am_tT 359 (by decide +kernel)), Or.inl rfl⟩
theorem fl_X11_116_8 : am_Fl RX11 116 8 0 := ⟨_, RX2, rfl, by decide, (am_tT 359 (by decide +kernel)), Or.inl rfl⟩
theorem fl_X11_116_9 : am_Fl RX11 116 9 0 := ⟨_, RX2, rfl, by decide, (am_tT 359 (by decide +kernel)), Or.inl rfl⟩
theorem fl_X11_116_10 : am_Fl RX11 116 10 0 := ⟨_, RX2, rfl, by decide, (am_tT 359 (by decide +kernel)), Or.inl rfl⟩
theorem fl_X2_13_0 : am_Fl RX2 13 0 1 := ⟨_, RX2, rfl, by decide, (am_tT 360 (by decide +kernel)), Or.inl rfl⟩
theorem fl_X2_13_1 : am_Fl RX2 13 1 1 := ⟨_, RX2, rfl, by decide, (am_tT 360 (by decide +kernel)), Or.inl rfl⟩
theorem fl_X2_13_2 : am_Fl RX2 13 2 1 := ⟨_, RX2, rfl, by decide, (am_tT 360 (by decide +kernel)), Or.inl rfl⟩
theorem fl_X2_13_6 : am_Fl RX2 13 6 1 := ⟨_, RX2, rfl, by decide, (am_tT 360 (by decide +kernel)), Or.inl rfl⟩
theorem fl_X2_13_8 : am_Fl RX2 13 8 1 := ⟨_, RX2, rfl, by decide, (am_tT 360 (by decide +kernel)), Or.inl rfl⟩
theorem fl_X2_13_9 : am_Fl RX2 13 9 1 := ⟨_, RX2, rfl, by decide, (am_tT 360 (by decide +kernel)), Or.inl rfl⟩
theorem fl_X2_13_10 : am_Fl RX2 13 10 1 := ⟨_, RX2, rfl, by decide, (am_tT 360 (by decide +kernel)), Or.inl rfl⟩
theorem fl_X10_37_6 : am_Fl RX10 37 6 1 := ⟨_, RX10, rfl, by decide, (am_tT 361 (by decide +kernel)), Or.inr (am_tT 362 (by decide +kernel))⟩
theorem fl_X10_37_10 : am_Fl RX10 37 10 1 := ⟨_, RX10, rfl, by decide, (am_tT 361 (by decide +kernel)), Or.inr (am_tT 362 (by decide +kernel))⟩
theorem fl_X2_16_0 : am_Fl RX2 16 0 2 := ⟨_, RX2, rfl, by decide, (am_tT 363 (by decide +kernel)), Or.inl rfl⟩
theorem fl_X2_16_1 : am_Fl RX2 16 1 2 := ⟨_, RX2, rfl, by decide, (am_tT 363 (by decide +kernel)), Or.inl rfl⟩
theorem fl_X2_16_2 : am_Fl RX2 16 2 2 := ⟨_, RX2, rfl, by decide, (am_tT 363 (by decide +kernel)), Or.inl rfl⟩
theorem fl_X2_16_6 : am_Fl RX2 16 6 2 := ⟨_, RX2, rfl, by decide, (am_tT 363 (by decide +kernel)), Or.inl rfl⟩
theorem fl_X2_16_8 : am_Fl RX2 16 8 2 := ⟨_, RX2, rfl, by decide, (am_tT 363 (by decide +kernel)), Or.inl rfl⟩
theorem fl_X2_16_9 : am_Fl RX2 16 9 2 := ⟨_, RX2, rfl, by decide, (am_tT 363 (by decide +kernel)), Or.inl rfl⟩
theorem fl_X2_16_10 : am_Fl RX2 16 10 2 := ⟨_, RX2, rfl, by decide, (am_tT 363 (by decide +kernel)), Or.inl rfl⟩
theorem fl_X1_19_1 : am_Fl RX1 19 1 2 := ⟨_, RX1, rfl, by decide, (am_tT 364 (by decide +kernel)), Or.inr (am_tT 365 (by decide +kernel))⟩
theorem fl_X10_19_6 : am_Fl RX10 19 6 2 := ⟨_, RX10, rfl, by decide, (am_tT 366 (by decide +kernel)), Or.inr (am_tT 367 (by decide +kernel))⟩
theorem fl_X10_19_10 : am_Fl RX10 19 10 2 := ⟨_, RX10, rfl, by decide, (am_tT 366 (by decide +kernel)), Or.inr (am_tT 367 (by decide +kernel))⟩
theorem fl_X6_26_6 : am_Fl RX6 26 6 2 := ⟨_, RX6, rfl, by decide, (am_tT 368 (by decide +kernel)), Or.inr (am_tT 369 (by decide +kernel))⟩
theorem fl_X11_121_0 : am_Fl RX11 121 0 2 := ⟨_, RX2, rfl, by decide, (am_tT 370 (by decide +kernel)), Or.inl rfl⟩
theorem fl_X11_121_1 : am_Fl RX11 121 1 2 := ⟨_, RX2, rfl, by decide, (am_tT 370 (by decide +kernel)), Or.inl rfl⟩
theorem fl_X11_121_2 : am_Fl RX11 121 2 2 := ⟨_, RX2, rfl, by decide, (am_tT 370 (by decide +kernel)), Or.inl rfl⟩
theorem fl_X11_121_6 : am_Fl RX11 121 6 2 := ⟨_, RX2, rfl, by decide, (am_tT 370 (by decide +kernel)), Or.inl rfl⟩
theorem fl_X11_121_8 : am_Fl RX11 121 8 2 := ⟨_, RX2, rfl, by decide, (am_tT 370 (by decide +kernel)), Or.inl rfl⟩
theorem fl_X11_121_9 : am_Fl RX11 121 9 2 := ⟨_, RX2, rfl, by decide, (am_tT 370 (by decide +kernel)), Or.inl rfl⟩
theorem fl_X11_121_10 : am_Fl RX11 121 10 2 := ⟨_, RX2, rfl, by decide, (am_tT 370 (by decide +kernel)), Or.inl rfl⟩
theorem fl_X12_7_12 : am_Fl RX12 7 12 0 := ⟨_, RX12, rfl, by decide, (am_tT 1113 (by decide +kernel)), Or.inl rfl⟩
theorem fl_X12_13_12 : am_Fl RX12 13 12 1 := ⟨_, RX12, rfl, by decide, (am_tT 1114 (by decide +kernel)), Or.inl rfl⟩
theorem fl_X12_16_12 : am_Fl RX12 16 12 2 := ⟨_, RX12, rfl, by decide, (am_tT 1115 (by decide +kernel)), Or.inl rfl⟩
theorem fl_X12_19_12 : am_Fl RX12 19 12 3 := ⟨_, RX12, rfl, by decide, (am_tT 1116 (by decide +kernel)), Or.inl rfl⟩
theorem fl_X12_22_12 : am_Fl RX12 22 12 4 := ⟨_, RX12, rfl, by decide, (am_tT 1117 (by decide +kernel)), Or.inl rfl⟩
theorem fl_X12_308_12 : am_Fl RX12 308 12 5 := ⟨_, RX12, rfl, by decide, (am_tT 1118 (by decide +kernel)), Or.inl rfl⟩
theorem fl_X12_25_12 : am_Fl RX12 25 12 6 := ⟨_, RX12, rfl, by decide, (am_tT 1119 (by decide +kernel)), Or.inl rfl⟩
theorem fl_X12_140_12 : am_Fl RX12 140 12 7 := ⟨_, RX12, rfl, by decide, (am_tT 1120 (by decide +kernel)), Or.inl rfl⟩
theorem fl_X12_130_12 : am_Fl RX12 130 12 8 := ⟨_, RX12, rfl, by decide, (am_tT 1121 (by decide +kernel)), Or.inl rfl⟩
theorem fl_X12_134_12 : am_Fl RX12 134 12 9 := ⟨_, RX12, rfl, by decide, (am_tT 1122 (by decide +kernel)), Or.inl rfl⟩
theorem fl_X12_137_12 : am_Fl RX12 137 12 10 := ⟨_, RX12, rfl, by decide, (am_tT 1123 (by decide +kernel)), Or.inl rfl⟩
theorem fl_X12_169_12 : am_Fl RX12 169 12 11 := ⟨_, RX12, rfl, by decide, (am_tT 1124 (by decide +kernel)), Or.inl rfl⟩
theorem fl_X12_147_12 : am_Fl RX12 147 12 12 := ⟨_, RX12, rfl, by decide, (am_tT 1125 (by decide +kernel)), Or.inl rfl⟩
theorem fl_X12_28_12 : am_Fl RX12 28 12 13 := ⟨_, RX12, rfl, by decide, (am_tT 1126 (by decide +kernel)), Or.inl rfl⟩
theorem fl_X12_31_12 : am_Fl RX12 31 12 14 := ⟨_, RX12, rfl, by decide, (am_tT 1127 (by decide +kernel)), Or.inl rfl⟩
theorem fl_X12_278_12 : am_Fl RX12 278 12 15 := ⟨_, RX12, rfl, by decide, (am_tT 1128 (by decide +kernel)), Or.inl rfl⟩
theorem fl_X12_281_12 : am_Fl RX12 281 12 16 := ⟨_, RX12, rfl, by decide, (am_tT 1129 (by decide +kernel)), Or.inl rfl⟩
theorem fl_X12_34_12 : am_Fl RX12 34 12 17 := ⟨_, RX12, rfl, by decide, (am_tT 1130 (by decide +kernel)), Or.inl rfl⟩
theorem fl_X12_37_12 : am_Fl RX12 37 12 18 := ⟨_, RX12, rfl, by decide, (am_tT 1131 (by decide +kernel)), Or.inl rfl⟩
theorem fl_X12_40_12 : am_Fl RX12 40 12 19 := ⟨_, RX12, rfl, by decide, (am_tT 1132 (by decide +kernel)), Or.inl rfl⟩
theorem fl_X12_43_12 : am_Fl RX12 43 12 20 := ⟨_, RX12, rfl, by decide, (am_tT 1133 (by decide +kernel)), Or.inl rfl⟩
theorem ci_X0_1 : am_CI RX0 1 mX2_init 3 := ⟨ce_X2_init, (am_tT 393 (by decide +kernel)), (am_tT 355 (by decide +kernel)), rfl, rfl⟩
theorem cv_X0_13 : am_CV RX0 13 mX3_isNear 1 := ⟨ce_X3_isNear, (am_tT 507 (by decide +kernel)), (am_tT 508 (by decide +kernel)), am_tT 509 (by decide +kernel)⟩
set_option maxRecDepth 100000 in
theorem cu_X0_17_0 : am_CU RX0 17 (⟨"SmokeRings$Headlong", "pull", "(LSmokeRings$Ring;LSmokeRings$Ring;)I"⟩ : MethodName) RX2 RX0 mX2_pull 2 := ⟨ce_X2_pull, (am_tT 512 (by decide +kernel)), (am_tT 513 (by decide +kernel)), (am_tT 517 (by decide +kernel)), ⟨_, _, _, (am_tC (am_in2 _ (List.mem_of_getElem? (i := 222) rfl)) rfl)⟩, am_tT 515 (by decide +kernel), (am_tT 517 (by decide +kernel)), by decide +kernel⟩
set_option maxRecDepth 100000 in
theorem cu_X0_17_9 : am_CU RX0 17 (⟨"SmokeRings$Headlong", "pull", "(LSmokeRings$Ring;LSmokeRings$Ring;)I"⟩ : MethodName) RX2 RX9 mX2_pull 2 := ⟨ce_X2_pull, (am_tT 512 (by decide +kernel)), (am_tT 513 (by decide +kernel)), (am_tT 517 (by decide +kernel)), ⟨_, _, _, (am_tC (am_in2 _ (List.mem_of_getElem? (i := 222) rfl)) rfl)⟩, am_tT 516 (by decide +kernel), (am_tT 517 (by decide +kernel)), by decide +kernel⟩
theorem cv_X0_23 : am_CV RX0 23 mX5_add 1 := ⟨ce_X5_add, (am_tT 1003 (by decide +kernel)), (am_tT 617 (by decide +kernel)), am_tT 618 (by decide +kernel)⟩
theorem cp_X0_29 : am_CP RX0 29 mX2_ends 2 := ⟨ce_X2_ends, (am_tT 1004 (by decide +kernel)), (am_tT 1591 (by decide +kernel)), (am_tT 397 (by decide +kernel)), (am_tT 994 (by decide +kernel)), by decide +kernel⟩
theorem ci_X1_3 : am_CI RX1 3 mX2_init 3 := ⟨ce_X2_init, (am_tT 383 (by decide +kernel)), (am_tT 355 (by decide +kernel)), rfl, rfl⟩
theorem cv_X1_9 : am_CV RX1 9 mX3_isNear 1 := ⟨ce_X3_isNear, (am_tT 549 (by decide +kernel)), (am_tT 508 (by decide +kernel)), am_tT 509 (by decide +kernel)⟩
theorem cv_X1_15 : am_CV RX1 15 mX3_gap 1 := ⟨ce_X3_gap, (am_tT 550 (by decide +kernel)), (am_tT 520 (by decide +kernel)), am_tT 521 (by decide +kernel)⟩
theorem cv_X1_25 : am_CV RX1 25 mX3_isBehind 1 := ⟨ce_X3_isBehind, (am_tT 551 (by decide +kernel)), (am_tT 538 (by decide +kernel)), am_tT 539 (by decide +kernel)⟩
theorem cv_X1_28 : am_CV RX1 28 mX5_add 1 := ⟨ce_X5_add, (am_tT 960 (by decide +kernel)), (am_tT 617 (by decide +kernel)), am_tT 618 (by decide +kernel)⟩
theorem cp_X1_34 : am_CP RX1 34 mX2_goes 2 := ⟨ce_X2_goes, (am_tT 961 (by decide +kernel)), (am_tT 955 (by decide +kernel)), (am_tT 387 (by decide +kernel)), (am_tT 953 (by decide +kernel)), by decide +kernel⟩
theorem co_X2_1 : Cond.methodLink RX2 1 Lib.objectInit ∈ am_T := (am_tT 357 (by decide +kernel))
theorem cv_X2_24 : am_CV RX2 24 mX3_gap 1 := ⟨ce_X3_gap, (am_tT 519 (by decide +kernel)), (am_tT 520 (by decide +kernel)), am_tT 521 (by decide +kernel)⟩
theorem cv_X2_31 : am_CV RX2 31 mX3_isNear 1 := ⟨ce_X3_isNear, (am_tT 535 (by decide +kernel)), (am_tT 508 (by decide +kernel)), am_tT 509 (by decide +kernel)⟩
set_option maxRecDepth 100000 in
theorem cu_X2_35_0 : am_CU RX2 35 yX2_pull RX2 RX0 mX2_pull 2 := ⟨ce_X2_pull, (am_tT 536 (by decide +kernel)), (am_tT 1583 (by decide +kernel)), (am_tT 517 (by decide +kernel)), ⟨_, _, _, (am_tC (am_in2 _ (List.mem_of_getElem? (i := 222) rfl)) rfl)⟩, am_tT 1584 (by decide +kernel), (am_tT 517 (by decide +kernel)), by decide +kernel⟩
set_option maxRecDepth 100000 in
theorem cu_X2_35_1 : am_CU RX2 35 yX2_pull RX2 RX1 mX2_pull 2 := ⟨ce_X2_pull, (am_tT 536 (by decide +kernel)), (am_tT 1583 (by decide +kernel)), (am_tT 517 (by decide +kernel)), ⟨_, _, _, (am_tC (am_in2 _ (List.mem_of_getElem? (i := 222) rfl)) rfl)⟩, am_tT 1585 (by decide +kernel), (am_tT 517 (by decide +kernel)), by decide +kernel⟩
set_option maxRecDepth 100000 in
theorem cu_X2_35_2 : am_CU RX2 35 yX2_pull RX2 RX2 mX2_pull 2 := ⟨ce_X2_pull, (am_tT 536 (by decide +kernel)), (am_tT 1583 (by decide +kernel)), (am_tT 517 (by decide +kernel)), ⟨_, _, _, (am_tC (am_in2 _ (List.mem_of_getElem? (i := 222) rfl)) rfl)⟩, am_tT 1586 (by decide +kernel), (am_tT 517 (by decide +kernel)), by decide +kernel⟩
set_option maxRecDepth 100000 in
theorem cu_X2_35_6 : am_CU RX2 35 yX2_pull RX2 RX6 mX2_pull 2 := ⟨ce_X2_pull, (am_tT 536 (by decide +kernel)), (am_tT 1583 (by decide +kernel)), (am_tT 517 (by decide +kernel)), ⟨_, _, _, (am_tC (am_in2 _ (List.mem_of_getElem? (i := 222) rfl)) rfl)⟩, am_tT 1587 (by decide +kernel), (am_tT 517 (by decide +kernel)), by decide +kernel⟩
set_option maxRecDepth 100000 in
theorem cu_X2_35_8 : am_CU RX2 35 yX2_pull RX2 RX8 mX2_pull 2 := ⟨ce_X2_pull, (am_tT 536 (by decide +kernel)), (am_tT 1583 (by decide +kernel)), (am_tT 517 (by decide +kernel)), ⟨_, _, _, (am_tC (am_in2 _ (List.mem_of_getElem? (i := 222) rfl)) rfl)⟩, am_tT 1588 (by decide +kernel), (am_tT 517 (by decide +kernel)), by decide +kernel⟩
set_option maxRecDepth 100000 in
theorem cu_X2_35_9 : am_CU RX2 35 yX2_pull RX2 RX9 mX2_pull 2 := ⟨ce_X2_pull, (am_tT 536 (by decide +kernel)), (am_tT 1583 (by decide +kernel)), (am_tT 517 (by decide +kernel)), ⟨_, _, _, (am_tC (am_in2 _ (List.mem_of_getElem? (i := 222) rfl)) rfl)⟩, am_tT 1589 (by decide +kernel), (am_tT 517 (by decide +kernel)), by decide +kernel⟩
set_option maxRecDepth 100000 in
theorem cu_X2_35_10 : am_CU RX2 35 yX2_pull RX2 RX10 mX2_pull 2 := ⟨ce_X2_pull, (am_tT 536 (by decide +kernel)), (am_tT 1583 (by decide +kernel)), (am_tT 517 (by decide +kernel)), ⟨_, _, _, (am_tC (am_in2 _ (List.mem_of_getElem? (i := 222) rfl)) rfl)⟩, am_tT 1590 (by decide +kernel), (am_tT 517 (by decide +kernel)), by decide +kernel⟩
theorem cv_X2_39 : am_CV RX2 39 mX3_isBehind 1 := ⟨ce_X3_isBehind, (am_tT 537 (by decide +kernel)), (am_tT 538 (by decide +kernel)), am_tT 539 (by decide +kernel)⟩
theorem cv_X2_42 : am_CV RX2 42 mX5_add 1 := ⟨ce_X5_add, (am_tT 973 (by decide +kernel)), (am_tT 617 (by decide +kernel)), am_tT 618 (by decide +kernel)⟩
set_option maxRecDepth 100000 in
theorem cu_X2_48_0 : am_CU RX2 48 yX2_goes RX2 RX0 mX2_goes 2 := ⟨ce_X2_goes, (am_tT 999 (by decide +kernel)), (am_tT 955 (by decide +kernel)), (am_tT 953 (by decide +kernel)), ⟨_, _, _, (am_tC (am_in4 _ (List.mem_of_getElem? (i := 196) rfl)) rfl)⟩, am_tT 956 (by decide +kernel), (am_tT 953 (by decide +kernel)), by decide +kernel⟩
set_option maxRecDepth 100000 in
theorem cu_X2_48_1 : am_CU RX2 48 yX2_goes RX2 RX1 mX1_goes 2 := ⟨ce_X1_goes, (am_tT 999 (by decide +kernel)), (am_tT 955 (by decide +kernel)), (am_tT 953 (by decide +kernel)), ⟨_, _, _, (am_tC (am_in4 _ (List.mem_of_getElem? (i := 196) rfl)) rfl)⟩, am_tT 957 (by decide +kernel), (am_tT 958 (by decide +kernel)), by decide +kernel⟩
set_option maxRecDepth 100000 in
theorem cu_X2_48_2 : am_CU RX2 48 yX2_goes RX2 RX2 mX2_goes 2 := ⟨ce_X2_goes, (am_tT 999 (by decide +kernel)), (am_tT 955 (by decide +kernel)), (am_tT 953 (by decide +kernel)), ⟨_, _, _, (am_tC (am_in4 _ (List.mem_of_getElem? (i := 196) rfl)) rfl)⟩, am_tT 954 (by decide +kernel), (am_tT 953 (by decide +kernel)), by decide +kernel⟩
set_option maxRecDepth 100000 in
theorem cu_X2_48_6 : am_CU RX2 48 yX2_goes RX2 RX6 mX2_goes 2 := ⟨ce_X2_goes, (am_tT 999 (by decide +kernel)), (am_tT 955 (by decide +kernel)), (am_tT 953 (by decide +kernel)), ⟨_, _, _, (am_tC (am_in4 _ (List.mem_of_getElem? (i := 196) rfl)) rfl)⟩, am_tT 962 (by decide +kernel), (am_tT 953 (by decide +kernel)), by decide +kernel⟩
set_option maxRecDepth 100000 in
theorem cu_X2_48_8 : am_CU RX2 48 yX2_goes RX2 RX8 mX2_goes 2 := ⟨ce_X2_goes, (am_tT 999 (by decide +kernel)), (am_tT 955 (by decide +kernel)), (am_tT 953 (by decide +kernel)), ⟨_, _, _, (am_tC (am_in4 _ (List.mem_of_getElem? (i := 196) rfl)) rfl)⟩, am_tT 963 (by decide +kernel), (am_tT 953 (by decide +kernel)), by decide +kernel⟩
set_option maxRecDepth 100000 in
theorem cu_X2_48_9 : am_CU RX2 48 yX2_goes RX2 RX9 mX9_goes 2 := ⟨ce_X9_goes, (am_tT 999 (by decide +kernel)), (am_tT 955 (by decide +kernel)), (am_tT 953 (by decide +kernel)), ⟨_, _, _, (am_tC (am_in4 _ (List.mem_of_getElem? (i := 196) rfl)) rfl)⟩, am_tT 964 (by decide +kernel), (am_tT 965 (by decide +kernel)), by decide +kernel⟩
set_option maxRecDepth 100000 in
theorem cu_X2_48_10 : am_CU RX2 48 yX2_goes RX2 RX10 mX2_goes 2 := ⟨ce_X2_goes, (am_tT 999 (by decide +kernel)), (am_tT 955 (by decide +kernel)), (am_tT 953 (by decide +kernel)), ⟨_, _, _, (am_tC (am_in4 _ (List.mem_of_getElem? (i := 196) rfl)) rfl)⟩, am_tT 971 (by decide +kernel), (am_tT 953 (by decide +kernel)), by decide +kernel⟩
set_option maxRecDepth 100000 in
theorem cu_X2_52_0 : am_CU RX2 52 yX2_moves RX2 RX0 mX2_moves 2 := ⟨ce_X2_moves, (am_tT 1035 (by decide +kernel)), (am_tT 977 (by decide +kernel)), (am_tT 975 (by decide +kernel)), ⟨_, _, _, (am_tC (am_in4 _ (List.mem_of_getElem? (i := 222) rfl)) rfl)⟩, am_tT 978 (by decide +kernel), (am_tT 975 (by decide +kernel)), by decide +kernel⟩
set_option maxRecDepth 100000 in
theorem cu_X2_52_1 : am_CU RX2 52 yX2_moves RX2 RX1 mX2_moves 2 := ⟨ce_X2_moves, (am_tT 1035 (by decide +kernel)), (am_tT 977 (by decide +kernel)), (am_tT 975 (by decide +kernel)), ⟨_, _, _, (am_tC (am_in4 _ (List.mem_of_getElem? (i := 222) rfl)) rfl)⟩, am_tT 979 (by decide +kernel), (am_tT 975 (by decide +kernel)), by decide +kernel⟩
set_option maxRecDepth 100000 in
theorem cu_X2_52_2 : am_CU RX2 52 yX2_moves RX2 RX2 mX2_moves 2 := ⟨ce_X2_moves, (am_tT 1035 (by decide +kernel)), (am_tT 977 (by decide +kernel)), (am_tT 975 (by decide +kernel)), ⟨_, _, _, (am_tC (am_in4 _ (List.mem_of_getElem? (i := 222) rfl)) rfl)⟩, am_tT 976 (by decide +kernel), (am_tT 975 (by decide +kernel)), by decide +kernel⟩
set_option maxRecDepth 100000 in
theorem cu_X2_52_6 : am_CU RX2 52 yX2_moves RX2 RX6 mX10_moves 2 := ⟨ce_X10_moves, (am_tT 1035 (by decide +kernel)), (am_tT 977 (by decide +kernel)), (am_tT 975 (by decide +kernel)), ⟨_, _, _, (am_tC (am_in4 _ (List.mem_of_getElem? (i := 222) rfl)) rfl)⟩, am_tT 980 (by decide +kernel), (am_tT 981 (by decide +kernel)), by decide +kernel⟩
set_option maxRecDepth 100000 in
theorem cu_X2_52_8 : am_CU RX2 52 yX2_moves RX2 RX8 mX8_moves 2 := ⟨ce_X8_moves, (am_tT 1035 (by decide +kernel)), (am_tT 977 (by decide +kernel)), (am_tT 975 (by decide +kernel)), ⟨_, _, _, (am_tC (am_in4 _ (List.mem_of_getElem? (i := 222) rfl)) rfl)⟩, am_tT 985 (by decide +kernel), (am_tT 986 (by decide +kernel)), by decide +kernel⟩
set_option maxRecDepth 100000 in
theorem cu_X2_52_9 : am_CU RX2 52 yX2_moves RX2 RX9 mX2_moves 2 := ⟨ce_X2_moves, (am_tT 1035 (by decide +kernel)), (am_tT 977 (by decide +kernel)), (am_tT 975 (by decide +kernel)), ⟨_, _, _, (am_tC (am_in4 _ (List.mem_of_getElem? (i := 222) rfl)) rfl)⟩, am_tT 996 (by decide +kernel), (am_tT 975 (by decide +kernel)), by decide +kernel⟩
set_option maxRecDepth 100000 in
theorem cu_X2_52_10 : am_CU RX2 52 yX2_moves RX2 RX10 mX10_moves 2 := ⟨ce_X10_moves, (am_tT 1035 (by decide +kernel)), (am_tT 977 (by decide +kernel)), (am_tT 975 (by decide +kernel)), ⟨_, _, _, (am_tC (am_in4 _ (List.mem_of_getElem? (i := 222) rfl)) rfl)⟩, am_tT 997 (by decide +kernel), (am_tT 981 (by decide +kernel)), by decide +kernel⟩
set_option maxRecDepth 100000 in
theorem cu_X2_55_0 : am_CU RX2 55 yX2_ends RX2 RX0 mX0_ends 2 := ⟨ce_X0_ends, (am_tT 1036 (by decide +kernel)), (am_tT 1591 (by decide +kernel)), (am_tT 994 (by decide +kernel)), ⟨_, _, _, (am_tC (am_in4 _ (List.mem_of_getElem? (i := 219) rfl)) rfl)⟩, am_tT 1592 (by decide +kernel), (am_tT 1001 (by decide +kernel)), by decide +kernel⟩
set_option maxRecDepth 100000 in
theorem cu_X2_55_1 : am_CU RX2 55 yX2_ends RX2 RX1 mX2_ends 2 := ⟨ce_X2_ends, (am_tT 1036 (by decide +kernel)), (am_tT 1591 (by decide +kernel)), (am_tT 994 (by decide +kernel)), ⟨_, _, _, (am_tC (am_in4 _ (List.mem_of_getElem? (i := 219) rfl)) rfl)⟩, am_tT 1593 (by decide +kernel), (am_tT 994 (by decide +kernel)), by decide +kernel⟩
set_option maxRecDepth 100000 in
theorem cu_X2_55_2 : am_CU RX2 55 yX2_ends RX2 RX2 mX2_ends 2 := ⟨ce_X2_ends, (am_tT 1036 (by decide +kernel)), (am_tT 1591 (by decide +kernel)), (am_tT 994 (by decide +kernel)), ⟨_, _, _, (am_tC (am_in4 _ (List.mem_of_getElem? (i := 219) rfl)) rfl)⟩, am_tT 1594 (by decide +kernel), (am_tT 994 (by decide +kernel)), by decide +kernel⟩
set_option maxRecDepth 100000 in
theorem cu_X2_55_6 : am_CU RX2 55 yX2_ends RX2 RX6 mX6_ends 2 := ⟨ce_X6_ends, (am_tT 1036 (by decide +kernel)), (am_tT 1591 (by decide +kernel)), (am_tT 994 (by decide +kernel)), ⟨_, _, _, (am_tC (am_in4 _ (List.mem_of_getElem? (i := 219) rfl)) rfl)⟩, am_tT 1595 (by decide +kernel), (am_tT 1005 (by decide +kernel)), by decide +kernel⟩
set_option maxRecDepth 100000 in
theorem cu_X2_55_8 : am_CU RX2 55 yX2_ends RX2 RX8 mX2_ends 2 := ⟨ce_X2_ends, (am_tT 1036 (by decide +kernel)), (am_tT 1591 (by decide +kernel)), (am_tT 994 (by decide +kernel)), ⟨_, _, _, (am_tC (am_in4 _ (List.mem_of_getElem? (i := 219) rfl)) rfl)⟩, am_tT 1596 (by decide +kernel), (am_tT 994 (by decide +kernel)), by decide +kernel⟩
set_option maxRecDepth 100000 in
theorem cu_X2_55_9 : am_CU RX2 55 yX2_ends RX2 RX9 mX0_ends 2 := ⟨ce_X0_ends, (am_tT 1036 (by decide +kernel)), (am_tT 1591 (by decide +kernel)), (am_tT 994 (by decide +kernel)), ⟨_, _, _, (am_tC (am_in4 _ (List.mem_of_getElem? (i := 219) rfl)) rfl)⟩, am_tT 1597 (by decide +kernel), (am_tT 1001 (by decide +kernel)), by decide +kernel⟩
set_option maxRecDepth 100000 in
theorem cu_X2_55_10 : am_CU RX2 55 yX2_ends RX2 RX10 mX2_ends 2 := ⟨ce_X2_ends, (am_tT 1036 (by decide +kernel)), (am_tT 1591 (by decide +kernel)), (am_tT 994 (by decide +kernel)), ⟨_, _, _, (am_tC (am_in4 _ (List.mem_of_getElem? (i := 219) rfl)) rfl)⟩, am_tT 1598 (by decide +kernel), (am_tT 994 (by decide +kernel)), by decide +kernel⟩
theorem co_X3_1 : Cond.methodLink RX3 1 Lib.objectInit ∈ am_T := (am_tT 98 (by decide +kernel))
theorem cn_X3_35 : am_CN RX3 35 mX11_quotient 2 := ⟨ce_X11_quotient, ⟨"SmokeRings", List.mem_filter.mpr ⟨List.mem_of_getElem? (i := 330) (by decide +kernel), rfl⟩⟩, (am_tT 331 (by decide +kernel))⟩
theorem cn_X3_41 : am_CN RX3 41 mX11_asBit 1 := ⟨ce_X11_asBit, ⟨"SmokeRings", List.mem_filter.mpr ⟨List.mem_of_getElem? (i := 323) (by decide +kernel), rfl⟩⟩, (am_tT 324 (by decide +kernel))⟩
theorem cv_X3_45 : am_CV RX3 45 mX3_pace 0 := ⟨ce_X3_pace, (am_tT 326 (by decide +kernel)), (am_tT 327 (by decide +kernel)), am_tT 328 (by decide +kernel)⟩
theorem cs_X3_49 : am_CS RX3 49 mJ9_abs_0f7a4 1 := ⟨ce_J9_abs_0f7a4, (am_tT 511 (by decide +kernel)), (am_tT 480 (by decide +kernel))⟩
theorem co_X4_3 : Cond.methodLink RX4 3 Lib.objectInit ∈ am_T := (am_tT 91 (by decide +kernel))
theorem ci_X4_20 : am_CI RX4 20 mX3_init 1 := ⟨ce_X3_init, (am_tT 95 (by decide +kernel)), (am_tT 96 (by decide +kernel)), rfl, rfl⟩
theorem ci_X4_46 : am_CI RX4 46 mX7_init 0 := ⟨ce_X7_init, (am_tT 149 (by decide +kernel)), (am_tT 150 (by decide +kernel)), rfl, rfl⟩
theorem ci_X4_49 : am_CI RX4 49 mX5_init 1 := ⟨ce_X5_init, (am_tT 179 (by decide +kernel)), (am_tT 180 (by decide +kernel)), rfl, rfl⟩
theorem cv_X4_57 : am_CV RX4 57 mX4_takeRings 1 := ⟨ce_X4_takeRings, (am_tT 848 (by decide +kernel)), (am_tT 849 (by decide +kernel)), am_tT 850 (by decide +kernel)⟩
theorem cv_X4_70 : am_CV RX4 70 mX7_become 1 := ⟨ce_X7_become, (am_tT 852 (by decide +kernel)), (am_tT 751 (by decide +kernel)), am_tT 752 (by decide +kernel)⟩
theorem cv_X4_74 : am_CV RX4 74 mX5_become 1 := ⟨ce_X5_become, (am_tT 853 (by decide +kernel)), (am_tT 854 (by decide +kernel)), am_tT 855 (by decide +kernel)⟩
theorem cv_X4_80 : am_CV RX4 80 mX3_become 1 := ⟨ce_X3_become, (am_tT 776 (by decide +kernel)), (am_tT 777 (by decide +kernel)), am_tT 778 (by decide +kernel)⟩
theorem cv_X4_83 : am_CV RX4 83 mX4_isOn 1 := ⟨ce_X4_isOn, (am_tT 788 (by decide +kernel)), (am_tT 448 (by decide +kernel)), am_tT 449 (by decide +kernel)⟩
theorem cs_X4_87 : am_CS RX4 87 mJ9_min_7cf53 2 := ⟨ce_J9_min_7cf53, (am_tT 308 (by decide +kernel)), (am_tT 309 (by decide +kernel))⟩
theorem cv_X4_115 : am_CV RX4 115 mX4_given 4 := ⟨ce_X4_given, (am_tT 579 (by decide +kernel)), (am_tT 580 (by decide +kernel)), am_tT 581 (by decide +kernel)⟩
theorem cv_X4_119 : am_CV RX4 119 mX4_addRing 6 := ⟨ce_X4_addRing, (am_tT 599 (by decide +kernel)), (am_tT 305 (by decide +kernel)), am_tT 306 (by decide +kernel)⟩
theorem cs_X4_123 : am_CS RX4 123 mJ9_max_7cf53 2 := ⟨ce_J9_max_7cf53, (am_tT 608 (by decide +kernel)), (am_tT 609 (by decide +kernel))⟩
theorem cv_X4_129 : am_CV RX4 129 mX7_value 3 := ⟨ce_X7_value, (am_tT 583 (by decide +kernel)), (am_tT 584 (by decide +kernel)), am_tT 585 (by decide +kernel)⟩
theorem cn_X4_133 : am_CN RX4 133 mX11_held 3 := ⟨ce_X11_held, ⟨"SmokeRings", List.mem_filter.mpr ⟨List.mem_of_getElem? (i := 596) (by decide +kernel), rfl⟩⟩, (am_tT 597 (by decide +kernel))⟩
theorem cn_X4_136 : am_CN RX4 136 mX11_asBit 1 := ⟨ce_X11_asBit, ⟨"SmokeRings", List.mem_filter.mpr ⟨List.mem_of_getElem? (i := 867) (by decide +kernel), rfl⟩⟩, (am_tT 324 (by decide +kernel))⟩
theorem cv_X4_140 : am_CV RX4 140 mX4_foremost 0 := ⟨ce_X4_foremost, (am_tT 876 (by decide +kernel)), (am_tT 829 (by decide +kernel)), am_tT 830 (by decide +kernel)⟩
theorem cv_X4_144 : am_CV RX4 144 mX4_tick 0 := ⟨ce_X4_tick, (am_tT 877 (by decide +kernel)), (am_tT 773 (by decide +kernel)), am_tT 774 (by decide +kernel)⟩
theorem cv_X4_147 : am_CV RX4 147 mX4_advance 2 := ⟨ce_X4_advance, (am_tT 780 (by decide +kernel)), (am_tT 782 (by decide +kernel)), am_tT 11 (by decide +kernel)⟩
theorem cv_X4_151 : am_CV RX4 151 mX4_widen 2 := ⟨ce_X4_widen, (am_tT 792 (by decide +kernel)), (am_tT 794 (by decide +kernel)), am_tT 13 (by decide +kernel)⟩
theorem cv_X4_154 : am_CV RX4 154 mX4_endIfDue 1 := ⟨ce_X4_endIfDue, (am_tT 801 (by decide +kernel)), (am_tT 803 (by decide +kernel)), am_tT 14 (by decide +kernel)⟩
theorem cv_X4_157 : am_CV RX4 157 mX4_settle 1 := ⟨ce_X4_settle, (am_tT 811 (by decide +kernel)), (am_tT 813 (by decide +kernel)), am_tT 16 (by decide +kernel)⟩
theorem cv_X4_161 : am_CV RX4 161 mX4_lawOn 1 := ⟨ce_X4_lawOn, (am_tT 784 (by decide +kernel)), (am_tT 786 (by decide +kernel)), am_tT 12 (by decide +kernel)⟩
set_option maxRecDepth 100000 in
theorem cu_X4_165_0 : am_CU RX4 165 yX2_lifts RX2 RX0 mX2_lifts 2 := ⟨ce_X2_lifts, (am_tT 789 (by decide +kernel)), (am_tT 489 (by decide +kernel)), (am_tT 487 (by decide +kernel)), ⟨_, _, _, (am_tC (am_in2 _ (List.mem_of_getElem? (i := 203) rfl)) rfl)⟩, am_tT 490 (by decide +kernel), (am_tT 487 (by decide +kernel)), by decide +kernel⟩
set_option maxRecDepth 100000 in
theorem cu_X4_165_1 : am_CU RX4 165 yX2_lifts RX2 RX1 mX2_lifts 2 := ⟨ce_X2_lifts, (am_tT 789 (by decide +kernel)), (am_tT 489 (by decide +kernel)), (am_tT 487 (by decide +kernel)), ⟨_, _, _, (am_tC (am_in2 _ (List.mem_of_getElem? (i := 203) rfl)) rfl)⟩, am_tT 491 (by decide +kernel), (am_tT 487 (by decide +kernel)), by decide +kernel⟩
set_option maxRecDepth 100000 in
theorem cu_X4_165_2 : am_CU RX4 165 yX2_lifts RX2 RX2 mX2_lifts 2 := ⟨ce_X2_lifts, (am_tT 789 (by decide +kernel)), (am_tT 489 (by decide +kernel)), (am_tT 487 (by decide +kernel)), ⟨_, _, _, (am_tC (am_in2 _ (List.mem_of_getElem? (i := 203) rfl)) rfl)⟩, am_tT 488 (by decide +kernel), (am_tT 487 (by decide +kernel)), by decide +kernel⟩
set_option maxRecDepth 100000 in
theorem cu_X4_165_6 : am_CU RX4 165 yX2_lifts RX2 RX6 mX6_lifts 2 := ⟨ce_X6_lifts, (am_tT 789 (by decide +kernel)), (am_tT 489 (by decide +kernel)), (am_tT 487 (by decide +kernel)), ⟨_, _, _, (am_tC (am_in2 _ (List.mem_of_getElem? (i := 203) rfl)) rfl)⟩, am_tT 492 (by decide +kernel), (am_tT 493 (by decide +kernel)), by decide +kernel⟩
set_option maxRecDepth 100000 in
theorem cu_X4_165_8 : am_CU RX4 165 yX2_lifts RX2 RX8 mX2_lifts 2 := ⟨ce_X2_lifts, (am_tT 789 (by decide +kernel)), (am_tT 489 (by decide +kernel)), (am_tT 487 (by decide +kernel)), ⟨_, _, _, (am_tC (am_in2 _ (List.mem_of_getElem? (i := 203) rfl)) rfl)⟩, am_tT 496 (by decide +kernel), (am_tT 487 (by decide +kernel)), by decide +kernel⟩
set_option maxRecDepth 100000 in
theorem cu_X4_165_9 : am_CU RX4 165 yX2_lifts RX2 RX9 mX2_lifts 2 := ⟨ce_X2_lifts, (am_tT 789 (by decide +kernel)), (am_tT 489 (by decide +kernel)), (am_tT 487 (by decide +kernel)), ⟨_, _, _, (am_tC (am_in2 _ (List.mem_of_getElem? (i := 203) rfl)) rfl)⟩, am_tT 497 (by decide +kernel), (am_tT 487 (by decide +kernel)), by decide +kernel⟩
set_option maxRecDepth 100000 in
theorem cu_X4_165_10 : am_CU RX4 165 yX2_lifts RX2 RX10 mX2_lifts 2 := ⟨ce_X2_lifts, (am_tT 789 (by decide +kernel)), (am_tT 489 (by decide +kernel)), (am_tT 487 (by decide +kernel)), ⟨_, _, _, (am_tC (am_in2 _ (List.mem_of_getElem? (i := 203) rfl)) rfl)⟩, am_tT 498 (by decide +kernel), (am_tT 487 (by decide +kernel)), by decide +kernel⟩
theorem cv_X4_169 : am_CV RX4 169 mX3_pace 0 := ⟨ce_X3_pace, (am_tT 790 (by decide +kernel)), (am_tT 327 (by decide +kernel)), am_tT 328 (by decide +kernel)⟩
set_option maxRecDepth 100000 in
theorem cu_X4_173_0 : am_CU RX4 173 yX2_spreads RX2 RX0 mX2_spreads 2 := ⟨ce_X2_spreads, (am_tT 796 (by decide +kernel)), (am_tT 470 (by decide +kernel)), (am_tT 468 (by decide +kernel)), ⟨_, _, _, (am_tC (am_in2 _ (List.mem_of_getElem? (i := 189) rfl)) rfl)⟩, am_tT 471 (by decide +kernel), (am_tT 468 (by decide +kernel)), by decide +kernel⟩
set_option maxRecDepth 100000 in
theorem cu_X4_173_1 : am_CU RX4 173 yX2_spreads RX2 RX1 mX2_spreads 2 := ⟨ce_X2_spreads, (am_tT 796 (by decide +kernel)), (am_tT 470 (by decide +kernel)), (am_tT 468 (by decide +kernel)), ⟨_, _, _, (am_tC (am_in2 _ (List.mem_of_getElem? (i := 189) rfl)) rfl)⟩, am_tT 472 (by decide +kernel), (am_tT 468 (by decide +kernel)), by decide +kernel⟩
set_option maxRecDepth 100000 in
theorem cu_X4_173_2 : am_CU RX4 173 yX2_spreads RX2 RX2 mX2_spreads 2 := ⟨ce_X2_spreads, (am_tT 796 (by decide +kernel)), (am_tT 470 (by decide +kernel)), (am_tT 468 (by decide +kernel)), ⟨_, _, _, (am_tC (am_in2 _ (List.mem_of_getElem? (i := 189) rfl)) rfl)⟩, am_tT 469 (by decide +kernel), (am_tT 468 (by decide +kernel)), by decide +kernel⟩
set_option maxRecDepth 100000 in
theorem cu_X4_173_6 : am_CU RX4 173 yX2_spreads RX2 RX6 mX6_spreads 2 := ⟨ce_X6_spreads, (am_tT 796 (by decide +kernel)), (am_tT 470 (by decide +kernel)), (am_tT 468 (by decide +kernel)), ⟨_, _, _, (am_tC (am_in2 _ (List.mem_of_getElem? (i := 189) rfl)) rfl)⟩, am_tT 473 (by decide +kernel), (am_tT 474 (by decide +kernel)), by decide +kernel⟩
set_option maxRecDepth 100000 in
theorem cu_X4_173_8 : am_CU RX4 173 yX2_spreads RX2 RX8 mX2_spreads 2 := ⟨ce_X2_spreads, (am_tT 796 (by decide +kernel)), (am_tT 470 (by decide +kernel)), (am_tT 468 (by decide +kernel)), ⟨_, _, _, (am_tC (am_in2 _ (List.mem_of_getElem? (i := 189) rfl)) rfl)⟩, am_tT 482 (by decide +kernel), (am_tT 468 (by decide +kernel)), by decide +kernel⟩
set_option maxRecDepth 100000 in
theorem cu_X4_173_9 : am_CU RX4 173 yX2_spreads RX2 RX9 mX2_spreads 2 := ⟨ce_X2_spreads, (am_tT 796 (by decide +kernel)), (am_tT 470 (by decide +kernel)), (am_tT 468 (by decide +kernel)), ⟨_, _, _, (am_tC (am_in2 _ (List.mem_of_getElem? (i := 189) rfl)) rfl)⟩, am_tT 483 (by decide +kernel), (am_tT 468 (by decide +kernel)), by decide +kernel⟩
set_option maxRecDepth 100000 in
theorem cu_X4_173_10 : am_CU RX4 173 yX2_spreads RX2 RX10 mX10_spreads 2 := ⟨ce_X10_spreads, (am_tT 796 (by decide +kernel)), (am_tT 470 (by decide +kernel)), (am_tT 468 (by decide +kernel)), ⟨_, _, _, (am_tC (am_in2 _ (List.mem_of_getElem? (i := 189) rfl)) rfl)⟩, am_tT 484 (by decide +kernel), (am_tT 477 (by decide +kernel)), by decide +kernel⟩
theorem cs_X4_176 : am_CS RX4 176 mX4_isOther 2 := ⟨ce_X4_isOther, (am_tT 797 (by decide +kernel)), (am_tT 798 (by decide +kernel))⟩
set_option maxRecDepth 100000 in
theorem cu_X4_180_0 : am_CU RX4 180 yX2_widens RX2 RX0 mX0_widens 2 := ⟨ce_X0_widens, (am_tT 800 (by decide +kernel)), (am_tT 503 (by decide +kernel)), (am_tT 501 (by decide +kernel)), ⟨_, _, _, (am_tC (am_in2 _ (List.mem_of_getElem? (i := 238) rfl)) rfl)⟩, am_tT 504 (by decide +kernel), (am_tT 505 (by decide +kernel)), by decide +kernel⟩
set_option maxRecDepth 100000 in
theorem cu_X4_180_1 : am_CU RX4 180 yX2_widens RX2 RX1 mX2_widens 2 := ⟨ce_X2_widens, (am_tT 800 (by decide +kernel)), (am_tT 503 (by decide +kernel)), (am_tT 501 (by decide +kernel)), ⟨_, _, _, (am_tC (am_in2 _ (List.mem_of_getElem? (i := 238) rfl)) rfl)⟩, am_tT 523 (by decide +kernel), (am_tT 501 (by decide +kernel)), by decide +kernel⟩
set_option maxRecDepth 100000 in
theorem cu_X4_180_2 : am_CU RX4 180 yX2_widens RX2 RX2 mX2_widens 2 := ⟨ce_X2_widens, (am_tT 800 (by decide +kernel)), (am_tT 503 (by decide +kernel)), (am_tT 501 (by decide +kernel)), ⟨_, _, _, (am_tC (am_in2 _ (List.mem_of_getElem? (i := 238) rfl)) rfl)⟩, am_tT 502 (by decide +kernel), (am_tT 501 (by decide +kernel)), by decide +kernel⟩
set_option maxRecDepth 100000 in
theorem cu_X4_180_6 : am_CU RX4 180 yX2_widens RX2 RX6 mX10_widens 2 := ⟨ce_X10_widens, (am_tT 800 (by decide +kernel)), (am_tT 503 (by decide +kernel)), (am_tT 501 (by decide +kernel)), ⟨_, _, _, (am_tC (am_in2 _ (List.mem_of_getElem? (i := 238) rfl)) rfl)⟩, am_tT 524 (by decide +kernel), (am_tT 525 (by decide +kernel)), by decide +kernel⟩
set_option maxRecDepth 100000 in
theorem cu_X4_180_8 : am_CU RX4 180 yX2_widens RX2 RX8 mX8_widens 2 := ⟨ce_X8_widens, (am_tT 800 (by decide +kernel)), (am_tT 503 (by decide +kernel)), (am_tT 501 (by decide +kernel)), ⟨_, _, _, (am_tC (am_in2 _ (List.mem_of_getElem? (i := 238) rfl)) rfl)⟩, am_tT 527 (by decide +kernel), (am_tT 528 (by decide +kernel)), by decide +kernel⟩
set_option maxRecDepth 100000 in
theorem cu_X4_180_9 : am_CU RX4 180 yX2_widens RX2 RX9 mX0_widens 2 := ⟨ce_X0_widens, (am_tT 800 (by decide +kernel)), (am_tT 503 (by decide +kernel)), (am_tT 501 (by decide +kernel)), ⟨_, _, _, (am_tC (am_in2 _ (List.mem_of_getElem? (i := 238) rfl)) rfl)⟩, am_tT 532 (by decide +kernel), (am_tT 505 (by decide +kernel)), by decide +kernel⟩
set_option maxRecDepth 100000 in
theorem cu_X4_180_10 : am_CU RX4 180 yX2_widens RX2 RX10 mX10_widens 2 := ⟨ce_X10_widens, (am_tT 800 (by decide +kernel)), (am_tT 503 (by decide +kernel)), (am_tT 501 (by decide +kernel)), ⟨_, _, _, (am_tC (am_in2 _ (List.mem_of_getElem? (i := 238) rfl)) rfl)⟩, am_tT 533 (by decide +kernel), (am_tT 525 (by decide +kernel)), by decide +kernel⟩
theorem cv_X4_187 : am_CV RX4 187 mX4_endingLaw 2 := ⟨ce_X4_endingLaw, (am_tT 805 (by decide +kernel)), (am_tT 807 (by decide +kernel)), am_tT 15 (by decide +kernel)⟩
set_option maxRecDepth 100000 in
theorem cu_X4_193_0 : am_CU RX4 193 yX2_endsBy RX2 RX0 mX2_endsBy 2 := ⟨ce_X2_endsBy, (am_tT 809 (by decide +kernel)), (am_tT 544 (by decide +kernel)), (am_tT 542 (by decide +kernel)), ⟨_, _, _, (am_tC (am_in3 _ (List.mem_of_getElem? (i := 23) rfl)) rfl)⟩, am_tT 545 (by decide +kernel), (am_tT 542 (by decide +kernel)), by decide +kernel⟩
set_option maxRecDepth 100000 in
theorem cu_X4_193_1 : am_CU RX4 193 yX2_endsBy RX2 RX1 mX1_endsBy 2 := ⟨ce_X1_endsBy, (am_tT 809 (by decide +kernel)), (am_tT 544 (by decide +kernel)), (am_tT 542 (by decide +kernel)), ⟨_, _, _, (am_tC (am_in3 _ (List.mem_of_getElem? (i := 23) rfl)) rfl)⟩, am_tT 546 (by decide +kernel), (am_tT 547 (by decide +kernel)), by decide +kernel⟩
set_option maxRecDepth 100000 in
theorem cu_X4_193_2 : am_CU RX4 193 yX2_endsBy RX2 RX2 mX2_endsBy 2 := ⟨ce_X2_endsBy, (am_tT 809 (by decide +kernel)), (am_tT 544 (by decide +kernel)), (am_tT 542 (by decide +kernel)), ⟨_, _, _, (am_tC (am_in3 _ (List.mem_of_getElem? (i := 23) rfl)) rfl)⟩, am_tT 543 (by decide +kernel), (am_tT 542 (by decide +kernel)), by decide +kernel⟩
set_option maxRecDepth 100000 in
theorem cu_X4_193_6 : am_CU RX4 193 yX2_endsBy RX2 RX6 mX2_endsBy 2 := ⟨ce_X2_endsBy, (am_tT 809 (by decide +kernel)), (am_tT 544 (by decide +kernel)), (am_tT 542 (by decide +kernel)), ⟨_, _, _, (am_tC (am_in3 _ (List.mem_of_getElem? (i := 23) rfl)) rfl)⟩, am_tT 552 (by decide +kernel), (am_tT 542 (by decide +kernel)), by decide +kernel⟩
set_option maxRecDepth 100000 in
theorem cu_X4_193_8 : am_CU RX4 193 yX2_endsBy RX2 RX8 mX2_endsBy 2 := ⟨ce_X2_endsBy, (am_tT 809 (by decide +kernel)), (am_tT 544 (by decide +kernel)), (am_tT 542 (by decide +kernel)), ⟨_, _, _, (am_tC (am_in3 _ (List.mem_of_getElem? (i := 23) rfl)) rfl)⟩, am_tT 553 (by decide +kernel), (am_tT 542 (by decide +kernel)), by decide +kernel⟩
set_option maxRecDepth 100000 in
theorem cu_X4_193_9 : am_CU RX4 193 yX2_endsBy RX2 RX9 mX9_endsBy 2 := ⟨ce_X9_endsBy, (am_tT 809 (by decide +kernel)), (am_tT 544 (by decide +kernel)), (am_tT 542 (by decide +kernel)), ⟨_, _, _, (am_tC (am_in3 _ (List.mem_of_getElem? (i := 23) rfl)) rfl)⟩, am_tT 554 (by decide +kernel), (am_tT 555 (by decide +kernel)), by decide +kernel⟩
set_option maxRecDepth 100000 in
theorem cu_X4_193_10 : am_CU RX4 193 yX2_endsBy RX2 RX10 mX2_endsBy 2 := ⟨ce_X2_endsBy, (am_tT 809 (by decide +kernel)), (am_tT 544 (by decide +kernel)), (am_tT 542 (by decide +kernel)), ⟨_, _, _, (am_tC (am_in3 _ (List.mem_of_getElem? (i := 23) rfl)) rfl)⟩, am_tT 558 (by decide +kernel), (am_tT 542 (by decide +kernel)), by decide +kernel⟩
theorem co_X5_1 : Cond.methodLink RX5 1 Lib.objectInit ∈ am_T := (am_tT 182 (by decide +kernel))
theorem cs_X5_17 : am_CS RX5 17 mJ9_min_7cf53 2 := ⟨ce_J9_min_7cf53, (am_tT 857 (by decide +kernel)), (am_tT 309 (by decide +kernel))⟩
theorem cs_X5_32 : am_CS RX5 32 mJ7_fill_53178 2 := ⟨ce_J7_fill_53178, (am_tT 1053 (by decide +kernel)), (am_tT 1054 (by decide +kernel))⟩
theorem cv_X5_38 : am_CV RX5 38 mX5_has 1 := ⟨ce_X5_has, (am_tT 1064 (by decide +kernel)), (am_tT 1042 (by decide +kernel)), am_tT 1043 (by decide +kernel)⟩
theorem ci_X6_3 : am_CI RX6 3 mX10_init 3 := ⟨ce_X10_init, (am_tT 423 (by decide +kernel)), (am_tT 411 (by decide +kernel)), rfl, rfl⟩
theorem cp_X6_9 : am_CP RX6 9 mX10_spreads 2 := ⟨ce_X10_spreads, (am_tT 476 (by decide +kernel)), (am_tT 1581 (by decide +kernel)), (am_tT 427 (by decide +kernel)), (am_tT 477 (by decide +kernel)), by decide +kernel⟩
theorem cv_X6_13 : am_CV RX6 13 mX6_spreads 2 := ⟨ce_X6_spreads, (am_tT 495 (by decide +kernel)), (am_tT 474 (by decide +kernel)), am_tT 1582 (by decide +kernel)⟩
theorem cv_X6_16 : am_CV RX6 16 mX5_add 1 := ⟨ce_X5_add, (am_tT 1007 (by decide +kernel)), (am_tT 617 (by decide +kernel)), am_tT 618 (by decide +kernel)⟩
set_option maxRecDepth 100000 in
theorem cu_X6_30_6 : am_CU RX6 30 (⟨"SmokeRings$Slanted", "moves", "(ILSmokeRings$Row;)I"⟩ : MethodName) RX10 RX6 mX10_moves 2 := ⟨ce_X10_moves, (am_tT 1019 (by decide +kernel)), (am_tT 1020 (by decide +kernel)), (am_tT 981 (by decide +kernel)), ⟨_, _, _, (am_tC (am_in4 _ (List.mem_of_getElem? (i := 206) rfl)) rfl)⟩, am_tT 1022 (by decide +kernel), (am_tT 981 (by decide +kernel)), by decide +kernel⟩
theorem co_X7_3 : Cond.methodLink RX7 3 Lib.objectInit ∈ am_T := (am_tT 152 (by decide +kernel))
theorem cv_X7_47 : am_CV RX7 47 mX7_takesOperand 2 := ⟨ce_X7_takesOperand, (am_tT 630 (by decide +kernel)), (am_tT 632 (by decide +kernel)), am_tT 2 (by decide +kernel)⟩
theorem cv_X7_51 : am_CV RX7 51 mX7_takesOperator 1 := ⟨ce_X7_takesOperator, (am_tT 723 (by decide +kernel)), (am_tT 725 (by decide +kernel)), am_tT 4 (by decide +kernel)⟩
theorem cv_X7_55 : am_CV RX7 55 mX7_isComplete 0 := ⟨ce_X7_isComplete, (am_tT 746 (by decide +kernel)), (am_tT 748 (by decide +kernel)), am_tT 9 (by decide +kernel)⟩
theorem cv_X7_59 : am_CV RX7 59 mX7_push 1 := ⟨ce_X7_push, (am_tT 587 (by decide +kernel)), (am_tT 589 (by decide +kernel)), am_tT 1 (by decide +kernel)⟩
theorem cs_X7_63 : am_CS RX7 63 mX7_isDigit 1 := ⟨ce_X7_isDigit, (am_tT 634 (by decide +kernel)), (am_tT 635 (by decide +kernel))⟩
theorem cv_X7_66 : am_CV RX7 66 mX7_append 1 := ⟨ce_X7_append, (am_tT 637 (by decide +kernel)), (am_tT 639 (by decide +kernel)), am_tT 3 (by decide +kernel)⟩
theorem cv_X7_69 : am_CV RX7 69 mJ0_indexOf_0f7a4 1 := ⟨ce_J0_indexOf_0f7a4, (am_tT 641 (by decide +kernel)), (am_tT 642 (by decide +kernel)), am_tT 643 (by decide +kernel)⟩
theorem cv_X7_75 : am_CV RX7 75 mX7_takesDigit 1 := ⟨ce_X7_takesDigit, (am_tT 727 (by decide +kernel)), (am_tT 729 (by decide +kernel)), am_tT 5 (by decide +kernel)⟩
theorem cv_X7_78 : am_CV RX7 78 mX7_takesClose 0 := ⟨ce_X7_takesClose, (am_tT 731 (by decide +kernel)), (am_tT 733 (by decide +kernel)), am_tT 6 (by decide +kernel)⟩
theorem cs_X7_81 : am_CS RX7 81 mX7_rank 1 := ⟨ce_X7_rank, (am_tT 739 (by decide +kernel)), (am_tT 740 (by decide +kernel))⟩
theorem cv_X7_84 : am_CV RX7 84 mX7_popAbove 1 := ⟨ce_X7_popAbove, (am_tT 735 (by decide +kernel)), (am_tT 737 (by decide +kernel)), am_tT 7 (by decide +kernel)⟩
theorem cv_X7_87 : am_CV RX7 87 mX7_pop 0 := ⟨ce_X7_pop, (am_tT 742 (by decide +kernel)), (am_tT 744 (by decide +kernel)), am_tT 8 (by decide +kernel)⟩
theorem cn_X7_90 : am_CN RX7 90 mX11_asBit 1 := ⟨ce_X11_asBit, ⟨"SmokeRings", List.mem_filter.mpr ⟨List.mem_of_getElem? (i := 591) (by decide +kernel), rfl⟩⟩, (am_tT 324 (by decide +kernel))⟩
theorem cs_X7_94 : am_CS RX7 94 mX7_result 3 := ⟨ce_X7_result, (am_tT 592 (by decide +kernel)), (am_tT 593 (by decide +kernel))⟩
theorem cn_X7_98 : am_CN RX7 98 mX11_quotient 2 := ⟨ce_X11_quotient, ⟨"SmokeRings", List.mem_filter.mpr ⟨List.mem_of_getElem? (i := 595) (by decide +kernel), rfl⟩⟩, (am_tT 331 (by decide +kernel))⟩
theorem ci_X8_3 : am_CI RX8 3 mX2_init 3 := ⟨ce_X2_init, (am_tT 354 (by decide +kernel)), (am_tT 355 (by decide +kernel)), rfl, rfl⟩
theorem cp_X8_9 : am_CP RX8 9 mX2_widens 2 := ⟨ce_X2_widens, (am_tT 530 (by decide +kernel)), (am_tT 503 (by decide +kernel)), (am_tT 377 (by decide +kernel)), (am_tT 501 (by decide +kernel)), by decide +kernel⟩
theorem cv_X8_13 : am_CV RX8 13 mX3_gap 1 := ⟨ce_X3_gap, (am_tT 531 (by decide +kernel)), (am_tT 520 (by decide +kernel)), am_tT 521 (by decide +kernel)⟩
theorem cv_X8_23 : am_CV RX8 23 mX5_add 1 := ⟨ce_X5_add, (am_tT 988 (by decide +kernel)), (am_tT 617 (by decide +kernel)), am_tT 618 (by decide +kernel)⟩
theorem cp_X8_29 : am_CP RX8 29 mX2_moves 2 := ⟨ce_X2_moves, (am_tT 989 (by decide +kernel)), (am_tT 977 (by decide +kernel)), (am_tT 377 (by decide +kernel)), (am_tT 975 (by decide +kernel)), by decide +kernel⟩
set_option maxRecDepth 100000 in
theorem cu_X8_33_8 : am_CU RX8 33 (⟨"SmokeRings$Through", "ends", "(ILSmokeRings$Row;)I"⟩ : MethodName) RX2 RX8 mX2_ends 2 := ⟨ce_X2_ends, (am_tT 990 (by decide +kernel)), (am_tT 991 (by decide +kernel)), (am_tT 994 (by decide +kernel)), ⟨_, _, _, (am_tC (am_in4 _ (List.mem_of_getElem? (i := 219) rfl)) rfl)⟩, am_tT 993 (by decide +kernel), (am_tT 994 (by decide +kernel)), by decide +kernel⟩
theorem ci_X9_3 : am_CI RX9 3 mX0_init 3 := ⟨ce_X0_init, (am_tT 403 (by decide +kernel)), (am_tT 391 (by decide +kernel)), rfl, rfl⟩
theorem cv_X9_15 : am_CV RX9 15 mX3_isNear 1 := ⟨ce_X3_isNear, (am_tT 557 (by decide +kernel)), (am_tT 508 (by decide +kernel)), am_tT 509 (by decide +kernel)⟩
theorem cv_X9_19 : am_CV RX9 19 mX5_add 1 := ⟨ce_X5_add, (am_tT 967 (by decide +kernel)), (am_tT 617 (by decide +kernel)), am_tT 618 (by decide +kernel)⟩
theorem cv_X9_32 : am_CV RX9 32 mX9_goes 2 := ⟨ce_X9_goes, (am_tT 1032 (by decide +kernel)), (am_tT 965 (by decide +kernel)), am_tT 1599 (by decide +kernel)⟩
theorem ci_X10_1 : am_CI RX10 1 mX2_init 3 := ⟨ce_X2_init, (am_tT 413 (by decide +kernel)), (am_tT 355 (by decide +kernel)), rfl, rfl⟩
theorem cs_X10_13 : am_CS RX10 13 mJ9_abs_0f7a4 1 := ⟨ce_J9_abs_0f7a4, (am_tT 479 (by decide +kernel)), (am_tT 480 (by decide +kernel))⟩
theorem cv_X10_27 : am_CV RX10 27 mX5_add 1 := ⟨ce_X5_add, (am_tT 983 (by decide +kernel)), (am_tT 617 (by decide +kernel)), am_tT 618 (by decide +kernel)⟩
theorem cp_X10_33 : am_CP RX10 33 mX2_moves 2 := ⟨ce_X2_moves, (am_tT 984 (by decide +kernel)), (am_tT 977 (by decide +kernel)), (am_tT 417 (by decide +kernel)), (am_tT 975 (by decide +kernel)), by decide +kernel⟩
theorem co_X11_3 : Cond.methodLink RX11 3 Lib.objectInit ∈ am_T := (am_tT 83 (by decide +kernel))
theorem ci_X11_11 : am_CI RX11 11 mX4_init 0 := ⟨ce_X4_init, (am_tT 88 (by decide +kernel)), (am_tT 89 (by decide +kernel)), rfl, rfl⟩
theorem ci_X11_35 : am_CI RX11 35 mX5_init 1 := ⟨ce_X5_init, (am_tT 252 (by decide +kernel)), (am_tT 180 (by decide +kernel)), rfl, rfl⟩
theorem ci_X11_44 : am_CI RX11 44 mX7_init 0 := ⟨ce_X7_init, (am_tT 254 (by decide +kernel)), (am_tT 150 (by decide +kernel)), rfl, rfl⟩
theorem cs_X11_56 : am_CS RX11 56 mX11_isHeld 3 := ⟨ce_X11_isHeld, (am_tT 290 (by decide +kernel)), (am_tT 291 (by decide +kernel))⟩
theorem cv_X11_61 : am_CV RX11 61 mX11_error 1 := ⟨ce_X11_error, (am_tT 294 (by decide +kernel)), (am_tT 296 (by decide +kernel)), am_tT 0 (by decide +kernel)⟩
theorem cv_X11_65 : am_CV RX11 65 mX4_isFull 0 := ⟨ce_X4_isFull, (am_tT 299 (by decide +kernel)), (am_tT 300 (by decide +kernel)), am_tT 301 (by decide +kernel)⟩
theorem cv_X11_70 : am_CV RX11 70 mX4_addRing 6 := ⟨ce_X4_addRing, (am_tT 304 (by decide +kernel)), (am_tT 305 (by decide +kernel)), am_tT 306 (by decide +kernel)⟩
theorem cv_X11_74 : am_CV RX11 74 mX4_hasRing 1 := ⟨ce_X4_hasRing, (am_tT 315 (by decide +kernel)), (am_tT 316 (by decide +kernel)), am_tT 317 (by decide +kernel)⟩
theorem cv_X11_82 : am_CV RX11 82 mX3_trait 1 := ⟨ce_X3_trait, (am_tT 319 (by decide +kernel)), (am_tT 320 (by decide +kernel)), am_tT 321 (by decide +kernel)⟩
theorem cs_X11_91 : am_CS RX11 91 mX11_asBit 1 := ⟨ce_X11_asBit, (am_tT 337 (by decide +kernel)), (am_tT 324 (by decide +kernel))⟩
theorem cs_X11_101 : am_CS RX11 101 mX11_makeLaw 3 := ⟨ce_X11_makeLaw, (am_tT 346 (by decide +kernel)), (am_tT 347 (by decide +kernel))⟩
theorem cv_X11_105 : am_CV RX11 105 mX4_addLaw 1 := ⟨ce_X4_addLaw, (am_tT 435 (by decide +kernel)), (am_tT 436 (by decide +kernel)), am_tT 437 (by decide +kernel)⟩
theorem cv_X11_109 : am_CV RX11 109 mX4_hasLaw 1 := ⟨ce_X4_hasLaw, (am_tT 443 (by decide +kernel)), (am_tT 444 (by decide +kernel)), am_tT 445 (by decide +kernel)⟩
theorem cv_X11_124 : am_CV RX11 124 mX4_isOn 1 := ⟨ce_X4_isOn, (am_tT 447 (by decide +kernel)), (am_tT 448 (by decide +kernel)), am_tT 449 (by decide +kernel)⟩
theorem cs_X11_127 : am_CS RX11 127 mX11_isOfKind 2 := ⟨ce_X11_isOfKind, (am_tT 455 (by decide +kernel)), (am_tT 456 (by decide +kernel))⟩
set_option maxRecDepth 100000 in
theorem cu_X11_135_0 : am_CU RX11 135 yX2_spreads RX2 RX0 mX2_spreads 2 := ⟨ce_X2_spreads, (am_tT 467 (by decide +kernel)), (am_tT 470 (by decide +kernel)), (am_tT 468 (by decide +kernel)), ⟨_, _, _, (am_tC (am_in2 _ (List.mem_of_getElem? (i := 189) rfl)) rfl)⟩, am_tT 471 (by decide +kernel), (am_tT 468 (by decide +kernel)), by decide +kernel⟩
set_option maxRecDepth 100000 in
theorem cu_X11_135_1 : am_CU RX11 135 yX2_spreads RX2 RX1 mX2_spreads 2 := ⟨ce_X2_spreads, (am_tT 467 (by decide +kernel)), (am_tT 470 (by decide +kernel)), (am_tT 468 (by decide +kernel)), ⟨_, _, _, (am_tC (am_in2 _ (List.mem_of_getElem? (i := 189) rfl)) rfl)⟩, am_tT 472 (by decide +kernel), (am_tT 468 (by decide +kernel)), by decide +kernel⟩
set_option maxRecDepth 100000 in
theorem cu_X11_135_2 : am_CU RX11 135 yX2_spreads RX2 RX2 mX2_spreads 2 := ⟨ce_X2_spreads, (am_tT 467 (by decide +kernel)), (am_tT 470 (by decide +kernel)), (am_tT 468 (by decide +kernel)), ⟨_, _, _, (am_tC (am_in2 _ (List.mem_of_getElem? (i := 189) rfl)) rfl)⟩, am_tT 469 (by decide +kernel), (am_tT 468 (by decide +kernel)), by decide +kernel⟩
set_option maxRecDepth 100000 in
theorem cu_X11_135_6 : am_CU RX11 135 yX2_spreads RX2 RX6 mX6_spreads 2 := ⟨ce_X6_spreads, (am_tT 467 (by decide +kernel)), (am_tT 470 (by decide +kernel)), (am_tT 468 (by decide +kernel)), ⟨_, _, _, (am_tC (am_in2 _ (List.mem_of_getElem? (i := 189) rfl)) rfl)⟩, am_tT 473 (by decide +kernel), (am_tT 474 (by decide +kernel)), by decide +kernel⟩
set_option maxRecDepth 100000 in
theorem cu_X11_135_8 : am_CU RX11 135 yX2_spreads RX2 RX8 mX2_spreads 2 := ⟨ce_X2_spreads, (am_tT 467 (by decide +kernel)), (am_tT 470 (by decide +kernel)), (am_tT 468 (by decide +kernel)), ⟨_, _, _, (am_tC (am_in2 _ (List.mem_of_getElem? (i := 189) rfl)) rfl)⟩, am_tT 482 (by decide +kernel), (am_tT 468 (by decide +kernel)), by decide +kernel⟩
set_option maxRecDepth 100000 in
theorem cu_X11_135_9 : am_CU RX11 135 yX2_spreads RX2 RX9 mX2_spreads 2 := ⟨ce_X2_spreads, (am_tT 467 (by decide +kernel)), (am_tT 470 (by decide +kernel)), (am_tT 468 (by decide +kernel)), ⟨_, _, _, (am_tC (am_in2 _ (List.mem_of_getElem? (i := 189) rfl)) rfl)⟩, am_tT 483 (by decide +kernel), (am_tT 468 (by decide +kernel)), by decide +kernel⟩
set_option maxRecDepth 100000 in
theorem cu_X11_135_10 : am_CU RX11 135 yX2_spreads RX2 RX10 mX10_spreads 2 := ⟨ce_X10_spreads, (am_tT 467 (by decide +kernel)), (am_tT 470 (by decide +kernel)), (am_tT 468 (by decide +kernel)), ⟨_, _, _, (am_tC (am_in2 _ (List.mem_of_getElem? (i := 189) rfl)) rfl)⟩, am_tT 484 (by decide +kernel), (am_tT 477 (by decide +kernel)), by decide +kernel⟩
set_option maxRecDepth 100000 in
theorem cu_X11_139_0 : am_CU RX11 139 yX2_lifts RX2 RX0 mX2_lifts 2 := ⟨ce_X2_lifts, (am_tT 486 (by decide +kernel)), (am_tT 489 (by decide +kernel)), (am_tT 487 (by decide +kernel)), ⟨_, _, _, (am_tC (am_in2 _ (List.mem_of_getElem? (i := 203) rfl)) rfl)⟩, am_tT 490 (by decide +kernel), (am_tT 487 (by decide +kernel)), by decide +kernel⟩
set_option maxRecDepth 100000 in
theorem cu_X11_139_1 : am_CU RX11 139 yX2_lifts RX2 RX1 mX2_lifts 2 := ⟨ce_X2_lifts, (am_tT 486 (by decide +kernel)), (am_tT 489 (by decide +kernel)), (am_tT 487 (by decide +kernel)), ⟨_, _, _, (am_tC (am_in2 _ (List.mem_of_getElem? (i := 203) rfl)) rfl)⟩, am_tT 491 (by decide +kernel), (am_tT 487 (by decide +kernel)), by decide +kernel⟩
set_option maxRecDepth 100000 in
theorem cu_X11_139_2 : am_CU RX11 139 yX2_lifts RX2 RX2 mX2_lifts 2 := ⟨ce_X2_lifts, (am_tT 486 (by decide +kernel)), (am_tT 489 (by decide +kernel)), (am_tT 487 (by decide +kernel)), ⟨_, _, _, (am_tC (am_in2 _ (List.mem_of_getElem? (i := 203) rfl)) rfl)⟩, am_tT 488 (by decide +kernel), (am_tT 487 (by decide +kernel)), by decide +kernel⟩
set_option maxRecDepth 100000 in
theorem cu_X11_139_6 : am_CU RX11 139 yX2_lifts RX2 RX6 mX6_lifts 2 := ⟨ce_X6_lifts, (am_tT 486 (by decide +kernel)), (am_tT 489 (by decide +kernel)), (am_tT 487 (by decide +kernel)), ⟨_, _, _, (am_tC (am_in2 _ (List.mem_of_getElem? (i := 203) rfl)) rfl)⟩, am_tT 492 (by decide +kernel), (am_tT 493 (by decide +kernel)), by decide +kernel⟩
set_option maxRecDepth 100000 in
theorem cu_X11_139_8 : am_CU RX11 139 yX2_lifts RX2 RX8 mX2_lifts 2 := ⟨ce_X2_lifts, (am_tT 486 (by decide +kernel)), (am_tT 489 (by decide +kernel)), (am_tT 487 (by decide +kernel)), ⟨_, _, _, (am_tC (am_in2 _ (List.mem_of_getElem? (i := 203) rfl)) rfl)⟩, am_tT 496 (by decide +kernel), (am_tT 487 (by decide +kernel)), by decide +kernel⟩
set_option maxRecDepth 100000 in
theorem cu_X11_139_9 : am_CU RX11 139 yX2_lifts RX2 RX9 mX2_lifts 2 := ⟨ce_X2_lifts, (am_tT 486 (by decide +kernel)), (am_tT 489 (by decide +kernel)), (am_tT 487 (by decide +kernel)), ⟨_, _, _, (am_tC (am_in2 _ (List.mem_of_getElem? (i := 203) rfl)) rfl)⟩, am_tT 497 (by decide +kernel), (am_tT 487 (by decide +kernel)), by decide +kernel⟩
set_option maxRecDepth 100000 in
theorem cu_X11_139_10 : am_CU RX11 139 yX2_lifts RX2 RX10 mX2_lifts 2 := ⟨ce_X2_lifts, (am_tT 486 (by decide +kernel)), (am_tT 489 (by decide +kernel)), (am_tT 487 (by decide +kernel)), ⟨_, _, _, (am_tC (am_in2 _ (List.mem_of_getElem? (i := 203) rfl)) rfl)⟩, am_tT 498 (by decide +kernel), (am_tT 487 (by decide +kernel)), by decide +kernel⟩
set_option maxRecDepth 100000 in
theorem cu_X11_142_0 : am_CU RX11 142 yX2_widens RX2 RX0 mX0_widens 2 := ⟨ce_X0_widens, (am_tT 500 (by decide +kernel)), (am_tT 503 (by decide +kernel)), (am_tT 501 (by decide +kernel)), ⟨_, _, _, (am_tC (am_in2 _ (List.mem_of_getElem? (i := 238) rfl)) rfl)⟩, am_tT 504 (by decide +kernel), (am_tT 505 (by decide +kernel)), by decide +kernel⟩
set_option maxRecDepth 100000 in
theorem cu_X11_142_1 : am_CU RX11 142 yX2_widens RX2 RX1 mX2_widens 2 := ⟨ce_X2_widens, (am_tT 500 (by decide +kernel)), (am_tT 503 (by decide +kernel)), (am_tT 501 (by decide +kernel)), ⟨_, _, _, (am_tC (am_in2 _ (List.mem_of_getElem? (i := 238) rfl)) rfl)⟩, am_tT 523 (by decide +kernel), (am_tT 501 (by decide +kernel)), by decide +kernel⟩
set_option maxRecDepth 100000 in
theorem cu_X11_142_2 : am_CU RX11 142 yX2_widens RX2 RX2 mX2_widens 2 := ⟨ce_X2_widens, (am_tT 500 (by decide +kernel)), (am_tT 503 (by decide +kernel)), (am_tT 501 (by decide +kernel)), ⟨_, _, _, (am_tC (am_in2 _ (List.mem_of_getElem? (i := 238) rfl)) rfl)⟩, am_tT 502 (by decide +kernel), (am_tT 501 (by decide +kernel)), by decide +kernel⟩
set_option maxRecDepth 100000 in
theorem cu_X11_142_6 : am_CU RX11 142 yX2_widens RX2 RX6 mX10_widens 2 := ⟨ce_X10_widens, (am_tT 500 (by decide +kernel)), (am_tT 503 (by decide +kernel)), (am_tT 501 (by decide +kernel)), ⟨_, _, _, (am_tC (am_in2 _ (List.mem_of_getElem? (i := 238) rfl)) rfl)⟩, am_tT 524 (by decide +kernel), (am_tT 525 (by decide +kernel)), by decide +kernel⟩
set_option maxRecDepth 100000 in
theorem cu_X11_142_8 : am_CU RX11 142 yX2_widens RX2 RX8 mX8_widens 2 := ⟨ce_X8_widens, (am_tT 500 (by decide +kernel)), (am_tT 503 (by decide +kernel)), (am_tT 501 (by decide +kernel)), ⟨_, _, _, (am_tC (am_in2 _ (List.mem_of_getElem? (i := 238) rfl)) rfl)⟩, am_tT 527 (by decide +kernel), (am_tT 528 (by decide +kernel)), by decide +kernel⟩
set_option maxRecDepth 100000 in
theorem cu_X11_142_9 : am_CU RX11 142 yX2_widens RX2 RX9 mX0_widens 2 := ⟨ce_X0_widens, (am_tT 500 (by decide +kernel)), (am_tT 503 (by decide +kernel)), (am_tT 501 (by decide +kernel)), ⟨_, _, _, (am_tC (am_in2 _ (List.mem_of_getElem? (i := 238) rfl)) rfl)⟩, am_tT 532 (by decide +kernel), (am_tT 505 (by decide +kernel)), by decide +kernel⟩
set_option maxRecDepth 100000 in
theorem cu_X11_142_10 : am_CU RX11 142 yX2_widens RX2 RX10 mX10_widens 2 := ⟨ce_X10_widens, (am_tT 500 (by decide +kernel)), (am_tT 503 (by decide +kernel)), (am_tT 501 (by decide +kernel)), ⟨_, _, _, (am_tC (am_in2 _ (List.mem_of_getElem? (i := 238) rfl)) rfl)⟩, am_tT 533 (by decide +kernel), (am_tT 525 (by decide +kernel)), by decide +kernel⟩
set_option maxRecDepth 100000 in
theorem cu_X11_146_0 : am_CU RX11 146 yX2_endsBy RX2 RX0 mX2_endsBy 2 := ⟨ce_X2_endsBy, (am_tT 541 (by decide +kernel)), (am_tT 544 (by decide +kernel)), (am_tT 542 (by decide +kernel)), ⟨_, _, _, (am_tC (am_in3 _ (List.mem_of_getElem? (i := 23) rfl)) rfl)⟩, am_tT 545 (by decide +kernel), (am_tT 542 (by decide +kernel)), by decide +kernel⟩
set_option maxRecDepth 100000 in
theorem cu_X11_146_1 : am_CU RX11 146 yX2_endsBy RX2 RX1 mX1_endsBy 2 := ⟨ce_X1_endsBy, (am_tT 541 (by decide +kernel)), (am_tT 544 (by decide +kernel)), (am_tT 542 (by decide +kernel)), ⟨_, _, _, (am_tC (am_in3 _ (List.mem_of_getElem? (i := 23) rfl)) rfl)⟩, am_tT 546 (by decide +kernel), (am_tT 547 (by decide +kernel)), by decide +kernel⟩
set_option maxRecDepth 100000 in
theorem cu_X11_146_2 : am_CU RX11 146 yX2_endsBy RX2 RX2 mX2_endsBy 2 := ⟨ce_X2_endsBy, (am_tT 541 (by decide +kernel)), (am_tT 544 (by decide +kernel)), (am_tT 542 (by decide +kernel)), ⟨_, _, _, (am_tC (am_in3 _ (List.mem_of_getElem? (i := 23) rfl)) rfl)⟩, am_tT 543 (by decide +kernel), (am_tT 542 (by decide +kernel)), by decide +kernel⟩
set_option maxRecDepth 100000 in
theorem cu_X11_146_6 : am_CU RX11 146 yX2_endsBy RX2 RX6 mX2_endsBy 2 := ⟨ce_X2_endsBy, (am_tT 541 (by decide +kernel)), (am_tT 544 (by decide +kernel)), (am_tT 542 (by decide +kernel)), ⟨_, _, _, (am_tC (am_in3 _ (List.mem_of_getElem? (i := 23) rfl)) rfl)⟩, am_tT 552 (by decide +kernel), (am_tT 542 (by decide +kernel)), by decide +kernel⟩
set_option maxRecDepth 100000 in
theorem cu_X11_146_8 : am_CU RX11 146 yX2_endsBy RX2 RX8 mX2_endsBy 2 := ⟨ce_X2_endsBy, (am_tT 541 (by decide +kernel)), (am_tT 544 (by decide +kernel)), (am_tT 542 (by decide +kernel)), ⟨_, _, _, (am_tC (am_in3 _ (List.mem_of_getElem? (i := 23) rfl)) rfl)⟩, am_tT 553 (by decide +kernel), (am_tT 542 (by decide +kernel)), by decide +kernel⟩
set_option maxRecDepth 100000 in
theorem cu_X11_146_9 : am_CU RX11 146 yX2_endsBy RX2 RX9 mX9_endsBy 2 := ⟨ce_X9_endsBy, (am_tT 541 (by decide +kernel)), (am_tT 544 (by decide +kernel)), (am_tT 542 (by decide +kernel)), ⟨_, _, _, (am_tC (am_in3 _ (List.mem_of_getElem? (i := 23) rfl)) rfl)⟩, am_tT 554 (by decide +kernel), (am_tT 555 (by decide +kernel)), by decide +kernel⟩
set_option maxRecDepth 100000 in
theorem cu_X11_146_10 : am_CU RX11 146 yX2_endsBy RX2 RX10 mX2_endsBy 2 := ⟨ce_X2_endsBy, (am_tT 541 (by decide +kernel)), (am_tT 544 (by decide +kernel)), (am_tT 542 (by decide +kernel)), ⟨_, _, _, (am_tC (am_in3 _ (List.mem_of_getElem? (i := 23) rfl)) rfl)⟩, am_tT 558 (by decide +kernel), (am_tT 542 (by decide +kernel)), by decide +kernel⟩
theorem cv_X11_150 : am_CV RX11 150 mX3_gap 1 := ⟨ce_X3_gap, (am_tT 564 (by decide +kernel)), (am_tT 520 (by decide +kernel)), am_tT 521 (by decide +kernel)⟩
theorem cv_X11_154 : am_CV RX11 154 mX3_isNear 1 := ⟨ce_X3_isNear, (am_tT 565 (by decide +kernel)), (am_tT 508 (by decide +kernel)), am_tT 509 (by decide +kernel)⟩
theorem cv_X11_158 : am_CV RX11 158 mX3_isBehind 1 := ⟨ce_X3_isBehind, (am_tT 566 (by decide +kernel)), (am_tT 538 (by decide +kernel)), am_tT 539 (by decide +kernel)⟩
theorem cv_X11_164 : am_CV RX11 164 mX4_addStroke 2 := ⟨ce_X4_addStroke, (am_tT 575 (by decide +kernel)), (am_tT 576 (by decide +kernel)), am_tT 577 (by decide +kernel)⟩
theorem cv_X11_168 : am_CV RX11 168 mX4_trailing 1 := ⟨ce_X4_trailing, (am_tT 604 (by decide +kernel)), (am_tT 605 (by decide +kernel)), am_tT 606 (by decide +kernel)⟩
theorem cv_X11_179 : am_CV RX11 179 mX5_add 1 := ⟨ce_X5_add, (am_tT 616 (by decide +kernel)), (am_tT 617 (by decide +kernel)), am_tT 618 (by decide +kernel)⟩
theorem cv_X11_186 : am_CV RX11 186 mX7_read 2 := ⟨ce_X7_read, (am_tT 626 (by decide +kernel)), (am_tT 627 (by decide +kernel)), am_tT 628 (by decide +kernel)⟩
theorem cv_X11_194 : am_CV RX11 194 mX7_become 1 := ⟨ce_X7_become, (am_tT 750 (by decide +kernel)), (am_tT 751 (by decide +kernel)), am_tT 752 (by decide +kernel)⟩
theorem cv_X11_198 : am_CV RX11 198 mX4_given 4 := ⟨ce_X4_given, (am_tT 762 (by decide +kernel)), (am_tT 580 (by decide +kernel)), am_tT 581 (by decide +kernel)⟩
theorem cv_X11_202 : am_CV RX11 202 mX11_pass 2 := ⟨ce_X11_pass, (am_tT 767 (by decide +kernel)), (am_tT 769 (by decide +kernel)), am_tT 10 (by decide +kernel)⟩
theorem cv_X11_206 : am_CV RX11 206 mX4_foremost 0 := ⟨ce_X4_foremost, (am_tT 828 (by decide +kernel)), (am_tT 829 (by decide +kernel)), am_tT 830 (by decide +kernel)⟩
theorem cs_X11_211 : am_CS RX11 211 mX11_isAhead 1 := ⟨ce_X11_isAhead, (am_tT 837 (by decide +kernel)), (am_tT 838 (by decide +kernel))⟩
theorem cv_X11_214 : am_CV RX11 214 mX11_goAhead 1 := ⟨ce_X11_goAhead, (am_tT 840 (by decide +kernel)), (am_tT 842 (by decide +kernel)), am_tT 17 (by decide +kernel)⟩
theorem cv_X11_217 : am_CV RX11 217 mX4_wholeCount 0 := ⟨ce_X4_wholeCount, (am_tT 863 (by decide +kernel)), (am_tT 864 (by decide +kernel)), am_tT 865 (by decide +kernel)⟩
theorem cv_X11_220 : am_CV RX11 220 mX4_become 1 := ⟨ce_X4_become, (am_tT 844 (by decide +kernel)), (am_tT 845 (by decide +kernel)), am_tT 846 (by decide +kernel)⟩
theorem cv_X11_223 : am_CV RX11 223 mX4_changesOfFront 2 := ⟨ce_X4_changesOfFront, (am_tT 872 (by decide +kernel)), (am_tT 873 (by decide +kernel)), am_tT 874 (by decide +kernel)⟩
theorem cv_X11_226 : am_CV RX11 226 mX4_greatestX 2 := ⟨ce_X4_greatestX, (am_tT 882 (by decide +kernel)), (am_tT 883 (by decide +kernel)), am_tT 884 (by decide +kernel)⟩
theorem cs_X11_238 : am_CS RX11 238 mX11_quotient 2 := ⟨ce_X11_quotient, (am_tT 890 (by decide +kernel)), (am_tT 331 (by decide +kernel))⟩
theorem cv_X11_241 : am_CV RX11 241 mX4_tick 0 := ⟨ce_X4_tick, (am_tT 772 (by decide +kernel)), (am_tT 773 (by decide +kernel)), am_tT 774 (by decide +kernel)⟩
theorem cv_X11_247 : am_CV RX11 247 mX4_takeRings 1 := ⟨ce_X4_takeRings, (am_tT 899 (by decide +kernel)), (am_tT 849 (by decide +kernel)), am_tT 850 (by decide +kernel)⟩
theorem cs_X11_250 : am_CS RX11 250 mJ9_min_7cf53 2 := ⟨ce_J9_min_7cf53, (am_tT 904 (by decide +kernel)), (am_tT 309 (by decide +kernel))⟩
theorem cv_X11_255 : am_CV RX11 255 mX11_filmError 1 := ⟨ce_X11_filmError, (am_tT 909 (by decide +kernel)), (am_tT 911 (by decide +kernel)), am_tT 18 (by decide +kernel)⟩
theorem cv_X11_259 : am_CV RX11 259 mX11_offBy 2 := ⟨ce_X11_offBy, (am_tT 921 (by decide +kernel)), (am_tT 923 (by decide +kernel)), am_tT 20 (by decide +kernel)⟩
set_option maxRecDepth 100000 in
theorem cu_X11_266_0 : am_CU RX11 266 yX2_goes RX2 RX0 mX2_goes 2 := ⟨ce_X2_goes, (am_tT 952 (by decide +kernel)), (am_tT 955 (by decide +kernel)), (am_tT 953 (by decide +kernel)), ⟨_, _, _, (am_tC (am_in4 _ (List.mem_of_getElem? (i := 196) rfl)) rfl)⟩, am_tT 956 (by decide +kernel), (am_tT 953 (by decide +kernel)), by decide +kernel⟩
set_option maxRecDepth 100000 in
theorem cu_X11_266_1 : am_CU RX11 266 yX2_goes RX2 RX1 mX1_goes 2 := ⟨ce_X1_goes, (am_tT 952 (by decide +kernel)), (am_tT 955 (by decide +kernel)), (am_tT 953 (by decide +kernel)), ⟨_, _, _, (am_tC (am_in4 _ (List.mem_of_getElem? (i := 196) rfl)) rfl)⟩, am_tT 957 (by decide +kernel), (am_tT 958 (by decide +kernel)), by decide +kernel⟩
set_option maxRecDepth 100000 in
theorem cu_X11_266_2 : am_CU RX11 266 yX2_goes RX2 RX2 mX2_goes 2 := ⟨ce_X2_goes, (am_tT 952 (by decide +kernel)), (am_tT 955 (by decide +kernel)), (am_tT 953 (by decide +kernel)), ⟨_, _, _, (am_tC (am_in4 _ (List.mem_of_getElem? (i := 196) rfl)) rfl)⟩, am_tT 954 (by decide +kernel), (am_tT 953 (by decide +kernel)), by decide +kernel⟩
set_option maxRecDepth 100000 in
theorem cu_X11_266_6 : am_CU RX11 266 yX2_goes RX2 RX6 mX2_goes 2 := ⟨ce_X2_goes, (am_tT 952 (by decide +kernel)), (am_tT 955 (by decide +kernel)), (am_tT 953 (by decide +kernel)), ⟨_, _, _, (am_tC (am_in4 _ (List.mem_of_getElem? (i := 196) rfl)) rfl)⟩, am_tT 962 (by decide +kernel), (am_tT 953 (by decide +kernel)), by decide +kernel⟩
set_option maxRecDepth 100000 in
theorem cu_X11_266_8 : am_CU RX11 266 yX2_goes RX2 RX8 mX2_goes 2 := ⟨ce_X2_goes, (am_tT 952 (by decide +kernel)), (am_tT 955 (by decide +kernel)), (am_tT 953 (by decide +kernel)), ⟨_, _, _, (am_tC (am_in4 _ (List.mem_of_getElem? (i := 196) rfl)) rfl)⟩, am_tT 963 (by decide +kernel), (am_tT 953 (by decide +kernel)), by decide +kernel⟩
set_option maxRecDepth 100000 in
theorem cu_X11_266_9 : am_CU RX11 266 yX2_goes RX2 RX9 mX9_goes 2 := ⟨ce_X9_goes, (am_tT 952 (by decide +kernel)), (am_tT 955 (by decide +kernel)), (am_tT 953 (by decide +kernel)), ⟨_, _, _, (am_tC (am_in4 _ (List.mem_of_getElem? (i := 196) rfl)) rfl)⟩, am_tT 964 (by decide +kernel), (am_tT 965 (by decide +kernel)), by decide +kernel⟩
set_option maxRecDepth 100000 in
theorem cu_X11_266_10 : am_CU RX11 266 yX2_goes RX2 RX10 mX2_goes 2 := ⟨ce_X2_goes, (am_tT 952 (by decide +kernel)), (am_tT 955 (by decide +kernel)), (am_tT 953 (by decide +kernel)), ⟨_, _, _, (am_tC (am_in4 _ (List.mem_of_getElem? (i := 196) rfl)) rfl)⟩, am_tT 971 (by decide +kernel), (am_tT 953 (by decide +kernel)), by decide +kernel⟩
set_option maxRecDepth 100000 in
theorem cu_X11_270_0 : am_CU RX11 270 yX2_moves RX2 RX0 mX2_moves 2 := ⟨ce_X2_moves, (am_tT 974 (by decide +kernel)), (am_tT 977 (by decide +kernel)), (am_tT 975 (by decide +kernel)), ⟨_, _, _, (am_tC (am_in4 _ (List.mem_of_getElem? (i := 222) rfl)) rfl)⟩, am_tT 978 (by decide +kernel), (am_tT 975 (by decide +kernel)), by decide +kernel⟩
set_option maxRecDepth 100000 in
theorem cu_X11_270_1 : am_CU RX11 270 yX2_moves RX2 RX1 mX2_moves 2 := ⟨ce_X2_moves, (am_tT 974 (by decide +kernel)), (am_tT 977 (by decide +kernel)), (am_tT 975 (by decide +kernel)), ⟨_, _, _, (am_tC (am_in4 _ (List.mem_of_getElem? (i := 222) rfl)) rfl)⟩, am_tT 979 (by decide +kernel), (am_tT 975 (by decide +kernel)), by decide +kernel⟩
set_option maxRecDepth 100000 in
theorem cu_X11_270_2 : am_CU RX11 270 yX2_moves RX2 RX2 mX2_moves 2 := ⟨ce_X2_moves, (am_tT 974 (by decide +kernel)), (am_tT 977 (by decide +kernel)), (am_tT 975 (by decide +kernel)), ⟨_, _, _, (am_tC (am_in4 _ (List.mem_of_getElem? (i := 222) rfl)) rfl)⟩, am_tT 976 (by decide +kernel), (am_tT 975 (by decide +kernel)), by decide +kernel⟩
set_option maxRecDepth 100000 in
theorem cu_X11_270_6 : am_CU RX11 270 yX2_moves RX2 RX6 mX10_moves 2 := ⟨ce_X10_moves, (am_tT 974 (by decide +kernel)), (am_tT 977 (by decide +kernel)), (am_tT 975 (by decide +kernel)), ⟨_, _, _, (am_tC (am_in4 _ (List.mem_of_getElem? (i := 222) rfl)) rfl)⟩, am_tT 980 (by decide +kernel), (am_tT 981 (by decide +kernel)), by decide +kernel⟩
set_option maxRecDepth 100000 in
theorem cu_X11_270_8 : am_CU RX11 270 yX2_moves RX2 RX8 mX8_moves 2 := ⟨ce_X8_moves, (am_tT 974 (by decide +kernel)), (am_tT 977 (by decide +kernel)), (am_tT 975 (by decide +kernel)), ⟨_, _, _, (am_tC (am_in4 _ (List.mem_of_getElem? (i := 222) rfl)) rfl)⟩, am_tT 985 (by decide +kernel), (am_tT 986 (by decide +kernel)), by decide +kernel⟩
set_option maxRecDepth 100000 in
theorem cu_X11_270_9 : am_CU RX11 270 yX2_moves RX2 RX9 mX2_moves 2 := ⟨ce_X2_moves, (am_tT 974 (by decide +kernel)), (am_tT 977 (by decide +kernel)), (am_tT 975 (by decide +kernel)), ⟨_, _, _, (am_tC (am_in4 _ (List.mem_of_getElem? (i := 222) rfl)) rfl)⟩, am_tT 996 (by decide +kernel), (am_tT 975 (by decide +kernel)), by decide +kernel⟩
set_option maxRecDepth 100000 in
theorem cu_X11_270_10 : am_CU RX11 270 yX2_moves RX2 RX10 mX10_moves 2 := ⟨ce_X10_moves, (am_tT 974 (by decide +kernel)), (am_tT 977 (by decide +kernel)), (am_tT 975 (by decide +kernel)), ⟨_, _, _, (am_tC (am_in4 _ (List.mem_of_getElem? (i := 222) rfl)) rfl)⟩, am_tT 997 (by decide +kernel), (am_tT 981 (by decide +kernel)), by decide +kernel⟩
set_option maxRecDepth 100000 in
theorem cu_X11_273_0 : am_CU RX11 273 yX2_ends RX2 RX0 mX0_ends 2 := ⟨ce_X0_ends, (am_tT 1000 (by decide +kernel)), (am_tT 1591 (by decide +kernel)), (am_tT 994 (by decide +kernel)), ⟨_, _, _, (am_tC (am_in4 _ (List.mem_of_getElem? (i := 219) rfl)) rfl)⟩, am_tT 1592 (by decide +kernel), (am_tT 1001 (by decide +kernel)), by decide +kernel⟩
set_option maxRecDepth 100000 in
theorem cu_X11_273_1 : am_CU RX11 273 yX2_ends RX2 RX1 mX2_ends 2 := ⟨ce_X2_ends, (am_tT 1000 (by decide +kernel)), (am_tT 1591 (by decide +kernel)), (am_tT 994 (by decide +kernel)), ⟨_, _, _, (am_tC (am_in4 _ (List.mem_of_getElem? (i := 219) rfl)) rfl)⟩, am_tT 1593 (by decide +kernel), (am_tT 994 (by decide +kernel)), by decide +kernel⟩
set_option maxRecDepth 100000 in
theorem cu_X11_273_2 : am_CU RX11 273 yX2_ends RX2 RX2 mX2_ends 2 := ⟨ce_X2_ends, (am_tT 1000 (by decide +kernel)), (am_tT 1591 (by decide +kernel)), (am_tT 994 (by decide +kernel)), ⟨_, _, _, (am_tC (am_in4 _ (List.mem_of_getElem? (i := 219) rfl)) rfl)⟩, am_tT 1594 (by decide +kernel), (am_tT 994 (by decide +kernel)), by decide +kernel⟩
set_option maxRecDepth 100000 in
theorem cu_X11_273_6 : am_CU RX11 273 yX2_ends RX2 RX6 mX6_ends 2 := ⟨ce_X6_ends, (am_tT 1000 (by decide +kernel)), (am_tT 1591 (by decide +kernel)), (am_tT 994 (by decide +kernel)), ⟨_, _, _, (am_tC (am_in4 _ (List.mem_of_getElem? (i := 219) rfl)) rfl)⟩, am_tT 1595 (by decide +kernel), (am_tT 1005 (by decide +kernel)), by decide +kernel⟩
set_option maxRecDepth 100000 in
theorem cu_X11_273_8 : am_CU RX11 273 yX2_ends RX2 RX8 mX2_ends 2 := ⟨ce_X2_ends, (am_tT 1000 (by decide +kernel)), (am_tT 1591 (by decide +kernel)), (am_tT 994 (by decide +kernel)), ⟨_, _, _, (am_tC (am_in4 _ (List.mem_of_getElem? (i := 219) rfl)) rfl)⟩, am_tT 1596 (by decide +kernel), (am_tT 994 (by decide +kernel)), by decide +kernel⟩
set_option maxRecDepth 100000 in
theorem cu_X11_273_9 : am_CU RX11 273 yX2_ends RX2 RX9 mX0_ends 2 := ⟨ce_X0_ends, (am_tT 1000 (by decide +kernel)), (am_tT 1591 (by decide +kernel)), (am_tT 994 (by decide +kernel)), ⟨_, _, _, (am_tC (am_in4 _ (List.mem_of_getElem? (i := 219) rfl)) rfl)⟩, am_tT 1597 (by decide +kernel), (am_tT 1001 (by decide +kernel)), by decide +kernel⟩
set_option maxRecDepth 100000 in
theorem cu_X11_273_10 : am_CU RX11 273 yX2_ends RX2 RX10 mX2_ends 2 := ⟨ce_X2_ends, (am_tT 1000 (by decide +kernel)), (am_tT 1591 (by decide +kernel)), (am_tT 994 (by decide +kernel)), ⟨_, _, _, (am_tC (am_in4 _ (List.mem_of_getElem? (i := 219) rfl)) rfl)⟩, am_tT 1598 (by decide +kernel), (am_tT 994 (by decide +kernel)), by decide +kernel⟩
set_option maxRecDepth 100000 in
theorem cu_X11_276_0 : am_CU RX11 276 yX2_tells RX2 RX0 mX2_tells 2 := ⟨ce_X2_tells, (am_tT 1010 (by decide +kernel)), (am_tT 1013 (by decide +kernel)), (am_tT 1011 (by decide +kernel)), ⟨_, _, _, (am_tC (am_in5 _ (List.mem_of_getElem? (i := 18) rfl)) rfl)⟩, am_tT 1014 (by decide +kernel), (am_tT 1011 (by decide +kernel)), by decide +kernel⟩
set_option maxRecDepth 100000 in
theorem cu_X11_276_1 : am_CU RX11 276 yX2_tells RX2 RX1 mX2_tells 2 := ⟨ce_X2_tells, (am_tT 1010 (by decide +kernel)), (am_tT 1013 (by decide +kernel)), (am_tT 1011 (by decide +kernel)), ⟨_, _, _, (am_tC (am_in5 _ (List.mem_of_getElem? (i := 18) rfl)) rfl)⟩, am_tT 1015 (by decide +kernel), (am_tT 1011 (by decide +kernel)), by decide +kernel⟩
set_option maxRecDepth 100000 in
theorem cu_X11_276_2 : am_CU RX11 276 yX2_tells RX2 RX2 mX2_tells 2 := ⟨ce_X2_tells, (am_tT 1010 (by decide +kernel)), (am_tT 1013 (by decide +kernel)), (am_tT 1011 (by decide +kernel)), ⟨_, _, _, (am_tC (am_in5 _ (List.mem_of_getElem? (i := 18) rfl)) rfl)⟩, am_tT 1012 (by decide +kernel), (am_tT 1011 (by decide +kernel)), by decide +kernel⟩
set_option maxRecDepth 100000 in
theorem cu_X11_276_6 : am_CU RX11 276 yX2_tells RX2 RX6 mX6_tells 2 := ⟨ce_X6_tells, (am_tT 1010 (by decide +kernel)), (am_tT 1013 (by decide +kernel)), (am_tT 1011 (by decide +kernel)), ⟨_, _, _, (am_tC (am_in5 _ (List.mem_of_getElem? (i := 18) rfl)) rfl)⟩, am_tT 1016 (by decide +kernel), (am_tT 1017 (by decide +kernel)), by decide +kernel⟩
set_option maxRecDepth 100000 in
theorem cu_X11_276_8 : am_CU RX11 276 yX2_tells RX2 RX8 mX2_tells 2 := ⟨ce_X2_tells, (am_tT 1010 (by decide +kernel)), (am_tT 1013 (by decide +kernel)), (am_tT 1011 (by decide +kernel)), ⟨_, _, _, (am_tC (am_in5 _ (List.mem_of_getElem? (i := 18) rfl)) rfl)⟩, am_tT 1026 (by decide +kernel), (am_tT 1011 (by decide +kernel)), by decide +kernel⟩
set_option maxRecDepth 100000 in
theorem cu_X11_276_9 : am_CU RX11 276 yX2_tells RX2 RX9 mX9_tells 2 := ⟨ce_X9_tells, (am_tT 1010 (by decide +kernel)), (am_tT 1013 (by decide +kernel)), (am_tT 1011 (by decide +kernel)), ⟨_, _, _, (am_tC (am_in5 _ (List.mem_of_getElem? (i := 18) rfl)) rfl)⟩, am_tT 1027 (by decide +kernel), (am_tT 1028 (by decide +kernel)), by decide +kernel⟩
set_option maxRecDepth 100000 in
theorem cu_X11_276_10 : am_CU RX11 276 yX2_tells RX2 RX10 mX2_tells 2 := ⟨ce_X2_tells, (am_tT 1010 (by decide +kernel)), (am_tT 1013 (by decide +kernel)), (am_tT 1011 (by decide +kernel)), ⟨_, _, _, (am_tC (am_in5 _ (List.mem_of_getElem? (i := 18) rfl)) rfl)⟩, am_tT 1033 (by decide +kernel), (am_tT 1011 (by decide +kernel)), by decide +kernel⟩
theorem cv_X11_279 : am_CV RX11 279 mX5_has 1 := ⟨ce_X5_has, (am_tT 1041 (by decide +kernel)), (am_tT 1042 (by decide +kernel)), am_tT 1043 (by decide +kernel)⟩
theorem cs_X11_285 : am_CS RX11 285 mX11_isSheet 1 := ⟨ce_X11_isSheet, (am_tT 913 (by decide +kernel)), (am_tT 914 (by decide +kernel))⟩
theorem cv_X11_289 : am_CV RX11 289 mX5_begin 2 := ⟨ce_X5_begin, (am_tT 1049 (by decide +kernel)), (am_tT 1050 (by decide +kernel)), am_tT 1051 (by decide +kernel)⟩
theorem cv_X11_293 : am_CV RX11 293 mX11_isMissing 1 := ⟨ce_X11_isMissing, (am_tT 916 (by decide +kernel)), (am_tT 918 (by decide +kernel)), am_tT 19 (by decide +kernel)⟩
theorem cv_X11_296 : am_CV RX11 296 mX5_write 2 := ⟨ce_X5_write, (am_tT 1060 (by decide +kernel)), (am_tT 1061 (by decide +kernel)), am_tT 1062 (by decide +kernel)⟩
theorem cv_X11_302 : am_CV RX11 302 mX5_stands 2 := ⟨ce_X5_stands, (am_tT 1069 (by decide +kernel)), (am_tT 1070 (by decide +kernel)), am_tT 1071 (by decide +kernel)⟩
theorem cv_X11_318 : am_CV RX11 318 mX11_checked 1 := ⟨ce_X11_checked, (am_tT 1094 (by decide +kernel)), (am_tT 1096 (by decide +kernel)), am_tT 21 (by decide +kernel)⟩
theorem cv_X11_323 : am_CV RX11 323 mX4_blow 0 := ⟨ce_X4_blow, (am_tT 815 (by decide +kernel)), (am_tT 816 (by decide +kernel)), am_tT 817 (by decide +kernel)⟩
theorem cs_X11_326 : am_CS RX11 326 mJ9_abs_067f4 1 := ⟨ce_J9_abs_067f4, (am_tT 925 (by decide +kernel)), (am_tT 926 (by decide +kernel))⟩
theorem cs_X11_332 : am_CS RX11 332 mJ9_min_f86c9 2 := ⟨ce_J9_min_f86c9, (am_tT 929 (by decide +kernel)), (am_tT 930 (by decide +kernel))⟩
theorem ci_X11_337 : am_CI RX11 337 mX8_init 2 := ⟨ce_X8_init, (am_tT 351 (by decide +kernel)), (am_tT 352 (by decide +kernel)), rfl, rfl⟩
theorem ci_X11_341 : am_CI RX11 341 mX1_init 2 := ⟨ce_X1_init, (am_tT 380 (by decide +kernel)), (am_tT 381 (by decide +kernel)), rfl, rfl⟩
theorem ci_X11_344 : am_CI RX11 344 mX0_init 3 := ⟨ce_X0_init, (am_tT 390 (by decide +kernel)), (am_tT 391 (by decide +kernel)), rfl, rfl⟩
theorem ci_X11_349 : am_CI RX11 349 mX9_init 2 := ⟨ce_X9_init, (am_tT 400 (by decide +kernel)), (am_tT 401 (by decide +kernel)), rfl, rfl⟩
theorem ci_X11_352 : am_CI RX11 352 mX10_init 3 := ⟨ce_X10_init, (am_tT 410 (by decide +kernel)), (am_tT 411 (by decide +kernel)), rfl, rfl⟩
theorem ci_X11_355 : am_CI RX11 355 mX6_init 2 := ⟨ce_X6_init, (am_tT 420 (by decide +kernel)), (am_tT 421 (by decide +kernel)), rfl, rfl⟩
theorem ci_X11_356 : am_CI RX11 356 mX2_init 3 := ⟨ce_X2_init, (am_tT 430 (by decide +kernel)), (am_tT 355 (by decide +kernel)), rfl, rfl⟩
theorem co_X12_1 : Cond.methodLink RX12 1 Lib.objectInit ∈ am_T := (am_tT 1111 (by decide +kernel))
theorem cs_X12_48 : am_CS RX12 48 mX12_in 3 := ⟨ce_X12_in, (am_tT 1184 (by decide +kernel)), (am_tT 1185 (by decide +kernel))⟩
theorem cv_X12_65 : am_CV RX12 65 mX12_finds 1 := ⟨ce_X12_finds, (am_tT 1191 (by decide +kernel)), (am_tT 1193 (by decide +kernel)), am_tT 22 (by decide +kernel)⟩
theorem cs_X12_69 : am_CS RX12 69 mX12_adds 7 := ⟨ce_X12_adds, (am_tT 1196 (by decide +kernel)), (am_tT 1197 (by decide +kernel))⟩
theorem cs_X12_73 : am_CS RX12 73 mX12_of 3 := ⟨ce_X12_of, (am_tT 1211 (by decide +kernel)), (am_tT 1212 (by decide +kernel))⟩
theorem cv_X12_77 : am_CV RX12 77 mX12_isRing 1 := ⟨ce_X12_isRing, (am_tT 1203 (by decide +kernel)), (am_tT 1205 (by decide +kernel)), am_tT 23 (by decide +kernel)⟩
theorem cs_X12_83 : am_CS RX12 83 mX12_paceOf 2 := ⟨ce_X12_paceOf, (am_tT 1208 (by decide +kernel)), (am_tT 1209 (by decide +kernel))⟩
theorem cv_X12_91 : am_CV RX12 91 mX12_isLaw 1 := ⟨ce_X12_isLaw, (am_tT 1232 (by decide +kernel)), (am_tT 1234 (by decide +kernel)), am_tT 24 (by decide +kernel)⟩
theorem cs_X12_96 : am_CS RX12 96 mX12_isOf 2 := ⟨ce_X12_isOf, (am_tT 1241 (by decide +kernel)), (am_tT 1242 (by decide +kernel))⟩
theorem cs_X12_100 : am_CS RX12 100 mX12_apart 2 := ⟨ce_X12_apart, (am_tT 1259 (by decide +kernel)), (am_tT 1260 (by decide +kernel))⟩
theorem cs_X12_104 : am_CS RX12 104 mX12_gap 3 := ⟨ce_X12_gap, (am_tT 1256 (by decide +kernel)), (am_tT 1257 (by decide +kernel))⟩
theorem cs_X12_107 : am_CS RX12 107 mX12_areNear 3 := ⟨ce_X12_areNear, (am_tT 1262 (by decide +kernel)), (am_tT 1263 (by decide +kernel))⟩
theorem cs_X12_111 : am_CS RX12 111 mX12_isBehind 3 := ⟨ce_X12_isBehind, (am_tT 1265 (by decide +kernel)), (am_tT 1266 (by decide +kernel))⟩
theorem cs_X12_114 : am_CS RX12 114 mX12_spreads 3 := ⟨ce_X12_spreads, (am_tT 1271 (by decide +kernel)), (am_tT 1272 (by decide +kernel))⟩
theorem cs_X12_119 : am_CS RX12 119 mX12_widens 4 := ⟨ce_X12_widens, (am_tT 1253 (by decide +kernel)), (am_tT 1254 (by decide +kernel))⟩
theorem cs_X12_123 : am_CS RX12 123 mX12_doesEnd 4 := ⟨ce_X12_doesEnd, (am_tT 1268 (by decide +kernel)), (am_tT 1269 (by decide +kernel))⟩
theorem cs_X12_127 : am_CS RX12 127 mX12_lifts 3 := ⟨ce_X12_lifts, (am_tT 1274 (by decide +kernel)), (am_tT 1275 (by decide +kernel))⟩
theorem cv_X12_143 : am_CV RX12 143 mX12_here 0 := ⟨ce_X12_here, (am_tT 1319 (by decide +kernel)), (am_tT 1321 (by decide +kernel)), am_tT 32 (by decide +kernel)⟩
theorem cv_X12_151 : am_CV RX12 151 mX12_both 0 := ⟨ce_X12_both, (am_tT 1299 (by decide +kernel)), (am_tT 1301 (by decide +kernel)), am_tT 27 (by decide +kernel)⟩
theorem cv_X12_154 : am_CV RX12 154 mX12_takes 1 := ⟨ce_X12_takes, (am_tT 1327 (by decide +kernel)), (am_tT 1329 (by decide +kernel)), am_tT 34 (by decide +kernel)⟩
theorem cv_X12_157 : am_CV RX12 157 mX12_compared 0 := ⟨ce_X12_compared, (am_tT 1303 (by decide +kernel)), (am_tT 1305 (by decide +kernel)), am_tT 28 (by decide +kernel)⟩
theorem cv_X12_160 : am_CV RX12 160 mX12_sum 0 := ⟨ce_X12_sum, (am_tT 1307 (by decide +kernel)), (am_tT 1309 (by decide +kernel)), am_tT 29 (by decide +kernel)⟩
theorem cv_X12_163 : am_CV RX12 163 mX12_product 0 := ⟨ce_X12_product, (am_tT 1311 (by decide +kernel)), (am_tT 1313 (by decide +kernel)), am_tT 30 (by decide +kernel)⟩
theorem cv_X12_166 : am_CV RX12 166 mX12_unit 0 := ⟨ce_X12_unit, (am_tT 1315 (by decide +kernel)), (am_tT 1317 (by decide +kernel)), am_tT 31 (by decide +kernel)⟩
theorem cv_X12_172 : am_CV RX12 172 mX12_wrong 0 := ⟨ce_X12_wrong, (am_tT 1323 (by decide +kernel)), (am_tT 1325 (by decide +kernel)), am_tT 33 (by decide +kernel)⟩
theorem cv_X12_175 : am_CV RX12 175 mX12_either 0 := ⟨ce_X12_either, (am_tT 1295 (by decide +kernel)), (am_tT 1297 (by decide +kernel)), am_tT 26 (by decide +kernel)⟩
theorem cv_X12_178 : am_CV RX12 178 mX12_nameOf 1 := ⟨ce_X12_nameOf, (am_tT 1331 (by decide +kernel)), (am_tT 1333 (by decide +kernel)), am_tT 35 (by decide +kernel)⟩
theorem cv_X12_189 : am_CV RX12 189 mX12_worked 3 := ⟨ce_X12_worked, (am_tT 1291 (by decide +kernel)), (am_tT 1293 (by decide +kernel)), am_tT 25 (by decide +kernel)⟩
theorem cs_X12_193 : am_CS RX12 193 mX12_held 3 := ⟨ce_X12_held, (am_tT 1345 (by decide +kernel)), (am_tT 1346 (by decide +kernel))⟩
theorem cv_X12_197 : am_CV RX12 197 mX12_givesOf 4 := ⟨ce_X12_givesOf, (am_tT 1341 (by decide +kernel)), (am_tT 1343 (by decide +kernel)), am_tT 36 (by decide +kernel)⟩
theorem cv_X12_203 : am_CV RX12 203 mX12_strokes 3 := ⟨ce_X12_strokes, (am_tT 1357 (by decide +kernel)), (am_tT 1359 (by decide +kernel)), am_tT 37 (by decide +kernel)⟩
theorem cv_X12_206 : am_CV RX12 206 mX12_trailsOf 1 := ⟨ce_X12_trailsOf, (am_tT 1365 (by decide +kernel)), (am_tT 1367 (by decide +kernel)), am_tT 38 (by decide +kernel)⟩
theorem cs_X12_209 : am_CS RX12 209 mX12_isWhole 2 := ⟨ce_X12_isWhole, (am_tT 1382 (by decide +kernel)), (am_tT 1383 (by decide +kernel))⟩
theorem cv_X12_214 : am_CV RX12 214 mX12_lawThatEnds 3 := ⟨ce_X12_lawThatEnds, (am_tT 1394 (by decide +kernel)), (am_tT 1396 (by decide +kernel)), am_tT 43 (by decide +kernel)⟩
theorem cv_X12_217 : am_CV RX12 217 mX12_goesOn 2 := ⟨ce_X12_goesOn, (am_tT 1385 (by decide +kernel)), (am_tT 1387 (by decide +kernel)), am_tT 41 (by decide +kernel)⟩
theorem cv_X12_221 : am_CV RX12 221 mX12_mayEnd 2 := ⟨ce_X12_mayEnd, (am_tT 1390 (by decide +kernel)), (am_tT 1392 (by decide +kernel)), am_tT 42 (by decide +kernel)⟩
theorem cv_X12_224 : am_CV RX12 224 mX12_goesBy 1 := ⟨ce_X12_goesBy, (am_tT 1378 (by decide +kernel)), (am_tT 1380 (by decide +kernel)), am_tT 40 (by decide +kernel)⟩
theorem cv_X12_230 : am_CV RX12 230 mX12_goesAhead 2 := ⟨ce_X12_goesAhead, (am_tT 1374 (by decide +kernel)), (am_tT 1376 (by decide +kernel)), am_tT 39 (by decide +kernel)⟩
theorem cs_X12_234 : am_CS RX12 234 mX12_frontOf 1 := ⟨ce_X12_frontOf, (am_tT 1407 (by decide +kernel)), (am_tT 1408 (by decide +kernel))⟩
theorem cs_X12_240 : am_CS RX12 240 mX12_copies 2 := ⟨ce_X12_copies, (am_tT 1422 (by decide +kernel)), (am_tT 1423 (by decide +kernel))⟩
theorem cs_X12_244 : am_CS RX12 244 mX12_isAhead 1 := ⟨ce_X12_isAhead, (am_tT 1414 (by decide +kernel)), (am_tT 1415 (by decide +kernel))⟩
theorem cv_X12_247 : am_CV RX12 247 mX12_ahead 1 := ⟨ce_X12_ahead, (am_tT 1418 (by decide +kernel)), (am_tT 1420 (by decide +kernel)), am_tT 44 (by decide +kernel)⟩
theorem cs_X12_251 : am_CS RX12 251 mX12_wholeIn 1 := ⟨ce_X12_wholeIn, (am_tT 1429 (by decide +kernel)), (am_tT 1430 (by decide +kernel))⟩
theorem cv_X12_254 : am_CV RX12 254 mX12_turnsIn 2 := ⟨ce_X12_turnsIn, (am_tT 1436 (by decide +kernel)), (am_tT 1438 (by decide +kernel)), am_tT 45 (by decide +kernel)⟩
theorem cv_X12_257 : am_CV RX12 257 mX12_farIn 3 := ⟨ce_X12_farIn, (am_tT 1444 (by decide +kernel)), (am_tT 1446 (by decide +kernel)), am_tT 46 (by decide +kernel)⟩
theorem cs_X12_267 : am_CS RX12 267 mX12_isSheet 1 := ⟨ce_X12_isSheet, (am_tT 1474 (by decide +kernel)), (am_tT 1475 (by decide +kernel))⟩
theorem cv_X12_270 : am_CV RX12 270 mX12_whyNoFilm 1 := ⟨ce_X12_whyNoFilm, (am_tT 1470 (by decide +kernel)), (am_tT 1472 (by decide +kernel)), am_tT 47 (by decide +kernel)⟩
theorem cv_X12_273 : am_CV RX12 273 mX12_offIn 2 := ⟨ce_X12_offIn, (am_tT 1477 (by decide +kernel)), (am_tT 1479 (by decide +kernel)), am_tT 48 (by decide +kernel)⟩
theorem cv_X12_284 : am_CV RX12 284 mX12_ran 1 := ⟨ce_X12_ran, (am_tT 1512 (by decide +kernel)), (am_tT 1514 (by decide +kernel)), am_tT 51 (by decide +kernel)⟩
theorem cs_X12_287 : am_CS RX12 287 mX12_above 1 := ⟨ce_X12_above, (am_tT 1516 (by decide +kernel)), (am_tT 1517 (by decide +kernel))⟩
theorem cv_X12_290 : am_CV RX12 290 mX12_goes 2 := ⟨ce_X12_goes, (am_tT 1508 (by decide +kernel)), (am_tT 1510 (by decide +kernel)), am_tT 50 (by decide +kernel)⟩
theorem cv_X12_293 : am_CV RX12 293 mX12_own 0 := ⟨ce_X12_own, (am_tT 1504 (by decide +kernel)), (am_tT 1506 (by decide +kernel)), am_tT 49 (by decide +kernel)⟩
theorem cv_X12_296 : am_CV RX12 296 mX12_moves 2 := ⟨ce_X12_moves, (am_tT 1519 (by decide +kernel)), (am_tT 1521 (by decide +kernel)), am_tT 52 (by decide +kernel)⟩
theorem cv_X12_299 : am_CV RX12 299 mX12_ends 2 := ⟨ce_X12_ends, (am_tT 1523 (by decide +kernel)), (am_tT 1525 (by decide +kernel)), am_tT 53 (by decide +kernel)⟩
theorem cv_X12_302 : am_CV RX12 302 mX12_toldM 0 := ⟨ce_X12_toldM, (am_tT 1527 (by decide +kernel)), (am_tT 1529 (by decide +kernel)), am_tT 54 (by decide +kernel)⟩
theorem cv_X12_305 : am_CV RX12 305 mX12_tells 2 := ⟨ce_X12_tells, (am_tT 1531 (by decide +kernel)), (am_tT 1533 (by decide +kernel)), am_tT 55 (by decide +kernel)⟩
theorem cv_J0_335 : am_CV RJ0 335 mJ0_coder_7d493 0 := ⟨ce_J0_coder_7d493, (am_tT 659 (by decide +kernel)), (am_tT 660 (by decide +kernel)), am_tT 661 (by decide +kernel)⟩
theorem cv_J0_633 : am_CV RJ0 633 mJ0_indexOf_7cf53 2 := ⟨ce_J0_indexOf_7cf53, (am_tT 645 (by decide +kernel)), (am_tT 646 (by decide +kernel)), am_tT 647 (by decide +kernel)⟩
theorem cv_J0_492 : am_CV RJ0 492 mJ0_isLatin1_aae02 0 := ⟨ce_J0_isLatin1_aae02, (am_tT 649 (by decide +kernel)), (am_tT 650 (by decide +kernel)), am_tT 651 (by decide +kernel)⟩
theorem cv_J0_505 : am_CV RJ0 505 mJ0_length_8abf5 0 := ⟨ce_J0_length_8abf5, (am_tT 655 (by decide +kernel)), (am_tT 656 (by decide +kernel)), am_tT 657 (by decide +kernel)⟩
theorem cs_J0_637 : am_CS RJ0 637 mJ1_indexOf_4cfef 4 := ⟨ce_J1_indexOf_4cfef, (am_tT 663 (by decide +kernel)), (am_tT 664 (by decide +kernel))⟩
theorem cs_J0_640 : am_CS RJ0 640 mJ2_indexOf_4cfef 4 := ⟨ce_J2_indexOf_4cfef, (am_tT 674 (by decide +kernel)), (am_tT 675 (by decide +kernel))⟩
theorem cs_J0_1062 : am_CS RJ0 1062 mJ3_checkFromToIndex_8c36e 4 := ⟨ce_J3_checkFromToIndex_8c36e, (am_tT 694 (by decide +kernel)), (am_tT 695 (by decide +kernel))⟩
theorem cs_J1_88 : am_CS RJ1 88 mJ1_canEncode_9a6ad 1 := ⟨ce_J1_canEncode_9a6ad, (am_tT 666 (by decide +kernel)), (am_tT 667 (by decide +kernel))⟩
theorem cs_J1_92 : am_CS RJ1 92 mJ9_max_7cf53 2 := ⟨ce_J9_max_7cf53, (am_tT 669 (by decide +kernel)), (am_tT 609 (by decide +kernel))⟩
theorem cs_J1_38 : am_CS RJ1 38 mJ9_min_7cf53 2 := ⟨ce_J9_min_7cf53, (am_tT 670 (by decide +kernel)), (am_tT 309 (by decide +kernel))⟩
theorem cs_J1_95 : am_CS RJ1 95 mJ1_indexOfChar_4cfef 4 := ⟨ce_J1_indexOfChar_4cfef, (am_tT 671 (by decide +kernel)), (am_tT 672 (by decide +kernel))⟩
theorem cs_J2_48 : am_CS RJ2 48 mJ2_length_9d52b 1 := ⟨ce_J2_length_9d52b, (am_tT 686 (by decide +kernel)), (am_tT 687 (by decide +kernel))⟩
theorem cs_J2_224 : am_CS RJ2 224 mJ9_max_7cf53 2 := ⟨ce_J9_max_7cf53, (am_tT 677 (by decide +kernel)), (am_tT 609 (by decide +kernel))⟩
theorem cs_J2_183 : am_CS RJ2 183 mJ9_min_7cf53 2 := ⟨ce_J9_min_7cf53, (am_tT 678 (by decide +kernel)), (am_tT 309 (by decide +kernel))⟩
theorem cs_J2_228 : am_CS RJ2 228 mJ2_indexOfChar_4cfef 4 := ⟨ce_J2_indexOfChar_4cfef, (am_tT 680 (by decide +kernel)), (am_tT 681 (by decide +kernel))⟩
theorem cs_J2_232 : am_CS RJ2 232 mJ2_indexOfSupplementary_4cfef 4 := ⟨ce_J2_indexOfSupplementary_4cfef, (am_tT 709 (by decide +kernel)), (am_tT 710 (by decide +kernel))⟩
theorem cs_J2_96 : am_CS RJ2 96 mJ2_checkBoundsBeginEnd_d044e 3 := ⟨ce_J2_checkBoundsBeginEnd_d044e, (am_tT 683 (by decide +kernel)), (am_tT 684 (by decide +kernel))⟩
theorem cs_J2_244 : am_CS RJ2 244 mJ2_indexOfCharUnsafe_4cfef 4 := ⟨ce_J2_indexOfCharUnsafe_4cfef, (am_tT 697 (by decide +kernel)), (am_tT 698 (by decide +kernel))⟩
theorem cs_J2_71 : am_CS RJ2 71 mJ2_getChar_3b067 2 := ⟨ce_J2_getChar_3b067, (am_tT 700 (by decide +kernel)), (am_tT 701 (by decide +kernel))⟩
theorem cs_J2_164 : am_CS RJ2 164 mJ11_isValidCodePoint_9a6ad 1 := ⟨ce_J11_isValidCodePoint_9a6ad, (am_tT 712 (by decide +kernel)), (am_tT 713 (by decide +kernel))⟩
theorem cs_J2_157 : am_CS RJ2 157 mJ11_highSurrogate_5068e 1 := ⟨ce_J11_highSurrogate_5068e, (am_tT 715 (by decide +kernel)), (am_tT 716 (by decide +kernel))⟩
theorem cs_J2_161 : am_CS RJ2 161 mJ11_lowSurrogate_5068e 1 := ⟨ce_J11_lowSurrogate_5068e, (am_tT 719 (by decide +kernel)), (am_tT 720 (by decide +kernel))⟩
theorem cs_J2_241 : am_CS RJ2 241 mJ0_checkBoundsBeginEnd_23922 3 := ⟨ce_J0_checkBoundsBeginEnd_23922, (am_tT 689 (by decide +kernel)), (am_tT 690 (by decide +kernel))⟩
theorem ci_L_9 : am_CI RL 9 mX11_init 0 := ⟨ce_X11_init, (am_tT 80 (by decide +kernel)), (am_tT 81 (by decide +kernel)), rfl, rfl⟩
theorem ci_L_12 : am_CI RL 12 mX12_init 0 := ⟨ce_X12_init, (am_tT 1108 (by decide +kernel)), (am_tT 1109 (by decide +kernel)), rfl, rfl⟩
theorem cv_L_13 : am_CV RL 13 mX11_ring 4 := ⟨ce_X11_ring, (am_tT 283 (by decide +kernel)), (am_tT 284 (by decide +kernel)), am_tT 285 (by decide +kernel)⟩
theorem cv_L_17 : am_CV RL 17 mX12_ring 4 := ⟨ce_X12_ring, (am_tT 1177 (by decide +kernel)), (am_tT 1178 (by decide +kernel)), am_tT 1179 (by decide +kernel)⟩
theorem cv_L_18 : am_CV RL 18 mX11_ofRing 2 := ⟨ce_X11_ofRing, (am_tT 311 (by decide +kernel)), (am_tT 312 (by decide +kernel)), am_tT 313 (by decide +kernel)⟩
theorem cv_L_22 : am_CV RL 22 mX12_ofRing 2 := ⟨ce_X12_ofRing, (am_tT 1199 (by decide +kernel)), (am_tT 1200 (by decide +kernel)), am_tT 1201 (by decide +kernel)⟩
theorem cv_L_23 : am_CV RL 23 mX11_end 1 := ⟨ce_X11_end, (am_tT 333 (by decide +kernel)), (am_tT 334 (by decide +kernel)), am_tT 335 (by decide +kernel)⟩
theorem cv_L_27 : am_CV RL 27 mX12_end 1 := ⟨ce_X12_end, (am_tT 1214 (by decide +kernel)), (am_tT 1215 (by decide +kernel)), am_tT 1216 (by decide +kernel)⟩
theorem cv_L_28 : am_CV RL 28 mX11_wall 1 := ⟨ce_X11_wall, (am_tT 338 (by decide +kernel)), (am_tT 339 (by decide +kernel)), am_tT 340 (by decide +kernel)⟩
theorem cv_L_31 : am_CV RL 31 mX12_wall 1 := ⟨ce_X12_wall, (am_tT 1218 (by decide +kernel)), (am_tT 1219 (by decide +kernel)), am_tT 1220 (by decide +kernel)⟩
theorem cv_L_32 : am_CV RL 32 mX11_law 2 := ⟨ce_X11_law, (am_tT 342 (by decide +kernel)), (am_tT 343 (by decide +kernel)), am_tT 344 (by decide +kernel)⟩
theorem cv_L_35 : am_CV RL 35 mX12_law 2 := ⟨ce_X12_law, (am_tT 1222 (by decide +kernel)), (am_tT 1223 (by decide +kernel)), am_tT 1224 (by decide +kernel)⟩
theorem cv_L_36 : am_CV RL 36 mX11_ofLaw 2 := ⟨ce_X11_ofLaw, (am_tT 439 (by decide +kernel)), (am_tT 440 (by decide +kernel)), am_tT 441 (by decide +kernel)⟩
theorem cv_L_39 : am_CV RL 39 mX12_ofLaw 2 := ⟨ce_X12_ofLaw, (am_tT 1228 (by decide +kernel)), (am_tT 1229 (by decide +kernel)), am_tT 1230 (by decide +kernel)⟩
theorem cv_L_40 : am_CV RL 40 mX11_as 2 := ⟨ce_X11_as, (am_tT 451 (by decide +kernel)), (am_tT 452 (by decide +kernel)), am_tT 453 (by decide +kernel)⟩
theorem cv_L_43 : am_CV RL 43 mX12_as 2 := ⟨ce_X12_as, (am_tT 1237 (by decide +kernel)), (am_tT 1238 (by decide +kernel)), am_tT 1239 (by decide +kernel)⟩
theorem cv_L_44 : am_CV RL 44 mX11_turn 2 := ⟨ce_X11_turn, (am_tT 459 (by decide +kernel)), (am_tT 460 (by decide +kernel)), am_tT 461 (by decide +kernel)⟩
theorem cv_L_47 : am_CV RL 47 mX12_turn 2 := ⟨ce_X12_turn, (am_tT 1244 (by decide +kernel)), (am_tT 1245 (by decide +kernel)), am_tT 1246 (by decide +kernel)⟩
theorem cv_L_48 : am_CV RL 48 mX11_does 4 := ⟨ce_X11_does, (am_tT 463 (by decide +kernel)), (am_tT 464 (by decide +kernel)), am_tT 465 (by decide +kernel)⟩
theorem cv_L_51 : am_CV RL 51 mX12_does 4 := ⟨ce_X12_does, (am_tT 1248 (by decide +kernel)), (am_tT 1249 (by decide +kernel)), am_tT 1250 (by decide +kernel)⟩
theorem cv_L_52 : am_CV RL 52 mX11_pair 3 := ⟨ce_X11_pair, (am_tT 560 (by decide +kernel)), (am_tT 561 (by decide +kernel)), am_tT 562 (by decide +kernel)⟩
theorem cv_L_56 : am_CV RL 56 mX12_pair 3 := ⟨ce_X12_pair, (am_tT 1277 (by decide +kernel)), (am_tT 1278 (by decide +kernel)), am_tT 1279 (by decide +kernel)⟩
theorem cv_L_57 : am_CV RL 57 mX11_hole 1 := ⟨ce_X11_hole, (am_tT 567 (by decide +kernel)), (am_tT 568 (by decide +kernel)), am_tT 569 (by decide +kernel)⟩
theorem cv_L_60 : am_CV RL 60 mX12_hole 1 := ⟨ce_X12_hole, (am_tT 1348 (by decide +kernel)), (am_tT 1349 (by decide +kernel)), am_tT 1350 (by decide +kernel)⟩
theorem cv_L_61 : am_CV RL 61 mX11_stroke 2 := ⟨ce_X11_stroke, (am_tT 571 (by decide +kernel)), (am_tT 572 (by decide +kernel)), am_tT 573 (by decide +kernel)⟩
theorem cv_L_64 : am_CV RL 64 mX12_stroke 2 := ⟨ce_X12_stroke, (am_tT 1352 (by decide +kernel)), (am_tT 1353 (by decide +kernel)), am_tT 1354 (by decide +kernel)⟩
theorem cv_L_65 : am_CV RL 65 mX11_trails 1 := ⟨ce_X11_trails, (am_tT 600 (by decide +kernel)), (am_tT 601 (by decide +kernel)), am_tT 602 (by decide +kernel)⟩
theorem cv_L_68 : am_CV RL 68 mX12_trails 1 := ⟨ce_X12_trails, (am_tT 1361 (by decide +kernel)), (am_tT 1362 (by decide +kernel)), am_tT 1363 (by decide +kernel)⟩
theorem cv_L_71 : am_CV RL 71 mX11_feed 2 := ⟨ce_X11_feed, (am_tT 611 (by decide +kernel)), (am_tT 612 (by decide +kernel)), am_tT 613 (by decide +kernel)⟩
theorem cv_L_75 : am_CV RL 75 mX12_feed 2 := ⟨ce_X12_feed, (am_tT 1281 (by decide +kernel)), (am_tT 1282 (by decide +kernel)), am_tT 1283 (by decide +kernel)⟩
theorem cv_L_76 : am_CV RL 76 mX11_text 1 := ⟨ce_X11_text, (am_tT 620 (by decide +kernel)), (am_tT 621 (by decide +kernel)), am_tT 622 (by decide +kernel)⟩
theorem cv_L_79 : am_CV RL 79 mX12_text 1 := ⟨ce_X12_text, (am_tT 1287 (by decide +kernel)), (am_tT 1288 (by decide +kernel)), am_tT 1289 (by decide +kernel)⟩
theorem cv_L_80 : am_CV RL 80 mX11_gives 4 := ⟨ce_X11_gives, (am_tT 758 (by decide +kernel)), (am_tT 759 (by decide +kernel)), am_tT 760 (by decide +kernel)⟩
theorem cv_L_83 : am_CV RL 83 mX12_gives 4 := ⟨ce_X12_gives, (am_tT 1337 (by decide +kernel)), (am_tT 1338 (by decide +kernel)), am_tT 1339 (by decide +kernel)⟩
theorem cv_L_84 : am_CV RL 84 mX11_ticks 1 := ⟨ce_X11_ticks, (am_tT 763 (by decide +kernel)), (am_tT 764 (by decide +kernel)), am_tT 765 (by decide +kernel)⟩
theorem cv_L_87 : am_CV RL 87 mX12_ticks 1 := ⟨ce_X12_ticks, (am_tT 1369 (by decide +kernel)), (am_tT 1370 (by decide +kernel)), am_tT 1371 (by decide +kernel)⟩
theorem cv_L_88 : am_CV RL 88 mX11_breeze 1 := ⟨ce_X11_breeze, (am_tT 820 (by decide +kernel)), (am_tT 821 (by decide +kernel)), am_tT 822 (by decide +kernel)⟩
theorem cv_L_91 : am_CV RL 91 mX12_breeze 1 := ⟨ce_X12_breeze, (am_tT 1398 (by decide +kernel)), (am_tT 1399 (by decide +kernel)), am_tT 1400 (by decide +kernel)⟩
theorem cv_L_92 : am_CV RL 92 mX11_front 0 := ⟨ce_X11_front, (am_tT 824 (by decide +kernel)), (am_tT 825 (by decide +kernel)), am_tT 826 (by decide +kernel)⟩
theorem cv_L_96 : am_CV RL 96 mX12_front 0 := ⟨ce_X12_front, (am_tT 1403 (by decide +kernel)), (am_tT 1404 (by decide +kernel)), am_tT 1405 (by decide +kernel)⟩
theorem cv_L_97 : am_CV RL 97 mX11_then 3 := ⟨ce_X11_then, (am_tT 833 (by decide +kernel)), (am_tT 834 (by decide +kernel)), am_tT 835 (by decide +kernel)⟩
theorem cv_L_100 : am_CV RL 100 mX12_then 3 := ⟨ce_X12_then, (am_tT 1410 (by decide +kernel)), (am_tT 1411 (by decide +kernel)), am_tT 1412 (by decide +kernel)⟩
theorem cv_L_101 : am_CV RL 101 mX11_whole 1 := ⟨ce_X11_whole, (am_tT 859 (by decide +kernel)), (am_tT 860 (by decide +kernel)), am_tT 861 (by decide +kernel)⟩
theorem cv_L_104 : am_CV RL 104 mX12_whole 1 := ⟨ce_X12_whole, (am_tT 1425 (by decide +kernel)), (am_tT 1426 (by decide +kernel)), am_tT 1427 (by decide +kernel)⟩
theorem cv_L_105 : am_CV RL 105 mX11_turns 1 := ⟨ce_X11_turns, (am_tT 868 (by decide +kernel)), (am_tT 869 (by decide +kernel)), am_tT 870 (by decide +kernel)⟩
theorem cv_L_108 : am_CV RL 108 mX12_turns 1 := ⟨ce_X12_turns, (am_tT 1432 (by decide +kernel)), (am_tT 1433 (by decide +kernel)), am_tT 1434 (by decide +kernel)⟩
theorem cv_L_109 : am_CV RL 109 mX11_far 2 := ⟨ce_X11_far, (am_tT 878 (by decide +kernel)), (am_tT 879 (by decide +kernel)), am_tT 880 (by decide +kernel)⟩
theorem cv_L_112 : am_CV RL 112 mX12_far 2 := ⟨ce_X12_far, (am_tT 1440 (by decide +kernel)), (am_tT 1441 (by decide +kernel)), am_tT 1442 (by decide +kernel)⟩
theorem cv_L_113 : am_CV RL 113 mX11_knock 3 := ⟨ce_X11_knock, (am_tT 886 (by decide +kernel)), (am_tT 887 (by decide +kernel)), am_tT 888 (by decide +kernel)⟩
theorem cv_L_116 : am_CV RL 116 mX12_knock 3 := ⟨ce_X12_knock, (am_tT 1448 (by decide +kernel)), (am_tT 1449 (by decide +kernel)), am_tT 1450 (by decide +kernel)⟩
theorem cv_L_117 : am_CV RL 117 mX11_farthest 3 := ⟨ce_X11_farthest, (am_tT 891 (by decide +kernel)), (am_tT 892 (by decide +kernel)), am_tT 893 (by decide +kernel)⟩
theorem cv_L_120 : am_CV RL 120 mX12_farthest 3 := ⟨ce_X12_farthest, (am_tT 1452 (by decide +kernel)), (am_tT 1453 (by decide +kernel)), am_tT 1454 (by decide +kernel)⟩
theorem cv_L_121 : am_CV RL 121 mX11_second 3 := ⟨ce_X11_second, (am_tT 895 (by decide +kernel)), (am_tT 896 (by decide +kernel)), am_tT 897 (by decide +kernel)⟩
theorem cv_L_124 : am_CV RL 124 mX12_second 3 := ⟨ce_X12_second, (am_tT 1458 (by decide +kernel)), (am_tT 1459 (by decide +kernel)), am_tT 1460 (by decide +kernel)⟩
theorem cv_L_125 : am_CV RL 125 mX11_alike 2 := ⟨ce_X11_alike, (am_tT 900 (by decide +kernel)), (am_tT 901 (by decide +kernel)), am_tT 902 (by decide +kernel)⟩
theorem cv_L_128 : am_CV RL 128 mX12_alike 2 := ⟨ce_X12_alike, (am_tT 1462 (by decide +kernel)), (am_tT 1463 (by decide +kernel)), am_tT 1464 (by decide +kernel)⟩
theorem cv_L_129 : am_CV RL 129 mX11_off 1 := ⟨ce_X11_off, (am_tT 905 (by decide +kernel)), (am_tT 906 (by decide +kernel)), am_tT 907 (by decide +kernel)⟩
theorem cv_L_132 : am_CV RL 132 mX12_off 1 := ⟨ce_X12_off, (am_tT 1466 (by decide +kernel)), (am_tT 1467 (by decide +kernel)), am_tT 1468 (by decide +kernel)⟩
theorem cv_L_133 : am_CV RL 133 mX11_spun 1 := ⟨ce_X11_spun, (am_tT 932 (by decide +kernel)), (am_tT 933 (by decide +kernel)), am_tT 934 (by decide +kernel)⟩
theorem cv_L_136 : am_CV RL 136 mX12_spun 1 := ⟨ce_X12_spun, (am_tT 1483 (by decide +kernel)), (am_tT 1484 (by decide +kernel)), am_tT 1485 (by decide +kernel)⟩
theorem cv_L_137 : am_CV RL 137 mX11_made 1 := ⟨ce_X11_made, (am_tT 936 (by decide +kernel)), (am_tT 937 (by decide +kernel)), am_tT 938 (by decide +kernel)⟩
theorem cv_L_140 : am_CV RL 140 mX12_made 1 := ⟨ce_X12_made, (am_tT 1487 (by decide +kernel)), (am_tT 1488 (by decide +kernel)), am_tT 1489 (by decide +kernel)⟩
theorem cv_L_141 : am_CV RL 141 mX11_heart 1 := ⟨ce_X11_heart, (am_tT 940 (by decide +kernel)), (am_tT 941 (by decide +kernel)), am_tT 942 (by decide +kernel)⟩
theorem cv_L_144 : am_CV RL 144 mX12_heart 1 := ⟨ce_X12_heart, (am_tT 1491 (by decide +kernel)), (am_tT 1492 (by decide +kernel)), am_tT 1493 (by decide +kernel)⟩
theorem cv_L_145 : am_CV RL 145 mX11_seed 1 := ⟨ce_X11_seed, (am_tT 944 (by decide +kernel)), (am_tT 945 (by decide +kernel)), am_tT 946 (by decide +kernel)⟩
theorem cv_L_148 : am_CV RL 148 mX12_seed 1 := ⟨ce_X12_seed, (am_tT 1496 (by decide +kernel)), (am_tT 1497 (by decide +kernel)), am_tT 1498 (by decide +kernel)⟩
theorem cv_L_149 : am_CV RL 149 mX11_voice 3 := ⟨ce_X11_voice, (am_tT 948 (by decide +kernel)), (am_tT 949 (by decide +kernel)), am_tT 950 (by decide +kernel)⟩
theorem cv_L_152 : am_CV RL 152 mX12_voice 3 := ⟨ce_X12_voice, (am_tT 1500 (by decide +kernel)), (am_tT 1501 (by decide +kernel)), am_tT 1502 (by decide +kernel)⟩
theorem cv_L_153 : am_CV RL 153 mX11_trace 1 := ⟨ce_X11_trace, (am_tT 1037 (by decide +kernel)), (am_tT 1038 (by decide +kernel)), am_tT 1039 (by decide +kernel)⟩
theorem cv_L_156 : am_CV RL 156 mX12_trace 1 := ⟨ce_X12_trace, (am_tT 1535 (by decide +kernel)), (am_tT 1536 (by decide +kernel)), am_tT 1537 (by decide +kernel)⟩
theorem cv_L_157 : am_CV RL 157 mX11_sheet 3 := ⟨ce_X11_sheet, (am_tT 1045 (by decide +kernel)), (am_tT 1046 (by decide +kernel)), am_tT 1047 (by decide +kernel)⟩
theorem cv_L_160 : am_CV RL 160 mX12_sheet 3 := ⟨ce_X12_sheet, (am_tT 1539 (by decide +kernel)), (am_tT 1540 (by decide +kernel)), am_tT 1541 (by decide +kernel)⟩
theorem cv_L_161 : am_CV RL 161 mX11_put 3 := ⟨ce_X11_put, (am_tT 1056 (by decide +kernel)), (am_tT 1057 (by decide +kernel)), am_tT 1058 (by decide +kernel)⟩
theorem cv_L_164 : am_CV RL 164 mX12_put 3 := ⟨ce_X12_put, (am_tT 1543 (by decide +kernel)), (am_tT 1544 (by decide +kernel)), am_tT 1545 (by decide +kernel)⟩
theorem cv_L_165 : am_CV RL 165 mX11_move 5 := ⟨ce_X11_move, (am_tT 1065 (by decide +kernel)), (am_tT 1066 (by decide +kernel)), am_tT 1067 (by decide +kernel)⟩
theorem cv_L_169 : am_CV RL 169 mX12_move 5 := ⟨ce_X12_move, (am_tT 1547 (by decide +kernel)), (am_tT 1548 (by decide +kernel)), am_tT 1549 (by decide +kernel)⟩
theorem cv_L_170 : am_CV RL 170 mX11_film 1 := ⟨ce_X11_film, (am_tT 1074 (by decide +kernel)), (am_tT 1075 (by decide +kernel)), am_tT 1076 (by decide +kernel)⟩
theorem cv_L_173 : am_CV RL 173 mX12_film 1 := ⟨ce_X12_film, (am_tT 1551 (by decide +kernel)), (am_tT 1552 (by decide +kernel)), am_tT 1553 (by decide +kernel)⟩
theorem cv_L_174 : am_CV RL 174 mX11_image 0 := ⟨ce_X11_image, (am_tT 1078 (by decide +kernel)), (am_tT 1079 (by decide +kernel)), am_tT 1080 (by decide +kernel)⟩
theorem cv_L_177 : am_CV RL 177 mX12_image 0 := ⟨ce_X12_image, (am_tT 1555 (by decide +kernel)), (am_tT 1556 (by decide +kernel)), am_tT 1557 (by decide +kernel)⟩
theorem cv_L_178 : am_CV RL 178 mX11_restore 0 := ⟨ce_X11_restore, (am_tT 1082 (by decide +kernel)), (am_tT 1083 (by decide +kernel)), am_tT 1084 (by decide +kernel)⟩
theorem cv_L_181 : am_CV RL 181 mX12_restore 0 := ⟨ce_X12_restore, (am_tT 1559 (by decide +kernel)), (am_tT 1560 (by decide +kernel)), am_tT 1561 (by decide +kernel)⟩
theorem cv_L_182 : am_CV RL 182 mX11_tell 1 := ⟨ce_X11_tell, (am_tT 1086 (by decide +kernel)), (am_tT 1087 (by decide +kernel)), am_tT 1088 (by decide +kernel)⟩
theorem cv_L_185 : am_CV RL 185 mX12_tell 1 := ⟨ce_X12_tell, (am_tT 1563 (by decide +kernel)), (am_tT 1564 (by decide +kernel)), am_tT 1565 (by decide +kernel)⟩
theorem cv_L_186 : am_CV RL 186 mX11_check 1 := ⟨ce_X11_check, (am_tT 1090 (by decide +kernel)), (am_tT 1091 (by decide +kernel)), am_tT 1092 (by decide +kernel)⟩
theorem cv_L_189 : am_CV RL 189 mX12_check 1 := ⟨ce_X12_check, (am_tT 1567 (by decide +kernel)), (am_tT 1568 (by decide +kernel)), am_tT 1569 (by decide +kernel)⟩
theorem cv_L_190 : am_CV RL 190 mX11_count 1 := ⟨ce_X11_count, (am_tT 1098 (by decide +kernel)), (am_tT 1099 (by decide +kernel)), am_tT 1100 (by decide +kernel)⟩
theorem cv_L_193 : am_CV RL 193 mX12_count 1 := ⟨ce_X12_count, (am_tT 1571 (by decide +kernel)), (am_tT 1572 (by decide +kernel)), am_tT 1573 (by decide +kernel)⟩
theorem cv_L_194 : am_CV RL 194 mX11_told 1 := ⟨ce_X11_told, (am_tT 1102 (by decide +kernel)), (am_tT 1103 (by decide +kernel)), am_tT 1104 (by decide +kernel)⟩
theorem cv_L_197 : am_CV RL 197 mX12_told 1 := ⟨ce_X12_told, (am_tT 1575 (by decide +kernel)), (am_tT 1576 (by decide +kernel)), am_tT 1577 (by decide +kernel)⟩
theorem co_inst : Cond.instanceMethod Lib.objectInit ∈ am_T := (am_tT 84 (by decide +kernel))
set_option maxRecDepth 100000 in
theorem co_code : Cond.code Lib.objectInit ⟨#[0xb1]⟩ 1 none ∈ am_T := (am_tC (am_in1 _ (List.mem_of_getElem? (i := 29) rfl)) rfl)
theorem co_arri : Cond.arrayClass .int ∈ am_T := (am_tT 176 (by decide +kernel))
theorem cl_L_7 : Cond.classLink RL 7 RX11 ∈ am_T := (am_tT 78 (by decide +kernel))
theorem cl_X11_9 : Cond.classLink RX11 9 RX4 ∈ am_T := (am_tT 86 (by decide +kernel))
theorem cl_X4_9 : Cond.classLink RX4 9 RX3 ∈ am_T := (am_tT 92 (by decide +kernel))
theorem cl_X4_23 : Cond.classLink RX4 23 RX2 ∈ am_T := (am_tT 143 (by decide +kernel))
theorem cl_X4_40 : Cond.classLink RX4 40 RX7 ∈ am_T := (am_tT 146 (by decide +kernel))
theorem cl_X4_47 : Cond.classLink RX4 47 RX5 ∈ am_T := (am_tT 177 (by decide +kernel))
theorem cl_X11_29 : Cond.classLink RX11 29 RX5 ∈ am_T := (am_tT 250 (by decide +kernel))
theorem cl_X11_42 : Cond.classLink RX11 42 RX7 ∈ am_T := (am_tT 253 (by decide +kernel))
theorem cl_X11_335 : Cond.classLink RX11 335 RX8 ∈ am_T := (am_tT 349 (by decide +kernel))
theorem cl_X11_339 : Cond.classLink RX11 339 RX1 ∈ am_T := (am_tT 378 (by decide +kernel))
theorem cl_X11_342 : Cond.classLink RX11 342 RX0 ∈ am_T := (am_tT 388 (by decide +kernel))
theorem cl_X11_347 : Cond.classLink RX11 347 RX9 ∈ am_T := (am_tT 398 (by decide +kernel))
theorem cl_X11_350 : Cond.classLink RX11 350 RX10 ∈ am_T := (am_tT 408 (by decide +kernel))
theorem cl_X11_353 : Cond.classLink RX11 353 RX6 ∈ am_T := (am_tT 418 (by decide +kernel))
theorem cl_X11_117 : Cond.classLink RX11 117 RX2 ∈ am_T := (am_tT 428 (by decide +kernel))
theorem cl_X4_191 : Cond.classLink RX4 191 RX1 ∈ am_T := (am_tT 810 (by decide +kernel))
theorem cl_L_10 : Cond.classLink RL 10 RX12 ∈ am_T := (am_tT 1106 (by decide +kernel))
theorem cz_0 : Cond.instantiable RX0 3 ∈ am_T := (am_tT 389 (by decide +kernel))
theorem cy_0 : Cond.initialized RX0 ∈ am_T := (am_tT 67 (by decide +kernel))
theorem cz_1 : Cond.instantiable RX1 3 ∈ am_T := (am_tT 379 (by decide +kernel))
theorem cy_1 : Cond.initialized RX1 ∈ am_T := (am_tT 66 (by decide +kernel))
theorem cz_2 : Cond.instantiable RX2 3 ∈ am_T := (am_tT 429 (by decide +kernel))
theorem cy_2 : Cond.initialized RX2 ∈ am_T := (am_tT 64 (by decide +kernel))
theorem cz_3 : Cond.instantiable RX3 8 ∈ am_T := (am_tT 94 (by decide +kernel))
theorem cy_3 : Cond.initialized RX3 ∈ am_T := (am_tT 59 (by decide +kernel))
theorem cz_4 : Cond.instantiable RX4 13 ∈ am_T := (am_tT 87 (by decide +kernel))
theorem cy_4 : Cond.initialized RX4 ∈ am_T := (am_tT 58 (by decide +kernel))
theorem cz_5 : Cond.instantiable RX5 3 ∈ am_T := (am_tT 178 (by decide +kernel))
theorem cy_5 : Cond.initialized RX5 ∈ am_T := (am_tT 61 (by decide +kernel))
theorem cz_6 : Cond.instantiable RX6 3 ∈ am_T := (am_tT 419 (by decide +kernel))
theorem cy_6 : Cond.initialized RX6 ∈ am_T := (am_tT 70 (by decide +kernel))
theorem cz_7 : Cond.instantiable RX7 7 ∈ am_T := (am_tT 148 (by decide +kernel))
theorem cy_7 : Cond.initialized RX7 ∈ am_T := (am_tT 60 (by decide +kernel))
theorem cz_8 : Cond.instantiable RX8 3 ∈ am_T := (am_tT 350 (by decide +kernel))
theorem cy_8 : Cond.initialized RX8 ∈ am_T := (am_tT 65 (by decide +kernel))
theorem cz_9 : Cond.instantiable RX9 3 ∈ am_T := (am_tT 399 (by decide +kernel))
theorem cy_9 : Cond.initialized RX9 ∈ am_T := (am_tT 68 (by decide +kernel))
theorem cz_10 : Cond.instantiable RX10 3 ∈ am_T := (am_tT 409 (by decide +kernel))
theorem cy_10 : Cond.initialized RX10 ∈ am_T := (am_tT 69 (by decide +kernel))
theorem cz_11 : Cond.instantiable RX11 9 ∈ am_T := (am_tT 79 (by decide +kernel))
theorem cy_11 : Cond.initialized RX11 ∈ am_T := (am_tT 57 (by decide +kernel))
theorem cz_12 : Cond.instantiable RX12 21 ∈ am_T := (am_tT 1107 (by decide +kernel))
theorem cy_12 : Cond.initialized RX12 ∈ am_T := (am_tT 62 (by decide +kernel))
end
