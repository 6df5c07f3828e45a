theorem lw_sub {L j : Nat} (hL : L ≤ 384) (hj : j ≤ 400) : (nI L - 6 < nI j ↔ L < j + 6) := by
  rw [Int32.lt_iff_toInt_lt, nI_toInt (by omega), ix_sub (by rw [nI_toInt (by omega)]; have : (6 : Int32).toInt = 6 := by decide
                                                             omega) (by rw [nI_toInt (by omega)]; have : (6 : Int32).toInt = 6 := by decide
                                                                        omega), nI_toInt (by omega), show (6 : Int32).toInt = 6 by decide]
  omega
section AY
variable {Φ : am_D → Prop} {l : Launch} {M : am_M} {R : Room} {post : am_Post} {pc : Nat} {ls : List (Option am_V)} {st : List am_V} {kd : am_kd} {rv : am_rv} {iv : am_iv} {cu su : Nat}
theorem X_loc (ls' : List (Option am_V)) (h : ls = ls') (k : am_X Φ l M R post pc ls' st kd rv iv cu su) : am_X Φ l M R post pc ls st kd rv iv cu su := h ▸ k
end AY
set_option maxRecDepth 20000 in
theorem lw_loop (l : Launch) {Φ : am_D → Prop} {L : Nat} {xs : Nat → Int32} (hΦ : ∀ D, Φ D → D.2.2.2.2.1 = L ∧ D.2.2.2.2.2 = xs) (hL : L ≤ 384) (d : Nat) : ∀ (j : Nat) (kd : am_kd) (rv : am_rv) (iv : am_iv) (cu su : Nat), REL kd rv iv iv → kd (42, 0, 0) = some (.inr (8, 0)) → L < j + 6 * d + 6 → j ≤ 390 → cu ≤ 1000 + j → su ≤ 10000 + j → am_X Φ l mL_law room_1 lw_post 18 [some (am_P (42, 0, 0)), some (am_P (1, 0, 0)), some (am_P (30, 0, 0)), some (am_I (nI j))] [] kd rv iv cu su := by
  induction d with
  | zero =>
    intro j kd rv iv cu su h h42 hd hj hcu hsu
    refine X_iload_n (pc := 18) (i := 3) dL_law_18 rfl rfl ?_
    refine X_aload_n (pc := 19) (i := 0) dL_law_19 rfl rfl ?_
    refine X_slen (pc := 20) hΦ h42 dL_law_20 ?_
    refine X_bipush (pc := 21) (6) dL_law_21 (by decide) ?_
    refine X_isub (pc := 23) dL_law_23 ?_
    refine X_icmpgt (pc := 24) 1622 dL_law_24 (by decide) (fun hb24 => ?_) (fun hb24 => ?_)
    · refine X_iconst (pc := 1622) (1) dL_law_1622 (by decide) ?_
      exact X_zret (pc := 1623) dL_law_1623 rfl A_zn1 (by show cu ≤ 600000; omega) (by show su ≤ 7302250; omega) rfl
    · exact absurd ((lw_sub hL (by omega)).mpr (by omega)) hb24
  | succ d ih =>
    intro j kd rv iv cu su h h42 hd hj hcu hsu
    refine X_iload_n (pc := 18) (i := 3) dL_law_18 rfl rfl ?_
    refine X_aload_n (pc := 19) (i := 0) dL_law_19 rfl rfl ?_
    refine X_slen (pc := 20) hΦ h42 dL_law_20 ?_
    refine X_bipush (pc := 21) (6) dL_law_21 (by decide) ?_
    refine X_isub (pc := 23) dL_law_23 ?_
    refine X_icmpgt (pc := 24) 1622 dL_law_24 (by decide) (fun hb24 => ?_) (fun hb24 => ?_)
    · refine X_iconst (pc := 1622) (1) dL_law_1622 (by decide) ?_
      exact X_zret (pc := 1623) dL_law_1623 rfl A_zn1 (by show cu ≤ 600000; omega) (by show su ≤ 7302250; omega) rfl
    · have hj6 : j + 6 ≤ L := Nat.not_lt.mp (fun z => hb24 ((lw_sub hL (by omega)).mpr z))
      have K : ∀ kd rv iv cu' su', REL kd rv iv iv → kd (42, 0, 0) = some (.inr (8, 0)) → cu' ≤ cu + 1 → su' ≤ su + 3 → am_X Φ l mL_law room_1 lw_post 1616 [some (am_P (42, 0, 0)), some (am_P (1, 0, 0)), some (am_P (30, 0, 0)), some (am_I (nI j))] [] kd rv iv cu' su' := by
        intro kd rv iv cu' su' h h42 h1 h2
        refine X_inc3 (pc := 1616) (nI (j + 6)) dL_law_1616 (show nI j + (6 : Int32) = nI (j + 6) from mI_add j 6) (by decide) rfl ?_
        refine X_goto (pc := 1619) 18 dL_law_1619 (by decide) ?_
        exact ih (j + 6) kd rv iv _ _ h h42 (by omega) (by omega) (by omega) (by omega)
      refine X_aload_n (pc := 27) (i := 0) dL_law_27 rfl rfl ?_
      refine X_iload_n (pc := 28) (i := 3) dL_law_28 rfl rfl ?_
      refine X_sld (pc := 29) hΦ h42 (show j < L by omega) (by omega) dL_law_29 ?_
      refine X_bipush (pc := 30) (63) dL_law_30 (by decide) ?_
      refine X_iand (pc := 32) dL_law_32 ?_
      generalize xs j &&& 63 = x
      by_cases hs0 : x = 0
      · refine X_tableIn (pc := 33) (off := 191) 224 dL_law_33 (by rw [hs0]; decide) (by rw [hs0]; decide) (by rw [hs0]; decide) (by decide) ?_
        exact lw_c0 l hΦ hL h h42 j hj6 cu su (by omega) (by omega) K
      by_cases hs1 : x = 1
      · refine X_tableIn (pc := 33) (off := 244) 277 dL_law_33 (by rw [hs1]; decide) (by rw [hs1]; decide) (by rw [hs1]; decide) (by decide) ?_
        exact lw_c1 l hΦ hL h h42 j hj6 cu su (by omega) (by omega) K
      by_cases hs2 : x = 2
      · refine X_tableIn (pc := 33) (off := 277) 310 dL_law_33 (by rw [hs2]; decide) (by rw [hs2]; decide) (by rw [hs2]; decide) (by decide) ?_
        exact lw_c2 l hΦ hL h h42 j hj6 cu su (by omega) (by omega) K
      by_cases hs3 : x = 3
      · refine X_tableIn (pc := 33) (off := 300) 333 dL_law_33 (by rw [hs3]; decide) (by rw [hs3]; decide) (by rw [hs3]; decide) (by decide) ?_
        exact lw_c3 l hΦ hL h h42 j hj6 cu su (by omega) (by omega) K
      by_cases hs4 : x = 4
      · refine X_tableIn (pc := 33) (off := 323) 356 dL_law_33 (by rw [hs4]; decide) (by rw [hs4]; decide) (by rw [hs4]; decide) (by decide) ?_
        exact lw_c4 l hΦ hL h h42 j hj6 cu su (by omega) (by omega) K
      by_cases hs5 : x = 5
      · refine X_tableIn (pc := 33) (off := 356) 389 dL_law_33 (by rw [hs5]; decide) (by rw [hs5]; decide) (by rw [hs5]; decide) (by decide) ?_
        exact lw_c5 l hΦ hL h h42 j hj6 cu su (by omega) (by omega) K
      by_cases hs6 : x = 6
      · refine X_tableIn (pc := 33) (off := 389) 422 dL_law_33 (by rw [hs6]; decide) (by rw [hs6]; decide) (by rw [hs6]; decide) (by decide) ?_
        exact lw_c6 l hΦ hL h h42 j hj6 cu su (by omega) (by omega) K
      by_cases hs7 : x = 7
      · refine X_tableIn (pc := 33) (off := 422) 455 dL_law_33 (by rw [hs7]; decide) (by rw [hs7]; decide) (by rw [hs7]; decide) (by decide) ?_
        exact lw_c7 l hΦ hL h h42 j hj6 cu su (by omega) (by omega) K
      by_cases hs8 : x = 8
      · refine X_tableIn (pc := 33) (off := 455) 488 dL_law_33 (by rw [hs8]; decide) (by rw [hs8]; decide) (by rw [hs8]; decide) (by decide) ?_
        exact lw_c8 l hΦ hL h h42 j hj6 cu su (by omega) (by omega) K
      by_cases hs9 : x = 9
      · refine X_tableIn (pc := 33) (off := 508) 541 dL_law_33 (by rw [hs9]; decide) (by rw [hs9]; decide) (by rw [hs9]; decide) (by decide) ?_
        exact lw_c9 l hΦ hL h h42 j hj6 cu su (by omega) (by omega) K
      by_cases hs10 : x = 10
      · refine X_tableIn (pc := 33) (off := 551) 584 dL_law_33 (by rw [hs10]; decide) (by rw [hs10]; decide) (by rw [hs10]; decide) (by decide) ?_
        exact lw_c10 l hΦ hL h h42 j hj6 cu su (by omega) (by omega) K
      by_cases hs11 : x = 11
      · refine X_tableIn (pc := 33) (off := 574) 607 dL_law_33 (by rw [hs11]; decide) (by rw [hs11]; decide) (by rw [hs11]; decide) (by decide) ?_
        exact lw_c11 l hΦ hL h h42 j hj6 cu su (by omega) (by omega) K
      by_cases hs12 : x = 12
      · refine X_tableIn (pc := 33) (off := 607) 640 dL_law_33 (by rw [hs12]; decide) (by rw [hs12]; decide) (by rw [hs12]; decide) (by decide) ?_
        exact lw_c12 l hΦ hL h h42 j hj6 cu su (by omega) (by omega) K
      by_cases hs13 : x = 13
      · refine X_tableIn (pc := 33) (off := 630) 663 dL_law_33 (by rw [hs13]; decide) (by rw [hs13]; decide) (by rw [hs13]; decide) (by decide) ?_
        exact lw_c13 l hΦ hL h h42 j hj6 cu su (by omega) (by omega) K
      by_cases hs14 : x = 14
      · refine X_tableIn (pc := 33) (off := 693) 726 dL_law_33 (by rw [hs14]; decide) (by rw [hs14]; decide) (by rw [hs14]; decide) (by decide) ?_
        exact lw_c14 l hΦ hL h h42 j hj6 cu su (by omega) (by omega) K
      by_cases hs15 : x = 15
      · refine X_tableIn (pc := 33) (off := 716) 749 dL_law_33 (by rw [hs15]; decide) (by rw [hs15]; decide) (by rw [hs15]; decide) (by decide) ?_
        exact lw_c15 l hΦ hL h h42 j hj6 cu su (by omega) (by omega) K
      by_cases hs16 : x = 16
      · refine X_tableIn (pc := 33) (off := 769) 802 dL_law_33 (by rw [hs16]; decide) (by rw [hs16]; decide) (by rw [hs16]; decide) (by decide) ?_
        exact lw_c16 l hΦ hL h h42 j hj6 cu su (by omega) (by omega) K
      by_cases hs17 : x = 17
      · refine X_tableIn (pc := 33) (off := 792) 825 dL_law_33 (by rw [hs17]; decide) (by rw [hs17]; decide) (by rw [hs17]; decide) (by decide) ?_
        exact lw_c17 l hΦ hL h h42 j hj6 cu su (by omega) (by omega) K
      by_cases hs18 : x = 18
      · refine X_tableIn (pc := 33) (off := 815) 848 dL_law_33 (by rw [hs18]; decide) (by rw [hs18]; decide) (by rw [hs18]; decide) (by decide) ?_
        exact lw_c18 l hΦ hL h h42 j hj6 cu su (by omega) (by omega) K
      by_cases hs19 : x = 19
      · refine X_tableIn (pc := 33) (off := 828) 861 dL_law_33 (by rw [hs19]; decide) (by rw [hs19]; decide) (by rw [hs19]; decide) (by decide) ?_
        exact lw_c19 l hΦ hL h h42 j hj6 cu su (by omega) (by omega) K
      by_cases hs20 : x = 20
      · refine X_tableIn (pc := 33) (off := 871) 904 dL_law_33 (by rw [hs20]; decide) (by rw [hs20]; decide) (by rw [hs20]; decide) (by decide) ?_
        exact lw_c20 l hΦ hL h h42 j hj6 cu su (by omega) (by omega) K
      by_cases hs21 : x = 21
      · refine X_tableIn (pc := 33) (off := 894) 927 dL_law_33 (by rw [hs21]; decide) (by rw [hs21]; decide) (by rw [hs21]; decide) (by decide) ?_
        exact lw_c21 l hΦ hL h h42 j hj6 cu su (by omega) (by omega) K
      by_cases hs22 : x = 22
      · refine X_tableIn (pc := 33) (off := 917) 950 dL_law_33 (by rw [hs22]; decide) (by rw [hs22]; decide) (by rw [hs22]; decide) (by decide) ?_
        exact lw_c22 l hΦ hL h h42 j hj6 cu su (by omega) (by omega) K
      by_cases hs23 : x = 23
      · refine X_tableIn (pc := 33) (off := 950) 983 dL_law_33 (by rw [hs23]; decide) (by rw [hs23]; decide) (by rw [hs23]; decide) (by decide) ?_
        exact lw_c23 l hΦ hL h h42 j hj6 cu su (by omega) (by omega) K
      by_cases hs24 : x = 24
      · refine X_tableIn (pc := 33) (off := 993) 1026 dL_law_33 (by rw [hs24]; decide) (by rw [hs24]; decide) (by rw [hs24]; decide) (by decide) ?_
        exact lw_c24 l hΦ hL h h42 j hj6 cu su (by omega) (by omega) K
      by_cases hs25 : x = 25
      · refine X_tableIn (pc := 33) (off := 1036) 1069 dL_law_33 (by rw [hs25]; decide) (by rw [hs25]; decide) (by rw [hs25]; decide) (by decide) ?_
        exact lw_c25 l hΦ hL h h42 j hj6 cu su (by omega) (by omega) K
      by_cases hs26 : x = 26
      · refine X_tableIn (pc := 33) (off := 1079) 1112 dL_law_33 (by rw [hs26]; decide) (by rw [hs26]; decide) (by rw [hs26]; decide) (by decide) ?_
        exact lw_c26 l hΦ hL h h42 j hj6 cu su (by omega) (by omega) K
      by_cases hs27 : x = 27
      · refine X_tableIn (pc := 33) (off := 1112) 1145 dL_law_33 (by rw [hs27]; decide) (by rw [hs27]; decide) (by rw [hs27]; decide) (by decide) ?_
        exact lw_c27 l hΦ hL h h42 j hj6 cu su (by omega) (by omega) K
      by_cases hs28 : x = 28
      · refine X_tableIn (pc := 33) (off := 1135) 1168 dL_law_33 (by rw [hs28]; decide) (by rw [hs28]; decide) (by rw [hs28]; decide) (by decide) ?_
        exact lw_c28 l hΦ hL h h42 j hj6 cu su (by omega) (by omega) K
      by_cases hs29 : x = 29
      · refine X_tableIn (pc := 33) (off := 1158) 1191 dL_law_33 (by rw [hs29]; decide) (by rw [hs29]; decide) (by rw [hs29]; decide) (by decide) ?_
        exact lw_c29 l hΦ hL h h42 j hj6 cu su (by omega) (by omega) K
      by_cases hs30 : x = 30
      · refine X_tableIn (pc := 33) (off := 1181) 1214 dL_law_33 (by rw [hs30]; decide) (by rw [hs30]; decide) (by rw [hs30]; decide) (by decide) ?_
        exact lw_c30 l hΦ hL h h42 j hj6 cu su (by omega) (by omega) K
      by_cases hs31 : x = 31
      · refine X_tableIn (pc := 33) (off := 1204) 1237 dL_law_33 (by rw [hs31]; decide) (by rw [hs31]; decide) (by rw [hs31]; decide) (by decide) ?_
        exact lw_c31 l hΦ hL h h42 j hj6 cu su (by omega) (by omega) K
      by_cases hs32 : x = 32
      · refine X_tableIn (pc := 33) (off := 1227) 1260 dL_law_33 (by rw [hs32]; decide) (by rw [hs32]; decide) (by rw [hs32]; decide) (by decide) ?_
        exact lw_c32 l hΦ hL h h42 j hj6 cu su (by omega) (by omega) K
      by_cases hs33 : x = 33
      · refine X_tableIn (pc := 33) (off := 1270) 1303 dL_law_33 (by rw [hs33]; decide) (by rw [hs33]; decide) (by rw [hs33]; decide) (by decide) ?_
        exact lw_c33 l hΦ hL h h42 j hj6 cu su (by omega) (by omega) K
      by_cases hs34 : x = 34
      · refine X_tableIn (pc := 33) (off := 1293) 1326 dL_law_33 (by rw [hs34]; decide) (by rw [hs34]; decide) (by rw [hs34]; decide) (by decide) ?_
        exact lw_c34 l hΦ hL h h42 j hj6 cu su (by omega) (by omega) K
      by_cases hs35 : x = 35
      · refine X_tableIn (pc := 33) (off := 1336) 1369 dL_law_33 (by rw [hs35]; decide) (by rw [hs35]; decide) (by rw [hs35]; decide) (by decide) ?_
        exact lw_c35 l hΦ hL h h42 j hj6 cu su (by omega) (by omega) K
      by_cases hs36 : x = 36
      · refine X_tableIn (pc := 33) (off := 1379) 1412 dL_law_33 (by rw [hs36]; decide) (by rw [hs36]; decide) (by rw [hs36]; decide) (by decide) ?_
        exact lw_c36 l hΦ hL h h42 j hj6 cu su (by omega) (by omega) K
      by_cases hs37 : x = 37
      · refine X_tableIn (pc := 33) (off := 1442) 1475 dL_law_33 (by rw [hs37]; decide) (by rw [hs37]; decide) (by rw [hs37]; decide) (by decide) ?_
        exact lw_c37 l hΦ hL h h42 j hj6 cu su (by omega) (by omega) K
      by_cases hs38 : x = 38
      · refine X_tableIn (pc := 33) (off := 1465) 1498 dL_law_33 (by rw [hs38]; decide) (by rw [hs38]; decide) (by rw [hs38]; decide) (by decide) ?_
        exact lw_c38 l hΦ hL h h42 j hj6 cu su (by omega) (by omega) K
      by_cases hs39 : x = 39
      · refine X_tableIn (pc := 33) (off := 1478) 1511 dL_law_33 (by rw [hs39]; decide) (by rw [hs39]; decide) (by rw [hs39]; decide) (by decide) ?_
        exact lw_c39 l hΦ hL h h42 j hj6 cu su (by omega) (by omega) K
      by_cases hs40 : x = 40
      · refine X_tableIn (pc := 33) (off := 1491) 1524 dL_law_33 (by rw [hs40]; decide) (by rw [hs40]; decide) (by rw [hs40]; decide) (by decide) ?_
        exact lw_c40 l hΦ hL h h42 j hj6 cu su (by omega) (by omega) K
      by_cases hs41 : x = 41
      · refine X_tableIn (pc := 33) (off := 1514) 1547 dL_law_33 (by rw [hs41]; decide) (by rw [hs41]; decide) (by rw [hs41]; decide) (by decide) ?_
        exact lw_c41 l hΦ hL h h42 j hj6 cu su (by omega) (by omega) K
      by_cases hs42 : x = 42
      · refine X_tableIn (pc := 33) (off := 1537) 1570 dL_law_33 (by rw [hs42]; decide) (by rw [hs42]; decide) (by rw [hs42]; decide) (by decide) ?_
        exact lw_c42 l hΦ hL h h42 j hj6 cu su (by omega) (by omega) K
      by_cases hs43 : x = 43
      · refine X_tableIn (pc := 33) (off := 1560) 1593 dL_law_33 (by rw [hs43]; decide) (by rw [hs43]; decide) (by rw [hs43]; decide) (by decide) ?_
        exact lw_c43 l hΦ hL h h42 j hj6 cu su (by omega) (by omega) K
      have hx : x.toInt < 0 ∨ 43 < x.toInt := by
        have q0 := lv_neT hs0 (show ((0 : Int32)).toInt = (0) by decide)
        have q1 := lv_neT hs1 (show ((1 : Int32)).toInt = (1) by decide)
        have q2 := lv_neT hs2 (show ((2 : Int32)).toInt = (2) by decide)
        have q3 := lv_neT hs3 (show ((3 : Int32)).toInt = (3) by decide)
        have q4 := lv_neT hs4 (show ((4 : Int32)).toInt = (4) by decide)
        have q5 := lv_neT hs5 (show ((5 : Int32)).toInt = (5) by decide)
        have q6 := lv_neT hs6 (show ((6 : Int32)).toInt = (6) by decide)
        have q7 := lv_neT hs7 (show ((7 : Int32)).toInt = (7) by decide)
        have q8 := lv_neT hs8 (show ((8 : Int32)).toInt = (8) by decide)
        have q9 := lv_neT hs9 (show ((9 : Int32)).toInt = (9) by decide)
        have q10 := lv_neT hs10 (show ((10 : Int32)).toInt = (10) by decide)
        have q11 := lv_neT hs11 (show ((11 : Int32)).toInt = (11) by decide)
        have q12 := lv_neT hs12 (show ((12 : Int32)).toInt = (12) by decide)
        have q13 := lv_neT hs13 (show ((13 : Int32)).toInt = (13) by decide)
        have q14 := lv_neT hs14 (show ((14 : Int32)).toInt = (14) by decide)
        have q15 := lv_neT hs15 (show ((15 : Int32)).toInt = (15) by decide)
        have q16 := lv_neT hs16 (show ((16 : Int32)).toInt = (16) by decide)
        have q17 := lv_neT hs17 (show ((17 : Int32)).toInt = (17) by decide)
        have q18 := lv_neT hs18 (show ((18 : Int32)).toInt = (18) by decide)
        have q19 := lv_neT hs19 (show ((19 : Int32)).toInt = (19) by decide)
        have q20 := lv_neT hs20 (show ((20 : Int32)).toInt = (20) by decide)
        have q21 := lv_neT hs21 (show ((21 : Int32)).toInt = (21) by decide)
        have q22 := lv_neT hs22 (show ((22 : Int32)).toInt = (22) by decide)
        have q23 := lv_neT hs23 (show ((23 : Int32)).toInt = (23) by decide)
        have q24 := lv_neT hs24 (show ((24 : Int32)).toInt = (24) by decide)
        have q25 := lv_neT hs25 (show ((25 : Int32)).toInt = (25) by decide)
        have q26 := lv_neT hs26 (show ((26 : Int32)).toInt = (26) by decide)
        have q27 := lv_neT hs27 (show ((27 : Int32)).toInt = (27) by decide)
        have q28 := lv_neT hs28 (show ((28 : Int32)).toInt = (28) by decide)
        have q29 := lv_neT hs29 (show ((29 : Int32)).toInt = (29) by decide)
        have q30 := lv_neT hs30 (show ((30 : Int32)).toInt = (30) by decide)
        have q31 := lv_neT hs31 (show ((31 : Int32)).toInt = (31) by decide)
        have q32 := lv_neT hs32 (show ((32 : Int32)).toInt = (32) by decide)
        have q33 := lv_neT hs33 (show ((33 : Int32)).toInt = (33) by decide)
        have q34 := lv_neT hs34 (show ((34 : Int32)).toInt = (34) by decide)
        have q35 := lv_neT hs35 (show ((35 : Int32)).toInt = (35) by decide)
        have q36 := lv_neT hs36 (show ((36 : Int32)).toInt = (36) by decide)
        have q37 := lv_neT hs37 (show ((37 : Int32)).toInt = (37) by decide)
        have q38 := lv_neT hs38 (show ((38 : Int32)).toInt = (38) by decide)
        have q39 := lv_neT hs39 (show ((39 : Int32)).toInt = (39) by decide)
        have q40 := lv_neT hs40 (show ((40 : Int32)).toInt = (40) by decide)
        have q41 := lv_neT hs41 (show ((41 : Int32)).toInt = (41) by decide)
        have q42 := lv_neT hs42 (show ((42 : Int32)).toInt = (42) by decide)
        have q43 := lv_neT hs43 (show ((43 : Int32)).toInt = (43) by decide)
        omega
      refine X_tableOut (pc := 33) 1616 dL_law_33 hx (by decide) ?_
      exact K _ _ _ _ _ h h42 (by omega) (by omega)
/-- what is known at the start: the script, the two texts -/
def lw_kd : am_kd := fun n => if n = (42, 0, 0) then some (.inr (8, 0)) else if n.1 = 40 ∧ n.2.1 < 2 ∧ n.2.2 < 2 then some (.inr (9, 0)) else none
theorem lw_kd_n {n : am_N} (h : n.1 < 40) : lw_kd n = none := by
  unfold lw_kd
  rw [if_neg (fun e => by subst e; simp at h), if_neg (fun e => by omega)]
set_option maxRecDepth 20000 in
theorem lw_begin (l : Launch) {Φ : am_D → Prop} {L : Nat} {xs : Nat → Int32} (hΦ : ∀ D, Φ D → D.2.2.2.2.1 = L ∧ D.2.2.2.2.2 = xs) (hL : L ≤ 384) : am_X Φ l mL_law room_1 lw_post 0 [some (am_P (42, 0, 0)), none, none, none] [] lw_kd (fun _ _ => none) (fun _ _ => 0) 0 0 := by
  refine X_newW (pc := 0) (1, 0, 0) (ci := 11) (r := (RX11, TX11, 9)) (w := 9) rfl rfl cl_L_7 cz_11 cy_11 (lw_kd_n (by decide)) (by decide) (fun _ => rfl) (fun _ => rfl) (by decide) (by decide) dL_law_0 ?_
  refine X_dup (pc := 3) dL_law_3 rfl ?_
  refine X_callI (pc := 4) ci_L_9 (s_init l am_uk_s (fun _ => ⟨rfl, rfl⟩) (fun _ _ _ => rfl) (fun q a b => ⟨(am_uk_o (fun e => by subst e; simp at a)).trans (lw_kd_n (by omega)), fun _ => ⟨rfl, rfl⟩⟩)) rfl rfl (Nat.le_of_ble_eq_true rfl) ⟨(Nat.le_of_ble_eq_true rfl), (Nat.le_of_ble_eq_true rfl)⟩ ⟨by decide, by decide⟩ dL_law_4 (fun v9 kd1 rv1 iv1 h9 => ?_)
  obtain ⟨e9, h9⟩ := h9
  subst e9
  have o1 : ∀ q : am_N, 22 ≤ q.1 → kd1 q = lw_kd q ∧ ∀ k, rv1 q k = none ∧ iv1 q k = 0 := fun q hq => ⟨(h9.1 q hq).1.trans (am_uk_o (fun e => by subst e; simp at hq)), (h9.1 q hq).2⟩
  refine X_ast1 (pc := 7) dL_law_7 (Nat.le_of_ble_eq_true rfl) rfl ?_
  refine X_newW (pc := 8) (30, 0, 0) (ci := 12) (r := (RX12, TX12, 21)) (w := 21) rfl rfl cl_L_10 cz_12 cy_12 ((o1 (30, 0, 0) (by decide)).1.trans (lw_kd_n (by decide))) (by decide) (fun k => ((o1 (30, 0, 0) (by decide)).2 k).2) (fun k => ((o1 (30, 0, 0) (by decide)).2 k).1) (by decide) (by decide) dL_law_8 ?_
  refine X_dup (pc := 11) dL_law_11 rfl ?_
  refine X_callI (pc := 12) ci_L_12 (r_init l am_uk_s (fun q k hq => (o1 q (by omega)).2 k) (fun s => (am_uk_o (by simp)).trans ((o1 (31, s, 0) (by simp)).1.trans (lw_kd_n (by simp))))) rfl rfl (Nat.le_of_ble_eq_true rfl) ⟨(Nat.le_of_ble_eq_true rfl), (Nat.le_of_ble_eq_true rfl)⟩ ⟨by decide, by decide⟩ dL_law_12 (fun v9 kd2 rv2 iv2 h8 => ?_)
  obtain ⟨e9, h8⟩ := h8
  subst e9
  have hR : REL kd2 rv2 iv2 iv2 := rel_start (kd0 := am_uk lw_kd (1, 0, 0) (.inl 11)) (rv0 := fun _ _ => none) (iv0 := fun _ _ => 0) (fun i hi j hj => by rw [am_uk_o (by simp)]; unfold lw_kd; rw [if_neg (by simp), if_pos ⟨rfl, hi, hj⟩]) (fun q => ⟨(am_uk_o (by simp)).trans (lw_kd_n (by simp)), fun _ => ⟨rfl, rfl⟩⟩) h9 (fun q hq => am_uk_o hq) h8
  have g42 : kd2 (42, 0, 0) = some (.inr (8, 0)) := by
    rw [(h8.1 (42, 0, 0) (Or.inr (by simp))).1, am_uk_o (by simp), (o1 (42, 0, 0) (by simp)).1]
    rfl
  refine X_ast2 (pc := 15) dL_law_15 (Nat.le_of_ble_eq_true rfl) rfl ?_
  refine X_iconst (pc := 16) (0) dL_law_16 (by decide) ?_
  refine X_ist3 (pc := 17) dL_law_17 (Nat.le_of_ble_eq_true rfl) rfl ?_
  exact lw_loop l hΦ hL 64 0 kd2 rv2 iv2 _ _ hR g42 (by omega) (by decide) (by decide) (by decide)
