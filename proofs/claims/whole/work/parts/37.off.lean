set_option maxRecDepth 20000 in
theorem r_whyNoFilm (l : Launch) {kd : am_kd} {rv : am_rv} {iv : am_iv} (hR : shr kd rv) (sh : Int32) : am_Met l mX12_whyNoFilm (am_rm 2 0 0) [am_P (30, 0, 0), am_I sh] kd rv iv (am_ret (some (am_I (if 0 ≤ sh ∧ sh ≤ 3 then (if iv (31, 17, 0) sh.toNatClampNeg = 0 ∨ iv (31, 0, 0) 1 = 0 then 2 else 0) else 1))) kd rv iv) := by
  refine am_Met.of (by decide) (Nat.le_of_ble_eq_true rfl) rfl ?_
  refine A_iload_n (pc := 0) (i := 1) dX12_whyNoFilm_0 rfl rfl ?_
  refine A_callS1 (pc := 1) cs_X12_267 (r_isSheet l sh) rfl rfl (Nat.le_of_ble_eq_true rfl) ⟨(Nat.le_of_ble_eq_true rfl), (Nat.le_of_ble_eq_true rfl)⟩ ⟨Nat.zero_le _, Nat.zero_le _⟩ dX12_whyNoFilm_1 ?_
  refine A_ifne (pc := 4) 11 dX12_whyNoFilm_4 (by decide) (fun hb4 => ?_) (fun hb4 => ?_)
  · have hsh : 0 ≤ sh ∧ sh ≤ 3 := Classical.not_not.mp (fun h => hb4 ((sr_b_0 _).mpr h))
    have hs4 : sh < nI 4 := by
      have h := hsh.2
      have e1 : (3 : Int32).toInt = 3 := by decide
      have e2 : (nI 4).toInt = 4 := by decide
      rw [fa_le] at h
      rw [fa_lt]
      omega
    obtain ⟨j, hj, ej⟩ := nI_idx (n := 4) hsh.1 hs4 (by decide)
    refine A_aload_n (pc := 11) (i := 0) dX12_whyNoFilm_11 rfl rfl ?_
    refine A_getr (pc := 12) 17 fl_X12_34_12 hR.1 rfl hR.w17 dX12_whyNoFilm_12 ?_
    refine A_iload_n (pc := 15) (i := 1) dX12_whyNoFilm_15 rfl rfl ?_
    refine A_top ej ?_
    refine A_ialdN (pc := 16) hR.k17 hj (by decide) dX12_whyNoFilm_16 ?_
    refine A_ifeq (pc := 17) 29 dX12_whyNoFilm_17 (by decide) (fun hb17 => ?_) (fun hb17 => ?_)
    · refine A_iconst (pc := 29) (2) dX12_whyNoFilm_29 (by decide) ?_
      refine A_goto (pc := 30) 34 dX12_whyNoFilm_30 (by decide) ?_
      exact A_iretE (pc := 34) dX12_whyNoFilm_34 rfl (Nat.zero_le _) (Nat.zero_le _) (by rw [if_pos hsh, ej, nI_clamp (by omega), if_pos (Or.inl hb17)]) (rfl)
    · refine A_aload_n (pc := 20) (i := 0) dX12_whyNoFilm_20 rfl rfl ?_
      refine A_getr (pc := 21) 0 fl_X12_7_12 hR.1 rfl hR.w0 dX12_whyNoFilm_21 ?_
      refine A_iconst (pc := 24) (1) dX12_whyNoFilm_24 (by decide) ?_
      refine A_ialdN (pc := 25) (j := 1) hR.k0 (by decide) (by decide) dX12_whyNoFilm_25 ?_
      refine A_ifne (pc := 26) 33 dX12_whyNoFilm_26 (by decide) (fun hb26 => ?_) (fun hb26 => ?_)
      · refine A_iconst (pc := 33) (0) dX12_whyNoFilm_33 (by decide) ?_
        exact A_iretE (pc := 34) dX12_whyNoFilm_34 rfl (Nat.zero_le _) (Nat.zero_le _) (by rw [if_pos hsh, ej, nI_clamp (by omega), if_neg (fun h => h.elim hb17 hb26)]) (rfl)
      · refine A_iconst (pc := 29) (2) dX12_whyNoFilm_29 (by decide) ?_
        refine A_goto (pc := 30) 34 dX12_whyNoFilm_30 (by decide) ?_
        exact A_iretE (pc := 34) dX12_whyNoFilm_34 rfl (Nat.zero_le _) (Nat.zero_le _) (by rw [if_pos hsh, ej, nI_clamp (by omega), if_pos (Or.inr hb26)]) (rfl)
  · have hns := (sr_b_0 _).mp hb4
    refine A_iconst (pc := 7) (1) dX12_whyNoFilm_7 (by decide) ?_
    refine A_goto (pc := 8) 34 dX12_whyNoFilm_8 (by decide) ?_
    exact A_iretE (pc := 34) dX12_whyNoFilm_34 rfl (Nat.zero_le _) (Nat.zero_le _) (by rw [if_neg hns]) (rfl)
set_option maxRecDepth 20000 in
theorem r_ahead (l : Launch) {kd : am_kd} {rv : am_rv} {iv : am_iv} (hR : shr kd rv) (n nl z : Nat) (lk : Nat → Nat) (Q : am_iv → Prop) (hQ : ∀ w, Q w → rt_pre w 1 n nl z lk) (hT : ∀ w, Q w → Q (rt_tick 1 n nl z lk w)) (hq : Q (rx_cp (31, 0, 0) (31, 1, 0) iv 300)) (N : Nat) (hN : N < 2 ^ 31) : am_Met l mX12_ahead (am_rm 43 0 0) [am_P (30, 0, 0), am_I (nI N)] kd rv iv (am_ret none kd rv (it (rt_tick 1 n nl z lk) N (rx_cp (31, 0, 0) (31, 1, 0) iv 300))) := by
  refine am_Met.of (by decide) (Nat.le_of_ble_eq_true rfl) rfl ?_
  refine A_aload_n (pc := 0) (i := 0) dX12_ahead_0 rfl rfl ?_
  refine A_getr (pc := 1) 0 fl_X12_7_12 hR.1 rfl hR.w0 dX12_ahead_1 ?_
  refine A_aload_n (pc := 4) (i := 0) dX12_ahead_4 rfl rfl ?_
  refine A_getr (pc := 5) 1 fl_X12_13_12 hR.1 rfl hR.w1 dX12_ahead_5 ?_
  refine A_callS0 (pc := 8) cs_X12_240 (r_copies l (31, 0, 0) (31, 1, 0) hR.k0 hR.k1 (by simp)) rfl rfl (Nat.le_of_ble_eq_true rfl) ⟨(Nat.le_of_ble_eq_true rfl), (Nat.le_of_ble_eq_true rfl)⟩ ⟨Nat.zero_le _, Nat.zero_le _⟩ dX12_ahead_8 ?_
  refine A_aload_n (pc := 11) (i := 0) dX12_ahead_11 rfl rfl ?_
  refine A_aload_n (pc := 12) (i := 0) dX12_ahead_12 rfl rfl ?_
  refine A_getr (pc := 13) 1 fl_X12_13_12 hR.1 rfl hR.w1 dX12_ahead_13 ?_
  refine A_iload_n (pc := 16) (i := 1) dX12_ahead_16 rfl rfl ?_
  refine A_callV0 (pc := 17) cv_X12_230 (r_goesAhead l hR 1 (by decide) hR.k1 n nl z lk Q hQ hT hq N hN) hR.1 rfl rfl rfl rfl (Nat.le_of_ble_eq_true rfl) ⟨(Nat.le_of_ble_eq_true rfl), (Nat.le_of_ble_eq_true rfl)⟩ ⟨Nat.zero_le _, Nat.zero_le _⟩ dX12_ahead_17 ?_
  exact A_vretE (pc := 20) dX12_ahead_20 rfl (Nat.zero_le _) (Nat.zero_le _) (rfl)
def of_v (f : Nat → Int32) (told : Int32) : Int64 := if f 7 = 1 then (f 1).toInt64 - told.toInt64 else 0
def of_a (v : Int64) : Int64 := if 0 ≤ v then v else -v
def of_1 (v : Int64) : Int32 := if of_a v ≤ 1000000 then (of_a v).toInt32 else 1000000
def fo (T : am_iv → am_iv) (m : am_N) (sh : Nat) : Nat → Nat → Int32 → am_iv → Int32 × am_iv
  | 0, _, s, w => (s, w)
  | d + 1, k, s, w => fo T m sh d (k + 1) (s + of_1 (of_v (rf (T w) m 0) (T w (31, 19, 0) (40 * sh + k)))) (T w)
theorem rx_no (sh k : Nat) : (40 : Int32) * nI sh + nI k = nI (40 * sh + k) := by
  show nI 40 * nI sh + nI k = _
  rw [mI_mul, mI_add]
set_option maxRecDepth 20000 in
theorem fo_loop (l : Launch) {kd : am_kd} {rv : am_rv} (hR : shr kd rv) (a : Nat) (ha : a < 3) (hm : kd (31, a, 0) = some (.inr (0, 300))) (n nl z : Nat) (lk : Nat → Nat) (Q : am_iv → Prop) (hQ : ∀ w, Q w → rt_pre w a n nl z lk) (hT : ∀ w, Q w → Q (rt_tick a n nl z lk w)) (sh sz : Nat) (hsh : sh < 4) (hsz : sz ≤ 40) (hZ : ∀ w, Q w → w (31, 18, 0) sh = nI sz) (d : Nat) : ∀ (k : Nat) (s : Int32) (w : am_iv) (y5 y6 y7 y8 : Option am_V), Q w → k + d = sz → am_W l mX12_offIn (am_rm 42 0 0) (am_ret (some (am_I (fo (rt_tick a n nl z lk) (31, a, 0) sh d k s w).1)) kd rv (fo (rt_tick a n nl z lk) (31, a, 0) sh d k s w).2) 5 [some (am_P (30, 0, 0)), some (am_P (31, a, 0)), some (am_I (nI sh)), some (am_I s), some (am_I (nI k)), y5, y6, y7, y8] [] kd rv w 0 0 := by
  induction d with
  | zero =>
    intro k s w y5 y6 y7 y8 hq hd
    have ek : k = sz := hd
    subst ek
    refine A_iload (pc := 5) (i := 4) dX12_offIn_5 rfl ?_
    refine A_aload_n (pc := 7) (i := 0) dX12_offIn_7 rfl rfl ?_
    refine A_getr (pc := 8) 18 fl_X12_37_12 hR.1 rfl hR.w18 dX12_offIn_8 ?_
    refine A_iload_n (pc := 11) (i := 2) dX12_offIn_11 rfl rfl ?_
    refine A_ialdN (pc := 12) hR.k18 hsh (by decide) dX12_offIn_12 ?_
    refine A_top (hZ w hq) ?_
    refine A_icmpge (pc := 13) 104 dX12_offIn_13 (by decide) (fun hb13 => ?_) (fun hb13 => ?_)
    · refine A_iload_n (pc := 104) (i := 3) dX12_offIn_104 rfl rfl ?_
      exact A_iretE (pc := 105) dX12_offIn_105 rfl (Nat.zero_le _) (Nat.zero_le _) (rfl) (rfl)
    · exact absurd (nI_le (Nat.le_refl k) (by omega)) hb13
  | succ d ih =>
    intro k s w y5 y6 y7 y8 hq hd
    have hq2 := hT w hq
    refine A_iload (pc := 5) (i := 4) dX12_offIn_5 rfl ?_
    refine A_aload_n (pc := 7) (i := 0) dX12_offIn_7 rfl rfl ?_
    refine A_getr (pc := 8) 18 fl_X12_37_12 hR.1 rfl hR.w18 dX12_offIn_8 ?_
    refine A_iload_n (pc := 11) (i := 2) dX12_offIn_11 rfl rfl ?_
    refine A_ialdN (pc := 12) hR.k18 hsh (by decide) dX12_offIn_12 ?_
    refine A_top (hZ w hq) ?_
    refine A_icmpge (pc := 13) 104 dX12_offIn_13 (by decide) (fun hb13 => ?_) (fun hb13 => ?_)
    · exact absurd hb13 (nI_ge (by omega) (by omega))
    · refine A_aload_n (pc := 16) (i := 0) dX12_offIn_16 rfl rfl ?_
      refine A_aload_n (pc := 17) (i := 1) dX12_offIn_17 rfl rfl ?_
      refine A_callV0 (pc := 18) cv_X12_224 (r_goesBy l hR a ha hm n nl z lk (hQ w hq)) hR.1 rfl rfl rfl rfl (Nat.le_of_ble_eq_true rfl) ⟨(Nat.le_of_ble_eq_true rfl), (Nat.le_of_ble_eq_true rfl)⟩ ⟨Nat.zero_le _, Nat.zero_le _⟩ dX12_offIn_18 ?_
      refine A_aload_n (pc := 21) (i := 0) dX12_offIn_21 rfl rfl ?_
      refine A_getr (pc := 22) 19 fl_X12_40_12 hR.1 rfl hR.w19 dX12_offIn_22 ?_
      refine A_bipush (pc := 25) (40) dX12_offIn_25 (by decide) ?_
      refine A_iload_n (pc := 27) (i := 2) dX12_offIn_27 rfl rfl ?_
      refine A_imul (pc := 28) dX12_offIn_28 ?_
      refine A_iload (pc := 29) (i := 4) dX12_offIn_29 rfl ?_
      refine A_iadd (pc := 31) dX12_offIn_31 ?_
      refine A_top (rx_no sh k) ?_
      refine A_ialdN (pc := 32) hR.k19 (show 40 * sh + k < 160 by omega) (by decide) dX12_offIn_32 ?_
      refine A_i2l (pc := 33) dX12_offIn_33 ?_
      refine A_lst5 (pc := 34) dX12_offIn_34 (Nat.le_of_ble_eq_true rfl) rfl ?_
      refine A_aload_n (pc := 36) (i := 1) dX12_offIn_36 rfl rfl ?_
      refine A_iconst (pc := 37) (0) dX12_offIn_37 (by decide) ?_
      refine A_callS1 (pc := 38) cs_X12_209 (r_isWhole l (31, a, 0) hm 0 (by decide)) rfl rfl (Nat.le_of_ble_eq_true rfl) ⟨(Nat.le_of_ble_eq_true rfl), (Nat.le_of_ble_eq_true rfl)⟩ ⟨Nat.zero_le _, Nat.zero_le _⟩ dX12_offIn_38 ?_
      refine A_ifeq (pc := 41) 57 dX12_offIn_41 (by decide) (fun hb41 => ?_) (fun hb41 => ?_)
      · refine A_lconst (pc := 57) (0) dX12_offIn_57 (by decide) ?_
        refine A_topJ (y := (of_v (rf ((rt_tick a n nl z lk) w) (31, a, 0) 0) ((rt_tick a n nl z lk) w (31, 19, 0) (40 * sh + k)))) (by rw [of_v, if_neg ((sr_b_0 _).mp hb41)]) ?_
        refine A_lst7 (pc := 58) dX12_offIn_58 (Nat.le_of_ble_eq_true rfl) rfl ?_
        refine A_lload (pc := 60) (i := 7) dX12_offIn_60 rfl ?_
        refine A_lconst (pc := 62) (0) dX12_offIn_62 (by decide) ?_
        refine A_lcmp (pc := 63) dX12_offIn_63 ?_
        refine A_ifge (pc := 64) 73 dX12_offIn_64 (by decide) (fun hb64 => ?_) (fun hb64 => ?_)
        · refine A_lload (pc := 73) (i := 7) dX12_offIn_73 rfl ?_
          refine A_topJ (y := of_a (of_v (rf ((rt_tick a n nl z lk) w) (31, a, 0) 0) ((rt_tick a n nl z lk) w (31, 19, 0) (40 * sh + k)))) (by rw [of_a, if_pos ((lg_cmp_ge _ _).mp hb64)]) ?_
          refine A_lst7 (pc := 75) dX12_offIn_75 (Nat.le_of_ble_eq_true rfl) rfl ?_
          refine A_iload_n (pc := 77) (i := 3) dX12_offIn_77 rfl rfl ?_
          refine A_lload (pc := 78) (i := 7) dX12_offIn_78 rfl ?_
          refine A_ldc2 (pc := 80) (List.mem_cons_of_mem _ kc_X12_264) dX12_offIn_80 ?_
          refine A_lcmp (pc := 83) dX12_offIn_83 ?_
          refine A_ifle (pc := 84) 93 dX12_offIn_84 (by decide) (fun hb84 => ?_) (fun hb84 => ?_)
          · refine A_lload (pc := 93) (i := 7) dX12_offIn_93 rfl ?_
            refine A_l2i (pc := 95) dX12_offIn_95 ?_
            refine A_top (y := of_1 (of_v (rf ((rt_tick a n nl z lk) w) (31, a, 0) 0) ((rt_tick a n nl z lk) w (31, 19, 0) (40 * sh + k)))) (by rw [of_1, if_pos ((lg_cmp_le _ _).mp hb84)]) ?_
            refine A_iadd (pc := 96) dX12_offIn_96 ?_
            refine A_ist3 (pc := 97) dX12_offIn_97 (Nat.le_of_ble_eq_true rfl) rfl ?_
            refine A_inc4 (pc := 98) (nI (k + 1)) dX12_offIn_98 (nI_1 k) (Nat.le_of_ble_eq_true rfl) rfl ?_
            refine A_goto (pc := 101) 5 dX12_offIn_101 (by decide) ?_
            exact ih (k + 1) _ _ _ _ _ _ hq2 (by omega)
          · refine A_ldcw (pc := 87) (List.mem_cons_of_mem _ kc_X12_266) dX12_offIn_87 ?_
            refine A_goto (pc := 90) 96 dX12_offIn_90 (by decide) ?_
            refine A_top (y := of_1 (of_v (rf ((rt_tick a n nl z lk) w) (31, a, 0) 0) ((rt_tick a n nl z lk) w (31, 19, 0) (40 * sh + k)))) (by rw [of_1, if_neg (fun h => hb84 ((lg_cmp_le _ _).mpr h))]) ?_
            refine A_iadd (pc := 96) dX12_offIn_96 ?_
            refine A_ist3 (pc := 97) dX12_offIn_97 (Nat.le_of_ble_eq_true rfl) rfl ?_
            refine A_inc4 (pc := 98) (nI (k + 1)) dX12_offIn_98 (nI_1 k) (Nat.le_of_ble_eq_true rfl) rfl ?_
            refine A_goto (pc := 101) 5 dX12_offIn_101 (by decide) ?_
            exact ih (k + 1) _ _ _ _ _ _ hq2 (by omega)
        · refine A_lload (pc := 67) (i := 7) dX12_offIn_67 rfl ?_
          refine A_lneg (pc := 69) dX12_offIn_69 ?_
          refine A_goto (pc := 70) 75 dX12_offIn_70 (by decide) ?_
          refine A_topJ (y := of_a (of_v (rf ((rt_tick a n nl z lk) w) (31, a, 0) 0) ((rt_tick a n nl z lk) w (31, 19, 0) (40 * sh + k)))) (by rw [of_a, if_neg (fun h => hb64 ((lg_cmp_ge _ _).mpr h))]) ?_
          refine A_lst7 (pc := 75) dX12_offIn_75 (Nat.le_of_ble_eq_true rfl) rfl ?_
          refine A_iload_n (pc := 77) (i := 3) dX12_offIn_77 rfl rfl ?_
          refine A_lload (pc := 78) (i := 7) dX12_offIn_78 rfl ?_
          refine A_ldc2 (pc := 80) (List.mem_cons_of_mem _ kc_X12_264) dX12_offIn_80 ?_
          refine A_lcmp (pc := 83) dX12_offIn_83 ?_
          refine A_ifle (pc := 84) 93 dX12_offIn_84 (by decide) (fun hb84 => ?_) (fun hb84 => ?_)
          · refine A_lload (pc := 93) (i := 7) dX12_offIn_93 rfl ?_
            refine A_l2i (pc := 95) dX12_offIn_95 ?_
            refine A_top (y := of_1 (of_v (rf ((rt_tick a n nl z lk) w) (31, a, 0) 0) ((rt_tick a n nl z lk) w (31, 19, 0) (40 * sh + k)))) (by rw [of_1, if_pos ((lg_cmp_le _ _).mp hb84)]) ?_
            refine A_iadd (pc := 96) dX12_offIn_96 ?_
            refine A_ist3 (pc := 97) dX12_offIn_97 (Nat.le_of_ble_eq_true rfl) rfl ?_
            refine A_inc4 (pc := 98) (nI (k + 1)) dX12_offIn_98 (nI_1 k) (Nat.le_of_ble_eq_true rfl) rfl ?_
            refine A_goto (pc := 101) 5 dX12_offIn_101 (by decide) ?_
            exact ih (k + 1) _ _ _ _ _ _ hq2 (by omega)
          · refine A_ldcw (pc := 87) (List.mem_cons_of_mem _ kc_X12_266) dX12_offIn_87 ?_
            refine A_goto (pc := 90) 96 dX12_offIn_90 (by decide) ?_
            refine A_top (y := of_1 (of_v (rf ((rt_tick a n nl z lk) w) (31, a, 0) 0) ((rt_tick a n nl z lk) w (31, 19, 0) (40 * sh + k)))) (by rw [of_1, if_neg (fun h => hb84 ((lg_cmp_le _ _).mpr h))]) ?_
            refine A_iadd (pc := 96) dX12_offIn_96 ?_
            refine A_ist3 (pc := 97) dX12_offIn_97 (Nat.le_of_ble_eq_true rfl) rfl ?_
            refine A_inc4 (pc := 98) (nI (k + 1)) dX12_offIn_98 (nI_1 k) (Nat.le_of_ble_eq_true rfl) rfl ?_
            refine A_goto (pc := 101) 5 dX12_offIn_101 (by decide) ?_
            exact ih (k + 1) _ _ _ _ _ _ hq2 (by omega)
      · refine A_aload_n (pc := 44) (i := 1) dX12_offIn_44 rfl rfl ?_
        refine A_iconst (pc := 45) (0) dX12_offIn_45 (by decide) ?_
        refine A_iconst (pc := 46) (0) dX12_offIn_46 (by decide) ?_
        refine A_callS1 (pc := 47) cs_X12_73 (r_of l (31, a, 0) hm 0 (by decide) 0 1 rfl (by decide)) rfl rfl (Nat.le_of_ble_eq_true rfl) ⟨(Nat.le_of_ble_eq_true rfl), (Nat.le_of_ble_eq_true rfl)⟩ ⟨Nat.zero_le _, Nat.zero_le _⟩ dX12_offIn_47 ?_
        refine A_i2l (pc := 50) dX12_offIn_50 ?_
        refine A_lload (pc := 51) (i := 5) dX12_offIn_51 rfl ?_
        refine A_lsub (pc := 53) dX12_offIn_53 ?_
        refine A_goto (pc := 54) 58 dX12_offIn_54 (by decide) ?_
        refine A_topJ (y := (of_v (rf ((rt_tick a n nl z lk) w) (31, a, 0) 0) ((rt_tick a n nl z lk) w (31, 19, 0) (40 * sh + k)))) (by rw [of_v, if_pos (Classical.not_not.mp (fun h => hb41 ((sr_b_0 _).mpr h)))]) ?_
        refine A_lst7 (pc := 58) dX12_offIn_58 (Nat.le_of_ble_eq_true rfl) rfl ?_
        refine A_lload (pc := 60) (i := 7) dX12_offIn_60 rfl ?_
        refine A_lconst (pc := 62) (0) dX12_offIn_62 (by decide) ?_
        refine A_lcmp (pc := 63) dX12_offIn_63 ?_
        refine A_ifge (pc := 64) 73 dX12_offIn_64 (by decide) (fun hb64 => ?_) (fun hb64 => ?_)
        · refine A_lload (pc := 73) (i := 7) dX12_offIn_73 rfl ?_
          refine A_topJ (y := of_a (of_v (rf ((rt_tick a n nl z lk) w) (31, a, 0) 0) ((rt_tick a n nl z lk) w (31, 19, 0) (40 * sh + k)))) (by rw [of_a, if_pos ((lg_cmp_ge _ _).mp hb64)]) ?_
          refine A_lst7 (pc := 75) dX12_offIn_75 (Nat.le_of_ble_eq_true rfl) rfl ?_
          refine A_iload_n (pc := 77) (i := 3) dX12_offIn_77 rfl rfl ?_
          refine A_lload (pc := 78) (i := 7) dX12_offIn_78 rfl ?_
          refine A_ldc2 (pc := 80) (List.mem_cons_of_mem _ kc_X12_264) dX12_offIn_80 ?_
          refine A_lcmp (pc := 83) dX12_offIn_83 ?_
          refine A_ifle (pc := 84) 93 dX12_offIn_84 (by decide) (fun hb84 => ?_) (fun hb84 => ?_)
          · refine A_lload (pc := 93) (i := 7) dX12_offIn_93 rfl ?_
            refine A_l2i (pc := 95) dX12_offIn_95 ?_
            refine A_top (y := of_1 (of_v (rf ((rt_tick a n nl z lk) w) (31, a, 0) 0) ((rt_tick a n nl z lk) w (31, 19, 0) (40 * sh + k)))) (by rw [of_1, if_pos ((lg_cmp_le _ _).mp hb84)]) ?_
            refine A_iadd (pc := 96) dX12_offIn_96 ?_
            refine A_ist3 (pc := 97) dX12_offIn_97 (Nat.le_of_ble_eq_true rfl) rfl ?_
            refine A_inc4 (pc := 98) (nI (k + 1)) dX12_offIn_98 (nI_1 k) (Nat.le_of_ble_eq_true rfl) rfl ?_
            refine A_goto (pc := 101) 5 dX12_offIn_101 (by decide) ?_
            exact ih (k + 1) _ _ _ _ _ _ hq2 (by omega)
          · refine A_ldcw (pc := 87) (List.mem_cons_of_mem _ kc_X12_266) dX12_offIn_87 ?_
            refine A_goto (pc := 90) 96 dX12_offIn_90 (by decide) ?_
            refine A_top (y := of_1 (of_v (rf ((rt_tick a n nl z lk) w) (31, a, 0) 0) ((rt_tick a n nl z lk) w (31, 19, 0) (40 * sh + k)))) (by rw [of_1, if_neg (fun h => hb84 ((lg_cmp_le _ _).mpr h))]) ?_
            refine A_iadd (pc := 96) dX12_offIn_96 ?_
            refine A_ist3 (pc := 97) dX12_offIn_97 (Nat.le_of_ble_eq_true rfl) rfl ?_
            refine A_inc4 (pc := 98) (nI (k + 1)) dX12_offIn_98 (nI_1 k) (Nat.le_of_ble_eq_true rfl) rfl ?_
            refine A_goto (pc := 101) 5 dX12_offIn_101 (by decide) ?_
            exact ih (k + 1) _ _ _ _ _ _ hq2 (by omega)
        · refine A_lload (pc := 67) (i := 7) dX12_offIn_67 rfl ?_
          refine A_lneg (pc := 69) dX12_offIn_69 ?_
          refine A_goto (pc := 70) 75 dX12_offIn_70 (by decide) ?_
          refine A_topJ (y := of_a (of_v (rf ((rt_tick a n nl z lk) w) (31, a, 0) 0) ((rt_tick a n nl z lk) w (31, 19, 0) (40 * sh + k)))) (by rw [of_a, if_neg (fun h => hb64 ((lg_cmp_ge _ _).mpr h))]) ?_
          refine A_lst7 (pc := 75) dX12_offIn_75 (Nat.le_of_ble_eq_true rfl) rfl ?_
          refine A_iload_n (pc := 77) (i := 3) dX12_offIn_77 rfl rfl ?_
          refine A_lload (pc := 78) (i := 7) dX12_offIn_78 rfl ?_
          refine A_ldc2 (pc := 80) (List.mem_cons_of_mem _ kc_X12_264) dX12_offIn_80 ?_
          refine A_lcmp (pc := 83) dX12_offIn_83 ?_
          refine A_ifle (pc := 84) 93 dX12_offIn_84 (by decide) (fun hb84 => ?_) (fun hb84 => ?_)
          · refine A_lload (pc := 93) (i := 7) dX12_offIn_93 rfl ?_
            refine A_l2i (pc := 95) dX12_offIn_95 ?_
            refine A_top (y := of_1 (of_v (rf ((rt_tick a n nl z lk) w) (31, a, 0) 0) ((rt_tick a n nl z lk) w (31, 19, 0) (40 * sh + k)))) (by rw [of_1, if_pos ((lg_cmp_le _ _).mp hb84)]) ?_
            refine A_iadd (pc := 96) dX12_offIn_96 ?_
            refine A_ist3 (pc := 97) dX12_offIn_97 (Nat.le_of_ble_eq_true rfl) rfl ?_
            refine A_inc4 (pc := 98) (nI (k + 1)) dX12_offIn_98 (nI_1 k) (Nat.le_of_ble_eq_true rfl) rfl ?_
            refine A_goto (pc := 101) 5 dX12_offIn_101 (by decide) ?_
            exact ih (k + 1) _ _ _ _ _ _ hq2 (by omega)
          · refine A_ldcw (pc := 87) (List.mem_cons_of_mem _ kc_X12_266) dX12_offIn_87 ?_
            refine A_goto (pc := 90) 96 dX12_offIn_90 (by decide) ?_
            refine A_top (y := of_1 (of_v (rf ((rt_tick a n nl z lk) w) (31, a, 0) 0) ((rt_tick a n nl z lk) w (31, 19, 0) (40 * sh + k)))) (by rw [of_1, if_neg (fun h => hb84 ((lg_cmp_le _ _).mpr h))]) ?_
            refine A_iadd (pc := 96) dX12_offIn_96 ?_
            refine A_ist3 (pc := 97) dX12_offIn_97 (Nat.le_of_ble_eq_true rfl) rfl ?_
            refine A_inc4 (pc := 98) (nI (k + 1)) dX12_offIn_98 (nI_1 k) (Nat.le_of_ble_eq_true rfl) rfl ?_
            refine A_goto (pc := 101) 5 dX12_offIn_101 (by decide) ?_
            exact ih (k + 1) _ _ _ _ _ _ hq2 (by omega)
set_option maxRecDepth 20000 in
theorem r_offIn (l : Launch) {kd : am_kd} {rv : am_rv} {iv : am_iv} (hR : shr kd rv) (a : Nat) (ha : a < 3) (hm : kd (31, a, 0) = some (.inr (0, 300))) (n nl z : Nat) (lk : Nat → Nat) (Q : am_iv → Prop) (hQ : ∀ w, Q w → rt_pre w a n nl z lk) (hT : ∀ w, Q w → Q (rt_tick a n nl z lk w)) (hq : Q iv) (sh sz : Nat) (hsh : sh < 4) (hsz : sz ≤ 40) (hZ : ∀ w, Q w → w (31, 18, 0) sh = nI sz) : am_Met l mX12_offIn (am_rm 42 0 0) [am_P (30, 0, 0), am_P (31, a, 0), am_I (nI sh)] kd rv iv (am_ret (some (am_I (fo (rt_tick a n nl z lk) (31, a, 0) sh sz 0 0 iv).1)) kd rv (fo (rt_tick a n nl z lk) (31, a, 0) sh sz 0 0 iv).2) := by
  refine am_Met.of (by decide) (Nat.le_of_ble_eq_true rfl) rfl ?_
  refine A_iconst (pc := 0) (0) dX12_offIn_0 (by decide) ?_
  refine A_ist3 (pc := 1) dX12_offIn_1 (Nat.le_of_ble_eq_true rfl) rfl ?_
  refine A_iconst (pc := 2) (0) dX12_offIn_2 (by decide) ?_
  refine A_ist4 (pc := 3) dX12_offIn_3 (Nat.le_of_ble_eq_true rfl) rfl ?_
  exact fo_loop l hR a ha hm n nl z lk Q hQ hT sh sz hsh hsz hZ sz 0 0 iv none none none none hq (Nat.zero_add sz)
