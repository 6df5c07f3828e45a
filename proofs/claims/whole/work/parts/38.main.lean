def er_heap (k : Nat) (iv : am_iv) : am_iv := am_ui iv (21, 0, 0) k (iv (21, 0, 0) k + 1)
set_option maxRecDepth 20000 in
theorem s_err1 (l : Launch) {kd : am_kd} {rv : am_rv} {iv : am_iv} (hS : sh kd rv) : am_Met l mX11_error (am_rm 1 0 0) [am_P (1, 0, 0), am_I (-1000000001)] kd rv iv (am_ret (some (am_I (-1000000001))) kd rv (er_heap 1 iv)) := by
  refine am_Met.of (by decide) (Nat.le_of_ble_eq_true rfl) rfl ?_
  refine A_ldcw (pc := 0) (List.mem_cons_of_mem _ kc_X11_322) dX11_error_0 ?_
  refine A_iload_n (pc := 3) (i := 1) dX11_error_3 rfl rfl ?_
  refine A_isub (pc := 4) dX11_error_4 ?_
  refine A_top (y := nI 1) (by decide) ?_
  refine A_ist2 (pc := 5) dX11_error_5 (Nat.le_of_ble_eq_true rfl) rfl ?_
  refine A_iload_n (pc := 6) (i := 2) dX11_error_6 rfl rfl ?_
  refine A_iconst (pc := 7) (1) dX11_error_7 (by decide) ?_
  refine A_iconst (pc := 8) (5) dX11_error_8 (by decide) ?_
  refine A_callS1 (pc := 9) cs_X11_56 (s_isHeld l (nI 1) 1 5) rfl rfl (Nat.le_of_ble_eq_true rfl) ⟨(Nat.le_of_ble_eq_true rfl), (Nat.le_of_ble_eq_true rfl)⟩ ⟨Nat.zero_le _, Nat.zero_le _⟩ dX11_error_9 ?_
  refine A_ifeq (pc := 12) 25 dX11_error_12 (by decide) (fun hb12 => ?_) (fun hb12 => ?_)
  · exact absurd hb12 (by decide)
  · refine A_aload_n (pc := 15) (i := 0) dX11_error_15 rfl rfl ?_
    refine A_getr (pc := 16) 8 fl_X11_49_11 hS.k1 rfl hS.w1_8 dX11_error_16 ?_
    refine A_iload_n (pc := 19) (i := 2) dX11_error_19 rfl rfl ?_
    refine A_dup2 (pc := 20) dX11_error_20 rfl rfl ?_
    refine A_ialdN (pc := 21) (j := 1) hS.k21 (by decide) (by decide) dX11_error_21 ?_
    refine A_iconst (pc := 22) (1) dX11_error_22 (by decide) ?_
    refine A_iadd (pc := 23) dX11_error_23 ?_
    refine A_iastN (pc := 24) (j := 1) hS.k21 (by decide) (by decide) dX11_error_24 ?_
    refine A_iload_n (pc := 25) (i := 1) dX11_error_25 rfl rfl ?_
    exact A_iretE (pc := 26) dX11_error_26 rfl (Nat.zero_le _) (Nat.zero_le _) (rfl) (rfl)
set_option maxRecDepth 20000 in
theorem s_err2 (l : Launch) {kd : am_kd} {rv : am_rv} {iv : am_iv} (hS : sh kd rv) : am_Met l mX11_error (am_rm 1 0 0) [am_P (1, 0, 0), am_I (-1000000002)] kd rv iv (am_ret (some (am_I (-1000000002))) kd rv (er_heap 2 iv)) := by
  refine am_Met.of (by decide) (Nat.le_of_ble_eq_true rfl) rfl ?_
  refine A_ldcw (pc := 0) (List.mem_cons_of_mem _ kc_X11_322) dX11_error_0 ?_
  refine A_iload_n (pc := 3) (i := 1) dX11_error_3 rfl rfl ?_
  refine A_isub (pc := 4) dX11_error_4 ?_
  refine A_top (y := nI 2) (by decide) ?_
  refine A_ist2 (pc := 5) dX11_error_5 (Nat.le_of_ble_eq_true rfl) rfl ?_
  refine A_iload_n (pc := 6) (i := 2) dX11_error_6 rfl rfl ?_
  refine A_iconst (pc := 7) (1) dX11_error_7 (by decide) ?_
  refine A_iconst (pc := 8) (5) dX11_error_8 (by decide) ?_
  refine A_callS1 (pc := 9) cs_X11_56 (s_isHeld l (nI 2) 1 5) rfl rfl (Nat.le_of_ble_eq_true rfl) ⟨(Nat.le_of_ble_eq_true rfl), (Nat.le_of_ble_eq_true rfl)⟩ ⟨Nat.zero_le _, Nat.zero_le _⟩ dX11_error_9 ?_
  refine A_ifeq (pc := 12) 25 dX11_error_12 (by decide) (fun hb12 => ?_) (fun hb12 => ?_)
  · exact absurd hb12 (by decide)
  · refine A_aload_n (pc := 15) (i := 0) dX11_error_15 rfl rfl ?_
    refine A_getr (pc := 16) 8 fl_X11_49_11 hS.k1 rfl hS.w1_8 dX11_error_16 ?_
    refine A_iload_n (pc := 19) (i := 2) dX11_error_19 rfl rfl ?_
    refine A_dup2 (pc := 20) dX11_error_20 rfl rfl ?_
    refine A_ialdN (pc := 21) (j := 2) hS.k21 (by decide) (by decide) dX11_error_21 ?_
    refine A_iconst (pc := 22) (1) dX11_error_22 (by decide) ?_
    refine A_iadd (pc := 23) dX11_error_23 ?_
    refine A_iastN (pc := 24) (j := 2) hS.k21 (by decide) (by decide) dX11_error_24 ?_
    refine A_iload_n (pc := 25) (i := 1) dX11_error_25 rfl rfl ?_
    exact A_iretE (pc := 26) dX11_error_26 rfl (Nat.zero_le _) (Nat.zero_le _) (rfl) (rfl)
set_option maxRecDepth 20000 in
theorem s_err3 (l : Launch) {kd : am_kd} {rv : am_rv} {iv : am_iv} (hS : sh kd rv) : am_Met l mX11_error (am_rm 1 0 0) [am_P (1, 0, 0), am_I (-1000000003)] kd rv iv (am_ret (some (am_I (-1000000003))) kd rv (er_heap 3 iv)) := by
  refine am_Met.of (by decide) (Nat.le_of_ble_eq_true rfl) rfl ?_
  refine A_ldcw (pc := 0) (List.mem_cons_of_mem _ kc_X11_322) dX11_error_0 ?_
  refine A_iload_n (pc := 3) (i := 1) dX11_error_3 rfl rfl ?_
  refine A_isub (pc := 4) dX11_error_4 ?_
  refine A_top (y := nI 3) (by decide) ?_
  refine A_ist2 (pc := 5) dX11_error_5 (Nat.le_of_ble_eq_true rfl) rfl ?_
  refine A_iload_n (pc := 6) (i := 2) dX11_error_6 rfl rfl ?_
  refine A_iconst (pc := 7) (1) dX11_error_7 (by decide) ?_
  refine A_iconst (pc := 8) (5) dX11_error_8 (by decide) ?_
  refine A_callS1 (pc := 9) cs_X11_56 (s_isHeld l (nI 3) 1 5) rfl rfl (Nat.le_of_ble_eq_true rfl) ⟨(Nat.le_of_ble_eq_true rfl), (Nat.le_of_ble_eq_true rfl)⟩ ⟨Nat.zero_le _, Nat.zero_le _⟩ dX11_error_9 ?_
  refine A_ifeq (pc := 12) 25 dX11_error_12 (by decide) (fun hb12 => ?_) (fun hb12 => ?_)
  · exact absurd hb12 (by decide)
  · refine A_aload_n (pc := 15) (i := 0) dX11_error_15 rfl rfl ?_
    refine A_getr (pc := 16) 8 fl_X11_49_11 hS.k1 rfl hS.w1_8 dX11_error_16 ?_
    refine A_iload_n (pc := 19) (i := 2) dX11_error_19 rfl rfl ?_
    refine A_dup2 (pc := 20) dX11_error_20 rfl rfl ?_
    refine A_ialdN (pc := 21) (j := 3) hS.k21 (by decide) (by decide) dX11_error_21 ?_
    refine A_iconst (pc := 22) (1) dX11_error_22 (by decide) ?_
    refine A_iadd (pc := 23) dX11_error_23 ?_
    refine A_iastN (pc := 24) (j := 3) hS.k21 (by decide) (by decide) dX11_error_24 ?_
    refine A_iload_n (pc := 25) (i := 1) dX11_error_25 rfl rfl ?_
    exact A_iretE (pc := 26) dX11_error_26 rfl (Nat.zero_le _) (Nat.zero_le _) (rfl) (rfl)
set_option maxRecDepth 20000 in
theorem s_err4 (l : Launch) {kd : am_kd} {rv : am_rv} {iv : am_iv} (hS : sh kd rv) : am_Met l mX11_error (am_rm 1 0 0) [am_P (1, 0, 0), am_I (-1000000004)] kd rv iv (am_ret (some (am_I (-1000000004))) kd rv (er_heap 4 iv)) := by
  refine am_Met.of (by decide) (Nat.le_of_ble_eq_true rfl) rfl ?_
  refine A_ldcw (pc := 0) (List.mem_cons_of_mem _ kc_X11_322) dX11_error_0 ?_
  refine A_iload_n (pc := 3) (i := 1) dX11_error_3 rfl rfl ?_
  refine A_isub (pc := 4) dX11_error_4 ?_
  refine A_top (y := nI 4) (by decide) ?_
  refine A_ist2 (pc := 5) dX11_error_5 (Nat.le_of_ble_eq_true rfl) rfl ?_
  refine A_iload_n (pc := 6) (i := 2) dX11_error_6 rfl rfl ?_
  refine A_iconst (pc := 7) (1) dX11_error_7 (by decide) ?_
  refine A_iconst (pc := 8) (5) dX11_error_8 (by decide) ?_
  refine A_callS1 (pc := 9) cs_X11_56 (s_isHeld l (nI 4) 1 5) rfl rfl (Nat.le_of_ble_eq_true rfl) ⟨(Nat.le_of_ble_eq_true rfl), (Nat.le_of_ble_eq_true rfl)⟩ ⟨Nat.zero_le _, Nat.zero_le _⟩ dX11_error_9 ?_
  refine A_ifeq (pc := 12) 25 dX11_error_12 (by decide) (fun hb12 => ?_) (fun hb12 => ?_)
  · exact absurd hb12 (by decide)
  · refine A_aload_n (pc := 15) (i := 0) dX11_error_15 rfl rfl ?_
    refine A_getr (pc := 16) 8 fl_X11_49_11 hS.k1 rfl hS.w1_8 dX11_error_16 ?_
    refine A_iload_n (pc := 19) (i := 2) dX11_error_19 rfl rfl ?_
    refine A_dup2 (pc := 20) dX11_error_20 rfl rfl ?_
    refine A_ialdN (pc := 21) (j := 4) hS.k21 (by decide) (by decide) dX11_error_21 ?_
    refine A_iconst (pc := 22) (1) dX11_error_22 (by decide) ?_
    refine A_iadd (pc := 23) dX11_error_23 ?_
    refine A_iastN (pc := 24) (j := 4) hS.k21 (by decide) (by decide) dX11_error_24 ?_
    refine A_iload_n (pc := 25) (i := 1) dX11_error_25 rfl rfl ?_
    exact A_iretE (pc := 26) dX11_error_26 rfl (Nat.zero_le _) (Nat.zero_le _) (rfl) (rfl)
set_option maxRecDepth 20000 in
theorem s_err5 (l : Launch) {kd : am_kd} {rv : am_rv} {iv : am_iv} (hS : sh kd rv) : am_Met l mX11_error (am_rm 1 0 0) [am_P (1, 0, 0), am_I (-1000000005)] kd rv iv (am_ret (some (am_I (-1000000005))) kd rv (er_heap 5 iv)) := by
  refine am_Met.of (by decide) (Nat.le_of_ble_eq_true rfl) rfl ?_
  refine A_ldcw (pc := 0) (List.mem_cons_of_mem _ kc_X11_322) dX11_error_0 ?_
  refine A_iload_n (pc := 3) (i := 1) dX11_error_3 rfl rfl ?_
  refine A_isub (pc := 4) dX11_error_4 ?_
  refine A_top (y := nI 5) (by decide) ?_
  refine A_ist2 (pc := 5) dX11_error_5 (Nat.le_of_ble_eq_true rfl) rfl ?_
  refine A_iload_n (pc := 6) (i := 2) dX11_error_6 rfl rfl ?_
  refine A_iconst (pc := 7) (1) dX11_error_7 (by decide) ?_
  refine A_iconst (pc := 8) (5) dX11_error_8 (by decide) ?_
  refine A_callS1 (pc := 9) cs_X11_56 (s_isHeld l (nI 5) 1 5) rfl rfl (Nat.le_of_ble_eq_true rfl) ⟨(Nat.le_of_ble_eq_true rfl), (Nat.le_of_ble_eq_true rfl)⟩ ⟨Nat.zero_le _, Nat.zero_le _⟩ dX11_error_9 ?_
  refine A_ifeq (pc := 12) 25 dX11_error_12 (by decide) (fun hb12 => ?_) (fun hb12 => ?_)
  · exact absurd hb12 (by decide)
  · refine A_aload_n (pc := 15) (i := 0) dX11_error_15 rfl rfl ?_
    refine A_getr (pc := 16) 8 fl_X11_49_11 hS.k1 rfl hS.w1_8 dX11_error_16 ?_
    refine A_iload_n (pc := 19) (i := 2) dX11_error_19 rfl rfl ?_
    refine A_dup2 (pc := 20) dX11_error_20 rfl rfl ?_
    refine A_ialdN (pc := 21) (j := 5) hS.k21 (by decide) (by decide) dX11_error_21 ?_
    refine A_iconst (pc := 22) (1) dX11_error_22 (by decide) ?_
    refine A_iadd (pc := 23) dX11_error_23 ?_
    refine A_iastN (pc := 24) (j := 5) hS.k21 (by decide) (by decide) dX11_error_24 ?_
    refine A_iload_n (pc := 25) (i := 1) dX11_error_25 rfl rfl ?_
    exact A_iretE (pc := 26) dX11_error_26 rfl (Nat.zero_le _) (Nat.zero_le _) (rfl) (rfl)
set_option maxRecDepth 20000 in
theorem s_isMissing (l : Launch) {kd : am_kd} {rv : am_rv} {iv : am_iv} (hS : sh kd rv) (j : Nat) (hj : j < 4) : am_Met l mX11_isMissing (am_rm 0 0 0) [am_P (1, 0, 0), am_I (nI j)] kd rv iv (am_ret (some (am_I (sr_b (iv (17, j, 0) 2 = 0)))) kd rv iv) := by
  refine am_Met.of (by decide) (Nat.le_of_ble_eq_true rfl) rfl ?_
  refine A_aload_n (pc := 0) (i := 0) dX11_isMissing_0 rfl rfl ?_
  refine A_getr (pc := 1) 5 fl_X11_31_11 hS.k1 rfl hS.w1_5 dX11_isMissing_1 ?_
  refine A_iload_n (pc := 4) (i := 1) dX11_isMissing_4 rfl rfl ?_
  refine A_aaldN (pc := 5) hS.k16 (by decide) (by decide) hj (by decide) (hS.w16 hj) dX11_isMissing_5 ?_
  refine A_geti (pc := 6) 2 fl_X11_299_5 (hS.k17 hj) rfl dX11_isMissing_6 ?_
  refine A_ifne (pc := 9) 16 dX11_isMissing_9 (by decide) (fun hb9 => ?_) (fun hb9 => ?_)
  · refine A_iconst (pc := 16) (0) dX11_isMissing_16 (by decide) ?_
    exact A_zretE (pc := 17) dX11_isMissing_17 rfl (by first | exact A_zn0 | exact A_zn1 | exact A_znif _) (Nat.zero_le _) (Nat.zero_le _) ((if_neg hb9).symm) (rfl)
  · refine A_iconst (pc := 12) (1) dX11_isMissing_12 (by decide) ?_
    refine A_goto (pc := 13) 17 dX11_isMissing_13 (by decide) ?_
    exact A_zretE (pc := 17) dX11_isMissing_17 rfl (by first | exact A_zn0 | exact A_zn1 | exact A_znif _) (Nat.zero_le _) (Nat.zero_le _) ((if_pos hb9).symm) (rfl)
set_option maxRecDepth 20000 in
theorem s_filmError (l : Launch) {kd : am_kd} {rv : am_rv} {iv : am_iv} (hS : sh kd rv) (sh : Int32) : am_Met l mX11_filmError (am_rm 2 0 0) [am_P (1, 0, 0), am_I sh] kd rv iv (am_ret (some (am_I (if 0 ≤ sh ∧ sh ≤ 3 then (if iv (17, sh.toNatClampNeg, 0) 2 = 0 ∨ iv (2, 0, 0) 1 = 0 then -1000000002 else 0) else -1000000001))) kd rv iv) := by
  refine am_Met.of (by decide) (Nat.le_of_ble_eq_true rfl) rfl ?_
  refine A_iload_n (pc := 0) (i := 1) dX11_filmError_0 rfl rfl ?_
  refine A_callS1 (pc := 1) cs_X11_285 (s_isSheet l sh) rfl rfl (Nat.le_of_ble_eq_true rfl) ⟨(Nat.le_of_ble_eq_true rfl), (Nat.le_of_ble_eq_true rfl)⟩ ⟨Nat.zero_le _, Nat.zero_le _⟩ dX11_filmError_1 ?_
  refine A_ifne (pc := 4) 10 dX11_filmError_4 (by decide) (fun hb4 => ?_) (fun hb4 => ?_)
  · have hsh : 0 ≤ sh ∧ sh ≤ 3 := Classical.not_not.mp (fun h => hb4 ((sr_b_0 _).mpr h))
    have hs4 : sh < nI 4 := by
      have h := hsh.2
      have e1 : (3 : Int32).toInt = 3 := by decide
      have e2 : (nI 4).toInt = 4 := by decide
      rw [fa_le] at h
      rw [fa_lt]
      omega
    obtain ⟨j, hj, ej⟩ := nI_idx (n := 4) hsh.1 hs4 (by decide)
    refine A_aload_n (pc := 10) (i := 0) dX11_filmError_10 rfl rfl ?_
    refine A_iload_n (pc := 11) (i := 1) dX11_filmError_11 rfl rfl ?_
    refine A_top ej ?_
    refine A_callV1 (pc := 12) cv_X11_293 (s_isMissing l hS j hj) hS.k1 rfl rfl rfl rfl (Nat.le_of_ble_eq_true rfl) ⟨(Nat.le_of_ble_eq_true rfl), (Nat.le_of_ble_eq_true rfl)⟩ ⟨Nat.zero_le _, Nat.zero_le _⟩ dX11_filmError_12 ?_
    refine A_ifne (pc := 15) 28 dX11_filmError_15 (by decide) (fun hb15 => ?_) (fun hb15 => ?_)
    · refine A_ldc (pc := 28) (List.mem_cons_of_mem _ kc_X11_210) dX11_filmError_28 ?_
      refine A_goto (pc := 30) 34 dX11_filmError_30 (by decide) ?_
      exact A_iretE (pc := 34) dX11_filmError_34 rfl (Nat.zero_le _) (Nat.zero_le _) (by rw [if_pos hsh, ej, nI_clamp (by omega), if_pos (Or.inl (Classical.not_not.mp (fun h => hb15 ((sr_b_0 _).mpr h))))]) (rfl)
    · refine A_aload_n (pc := 18) (i := 0) dX11_filmError_18 rfl rfl ?_
      refine A_getr (pc := 19) 0 fl_X11_12_11 hS.k1 rfl (hS.w1 (k := 0) (by decide)) dX11_filmError_19 ?_
      refine A_geti (pc := 22) 1 fl_X11_244_4 (hS.k2 (by decide)) rfl dX11_filmError_22 ?_
      refine A_ifne (pc := 25) 33 dX11_filmError_25 (by decide) (fun hb25 => ?_) (fun hb25 => ?_)
      · refine A_iconst (pc := 33) (0) dX11_filmError_33 (by decide) ?_
        exact A_iretE (pc := 34) dX11_filmError_34 rfl (Nat.zero_le _) (Nat.zero_le _) (by rw [if_pos hsh, ej, nI_clamp (by omega), if_neg (fun h => h.elim ((sr_b_0 _).mp hb15) hb25)]) (rfl)
      · refine A_ldc (pc := 28) (List.mem_cons_of_mem _ kc_X11_210) dX11_filmError_28 ?_
        refine A_goto (pc := 30) 34 dX11_filmError_30 (by decide) ?_
        exact A_iretE (pc := 34) dX11_filmError_34 rfl (Nat.zero_le _) (Nat.zero_le _) (by rw [if_pos hsh, ej, nI_clamp (by omega), if_pos (Or.inr hb25)]) (rfl)
  · have hns := (sr_b_0 _).mp hb4
    refine A_ldc (pc := 7) (List.mem_cons_of_mem _ kc_X11_60) dX11_filmError_7 ?_
    exact A_iretE (pc := 9) dX11_filmError_9 rfl (Nat.zero_le _) (Nat.zero_le _) (by rw [if_neg hns]) (rfl)
set_option maxRecDepth 20000 in
theorem gh_loop (l : Launch) {kd : am_kd} {rv : am_rv} {iv : am_iv} (hS : sh kd rv) (nl : Nat) (ln : Nat → am_N) (lk : Nat → Nat) (n z : Nat) (Q : am_iv → Prop) (hQ : ∀ w, Q w → tk_q 1 n z nl w) (hT : ∀ w, Q w → Q (rm_tick 1 n z nl ln lk w)) (hl : rm_laws kd rv iv 1 nl ln lk) (N : Nat) (hN : N < 2 ^ 31) (d : Nat) : ∀ (w : am_iv), Q w → d ≤ N → am_W l mX11_goAhead (am_rm 7 0 0) (am_ret none kd rv (it (rm_tick 1 n z nl ln lk) d w)) 13 [some (am_P (1, 0, 0)), some (am_I (nI N)), some (am_I (nI (N - d)))] [] kd rv w 0 0 := by
  induction d with
  | zero =>
    intro w hq hd
    refine A_iload_n (pc := 13) (i := 2) dX11_goAhead_13 rfl rfl ?_
    refine A_iload_n (pc := 14) (i := 1) dX11_goAhead_14 rfl rfl ?_
    refine A_icmpge (pc := 15) 31 dX11_goAhead_15 (by decide) (fun hb15 => ?_) (fun hb15 => ?_)
    · exact A_vretE (pc := 31) dX11_goAhead_31 rfl (Nat.zero_le _) (Nat.zero_le _) (rfl)
    · exact absurd (nI_le (Nat.le_refl N) hN) hb15
  | succ d ih =>
    intro w hq hd
    refine A_iload_n (pc := 13) (i := 2) dX11_goAhead_13 rfl rfl ?_
    refine A_iload_n (pc := 14) (i := 1) dX11_goAhead_14 rfl rfl ?_
    refine A_icmpge (pc := 15) 31 dX11_goAhead_15 (by decide) (fun hb15 => ?_) (fun hb15 => ?_)
    · exact absurd hb15 (nI_nge (by omega) hN)
    · refine A_aload_n (pc := 18) (i := 0) dX11_goAhead_18 rfl rfl ?_
      refine A_getr (pc := 19) 1 fl_X11_16_11 hS.k1 rfl (hS.w1 (k := 1) (by decide)) dX11_goAhead_19 ?_
      refine A_callV0 (pc := 22) cv_X11_241 (s_tick l hS 1 (by decide) nl ln lk (hl.to ((hQ w hq).2.2.2.2.1.trans hl.1.symm)) n (hQ w hq).1 (hQ w hq).2.1 z (hQ w hq).2.2.1 (hQ w hq).2.2.2.1 (hQ w hq).2.2.2.2.2) (hS.k2 (by decide)) rfl rfl rfl rfl (Nat.le_of_ble_eq_true rfl) ⟨(Nat.le_of_ble_eq_true rfl), (Nat.le_of_ble_eq_true rfl)⟩ ⟨Nat.zero_le _, Nat.zero_le _⟩ dX11_goAhead_22 ?_
      refine A_inc2 (pc := 25) (nI (N - d)) dX11_goAhead_25 (nI_sub1 hd) (Nat.le_of_ble_eq_true rfl) rfl ?_
      refine A_goto (pc := 28) 13 dX11_goAhead_28 (by decide) ?_
      exact ih _ (hT w hq) (by omega)
set_option maxRecDepth 20000 in
theorem s_goAhead (l : Launch) {kd : am_kd} {rv : am_rv} {iv : am_iv} (hS : sh kd rv) (nl : Nat) (ln : Nat → am_N) (lk : Nat → Nat) (n z : Nat) (Q : am_iv → Prop) (hQ : ∀ w, Q w → tk_q 1 n z nl w) (hT : ∀ w, Q w → Q (rm_tick 1 n z nl ln lk w)) (hn : iv (2, 0, 0) 1 = nI n) (hn8 : n ≤ 8) (hb : ∀ r, r < n → iv (4, 0, r) 7 = 0 ∨ iv (4, 0, r) 7 = 1) (hlo : la_ok kd rv 0) (z0 zt zw : Nat) (h0 : iv (9, 0, 0) 1 = nI z0) (h05 : z0 ≤ 50) (h1 : iv (9, 0, 1) 1 = nI z) (h15 : z ≤ 50) (ht : iv (12, 0, 0) 1 = nI zt) (ht5 : zt ≤ 50) (hw : iv (14, 0, 0) 1 = nI zw) (hw2 : zw ≤ 20) (hl : rm_laws kd (lw_cp 1 0 rv 6) (rb_heap 1 0 n z0 z zt zw iv) 1 nl ln lk) (hq : Q (rb_heap 1 0 n z0 z zt zw iv)) (N : Nat) (hN : N < 2 ^ 31) : am_Met l mX11_goAhead (am_rm 7 0 0) [am_P (1, 0, 0), am_I (nI N)] kd rv iv (am_ret none kd (lw_cp 1 0 rv 6) (it (rm_tick 1 n z nl ln lk) N (rb_heap 1 0 n z0 z zt zw iv))) := by
  refine am_Met.of (by decide) (Nat.le_of_ble_eq_true rfl) rfl ?_
  refine A_aload_n (pc := 0) (i := 0) dX11_goAhead_0 rfl rfl ?_
  refine A_getr (pc := 1) 1 fl_X11_16_11 hS.k1 rfl (hS.w1 (k := 1) (by decide)) dX11_goAhead_1 ?_
  refine A_aload_n (pc := 4) (i := 0) dX11_goAhead_4 rfl rfl ?_
  refine A_getr (pc := 5) 0 fl_X11_12_11 hS.k1 rfl (hS.w1 (k := 0) (by decide)) dX11_goAhead_5 ?_
  refine A_callV0 (pc := 8) cv_X11_220 (s_rmbecome l hS 1 (by decide) 0 (by decide) (by decide) n hn hn8 hb hlo z0 z zt zw h0 h05 h1 h15 ht ht5 hw hw2) (hS.k2 (by decide)) rfl rfl rfl rfl (Nat.le_of_ble_eq_true rfl) ⟨(Nat.le_of_ble_eq_true rfl), (Nat.le_of_ble_eq_true rfl)⟩ ⟨Nat.zero_le _, Nat.zero_le _⟩ dX11_goAhead_8 ?_
  refine A_iconst (pc := 11) (0) dX11_goAhead_11 (by decide) ?_
  refine A_ist2 (pc := 12) dX11_goAhead_12 (Nat.le_of_ble_eq_true rfl) rfl ?_
  have h9 := gh_loop l (lw_cp_sh hS 6) nl ln lk n z Q hQ hT hl N hN N _ hq (Nat.le_refl N)
  rw [Nat.sub_self] at h9
  exact h9
