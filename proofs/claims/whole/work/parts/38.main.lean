def er_heap (k : Nat) (iv : am_iv) : am_iv := am_ui iv (21, 0, 0) k (iv (21, 0, 0) k + 1)
set_option maxRecDepth 20000 in
theorem s_err1 (l : Launch) {kd : am_kd} {rv : am_rv} {iv : am_iv} (hS : sh kd rv) : am_Met l mX11_error (am_rm 1 0 0) [am_P (1, 0, 0), am_I (-1000000001)] kd rv iv (am_ret (some (am_I (-1000000001))) kd rv (er_heap 1 iv)) := by
  refine am_Met.of (by decide) (Nat.le_of_ble_eq_true rfl) rfl ?_
  refine A_ldcw (pc := 0) (List.mem_cons_of_mem _ kc_X11_322) dX11_error_0 ?_
  refine A_iload_n (pc := 3) (i := 1) dX11_error_3 rfl rfl ?_
  refine A_isub (pc := 4) dX11_error_4 ?_
  refine A_top (y := nI 1) (by decide) ?_
  refine A_ist2 (pc := 5) dX11_error_5 (Nat.le_of_ble_eq_true rfl) rfl ?_
  refine A_iload_n (pc := 6) (i := 2) dX11_error_6 rfl rfl ?_
  refine A_iconst (pc := 7) (1) dX11_error_7 (by decide) ?_
  refine A_iconst (pc := 8) (5) dX11_error_8 (by decide) ?_
  refine A_callS1 (pc := 9) cs_X11_56 (s_isHeld l (nI 1) 1 5) rfl rfl (Nat.le_of_ble_eq_true rfl) ⟨(Nat.le_of_ble_eq_true rfl), (Nat.le_of_ble_eq_true rfl)⟩ ⟨Nat.zero_le _, Nat.zero_le _⟩ dX11_error_9 ?_
  refine A_ifeq (pc := 12) 25 dX11_error_12 (by decide) (fun hb12 => ?_) (fun hb12 => ?_)
  · exact absurd hb12 (by decide)
  · refine A_aload_n (pc := 15) (i := 0) dX11_error_15 rfl rfl ?_
    refine A_getr (pc := 16) 8 fl_X11_49_11 hS.k1 rfl hS.w1_8 dX11_error_16 ?_
    refine A_iload_n (pc := 19) (i := 2) dX11_error_19 rfl rfl ?_
    refine A_dup2 (pc := 20) dX11_error_20 rfl rfl ?_
    refine A_ialdN (pc := 21) (j := 1) hS.k21 (by decide) (by decide) dX11_error_21 ?_
    refine A_iconst (pc := 22) (1) dX11_error_22 (by decide) ?_
    refine A_iadd (pc := 23) dX11_error_23 ?_
    refine A_iastN (pc := 24) (j := 1) hS.k21 (by decide) (by decide) dX11_error_24 ?_
    refine A_iload_n (pc := 25) (i := 1) dX11_error_25 rfl rfl ?_
    exact A_iretE (pc := 26) dX11_error_26 rfl (Nat.zero_le _) (Nat.zero_le _) (rfl) (rfl)
set_option maxRecDepth 20000 in
theorem s_err2 (l : Launch) {kd : am_kd} {rv : am_rv} {iv : am_iv} (hS : sh kd rv) : am_Met l mX11_error (am_rm 1 0 0) [am_P (1, 0, 0), am_I (-1000000002)] kd rv iv (am_ret (some (am_I (-1000000002))) kd rv (er_heap 2 iv)) := by
  refine am_Met.of (by decide) (Nat.le_of_ble_eq_true rfl) rfl ?_
  refine A_ldcw (pc := 0) (List.mem_cons_of_mem _ kc_X11_322) dX11_error_0 ?_
  refine A_iload_n (pc := 3) (i := 1) dX11_error_3 rfl rfl ?_
  refine A_isub (pc := 4) dX11_error_4 ?_
  refine A_top (y := nI 2) (by decide) ?_
  refine A_ist2 (pc := 5) dX11_error_5 (Nat.le_of_ble_eq_true rfl) rfl ?_
  refine A_iload_n (pc := 6) (i := 2) dX11_error_6 rfl rfl ?_
  refine A_iconst (pc := 7) (1) dX11_error_7 (by decide) ?_
  refine A_iconst (pc := 8) (5) dX11_error_8 (by decide) ?_
  refine A_callS1 (pc := 9) cs_X11_56 (s_isHeld l (nI 2) 1 5) rfl rfl (Nat.le_of_ble_eq_true rfl) ⟨(Nat.le_of_ble_eq_true rfl), (Nat.le_of_ble_eq_true rfl)⟩ ⟨Nat.zero_le _, Nat.zero_le _⟩ dX11_error_9 ?_
  refine A_ifeq (pc := 12) 25 dX11_error_12 (by decide) (fun hb12 => ?_) (fun hb12 => ?_)
  · exact absurd hb12 (by decide)
  · refine A_aload_n (pc := 15) (i := 0) dX11_error_15 rfl rfl ?_
    refine A_getr (pc := 16) 8 fl_X11_49_11 hS.k1 rfl hS.w1_8 dX11_error_16 ?_
    refine A_iload_n (pc := 19) (i := 2) dX11_error_19 rfl rfl ?_
    refine A_dup2 (pc := 20) dX11_error_20 rfl rfl ?_
    refine A_ialdN (pc := 21) (j := 2) hS.k21 (by decide) (by decide) dX11_error_21 ?_
    refine A_iconst (pc := 22) (1) dX11_error_22 (by decide) ?_
    refine A_iadd (pc := 23) dX11_error_23 ?_
    refine A_iastN (pc := 24) (j := 2) hS.k21 (by decide) (by decide) dX11_error_24 ?_
    refine A_iload_n (pc := 25) (i := 1) dX11_error_25 rfl rfl ?_
    exact A_iretE (pc := 26) dX11_error_26 rfl (Nat.zero_le _) (Nat.zero_le _) (rfl) (rfl)
set_option maxRecDepth 20000 in
theorem s_err3 (l : Launch) {kd : am_kd} {rv : am_rv} {iv : am_iv} (hS : sh kd rv) : am_Met l mX11_error (am_rm 1 0 0) [am_P (1, 0, 0), am_I (-1000000003)] kd rv iv (am_ret (some (am_I (-1000000003))) kd rv (er_heap 3 iv)) := by
  refine am_Met.of (by decide) (Nat.le_of_ble_eq_true rfl) rfl ?_
  refine A_ldcw (pc := 0) (List.mem_cons_of_mem _ kc_X11_322) dX11_error_0 ?_
  refine A_iload_n (pc := 3) (i := 1) dX11_error_3 rfl rfl ?_
  refine A_isub (pc := 4) dX11_error_4 ?_
  refine A_top (y := nI 3) (by decide) ?_
  refine A_ist2 (pc := 5) dX11_error_5 (Nat.le_of_ble_eq_true rfl) rfl ?_
  refine A_iload_n (pc := 6) (i := 2) dX11_error_6 rfl rfl ?_
  refine A_iconst (pc := 7) (1) dX11_error_7 (by decide) ?_
  refine A_iconst (pc := 8) (5) dX11_error_8 (by decide) ?_
  refine A_callS1 (pc := 9) cs_X11_56 (s_isHeld l (nI 3) 1 5) rfl rfl (Nat.le_of_ble_eq_true rfl) ⟨(Nat.le_of_ble_eq_true rfl), (Nat.le_of_ble_eq_true rfl)⟩ ⟨Nat.zero_le _, Nat.zero_le _⟩ dX11_error_9 ?_
  refine A_ifeq (pc := 12) 25 dX11_error_12 (by decide) (fun hb12 => ?_) (fun hb12 => ?_)
  · exact absurd hb12 (by decide)
  · refine A_aload_n (pc := 15) (i := 0) dX11_error_15 rfl rfl ?_
    refine A_getr (pc := 16) 8 fl_X11_49_11 hS.k1 rfl hS.w1_8 dX11_error_16 ?_
    refine A_iload_n (pc := 19) (i := 2) dX11_error_19 rfl rfl ?_
    refine A_dup2 (pc := 20) dX11_error_20 rfl rfl ?_
    refine A_ialdN (pc := 21) (j := 3) hS.k21 (by decide) (by decide) dX11_error_21 ?_
    refine A_iconst (pc := 22) (1) dX11_error_22 (by decide) ?_
    refine A_iadd (pc := 23) dX11_error_23 ?_
    refine A_iastN (pc := 24) (j := 3) hS.k21 (by decide) (by decide) dX11_error_24 ?_
    refine A_iload_n (pc := 25) (i := 1) dX11_error_25 rfl rfl ?_
    exact A_iretE (pc := 26) dX11_error_26 rfl (Nat.zero_le _) (Nat.zero_le _) (rfl) (rfl)
set_option maxRecDepth 20000 in
theorem s_err4 (l : Launch) {kd : am_kd} {rv : am_rv} {iv : am_iv} (hS : sh kd rv) : am_Met l mX11_error (am_rm 1 0 0) [am_P (1, 0, 0), am_I (-1000000004)] kd rv iv (am_ret (some (am_I (-1000000004))) kd rv (er_heap 4 iv)) := by
  refine am_Met.of (by decide) (Nat.le_of_ble_eq_true rfl) rfl ?_
  refine A_ldcw (pc := 0) (List.mem_cons_of_mem _ kc_X11_322) dX11_error_0 ?_
  refine A_iload_n (pc := 3) (i := 1) dX11_error_3 rfl rfl ?_
  refine A_isub (pc := 4) dX11_error_4 ?_
  refine A_top (y := nI 4) (by decide) ?_
  refine A_ist2 (pc := 5) dX11_error_5 (Nat.le_of_ble_eq_true rfl) rfl ?_
  refine A_iload_n (pc := 6) (i := 2) dX11_error_6 rfl rfl ?_
  refine A_iconst (pc := 7) (1) dX11_error_7 (by decide) ?_
  refine A_iconst (pc := 8) (5) dX11_error_8 (by decide) ?_
  refine A_callS1 (pc := 9) cs_X11_56 (s_isHeld l (nI 4) 1 5) rfl rfl (Nat.le_of_ble_eq_true rfl) ⟨(Nat.le_of_ble_eq_true rfl), (Nat.le_of_ble_eq_true rfl)⟩ ⟨Nat.zero_le _, Nat.zero_le _⟩ dX11_error_9 ?_
  refine A_ifeq (pc := 12) 25 dX11_error_12 (by decide) (fun hb12 => ?_) (fun hb12 => ?_)
  · exact absurd hb12 (by decide)
  · refine A_aload_n (pc := 15) (i := 0) dX11_error_15 rfl rfl ?_
    refine A_getr (pc := 16) 8 fl_X11_49_11 hS.k1 rfl hS.w1_8 dX11_error_16 ?_
    refine A_iload_n (pc := 19) (i := 2) dX11_error_19 rfl rfl ?_
    refine A_dup2 (pc := 20) dX11_error_20 rfl rfl ?_
    refine A_ialdN (pc := 21) (j := 4) hS.k21 (by decide) (by decide) dX11_error_21 ?_
    refine A_iconst (pc := 22) (1) dX11_error_22 (by decide) ?_
    refine A_iadd (pc := 23) dX11_error_23 ?_
    refine A_iastN (pc := 24) (j := 4) hS.k21 (by decide) (by decide) dX11_error_24 ?_
    refine A_iload_n (pc := 25) (i := 1) dX11_error_25 rfl rfl ?_
    exact A_iretE (pc := 26) dX11_error_26 rfl (Nat.zero_le _) (Nat.zero_le _) (rfl) (rfl)
set_option maxRecDepth 20000 in
theorem s_err5 (l : Launch) {kd : am_kd} {rv : am_rv} {iv : am_iv} (hS : sh kd rv) : am_Met l mX11_error (am_rm 1 0 0) [am_P (1, 0, 0), am_I (-1000000005)] kd rv iv (am_ret (some (am_I (-1000000005))) kd rv (er_heap 5 iv)) := by
  refine am_Met.of (by decide) (Nat.le_of_ble_eq_true rfl) rfl ?_
  refine A_ldcw (pc := 0) (List.mem_cons_of_mem _ kc_X11_322) dX11_error_0 ?_
  refine A_iload_n (pc := 3) (i := 1) dX11_error_3 rfl rfl ?_
  refine A_isub (pc := 4) dX11_error_4 ?_
  refine A_top (y := nI 5) (by decide) ?_
  refine A_ist2 (pc := 5) dX11_error_5 (Nat.le_of_ble_eq_true rfl) rfl ?_
  refine A_iload_n (pc := 6) (i := 2) dX11_error_6 rfl rfl ?_
  refine A_iconst (pc := 7) (1) dX11_error_7 (by decide) ?_
  refine A_iconst (pc := 8) (5) dX11_error_8 (by decide) ?_
  refine A_callS1 (pc := 9) cs_X11_56 (s_isHeld l (nI 5) 1 5) rfl rfl (Nat.le_of_ble_eq_true rfl) ⟨(Nat.le_of_ble_eq_true rfl), (Nat.le_of_ble_eq_true rfl)⟩ ⟨Nat.zero_le _, Nat.zero_le _⟩ dX11_error_9 ?_
  refine A_ifeq (pc := 12) 25 dX11_error_12 (by decide) (fun hb12 => ?_) (fun hb12 => ?_)
  · exact absurd hb12 (by decide)
  · refine A_aload_n (pc := 15) (i := 0) dX11_error_15 rfl rfl ?_
    refine A_getr (pc := 16) 8 fl_X11_49_11 hS.k1 rfl hS.w1_8 dX11_error_16 ?_
    refine A_iload_n (pc := 19) (i := 2) dX11_error_19 rfl rfl ?_
    refine A_dup2 (pc := 20) dX11_error_20 rfl rfl ?_
    refine A_ialdN (pc := 21) (j := 5) hS.k21 (by decide) (by decide) dX11_error_21 ?_
    refine A_iconst (pc := 22) (1) dX11_error_22 (by decide) ?_
    refine A_iadd (pc := 23) dX11_error_23 ?_
    refine A_iastN (pc := 24) (j := 5) hS.k21 (by decide) (by decide) dX11_error_24 ?_
    refine A_iload_n (pc := 25) (i := 1) dX11_error_25 rfl rfl ?_
    exact A_iretE (pc := 26) dX11_error_26 rfl (Nat.zero_le _) (Nat.zero_le _) (rfl) (rfl)
set_option maxRecDepth 20000 in
theorem s_isMissing (l : Launch) {kd : am_kd} {rv : am_rv} {iv : am_iv} (hS : sh kd rv) (j : Nat) (hj : j < 4) : am_Met l mX11_isMissing (am_rm 0 0 0) [am_P (1, 0, 0), am_I (nI j)] kd rv iv (am_ret (some (am_I (sr_b (iv (17, j, 0) 2 = 0)))) kd rv iv) := by
  refine am_Met.of (by decide) (Nat.le_of_ble_eq_true rfl) rfl ?_
  refine A_aload_n (pc := 0) (i := 0) dX11_isMissing_0 rfl rfl ?_
  refine A_getr (pc := 1) 5 fl_X11_31_11 hS.k1 rfl hS.w1_5 dX11_isMissing_1 ?_
  refine A_iload_n (pc := 4) (i := 1) dX11_isMissing_4 rfl rfl ?_
  refine A_aaldN (pc := 5) hS.k16 (by decide) (by decide) hj (by decide) (hS.w16 hj) dX11_isMissing_5 ?_
  refine A_geti (pc := 6) 2 fl_X11_299_5 (hS.k17 hj) rfl dX11_isMissing_6 ?_
  refine A_ifne (pc := 9) 16 dX11_isMissing_9 (by decide) (fun hb9 => ?_) (fun hb9 => ?_)
  · refine A_iconst (pc := 16) (0) dX11_isMissing_16 (by decide) ?_
    exact A_zretE (pc := 17) dX11_isMissing_17 rfl (by first | exact A_zn0 | exact A_zn1 | exact A_znif _) (Nat.zero_le _) (Nat.zero_le _) ((if_neg hb9).symm) (rfl)
  · refine A_iconst (pc := 12) (1) dX11_isMissing_12 (by decide) ?_
    refine A_goto (pc := 13) 17 dX11_isMissing_13 (by decide) ?_
    exact A_zretE (pc := 17) dX11_isMissing_17 rfl (by first | exact A_zn0 | exact A_zn1 | exact A_znif _) (Nat.zero_le _) (Nat.zero_le _) ((if_pos hb9).symm) (rfl)
