theorem nI_cl {x : Int32} (h : 0 ≤ x) : x = nI x.toNatClampNeg := by
  obtain ⟨j, hj, rfl⟩ := nI_of (Int32.not_lt.mpr h)
  rw [nI_clamp hj]
theorem nI_cl_lt {x : Int32} {n : Nat} (h : 0 ≤ x) (hx : x < nI n) (hn : n < 2 ^ 31) : x.toNatClampNeg < n := by
  obtain ⟨j, hj, rfl⟩ := nI_of (Int32.not_lt.mpr h)
  rw [nI_clamp hj]
  exact (nI_ltn hj hn).mp hx
theorem nI_cl_le {x : Int32} {n : Nat} (h : 0 ≤ x) (hx : x ≤ nI n) (hn : n < 2 ^ 31) : x.toNatClampNeg ≤ n := by
  obtain ⟨j, hj, rfl⟩ := nI_of (Int32.not_lt.mpr h)
  rw [nI_clamp hj]
  rcases Nat.lt_or_ge n j with q | q
  · exact absurd hx (nI_ge q hj)
  · exact q
theorem sr_b_1 (c : Prop) [Decidable c] : ¬ sr_b c = 0 ↔ c := by by_cases h : c <;> simp [sr_b, h]
theorem r_fnd1 (l : Launch) {kd : am_kd} {rv : am_rv} {iv : am_iv} (hR : shr kd rv) : am_Met l mX12_finds (am_rm 0 0 0) [am_P (30, 0, 0), am_I 1] kd rv iv (am_ret (some (am_I (-1000000001))) kd rv (rx_find 1 iv)) := by
  have h := r_finds l (iv := iv) hR 1 (by decide)
  rw [show (-1000000000 : Int32) - nI 1 = -1000000001 by decide] at h
  exact h
theorem r_fnd2 (l : Launch) {kd : am_kd} {rv : am_rv} {iv : am_iv} (hR : shr kd rv) : am_Met l mX12_finds (am_rm 0 0 0) [am_P (30, 0, 0), am_I 2] kd rv iv (am_ret (some (am_I (-1000000002))) kd rv (rx_find 2 iv)) := by
  have h := r_finds l (iv := iv) hR 2 (by decide)
  rw [show (-1000000000 : Int32) - nI 2 = -1000000002 by decide] at h
  exact h
theorem r_fnd3 (l : Launch) {kd : am_kd} {rv : am_rv} {iv : am_iv} (hR : shr kd rv) : am_Met l mX12_finds (am_rm 0 0 0) [am_P (30, 0, 0), am_I 3] kd rv iv (am_ret (some (am_I (-1000000003))) kd rv (rx_find 3 iv)) := by
  have h := r_finds l (iv := iv) hR 3 (by decide)
  rw [show (-1000000000 : Int32) - nI 3 = -1000000003 by decide] at h
  exact h
theorem r_fnd4 (l : Launch) {kd : am_kd} {rv : am_rv} {iv : am_iv} (hR : shr kd rv) : am_Met l mX12_finds (am_rm 0 0 0) [am_P (30, 0, 0), am_I 4] kd rv iv (am_ret (some (am_I (-1000000004))) kd rv (rx_find 4 iv)) := by
  have h := r_finds l (iv := iv) hR 4 (by decide)
  rw [show (-1000000000 : Int32) - nI 4 = -1000000004 by decide] at h
  exact h
theorem r_fnd5 (l : Launch) {kd : am_kd} {rv : am_rv} {iv : am_iv} (hR : shr kd rv) : am_Met l mX12_finds (am_rm 0 0 0) [am_P (30, 0, 0), am_I 5] kd rv iv (am_ret (some (am_I (-1000000005))) kd rv (rx_find 5 iv)) := by
  have h := r_finds l (iv := iv) hR 5 (by decide)
  rw [show (-1000000000 : Int32) - nI 5 = -1000000005 by decide] at h
  exact h
noncomputable def c_wall (x : Int32) (iv : am_iv) : Int32 × am_iv := if sr_b (-99999 ≤ x ∧ x ≤ 99999) = 0 then (-1000000001, er_heap 1 iv) else (iv (2, 0, 0) 6, am_ui iv (2, 0, 0) 6 x)
set_option maxRecDepth 20000 in
theorem p_wall (l : Launch) {kd : am_kd} {rv : am_rv} {iv : am_iv} (hS : sh kd rv) (x : Int32) : am_Met l mX11_wall (am_rm 2 0 0) [am_P (1, 0, 0), am_I x] kd rv iv (am_ret (some (am_I (c_wall x iv).1)) kd rv (c_wall x iv).2) := by
  refine am_Met.of (by decide) (Nat.le_of_ble_eq_true rfl) rfl ?_
  refine A_iload_n (pc := 0) (i := 1) dX11_wall_0 rfl rfl ?_
  refine A_ldc (pc := 1) (List.mem_cons_of_mem _ kc_X11_54) dX11_wall_1 ?_
  refine A_ldc (pc := 3) (List.mem_cons_of_mem _ kc_X11_55) dX11_wall_3 ?_
  refine A_callS1 (pc := 5) cs_X11_56 (s_isHeld l _ _ _) rfl rfl (Nat.le_of_ble_eq_true rfl) ⟨(Nat.le_of_ble_eq_true rfl), (Nat.le_of_ble_eq_true rfl)⟩ ⟨Nat.zero_le _, Nat.zero_le _⟩ dX11_wall_5 ?_
  refine A_ifne (pc := 8) 18 dX11_wall_8 (by decide) (fun hb8 => ?_) (fun hb8 => ?_)
  · refine A_aload_n (pc := 18) (i := 0) dX11_wall_18 rfl rfl ?_
    refine A_getr (pc := 19) 0 fl_X11_12_11 hS.k1 rfl (hS.w1 (k := 0) (by decide)) dX11_wall_19 ?_
    refine A_geti (pc := 22) 6 fl_X11_95_4 (hS.k2 (by decide)) rfl dX11_wall_22 ?_
    refine A_ist2 (pc := 25) dX11_wall_25 (Nat.le_of_ble_eq_true rfl) rfl ?_
    refine A_aload_n (pc := 26) (i := 0) dX11_wall_26 rfl rfl ?_
    refine A_getr (pc := 27) 0 fl_X11_12_11 hS.k1 rfl (hS.w1 (k := 0) (by decide)) dX11_wall_27 ?_
    refine A_iload_n (pc := 30) (i := 1) dX11_wall_30 rfl rfl ?_
    refine A_puti (pc := 31) 6 fl_X11_95_4 (hS.k2 (by decide)) rfl (by decide +kernel) rfl rfl dX11_wall_31 ?_
    refine A_iload_n (pc := 34) (i := 2) dX11_wall_34 rfl rfl ?_
    exact A_iretE (pc := 35) dX11_wall_35 rfl (Nat.zero_le _) (Nat.zero_le _) (by rw [c_wall, if_neg hb8]) (by rw [c_wall, if_neg hb8])
  · refine A_aload_n (pc := 11) (i := 0) dX11_wall_11 rfl rfl ?_
    refine A_ldc (pc := 12) (List.mem_cons_of_mem _ kc_X11_60) dX11_wall_12 ?_
    refine A_callV1 (pc := 14) cv_X11_61 (s_err1 l hS) hS.k1 rfl rfl rfl rfl (Nat.le_of_ble_eq_true rfl) ⟨(Nat.le_of_ble_eq_true rfl), (Nat.le_of_ble_eq_true rfl)⟩ ⟨Nat.zero_le _, Nat.zero_le _⟩ dX11_wall_14 ?_
    exact A_iretE (pc := 17) dX11_wall_17 rfl (Nat.zero_le _) (Nat.zero_le _) (by rw [c_wall, if_pos hb8]) (by rw [c_wall, if_pos hb8])
noncomputable def d_wall (x : Int32) (iv : am_iv) : Int32 × am_iv := if sr_b (-99999 ≤ x ∧ x ≤ 99999) = 0 then (-1000000001, rx_find 1 iv) else (iv (31, 0, 0) 4, am_ui iv (31, 0, 0) 4 x)
set_option maxRecDepth 20000 in
theorem q_wall (l : Launch) {kd : am_kd} {rv : am_rv} {iv : am_iv} (hR : shr kd rv) (x : Int32) : am_Met l mX12_wall (am_rm 2 0 0) [am_P (30, 0, 0), am_I x] kd rv iv (am_ret (some (am_I (d_wall x iv).1)) kd rv (d_wall x iv).2) := by
  refine am_Met.of (by decide) (Nat.le_of_ble_eq_true rfl) rfl ?_
  refine A_iload_n (pc := 0) (i := 1) dX12_wall_0 rfl rfl ?_
  refine A_i2l (pc := 1) dX12_wall_1 ?_
  refine A_ldc2 (pc := 2) (List.mem_cons_of_mem _ kc_X12_53) dX12_wall_2 ?_
  refine A_topJ (y := Int32.toInt64 (-99999)) (by decide +kernel) ?_
  refine A_ldc2 (pc := 5) (List.mem_cons_of_mem _ kc_X12_55) dX12_wall_5 ?_
  refine A_topJ (y := Int32.toInt64 (99999)) (by decide +kernel) ?_
  refine A_callS1 (pc := 8) cs_X12_48 (r_in l _ _ _) rfl rfl (Nat.le_of_ble_eq_true rfl) ⟨(Nat.le_of_ble_eq_true rfl), (Nat.le_of_ble_eq_true rfl)⟩ ⟨Nat.zero_le _, Nat.zero_le _⟩ dX12_wall_8 ?_
  refine A_ifne (pc := 11) 20 dX12_wall_11 (by decide) (fun hb11 => ?_) (fun hb11 => ?_)
  · refine A_aload_n (pc := 20) (i := 0) dX12_wall_20 rfl rfl ?_
    refine A_getr (pc := 21) 0 fl_X12_7_12 hR.1 rfl hR.w0 dX12_wall_21 ?_
    refine A_iconst (pc := 24) (4) dX12_wall_24 (by decide) ?_
    refine A_ialdN (pc := 25) hR.k0 (show 4 < 300 by decide) (by decide) dX12_wall_25 ?_
    refine A_ist2 (pc := 26) dX12_wall_26 (Nat.le_of_ble_eq_true rfl) rfl ?_
    refine A_aload_n (pc := 27) (i := 0) dX12_wall_27 rfl rfl ?_
    refine A_getr (pc := 28) 0 fl_X12_7_12 hR.1 rfl hR.w0 dX12_wall_28 ?_
    refine A_iconst (pc := 31) (4) dX12_wall_31 (by decide) ?_
    refine A_iload_n (pc := 32) (i := 1) dX12_wall_32 rfl rfl ?_
    refine A_iastN (pc := 33) hR.k0 (show 4 < 300 by decide) (by decide) dX12_wall_33 ?_
    refine A_iload_n (pc := 34) (i := 2) dX12_wall_34 rfl rfl ?_
    exact A_iretE (pc := 35) dX12_wall_35 rfl (Nat.zero_le _) (Nat.zero_le _) (by rw [d_wall, if_neg hb11]) (by rw [d_wall, if_neg hb11])
  · refine A_aload_n (pc := 14) (i := 0) dX12_wall_14 rfl rfl ?_
    refine A_iconst (pc := 15) (1) dX12_wall_15 (by decide) ?_
    refine A_callV1 (pc := 16) cv_X12_65 (r_fnd1 l hR) hR.1 rfl rfl rfl rfl (Nat.le_of_ble_eq_true rfl) ⟨(Nat.le_of_ble_eq_true rfl), (Nat.le_of_ble_eq_true rfl)⟩ ⟨Nat.zero_le _, Nat.zero_le _⟩ dX12_wall_16 ?_
    exact A_iretE (pc := 19) dX12_wall_19 rfl (Nat.zero_le _) (Nat.zero_le _) (by rw [d_wall, if_pos hb11]) (by rw [d_wall, if_pos hb11])
noncomputable def c_hole (x : Int32) (iv : am_iv) : Int32 × am_iv := if sr_b (1 ≤ x ∧ x ≤ 50) = 0 then (-1000000001, er_heap 1 iv) else (iv (2, 0, 0) 7, am_ui iv (2, 0, 0) 7 x)
set_option maxRecDepth 20000 in
theorem p_hole (l : Launch) {kd : am_kd} {rv : am_rv} {iv : am_iv} (hS : sh kd rv) (x : Int32) : am_Met l mX11_hole (am_rm 2 0 0) [am_P (1, 0, 0), am_I x] kd rv iv (am_ret (some (am_I (c_hole x iv).1)) kd rv (c_hole x iv).2) := by
  refine am_Met.of (by decide) (Nat.le_of_ble_eq_true rfl) rfl ?_
  refine A_iload_n (pc := 0) (i := 1) dX11_hole_0 rfl rfl ?_
  refine A_iconst (pc := 1) (1) dX11_hole_1 (by decide) ?_
  refine A_bipush (pc := 2) (50) dX11_hole_2 (by decide) ?_
  refine A_callS1 (pc := 4) cs_X11_56 (s_isHeld l _ _ _) rfl rfl (Nat.le_of_ble_eq_true rfl) ⟨(Nat.le_of_ble_eq_true rfl), (Nat.le_of_ble_eq_true rfl)⟩ ⟨Nat.zero_le _, Nat.zero_le _⟩ dX11_hole_4 ?_
  refine A_ifne (pc := 7) 17 dX11_hole_7 (by decide) (fun hb7 => ?_) (fun hb7 => ?_)
  · refine A_aload_n (pc := 17) (i := 0) dX11_hole_17 rfl rfl ?_
    refine A_getr (pc := 18) 0 fl_X11_12_11 hS.k1 rfl (hS.w1 (k := 0) (by decide)) dX11_hole_18 ?_
    refine A_geti (pc := 21) 7 fl_X11_161_4 (hS.k2 (by decide)) rfl dX11_hole_21 ?_
    refine A_ist2 (pc := 24) dX11_hole_24 (Nat.le_of_ble_eq_true rfl) rfl ?_
    refine A_aload_n (pc := 25) (i := 0) dX11_hole_25 rfl rfl ?_
    refine A_getr (pc := 26) 0 fl_X11_12_11 hS.k1 rfl (hS.w1 (k := 0) (by decide)) dX11_hole_26 ?_
    refine A_iload_n (pc := 29) (i := 1) dX11_hole_29 rfl rfl ?_
    refine A_puti (pc := 30) 7 fl_X11_161_4 (hS.k2 (by decide)) rfl (by decide +kernel) rfl rfl dX11_hole_30 ?_
    refine A_iload_n (pc := 33) (i := 2) dX11_hole_33 rfl rfl ?_
    exact A_iretE (pc := 34) dX11_hole_34 rfl (Nat.zero_le _) (Nat.zero_le _) (by rw [c_hole, if_neg hb7]) (by rw [c_hole, if_neg hb7])
  · refine A_aload_n (pc := 10) (i := 0) dX11_hole_10 rfl rfl ?_
    refine A_ldc (pc := 11) (List.mem_cons_of_mem _ kc_X11_60) dX11_hole_11 ?_
    refine A_callV1 (pc := 13) cv_X11_61 (s_err1 l hS) hS.k1 rfl rfl rfl rfl (Nat.le_of_ble_eq_true rfl) ⟨(Nat.le_of_ble_eq_true rfl), (Nat.le_of_ble_eq_true rfl)⟩ ⟨Nat.zero_le _, Nat.zero_le _⟩ dX11_hole_13 ?_
    exact A_iretE (pc := 16) dX11_hole_16 rfl (Nat.zero_le _) (Nat.zero_le _) (by rw [c_hole, if_pos hb7]) (by rw [c_hole, if_pos hb7])
noncomputable def d_hole (x : Int32) (iv : am_iv) : Int32 × am_iv := if sr_b (1 ≤ x ∧ x ≤ 50) = 0 then (-1000000001, rx_find 1 iv) else (iv (31, 0, 0) 5, am_ui iv (31, 0, 0) 5 x)
set_option maxRecDepth 20000 in
theorem q_hole (l : Launch) {kd : am_kd} {rv : am_rv} {iv : am_iv} (hR : shr kd rv) (x : Int32) : am_Met l mX12_hole (am_rm 2 0 0) [am_P (30, 0, 0), am_I x] kd rv iv (am_ret (some (am_I (d_hole x iv).1)) kd rv (d_hole x iv).2) := by
  refine am_Met.of (by decide) (Nat.le_of_ble_eq_true rfl) rfl ?_
  refine A_iload_n (pc := 0) (i := 1) dX12_hole_0 rfl rfl ?_
  refine A_i2l (pc := 1) dX12_hole_1 ?_
  refine A_lconst (pc := 2) (1) dX12_hole_2 (by decide) ?_
  refine A_topJ (y := Int32.toInt64 (1)) (by decide +kernel) ?_
  refine A_ldc2 (pc := 3) (List.mem_cons_of_mem _ kc_X12_63) dX12_hole_3 ?_
  refine A_topJ (y := Int32.toInt64 (50)) (by decide +kernel) ?_
  refine A_callS1 (pc := 6) cs_X12_48 (r_in l _ _ _) rfl rfl (Nat.le_of_ble_eq_true rfl) ⟨(Nat.le_of_ble_eq_true rfl), (Nat.le_of_ble_eq_true rfl)⟩ ⟨Nat.zero_le _, Nat.zero_le _⟩ dX12_hole_6 ?_
  refine A_ifne (pc := 9) 18 dX12_hole_9 (by decide) (fun hb9 => ?_) (fun hb9 => ?_)
  · refine A_aload_n (pc := 18) (i := 0) dX12_hole_18 rfl rfl ?_
    refine A_getr (pc := 19) 0 fl_X12_7_12 hR.1 rfl hR.w0 dX12_hole_19 ?_
    refine A_iconst (pc := 22) (5) dX12_hole_22 (by decide) ?_
    refine A_ialdN (pc := 23) hR.k0 (show 5 < 300 by decide) (by decide) dX12_hole_23 ?_
    refine A_ist2 (pc := 24) dX12_hole_24 (Nat.le_of_ble_eq_true rfl) rfl ?_
    refine A_aload_n (pc := 25) (i := 0) dX12_hole_25 rfl rfl ?_
    refine A_getr (pc := 26) 0 fl_X12_7_12 hR.1 rfl hR.w0 dX12_hole_26 ?_
    refine A_iconst (pc := 29) (5) dX12_hole_29 (by decide) ?_
    refine A_iload_n (pc := 30) (i := 1) dX12_hole_30 rfl rfl ?_
    refine A_iastN (pc := 31) hR.k0 (show 5 < 300 by decide) (by decide) dX12_hole_31 ?_
    refine A_iload_n (pc := 32) (i := 2) dX12_hole_32 rfl rfl ?_
    exact A_iretE (pc := 33) dX12_hole_33 rfl (Nat.zero_le _) (Nat.zero_le _) (by rw [d_hole, if_neg hb9]) (by rw [d_hole, if_neg hb9])
  · refine A_aload_n (pc := 12) (i := 0) dX12_hole_12 rfl rfl ?_
    refine A_iconst (pc := 13) (1) dX12_hole_13 (by decide) ?_
    refine A_callV1 (pc := 14) cv_X12_65 (r_fnd1 l hR) hR.1 rfl rfl rfl rfl (Nat.le_of_ble_eq_true rfl) ⟨(Nat.le_of_ble_eq_true rfl), (Nat.le_of_ble_eq_true rfl)⟩ ⟨Nat.zero_le _, Nat.zero_le _⟩ dX12_hole_14 ?_
    exact A_iretE (pc := 17) dX12_hole_17 rfl (Nat.zero_le _) (Nat.zero_le _) (by rw [d_hole, if_pos hb9]) (by rw [d_hole, if_pos hb9])
noncomputable def c_seed (x : Int32) (iv : am_iv) : Int32 × am_iv := (iv (2, 0, 0) 9, am_ui iv (2, 0, 0) 9 x)
set_option maxRecDepth 20000 in
theorem p_seed (l : Launch) {kd : am_kd} {rv : am_rv} {iv : am_iv} (hS : sh kd rv) (x : Int32) : am_Met l mX11_seed (am_rm 0 0 0) [am_P (1, 0, 0), am_I x] kd rv iv (am_ret (some (am_I (c_seed x iv).1)) kd rv (c_seed x iv).2) := by
  refine am_Met.of (by decide) (Nat.le_of_ble_eq_true rfl) rfl ?_
  refine A_aload_n (pc := 0) (i := 0) dX11_seed_0 rfl rfl ?_
  refine A_getr (pc := 1) 0 fl_X11_12_11 hS.k1 rfl (hS.w1 (k := 0) (by decide)) dX11_seed_1 ?_
  refine A_geti (pc := 4) 9 fl_X11_263_4 (hS.k2 (by decide)) rfl dX11_seed_4 ?_
  refine A_ist2 (pc := 7) dX11_seed_7 (Nat.le_of_ble_eq_true rfl) rfl ?_
  refine A_aload_n (pc := 8) (i := 0) dX11_seed_8 rfl rfl ?_
  refine A_getr (pc := 9) 0 fl_X11_12_11 hS.k1 rfl (hS.w1 (k := 0) (by decide)) dX11_seed_9 ?_
  refine A_iload_n (pc := 12) (i := 1) dX11_seed_12 rfl rfl ?_
  refine A_puti (pc := 13) 9 fl_X11_263_4 (hS.k2 (by decide)) rfl (by decide +kernel) rfl rfl dX11_seed_13 ?_
  refine A_iload_n (pc := 16) (i := 2) dX11_seed_16 rfl rfl ?_
  exact A_iretE (pc := 17) dX11_seed_17 rfl (Nat.zero_le _) (Nat.zero_le _) (by rw [c_seed]) (by rw [c_seed])
noncomputable def d_seed (x : Int32) (iv : am_iv) : Int32 × am_iv := (iv (31, 0, 0) 6, am_ui iv (31, 0, 0) 6 x)
set_option maxRecDepth 20000 in
theorem q_seed (l : Launch) {kd : am_kd} {rv : am_rv} {iv : am_iv} (hR : shr kd rv) (x : Int32) : am_Met l mX12_seed (am_rm 0 0 0) [am_P (30, 0, 0), am_I x] kd rv iv (am_ret (some (am_I (d_seed x iv).1)) kd rv (d_seed x iv).2) := by
  refine am_Met.of (by decide) (Nat.le_of_ble_eq_true rfl) rfl ?_
  refine A_aload_n (pc := 0) (i := 0) dX12_seed_0 rfl rfl ?_
  refine A_getr (pc := 1) 0 fl_X12_7_12 hR.1 rfl hR.w0 dX12_seed_1 ?_
  refine A_bipush (pc := 4) (6) dX12_seed_4 (by decide) ?_
  refine A_ialdN (pc := 6) hR.k0 (show 6 < 300 by decide) (by decide) dX12_seed_6 ?_
  refine A_ist2 (pc := 7) dX12_seed_7 (Nat.le_of_ble_eq_true rfl) rfl ?_
  refine A_aload_n (pc := 8) (i := 0) dX12_seed_8 rfl rfl ?_
  refine A_getr (pc := 9) 0 fl_X12_7_12 hR.1 rfl hR.w0 dX12_seed_9 ?_
  refine A_bipush (pc := 12) (6) dX12_seed_12 (by decide) ?_
  refine A_iload_n (pc := 14) (i := 1) dX12_seed_14 rfl rfl ?_
  refine A_iastN (pc := 15) hR.k0 (show 6 < 300 by decide) (by decide) dX12_seed_15 ?_
  refine A_iload_n (pc := 16) (i := 2) dX12_seed_16 rfl rfl ?_
  exact A_iretE (pc := 17) dX12_seed_17 rfl (Nat.zero_le _) (Nat.zero_le _) (by rw [d_seed]) (by rw [d_seed])
noncomputable def c_trails (x : Int32) (iv : am_iv) : Int32 × am_iv := if sr_b (1 ≤ x ∧ x ≤ 400) = 0 then (-1000000001, er_heap 1 iv) else ((if 0 < x - 4 * iv (2, 0, 0) 7 then x - 4 * iv (2, 0, 0) 7 else 0), iv)
set_option maxRecDepth 20000 in
theorem p_trails (l : Launch) {kd : am_kd} {rv : am_rv} {iv : am_iv} (hS : sh kd rv) (x : Int32) : am_Met l mX11_trails (am_rm 2 0 0) [am_P (1, 0, 0), am_I x] kd rv iv (am_ret (some (am_I (c_trails x iv).1)) kd rv (c_trails x iv).2) := by
  refine am_Met.of (by decide) (Nat.le_of_ble_eq_true rfl) rfl ?_
  refine A_iload_n (pc := 0) (i := 1) dX11_trails_0 rfl rfl ?_
  refine A_iconst (pc := 1) (1) dX11_trails_1 (by decide) ?_
  refine A_sipush (pc := 2) (400) dX11_trails_2 (by decide) ?_
  refine A_callS1 (pc := 5) cs_X11_56 (s_isHeld l _ _ _) rfl rfl (Nat.le_of_ble_eq_true rfl) ⟨(Nat.le_of_ble_eq_true rfl), (Nat.le_of_ble_eq_true rfl)⟩ ⟨Nat.zero_le _, Nat.zero_le _⟩ dX11_trails_5 ?_
  refine A_ifeq (pc := 8) 22 dX11_trails_8 (by decide) (fun hb8 => ?_) (fun hb8 => ?_)
  · refine A_aload_n (pc := 22) (i := 0) dX11_trails_22 rfl rfl ?_
    refine A_ldc (pc := 23) (List.mem_cons_of_mem _ kc_X11_60) dX11_trails_23 ?_
    refine A_callV1 (pc := 25) cv_X11_61 (s_err1 l hS) hS.k1 rfl rfl rfl rfl (Nat.le_of_ble_eq_true rfl) ⟨(Nat.le_of_ble_eq_true rfl), (Nat.le_of_ble_eq_true rfl)⟩ ⟨Nat.zero_le _, Nat.zero_le _⟩ dX11_trails_25 ?_
    exact A_iretE (pc := 28) dX11_trails_28 rfl (Nat.zero_le _) (Nat.zero_le _) (by rw [c_trails, if_pos hb8]) (by rw [c_trails, if_pos hb8])
  · refine A_aload_n (pc := 11) (i := 0) dX11_trails_11 rfl rfl ?_
    refine A_getr (pc := 12) 0 fl_X11_12_11 hS.k1 rfl (hS.w1 (k := 0) (by decide)) dX11_trails_12 ?_
    refine A_iload_n (pc := 15) (i := 1) dX11_trails_15 rfl rfl ?_
    refine A_callV1 (pc := 16) cv_X11_168 (s_trailing l hS _ (by decide) _) (hS.k2 (by decide)) rfl rfl rfl rfl (Nat.le_of_ble_eq_true rfl) ⟨(Nat.le_of_ble_eq_true rfl), (Nat.le_of_ble_eq_true rfl)⟩ ⟨Nat.zero_le _, Nat.zero_le _⟩ dX11_trails_16 ?_
    refine A_goto (pc := 19) 28 dX11_trails_19 (by decide) ?_
    exact A_iretE (pc := 28) dX11_trails_28 rfl (Nat.zero_le _) (Nat.zero_le _) (by rw [c_trails, if_neg hb8]) (by rw [c_trails, if_neg hb8])
noncomputable def d_trails (x : Int32) (iv : am_iv) : Int32 × am_iv := if sr_b (1 ≤ x ∧ x ≤ 400) = 0 then (-1000000001, rx_find 1 iv) else ((if x ≤ 4 * iv (31, 0, 0) 5 then 0 else x - 4 * iv (31, 0, 0) 5), iv)
set_option maxRecDepth 20000 in
theorem q_trails (l : Launch) {kd : am_kd} {rv : am_rv} {iv : am_iv} (hR : shr kd rv) (x : Int32) : am_Met l mX12_trails (am_rm 2 0 0) [am_P (30, 0, 0), am_I x] kd rv iv (am_ret (some (am_I (d_trails x iv).1)) kd rv (d_trails x iv).2) := by
  refine am_Met.of (by decide) (Nat.le_of_ble_eq_true rfl) rfl ?_
  refine A_iload_n (pc := 0) (i := 1) dX12_trails_0 rfl rfl ?_
  refine A_i2l (pc := 1) dX12_trails_1 ?_
  refine A_lconst (pc := 2) (1) dX12_trails_2 (by decide) ?_
  refine A_topJ (y := Int32.toInt64 (1)) (by decide +kernel) ?_
  refine A_ldc2 (pc := 3) (List.mem_cons_of_mem _ kc_X12_201) dX12_trails_3 ?_
  refine A_topJ (y := Int32.toInt64 (400)) (by decide +kernel) ?_
  refine A_callS1 (pc := 6) cs_X12_48 (r_in l _ _ _) rfl rfl (Nat.le_of_ble_eq_true rfl) ⟨(Nat.le_of_ble_eq_true rfl), (Nat.le_of_ble_eq_true rfl)⟩ ⟨Nat.zero_le _, Nat.zero_le _⟩ dX12_trails_6 ?_
  refine A_ifeq (pc := 9) 20 dX12_trails_9 (by decide) (fun hb9 => ?_) (fun hb9 => ?_)
  · refine A_aload_n (pc := 20) (i := 0) dX12_trails_20 rfl rfl ?_
    refine A_iconst (pc := 21) (1) dX12_trails_21 (by decide) ?_
    refine A_callV1 (pc := 22) cv_X12_65 (r_fnd1 l hR) hR.1 rfl rfl rfl rfl (Nat.le_of_ble_eq_true rfl) ⟨(Nat.le_of_ble_eq_true rfl), (Nat.le_of_ble_eq_true rfl)⟩ ⟨Nat.zero_le _, Nat.zero_le _⟩ dX12_trails_22 ?_
    exact A_iretE (pc := 25) dX12_trails_25 rfl (Nat.zero_le _) (Nat.zero_le _) (by rw [d_trails, if_pos hb9]) (by rw [d_trails, if_pos hb9])
  · refine A_aload_n (pc := 12) (i := 0) dX12_trails_12 rfl rfl ?_
    refine A_iload_n (pc := 13) (i := 1) dX12_trails_13 rfl rfl ?_
    refine A_callV1 (pc := 14) cv_X12_206 (r_trailsOf l hR _) hR.1 rfl rfl rfl rfl (Nat.le_of_ble_eq_true rfl) ⟨(Nat.le_of_ble_eq_true rfl), (Nat.le_of_ble_eq_true rfl)⟩ ⟨Nat.zero_le _, Nat.zero_le _⟩ dX12_trails_14 ?_
    refine A_goto (pc := 17) 25 dX12_trails_17 (by decide) ?_
    exact A_iretE (pc := 25) dX12_trails_25 rfl (Nat.zero_le _) (Nat.zero_le _) (by rw [d_trails, if_neg hb9]) (by rw [d_trails, if_neg hb9])
noncomputable def c_told (x : Int32) (iv : am_iv) : Int32 × am_iv := if sr_b (1 ≤ x ∧ x ≤ 5) = 0 then (-1000000001, er_heap 1 iv) else (iv (21, 0, 0) x.toNatClampNeg, iv)
set_option maxRecDepth 20000 in
theorem p_told (l : Launch) {kd : am_kd} {rv : am_rv} {iv : am_iv} (hS : sh kd rv) (x : Int32) : am_Met l mX11_told (am_rm 2 0 0) [am_P (1, 0, 0), am_I x] kd rv iv (am_ret (some (am_I (c_told x iv).1)) kd rv (c_told x iv).2) := by
  refine am_Met.of (by decide) (Nat.le_of_ble_eq_true rfl) rfl ?_
  refine A_iload_n (pc := 0) (i := 1) dX11_told_0 rfl rfl ?_
  refine A_iconst (pc := 1) (1) dX11_told_1 (by decide) ?_
  refine A_iconst (pc := 2) (5) dX11_told_2 (by decide) ?_
  refine A_callS1 (pc := 3) cs_X11_56 (s_isHeld l _ _ _) rfl rfl (Nat.le_of_ble_eq_true rfl) ⟨(Nat.le_of_ble_eq_true rfl), (Nat.le_of_ble_eq_true rfl)⟩ ⟨Nat.zero_le _, Nat.zero_le _⟩ dX11_told_3 ?_
  refine A_ifeq (pc := 6) 18 dX11_told_6 (by decide) (fun hb6 => ?_) (fun hb6 => ?_)
  · refine A_aload_n (pc := 18) (i := 0) dX11_told_18 rfl rfl ?_
    refine A_ldc (pc := 19) (List.mem_cons_of_mem _ kc_X11_60) dX11_told_19 ?_
    refine A_callV1 (pc := 21) cv_X11_61 (s_err1 l hS) hS.k1 rfl rfl rfl rfl (Nat.le_of_ble_eq_true rfl) ⟨(Nat.le_of_ble_eq_true rfl), (Nat.le_of_ble_eq_true rfl)⟩ ⟨Nat.zero_le _, Nat.zero_le _⟩ dX11_told_21 ?_
    exact A_iretE (pc := 24) dX11_told_24 rfl (Nat.zero_le _) (Nat.zero_le _) (by rw [c_told, if_pos hb6]) (by rw [c_told, if_pos hb6])
  · have hx := (sr_b_1 _).mp hb6
    have hx6 : x.toNatClampNeg < 6 := Nat.lt_of_le_of_lt (nI_cl_le (n := 5) (Int32.le_trans (by decide) hx.1) hx.2 (by decide)) (by decide)
    refine A_aload_n (pc := 9) (i := 0) dX11_told_9 rfl rfl ?_
    refine A_getr (pc := 10) 8 fl_X11_49_11 hS.k1 rfl hS.w1_8 dX11_told_10 ?_
    refine A_iload_n (pc := 13) (i := 1) dX11_told_13 rfl rfl ?_
    refine A_top (nI_cl (Int32.le_trans (by decide) hx.1)) ?_
    refine A_ialdN (pc := 14) hS.k21 hx6 (by decide) dX11_told_14 ?_
    refine A_goto (pc := 15) 24 dX11_told_15 (by decide) ?_
    exact A_iretE (pc := 24) dX11_told_24 rfl (Nat.zero_le _) (Nat.zero_le _) (by rw [c_told, if_neg hb6]) (by rw [c_told, if_neg hb6])
noncomputable def d_told (x : Int32) (iv : am_iv) : Int32 × am_iv := if sr_b (1 ≤ x ∧ x ≤ 5) = 0 then (-1000000001, rx_find 1 iv) else (iv (31, 6, 0) x.toNatClampNeg, iv)
set_option maxRecDepth 20000 in
theorem q_told (l : Launch) {kd : am_kd} {rv : am_rv} {iv : am_iv} (hR : shr kd rv) (x : Int32) : am_Met l mX12_told (am_rm 2 0 0) [am_P (30, 0, 0), am_I x] kd rv iv (am_ret (some (am_I (d_told x iv).1)) kd rv (d_told x iv).2) := by
  refine am_Met.of (by decide) (Nat.le_of_ble_eq_true rfl) rfl ?_
  refine A_iload_n (pc := 0) (i := 1) dX12_told_0 rfl rfl ?_
  refine A_i2l (pc := 1) dX12_told_1 ?_
  refine A_lconst (pc := 2) (1) dX12_told_2 (by decide) ?_
  refine A_topJ (y := Int32.toInt64 (1)) (by decide +kernel) ?_
  refine A_ldc2 (pc := 3) (List.mem_cons_of_mem _ kc_X12_311) dX12_told_3 ?_
  refine A_topJ (y := Int32.toInt64 (5)) (by decide +kernel) ?_
  refine A_callS1 (pc := 6) cs_X12_48 (r_in l _ _ _) rfl rfl (Nat.le_of_ble_eq_true rfl) ⟨(Nat.le_of_ble_eq_true rfl), (Nat.le_of_ble_eq_true rfl)⟩ ⟨Nat.zero_le _, Nat.zero_le _⟩ dX12_told_6 ?_
  refine A_ifeq (pc := 9) 21 dX12_told_9 (by decide) (fun hb9 => ?_) (fun hb9 => ?_)
  · refine A_aload_n (pc := 21) (i := 0) dX12_told_21 rfl rfl ?_
    refine A_iconst (pc := 22) (1) dX12_told_22 (by decide) ?_
    refine A_callV1 (pc := 23) cv_X12_65 (r_fnd1 l hR) hR.1 rfl rfl rfl rfl (Nat.le_of_ble_eq_true rfl) ⟨(Nat.le_of_ble_eq_true rfl), (Nat.le_of_ble_eq_true rfl)⟩ ⟨Nat.zero_le _, Nat.zero_le _⟩ dX12_told_23 ?_
    exact A_iretE (pc := 26) dX12_told_26 rfl (Nat.zero_le _) (Nat.zero_le _) (by rw [d_told, if_pos hb9]) (by rw [d_told, if_pos hb9])
  · have hx := (sr_b_1 _).mp hb9
    have hx6 : x.toNatClampNeg < 6 := Nat.lt_of_le_of_lt (nI_cl_le (n := 5) (Int32.le_trans (by decide) hx.1) hx.2 (by decide)) (by decide)
    refine A_aload_n (pc := 12) (i := 0) dX12_told_12 rfl rfl ?_
    refine A_getr (pc := 13) 6 fl_X12_25_12 hR.1 rfl hR.w6 dX12_told_13 ?_
    refine A_iload_n (pc := 16) (i := 1) dX12_told_16 rfl rfl ?_
    refine A_top (nI_cl (Int32.le_trans (by decide) hx.1)) ?_
    refine A_ialdN (pc := 17) hR.k6 hx6 (by decide) dX12_told_17 ?_
    refine A_goto (pc := 18) 26 dX12_told_18 (by decide) ?_
    exact A_iretE (pc := 26) dX12_told_26 rfl (Nat.zero_le _) (Nat.zero_le _) (by rw [d_told, if_neg hb9]) (by rw [d_told, if_neg hb9])
noncomputable def c_end (x : Int32) (iv : am_iv) : Int32 × am_iv := if sr_b (0 ≤ x ∧ x < iv (2, 0, 0) 1) = 0 then (-1000000001, er_heap 1 iv) else ((if iv (4, 0, x.toNatClampNeg) 7 = 0 then 0 else 1), am_ui iv (4, 0, x.toNatClampNeg) 7 0)
set_option maxRecDepth 20000 in
theorem p_end (l : Launch) {kd : am_kd} {rv : am_rv} {iv : am_iv} (hS : sh kd rv) (x : Int32) (n : Nat) (hn : iv (2, 0, 0) 1 = nI n) (hn8 : n ≤ 8) : am_Met l mX11_end (am_rm 2 0 0) [am_P (1, 0, 0), am_I x] kd rv iv (am_ret (some (am_I (c_end x iv).1)) kd rv (c_end x iv).2) := by
  refine am_Met.of (by decide) (Nat.le_of_ble_eq_true rfl) rfl ?_
  refine A_aload_n (pc := 0) (i := 0) dX11_end_0 rfl rfl ?_
  refine A_getr (pc := 1) 0 fl_X11_12_11 hS.k1 rfl (hS.w1 (k := 0) (by decide)) dX11_end_1 ?_
  refine A_iload_n (pc := 4) (i := 1) dX11_end_4 rfl rfl ?_
  refine A_callV1 (pc := 5) cv_X11_74 (s_hasRing l hS _ (by decide) _) (hS.k2 (by decide)) rfl rfl rfl rfl (Nat.le_of_ble_eq_true rfl) ⟨(Nat.le_of_ble_eq_true rfl), (Nat.le_of_ble_eq_true rfl)⟩ ⟨Nat.zero_le _, Nat.zero_le _⟩ dX11_end_5 ?_
  refine A_ifne (pc := 8) 18 dX11_end_8 (by decide) (fun hb8 => ?_) (fun hb8 => ?_)
  · have hx := (sr_b_1 _).mp hb8
    have hx8 : x.toNatClampNeg < 8 := Nat.lt_of_lt_of_le (nI_cl_lt hx.1 (hn ▸ hx.2) (by omega)) hn8
    refine A_aload_n (pc := 18) (i := 0) dX11_end_18 rfl rfl ?_
    refine A_getr (pc := 19) 0 fl_X11_12_11 hS.k1 rfl (hS.w1 (k := 0) (by decide)) dX11_end_19 ?_
    refine A_getr (pc := 22) 0 fl_X11_78_4 (hS.k2 (by decide)) rfl (hS.w2_0 (by decide)) dX11_end_22 ?_
    refine A_iload_n (pc := 25) (i := 1) dX11_end_25 rfl rfl ?_
    refine A_top (nI_cl hx.1) ?_
    refine A_aaldN (pc := 26) (hS.k3 (by decide)) (by decide) (by decide) hx8 (by decide) (hS.w3 (by decide) hx8) dX11_end_26 ?_
    refine A_geti (pc := 27) 7 fl_X11_87_3 (hS.k4 (by decide) hx8) rfl dX11_end_27 ?_
    refine A_callS1 (pc := 30) cs_X11_91 (s_asBit l _) rfl rfl (Nat.le_of_ble_eq_true rfl) ⟨(Nat.le_of_ble_eq_true rfl), (Nat.le_of_ble_eq_true rfl)⟩ ⟨Nat.zero_le _, Nat.zero_le _⟩ dX11_end_30 ?_
    refine A_ist2 (pc := 33) dX11_end_33 (Nat.le_of_ble_eq_true rfl) rfl ?_
    refine A_aload_n (pc := 34) (i := 0) dX11_end_34 rfl rfl ?_
    refine A_getr (pc := 35) 0 fl_X11_12_11 hS.k1 rfl (hS.w1 (k := 0) (by decide)) dX11_end_35 ?_
    refine A_getr (pc := 38) 0 fl_X11_78_4 (hS.k2 (by decide)) rfl (hS.w2_0 (by decide)) dX11_end_38 ?_
    refine A_iload_n (pc := 41) (i := 1) dX11_end_41 rfl rfl ?_
    refine A_top (nI_cl hx.1) ?_
    refine A_aaldN (pc := 42) (hS.k3 (by decide)) (by decide) (by decide) hx8 (by decide) (hS.w3 (by decide) hx8) dX11_end_42 ?_
    refine A_iconst (pc := 43) (0) dX11_end_43 (by decide) ?_
    refine A_puti (pc := 44) 7 fl_X11_87_3 (hS.k4 (by decide) hx8) rfl (by decide +kernel) A_zn0 rfl dX11_end_44 ?_
    refine A_iload_n (pc := 47) (i := 2) dX11_end_47 rfl rfl ?_
    exact A_iretE (pc := 48) dX11_end_48 rfl (Nat.zero_le _) (Nat.zero_le _) (by rw [c_end, if_neg hb8]) (by rw [c_end, if_neg hb8])
  · refine A_aload_n (pc := 11) (i := 0) dX11_end_11 rfl rfl ?_
    refine A_ldc (pc := 12) (List.mem_cons_of_mem _ kc_X11_60) dX11_end_12 ?_
    refine A_callV1 (pc := 14) cv_X11_61 (s_err1 l hS) hS.k1 rfl rfl rfl rfl (Nat.le_of_ble_eq_true rfl) ⟨(Nat.le_of_ble_eq_true rfl), (Nat.le_of_ble_eq_true rfl)⟩ ⟨Nat.zero_le _, Nat.zero_le _⟩ dX11_end_14 ?_
    exact A_iretE (pc := 17) dX11_end_17 rfl (Nat.zero_le _) (Nat.zero_le _) (by rw [c_end, if_pos hb8]) (by rw [c_end, if_pos hb8])
theorem nI_m1n {n : Nat} {x : Int32} (hn8 : n ≤ 8) (h0 : 0 ≤ x) (h : x ≤ nI n - 1) : x.toNatClampNeg < n := by
  rcases Nat.eq_zero_or_pos n with e | e
  · subst e
    exact absurd (Int32.le_trans h0 h) (by decide)
  · rw [nI_m1 e] at h
    have := nI_cl_le h0 h (by omega)
    omega
theorem has_is {n : Nat} (hn8 : n ≤ 8) (x : Int32) : (0 ≤ x ∧ x < nI n) ↔ (0 ≤ x ∧ x ≤ nI n - 1) := by
  constructor
  · intro ⟨h0, h⟩
    have h1 := nI_cl_lt h0 h (by omega)
    refine ⟨h0, ?_⟩
    rw [nI_cl h0, nI_m1 (by omega)]
    exact nI_le (by omega) (by omega)
  · intro ⟨h0, h⟩
    have h1 := nI_m1n hn8 h0 h
    refine ⟨h0, ?_⟩
    rw [nI_cl h0]
    exact nI_lt h1 (by omega)
theorem rx_atx (x : Int32) (h : 0 ≤ x) (w : Nat) : (80 : Int32) + 8 * x + nI w = nI (79 + 8 * x.toNatClampNeg + (w + 1)) := by
  have e := nI_cl h
  generalize x.toNatClampNeg = j at e
  subst e
  exact rx_ring j w
noncomputable def d_end (x : Int32) (iv : am_iv) : Int32 × am_iv := if sr_b (0 ≤ x ∧ x ≤ iv (31, 0, 0) 1 - 1) = 0 then (-1000000001, rx_find 1 iv) else (rf iv (31, 0, 0) x.toNatClampNeg 7, am_ui iv (31, 0, 0) (79 + 8 * x.toNatClampNeg + 7) 0)
set_option maxRecDepth 20000 in
theorem q_end (l : Launch) {kd : am_kd} {rv : am_rv} {iv : am_iv} (hR : shr kd rv) (x : Int32) (n : Nat) (hn : iv (31, 0, 0) 1 = nI n) (hn8 : n ≤ 8) : am_Met l mX12_end (am_rm 2 0 0) [am_P (30, 0, 0), am_I x] kd rv iv (am_ret (some (am_I (d_end x iv).1)) kd rv (d_end x iv).2) := by
  refine am_Met.of (by decide) (Nat.le_of_ble_eq_true rfl) rfl ?_
  refine A_aload_n (pc := 0) (i := 0) dX12_end_0 rfl rfl ?_
  refine A_iload_n (pc := 1) (i := 1) dX12_end_1 rfl rfl ?_
  refine A_callV1 (pc := 2) cv_X12_77 (r_isRing l hR _) hR.1 rfl rfl rfl rfl (Nat.le_of_ble_eq_true rfl) ⟨(Nat.le_of_ble_eq_true rfl), (Nat.le_of_ble_eq_true rfl)⟩ ⟨Nat.zero_le _, Nat.zero_le _⟩ dX12_end_2 ?_
  refine A_ifne (pc := 5) 14 dX12_end_5 (by decide) (fun hb5 => ?_) (fun hb5 => ?_)
  · have hx := (sr_b_1 _).mp hb5
    have hx8 : x.toNatClampNeg < n := nI_m1n hn8 hx.1 (hn ▸ hx.2)
    refine A_aload_n (pc := 14) (i := 0) dX12_end_14 rfl rfl ?_
    refine A_getr (pc := 15) 0 fl_X12_7_12 hR.1 rfl hR.w0 dX12_end_15 ?_
    refine A_iload_n (pc := 18) (i := 1) dX12_end_18 rfl rfl ?_
    refine A_top (nI_cl hx.1) ?_
    refine A_bipush (pc := 19) (6) dX12_end_19 (by decide) ?_
    refine A_callS1 (pc := 21) cs_X12_73 (r_of l (31, 0, 0) hR.k0 x.toNatClampNeg (by omega) 6 7 rfl (by decide)) rfl rfl (Nat.le_of_ble_eq_true rfl) ⟨(Nat.le_of_ble_eq_true rfl), (Nat.le_of_ble_eq_true rfl)⟩ ⟨Nat.zero_le _, Nat.zero_le _⟩ dX12_end_21 ?_
    refine A_ist2 (pc := 24) dX12_end_24 (Nat.le_of_ble_eq_true rfl) rfl ?_
    refine A_aload_n (pc := 25) (i := 0) dX12_end_25 rfl rfl ?_
    refine A_getr (pc := 26) 0 fl_X12_7_12 hR.1 rfl hR.w0 dX12_end_26 ?_
    refine A_bipush (pc := 29) (80) dX12_end_29 (by decide) ?_
    refine A_bipush (pc := 31) (8) dX12_end_31 (by decide) ?_
    refine A_iload_n (pc := 33) (i := 1) dX12_end_33 rfl rfl ?_
    refine A_imul (pc := 34) dX12_end_34 ?_
    refine A_iadd (pc := 35) dX12_end_35 ?_
    refine A_bipush (pc := 36) (6) dX12_end_36 (by decide) ?_
    refine A_iadd (pc := 38) dX12_end_38 ?_
    refine A_top (rx_atx x hx.1 6) ?_
    refine A_iconst (pc := 39) (0) dX12_end_39 (by decide) ?_
    refine A_iastN (pc := 40) hR.k0 (show 79 + 8 * x.toNatClampNeg + 7 < 300 by omega) (by decide) dX12_end_40 ?_
    refine A_iload_n (pc := 41) (i := 2) dX12_end_41 rfl rfl ?_
    exact A_iretE (pc := 42) dX12_end_42 rfl (Nat.zero_le _) (Nat.zero_le _) (by rw [d_end, if_neg hb5]) (by rw [d_end, if_neg hb5])
  · refine A_aload_n (pc := 8) (i := 0) dX12_end_8 rfl rfl ?_
    refine A_iconst (pc := 9) (1) dX12_end_9 (by decide) ?_
    refine A_callV1 (pc := 10) cv_X12_65 (r_fnd1 l hR) hR.1 rfl rfl rfl rfl (Nat.le_of_ble_eq_true rfl) ⟨(Nat.le_of_ble_eq_true rfl), (Nat.le_of_ble_eq_true rfl)⟩ ⟨Nat.zero_le _, Nat.zero_le _⟩ dX12_end_10 ?_
    exact A_iretE (pc := 13) dX12_end_13 rfl (Nat.zero_le _) (Nat.zero_le _) (by rw [d_end, if_pos hb5]) (by rw [d_end, if_pos hb5])
noncomputable def c_turn (x y : Int32) (nl : Nat) (iv : am_iv) : Int32 × am_iv := if sr_b (0 ≤ x ∧ x < nI nl) = 0 then (-1000000001, er_heap 1 iv) else if sr_b (0 ≤ y ∧ y ≤ 1) = 0 then (-1000000001, er_heap 1 iv) else ((if rg_bit (rm_on (iv (2, 0, 0) 5) x) = 0 then 0 else 1), am_ui iv (2, 0, 0) 5 (iv (2, 0, 0) 5 &&& (1 <<< (x &&& 31) ^^^ -1) ||| y <<< (x &&& 31)))
set_option maxRecDepth 20000 in
theorem p_turn (l : Launch) {kd : am_kd} {rv : am_rv} {iv : am_iv} (hS : sh kd rv) (x y : Int32) (nl : Nat) (ln : Nat → am_N) (lk : Nat → Nat) (hl : rm_laws kd rv iv 0 nl ln lk) : am_Met l mX11_turn (am_rm 2 0 0) [am_P (1, 0, 0), am_I x, am_I y] kd rv iv (am_ret (some (am_I (c_turn x y nl iv).1)) kd rv (c_turn x y nl iv).2) := by
  refine am_Met.of (by decide) (Nat.le_of_ble_eq_true rfl) rfl ?_
  refine A_aload_n (pc := 0) (i := 0) dX11_turn_0 rfl rfl ?_
  refine A_getr (pc := 1) 0 fl_X11_12_11 hS.k1 rfl (hS.w1 (k := 0) (by decide)) dX11_turn_1 ?_
  refine A_iload_n (pc := 4) (i := 1) dX11_turn_4 rfl rfl ?_
  refine A_callV1 (pc := 5) cv_X11_109 (s_hasLaw l hS 0 (by decide) nl ln lk hl _) (hS.k2 (by decide)) rfl rfl rfl rfl (Nat.le_of_ble_eq_true rfl) ⟨(Nat.le_of_ble_eq_true rfl), (Nat.le_of_ble_eq_true rfl)⟩ ⟨Nat.zero_le _, Nat.zero_le _⟩ dX11_turn_5 ?_
  refine A_ifeq (pc := 8) 20 dX11_turn_8 (by decide) (fun hb8 => ?_) (fun hb8 => ?_)
  · refine A_aload_n (pc := 20) (i := 0) dX11_turn_20 rfl rfl ?_
    refine A_ldc (pc := 21) (List.mem_cons_of_mem _ kc_X11_60) dX11_turn_21 ?_
    refine A_callV1 (pc := 23) cv_X11_61 (s_err1 l hS) hS.k1 rfl rfl rfl rfl (Nat.le_of_ble_eq_true rfl) ⟨(Nat.le_of_ble_eq_true rfl), (Nat.le_of_ble_eq_true rfl)⟩ ⟨Nat.zero_le _, Nat.zero_le _⟩ dX11_turn_23 ?_
    exact A_iretE (pc := 26) dX11_turn_26 rfl (Nat.zero_le _) (Nat.zero_le _) (by rw [c_turn, if_pos hb8]) (by rw [c_turn, if_pos hb8])
  · refine A_iload_n (pc := 11) (i := 2) dX11_turn_11 rfl rfl ?_
    refine A_iconst (pc := 12) (0) dX11_turn_12 (by decide) ?_
    refine A_iconst (pc := 13) (1) dX11_turn_13 (by decide) ?_
    refine A_callS1 (pc := 14) cs_X11_56 (s_isHeld l _ _ _) rfl rfl (Nat.le_of_ble_eq_true rfl) ⟨(Nat.le_of_ble_eq_true rfl), (Nat.le_of_ble_eq_true rfl)⟩ ⟨Nat.zero_le _, Nat.zero_le _⟩ dX11_turn_14 ?_
    refine A_ifne (pc := 17) 27 dX11_turn_17 (by decide) (fun hb17 => ?_) (fun hb17 => ?_)
    · refine A_aload_n (pc := 27) (i := 0) dX11_turn_27 rfl rfl ?_
      refine A_getr (pc := 28) 0 fl_X11_12_11 hS.k1 rfl (hS.w1 (k := 0) (by decide)) dX11_turn_28 ?_
      refine A_iload_n (pc := 31) (i := 1) dX11_turn_31 rfl rfl ?_
      refine A_callV1 (pc := 32) cv_X11_124 (s_isOn l hS _ (by decide) _) (hS.k2 (by decide)) rfl rfl rfl rfl (Nat.le_of_ble_eq_true rfl) ⟨(Nat.le_of_ble_eq_true rfl), (Nat.le_of_ble_eq_true rfl)⟩ ⟨Nat.zero_le _, Nat.zero_le _⟩ dX11_turn_32 ?_
      refine A_callS1 (pc := 35) cs_X11_91 (s_asBit l _) rfl rfl (Nat.le_of_ble_eq_true rfl) ⟨(Nat.le_of_ble_eq_true rfl), (Nat.le_of_ble_eq_true rfl)⟩ ⟨Nat.zero_le _, Nat.zero_le _⟩ dX11_turn_35 ?_
      refine A_ist3 (pc := 38) dX11_turn_38 (Nat.le_of_ble_eq_true rfl) rfl ?_
      refine A_aload_n (pc := 39) (i := 0) dX11_turn_39 rfl rfl ?_
      refine A_getr (pc := 40) 0 fl_X11_12_11 hS.k1 rfl (hS.w1 (k := 0) (by decide)) dX11_turn_40 ?_
      refine A_aload_n (pc := 43) (i := 0) dX11_turn_43 rfl rfl ?_
      refine A_getr (pc := 44) 0 fl_X11_12_11 hS.k1 rfl (hS.w1 (k := 0) (by decide)) dX11_turn_44 ?_
      refine A_geti (pc := 47) 5 fl_X11_132_4 (hS.k2 (by decide)) rfl dX11_turn_47 ?_
      refine A_iconst (pc := 50) (1) dX11_turn_50 (by decide) ?_
      refine A_iload_n (pc := 51) (i := 1) dX11_turn_51 rfl rfl ?_
      refine A_ishl (pc := 52) dX11_turn_52 ?_
      refine A_iconst (pc := 53) (-1) dX11_turn_53 (by decide) ?_
      refine A_ixor (pc := 54) dX11_turn_54 ?_
      refine A_iand (pc := 55) dX11_turn_55 ?_
      refine A_iload_n (pc := 56) (i := 2) dX11_turn_56 rfl rfl ?_
      refine A_iload_n (pc := 57) (i := 1) dX11_turn_57 rfl rfl ?_
      refine A_ishl (pc := 58) dX11_turn_58 ?_
      refine A_ior (pc := 59) dX11_turn_59 ?_
      refine A_puti (pc := 60) 5 fl_X11_132_4 (hS.k2 (by decide)) rfl (by decide +kernel) rfl rfl dX11_turn_60 ?_
      refine A_iload_n (pc := 63) (i := 3) dX11_turn_63 rfl rfl ?_
      exact A_iretE (pc := 64) dX11_turn_64 rfl (Nat.zero_le _) (Nat.zero_le _) (by rw [c_turn, if_neg hb8, if_neg hb17]) (by rw [c_turn, if_neg hb8, if_neg hb17])
    · refine A_aload_n (pc := 20) (i := 0) dX11_turn_20 rfl rfl ?_
      refine A_ldc (pc := 21) (List.mem_cons_of_mem _ kc_X11_60) dX11_turn_21 ?_
      refine A_callV1 (pc := 23) cv_X11_61 (s_err1 l hS) hS.k1 rfl rfl rfl rfl (Nat.le_of_ble_eq_true rfl) ⟨(Nat.le_of_ble_eq_true rfl), (Nat.le_of_ble_eq_true rfl)⟩ ⟨Nat.zero_le _, Nat.zero_le _⟩ dX11_turn_23 ?_
      exact A_iretE (pc := 26) dX11_turn_26 rfl (Nat.zero_le _) (Nat.zero_le _) (by rw [c_turn, if_neg hb8, if_pos hb17]) (by rw [c_turn, if_neg hb8, if_pos hb17])
noncomputable def d_turn (x y : Int32) (iv : am_iv) : Int32 × am_iv := if sr_b (0 ≤ x ∧ x ≤ iv (31, 0, 0) 2 - 1) = 0 then (-1000000001, rx_find 1 iv) else if sr_b (0 ≤ y ∧ y ≤ 1) = 0 then (-1000000001, rx_find 1 iv) else (iv (31, 0, 0) 3 >>> (x &&& 31) &&& 1, am_ui iv (31, 0, 0) 3 (iv (31, 0, 0) 3 &&& (1 <<< (x &&& 31) ^^^ -1) ||| y <<< (x &&& 31)))
set_option maxRecDepth 20000 in
theorem q_turn (l : Launch) {kd : am_kd} {rv : am_rv} {iv : am_iv} (hR : shr kd rv) (x y : Int32) : am_Met l mX12_turn (am_rm 2 0 0) [am_P (30, 0, 0), am_I x, am_I y] kd rv iv (am_ret (some (am_I (d_turn x y iv).1)) kd rv (d_turn x y iv).2) := by
  refine am_Met.of (by decide) (Nat.le_of_ble_eq_true rfl) rfl ?_
  refine A_aload_n (pc := 0) (i := 0) dX12_turn_0 rfl rfl ?_
  refine A_iload_n (pc := 1) (i := 1) dX12_turn_1 rfl rfl ?_
  refine A_callV1 (pc := 2) cv_X12_91 (r_isLaw l hR _) hR.1 rfl rfl rfl rfl (Nat.le_of_ble_eq_true rfl) ⟨(Nat.le_of_ble_eq_true rfl), (Nat.le_of_ble_eq_true rfl)⟩ ⟨Nat.zero_le _, Nat.zero_le _⟩ dX12_turn_2 ?_
  refine A_ifeq (pc := 5) 18 dX12_turn_5 (by decide) (fun hb5 => ?_) (fun hb5 => ?_)
  · refine A_aload_n (pc := 18) (i := 0) dX12_turn_18 rfl rfl ?_
    refine A_iconst (pc := 19) (1) dX12_turn_19 (by decide) ?_
    refine A_callV1 (pc := 20) cv_X12_65 (r_fnd1 l hR) hR.1 rfl rfl rfl rfl (Nat.le_of_ble_eq_true rfl) ⟨(Nat.le_of_ble_eq_true rfl), (Nat.le_of_ble_eq_true rfl)⟩ ⟨Nat.zero_le _, Nat.zero_le _⟩ dX12_turn_20 ?_
    exact A_iretE (pc := 23) dX12_turn_23 rfl (Nat.zero_le _) (Nat.zero_le _) (by rw [d_turn, if_pos hb5]) (by rw [d_turn, if_pos hb5])
  · refine A_iload_n (pc := 8) (i := 2) dX12_turn_8 rfl rfl ?_
    refine A_i2l (pc := 9) dX12_turn_9 ?_
    refine A_lconst (pc := 10) (0) dX12_turn_10 (by decide) ?_
    refine A_topJ (y := Int32.toInt64 (0)) (by decide +kernel) ?_
    refine A_lconst (pc := 11) (1) dX12_turn_11 (by decide) ?_
    refine A_topJ (y := Int32.toInt64 (1)) (by decide +kernel) ?_
    refine A_callS1 (pc := 12) cs_X12_48 (r_in l _ _ _) rfl rfl (Nat.le_of_ble_eq_true rfl) ⟨(Nat.le_of_ble_eq_true rfl), (Nat.le_of_ble_eq_true rfl)⟩ ⟨Nat.zero_le _, Nat.zero_le _⟩ dX12_turn_12 ?_
    refine A_ifne (pc := 15) 24 dX12_turn_15 (by decide) (fun hb15 => ?_) (fun hb15 => ?_)
    · refine A_aload_n (pc := 24) (i := 0) dX12_turn_24 rfl rfl ?_
      refine A_getr (pc := 25) 0 fl_X12_7_12 hR.1 rfl hR.w0 dX12_turn_25 ?_
      refine A_iconst (pc := 28) (3) dX12_turn_28 (by decide) ?_
      refine A_ialdN (pc := 29) hR.k0 (show 3 < 300 by decide) (by decide) dX12_turn_29 ?_
      refine A_iload_n (pc := 30) (i := 1) dX12_turn_30 rfl rfl ?_
      refine A_ishr (pc := 31) dX12_turn_31 ?_
      refine A_iconst (pc := 32) (1) dX12_turn_32 (by decide) ?_
      refine A_iand (pc := 33) dX12_turn_33 ?_
      refine A_ist3 (pc := 34) dX12_turn_34 (Nat.le_of_ble_eq_true rfl) rfl ?_
      refine A_aload_n (pc := 35) (i := 0) dX12_turn_35 rfl rfl ?_
      refine A_getr (pc := 36) 0 fl_X12_7_12 hR.1 rfl hR.w0 dX12_turn_36 ?_
      refine A_iconst (pc := 39) (3) dX12_turn_39 (by decide) ?_
      refine A_aload_n (pc := 40) (i := 0) dX12_turn_40 rfl rfl ?_
      refine A_getr (pc := 41) 0 fl_X12_7_12 hR.1 rfl hR.w0 dX12_turn_41 ?_
      refine A_iconst (pc := 44) (3) dX12_turn_44 (by decide) ?_
      refine A_ialdN (pc := 45) hR.k0 (show 3 < 300 by decide) (by decide) dX12_turn_45 ?_
      refine A_iconst (pc := 46) (1) dX12_turn_46 (by decide) ?_
      refine A_iload_n (pc := 47) (i := 1) dX12_turn_47 rfl rfl ?_
      refine A_ishl (pc := 48) dX12_turn_48 ?_
      refine A_iconst (pc := 49) (-1) dX12_turn_49 (by decide) ?_
      refine A_ixor (pc := 50) dX12_turn_50 ?_
      refine A_iand (pc := 51) dX12_turn_51 ?_
      refine A_iload_n (pc := 52) (i := 2) dX12_turn_52 rfl rfl ?_
      refine A_iload_n (pc := 53) (i := 1) dX12_turn_53 rfl rfl ?_
      refine A_ishl (pc := 54) dX12_turn_54 ?_
      refine A_ior (pc := 55) dX12_turn_55 ?_
      refine A_iastN (pc := 56) hR.k0 (show 3 < 300 by decide) (by decide) dX12_turn_56 ?_
      refine A_iload_n (pc := 57) (i := 3) dX12_turn_57 rfl rfl ?_
      exact A_iretE (pc := 58) dX12_turn_58 rfl (Nat.zero_le _) (Nat.zero_le _) (by rw [d_turn, if_neg hb5, if_neg hb15]) (by rw [d_turn, if_neg hb5, if_neg hb15])
    · refine A_aload_n (pc := 18) (i := 0) dX12_turn_18 rfl rfl ?_
      refine A_iconst (pc := 19) (1) dX12_turn_19 (by decide) ?_
      refine A_callV1 (pc := 20) cv_X12_65 (r_fnd1 l hR) hR.1 rfl rfl rfl rfl (Nat.le_of_ble_eq_true rfl) ⟨(Nat.le_of_ble_eq_true rfl), (Nat.le_of_ble_eq_true rfl)⟩ ⟨Nat.zero_le _, Nat.zero_le _⟩ dX12_turn_20 ?_
      exact A_iretE (pc := 23) dX12_turn_23 rfl (Nat.zero_le _) (Nat.zero_le _) (by rw [d_turn, if_neg hb5, if_pos hb15]) (by rw [d_turn, if_neg hb5, if_pos hb15])
