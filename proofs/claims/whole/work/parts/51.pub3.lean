noncomputable def c_pair (x y z : Int32) (iv : am_iv) : Int32 × am_iv := if sr_b (0 ≤ x ∧ x < iv (2, 0, 0) 1) = 0 then (-1000000001, er_heap 1 iv) else if sr_b (0 ≤ y ∧ y < iv (2, 0, 0) 1) = 0 then (-1000000001, er_heap 1 iv) else if x = y then (-1000000001, er_heap 1 iv) else if sr_b (0 ≤ z ∧ z ≤ 2) = 0 then (-1000000001, er_heap 1 iv) else if z = 0 then (rg_gap (iv (4, 0, x.toNatClampNeg)) (iv (4, 0, y.toNatClampNeg)), iv) else if z = 1 then ((if rg_bit (rg_near (iv (4, 0, x.toNatClampNeg)) (iv (4, 0, y.toNatClampNeg))) = 0 then 0 else 1), iv) else ((if rg_bit (rg_behind (iv (4, 0, x.toNatClampNeg)) (iv (4, 0, y.toNatClampNeg))) = 0 then 0 else 1), iv)
set_option maxRecDepth 20000 in
theorem p_pair (l : Launch) {kd : am_kd} {rv : am_rv} {iv : am_iv} (hS : sh kd rv) (x y z : Int32) (n : Nat) (hn : iv (2, 0, 0) 1 = nI n) (hn8 : n ≤ 8) : am_Met l mX11_pair (am_rm 3 0 0) [am_P (1, 0, 0), am_I x, am_I y, am_I z] kd rv iv (am_ret (some (am_I (c_pair x y z iv).1)) kd rv (c_pair x y z iv).2) := by
  refine am_Met.of (by decide) (Nat.le_of_ble_eq_true rfl) rfl ?_
  refine A_aload_n (pc := 0) (i := 0) dX11_pair_0 rfl rfl ?_
  refine A_getr (pc := 1) 0 fl_X11_12_11 hS.k1 rfl (hS.w1 (k := 0) (by decide)) dX11_pair_1 ?_
  refine A_iload_n (pc := 4) (i := 1) dX11_pair_4 rfl rfl ?_
  refine A_callV1 (pc := 5) cv_X11_74 (s_hasRing l hS _ (by decide) _) (hS.k2 (by decide)) rfl rfl rfl rfl (Nat.le_of_ble_eq_true rfl) ⟨(Nat.le_of_ble_eq_true rfl), (Nat.le_of_ble_eq_true rfl)⟩ ⟨Nat.zero_le _, Nat.zero_le _⟩ dX11_pair_5 ?_
  refine A_ifeq (pc := 8) 36 dX11_pair_8 (by decide) (fun hb8 => ?_) (fun hb8 => ?_)
  · refine A_aload_n (pc := 36) (i := 0) dX11_pair_36 rfl rfl ?_
    refine A_ldc (pc := 37) (List.mem_cons_of_mem _ kc_X11_60) dX11_pair_37 ?_
    refine A_callV1 (pc := 39) cv_X11_61 (s_err1 l hS) hS.k1 rfl rfl rfl rfl (Nat.le_of_ble_eq_true rfl) ⟨(Nat.le_of_ble_eq_true rfl), (Nat.le_of_ble_eq_true rfl)⟩ ⟨Nat.zero_le _, Nat.zero_le _⟩ dX11_pair_39 ?_
    exact A_iretE (pc := 42) dX11_pair_42 rfl (Nat.zero_le _) (Nat.zero_le _) (by rw [c_pair, if_pos hb8]) (by rw [c_pair, if_pos hb8])
  · refine A_aload_n (pc := 11) (i := 0) dX11_pair_11 rfl rfl ?_
    refine A_getr (pc := 12) 0 fl_X11_12_11 hS.k1 rfl (hS.w1 (k := 0) (by decide)) dX11_pair_12 ?_
    refine A_iload_n (pc := 15) (i := 2) dX11_pair_15 rfl rfl ?_
    refine A_callV1 (pc := 16) cv_X11_74 (s_hasRing l hS _ (by decide) _) (hS.k2 (by decide)) rfl rfl rfl rfl (Nat.le_of_ble_eq_true rfl) ⟨(Nat.le_of_ble_eq_true rfl), (Nat.le_of_ble_eq_true rfl)⟩ ⟨Nat.zero_le _, Nat.zero_le _⟩ dX11_pair_16 ?_
    refine A_ifeq (pc := 19) 36 dX11_pair_19 (by decide) (fun hb19 => ?_) (fun hb19 => ?_)
    · refine A_aload_n (pc := 36) (i := 0) dX11_pair_36 rfl rfl ?_
      refine A_ldc (pc := 37) (List.mem_cons_of_mem _ kc_X11_60) dX11_pair_37 ?_
      refine A_callV1 (pc := 39) cv_X11_61 (s_err1 l hS) hS.k1 rfl rfl rfl rfl (Nat.le_of_ble_eq_true rfl) ⟨(Nat.le_of_ble_eq_true rfl), (Nat.le_of_ble_eq_true rfl)⟩ ⟨Nat.zero_le _, Nat.zero_le _⟩ dX11_pair_39 ?_
      exact A_iretE (pc := 42) dX11_pair_42 rfl (Nat.zero_le _) (Nat.zero_le _) (by rw [c_pair, if_neg hb8, if_pos hb19]) (by rw [c_pair, if_neg hb8, if_pos hb19])
    · refine A_iload_n (pc := 22) (i := 1) dX11_pair_22 rfl rfl ?_
      refine A_iload_n (pc := 23) (i := 2) dX11_pair_23 rfl rfl ?_
      refine A_icmpeq (pc := 24) 36 dX11_pair_24 (by decide) (fun hb24 => ?_) (fun hb24 => ?_)
      · refine A_aload_n (pc := 36) (i := 0) dX11_pair_36 rfl rfl ?_
        refine A_ldc (pc := 37) (List.mem_cons_of_mem _ kc_X11_60) dX11_pair_37 ?_
        refine A_callV1 (pc := 39) cv_X11_61 (s_err1 l hS) hS.k1 rfl rfl rfl rfl (Nat.le_of_ble_eq_true rfl) ⟨(Nat.le_of_ble_eq_true rfl), (Nat.le_of_ble_eq_true rfl)⟩ ⟨Nat.zero_le _, Nat.zero_le _⟩ dX11_pair_39 ?_
        exact A_iretE (pc := 42) dX11_pair_42 rfl (Nat.zero_le _) (Nat.zero_le _) (by rw [c_pair, if_neg hb8, if_neg hb19, if_pos hb24]) (by rw [c_pair, if_neg hb8, if_neg hb19, if_pos hb24])
      · refine A_iload_n (pc := 27) (i := 3) dX11_pair_27 rfl rfl ?_
        refine A_iconst (pc := 28) (0) dX11_pair_28 (by decide) ?_
        refine A_iconst (pc := 29) (2) dX11_pair_29 (by decide) ?_
        refine A_callS1 (pc := 30) cs_X11_56 (s_isHeld l _ _ _) rfl rfl (Nat.le_of_ble_eq_true rfl) ⟨(Nat.le_of_ble_eq_true rfl), (Nat.le_of_ble_eq_true rfl)⟩ ⟨Nat.zero_le _, Nat.zero_le _⟩ dX11_pair_30 ?_
        refine A_ifne (pc := 33) 43 dX11_pair_33 (by decide) (fun hb33 => ?_) (fun hb33 => ?_)
        · have hx := (sr_b_1 _).mp hb8
          have hxn : x.toNatClampNeg < n := nI_cl_lt hx.1 (hn ▸ hx.2) (by omega)
          have hx8 : x.toNatClampNeg < 8 := by omega
          have hy := (sr_b_1 _).mp hb19
          have hyn : y.toNatClampNeg < n := nI_cl_lt hy.1 (hn ▸ hy.2) (by omega)
          have hy8 : y.toNatClampNeg < 8 := by omega
          refine A_aload_n (pc := 43) (i := 0) dX11_pair_43 rfl rfl ?_
          refine A_getr (pc := 44) 0 fl_X11_12_11 hS.k1 rfl (hS.w1 (k := 0) (by decide)) dX11_pair_44 ?_
          refine A_getr (pc := 47) 0 fl_X11_78_4 (hS.k2 (by decide)) rfl (hS.w2_0 (by decide)) dX11_pair_47 ?_
          refine A_iload_n (pc := 50) (i := 1) dX11_pair_50 rfl rfl ?_
          refine A_top (nI_cl hx.1) ?_
          refine A_aaldN (pc := 51) (hS.k3 (by decide)) (by decide) (by decide) hx8 (by decide) (hS.w3 (by decide) hx8) dX11_pair_51 ?_
          refine A_ast4 (pc := 52) dX11_pair_52 (Nat.le_of_ble_eq_true rfl) rfl ?_
          refine A_aload_n (pc := 54) (i := 0) dX11_pair_54 rfl rfl ?_
          refine A_getr (pc := 55) 0 fl_X11_12_11 hS.k1 rfl (hS.w1 (k := 0) (by decide)) dX11_pair_55 ?_
          refine A_getr (pc := 58) 0 fl_X11_78_4 (hS.k2 (by decide)) rfl (hS.w2_0 (by decide)) dX11_pair_58 ?_
          refine A_iload_n (pc := 61) (i := 2) dX11_pair_61 rfl rfl ?_
          refine A_top (nI_cl hy.1) ?_
          refine A_aaldN (pc := 62) (hS.k3 (by decide)) (by decide) (by decide) hy8 (by decide) (hS.w3 (by decide) hy8) dX11_pair_62 ?_
          refine A_ast5 (pc := 63) dX11_pair_63 (Nat.le_of_ble_eq_true rfl) rfl ?_
          refine A_iload_n (pc := 65) (i := 3) dX11_pair_65 rfl rfl ?_
          by_cases hs66_0 : z = (0)
          · refine A_lookup (pc := 66) (off := 26) 92 dX11_pair_66 (by decide) (by rw [hs66_0]; decide) (by decide) ?_
            refine A_aload (pc := 92) (i := 4) dX11_pair_92 rfl ?_
            refine A_aload (pc := 94) (i := 5) dX11_pair_94 rfl ?_
            refine A_callV1 (pc := 96) cv_X11_150 (s_gap l _ _ (hS.k4 (by decide) hx8) (hS.k4 (by decide) hy8)) (hS.k4 (by decide) hx8) rfl rfl rfl rfl (Nat.le_of_ble_eq_true rfl) ⟨(Nat.le_of_ble_eq_true rfl), (Nat.le_of_ble_eq_true rfl)⟩ ⟨Nat.zero_le _, Nat.zero_le _⟩ dX11_pair_96 ?_
            exact A_iretE (pc := 99) dX11_pair_99 rfl (Nat.zero_le _) (Nat.zero_le _) (by rw [c_pair, if_neg hb8, if_neg hb19, if_neg hb24, if_neg hb33, if_pos hs66_0]) (by rw [c_pair, if_neg hb8, if_neg hb19, if_neg hb24, if_neg hb33, if_pos hs66_0])
          by_cases hs66_1 : z = (1)
          · refine A_lookup (pc := 66) (off := 34) 100 dX11_pair_66 (by decide) (by rw [hs66_1]; decide) (by decide) ?_
            refine A_aload (pc := 100) (i := 4) dX11_pair_100 rfl ?_
            refine A_aload (pc := 102) (i := 5) dX11_pair_102 rfl ?_
            refine A_callV1 (pc := 104) cv_X11_154 (s_isNear l _ _ (hS.k4 (by decide) hx8) (hS.k4 (by decide) hy8)) (hS.k4 (by decide) hx8) rfl rfl rfl rfl (Nat.le_of_ble_eq_true rfl) ⟨(Nat.le_of_ble_eq_true rfl), (Nat.le_of_ble_eq_true rfl)⟩ ⟨Nat.zero_le _, Nat.zero_le _⟩ dX11_pair_104 ?_
            refine A_callS1 (pc := 107) cs_X11_91 (s_asBit l _) rfl rfl (Nat.le_of_ble_eq_true rfl) ⟨(Nat.le_of_ble_eq_true rfl), (Nat.le_of_ble_eq_true rfl)⟩ ⟨Nat.zero_le _, Nat.zero_le _⟩ dX11_pair_107 ?_
            exact A_iretE (pc := 110) dX11_pair_110 rfl (Nat.zero_le _) (Nat.zero_le _) (by rw [c_pair, if_neg hb8, if_neg hb19, if_neg hb24, if_neg hb33, if_neg hs66_0, if_pos hs66_1]) (by rw [c_pair, if_neg hb8, if_neg hb19, if_neg hb24, if_neg hb33, if_neg hs66_0, if_pos hs66_1])
          refine A_lookup (pc := 66) (off := 45) 111 dX11_pair_66 (by decide) (by show Op.lookupswitch.offset [(0, 26), (1, 34)] (45) _ = _; rw [lv_osw (k := (0)) hs66_0 (by decide), lv_osw (k := (1)) hs66_1 (by decide)]; rfl) (by decide) ?_
          refine A_aload (pc := 111) (i := 4) dX11_pair_111 rfl ?_
          refine A_aload (pc := 113) (i := 5) dX11_pair_113 rfl ?_
          refine A_callV1 (pc := 115) cv_X11_158 (s_isBehind l _ _ (hS.k4 (by decide) hx8) (hS.k4 (by decide) hy8)) (hS.k4 (by decide) hx8) rfl rfl rfl rfl (Nat.le_of_ble_eq_true rfl) ⟨(Nat.le_of_ble_eq_true rfl), (Nat.le_of_ble_eq_true rfl)⟩ ⟨Nat.zero_le _, Nat.zero_le _⟩ dX11_pair_115 ?_
          refine A_callS1 (pc := 118) cs_X11_91 (s_asBit l _) rfl rfl (Nat.le_of_ble_eq_true rfl) ⟨(Nat.le_of_ble_eq_true rfl), (Nat.le_of_ble_eq_true rfl)⟩ ⟨Nat.zero_le _, Nat.zero_le _⟩ dX11_pair_118 ?_
          exact A_iretE (pc := 121) dX11_pair_121 rfl (Nat.zero_le _) (Nat.zero_le _) (by rw [c_pair, if_neg hb8, if_neg hb19, if_neg hb24, if_neg hb33, if_neg hs66_0, if_neg hs66_1]) (by rw [c_pair, if_neg hb8, if_neg hb19, if_neg hb24, if_neg hb33, if_neg hs66_0, if_neg hs66_1])
        · refine A_aload_n (pc := 36) (i := 0) dX11_pair_36 rfl rfl ?_
          refine A_ldc (pc := 37) (List.mem_cons_of_mem _ kc_X11_60) dX11_pair_37 ?_
          refine A_callV1 (pc := 39) cv_X11_61 (s_err1 l hS) hS.k1 rfl rfl rfl rfl (Nat.le_of_ble_eq_true rfl) ⟨(Nat.le_of_ble_eq_true rfl), (Nat.le_of_ble_eq_true rfl)⟩ ⟨Nat.zero_le _, Nat.zero_le _⟩ dX11_pair_39 ?_
          exact A_iretE (pc := 42) dX11_pair_42 rfl (Nat.zero_le _) (Nat.zero_le _) (by rw [c_pair, if_neg hb8, if_neg hb19, if_neg hb24, if_pos hb33]) (by rw [c_pair, if_neg hb8, if_neg hb19, if_neg hb24, if_pos hb33])
noncomputable def d_pair (x y z : Int32) (iv : am_iv) : Int32 × am_iv := if sr_b (0 ≤ x ∧ x ≤ iv (31, 0, 0) 1 - 1) = 0 then (-1000000001, rx_find 1 iv) else if sr_b (0 ≤ y ∧ y ≤ iv (31, 0, 0) 1 - 1) = 0 then (-1000000001, rx_find 1 iv) else if x = y then (-1000000001, rx_find 1 iv) else if sr_b (0 ≤ z ∧ z ≤ 2) = 0 then (-1000000001, rx_find 1 iv) else if z = 0 then (rg_gap (rf iv (31, 0, 0) x.toNatClampNeg) (rf iv (31, 0, 0) y.toNatClampNeg), iv) else if z = 1 then ((if rg_bit (rg_near (rf iv (31, 0, 0) x.toNatClampNeg) (rf iv (31, 0, 0) y.toNatClampNeg)) = 0 then 0 else 1), iv) else ((if rg_bit (rg_behind (rf iv (31, 0, 0) x.toNatClampNeg) (rf iv (31, 0, 0) y.toNatClampNeg)) = 0 then 0 else 1), iv)
set_option maxRecDepth 20000 in
theorem q_pair (l : Launch) {kd : am_kd} {rv : am_rv} {iv : am_iv} (hR : shr kd rv) (x y z : Int32) (n : Nat) (hn : iv (31, 0, 0) 1 = nI n) (hn8 : n ≤ 8) (hok : ∀ r, r < n → rok (rf iv (31, 0, 0) r)) : am_Met l mX12_pair (am_rm 3 0 0) [am_P (30, 0, 0), am_I x, am_I y, am_I z] kd rv iv (am_ret (some (am_I (d_pair x y z iv).1)) kd rv (d_pair x y z iv).2) := by
  refine am_Met.of (by decide) (Nat.le_of_ble_eq_true rfl) rfl ?_
  refine A_aload_n (pc := 0) (i := 0) dX12_pair_0 rfl rfl ?_
  refine A_iload_n (pc := 1) (i := 1) dX12_pair_1 rfl rfl ?_
  refine A_callV1 (pc := 2) cv_X12_77 (r_isRing l hR _) hR.1 rfl rfl rfl rfl (Nat.le_of_ble_eq_true rfl) ⟨(Nat.le_of_ble_eq_true rfl), (Nat.le_of_ble_eq_true rfl)⟩ ⟨Nat.zero_le _, Nat.zero_le _⟩ dX12_pair_2 ?_
  refine A_ifeq (pc := 5) 33 dX12_pair_5 (by decide) (fun hb5 => ?_) (fun hb5 => ?_)
  · refine A_aload_n (pc := 33) (i := 0) dX12_pair_33 rfl rfl ?_
    refine A_iconst (pc := 34) (1) dX12_pair_34 (by decide) ?_
    refine A_callV1 (pc := 35) cv_X12_65 (r_fnd1 l hR) hR.1 rfl rfl rfl rfl (Nat.le_of_ble_eq_true rfl) ⟨(Nat.le_of_ble_eq_true rfl), (Nat.le_of_ble_eq_true rfl)⟩ ⟨Nat.zero_le _, Nat.zero_le _⟩ dX12_pair_35 ?_
    exact A_iretE (pc := 38) dX12_pair_38 rfl (Nat.zero_le _) (Nat.zero_le _) (by rw [d_pair, if_pos hb5]) (by rw [d_pair, if_pos hb5])
  · refine A_aload_n (pc := 8) (i := 0) dX12_pair_8 rfl rfl ?_
    refine A_iload_n (pc := 9) (i := 2) dX12_pair_9 rfl rfl ?_
    refine A_callV1 (pc := 10) cv_X12_77 (r_isRing l hR _) hR.1 rfl rfl rfl rfl (Nat.le_of_ble_eq_true rfl) ⟨(Nat.le_of_ble_eq_true rfl), (Nat.le_of_ble_eq_true rfl)⟩ ⟨Nat.zero_le _, Nat.zero_le _⟩ dX12_pair_10 ?_
    refine A_ifeq (pc := 13) 33 dX12_pair_13 (by decide) (fun hb13 => ?_) (fun hb13 => ?_)
    · refine A_aload_n (pc := 33) (i := 0) dX12_pair_33 rfl rfl ?_
      refine A_iconst (pc := 34) (1) dX12_pair_34 (by decide) ?_
      refine A_callV1 (pc := 35) cv_X12_65 (r_fnd1 l hR) hR.1 rfl rfl rfl rfl (Nat.le_of_ble_eq_true rfl) ⟨(Nat.le_of_ble_eq_true rfl), (Nat.le_of_ble_eq_true rfl)⟩ ⟨Nat.zero_le _, Nat.zero_le _⟩ dX12_pair_35 ?_
      exact A_iretE (pc := 38) dX12_pair_38 rfl (Nat.zero_le _) (Nat.zero_le _) (by rw [d_pair, if_neg hb5, if_pos hb13]) (by rw [d_pair, if_neg hb5, if_pos hb13])
    · refine A_iload_n (pc := 16) (i := 1) dX12_pair_16 rfl rfl ?_
      refine A_iload_n (pc := 17) (i := 2) dX12_pair_17 rfl rfl ?_
      refine A_icmpeq (pc := 18) 33 dX12_pair_18 (by decide) (fun hb18 => ?_) (fun hb18 => ?_)
      · refine A_aload_n (pc := 33) (i := 0) dX12_pair_33 rfl rfl ?_
        refine A_iconst (pc := 34) (1) dX12_pair_34 (by decide) ?_
        refine A_callV1 (pc := 35) cv_X12_65 (r_fnd1 l hR) hR.1 rfl rfl rfl rfl (Nat.le_of_ble_eq_true rfl) ⟨(Nat.le_of_ble_eq_true rfl), (Nat.le_of_ble_eq_true rfl)⟩ ⟨Nat.zero_le _, Nat.zero_le _⟩ dX12_pair_35 ?_
        exact A_iretE (pc := 38) dX12_pair_38 rfl (Nat.zero_le _) (Nat.zero_le _) (by rw [d_pair, if_neg hb5, if_neg hb13, if_pos hb18]) (by rw [d_pair, if_neg hb5, if_neg hb13, if_pos hb18])
      · refine A_iload_n (pc := 21) (i := 3) dX12_pair_21 rfl rfl ?_
        refine A_i2l (pc := 22) dX12_pair_22 ?_
        refine A_lconst (pc := 23) (0) dX12_pair_23 (by decide) ?_
        refine A_topJ (y := Int32.toInt64 (0)) (by decide +kernel) ?_
        refine A_ldc2 (pc := 24) (List.mem_cons_of_mem _ kc_X12_94) dX12_pair_24 ?_
        refine A_topJ (y := Int32.toInt64 (2)) (by decide +kernel) ?_
        refine A_callS1 (pc := 27) cs_X12_48 (r_in l _ _ _) rfl rfl (Nat.le_of_ble_eq_true rfl) ⟨(Nat.le_of_ble_eq_true rfl), (Nat.le_of_ble_eq_true rfl)⟩ ⟨Nat.zero_le _, Nat.zero_le _⟩ dX12_pair_27 ?_
        refine A_ifne (pc := 30) 39 dX12_pair_30 (by decide) (fun hb30 => ?_) (fun hb30 => ?_)
        · have hx := (sr_b_1 _).mp hb5
          have hxn : x.toNatClampNeg < n := nI_m1n hn8 hx.1 (hn ▸ hx.2)
          have hx8 : x.toNatClampNeg < 8 := by omega
          have hy := (sr_b_1 _).mp hb13
          have hyn : y.toNatClampNeg < n := nI_m1n hn8 hy.1 (hn ▸ hy.2)
          have hy8 : y.toNatClampNeg < 8 := by omega
          refine A_iload_n (pc := 39) (i := 3) dX12_pair_39 rfl rfl ?_
          refine A_ifne (pc := 40) 55 dX12_pair_40 (by decide) (fun hb40 => ?_) (fun hb40 => ?_)
          · refine A_iload_n (pc := 55) (i := 3) dX12_pair_55 rfl rfl ?_
            refine A_iconst (pc := 56) (1) dX12_pair_56 (by decide) ?_
            refine A_icmpne (pc := 57) 75 dX12_pair_57 (by decide) (fun hb57 => ?_) (fun hb57 => ?_)
            · refine A_aload_n (pc := 75) (i := 0) dX12_pair_75 rfl rfl ?_
              refine A_getr (pc := 76) 0 fl_X12_7_12 hR.1 rfl hR.w0 dX12_pair_76 ?_
              refine A_iload_n (pc := 79) (i := 1) dX12_pair_79 rfl rfl ?_
              refine A_top (nI_cl hx.1) ?_
              refine A_iload_n (pc := 80) (i := 2) dX12_pair_80 rfl rfl ?_
              refine A_top (nI_cl hy.1) ?_
              refine A_callS1 (pc := 81) cs_X12_111 (r_isBehind l (31, 0, 0) hR.k0 _ hx8 _ hy8 (hok _ hxn) (hok _ hyn)) rfl rfl (Nat.le_of_ble_eq_true rfl) ⟨(Nat.le_of_ble_eq_true rfl), (Nat.le_of_ble_eq_true rfl)⟩ ⟨Nat.zero_le _, Nat.zero_le _⟩ dX12_pair_81 ?_
              refine A_ifeq (pc := 84) 91 dX12_pair_84 (by decide) (fun hb84 => ?_) (fun hb84 => ?_)
              · refine A_iconst (pc := 91) (0) dX12_pair_91 (by decide) ?_
                exact A_iretE (pc := 92) dX12_pair_92 rfl (Nat.zero_le _) (Nat.zero_le _) (by rw [d_pair, if_neg hb5, if_neg hb13, if_neg hb18, if_neg hb30, if_neg hb40, if_neg hb57]; exact (if_pos hb84).symm) (by rw [d_pair, if_neg hb5, if_neg hb13, if_neg hb18, if_neg hb30, if_neg hb40, if_neg hb57])
              · refine A_iconst (pc := 87) (1) dX12_pair_87 (by decide) ?_
                refine A_goto (pc := 88) 92 dX12_pair_88 (by decide) ?_
                exact A_iretE (pc := 92) dX12_pair_92 rfl (Nat.zero_le _) (Nat.zero_le _) (by rw [d_pair, if_neg hb5, if_neg hb13, if_neg hb18, if_neg hb30, if_neg hb40, if_neg hb57]; exact (if_neg hb84).symm) (by rw [d_pair, if_neg hb5, if_neg hb13, if_neg hb18, if_neg hb30, if_neg hb40, if_neg hb57])
            · refine A_aload_n (pc := 60) (i := 0) dX12_pair_60 rfl rfl ?_
              refine A_getr (pc := 61) 0 fl_X12_7_12 hR.1 rfl hR.w0 dX12_pair_61 ?_
              refine A_iload_n (pc := 64) (i := 1) dX12_pair_64 rfl rfl ?_
              refine A_top (nI_cl hx.1) ?_
              refine A_iload_n (pc := 65) (i := 2) dX12_pair_65 rfl rfl ?_
              refine A_top (nI_cl hy.1) ?_
              refine A_callS1 (pc := 66) cs_X12_107 (r_areNear l (31, 0, 0) hR.k0 _ hx8 _ hy8 (hok _ hxn) (hok _ hyn)) rfl rfl (Nat.le_of_ble_eq_true rfl) ⟨(Nat.le_of_ble_eq_true rfl), (Nat.le_of_ble_eq_true rfl)⟩ ⟨Nat.zero_le _, Nat.zero_le _⟩ dX12_pair_66 ?_
              refine A_ifeq (pc := 69) 91 dX12_pair_69 (by decide) (fun hb69 => ?_) (fun hb69 => ?_)
              · refine A_iconst (pc := 91) (0) dX12_pair_91 (by decide) ?_
                exact A_iretE (pc := 92) dX12_pair_92 rfl (Nat.zero_le _) (Nat.zero_le _) (by rw [d_pair, if_neg hb5, if_neg hb13, if_neg hb18, if_neg hb30, if_neg hb40, if_pos hb57]; exact (if_pos hb69).symm) (by rw [d_pair, if_neg hb5, if_neg hb13, if_neg hb18, if_neg hb30, if_neg hb40, if_pos hb57])
              · refine A_goto (pc := 72) 87 dX12_pair_72 (by decide) ?_
                refine A_iconst (pc := 87) (1) dX12_pair_87 (by decide) ?_
                refine A_goto (pc := 88) 92 dX12_pair_88 (by decide) ?_
                exact A_iretE (pc := 92) dX12_pair_92 rfl (Nat.zero_le _) (Nat.zero_le _) (by rw [d_pair, if_neg hb5, if_neg hb13, if_neg hb18, if_neg hb30, if_neg hb40, if_pos hb57]; exact (if_neg hb69).symm) (by rw [d_pair, if_neg hb5, if_neg hb13, if_neg hb18, if_neg hb30, if_neg hb40, if_pos hb57])
          · refine A_aload_n (pc := 43) (i := 0) dX12_pair_43 rfl rfl ?_
            refine A_getr (pc := 44) 0 fl_X12_7_12 hR.1 rfl hR.w0 dX12_pair_44 ?_
            refine A_iload_n (pc := 47) (i := 1) dX12_pair_47 rfl rfl ?_
            refine A_top (nI_cl hx.1) ?_
            refine A_iload_n (pc := 48) (i := 2) dX12_pair_48 rfl rfl ?_
            refine A_top (nI_cl hy.1) ?_
            refine A_callS1 (pc := 49) cs_X12_104 (r_gap l (31, 0, 0) hR.k0 _ hx8 _ hy8) rfl rfl (Nat.le_of_ble_eq_true rfl) ⟨(Nat.le_of_ble_eq_true rfl), (Nat.le_of_ble_eq_true rfl)⟩ ⟨Nat.zero_le _, Nat.zero_le _⟩ dX12_pair_49 ?_
            refine A_goto (pc := 52) 92 dX12_pair_52 (by decide) ?_
            exact A_iretE (pc := 92) dX12_pair_92 rfl (Nat.zero_le _) (Nat.zero_le _) (by rw [d_pair, if_neg hb5, if_neg hb13, if_neg hb18, if_neg hb30, if_pos hb40]) (by rw [d_pair, if_neg hb5, if_neg hb13, if_neg hb18, if_neg hb30, if_pos hb40])
        · refine A_aload_n (pc := 33) (i := 0) dX12_pair_33 rfl rfl ?_
          refine A_iconst (pc := 34) (1) dX12_pair_34 (by decide) ?_
          refine A_callV1 (pc := 35) cv_X12_65 (r_fnd1 l hR) hR.1 rfl rfl rfl rfl (Nat.le_of_ble_eq_true rfl) ⟨(Nat.le_of_ble_eq_true rfl), (Nat.le_of_ble_eq_true rfl)⟩ ⟨Nat.zero_le _, Nat.zero_le _⟩ dX12_pair_35 ?_
          exact A_iretE (pc := 38) dX12_pair_38 rfl (Nat.zero_le _) (Nat.zero_le _) (by rw [d_pair, if_neg hb5, if_neg hb13, if_neg hb18, if_pos hb30]) (by rw [d_pair, if_neg hb5, if_neg hb13, if_neg hb18, if_pos hb30])
noncomputable def c_ofLaw (x y : Int32) (nl : Nat) (ln : Nat → am_N) (iv : am_iv) : Int32 × am_iv := if sr_b (0 ≤ x ∧ x < nI nl) = 0 then (-1000000001, er_heap 1 iv) else if sr_b (0 ≤ y ∧ y ≤ 2) = 0 then (-1000000001, er_heap 1 iv) else if y = 0 then (iv (ln x.toNatClampNeg) 0, iv) else if y = 1 then (iv (ln x.toNatClampNeg) 2, iv) else ((if rg_bit (rm_on (iv (2, 0, 0) 5) x) = 0 then 0 else 1), iv)
set_option maxRecDepth 20000 in
theorem p_ofLaw (l : Launch) {kd : am_kd} {rv : am_rv} {iv : am_iv} (hS : sh kd rv) (x y : Int32) (nl : Nat) (ln : Nat → am_N) (lk : Nat → Nat) (hl : rm_laws kd rv iv 0 nl ln lk) : am_Met l mX11_ofLaw (am_rm 2 0 0) [am_P (1, 0, 0), am_I x, am_I y] kd rv iv (am_ret (some (am_I (c_ofLaw x y nl ln iv).1)) kd rv (c_ofLaw x y nl ln iv).2) := by
  refine am_Met.of (by decide) (Nat.le_of_ble_eq_true rfl) rfl ?_
  refine A_aload_n (pc := 0) (i := 0) dX11_ofLaw_0 rfl rfl ?_
  refine A_getr (pc := 1) 0 fl_X11_12_11 hS.k1 rfl (hS.w1 (k := 0) (by decide)) dX11_ofLaw_1 ?_
  refine A_iload_n (pc := 4) (i := 1) dX11_ofLaw_4 rfl rfl ?_
  refine A_callV1 (pc := 5) cv_X11_109 (s_hasLaw l hS 0 (by decide) nl ln lk hl _) (hS.k2 (by decide)) rfl rfl rfl rfl (Nat.le_of_ble_eq_true rfl) ⟨(Nat.le_of_ble_eq_true rfl), (Nat.le_of_ble_eq_true rfl)⟩ ⟨Nat.zero_le _, Nat.zero_le _⟩ dX11_ofLaw_5 ?_
  refine A_ifeq (pc := 8) 20 dX11_ofLaw_8 (by decide) (fun hb8 => ?_) (fun hb8 => ?_)
  · refine A_aload_n (pc := 20) (i := 0) dX11_ofLaw_20 rfl rfl ?_
    refine A_ldc (pc := 21) (List.mem_cons_of_mem _ kc_X11_60) dX11_ofLaw_21 ?_
    refine A_callV1 (pc := 23) cv_X11_61 (s_err1 l hS) hS.k1 rfl rfl rfl rfl (Nat.le_of_ble_eq_true rfl) ⟨(Nat.le_of_ble_eq_true rfl), (Nat.le_of_ble_eq_true rfl)⟩ ⟨Nat.zero_le _, Nat.zero_le _⟩ dX11_ofLaw_23 ?_
    exact A_iretE (pc := 26) dX11_ofLaw_26 rfl (Nat.zero_le _) (Nat.zero_le _) (by rw [c_ofLaw, if_pos hb8]) (by rw [c_ofLaw, if_pos hb8])
  · refine A_iload_n (pc := 11) (i := 2) dX11_ofLaw_11 rfl rfl ?_
    refine A_iconst (pc := 12) (0) dX11_ofLaw_12 (by decide) ?_
    refine A_iconst (pc := 13) (2) dX11_ofLaw_13 (by decide) ?_
    refine A_callS1 (pc := 14) cs_X11_56 (s_isHeld l _ _ _) rfl rfl (Nat.le_of_ble_eq_true rfl) ⟨(Nat.le_of_ble_eq_true rfl), (Nat.le_of_ble_eq_true rfl)⟩ ⟨Nat.zero_le _, Nat.zero_le _⟩ dX11_ofLaw_14 ?_
    refine A_ifne (pc := 17) 27 dX11_ofLaw_17 (by decide) (fun hb17 => ?_) (fun hb17 => ?_)
    · have hx := (sr_b_1 _).mp hb8
      have hxl : x.toNatClampNeg < nl := nI_cl_lt hx.1 hx.2 (by have := hl.2.1; omega)
      have hx6 : x.toNatClampNeg < 6 := by have := hl.2.1; omega
      obtain ⟨hl1, hl2, hl3, hl4⟩ := hl.2.2 _ hxl
      refine A_iload_n (pc := 27) (i := 2) dX11_ofLaw_27 rfl rfl ?_
      by_cases hs28_0 : y = (0)
      · refine A_lookup (pc := 28) (off := 28) 56 dX11_ofLaw_28 (by decide) (by rw [hs28_0]; decide) (by decide) ?_
        refine A_aload_n (pc := 56) (i := 0) dX11_ofLaw_56 rfl rfl ?_
        refine A_getr (pc := 57) 0 fl_X11_12_11 hS.k1 rfl (hS.w1 (k := 0) (by decide)) dX11_ofLaw_57 ?_
        refine A_getr (pc := 60) 3 fl_X11_112_4 (hS.k2 (by decide)) rfl (hS.w2_3 (by decide)) dX11_ofLaw_60 ?_
        refine A_iload_n (pc := 63) (i := 1) dX11_ofLaw_63 rfl rfl ?_
        refine A_top (nI_cl hx.1) ?_
        refine A_aaldN (pc := 64) (hS.k7 (by decide)) (by decide) (by decide) hx6 (by decide) hl1 dX11_ofLaw_64 ?_
        refine G_kind_X11 (pc := 65) hl2 hl3 rfl dX11_ofLaw_65 ?_
        exact A_iretE (pc := 68) dX11_ofLaw_68 rfl (Nat.zero_le _) (Nat.zero_le _) (by rw [c_ofLaw, if_neg hb8, if_neg hb17, if_pos hs28_0]) (by rw [c_ofLaw, if_neg hb8, if_neg hb17, if_pos hs28_0])
      by_cases hs28_1 : y = (1)
      · refine A_lookup (pc := 28) (off := 41) 69 dX11_ofLaw_28 (by decide) (by rw [hs28_1]; decide) (by decide) ?_
        refine A_aload_n (pc := 69) (i := 0) dX11_ofLaw_69 rfl rfl ?_
        refine A_getr (pc := 70) 0 fl_X11_12_11 hS.k1 rfl (hS.w1 (k := 0) (by decide)) dX11_ofLaw_70 ?_
        refine A_getr (pc := 73) 3 fl_X11_112_4 (hS.k2 (by decide)) rfl (hS.w2_3 (by decide)) dX11_ofLaw_73 ?_
        refine A_iload_n (pc := 76) (i := 1) dX11_ofLaw_76 rfl rfl ?_
        refine A_top (nI_cl hx.1) ?_
        refine A_aaldN (pc := 77) (hS.k7 (by decide)) (by decide) (by decide) hx6 (by decide) hl1 dX11_ofLaw_77 ?_
        refine G_m_X11 (pc := 78) hl2 hl3 rfl dX11_ofLaw_78 ?_
        exact A_iretE (pc := 81) dX11_ofLaw_81 rfl (Nat.zero_le _) (Nat.zero_le _) (by rw [c_ofLaw, if_neg hb8, if_neg hb17, if_neg hs28_0, if_pos hs28_1]) (by rw [c_ofLaw, if_neg hb8, if_neg hb17, if_neg hs28_0, if_pos hs28_1])
      refine A_lookup (pc := 28) (off := 54) 82 dX11_ofLaw_28 (by decide) (by show Op.lookupswitch.offset [(0, 28), (1, 41)] (54) _ = _; rw [lv_osw (k := (0)) hs28_0 (by decide), lv_osw (k := (1)) hs28_1 (by decide)]; rfl) (by decide) ?_
      refine A_aload_n (pc := 82) (i := 0) dX11_ofLaw_82 rfl rfl ?_
      refine A_getr (pc := 83) 0 fl_X11_12_11 hS.k1 rfl (hS.w1 (k := 0) (by decide)) dX11_ofLaw_83 ?_
      refine A_iload_n (pc := 86) (i := 1) dX11_ofLaw_86 rfl rfl ?_
      refine A_callV1 (pc := 87) cv_X11_124 (s_isOn l hS _ (by decide) _) (hS.k2 (by decide)) rfl rfl rfl rfl (Nat.le_of_ble_eq_true rfl) ⟨(Nat.le_of_ble_eq_true rfl), (Nat.le_of_ble_eq_true rfl)⟩ ⟨Nat.zero_le _, Nat.zero_le _⟩ dX11_ofLaw_87 ?_
      refine A_callS1 (pc := 90) cs_X11_91 (s_asBit l _) rfl rfl (Nat.le_of_ble_eq_true rfl) ⟨(Nat.le_of_ble_eq_true rfl), (Nat.le_of_ble_eq_true rfl)⟩ ⟨Nat.zero_le _, Nat.zero_le _⟩ dX11_ofLaw_90 ?_
      exact A_iretE (pc := 93) dX11_ofLaw_93 rfl (Nat.zero_le _) (Nat.zero_le _) (by rw [c_ofLaw, if_neg hb8, if_neg hb17, if_neg hs28_0, if_neg hs28_1]) (by rw [c_ofLaw, if_neg hb8, if_neg hb17, if_neg hs28_0, if_neg hs28_1])
    · refine A_aload_n (pc := 20) (i := 0) dX11_ofLaw_20 rfl rfl ?_
      refine A_ldc (pc := 21) (List.mem_cons_of_mem _ kc_X11_60) dX11_ofLaw_21 ?_
      refine A_callV1 (pc := 23) cv_X11_61 (s_err1 l hS) hS.k1 rfl rfl rfl rfl (Nat.le_of_ble_eq_true rfl) ⟨(Nat.le_of_ble_eq_true rfl), (Nat.le_of_ble_eq_true rfl)⟩ ⟨Nat.zero_le _, Nat.zero_le _⟩ dX11_ofLaw_23 ?_
      exact A_iretE (pc := 26) dX11_ofLaw_26 rfl (Nat.zero_le _) (Nat.zero_le _) (by rw [c_ofLaw, if_neg hb8, if_pos hb17]) (by rw [c_ofLaw, if_neg hb8, if_pos hb17])
theorem rx_lawx (x : Int32) (h : 0 ≤ x) (w : Nat) : (20 : Int32) + 2 * x + nI w = nI (20 + 2 * x.toNatClampNeg + w) := by
  have e := nI_cl h
  generalize x.toNatClampNeg = j at e
  subst e
  show nI 20 + nI 2 * nI j + nI w = _
  rw [show nI 2 * nI j = nI (2 * j) from (Int32.ofNat_mul 2 j).symm, nI_add, nI_add]
theorem rx_lawx0 (x : Int32) (h : 0 ≤ x) : (20 : Int32) + 2 * x = nI (20 + 2 * x.toNatClampNeg) := by
  have := rx_lawx x h 0
  rw [show nI 0 = 0 from rfl, Int32.add_zero] at this
  exact this
theorem y01 {y : Int32} (h0 : 0 ≤ y) (h2 : y ≤ 2) (n2 : ¬ y = 2) : y.toNatClampNeg < 2 := by
  have h := nI_cl_le (n := 2) h0 h2 (by decide)
  rcases Nat.lt_or_ge y.toNatClampNeg 2 with q | q
  · exact q
  · exact absurd (by rw [nI_cl h0, show y.toNatClampNeg = 2 by omega]; rfl) n2
noncomputable def d_ofLaw (x y : Int32) (iv : am_iv) : Int32 × am_iv := if sr_b (0 ≤ x ∧ x ≤ iv (31, 0, 0) 2 - 1) = 0 then (-1000000001, rx_find 1 iv) else if sr_b (0 ≤ y ∧ y ≤ 2) = 0 then (-1000000001, rx_find 1 iv) else if y = 2 then (iv (31, 0, 0) 3 >>> (x &&& 31) &&& 1, iv) else (iv (31, 0, 0) (20 + 2 * x.toNatClampNeg + y.toNatClampNeg), iv)
set_option maxRecDepth 20000 in
theorem q_ofLaw (l : Launch) {kd : am_kd} {rv : am_rv} {iv : am_iv} (hR : shr kd rv) (x y : Int32) (nl : Nat) (lk : Nat → Nat) (hnl : iv (31, 0, 0) 2 = nI nl) (hnl6 : nl ≤ 6) (hlk : ∀ j, j < nl → lk j < 7 ∧ iv (31, 0, 0) (20 + 2 * j) = nI (lk j)) : am_Met l mX12_ofLaw (am_rm 2 0 0) [am_P (30, 0, 0), am_I x, am_I y] kd rv iv (am_ret (some (am_I (d_ofLaw x y iv).1)) kd rv (d_ofLaw x y iv).2) := by
  refine am_Met.of (by decide) (Nat.le_of_ble_eq_true rfl) rfl ?_
  refine A_aload_n (pc := 0) (i := 0) dX12_ofLaw_0 rfl rfl ?_
  refine A_iload_n (pc := 1) (i := 1) dX12_ofLaw_1 rfl rfl ?_
  refine A_callV1 (pc := 2) cv_X12_91 (r_isLaw l hR _) hR.1 rfl rfl rfl rfl (Nat.le_of_ble_eq_true rfl) ⟨(Nat.le_of_ble_eq_true rfl), (Nat.le_of_ble_eq_true rfl)⟩ ⟨Nat.zero_le _, Nat.zero_le _⟩ dX12_ofLaw_2 ?_
  refine A_ifeq (pc := 5) 20 dX12_ofLaw_5 (by decide) (fun hb5 => ?_) (fun hb5 => ?_)
  · refine A_aload_n (pc := 20) (i := 0) dX12_ofLaw_20 rfl rfl ?_
    refine A_iconst (pc := 21) (1) dX12_ofLaw_21 (by decide) ?_
    refine A_callV1 (pc := 22) cv_X12_65 (r_fnd1 l hR) hR.1 rfl rfl rfl rfl (Nat.le_of_ble_eq_true rfl) ⟨(Nat.le_of_ble_eq_true rfl), (Nat.le_of_ble_eq_true rfl)⟩ ⟨Nat.zero_le _, Nat.zero_le _⟩ dX12_ofLaw_22 ?_
    exact A_iretE (pc := 25) dX12_ofLaw_25 rfl (Nat.zero_le _) (Nat.zero_le _) (by rw [d_ofLaw, if_pos hb5]) (by rw [d_ofLaw, if_pos hb5])
  · refine A_iload_n (pc := 8) (i := 2) dX12_ofLaw_8 rfl rfl ?_
    refine A_i2l (pc := 9) dX12_ofLaw_9 ?_
    refine A_lconst (pc := 10) (0) dX12_ofLaw_10 (by decide) ?_
    refine A_topJ (y := Int32.toInt64 (0)) (by decide +kernel) ?_
    refine A_ldc2 (pc := 11) (List.mem_cons_of_mem _ kc_X12_94) dX12_ofLaw_11 ?_
    refine A_topJ (y := Int32.toInt64 (2)) (by decide +kernel) ?_
    refine A_callS1 (pc := 14) cs_X12_48 (r_in l _ _ _) rfl rfl (Nat.le_of_ble_eq_true rfl) ⟨(Nat.le_of_ble_eq_true rfl), (Nat.le_of_ble_eq_true rfl)⟩ ⟨Nat.zero_le _, Nat.zero_le _⟩ dX12_ofLaw_14 ?_
    refine A_ifne (pc := 17) 26 dX12_ofLaw_17 (by decide) (fun hb17 => ?_) (fun hb17 => ?_)
    · have hx := (sr_b_1 _).mp hb5
      have hxl : x.toNatClampNeg < nl := nI_m1n (by omega) hx.1 (hnl ▸ hx.2)
      have hx6 : x.toNatClampNeg < 6 := by omega
      obtain ⟨hk7, hkk⟩ := hlk _ hxl
      have hy := (sr_b_1 _).mp hb17
      refine A_iload_n (pc := 26) (i := 2) dX12_ofLaw_26 rfl rfl ?_
      refine A_iconst (pc := 27) (2) dX12_ofLaw_27 (by decide) ?_
      refine A_icmpne (pc := 28) 44 dX12_ofLaw_28 (by decide) (fun hb28 => ?_) (fun hb28 => ?_)
      · have hy2 := y01 hy.1 hy.2 hb28
        refine A_aload_n (pc := 44) (i := 0) dX12_ofLaw_44 rfl rfl ?_
        refine A_getr (pc := 45) 0 fl_X12_7_12 hR.1 rfl hR.w0 dX12_ofLaw_45 ?_
        refine A_bipush (pc := 48) (20) dX12_ofLaw_48 (by decide) ?_
        refine A_iconst (pc := 50) (2) dX12_ofLaw_50 (by decide) ?_
        refine A_iload_n (pc := 51) (i := 1) dX12_ofLaw_51 rfl rfl ?_
        refine A_imul (pc := 52) dX12_ofLaw_52 ?_
        refine A_iadd (pc := 53) dX12_ofLaw_53 ?_
        refine A_iload_n (pc := 54) (i := 2) dX12_ofLaw_54 rfl rfl ?_
        refine A_top (nI_cl hy.1) ?_
        refine A_iadd (pc := 55) dX12_ofLaw_55 ?_
        refine A_top (rx_lawx x hx.1 y.toNatClampNeg) ?_
        refine A_ialdN (pc := 56) hR.k0 (show 20 + 2 * x.toNatClampNeg + y.toNatClampNeg < 300 by omega) (by decide) dX12_ofLaw_56 ?_
        exact A_iretE (pc := 57) dX12_ofLaw_57 rfl (Nat.zero_le _) (Nat.zero_le _) (by rw [d_ofLaw, if_neg hb5, if_neg hb17, if_neg hb28]) (by rw [d_ofLaw, if_neg hb5, if_neg hb17, if_neg hb28])
      · refine A_aload_n (pc := 31) (i := 0) dX12_ofLaw_31 rfl rfl ?_
        refine A_getr (pc := 32) 0 fl_X12_7_12 hR.1 rfl hR.w0 dX12_ofLaw_32 ?_
        refine A_iconst (pc := 35) (3) dX12_ofLaw_35 (by decide) ?_
        refine A_ialdN (pc := 36) hR.k0 (show 3 < 300 by decide) (by decide) dX12_ofLaw_36 ?_
        refine A_iload_n (pc := 37) (i := 1) dX12_ofLaw_37 rfl rfl ?_
        refine A_ishr (pc := 38) dX12_ofLaw_38 ?_
        refine A_iconst (pc := 39) (1) dX12_ofLaw_39 (by decide) ?_
        refine A_iand (pc := 40) dX12_ofLaw_40 ?_
        refine A_goto (pc := 41) 57 dX12_ofLaw_41 (by decide) ?_
        exact A_iretE (pc := 57) dX12_ofLaw_57 rfl (Nat.zero_le _) (Nat.zero_le _) (by rw [d_ofLaw, if_neg hb5, if_neg hb17, if_pos hb28]) (by rw [d_ofLaw, if_neg hb5, if_neg hb17, if_pos hb28])
    · refine A_aload_n (pc := 20) (i := 0) dX12_ofLaw_20 rfl rfl ?_
      refine A_iconst (pc := 21) (1) dX12_ofLaw_21 (by decide) ?_
      refine A_callV1 (pc := 22) cv_X12_65 (r_fnd1 l hR) hR.1 rfl rfl rfl rfl (Nat.le_of_ble_eq_true rfl) ⟨(Nat.le_of_ble_eq_true rfl), (Nat.le_of_ble_eq_true rfl)⟩ ⟨Nat.zero_le _, Nat.zero_le _⟩ dX12_ofLaw_22 ?_
      exact A_iretE (pc := 25) dX12_ofLaw_25 rfl (Nat.zero_le _) (Nat.zero_le _) (by rw [d_ofLaw, if_neg hb5, if_pos hb17]) (by rw [d_ofLaw, if_neg hb5, if_pos hb17])
theorem cs6 {y : Int32} (h0 : 0 ≤ y) (h6 : y ≤ 6) (n1 : ¬ y = 1) (n2 : ¬ y = 2) (n3 : ¬ y = 3) (n4 : ¬ y = 4) (n5 : ¬ y = 5) (n6 : ¬ y = 6) : y = 0 := by
  have h := nI_cl_le (n := 6) h0 h6 (by decide)
  have e := nI_cl h0
  generalize y.toNatClampNeg = j at h e
  subst e
  match j, h, n1, n2, n3, n4, n5, n6 with
  | 0, _, _, _, _, _, _, _ => rfl
  | 1, _, n1, _, _, _, _, _ => exact absurd rfl n1
  | 2, _, _, n2, _, _, _, _ => exact absurd rfl n2
  | 3, _, _, _, n3, _, _, _ => exact absurd rfl n3
  | 4, _, _, _, _, n4, _, _ => exact absurd rfl n4
  | 5, _, _, _, _, _, n5, _ => exact absurd rfl n5
  | 6, _, _, _, _, _, _, n6 => exact absurd rfl n6
set_option maxRecDepth 20000 in
theorem s_isOfKind (l : Launch) {kd : am_kd} {rv : am_rv} {iv : am_iv} (n : am_N) (K : Nat) (hK : K < 7) (hk : kd n = some (.inl (lw_ci K))) (y : Int32) (hy0 : 0 ≤ y) (hy6 : y ≤ 6) : am_Met l mX11_isOfKind (am_rm 0 0 0) [am_P n, am_I y] kd rv iv (am_ret (some (am_I (sr_b (y = 0 ∨ y = nI K ∨ (y = 3 ∧ nI K = 4) ∨ (y = 5 ∧ nI K = 6))))) kd rv iv) := by
  match K, hK, hk with
  | 0, _, hk =>
    refine am_Met.of (by decide) (Nat.le_of_ble_eq_true rfl) rfl ?_
    refine A_iload_n (pc := 0) (i := 1) dX11_isOfKind_0 rfl rfl ?_
    by_cases hs1_1 : y = (1)
    · refine A_tableIn (pc := 1) (off := 39) 40 dX11_isOfKind_1 (by rw [hs1_1]; decide) (by rw [hs1_1]; decide) (by rw [hs1_1]; decide) (by decide) ?_
      refine A_aload_n (pc := 40) (i := 0) dX11_isOfKind_40 rfl rfl ?_
      refine A_instN (pc := 41) (r := (RX2, TX2, 3)) cl_X11_335 hk rfl (by decide) dX11_isOfKind_41 ?_
      exact A_zretE (pc := 44) dX11_isOfKind_44 rfl (by first | exact A_zn0 | exact A_zn1 | exact A_znif _) (Nat.zero_le _) (Nat.zero_le _) (by rw [hs1_1]; decide) (rfl)
    by_cases hs1_2 : y = (2)
    · refine A_tableIn (pc := 1) (off := 44) 45 dX11_isOfKind_1 (by rw [hs1_2]; decide) (by rw [hs1_2]; decide) (by rw [hs1_2]; decide) (by decide) ?_
      refine A_aload_n (pc := 45) (i := 0) dX11_isOfKind_45 rfl rfl ?_
      refine A_instN (pc := 46) (r := (RX2, TX2, 3)) cl_X11_339 hk rfl (by decide) dX11_isOfKind_46 ?_
      exact A_zretE (pc := 49) dX11_isOfKind_49 rfl (by first | exact A_zn0 | exact A_zn1 | exact A_znif _) (Nat.zero_le _) (Nat.zero_le _) (by rw [hs1_2]; decide) (rfl)
    by_cases hs1_3 : y = (3)
    · refine A_tableIn (pc := 1) (off := 49) 50 dX11_isOfKind_1 (by rw [hs1_3]; decide) (by rw [hs1_3]; decide) (by rw [hs1_3]; decide) (by decide) ?_
      refine A_aload_n (pc := 50) (i := 0) dX11_isOfKind_50 rfl rfl ?_
      refine A_instN (pc := 51) (r := (RX2, TX2, 3)) cl_X11_342 hk rfl (by decide) dX11_isOfKind_51 ?_
      exact A_zretE (pc := 54) dX11_isOfKind_54 rfl (by first | exact A_zn0 | exact A_zn1 | exact A_znif _) (Nat.zero_le _) (Nat.zero_le _) (by rw [hs1_3]; decide) (rfl)
    by_cases hs1_4 : y = (4)
    · refine A_tableIn (pc := 1) (off := 54) 55 dX11_isOfKind_1 (by rw [hs1_4]; decide) (by rw [hs1_4]; decide) (by rw [hs1_4]; decide) (by decide) ?_
      refine A_aload_n (pc := 55) (i := 0) dX11_isOfKind_55 rfl rfl ?_
      refine A_instN (pc := 56) (r := (RX2, TX2, 3)) cl_X11_347 hk rfl (by decide) dX11_isOfKind_56 ?_
      exact A_zretE (pc := 59) dX11_isOfKind_59 rfl (by first | exact A_zn0 | exact A_zn1 | exact A_znif _) (Nat.zero_le _) (Nat.zero_le _) (by rw [hs1_4]; decide) (rfl)
    by_cases hs1_5 : y = (5)
    · refine A_tableIn (pc := 1) (off := 59) 60 dX11_isOfKind_1 (by rw [hs1_5]; decide) (by rw [hs1_5]; decide) (by rw [hs1_5]; decide) (by decide) ?_
      refine A_aload_n (pc := 60) (i := 0) dX11_isOfKind_60 rfl rfl ?_
      refine A_instN (pc := 61) (r := (RX2, TX2, 3)) cl_X11_350 hk rfl (by decide) dX11_isOfKind_61 ?_
      exact A_zretE (pc := 64) dX11_isOfKind_64 rfl (by first | exact A_zn0 | exact A_zn1 | exact A_znif _) (Nat.zero_le _) (Nat.zero_le _) (by rw [hs1_5]; decide) (rfl)
    by_cases hs1_6 : y = (6)
    · refine A_tableIn (pc := 1) (off := 64) 65 dX11_isOfKind_1 (by rw [hs1_6]; decide) (by rw [hs1_6]; decide) (by rw [hs1_6]; decide) (by decide) ?_
      refine A_aload_n (pc := 65) (i := 0) dX11_isOfKind_65 rfl rfl ?_
      refine A_instN (pc := 66) (r := (RX2, TX2, 3)) cl_X11_353 hk rfl (by decide) dX11_isOfKind_66 ?_
      exact A_zretE (pc := 69) dX11_isOfKind_69 rfl (by first | exact A_zn0 | exact A_zn1 | exact A_znif _) (Nat.zero_le _) (Nat.zero_le _) (by rw [hs1_6]; decide) (rfl)
    refine A_tableOut (pc := 1) 70 dX11_isOfKind_1 (by have := lv_neT hs1_1 (show ((1 : Int32)).toInt = (1) by decide); have := lv_neT hs1_2 (show ((2 : Int32)).toInt = (2) by decide); have := lv_neT hs1_3 (show ((3 : Int32)).toInt = (3) by decide); have := lv_neT hs1_4 (show ((4 : Int32)).toInt = (4) by decide); have := lv_neT hs1_5 (show ((5 : Int32)).toInt = (5) by decide); have := lv_neT hs1_6 (show ((6 : Int32)).toInt = (6) by decide); omega) (by decide) ?_
    refine A_iconst (pc := 70) (1) dX11_isOfKind_70 (by decide) ?_
    exact A_zretE (pc := 71) dX11_isOfKind_71 rfl (by first | exact A_zn0 | exact A_zn1 | exact A_znif _) (Nat.zero_le _) (Nat.zero_le _) (by rw [cs6 hy0 hy6 hs1_1 hs1_2 hs1_3 hs1_4 hs1_5 hs1_6]; decide) (rfl)
  | 1, _, hk =>
    refine am_Met.of (by decide) (Nat.le_of_ble_eq_true rfl) rfl ?_
    refine A_iload_n (pc := 0) (i := 1) dX11_isOfKind_0 rfl rfl ?_
    by_cases hs1_1 : y = (1)
    · refine A_tableIn (pc := 1) (off := 39) 40 dX11_isOfKind_1 (by rw [hs1_1]; decide) (by rw [hs1_1]; decide) (by rw [hs1_1]; decide) (by decide) ?_
      refine A_aload_n (pc := 40) (i := 0) dX11_isOfKind_40 rfl rfl ?_
      refine A_instY (pc := 41) (r := (RX8, TX8, 3)) cl_X11_335 hk rfl (Or.inl rfl) dX11_isOfKind_41 ?_
      exact A_zretE (pc := 44) dX11_isOfKind_44 rfl (by first | exact A_zn0 | exact A_zn1 | exact A_znif _) (Nat.zero_le _) (Nat.zero_le _) (by rw [hs1_1]; decide) (rfl)
    by_cases hs1_2 : y = (2)
    · refine A_tableIn (pc := 1) (off := 44) 45 dX11_isOfKind_1 (by rw [hs1_2]; decide) (by rw [hs1_2]; decide) (by rw [hs1_2]; decide) (by decide) ?_
      refine A_aload_n (pc := 45) (i := 0) dX11_isOfKind_45 rfl rfl ?_
      refine A_instN (pc := 46) (r := (RX8, TX8, 3)) cl_X11_339 hk rfl (by decide) dX11_isOfKind_46 ?_
      exact A_zretE (pc := 49) dX11_isOfKind_49 rfl (by first | exact A_zn0 | exact A_zn1 | exact A_znif _) (Nat.zero_le _) (Nat.zero_le _) (by rw [hs1_2]; decide) (rfl)
    by_cases hs1_3 : y = (3)
    · refine A_tableIn (pc := 1) (off := 49) 50 dX11_isOfKind_1 (by rw [hs1_3]; decide) (by rw [hs1_3]; decide) (by rw [hs1_3]; decide) (by decide) ?_
      refine A_aload_n (pc := 50) (i := 0) dX11_isOfKind_50 rfl rfl ?_
      refine A_instN (pc := 51) (r := (RX8, TX8, 3)) cl_X11_342 hk rfl (by decide) dX11_isOfKind_51 ?_
      exact A_zretE (pc := 54) dX11_isOfKind_54 rfl (by first | exact A_zn0 | exact A_zn1 | exact A_znif _) (Nat.zero_le _) (Nat.zero_le _) (by rw [hs1_3]; decide) (rfl)
    by_cases hs1_4 : y = (4)
    · refine A_tableIn (pc := 1) (off := 54) 55 dX11_isOfKind_1 (by rw [hs1_4]; decide) (by rw [hs1_4]; decide) (by rw [hs1_4]; decide) (by decide) ?_
      refine A_aload_n (pc := 55) (i := 0) dX11_isOfKind_55 rfl rfl ?_
      refine A_instN (pc := 56) (r := (RX8, TX8, 3)) cl_X11_347 hk rfl (by decide) dX11_isOfKind_56 ?_
      exact A_zretE (pc := 59) dX11_isOfKind_59 rfl (by first | exact A_zn0 | exact A_zn1 | exact A_znif _) (Nat.zero_le _) (Nat.zero_le _) (by rw [hs1_4]; decide) (rfl)
    by_cases hs1_5 : y = (5)
    · refine A_tableIn (pc := 1) (off := 59) 60 dX11_isOfKind_1 (by rw [hs1_5]; decide) (by rw [hs1_5]; decide) (by rw [hs1_5]; decide) (by decide) ?_
      refine A_aload_n (pc := 60) (i := 0) dX11_isOfKind_60 rfl rfl ?_
      refine A_instN (pc := 61) (r := (RX8, TX8, 3)) cl_X11_350 hk rfl (by decide) dX11_isOfKind_61 ?_
      exact A_zretE (pc := 64) dX11_isOfKind_64 rfl (by first | exact A_zn0 | exact A_zn1 | exact A_znif _) (Nat.zero_le _) (Nat.zero_le _) (by rw [hs1_5]; decide) (rfl)
    by_cases hs1_6 : y = (6)
    · refine A_tableIn (pc := 1) (off := 64) 65 dX11_isOfKind_1 (by rw [hs1_6]; decide) (by rw [hs1_6]; decide) (by rw [hs1_6]; decide) (by decide) ?_
      refine A_aload_n (pc := 65) (i := 0) dX11_isOfKind_65 rfl rfl ?_
      refine A_instN (pc := 66) (r := (RX8, TX8, 3)) cl_X11_353 hk rfl (by decide) dX11_isOfKind_66 ?_
      exact A_zretE (pc := 69) dX11_isOfKind_69 rfl (by first | exact A_zn0 | exact A_zn1 | exact A_znif _) (Nat.zero_le _) (Nat.zero_le _) (by rw [hs1_6]; decide) (rfl)
    refine A_tableOut (pc := 1) 70 dX11_isOfKind_1 (by have := lv_neT hs1_1 (show ((1 : Int32)).toInt = (1) by decide); have := lv_neT hs1_2 (show ((2 : Int32)).toInt = (2) by decide); have := lv_neT hs1_3 (show ((3 : Int32)).toInt = (3) by decide); have := lv_neT hs1_4 (show ((4 : Int32)).toInt = (4) by decide); have := lv_neT hs1_5 (show ((5 : Int32)).toInt = (5) by decide); have := lv_neT hs1_6 (show ((6 : Int32)).toInt = (6) by decide); omega) (by decide) ?_
    refine A_iconst (pc := 70) (1) dX11_isOfKind_70 (by decide) ?_
    exact A_zretE (pc := 71) dX11_isOfKind_71 rfl (by first | exact A_zn0 | exact A_zn1 | exact A_znif _) (Nat.zero_le _) (Nat.zero_le _) (by rw [cs6 hy0 hy6 hs1_1 hs1_2 hs1_3 hs1_4 hs1_5 hs1_6]; decide) (rfl)
  | 2, _, hk =>
    refine am_Met.of (by decide) (Nat.le_of_ble_eq_true rfl) rfl ?_
    refine A_iload_n (pc := 0) (i := 1) dX11_isOfKind_0 rfl rfl ?_
    by_cases hs1_1 : y = (1)
    · refine A_tableIn (pc := 1) (off := 39) 40 dX11_isOfKind_1 (by rw [hs1_1]; decide) (by rw [hs1_1]; decide) (by rw [hs1_1]; decide) (by decide) ?_
      refine A_aload_n (pc := 40) (i := 0) dX11_isOfKind_40 rfl rfl ?_
      refine A_instN (pc := 41) (r := (RX1, TX1, 3)) cl_X11_335 hk rfl (by decide) dX11_isOfKind_41 ?_
      exact A_zretE (pc := 44) dX11_isOfKind_44 rfl (by first | exact A_zn0 | exact A_zn1 | exact A_znif _) (Nat.zero_le _) (Nat.zero_le _) (by rw [hs1_1]; decide) (rfl)
    by_cases hs1_2 : y = (2)
    · refine A_tableIn (pc := 1) (off := 44) 45 dX11_isOfKind_1 (by rw [hs1_2]; decide) (by rw [hs1_2]; decide) (by rw [hs1_2]; decide) (by decide) ?_
      refine A_aload_n (pc := 45) (i := 0) dX11_isOfKind_45 rfl rfl ?_
      refine A_instY (pc := 46) (r := (RX1, TX1, 3)) cl_X11_339 hk rfl (Or.inl rfl) dX11_isOfKind_46 ?_
      exact A_zretE (pc := 49) dX11_isOfKind_49 rfl (by first | exact A_zn0 | exact A_zn1 | exact A_znif _) (Nat.zero_le _) (Nat.zero_le _) (by rw [hs1_2]; decide) (rfl)
    by_cases hs1_3 : y = (3)
    · refine A_tableIn (pc := 1) (off := 49) 50 dX11_isOfKind_1 (by rw [hs1_3]; decide) (by rw [hs1_3]; decide) (by rw [hs1_3]; decide) (by decide) ?_
      refine A_aload_n (pc := 50) (i := 0) dX11_isOfKind_50 rfl rfl ?_
      refine A_instN (pc := 51) (r := (RX1, TX1, 3)) cl_X11_342 hk rfl (by decide) dX11_isOfKind_51 ?_
      exact A_zretE (pc := 54) dX11_isOfKind_54 rfl (by first | exact A_zn0 | exact A_zn1 | exact A_znif _) (Nat.zero_le _) (Nat.zero_le _) (by rw [hs1_3]; decide) (rfl)
    by_cases hs1_4 : y = (4)
    · refine A_tableIn (pc := 1) (off := 54) 55 dX11_isOfKind_1 (by rw [hs1_4]; decide) (by rw [hs1_4]; decide) (by rw [hs1_4]; decide) (by decide) ?_
      refine A_aload_n (pc := 55) (i := 0) dX11_isOfKind_55 rfl rfl ?_
      refine A_instN (pc := 56) (r := (RX1, TX1, 3)) cl_X11_347 hk rfl (by decide) dX11_isOfKind_56 ?_
      exact A_zretE (pc := 59) dX11_isOfKind_59 rfl (by first | exact A_zn0 | exact A_zn1 | exact A_znif _) (Nat.zero_le _) (Nat.zero_le _) (by rw [hs1_4]; decide) (rfl)
    by_cases hs1_5 : y = (5)
    · refine A_tableIn (pc := 1) (off := 59) 60 dX11_isOfKind_1 (by rw [hs1_5]; decide) (by rw [hs1_5]; decide) (by rw [hs1_5]; decide) (by decide) ?_
      refine A_aload_n (pc := 60) (i := 0) dX11_isOfKind_60 rfl rfl ?_
      refine A_instN (pc := 61) (r := (RX1, TX1, 3)) cl_X11_350 hk rfl (by decide) dX11_isOfKind_61 ?_
      exact A_zretE (pc := 64) dX11_isOfKind_64 rfl (by first | exact A_zn0 | exact A_zn1 | exact A_znif _) (Nat.zero_le _) (Nat.zero_le _) (by rw [hs1_5]; decide) (rfl)
    by_cases hs1_6 : y = (6)
    · refine A_tableIn (pc := 1) (off := 64) 65 dX11_isOfKind_1 (by rw [hs1_6]; decide) (by rw [hs1_6]; decide) (by rw [hs1_6]; decide) (by decide) ?_
      refine A_aload_n (pc := 65) (i := 0) dX11_isOfKind_65 rfl rfl ?_
      refine A_instN (pc := 66) (r := (RX1, TX1, 3)) cl_X11_353 hk rfl (by decide) dX11_isOfKind_66 ?_
      exact A_zretE (pc := 69) dX11_isOfKind_69 rfl (by first | exact A_zn0 | exact A_zn1 | exact A_znif _) (Nat.zero_le _) (Nat.zero_le _) (by rw [hs1_6]; decide) (rfl)
    refine A_tableOut (pc := 1) 70 dX11_isOfKind_1 (by have := lv_neT hs1_1 (show ((1 : Int32)).toInt = (1) by decide); have := lv_neT hs1_2 (show ((2 : Int32)).toInt = (2) by decide); have := lv_neT hs1_3 (show ((3 : Int32)).toInt = (3) by decide); have := lv_neT hs1_4 (show ((4 : Int32)).toInt = (4) by decide); have := lv_neT hs1_5 (show ((5 : Int32)).toInt = (5) by decide); have := lv_neT hs1_6 (show ((6 : Int32)).toInt = (6) by decide); omega) (by decide) ?_
    refine A_iconst (pc := 70) (1) dX11_isOfKind_70 (by decide) ?_
    exact A_zretE (pc := 71) dX11_isOfKind_71 rfl (by first | exact A_zn0 | exact A_zn1 | exact A_znif _) (Nat.zero_le _) (Nat.zero_le _) (by rw [cs6 hy0 hy6 hs1_1 hs1_2 hs1_3 hs1_4 hs1_5 hs1_6]; decide) (rfl)
  | 3, _, hk =>
    refine am_Met.of (by decide) (Nat.le_of_ble_eq_true rfl) rfl ?_
    refine A_iload_n (pc := 0) (i := 1) dX11_isOfKind_0 rfl rfl ?_
    by_cases hs1_1 : y = (1)
    · refine A_tableIn (pc := 1) (off := 39) 40 dX11_isOfKind_1 (by rw [hs1_1]; decide) (by rw [hs1_1]; decide) (by rw [hs1_1]; decide) (by decide) ?_
      refine A_aload_n (pc := 40) (i := 0) dX11_isOfKind_40 rfl rfl ?_
      refine A_instN (pc := 41) (r := (RX0, TX0, 3)) cl_X11_335 hk rfl (by decide) dX11_isOfKind_41 ?_
      exact A_zretE (pc := 44) dX11_isOfKind_44 rfl (by first | exact A_zn0 | exact A_zn1 | exact A_znif _) (Nat.zero_le _) (Nat.zero_le _) (by rw [hs1_1]; decide) (rfl)
    by_cases hs1_2 : y = (2)
    · refine A_tableIn (pc := 1) (off := 44) 45 dX11_isOfKind_1 (by rw [hs1_2]; decide) (by rw [hs1_2]; decide) (by rw [hs1_2]; decide) (by decide) ?_
      refine A_aload_n (pc := 45) (i := 0) dX11_isOfKind_45 rfl rfl ?_
      refine A_instN (pc := 46) (r := (RX0, TX0, 3)) cl_X11_339 hk rfl (by decide) dX11_isOfKind_46 ?_
      exact A_zretE (pc := 49) dX11_isOfKind_49 rfl (by first | exact A_zn0 | exact A_zn1 | exact A_znif _) (Nat.zero_le _) (Nat.zero_le _) (by rw [hs1_2]; decide) (rfl)
    by_cases hs1_3 : y = (3)
    · refine A_tableIn (pc := 1) (off := 49) 50 dX11_isOfKind_1 (by rw [hs1_3]; decide) (by rw [hs1_3]; decide) (by rw [hs1_3]; decide) (by decide) ?_
      refine A_aload_n (pc := 50) (i := 0) dX11_isOfKind_50 rfl rfl ?_
      refine A_instY (pc := 51) (r := (RX0, TX0, 3)) cl_X11_342 hk rfl (Or.inl rfl) dX11_isOfKind_51 ?_
      exact A_zretE (pc := 54) dX11_isOfKind_54 rfl (by first | exact A_zn0 | exact A_zn1 | exact A_znif _) (Nat.zero_le _) (Nat.zero_le _) (by rw [hs1_3]; decide) (rfl)
    by_cases hs1_4 : y = (4)
    · refine A_tableIn (pc := 1) (off := 54) 55 dX11_isOfKind_1 (by rw [hs1_4]; decide) (by rw [hs1_4]; decide) (by rw [hs1_4]; decide) (by decide) ?_
      refine A_aload_n (pc := 55) (i := 0) dX11_isOfKind_55 rfl rfl ?_
      refine A_instN (pc := 56) (r := (RX0, TX0, 3)) cl_X11_347 hk rfl (by decide) dX11_isOfKind_56 ?_
      exact A_zretE (pc := 59) dX11_isOfKind_59 rfl (by first | exact A_zn0 | exact A_zn1 | exact A_znif _) (Nat.zero_le _) (Nat.zero_le _) (by rw [hs1_4]; decide) (rfl)
    by_cases hs1_5 : y = (5)
    · refine A_tableIn (pc := 1) (off := 59) 60 dX11_isOfKind_1 (by rw [hs1_5]; decide) (by rw [hs1_5]; decide) (by rw [hs1_5]; decide) (by decide) ?_
      refine A_aload_n (pc := 60) (i := 0) dX11_isOfKind_60 rfl rfl ?_
      refine A_instN (pc := 61) (r := (RX0, TX0, 3)) cl_X11_350 hk rfl (by decide) dX11_isOfKind_61 ?_
      exact A_zretE (pc := 64) dX11_isOfKind_64 rfl (by first | exact A_zn0 | exact A_zn1 | exact A_znif _) (Nat.zero_le _) (Nat.zero_le _) (by rw [hs1_5]; decide) (rfl)
    by_cases hs1_6 : y = (6)
    · refine A_tableIn (pc := 1) (off := 64) 65 dX11_isOfKind_1 (by rw [hs1_6]; decide) (by rw [hs1_6]; decide) (by rw [hs1_6]; decide) (by decide) ?_
      refine A_aload_n (pc := 65) (i := 0) dX11_isOfKind_65 rfl rfl ?_
      refine A_instN (pc := 66) (r := (RX0, TX0, 3)) cl_X11_353 hk rfl (by decide) dX11_isOfKind_66 ?_
      exact A_zretE (pc := 69) dX11_isOfKind_69 rfl (by first | exact A_zn0 | exact A_zn1 | exact A_znif _) (Nat.zero_le _) (Nat.zero_le _) (by rw [hs1_6]; decide) (rfl)
    refine A_tableOut (pc := 1) 70 dX11_isOfKind_1 (by have := lv_neT hs1_1 (show ((1 : Int32)).toInt = (1) by decide); have := lv_neT hs1_2 (show ((2 : Int32)).toInt = (2) by decide); have := lv_neT hs1_3 (show ((3 : Int32)).toInt = (3) by decide); have := lv_neT hs1_4 (show ((4 : Int32)).toInt = (4) by decide); have := lv_neT hs1_5 (show ((5 : Int32)).toInt = (5) by decide); have := lv_neT hs1_6 (show ((6 : Int32)).toInt = (6) by decide); omega) (by decide) ?_
    refine A_iconst (pc := 70) (1) dX11_isOfKind_70 (by decide) ?_
    exact A_zretE (pc := 71) dX11_isOfKind_71 rfl (by first | exact A_zn0 | exact A_zn1 | exact A_znif _) (Nat.zero_le _) (Nat.zero_le _) (by rw [cs6 hy0 hy6 hs1_1 hs1_2 hs1_3 hs1_4 hs1_5 hs1_6]; decide) (rfl)
  | 4, _, hk =>
    refine am_Met.of (by decide) (Nat.le_of_ble_eq_true rfl) rfl ?_
    refine A_iload_n (pc := 0) (i := 1) dX11_isOfKind_0 rfl rfl ?_
    by_cases hs1_1 : y = (1)
    · refine A_tableIn (pc := 1) (off := 39) 40 dX11_isOfKind_1 (by rw [hs1_1]; decide) (by rw [hs1_1]; decide) (by rw [hs1_1]; decide) (by decide) ?_
      refine A_aload_n (pc := 40) (i := 0) dX11_isOfKind_40 rfl rfl ?_
      refine A_instN (pc := 41) (r := (RX9, TX9, 3)) cl_X11_335 hk rfl (by decide) dX11_isOfKind_41 ?_
      exact A_zretE (pc := 44) dX11_isOfKind_44 rfl (by first | exact A_zn0 | exact A_zn1 | exact A_znif _) (Nat.zero_le _) (Nat.zero_le _) (by rw [hs1_1]; decide) (rfl)
    by_cases hs1_2 : y = (2)
    · refine A_tableIn (pc := 1) (off := 44) 45 dX11_isOfKind_1 (by rw [hs1_2]; decide) (by rw [hs1_2]; decide) (by rw [hs1_2]; decide) (by decide) ?_
      refine A_aload_n (pc := 45) (i := 0) dX11_isOfKind_45 rfl rfl ?_
      refine A_instN (pc := 46) (r := (RX9, TX9, 3)) cl_X11_339 hk rfl (by decide) dX11_isOfKind_46 ?_
      exact A_zretE (pc := 49) dX11_isOfKind_49 rfl (by first | exact A_zn0 | exact A_zn1 | exact A_znif _) (Nat.zero_le _) (Nat.zero_le _) (by rw [hs1_2]; decide) (rfl)
    by_cases hs1_3 : y = (3)
    · refine A_tableIn (pc := 1) (off := 49) 50 dX11_isOfKind_1 (by rw [hs1_3]; decide) (by rw [hs1_3]; decide) (by rw [hs1_3]; decide) (by decide) ?_
      refine A_aload_n (pc := 50) (i := 0) dX11_isOfKind_50 rfl rfl ?_
      refine A_instY (pc := 51) (r := (RX9, TX9, 3)) cl_X11_342 hk rfl (Or.inr (by decide)) dX11_isOfKind_51 ?_
      exact A_zretE (pc := 54) dX11_isOfKind_54 rfl (by first | exact A_zn0 | exact A_zn1 | exact A_znif _) (Nat.zero_le _) (Nat.zero_le _) (by rw [hs1_3]; decide) (rfl)
    by_cases hs1_4 : y = (4)
    · refine A_tableIn (pc := 1) (off := 54) 55 dX11_isOfKind_1 (by rw [hs1_4]; decide) (by rw [hs1_4]; decide) (by rw [hs1_4]; decide) (by decide) ?_
      refine A_aload_n (pc := 55) (i := 0) dX11_isOfKind_55 rfl rfl ?_
      refine A_instY (pc := 56) (r := (RX9, TX9, 3)) cl_X11_347 hk rfl (Or.inl rfl) dX11_isOfKind_56 ?_
      exact A_zretE (pc := 59) dX11_isOfKind_59 rfl (by first | exact A_zn0 | exact A_zn1 | exact A_znif _) (Nat.zero_le _) (Nat.zero_le _) (by rw [hs1_4]; decide) (rfl)
    by_cases hs1_5 : y = (5)
    · refine A_tableIn (pc := 1) (off := 59) 60 dX11_isOfKind_1 (by rw [hs1_5]; decide) (by rw [hs1_5]; decide) (by rw [hs1_5]; decide) (by decide) ?_
      refine A_aload_n (pc := 60) (i := 0) dX11_isOfKind_60 rfl rfl ?_
      refine A_instN (pc := 61) (r := (RX9, TX9, 3)) cl_X11_350 hk rfl (by decide) dX11_isOfKind_61 ?_
      exact A_zretE (pc := 64) dX11_isOfKind_64 rfl (by first | exact A_zn0 | exact A_zn1 | exact A_znif _) (Nat.zero_le _) (Nat.zero_le _) (by rw [hs1_5]; decide) (rfl)
    by_cases hs1_6 : y = (6)
    · refine A_tableIn (pc := 1) (off := 64) 65 dX11_isOfKind_1 (by rw [hs1_6]; decide) (by rw [hs1_6]; decide) (by rw [hs1_6]; decide) (by decide) ?_
      refine A_aload_n (pc := 65) (i := 0) dX11_isOfKind_65 rfl rfl ?_
      refine A_instN (pc := 66) (r := (RX9, TX9, 3)) cl_X11_353 hk rfl (by decide) dX11_isOfKind_66 ?_
      exact A_zretE (pc := 69) dX11_isOfKind_69 rfl (by first | exact A_zn0 | exact A_zn1 | exact A_znif _) (Nat.zero_le _) (Nat.zero_le _) (by rw [hs1_6]; decide) (rfl)
    refine A_tableOut (pc := 1) 70 dX11_isOfKind_1 (by have := lv_neT hs1_1 (show ((1 : Int32)).toInt = (1) by decide); have := lv_neT hs1_2 (show ((2 : Int32)).toInt = (2) by decide); have := lv_neT hs1_3 (show ((3 : Int32)).toInt = (3) by decide); have := lv_neT hs1_4 (show ((4 : Int32)).toInt = (4) by decide); have := lv_neT hs1_5 (show ((5 : Int32)).toInt = (5) by decide); have := lv_neT hs1_6 (show ((6 : Int32)).toInt = (6) by decide); omega) (by decide) ?_
    refine A_iconst (pc := 70) (1) dX11_isOfKind_70 (by decide) ?_
    exact A_zretE (pc := 71) dX11_isOfKind_71 rfl (by first | exact A_zn0 | exact A_zn1 | exact A_znif _) (Nat.zero_le _) (Nat.zero_le _) (by rw [cs6 hy0 hy6 hs1_1 hs1_2 hs1_3 hs1_4 hs1_5 hs1_6]; decide) (rfl)
  | 5, _, hk =>
    refine am_Met.of (by decide) (Nat.le_of_ble_eq_true rfl) rfl ?_
    refine A_iload_n (pc := 0) (i := 1) dX11_isOfKind_0 rfl rfl ?_
    by_cases hs1_1 : y = (1)
    · refine A_tableIn (pc := 1) (off := 39) 40 dX11_isOfKind_1 (by rw [hs1_1]; decide) (by rw [hs1_1]; decide) (by rw [hs1_1]; decide) (by decide) ?_
      refine A_aload_n (pc := 40) (i := 0) dX11_isOfKind_40 rfl rfl ?_
      refine A_instN (pc := 41) (r := (RX10, TX10, 3)) cl_X11_335 hk rfl (by decide) dX11_isOfKind_41 ?_
      exact A_zretE (pc := 44) dX11_isOfKind_44 rfl (by first | exact A_zn0 | exact A_zn1 | exact A_znif _) (Nat.zero_le _) (Nat.zero_le _) (by rw [hs1_1]; decide) (rfl)
    by_cases hs1_2 : y = (2)
    · refine A_tableIn (pc := 1) (off := 44) 45 dX11_isOfKind_1 (by rw [hs1_2]; decide) (by rw [hs1_2]; decide) (by rw [hs1_2]; decide) (by decide) ?_
      refine A_aload_n (pc := 45) (i := 0) dX11_isOfKind_45 rfl rfl ?_
      refine A_instN (pc := 46) (r := (RX10, TX10, 3)) cl_X11_339 hk rfl (by decide) dX11_isOfKind_46 ?_
      exact A_zretE (pc := 49) dX11_isOfKind_49 rfl (by first | exact A_zn0 | exact A_zn1 | exact A_znif _) (Nat.zero_le _) (Nat.zero_le _) (by rw [hs1_2]; decide) (rfl)
    by_cases hs1_3 : y = (3)
    · refine A_tableIn (pc := 1) (off := 49) 50 dX11_isOfKind_1 (by rw [hs1_3]; decide) (by rw [hs1_3]; decide) (by rw [hs1_3]; decide) (by decide) ?_
      refine A_aload_n (pc := 50) (i := 0) dX11_isOfKind_50 rfl rfl ?_
      refine A_instN (pc := 51) (r := (RX10, TX10, 3)) cl_X11_342 hk rfl (by decide) dX11_isOfKind_51 ?_
      exact A_zretE (pc := 54) dX11_isOfKind_54 rfl (by first | exact A_zn0 | exact A_zn1 | exact A_znif _) (Nat.zero_le _) (Nat.zero_le _) (by rw [hs1_3]; decide) (rfl)
    by_cases hs1_4 : y = (4)
    · refine A_tableIn (pc := 1) (off := 54) 55 dX11_isOfKind_1 (by rw [hs1_4]; decide) (by rw [hs1_4]; decide) (by rw [hs1_4]; decide) (by decide) ?_
      refine A_aload_n (pc := 55) (i := 0) dX11_isOfKind_55 rfl rfl ?_
      refine A_instN (pc := 56) (r := (RX10, TX10, 3)) cl_X11_347 hk rfl (by decide) dX11_isOfKind_56 ?_
      exact A_zretE (pc := 59) dX11_isOfKind_59 rfl (by first | exact A_zn0 | exact A_zn1 | exact A_znif _) (Nat.zero_le _) (Nat.zero_le _) (by rw [hs1_4]; decide) (rfl)
    by_cases hs1_5 : y = (5)
    · refine A_tableIn (pc := 1) (off := 59) 60 dX11_isOfKind_1 (by rw [hs1_5]; decide) (by rw [hs1_5]; decide) (by rw [hs1_5]; decide) (by decide) ?_
      refine A_aload_n (pc := 60) (i := 0) dX11_isOfKind_60 rfl rfl ?_
      refine A_instY (pc := 61) (r := (RX10, TX10, 3)) cl_X11_350 hk rfl (Or.inl rfl) dX11_isOfKind_61 ?_
      exact A_zretE (pc := 64) dX11_isOfKind_64 rfl (by first | exact A_zn0 | exact A_zn1 | exact A_znif _) (Nat.zero_le _) (Nat.zero_le _) (by rw [hs1_5]; decide) (rfl)
    by_cases hs1_6 : y = (6)
    · refine A_tableIn (pc := 1) (off := 64) 65 dX11_isOfKind_1 (by rw [hs1_6]; decide) (by rw [hs1_6]; decide) (by rw [hs1_6]; decide) (by decide) ?_
      refine A_aload_n (pc := 65) (i := 0) dX11_isOfKind_65 rfl rfl ?_
      refine A_instN (pc := 66) (r := (RX10, TX10, 3)) cl_X11_353 hk rfl (by decide) dX11_isOfKind_66 ?_
      exact A_zretE (pc := 69) dX11_isOfKind_69 rfl (by first | exact A_zn0 | exact A_zn1 | exact A_znif _) (Nat.zero_le _) (Nat.zero_le _) (by rw [hs1_6]; decide) (rfl)
    refine A_tableOut (pc := 1) 70 dX11_isOfKind_1 (by have := lv_neT hs1_1 (show ((1 : Int32)).toInt = (1) by decide); have := lv_neT hs1_2 (show ((2 : Int32)).toInt = (2) by decide); have := lv_neT hs1_3 (show ((3 : Int32)).toInt = (3) by decide); have := lv_neT hs1_4 (show ((4 : Int32)).toInt = (4) by decide); have := lv_neT hs1_5 (show ((5 : Int32)).toInt = (5) by decide); have := lv_neT hs1_6 (show ((6 : Int32)).toInt = (6) by decide); omega) (by decide) ?_
    refine A_iconst (pc := 70) (1) dX11_isOfKind_70 (by decide) ?_
    exact A_zretE (pc := 71) dX11_isOfKind_71 rfl (by first | exact A_zn0 | exact A_zn1 | exact A_znif _) (Nat.zero_le _) (Nat.zero_le _) (by rw [cs6 hy0 hy6 hs1_1 hs1_2 hs1_3 hs1_4 hs1_5 hs1_6]; decide) (rfl)
  | 6, _, hk =>
    refine am_Met.of (by decide) (Nat.le_of_ble_eq_true rfl) rfl ?_
    refine A_iload_n (pc := 0) (i := 1) dX11_isOfKind_0 rfl rfl ?_
    by_cases hs1_1 : y = (1)
    · refine A_tableIn (pc := 1) (off := 39) 40 dX11_isOfKind_1 (by rw [hs1_1]; decide) (by rw [hs1_1]; decide) (by rw [hs1_1]; decide) (by decide) ?_
      refine A_aload_n (pc := 40) (i := 0) dX11_isOfKind_40 rfl rfl ?_
      refine A_instN (pc := 41) (r := (RX6, TX6, 3)) cl_X11_335 hk rfl (by decide) dX11_isOfKind_41 ?_
      exact A_zretE (pc := 44) dX11_isOfKind_44 rfl (by first | exact A_zn0 | exact A_zn1 | exact A_znif _) (Nat.zero_le _) (Nat.zero_le _) (by rw [hs1_1]; decide) (rfl)
    by_cases hs1_2 : y = (2)
    · refine A_tableIn (pc := 1) (off := 44) 45 dX11_isOfKind_1 (by rw [hs1_2]; decide) (by rw [hs1_2]; decide) (by rw [hs1_2]; decide) (by decide) ?_
      refine A_aload_n (pc := 45) (i := 0) dX11_isOfKind_45 rfl rfl ?_
      refine A_instN (pc := 46) (r := (RX6, TX6, 3)) cl_X11_339 hk rfl (by decide) dX11_isOfKind_46 ?_
      exact A_zretE (pc := 49) dX11_isOfKind_49 rfl (by first | exact A_zn0 | exact A_zn1 | exact A_znif _) (Nat.zero_le _) (Nat.zero_le _) (by rw [hs1_2]; decide) (rfl)
    by_cases hs1_3 : y = (3)
    · refine A_tableIn (pc := 1) (off := 49) 50 dX11_isOfKind_1 (by rw [hs1_3]; decide) (by rw [hs1_3]; decide) (by rw [hs1_3]; decide) (by decide) ?_
      refine A_aload_n (pc := 50) (i := 0) dX11_isOfKind_50 rfl rfl ?_
      refine A_instN (pc := 51) (r := (RX6, TX6, 3)) cl_X11_342 hk rfl (by decide) dX11_isOfKind_51 ?_
      exact A_zretE (pc := 54) dX11_isOfKind_54 rfl (by first | exact A_zn0 | exact A_zn1 | exact A_znif _) (Nat.zero_le _) (Nat.zero_le _) (by rw [hs1_3]; decide) (rfl)
    by_cases hs1_4 : y = (4)
    · refine A_tableIn (pc := 1) (off := 54) 55 dX11_isOfKind_1 (by rw [hs1_4]; decide) (by rw [hs1_4]; decide) (by rw [hs1_4]; decide) (by decide) ?_
      refine A_aload_n (pc := 55) (i := 0) dX11_isOfKind_55 rfl rfl ?_
      refine A_instN (pc := 56) (r := (RX6, TX6, 3)) cl_X11_347 hk rfl (by decide) dX11_isOfKind_56 ?_
      exact A_zretE (pc := 59) dX11_isOfKind_59 rfl (by first | exact A_zn0 | exact A_zn1 | exact A_znif _) (Nat.zero_le _) (Nat.zero_le _) (by rw [hs1_4]; decide) (rfl)
    by_cases hs1_5 : y = (5)
    · refine A_tableIn (pc := 1) (off := 59) 60 dX11_isOfKind_1 (by rw [hs1_5]; decide) (by rw [hs1_5]; decide) (by rw [hs1_5]; decide) (by decide) ?_
      refine A_aload_n (pc := 60) (i := 0) dX11_isOfKind_60 rfl rfl ?_
      refine A_instY (pc := 61) (r := (RX6, TX6, 3)) cl_X11_350 hk rfl (Or.inr (by decide)) dX11_isOfKind_61 ?_
      exact A_zretE (pc := 64) dX11_isOfKind_64 rfl (by first | exact A_zn0 | exact A_zn1 | exact A_znif _) (Nat.zero_le _) (Nat.zero_le _) (by rw [hs1_5]; decide) (rfl)
    by_cases hs1_6 : y = (6)
    · refine A_tableIn (pc := 1) (off := 64) 65 dX11_isOfKind_1 (by rw [hs1_6]; decide) (by rw [hs1_6]; decide) (by rw [hs1_6]; decide) (by decide) ?_
      refine A_aload_n (pc := 65) (i := 0) dX11_isOfKind_65 rfl rfl ?_
      refine A_instY (pc := 66) (r := (RX6, TX6, 3)) cl_X11_353 hk rfl (Or.inl rfl) dX11_isOfKind_66 ?_
      exact A_zretE (pc := 69) dX11_isOfKind_69 rfl (by first | exact A_zn0 | exact A_zn1 | exact A_znif _) (Nat.zero_le _) (Nat.zero_le _) (by rw [hs1_6]; decide) (rfl)
    refine A_tableOut (pc := 1) 70 dX11_isOfKind_1 (by have := lv_neT hs1_1 (show ((1 : Int32)).toInt = (1) by decide); have := lv_neT hs1_2 (show ((2 : Int32)).toInt = (2) by decide); have := lv_neT hs1_3 (show ((3 : Int32)).toInt = (3) by decide); have := lv_neT hs1_4 (show ((4 : Int32)).toInt = (4) by decide); have := lv_neT hs1_5 (show ((5 : Int32)).toInt = (5) by decide); have := lv_neT hs1_6 (show ((6 : Int32)).toInt = (6) by decide); omega) (by decide) ?_
    refine A_iconst (pc := 70) (1) dX11_isOfKind_70 (by decide) ?_
    exact A_zretE (pc := 71) dX11_isOfKind_71 rfl (by first | exact A_zn0 | exact A_zn1 | exact A_znif _) (Nat.zero_le _) (Nat.zero_le _) (by rw [cs6 hy0 hy6 hs1_1 hs1_2 hs1_3 hs1_4 hs1_5 hs1_6]; decide) (rfl)
noncomputable def c_as (x y : Int32) (nl : Nat) (ln : Nat → am_N) (lk : Nat → Nat) (iv : am_iv) : Int32 × am_iv := if sr_b (0 ≤ x ∧ x < nI nl) = 0 then (-1000000001, er_heap 1 iv) else if sr_b (0 ≤ y ∧ y ≤ 6) = 0 then (-1000000001, er_heap 1 iv) else if sr_b (y = 0 ∨ y = nI (lk x.toNatClampNeg) ∨ (y = 3 ∧ nI (lk x.toNatClampNeg) = 4) ∨ (y = 5 ∧ nI (lk x.toNatClampNeg) = 6)) = 0 then (-1000000005, er_heap 5 iv) else (iv (ln x.toNatClampNeg) 2, iv)
set_option maxRecDepth 20000 in
theorem p_as (l : Launch) {kd : am_kd} {rv : am_rv} {iv : am_iv} (hS : sh kd rv) (x y : Int32) (nl : Nat) (ln : Nat → am_N) (lk : Nat → Nat) (hl : rm_laws kd rv iv 0 nl ln lk) : am_Met l mX11_as (am_rm 2 0 0) [am_P (1, 0, 0), am_I x, am_I y] kd rv iv (am_ret (some (am_I (c_as x y nl ln lk iv).1)) kd rv (c_as x y nl ln lk iv).2) := by
  refine am_Met.of (by decide) (Nat.le_of_ble_eq_true rfl) rfl ?_
  refine A_aload_n (pc := 0) (i := 0) dX11_as_0 rfl rfl ?_
  refine A_getr (pc := 1) 0 fl_X11_12_11 hS.k1 rfl (hS.w1 (k := 0) (by decide)) dX11_as_1 ?_
  refine A_iload_n (pc := 4) (i := 1) dX11_as_4 rfl rfl ?_
  refine A_callV1 (pc := 5) cv_X11_109 (s_hasLaw l hS 0 (by decide) nl ln lk hl _) (hS.k2 (by decide)) rfl rfl rfl rfl (Nat.le_of_ble_eq_true rfl) ⟨(Nat.le_of_ble_eq_true rfl), (Nat.le_of_ble_eq_true rfl)⟩ ⟨Nat.zero_le _, Nat.zero_le _⟩ dX11_as_5 ?_
  refine A_ifeq (pc := 8) 21 dX11_as_8 (by decide) (fun hb8 => ?_) (fun hb8 => ?_)
  · refine A_aload_n (pc := 21) (i := 0) dX11_as_21 rfl rfl ?_
    refine A_ldc (pc := 22) (List.mem_cons_of_mem _ kc_X11_60) dX11_as_22 ?_
    refine A_callV1 (pc := 24) cv_X11_61 (s_err1 l hS) hS.k1 rfl rfl rfl rfl (Nat.le_of_ble_eq_true rfl) ⟨(Nat.le_of_ble_eq_true rfl), (Nat.le_of_ble_eq_true rfl)⟩ ⟨Nat.zero_le _, Nat.zero_le _⟩ dX11_as_24 ?_
    exact A_iretE (pc := 27) dX11_as_27 rfl (Nat.zero_le _) (Nat.zero_le _) (by rw [c_as, if_pos hb8]) (by rw [c_as, if_pos hb8])
  · refine A_iload_n (pc := 11) (i := 2) dX11_as_11 rfl rfl ?_
    refine A_iconst (pc := 12) (0) dX11_as_12 (by decide) ?_
    refine A_bipush (pc := 13) (6) dX11_as_13 (by decide) ?_
    refine A_callS1 (pc := 15) cs_X11_56 (s_isHeld l _ _ _) rfl rfl (Nat.le_of_ble_eq_true rfl) ⟨(Nat.le_of_ble_eq_true rfl), (Nat.le_of_ble_eq_true rfl)⟩ ⟨Nat.zero_le _, Nat.zero_le _⟩ dX11_as_15 ?_
    refine A_ifne (pc := 18) 28 dX11_as_18 (by decide) (fun hb18 => ?_) (fun hb18 => ?_)
    · have hx := (sr_b_1 _).mp hb8
      have hxl : x.toNatClampNeg < nl := nI_cl_lt hx.1 hx.2 (by have := hl.2.1; omega)
      have hx6 : x.toNatClampNeg < 6 := by have := hl.2.1; omega
      obtain ⟨hl1, hl2, hl3, hl4⟩ := hl.2.2 _ hxl
      have hy := (sr_b_1 _).mp hb18
      refine A_aload_n (pc := 28) (i := 0) dX11_as_28 rfl rfl ?_
      refine A_getr (pc := 29) 0 fl_X11_12_11 hS.k1 rfl (hS.w1 (k := 0) (by decide)) dX11_as_29 ?_
      refine A_getr (pc := 32) 3 fl_X11_112_4 (hS.k2 (by decide)) rfl (hS.w2_3 (by decide)) dX11_as_32 ?_
      refine A_iload_n (pc := 35) (i := 1) dX11_as_35 rfl rfl ?_
      refine A_top (nI_cl hx.1) ?_
      refine A_aaldN (pc := 36) (hS.k7 (by decide)) (by decide) (by decide) hx6 (by decide) hl1 dX11_as_36 ?_
      refine A_iload_n (pc := 37) (i := 2) dX11_as_37 rfl rfl ?_
      refine A_callS1 (pc := 38) cs_X11_127 (s_isOfKind l _ _ hl2 hl3 y hy.1 hy.2) rfl rfl (Nat.le_of_ble_eq_true rfl) ⟨(Nat.le_of_ble_eq_true rfl), (Nat.le_of_ble_eq_true rfl)⟩ ⟨Nat.zero_le _, Nat.zero_le _⟩ dX11_as_38 ?_
      refine A_ifeq (pc := 41) 59 dX11_as_41 (by decide) (fun hb41 => ?_) (fun hb41 => ?_)
      · refine A_aload_n (pc := 59) (i := 0) dX11_as_59 rfl rfl ?_
        refine A_ldc (pc := 60) (List.mem_cons_of_mem _ kc_X11_131) dX11_as_60 ?_
        refine A_callV1 (pc := 62) cv_X11_61 (s_err5 l hS) hS.k1 rfl rfl rfl rfl (Nat.le_of_ble_eq_true rfl) ⟨(Nat.le_of_ble_eq_true rfl), (Nat.le_of_ble_eq_true rfl)⟩ ⟨Nat.zero_le _, Nat.zero_le _⟩ dX11_as_62 ?_
        exact A_iretE (pc := 65) dX11_as_65 rfl (Nat.zero_le _) (Nat.zero_le _) (by rw [c_as, if_neg hb8, if_neg hb18, if_pos hb41]) (by rw [c_as, if_neg hb8, if_neg hb18, if_pos hb41])
      · refine A_aload_n (pc := 44) (i := 0) dX11_as_44 rfl rfl ?_
        refine A_getr (pc := 45) 0 fl_X11_12_11 hS.k1 rfl (hS.w1 (k := 0) (by decide)) dX11_as_45 ?_
        refine A_getr (pc := 48) 3 fl_X11_112_4 (hS.k2 (by decide)) rfl (hS.w2_3 (by decide)) dX11_as_48 ?_
        refine A_iload_n (pc := 51) (i := 1) dX11_as_51 rfl rfl ?_
        refine A_top (nI_cl hx.1) ?_
        refine A_aaldN (pc := 52) (hS.k7 (by decide)) (by decide) (by decide) hx6 (by decide) hl1 dX11_as_52 ?_
        refine G_m_X11 (pc := 53) hl2 hl3 rfl dX11_as_53 ?_
        refine A_goto (pc := 56) 65 dX11_as_56 (by decide) ?_
        exact A_iretE (pc := 65) dX11_as_65 rfl (Nat.zero_le _) (Nat.zero_le _) (by rw [c_as, if_neg hb8, if_neg hb18, if_neg hb41]) (by rw [c_as, if_neg hb8, if_neg hb18, if_neg hb41])
    · refine A_aload_n (pc := 21) (i := 0) dX11_as_21 rfl rfl ?_
      refine A_ldc (pc := 22) (List.mem_cons_of_mem _ kc_X11_60) dX11_as_22 ?_
      refine A_callV1 (pc := 24) cv_X11_61 (s_err1 l hS) hS.k1 rfl rfl rfl rfl (Nat.le_of_ble_eq_true rfl) ⟨(Nat.le_of_ble_eq_true rfl), (Nat.le_of_ble_eq_true rfl)⟩ ⟨Nat.zero_le _, Nat.zero_le _⟩ dX11_as_24 ?_
      exact A_iretE (pc := 27) dX11_as_27 rfl (Nat.zero_le _) (Nat.zero_le _) (by rw [c_as, if_neg hb8, if_pos hb18]) (by rw [c_as, if_neg hb8, if_pos hb18])
noncomputable def d_as (x y : Int32) (iv : am_iv) : Int32 × am_iv := if sr_b (0 ≤ x ∧ x ≤ iv (31, 0, 0) 2 - 1) = 0 then (-1000000001, rx_find 1 iv) else if sr_b (0 ≤ y ∧ y ≤ 6) = 0 then (-1000000001, rx_find 1 iv) else if sr_b (y = 0 ∨ y = iv (31, 0, 0) (20 + 2 * x.toNatClampNeg) ∨ (y = 3 ∧ iv (31, 0, 0) (20 + 2 * x.toNatClampNeg) = 4) ∨ (y = 5 ∧ iv (31, 0, 0) (20 + 2 * x.toNatClampNeg) = 6)) = 0 then (-1000000005, rx_find 5 iv) else (iv (31, 0, 0) (20 + 2 * x.toNatClampNeg + 1), iv)
set_option maxRecDepth 20000 in
theorem q_as (l : Launch) {kd : am_kd} {rv : am_rv} {iv : am_iv} (hR : shr kd rv) (x y : Int32) (nl : Nat) (lk : Nat → Nat) (hnl : iv (31, 0, 0) 2 = nI nl) (hnl6 : nl ≤ 6) (hlk : ∀ j, j < nl → lk j < 7 ∧ iv (31, 0, 0) (20 + 2 * j) = nI (lk j)) : am_Met l mX12_as (am_rm 2 0 0) [am_P (30, 0, 0), am_I x, am_I y] kd rv iv (am_ret (some (am_I (d_as x y iv).1)) kd rv (d_as x y iv).2) := by
  refine am_Met.of (by decide) (Nat.le_of_ble_eq_true rfl) rfl ?_
  refine A_aload_n (pc := 0) (i := 0) dX12_as_0 rfl rfl ?_
  refine A_iload_n (pc := 1) (i := 1) dX12_as_1 rfl rfl ?_
  refine A_callV1 (pc := 2) cv_X12_91 (r_isLaw l hR _) hR.1 rfl rfl rfl rfl (Nat.le_of_ble_eq_true rfl) ⟨(Nat.le_of_ble_eq_true rfl), (Nat.le_of_ble_eq_true rfl)⟩ ⟨Nat.zero_le _, Nat.zero_le _⟩ dX12_as_2 ?_
  refine A_ifeq (pc := 5) 20 dX12_as_5 (by decide) (fun hb5 => ?_) (fun hb5 => ?_)
  · refine A_aload_n (pc := 20) (i := 0) dX12_as_20 rfl rfl ?_
    refine A_iconst (pc := 21) (1) dX12_as_21 (by decide) ?_
    refine A_callV1 (pc := 22) cv_X12_65 (r_fnd1 l hR) hR.1 rfl rfl rfl rfl (Nat.le_of_ble_eq_true rfl) ⟨(Nat.le_of_ble_eq_true rfl), (Nat.le_of_ble_eq_true rfl)⟩ ⟨Nat.zero_le _, Nat.zero_le _⟩ dX12_as_22 ?_
    exact A_iretE (pc := 25) dX12_as_25 rfl (Nat.zero_le _) (Nat.zero_le _) (by rw [d_as, if_pos hb5]) (by rw [d_as, if_pos hb5])
  · refine A_iload_n (pc := 8) (i := 2) dX12_as_8 rfl rfl ?_
    refine A_i2l (pc := 9) dX12_as_9 ?_
    refine A_lconst (pc := 10) (0) dX12_as_10 (by decide) ?_
    refine A_topJ (y := Int32.toInt64 (0)) (by decide +kernel) ?_
    refine A_ldc2 (pc := 11) (List.mem_cons_of_mem _ kc_X12_87) dX12_as_11 ?_
    refine A_topJ (y := Int32.toInt64 (6)) (by decide +kernel) ?_
    refine A_callS1 (pc := 14) cs_X12_48 (r_in l _ _ _) rfl rfl (Nat.le_of_ble_eq_true rfl) ⟨(Nat.le_of_ble_eq_true rfl), (Nat.le_of_ble_eq_true rfl)⟩ ⟨Nat.zero_le _, Nat.zero_le _⟩ dX12_as_14 ?_
    refine A_ifne (pc := 17) 26 dX12_as_17 (by decide) (fun hb17 => ?_) (fun hb17 => ?_)
    · have hx := (sr_b_1 _).mp hb5
      have hxl : x.toNatClampNeg < nl := nI_m1n (by omega) hx.1 (hnl ▸ hx.2)
      have hx6 : x.toNatClampNeg < 6 := by omega
      obtain ⟨hk7, hkk⟩ := hlk _ hxl
      refine A_aload_n (pc := 26) (i := 0) dX12_as_26 rfl rfl ?_
      refine A_getr (pc := 27) 0 fl_X12_7_12 hR.1 rfl hR.w0 dX12_as_27 ?_
      refine A_bipush (pc := 30) (20) dX12_as_30 (by decide) ?_
      refine A_iconst (pc := 32) (2) dX12_as_32 (by decide) ?_
      refine A_iload_n (pc := 33) (i := 1) dX12_as_33 rfl rfl ?_
      refine A_imul (pc := 34) dX12_as_34 ?_
      refine A_iadd (pc := 35) dX12_as_35 ?_
      refine A_top (rx_lawx0 x hx.1) ?_
      refine A_ialdN (pc := 36) hR.k0 (show 20 + 2 * x.toNatClampNeg < 300 by omega) (by decide) dX12_as_36 ?_
      refine A_iload_n (pc := 37) (i := 2) dX12_as_37 rfl rfl ?_
      refine A_callS1 (pc := 38) cs_X12_96 (r_isOf l _ _) rfl rfl (Nat.le_of_ble_eq_true rfl) ⟨(Nat.le_of_ble_eq_true rfl), (Nat.le_of_ble_eq_true rfl)⟩ ⟨Nat.zero_le _, Nat.zero_le _⟩ dX12_as_38 ?_
      refine A_ifeq (pc := 41) 60 dX12_as_41 (by decide) (fun hb41 => ?_) (fun hb41 => ?_)
      · refine A_aload_n (pc := 60) (i := 0) dX12_as_60 rfl rfl ?_
        refine A_iconst (pc := 61) (5) dX12_as_61 (by decide) ?_
        refine A_callV1 (pc := 62) cv_X12_65 (r_fnd5 l hR) hR.1 rfl rfl rfl rfl (Nat.le_of_ble_eq_true rfl) ⟨(Nat.le_of_ble_eq_true rfl), (Nat.le_of_ble_eq_true rfl)⟩ ⟨Nat.zero_le _, Nat.zero_le _⟩ dX12_as_62 ?_
        exact A_iretE (pc := 65) dX12_as_65 rfl (Nat.zero_le _) (Nat.zero_le _) (by rw [d_as, if_neg hb5, if_neg hb17, if_pos hb41]) (by rw [d_as, if_neg hb5, if_neg hb17, if_pos hb41])
      · refine A_aload_n (pc := 44) (i := 0) dX12_as_44 rfl rfl ?_
        refine A_getr (pc := 45) 0 fl_X12_7_12 hR.1 rfl hR.w0 dX12_as_45 ?_
        refine A_bipush (pc := 48) (20) dX12_as_48 (by decide) ?_
        refine A_iconst (pc := 50) (2) dX12_as_50 (by decide) ?_
        refine A_iload_n (pc := 51) (i := 1) dX12_as_51 rfl rfl ?_
        refine A_imul (pc := 52) dX12_as_52 ?_
        refine A_iadd (pc := 53) dX12_as_53 ?_
        refine A_iconst (pc := 54) (1) dX12_as_54 (by decide) ?_
        refine A_iadd (pc := 55) dX12_as_55 ?_
        refine A_top (rx_lawx x hx.1 1) ?_
        refine A_ialdN (pc := 56) hR.k0 (show 20 + 2 * x.toNatClampNeg + 1 < 300 by omega) (by decide) dX12_as_56 ?_
        refine A_goto (pc := 57) 65 dX12_as_57 (by decide) ?_
        exact A_iretE (pc := 65) dX12_as_65 rfl (Nat.zero_le _) (Nat.zero_le _) (by rw [d_as, if_neg hb5, if_neg hb17, if_neg hb41]) (by rw [d_as, if_neg hb5, if_neg hb17, if_neg hb41])
    · refine A_aload_n (pc := 20) (i := 0) dX12_as_20 rfl rfl ?_
      refine A_iconst (pc := 21) (1) dX12_as_21 (by decide) ?_
      refine A_callV1 (pc := 22) cv_X12_65 (r_fnd1 l hR) hR.1 rfl rfl rfl rfl (Nat.le_of_ble_eq_true rfl) ⟨(Nat.le_of_ble_eq_true rfl), (Nat.le_of_ble_eq_true rfl)⟩ ⟨Nat.zero_le _, Nat.zero_le _⟩ dX12_as_22 ?_
      exact A_iretE (pc := 25) dX12_as_25 rfl (Nat.zero_le _) (Nat.zero_le _) (by rw [d_as, if_neg hb5, if_pos hb17]) (by rw [d_as, if_neg hb5, if_pos hb17])
noncomputable def c_does (x y z v : Int32) (nl : Nat) (ln : Nat → am_N) (lk : Nat → Nat) (iv : am_iv) : Int32 × am_iv := if sr_b (0 ≤ x ∧ x < nI nl) = 0 then (-1000000001, er_heap 1 iv) else if sr_b (0 ≤ y ∧ y < iv (2, 0, 0) 1) = 0 then (-1000000001, er_heap 1 iv) else if sr_b (0 ≤ v ∧ v ≤ 3) = 0 then (-1000000001, er_heap 1 iv) else if v = 2 then (lw_spreads (lk x.toNatClampNeg) (iv (ln x.toNatClampNeg) 2) (iv (4, 0, y.toNatClampNeg)) (iv (2, 0, 0) 6), iv) else if v = 3 then (lw_lifts (lk x.toNatClampNeg) (iv (ln x.toNatClampNeg) 2) (iv (4, 0, y.toNatClampNeg)) (iv (2, 0, 0) 6), iv) else if sr_b (0 ≤ z ∧ z < iv (2, 0, 0) 1) = 0 then (-1000000001, er_heap 1 iv) else if y = z then (-1000000001, er_heap 1 iv) else if v = 0 then (lw_widens (lk x.toNatClampNeg) (iv (ln x.toNatClampNeg) 2) (iv (4, 0, y.toNatClampNeg)) (iv (4, 0, z.toNatClampNeg)), iv) else ((if rg_bit (lw_ends (lk x.toNatClampNeg) (iv (ln x.toNatClampNeg) 2) (iv (4, 0, y.toNatClampNeg)) (iv (4, 0, z.toNatClampNeg))) = 0 then 0 else 1), iv)
set_option maxRecDepth 20000 in
theorem p_does (l : Launch) {kd : am_kd} {rv : am_rv} {iv : am_iv} (hS : sh kd rv) (x y z v : Int32) (n : Nat) (hn : iv (2, 0, 0) 1 = nI n) (hn8 : n ≤ 8) (hok : ∀ r, r < n → rok (iv (4, 0, r))) (nl : Nat) (ln : Nat → am_N) (lk : Nat → Nat) (hl : rm_laws kd rv iv 0 nl ln lk) : am_Met l mX11_does (am_rm 6 0 0) [am_P (1, 0, 0), am_I x, am_I y, am_I z, am_I v] kd rv iv (am_ret (some (am_I (c_does x y z v nl ln lk iv).1)) kd rv (c_does x y z v nl ln lk iv).2) := by
  refine am_Met.of (by decide) (Nat.le_of_ble_eq_true rfl) rfl ?_
  refine A_aload_n (pc := 0) (i := 0) dX11_does_0 rfl rfl ?_
  refine A_getr (pc := 1) 0 fl_X11_12_11 hS.k1 rfl (hS.w1 (k := 0) (by decide)) dX11_does_1 ?_
  refine A_iload_n (pc := 4) (i := 1) dX11_does_4 rfl rfl ?_
  refine A_callV1 (pc := 5) cv_X11_109 (s_hasLaw l hS 0 (by decide) nl ln lk hl _) (hS.k2 (by decide)) rfl rfl rfl rfl (Nat.le_of_ble_eq_true rfl) ⟨(Nat.le_of_ble_eq_true rfl), (Nat.le_of_ble_eq_true rfl)⟩ ⟨Nat.zero_le _, Nat.zero_le _⟩ dX11_does_5 ?_
  refine A_ifeq (pc := 8) 32 dX11_does_8 (by decide) (fun hb8 => ?_) (fun hb8 => ?_)
  · refine A_aload_n (pc := 32) (i := 0) dX11_does_32 rfl rfl ?_
    refine A_ldc (pc := 33) (List.mem_cons_of_mem _ kc_X11_60) dX11_does_33 ?_
    refine A_callV1 (pc := 35) cv_X11_61 (s_err1 l hS) hS.k1 rfl rfl rfl rfl (Nat.le_of_ble_eq_true rfl) ⟨(Nat.le_of_ble_eq_true rfl), (Nat.le_of_ble_eq_true rfl)⟩ ⟨Nat.zero_le _, Nat.zero_le _⟩ dX11_does_35 ?_
    exact A_iretE (pc := 38) dX11_does_38 rfl (Nat.zero_le _) (Nat.zero_le _) (by rw [c_does, if_pos hb8]) (by rw [c_does, if_pos hb8])
  · refine A_aload_n (pc := 11) (i := 0) dX11_does_11 rfl rfl ?_
    refine A_getr (pc := 12) 0 fl_X11_12_11 hS.k1 rfl (hS.w1 (k := 0) (by decide)) dX11_does_12 ?_
    refine A_iload_n (pc := 15) (i := 2) dX11_does_15 rfl rfl ?_
    refine A_callV1 (pc := 16) cv_X11_74 (s_hasRing l hS _ (by decide) _) (hS.k2 (by decide)) rfl rfl rfl rfl (Nat.le_of_ble_eq_true rfl) ⟨(Nat.le_of_ble_eq_true rfl), (Nat.le_of_ble_eq_true rfl)⟩ ⟨Nat.zero_le _, Nat.zero_le _⟩ dX11_does_16 ?_
    refine A_ifeq (pc := 19) 32 dX11_does_19 (by decide) (fun hb19 => ?_) (fun hb19 => ?_)
    · refine A_aload_n (pc := 32) (i := 0) dX11_does_32 rfl rfl ?_
      refine A_ldc (pc := 33) (List.mem_cons_of_mem _ kc_X11_60) dX11_does_33 ?_
      refine A_callV1 (pc := 35) cv_X11_61 (s_err1 l hS) hS.k1 rfl rfl rfl rfl (Nat.le_of_ble_eq_true rfl) ⟨(Nat.le_of_ble_eq_true rfl), (Nat.le_of_ble_eq_true rfl)⟩ ⟨Nat.zero_le _, Nat.zero_le _⟩ dX11_does_35 ?_
      exact A_iretE (pc := 38) dX11_does_38 rfl (Nat.zero_le _) (Nat.zero_le _) (by rw [c_does, if_neg hb8, if_pos hb19]) (by rw [c_does, if_neg hb8, if_pos hb19])
    · refine A_iload (pc := 22) (i := 4) dX11_does_22 rfl ?_
      refine A_iconst (pc := 24) (0) dX11_does_24 (by decide) ?_
      refine A_iconst (pc := 25) (3) dX11_does_25 (by decide) ?_
      refine A_callS1 (pc := 26) cs_X11_56 (s_isHeld l _ _ _) rfl rfl (Nat.le_of_ble_eq_true rfl) ⟨(Nat.le_of_ble_eq_true rfl), (Nat.le_of_ble_eq_true rfl)⟩ ⟨Nat.zero_le _, Nat.zero_le _⟩ dX11_does_26 ?_
      refine A_ifne (pc := 29) 39 dX11_does_29 (by decide) (fun hb29 => ?_) (fun hb29 => ?_)
      · have hx := (sr_b_1 _).mp hb8
        have hxl : x.toNatClampNeg < nl := nI_cl_lt hx.1 hx.2 (by have := hl.2.1; omega)
        have hx6 : x.toNatClampNeg < 6 := by have := hl.2.1; omega
        obtain ⟨hl1, hl2, hl3, hl4⟩ := hl.2.2 _ hxl
        have hy := (sr_b_1 _).mp hb19
        have hyn : y.toNatClampNeg < n := nI_cl_lt hy.1 (hn ▸ hy.2) (by omega)
        have hy8 : y.toNatClampNeg < 8 := by omega
        refine A_aload_n (pc := 39) (i := 0) dX11_does_39 rfl rfl ?_
        refine A_getr (pc := 40) 0 fl_X11_12_11 hS.k1 rfl (hS.w1 (k := 0) (by decide)) dX11_does_40 ?_
        refine A_getr (pc := 43) 3 fl_X11_112_4 (hS.k2 (by decide)) rfl (hS.w2_3 (by decide)) dX11_does_43 ?_
        refine A_iload_n (pc := 46) (i := 1) dX11_does_46 rfl rfl ?_
        refine A_top (nI_cl hx.1) ?_
        refine A_aaldN (pc := 47) (hS.k7 (by decide)) (by decide) (by decide) hx6 (by decide) hl1 dX11_does_47 ?_
        refine A_ast5 (pc := 48) dX11_does_48 (Nat.le_of_ble_eq_true rfl) rfl ?_
        refine A_aload_n (pc := 50) (i := 0) dX11_does_50 rfl rfl ?_
        refine A_getr (pc := 51) 0 fl_X11_12_11 hS.k1 rfl (hS.w1 (k := 0) (by decide)) dX11_does_51 ?_
        refine A_getr (pc := 54) 0 fl_X11_78_4 (hS.k2 (by decide)) rfl (hS.w2_0 (by decide)) dX11_does_54 ?_
        refine A_iload_n (pc := 57) (i := 2) dX11_does_57 rfl rfl ?_
        refine A_top (nI_cl hy.1) ?_
        refine A_aaldN (pc := 58) (hS.k3 (by decide)) (by decide) (by decide) hy8 (by decide) (hS.w3 (by decide) hy8) dX11_does_58 ?_
        refine A_ast6 (pc := 59) dX11_does_59 (Nat.le_of_ble_eq_true rfl) rfl ?_
        refine A_iload (pc := 61) (i := 4) dX11_does_61 rfl ?_
        refine A_iconst (pc := 63) (2) dX11_does_63 (by decide) ?_
        refine A_icmpne (pc := 64) 82 dX11_does_64 (by decide) (fun hb64 => ?_) (fun hb64 => ?_)
        · refine A_iload (pc := 82) (i := 4) dX11_does_82 rfl ?_
          refine A_iconst (pc := 84) (3) dX11_does_84 (by decide) ?_
          refine A_icmpne (pc := 85) 103 dX11_does_85 (by decide) (fun hb85 => ?_) (fun hb85 => ?_)
          · refine A_aload_n (pc := 103) (i := 0) dX11_does_103 rfl rfl ?_
            refine A_getr (pc := 104) 0 fl_X11_12_11 hS.k1 rfl (hS.w1 (k := 0) (by decide)) dX11_does_104 ?_
            refine A_iload_n (pc := 107) (i := 3) dX11_does_107 rfl rfl ?_
            refine A_callV1 (pc := 108) cv_X11_74 (s_hasRing l hS _ (by decide) _) (hS.k2 (by decide)) rfl rfl rfl rfl (Nat.le_of_ble_eq_true rfl) ⟨(Nat.le_of_ble_eq_true rfl), (Nat.le_of_ble_eq_true rfl)⟩ ⟨Nat.zero_le _, Nat.zero_le _⟩ dX11_does_108 ?_
            refine A_ifeq (pc := 111) 119 dX11_does_111 (by decide) (fun hb111 => ?_) (fun hb111 => ?_)
            · refine A_aload_n (pc := 119) (i := 0) dX11_does_119 rfl rfl ?_
              refine A_ldc (pc := 120) (List.mem_cons_of_mem _ kc_X11_60) dX11_does_120 ?_
              refine A_callV1 (pc := 122) cv_X11_61 (s_err1 l hS) hS.k1 rfl rfl rfl rfl (Nat.le_of_ble_eq_true rfl) ⟨(Nat.le_of_ble_eq_true rfl), (Nat.le_of_ble_eq_true rfl)⟩ ⟨Nat.zero_le _, Nat.zero_le _⟩ dX11_does_122 ?_
              exact A_iretE (pc := 125) dX11_does_125 rfl (Nat.zero_le _) (Nat.zero_le _) (by rw [c_does, if_neg hb8, if_neg hb19, if_neg hb29, if_neg hb64, if_neg hb85, if_pos hb111]) (by rw [c_does, if_neg hb8, if_neg hb19, if_neg hb29, if_neg hb64, if_neg hb85, if_pos hb111])
            · refine A_iload_n (pc := 114) (i := 2) dX11_does_114 rfl rfl ?_
              refine A_iload_n (pc := 115) (i := 3) dX11_does_115 rfl rfl ?_
              refine A_icmpne (pc := 116) 126 dX11_does_116 (by decide) (fun hb116 => ?_) (fun hb116 => ?_)
              · have hz := (sr_b_1 _).mp hb111
                have hzn : z.toNatClampNeg < n := nI_cl_lt hz.1 (hn ▸ hz.2) (by omega)
                have hz8 : z.toNatClampNeg < 8 := by omega
                refine A_aload_n (pc := 126) (i := 0) dX11_does_126 rfl rfl ?_
                refine A_getr (pc := 127) 0 fl_X11_12_11 hS.k1 rfl (hS.w1 (k := 0) (by decide)) dX11_does_127 ?_
                refine A_getr (pc := 130) 0 fl_X11_78_4 (hS.k2 (by decide)) rfl (hS.w2_0 (by decide)) dX11_does_130 ?_
                refine A_iload_n (pc := 133) (i := 3) dX11_does_133 rfl rfl ?_
                refine A_top (nI_cl hz.1) ?_
                refine A_aaldN (pc := 134) (hS.k3 (by decide)) (by decide) (by decide) hz8 (by decide) (hS.w3 (by decide) hz8) dX11_does_134 ?_
                refine A_ast7 (pc := 135) dX11_does_135 (Nat.le_of_ble_eq_true rfl) rfl ?_
                refine A_iload (pc := 137) (i := 4) dX11_does_137 rfl ?_
                refine A_ifne (pc := 139) 154 dX11_does_139 (by decide) (fun hb139 => ?_) (fun hb139 => ?_)
                · refine A_aload (pc := 154) (i := 5) dX11_does_154 rfl ?_
                  refine A_aload (pc := 156) (i := 6) dX11_does_156 rfl ?_
                  refine A_aload (pc := 158) (i := 7) dX11_does_158 rfl ?_
                  refine V_endsBy_X11 (pc := 160) hl2 hl3 (hS.k4 (by decide) hy8) (hS.k4 (by decide) hz8) rfl (Nat.le_of_ble_eq_true rfl) ⟨(Nat.le_of_ble_eq_true rfl), (Nat.le_of_ble_eq_true rfl)⟩ ⟨Nat.zero_le _, Nat.zero_le _⟩ dX11_does_160 ?_
                  refine A_callS1 (pc := 163) cs_X11_91 (s_asBit l _) rfl rfl (Nat.le_of_ble_eq_true rfl) ⟨(Nat.le_of_ble_eq_true rfl), (Nat.le_of_ble_eq_true rfl)⟩ ⟨Nat.zero_le _, Nat.zero_le _⟩ dX11_does_163 ?_
                  exact A_iretE (pc := 166) dX11_does_166 rfl (Nat.zero_le _) (Nat.zero_le _) (by rw [c_does, if_neg hb8, if_neg hb19, if_neg hb29, if_neg hb64, if_neg hb85, if_neg hb111, if_neg hb116, if_neg hb139]) (by rw [c_does, if_neg hb8, if_neg hb19, if_neg hb29, if_neg hb64, if_neg hb85, if_neg hb111, if_neg hb116, if_neg hb139])
                · refine A_aload (pc := 142) (i := 5) dX11_does_142 rfl ?_
                  refine A_aload (pc := 144) (i := 6) dX11_does_144 rfl ?_
                  refine A_aload (pc := 146) (i := 7) dX11_does_146 rfl ?_
                  refine V_widens_X11 (pc := 148) hl2 hl3 (hS.k4 (by decide) hy8) (hS.k4 (by decide) hz8) (rok_gap (hok _ hyn) (hok _ hzn)) rfl (Nat.le_of_ble_eq_true rfl) ⟨(Nat.le_of_ble_eq_true rfl), (Nat.le_of_ble_eq_true rfl)⟩ ⟨Nat.zero_le _, Nat.zero_le _⟩ dX11_does_148 ?_
                  refine A_goto (pc := 151) 166 dX11_does_151 (by decide) ?_
                  exact A_iretE (pc := 166) dX11_does_166 rfl (Nat.zero_le _) (Nat.zero_le _) (by rw [c_does, if_neg hb8, if_neg hb19, if_neg hb29, if_neg hb64, if_neg hb85, if_neg hb111, if_neg hb116, if_pos hb139]) (by rw [c_does, if_neg hb8, if_neg hb19, if_neg hb29, if_neg hb64, if_neg hb85, if_neg hb111, if_neg hb116, if_pos hb139])
              · refine A_aload_n (pc := 119) (i := 0) dX11_does_119 rfl rfl ?_
                refine A_ldc (pc := 120) (List.mem_cons_of_mem _ kc_X11_60) dX11_does_120 ?_
                refine A_callV1 (pc := 122) cv_X11_61 (s_err1 l hS) hS.k1 rfl rfl rfl rfl (Nat.le_of_ble_eq_true rfl) ⟨(Nat.le_of_ble_eq_true rfl), (Nat.le_of_ble_eq_true rfl)⟩ ⟨Nat.zero_le _, Nat.zero_le _⟩ dX11_does_122 ?_
                exact A_iretE (pc := 125) dX11_does_125 rfl (Nat.zero_le _) (Nat.zero_le _) (by rw [c_does, if_neg hb8, if_neg hb19, if_neg hb29, if_neg hb64, if_neg hb85, if_neg hb111, if_pos hb116]) (by rw [c_does, if_neg hb8, if_neg hb19, if_neg hb29, if_neg hb64, if_neg hb85, if_neg hb111, if_pos hb116])
          · refine A_aload (pc := 88) (i := 5) dX11_does_88 rfl ?_
            refine A_aload (pc := 90) (i := 6) dX11_does_90 rfl ?_
            refine A_aload_n (pc := 92) (i := 0) dX11_does_92 rfl rfl ?_
            refine A_getr (pc := 93) 0 fl_X11_12_11 hS.k1 rfl (hS.w1 (k := 0) (by decide)) dX11_does_93 ?_
            refine A_geti (pc := 96) 6 fl_X11_95_4 (hS.k2 (by decide)) rfl dX11_does_96 ?_
            refine V_lifts_X11 (pc := 99) hl2 hl3 (hS.k4 (by decide) hy8) rfl (Nat.le_of_ble_eq_true rfl) ⟨(Nat.le_of_ble_eq_true rfl), (Nat.le_of_ble_eq_true rfl)⟩ ⟨Nat.zero_le _, Nat.zero_le _⟩ dX11_does_99 ?_
            exact A_iretE (pc := 102) dX11_does_102 rfl (Nat.zero_le _) (Nat.zero_le _) (by rw [c_does, if_neg hb8, if_neg hb19, if_neg hb29, if_neg hb64, if_pos hb85]) (by rw [c_does, if_neg hb8, if_neg hb19, if_neg hb29, if_neg hb64, if_pos hb85])
        · refine A_aload (pc := 67) (i := 5) dX11_does_67 rfl ?_
          refine A_aload (pc := 69) (i := 6) dX11_does_69 rfl ?_
          refine A_aload_n (pc := 71) (i := 0) dX11_does_71 rfl rfl ?_
          refine A_getr (pc := 72) 0 fl_X11_12_11 hS.k1 rfl (hS.w1 (k := 0) (by decide)) dX11_does_72 ?_
          refine A_geti (pc := 75) 6 fl_X11_95_4 (hS.k2 (by decide)) rfl dX11_does_75 ?_
          refine V_spreads_X11 (pc := 78) hl2 hl3 (hS.k4 (by decide) hy8) rfl (Nat.le_of_ble_eq_true rfl) ⟨(Nat.le_of_ble_eq_true rfl), (Nat.le_of_ble_eq_true rfl)⟩ ⟨Nat.zero_le _, Nat.zero_le _⟩ dX11_does_78 ?_
          exact A_iretE (pc := 81) dX11_does_81 rfl (Nat.zero_le _) (Nat.zero_le _) (by rw [c_does, if_neg hb8, if_neg hb19, if_neg hb29, if_pos hb64]) (by rw [c_does, if_neg hb8, if_neg hb19, if_neg hb29, if_pos hb64])
      · refine A_aload_n (pc := 32) (i := 0) dX11_does_32 rfl rfl ?_
        refine A_ldc (pc := 33) (List.mem_cons_of_mem _ kc_X11_60) dX11_does_33 ?_
        refine A_callV1 (pc := 35) cv_X11_61 (s_err1 l hS) hS.k1 rfl rfl rfl rfl (Nat.le_of_ble_eq_true rfl) ⟨(Nat.le_of_ble_eq_true rfl), (Nat.le_of_ble_eq_true rfl)⟩ ⟨Nat.zero_le _, Nat.zero_le _⟩ dX11_does_35 ?_
        exact A_iretE (pc := 38) dX11_does_38 rfl (Nat.zero_le _) (Nat.zero_le _) (by rw [c_does, if_neg hb8, if_neg hb19, if_pos hb29]) (by rw [c_does, if_neg hb8, if_neg hb19, if_pos hb29])
theorem v23 {v : Int32} (h2 : 2 ≤ v) (h3 : v ≤ 3) (n2 : ¬ v = 2) : v = 3 := by
  have h0 : 0 ≤ v := Int32.le_trans (by decide) h2
  have h := nI_cl_le (n := 3) h0 h3 (by decide)
  have e := nI_cl h0
  generalize v.toNatClampNeg = j at h e
  subst e
  match j, h, h2, n2 with
  | 0, _, h2, _ => exact absurd h2 (by decide)
  | 1, _, h2, _ => exact absurd h2 (by decide)
  | 2, _, _, n2 => exact absurd rfl n2
  | 3, _, _, _ => rfl
theorem v01 {v : Int32} (h0 : 0 ≤ v) (h2 : ¬ 2 ≤ v) (n0 : ¬ v = 0) : v = 1 := by
  have e := nI_cl h0
  have h31 : v.toNatClampNeg < 2 ^ 31 := by
    obtain ⟨j, hj, rfl⟩ := nI_of (Int32.not_lt.mpr h0)
    rw [nI_clamp hj]; exact hj
  generalize v.toNatClampNeg = j at e h31
  subst e
  have hj : j < 2 := by
    rcases Nat.lt_or_ge j 2 with q | q
    · exact q
    · exact absurd (nI_le (a := 2) q h31) h2
  match j, hj, n0 with
  | 0, _, n0 => exact absurd rfl n0
  | 1, _, _ => rfl
noncomputable def d_does (x y z v : Int32) (lk : Nat → Nat) (iv : am_iv) : Int32 × am_iv := if sr_b (0 ≤ x ∧ x ≤ iv (31, 0, 0) 2 - 1) = 0 then (-1000000001, rx_find 1 iv) else if sr_b (0 ≤ y ∧ y ≤ iv (31, 0, 0) 1 - 1) = 0 then (-1000000001, rx_find 1 iv) else if sr_b (0 ≤ v ∧ v ≤ 3) = 0 then (-1000000001, rx_find 1 iv) else if 2 ≤ v then (if v = 2 then (lw_spreads (lk x.toNatClampNeg) (iv (31, 0, 0) (21 + 2 * x.toNatClampNeg)) (rf iv (31, 0, 0) y.toNatClampNeg) (iv (31, 0, 0) 4), iv) else (lw_lifts (lk x.toNatClampNeg) (iv (31, 0, 0) (21 + 2 * x.toNatClampNeg)) (rf iv (31, 0, 0) y.toNatClampNeg) (iv (31, 0, 0) 4), iv)) else if sr_b (0 ≤ z ∧ z ≤ iv (31, 0, 0) 1 - 1) = 0 then (-1000000001, rx_find 1 iv) else if z = y then (-1000000001, rx_find 1 iv) else if v = 0 then (lw_widens (lk x.toNatClampNeg) (iv (31, 0, 0) (21 + 2 * x.toNatClampNeg)) (rf iv (31, 0, 0) y.toNatClampNeg) (rf iv (31, 0, 0) z.toNatClampNeg), iv) else ((if rg_bit (lw_ends (lk x.toNatClampNeg) (iv (31, 0, 0) (21 + 2 * x.toNatClampNeg)) (rf iv (31, 0, 0) y.toNatClampNeg) (rf iv (31, 0, 0) z.toNatClampNeg)) = 0 then 0 else 1), iv)
set_option maxRecDepth 20000 in
theorem q_does (l : Launch) {kd : am_kd} {rv : am_rv} {iv : am_iv} (hR : shr kd rv) (x y z v : Int32) (n : Nat) (hn : iv (31, 0, 0) 1 = nI n) (hn8 : n ≤ 8) (hok : ∀ r, r < n → rok (rf iv (31, 0, 0) r)) (nl : Nat) (lk : Nat → Nat) (hnl : iv (31, 0, 0) 2 = nI nl) (hnl6 : nl ≤ 6) (hlk : ∀ j, j < nl → lk j < 7 ∧ iv (31, 0, 0) (20 + 2 * j) = nI (lk j)) (hwl : -99999 ≤ (iv (31, 0, 0) 4).toInt ∧ (iv (31, 0, 0) 4).toInt ≤ 99999) : am_Met l mX12_does (am_rm 5 0 0) [am_P (30, 0, 0), am_I x, am_I y, am_I z, am_I v] kd rv iv (am_ret (some (am_I (d_does x y z v lk iv).1)) kd rv (d_does x y z v lk iv).2) := by
  refine am_Met.of (by decide) (Nat.le_of_ble_eq_true rfl) rfl ?_
  refine A_aload_n (pc := 0) (i := 0) dX12_does_0 rfl rfl ?_
  refine A_iload_n (pc := 1) (i := 1) dX12_does_1 rfl rfl ?_
  refine A_callV1 (pc := 2) cv_X12_91 (r_isLaw l hR _) hR.1 rfl rfl rfl rfl (Nat.le_of_ble_eq_true rfl) ⟨(Nat.le_of_ble_eq_true rfl), (Nat.le_of_ble_eq_true rfl)⟩ ⟨Nat.zero_le _, Nat.zero_le _⟩ dX12_does_2 ?_
  refine A_ifeq (pc := 5) 48 dX12_does_5 (by decide) (fun hb5 => ?_) (fun hb5 => ?_)
  · refine A_aload_n (pc := 48) (i := 0) dX12_does_48 rfl rfl ?_
    refine A_iconst (pc := 49) (1) dX12_does_49 (by decide) ?_
    refine A_callV1 (pc := 50) cv_X12_65 (r_fnd1 l hR) hR.1 rfl rfl rfl rfl (Nat.le_of_ble_eq_true rfl) ⟨(Nat.le_of_ble_eq_true rfl), (Nat.le_of_ble_eq_true rfl)⟩ ⟨Nat.zero_le _, Nat.zero_le _⟩ dX12_does_50 ?_
    exact A_iretE (pc := 53) dX12_does_53 rfl (Nat.zero_le _) (Nat.zero_le _) (by rw [d_does, if_pos hb5]) (by rw [d_does, if_pos hb5])
  · refine A_aload_n (pc := 8) (i := 0) dX12_does_8 rfl rfl ?_
    refine A_iload_n (pc := 9) (i := 2) dX12_does_9 rfl rfl ?_
    refine A_callV1 (pc := 10) cv_X12_77 (r_isRing l hR _) hR.1 rfl rfl rfl rfl (Nat.le_of_ble_eq_true rfl) ⟨(Nat.le_of_ble_eq_true rfl), (Nat.le_of_ble_eq_true rfl)⟩ ⟨Nat.zero_le _, Nat.zero_le _⟩ dX12_does_10 ?_
    refine A_ifeq (pc := 13) 48 dX12_does_13 (by decide) (fun hb13 => ?_) (fun hb13 => ?_)
    · refine A_aload_n (pc := 48) (i := 0) dX12_does_48 rfl rfl ?_
      refine A_iconst (pc := 49) (1) dX12_does_49 (by decide) ?_
      refine A_callV1 (pc := 50) cv_X12_65 (r_fnd1 l hR) hR.1 rfl rfl rfl rfl (Nat.le_of_ble_eq_true rfl) ⟨(Nat.le_of_ble_eq_true rfl), (Nat.le_of_ble_eq_true rfl)⟩ ⟨Nat.zero_le _, Nat.zero_le _⟩ dX12_does_50 ?_
      exact A_iretE (pc := 53) dX12_does_53 rfl (Nat.zero_le _) (Nat.zero_le _) (by rw [d_does, if_neg hb5, if_pos hb13]) (by rw [d_does, if_neg hb5, if_pos hb13])
    · refine A_iload (pc := 16) (i := 4) dX12_does_16 rfl ?_
      refine A_i2l (pc := 18) dX12_does_18 ?_
      refine A_lconst (pc := 19) (0) dX12_does_19 (by decide) ?_
      refine A_topJ (y := Int32.toInt64 (0)) (by decide +kernel) ?_
      refine A_ldc2 (pc := 20) (List.mem_cons_of_mem _ kc_X12_117) dX12_does_20 ?_
      refine A_topJ (y := Int32.toInt64 (3)) (by decide +kernel) ?_
      refine A_callS1 (pc := 23) cs_X12_48 (r_in l _ _ _) rfl rfl (Nat.le_of_ble_eq_true rfl) ⟨(Nat.le_of_ble_eq_true rfl), (Nat.le_of_ble_eq_true rfl)⟩ ⟨Nat.zero_le _, Nat.zero_le _⟩ dX12_does_23 ?_
      refine A_ifeq (pc := 26) 48 dX12_does_26 (by decide) (fun hb26 => ?_) (fun hb26 => ?_)
      · refine A_aload_n (pc := 48) (i := 0) dX12_does_48 rfl rfl ?_
        refine A_iconst (pc := 49) (1) dX12_does_49 (by decide) ?_
        refine A_callV1 (pc := 50) cv_X12_65 (r_fnd1 l hR) hR.1 rfl rfl rfl rfl (Nat.le_of_ble_eq_true rfl) ⟨(Nat.le_of_ble_eq_true rfl), (Nat.le_of_ble_eq_true rfl)⟩ ⟨Nat.zero_le _, Nat.zero_le _⟩ dX12_does_50 ?_
        exact A_iretE (pc := 53) dX12_does_53 rfl (Nat.zero_le _) (Nat.zero_le _) (by rw [d_does, if_neg hb5, if_neg hb13, if_pos hb26]) (by rw [d_does, if_neg hb5, if_neg hb13, if_pos hb26])
      · refine A_iload (pc := 29) (i := 4) dX12_does_29 rfl ?_
        refine A_iconst (pc := 31) (2) dX12_does_31 (by decide) ?_
        refine A_icmpge (pc := 32) 54 dX12_does_32 (by decide) (fun hb32 => ?_) (fun hb32 => ?_)
        · have hv := (sr_b_1 _).mp hb26
          have hx := (sr_b_1 _).mp hb5
          have hxl : x.toNatClampNeg < nl := nI_m1n (by omega) hx.1 (hnl ▸ hx.2)
          have hx6 : x.toNatClampNeg < 6 := by omega
          obtain ⟨hk7, hkk⟩ := hlk _ hxl
          have hy := (sr_b_1 _).mp hb13
          have hyn : y.toNatClampNeg < n := nI_m1n hn8 hy.1 (hn ▸ hy.2)
          have hy8 : y.toNatClampNeg < 8 := by omega
          by_cases e9 : v = 2
          · refine A_iload (pc := 54) (i := 4) dX12_does_54 rfl ?_
            refine A_top e9 ?_
            refine A_tableIn (pc := 56) (off := 58) 114 dX12_does_56 (by decide) (by decide) (by decide) (by decide) ?_
            refine A_aload_n (pc := 114) (i := 0) dX12_does_114 rfl rfl ?_
            refine A_getr (pc := 115) 0 fl_X12_7_12 hR.1 rfl hR.w0 dX12_does_115 ?_
            refine A_iload_n (pc := 118) (i := 1) dX12_does_118 rfl rfl ?_
            refine A_top (nI_cl hx.1) ?_
            refine A_iload_n (pc := 119) (i := 2) dX12_does_119 rfl rfl ?_
            refine A_top (nI_cl hy.1) ?_
            refine A_callS1 (pc := 120) cs_X12_114 (r_spreads l (31, 0, 0) hR.k0 x.toNatClampNeg hx6 (lk x.toNatClampNeg) hk7 hkk y.toNatClampNeg hy8 (hok _ hyn) hwl) rfl rfl (Nat.le_of_ble_eq_true rfl) ⟨(Nat.le_of_ble_eq_true rfl), (Nat.le_of_ble_eq_true rfl)⟩ ⟨Nat.zero_le _, Nat.zero_le _⟩ dX12_does_120 ?_
            exact A_iretE (pc := 123) dX12_does_123 rfl (Nat.zero_le _) (Nat.zero_le _) (by rw [d_does, if_neg hb5, if_neg hb13, if_neg hb26, if_pos hb32, if_pos e9]) (by rw [d_does, if_neg hb5, if_neg hb13, if_neg hb26, if_pos hb32, if_pos e9])
          have e8 : v = 3 := v23 hb32 hv.2 e9
          · refine A_iload (pc := 54) (i := 4) dX12_does_54 rfl ?_
            refine A_top e8 ?_
            refine A_tableOut (pc := 56) 124 dX12_does_56 (by decide) (by decide) ?_
            refine A_aload_n (pc := 124) (i := 0) dX12_does_124 rfl rfl ?_
            refine A_getr (pc := 125) 0 fl_X12_7_12 hR.1 rfl hR.w0 dX12_does_125 ?_
            refine A_iload_n (pc := 128) (i := 1) dX12_does_128 rfl rfl ?_
            refine A_top (nI_cl hx.1) ?_
            refine A_iload_n (pc := 129) (i := 2) dX12_does_129 rfl rfl ?_
            refine A_top (nI_cl hy.1) ?_
            refine A_callS1 (pc := 130) cs_X12_127 (r_lifts l (31, 0, 0) hR.k0 x.toNatClampNeg hx6 (lk x.toNatClampNeg) hk7 hkk y.toNatClampNeg hy8 (hok _ hyn) hwl) rfl rfl (Nat.le_of_ble_eq_true rfl) ⟨(Nat.le_of_ble_eq_true rfl), (Nat.le_of_ble_eq_true rfl)⟩ ⟨Nat.zero_le _, Nat.zero_le _⟩ dX12_does_130 ?_
            exact A_iretE (pc := 133) dX12_does_133 rfl (Nat.zero_le _) (Nat.zero_le _) (by rw [d_does, if_neg hb5, if_neg hb13, if_neg hb26, if_pos hb32, if_neg e9]) (by rw [d_does, if_neg hb5, if_neg hb13, if_neg hb26, if_pos hb32, if_neg e9])
        · refine A_aload_n (pc := 35) (i := 0) dX12_does_35 rfl rfl ?_
          refine A_iload_n (pc := 36) (i := 3) dX12_does_36 rfl rfl ?_
          refine A_callV1 (pc := 37) cv_X12_77 (r_isRing l hR _) hR.1 rfl rfl rfl rfl (Nat.le_of_ble_eq_true rfl) ⟨(Nat.le_of_ble_eq_true rfl), (Nat.le_of_ble_eq_true rfl)⟩ ⟨Nat.zero_le _, Nat.zero_le _⟩ dX12_does_37 ?_
          refine A_ifeq (pc := 40) 48 dX12_does_40 (by decide) (fun hb40 => ?_) (fun hb40 => ?_)
          · refine A_aload_n (pc := 48) (i := 0) dX12_does_48 rfl rfl ?_
            refine A_iconst (pc := 49) (1) dX12_does_49 (by decide) ?_
            refine A_callV1 (pc := 50) cv_X12_65 (r_fnd1 l hR) hR.1 rfl rfl rfl rfl (Nat.le_of_ble_eq_true rfl) ⟨(Nat.le_of_ble_eq_true rfl), (Nat.le_of_ble_eq_true rfl)⟩ ⟨Nat.zero_le _, Nat.zero_le _⟩ dX12_does_50 ?_
            exact A_iretE (pc := 53) dX12_does_53 rfl (Nat.zero_le _) (Nat.zero_le _) (by rw [d_does, if_neg hb5, if_neg hb13, if_neg hb26, if_neg hb32, if_pos hb40]) (by rw [d_does, if_neg hb5, if_neg hb13, if_neg hb26, if_neg hb32, if_pos hb40])
          · refine A_iload_n (pc := 43) (i := 3) dX12_does_43 rfl rfl ?_
            refine A_iload_n (pc := 44) (i := 2) dX12_does_44 rfl rfl ?_
            refine A_icmpne (pc := 45) 54 dX12_does_45 (by decide) (fun hb45 => ?_) (fun hb45 => ?_)
            · have hv := (sr_b_1 _).mp hb26
              have hx := (sr_b_1 _).mp hb5
              have hxl : x.toNatClampNeg < nl := nI_m1n (by omega) hx.1 (hnl ▸ hx.2)
              have hx6 : x.toNatClampNeg < 6 := by omega
              obtain ⟨hk7, hkk⟩ := hlk _ hxl
              have hy := (sr_b_1 _).mp hb13
              have hyn : y.toNatClampNeg < n := nI_m1n hn8 hy.1 (hn ▸ hy.2)
              have hy8 : y.toNatClampNeg < 8 := by omega
              have hz := (sr_b_1 _).mp hb40
              have hzn : z.toNatClampNeg < n := nI_m1n hn8 hz.1 (hn ▸ hz.2)
              have hz8 : z.toNatClampNeg < 8 := by omega
              by_cases e9 : v = 0
              · refine A_iload (pc := 54) (i := 4) dX12_does_54 rfl ?_
                refine A_top e9 ?_
                refine A_tableIn (pc := 56) (off := 28) 84 dX12_does_56 (by decide) (by decide) (by decide) (by decide) ?_
                refine A_aload_n (pc := 84) (i := 0) dX12_does_84 rfl rfl ?_
                refine A_getr (pc := 85) 0 fl_X12_7_12 hR.1 rfl hR.w0 dX12_does_85 ?_
                refine A_iload_n (pc := 88) (i := 1) dX12_does_88 rfl rfl ?_
                refine A_top (nI_cl hx.1) ?_
                refine A_iload_n (pc := 89) (i := 2) dX12_does_89 rfl rfl ?_
                refine A_top (nI_cl hy.1) ?_
                refine A_iload_n (pc := 90) (i := 3) dX12_does_90 rfl rfl ?_
                refine A_top (nI_cl hz.1) ?_
                refine A_callS1 (pc := 91) cs_X12_119 (r_widens l (31, 0, 0) hR.k0 x.toNatClampNeg hx6 (lk x.toNatClampNeg) hk7 hkk y.toNatClampNeg hy8 z.toNatClampNeg hz8 (hok _ hyn) (hok _ hzn)) rfl rfl (Nat.le_of_ble_eq_true rfl) ⟨(Nat.le_of_ble_eq_true rfl), (Nat.le_of_ble_eq_true rfl)⟩ ⟨Nat.zero_le _, Nat.zero_le _⟩ dX12_does_91 ?_
                exact A_iretE (pc := 94) dX12_does_94 rfl (Nat.zero_le _) (Nat.zero_le _) (by rw [d_does, if_neg hb5, if_neg hb13, if_neg hb26, if_neg hb32, if_neg hb40, if_neg hb45, if_pos e9]) (by rw [d_does, if_neg hb5, if_neg hb13, if_neg hb26, if_neg hb32, if_neg hb40, if_neg hb45, if_pos e9])
              have e8 : v = 1 := v01 hv.1 hb32 e9
              · refine A_iload (pc := 54) (i := 4) dX12_does_54 rfl ?_
                refine A_top e8 ?_
                refine A_tableIn (pc := 56) (off := 39) 95 dX12_does_56 (by decide) (by decide) (by decide) (by decide) ?_
                refine A_aload_n (pc := 95) (i := 0) dX12_does_95 rfl rfl ?_
                refine A_getr (pc := 96) 0 fl_X12_7_12 hR.1 rfl hR.w0 dX12_does_96 ?_
                refine A_iload_n (pc := 99) (i := 1) dX12_does_99 rfl rfl ?_
                refine A_top (nI_cl hx.1) ?_
                refine A_iload_n (pc := 100) (i := 2) dX12_does_100 rfl rfl ?_
                refine A_top (nI_cl hy.1) ?_
                refine A_iload_n (pc := 101) (i := 3) dX12_does_101 rfl rfl ?_
                refine A_top (nI_cl hz.1) ?_
                refine A_callS1 (pc := 102) cs_X12_123 (r_doesEnd l (31, 0, 0) hR.k0 x.toNatClampNeg hx6 (lk x.toNatClampNeg) hk7 hkk y.toNatClampNeg hy8 z.toNatClampNeg hz8 (hok _ hyn) (hok _ hzn)) rfl rfl (Nat.le_of_ble_eq_true rfl) ⟨(Nat.le_of_ble_eq_true rfl), (Nat.le_of_ble_eq_true rfl)⟩ ⟨Nat.zero_le _, Nat.zero_le _⟩ dX12_does_102 ?_
                refine A_ifeq (pc := 105) 112 dX12_does_105 (by decide) (fun hb105 => ?_) (fun hb105 => ?_)
                · refine A_iconst (pc := 112) (0) dX12_does_112 (by decide) ?_
                  exact A_iretE (pc := 113) dX12_does_113 rfl (Nat.zero_le _) (Nat.zero_le _) (by rw [d_does, if_neg hb5, if_neg hb13, if_neg hb26, if_neg hb32, if_neg hb40, if_neg hb45, if_neg e9]; exact (if_pos hb105).symm) (by rw [d_does, if_neg hb5, if_neg hb13, if_neg hb26, if_neg hb32, if_neg hb40, if_neg hb45, if_neg e9])
                · refine A_iconst (pc := 108) (1) dX12_does_108 (by decide) ?_
                  refine A_goto (pc := 109) 113 dX12_does_109 (by decide) ?_
                  exact A_iretE (pc := 113) dX12_does_113 rfl (Nat.zero_le _) (Nat.zero_le _) (by rw [d_does, if_neg hb5, if_neg hb13, if_neg hb26, if_neg hb32, if_neg hb40, if_neg hb45, if_neg e9]; exact (if_neg hb105).symm) (by rw [d_does, if_neg hb5, if_neg hb13, if_neg hb26, if_neg hb32, if_neg hb40, if_neg hb45, if_neg e9])
            · refine A_aload_n (pc := 48) (i := 0) dX12_does_48 rfl rfl ?_
              refine A_iconst (pc := 49) (1) dX12_does_49 (by decide) ?_
              refine A_callV1 (pc := 50) cv_X12_65 (r_fnd1 l hR) hR.1 rfl rfl rfl rfl (Nat.le_of_ble_eq_true rfl) ⟨(Nat.le_of_ble_eq_true rfl), (Nat.le_of_ble_eq_true rfl)⟩ ⟨Nat.zero_le _, Nat.zero_le _⟩ dX12_does_50 ?_
              exact A_iretE (pc := 53) dX12_does_53 rfl (Nat.zero_le _) (Nat.zero_le _) (by rw [d_does, if_neg hb5, if_neg hb13, if_neg hb26, if_neg hb32, if_neg hb40, if_pos hb45]) (by rw [d_does, if_neg hb5, if_neg hb13, if_neg hb26, if_neg hb32, if_neg hb40, if_pos hb45])
