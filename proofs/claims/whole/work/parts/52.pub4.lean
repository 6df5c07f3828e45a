noncomputable def c_count (x : Int32) (n : Nat) (iv : am_iv) : Int32 × am_iv := if x = 0 then (iv (2, 0, 0) 8, iv) else if x = 1 then (iv (2, 0, 0) 1, iv) else if x = 2 then (rm_count (fun r => iv (4, 0, r)) n, iv) else if x = 3 then (iv (2, 0, 0) 4, iv) else if x = 4 then (iv (2, 0, 0) 7, iv) else if x = 5 then (iv (12, 0, 0) 1, iv) else if x = 6 then (iv (14, 0, 0) 1, iv) else if x = 7 then (iv (19, 0, 0) 1, iv) else if x = 8 then (iv (2, 0, 0) 9, iv) else (-1000000001, er_heap 1 iv)
set_option maxRecDepth 20000 in
theorem p_count (l : Launch) {kd : am_kd} {rv : am_rv} {iv : am_iv} (hS : sh kd rv) (x : Int32) (n : Nat) (hn : iv (2, 0, 0) 1 = nI n) (hn8 : n ≤ 8) : am_Met l mX11_count (am_rm 2 0 0) [am_P (1, 0, 0), am_I x] kd rv iv (am_ret (some (am_I (c_count x n iv).1)) kd rv (c_count x n iv).2) := by
  refine am_Met.of (by decide) (Nat.le_of_ble_eq_true rfl) rfl ?_
  refine A_iload_n (pc := 0) (i := 1) dX11_count_0 rfl rfl ?_
  by_cases hs1_0 : x = (0)
  · refine A_tableIn (pc := 1) (off := 51) 52 dX11_count_1 (by rw [hs1_0]; decide) (by rw [hs1_0]; decide) (by rw [hs1_0]; decide) (by decide) ?_
    refine A_aload_n (pc := 52) (i := 0) dX11_count_52 rfl rfl ?_
    refine A_getr (pc := 53) 0 fl_X11_12_11 hS.k1 rfl (hS.w1 (k := 0) (by decide)) dX11_count_53 ?_
    refine A_geti (pc := 56) 8 fl_X11_312_4 (hS.k2 (by decide)) rfl dX11_count_56 ?_
    exact A_iretE (pc := 59) dX11_count_59 rfl (Nat.zero_le _) (Nat.zero_le _) (by rw [c_count, if_pos hs1_0]) (by rw [c_count, if_pos hs1_0])
  by_cases hs1_1 : x = (1)
  · refine A_tableIn (pc := 1) (off := 59) 60 dX11_count_1 (by rw [hs1_1]; decide) (by rw [hs1_1]; decide) (by rw [hs1_1]; decide) (by decide) ?_
    refine A_aload_n (pc := 60) (i := 0) dX11_count_60 rfl rfl ?_
    refine A_getr (pc := 61) 0 fl_X11_12_11 hS.k1 rfl (hS.w1 (k := 0) (by decide)) dX11_count_61 ?_
    refine A_geti (pc := 64) 1 fl_X11_244_4 (hS.k2 (by decide)) rfl dX11_count_64 ?_
    exact A_iretE (pc := 67) dX11_count_67 rfl (Nat.zero_le _) (Nat.zero_le _) (by rw [c_count, if_neg hs1_0, if_pos hs1_1]) (by rw [c_count, if_neg hs1_0, if_pos hs1_1])
  by_cases hs1_2 : x = (2)
  · refine A_tableIn (pc := 1) (off := 67) 68 dX11_count_1 (by rw [hs1_2]; decide) (by rw [hs1_2]; decide) (by rw [hs1_2]; decide) (by decide) ?_
    refine A_aload_n (pc := 68) (i := 0) dX11_count_68 rfl rfl ?_
    refine A_getr (pc := 69) 0 fl_X11_12_11 hS.k1 rfl (hS.w1 (k := 0) (by decide)) dX11_count_69 ?_
    refine A_callV1 (pc := 72) cv_X11_217 (s_wholeCount l hS 0 (by decide) n hn hn8) (hS.k2 (by decide)) rfl rfl rfl rfl (Nat.le_of_ble_eq_true rfl) ⟨(Nat.le_of_ble_eq_true rfl), (Nat.le_of_ble_eq_true rfl)⟩ ⟨Nat.zero_le _, Nat.zero_le _⟩ dX11_count_72 ?_
    exact A_iretE (pc := 75) dX11_count_75 rfl (Nat.zero_le _) (Nat.zero_le _) (by rw [c_count, if_neg hs1_0, if_neg hs1_1, if_pos hs1_2]) (by rw [c_count, if_neg hs1_0, if_neg hs1_1, if_pos hs1_2])
  by_cases hs1_3 : x = (3)
  · refine A_tableIn (pc := 1) (off := 75) 76 dX11_count_1 (by rw [hs1_3]; decide) (by rw [hs1_3]; decide) (by rw [hs1_3]; decide) (by decide) ?_
    refine A_aload_n (pc := 76) (i := 0) dX11_count_76 rfl rfl ?_
    refine A_getr (pc := 77) 0 fl_X11_12_11 hS.k1 rfl (hS.w1 (k := 0) (by decide)) dX11_count_77 ?_
    refine A_geti (pc := 80) 4 fl_X11_98_4 (hS.k2 (by decide)) rfl dX11_count_80 ?_
    exact A_iretE (pc := 83) dX11_count_83 rfl (Nat.zero_le _) (Nat.zero_le _) (by rw [c_count, if_neg hs1_0, if_neg hs1_1, if_neg hs1_2, if_pos hs1_3]) (by rw [c_count, if_neg hs1_0, if_neg hs1_1, if_neg hs1_2, if_pos hs1_3])
  by_cases hs1_4 : x = (4)
  · refine A_tableIn (pc := 1) (off := 83) 84 dX11_count_1 (by rw [hs1_4]; decide) (by rw [hs1_4]; decide) (by rw [hs1_4]; decide) (by decide) ?_
    refine A_aload_n (pc := 84) (i := 0) dX11_count_84 rfl rfl ?_
    refine A_getr (pc := 85) 0 fl_X11_12_11 hS.k1 rfl (hS.w1 (k := 0) (by decide)) dX11_count_85 ?_
    refine A_geti (pc := 88) 7 fl_X11_161_4 (hS.k2 (by decide)) rfl dX11_count_88 ?_
    exact A_iretE (pc := 91) dX11_count_91 rfl (Nat.zero_le _) (Nat.zero_le _) (by rw [c_count, if_neg hs1_0, if_neg hs1_1, if_neg hs1_2, if_neg hs1_3, if_pos hs1_4]) (by rw [c_count, if_neg hs1_0, if_neg hs1_1, if_neg hs1_2, if_neg hs1_3, if_pos hs1_4])
  by_cases hs1_5 : x = (5)
  · refine A_tableIn (pc := 1) (off := 91) 92 dX11_count_1 (by rw [hs1_5]; decide) (by rw [hs1_5]; decide) (by rw [hs1_5]; decide) (by decide) ?_
    refine A_aload_n (pc := 92) (i := 0) dX11_count_92 rfl rfl ?_
    refine A_getr (pc := 93) 0 fl_X11_12_11 hS.k1 rfl (hS.w1 (k := 0) (by decide)) dX11_count_93 ?_
    refine A_getr (pc := 96) 11 fl_X11_171_4 (hS.k2 (by decide)) rfl (hS.w2_11 (by decide)) dX11_count_96 ?_
    refine A_geti (pc := 99) 1 fl_X11_174_5 (hS.k12 (by decide)) rfl dX11_count_99 ?_
    exact A_iretE (pc := 102) dX11_count_102 rfl (Nat.zero_le _) (Nat.zero_le _) (by rw [c_count, if_neg hs1_0, if_neg hs1_1, if_neg hs1_2, if_neg hs1_3, if_neg hs1_4, if_pos hs1_5]) (by rw [c_count, if_neg hs1_0, if_neg hs1_1, if_neg hs1_2, if_neg hs1_3, if_neg hs1_4, if_pos hs1_5])
  by_cases hs1_6 : x = (6)
  · refine A_tableIn (pc := 1) (off := 102) 103 dX11_count_1 (by rw [hs1_6]; decide) (by rw [hs1_6]; decide) (by rw [hs1_6]; decide) (by decide) ?_
    refine A_aload_n (pc := 103) (i := 0) dX11_count_103 rfl rfl ?_
    refine A_getr (pc := 104) 0 fl_X11_12_11 hS.k1 rfl (hS.w1 (k := 0) (by decide)) dX11_count_104 ?_
    refine A_getr (pc := 107) 12 fl_X11_315_4 (hS.k2 (by decide)) rfl (hS.w2_12 (by decide)) dX11_count_107 ?_
    refine A_geti (pc := 110) 1 fl_X11_174_5 (hS.k14 (by decide)) rfl dX11_count_110 ?_
    exact A_iretE (pc := 113) dX11_count_113 rfl (Nat.zero_le _) (Nat.zero_le _) (by rw [c_count, if_neg hs1_0, if_neg hs1_1, if_neg hs1_2, if_neg hs1_3, if_neg hs1_4, if_neg hs1_5, if_pos hs1_6]) (by rw [c_count, if_neg hs1_0, if_neg hs1_1, if_neg hs1_2, if_neg hs1_3, if_neg hs1_4, if_neg hs1_5, if_pos hs1_6])
  by_cases hs1_7 : x = (7)
  · refine A_tableIn (pc := 1) (off := 113) 114 dX11_count_1 (by rw [hs1_7]; decide) (by rw [hs1_7]; decide) (by rw [hs1_7]; decide) (by decide) ?_
    refine A_aload_n (pc := 114) (i := 0) dX11_count_114 rfl rfl ?_
    refine A_getr (pc := 115) 6 fl_X11_38_11 hS.k1 rfl hS.w1_6 dX11_count_115 ?_
    refine A_geti (pc := 118) 1 fl_X11_174_5 hS.k19 rfl dX11_count_118 ?_
    exact A_iretE (pc := 121) dX11_count_121 rfl (Nat.zero_le _) (Nat.zero_le _) (by rw [c_count, if_neg hs1_0, if_neg hs1_1, if_neg hs1_2, if_neg hs1_3, if_neg hs1_4, if_neg hs1_5, if_neg hs1_6, if_pos hs1_7]) (by rw [c_count, if_neg hs1_0, if_neg hs1_1, if_neg hs1_2, if_neg hs1_3, if_neg hs1_4, if_neg hs1_5, if_neg hs1_6, if_pos hs1_7])
  by_cases hs1_8 : x = (8)
  · refine A_tableIn (pc := 1) (off := 121) 122 dX11_count_1 (by rw [hs1_8]; decide) (by rw [hs1_8]; decide) (by rw [hs1_8]; decide) (by decide) ?_
    refine A_aload_n (pc := 122) (i := 0) dX11_count_122 rfl rfl ?_
    refine A_getr (pc := 123) 0 fl_X11_12_11 hS.k1 rfl (hS.w1 (k := 0) (by decide)) dX11_count_123 ?_
    refine A_geti (pc := 126) 9 fl_X11_263_4 (hS.k2 (by decide)) rfl dX11_count_126 ?_
    exact A_iretE (pc := 129) dX11_count_129 rfl (Nat.zero_le _) (Nat.zero_le _) (by rw [c_count, if_neg hs1_0, if_neg hs1_1, if_neg hs1_2, if_neg hs1_3, if_neg hs1_4, if_neg hs1_5, if_neg hs1_6, if_neg hs1_7, if_pos hs1_8]) (by rw [c_count, if_neg hs1_0, if_neg hs1_1, if_neg hs1_2, if_neg hs1_3, if_neg hs1_4, if_neg hs1_5, if_neg hs1_6, if_neg hs1_7, if_pos hs1_8])
  refine A_tableOut (pc := 1) 130 dX11_count_1 (by have := lv_neT hs1_0 (show ((0 : Int32)).toInt = (0) by decide); have := lv_neT hs1_1 (show ((1 : Int32)).toInt = (1) by decide); have := lv_neT hs1_2 (show ((2 : Int32)).toInt = (2) by decide); have := lv_neT hs1_3 (show ((3 : Int32)).toInt = (3) by decide); have := lv_neT hs1_4 (show ((4 : Int32)).toInt = (4) by decide); have := lv_neT hs1_5 (show ((5 : Int32)).toInt = (5) by decide); have := lv_neT hs1_6 (show ((6 : Int32)).toInt = (6) by decide); have := lv_neT hs1_7 (show ((7 : Int32)).toInt = (7) by decide); have := lv_neT hs1_8 (show ((8 : Int32)).toInt = (8) by decide); omega) (by decide) ?_
  refine A_aload_n (pc := 130) (i := 0) dX11_count_130 rfl rfl ?_
  refine A_ldc (pc := 131) (List.mem_cons_of_mem _ kc_X11_60) dX11_count_131 ?_
  refine A_callV1 (pc := 133) cv_X11_61 (s_err1 l hS) hS.k1 rfl rfl rfl rfl (Nat.le_of_ble_eq_true rfl) ⟨(Nat.le_of_ble_eq_true rfl), (Nat.le_of_ble_eq_true rfl)⟩ ⟨Nat.zero_le _, Nat.zero_le _⟩ dX11_count_133 ?_
  exact A_iretE (pc := 136) dX11_count_136 rfl (Nat.zero_le _) (Nat.zero_le _) (by rw [c_count, if_neg hs1_0, if_neg hs1_1, if_neg hs1_2, if_neg hs1_3, if_neg hs1_4, if_neg hs1_5, if_neg hs1_6, if_neg hs1_7, if_neg hs1_8]) (by rw [c_count, if_neg hs1_0, if_neg hs1_1, if_neg hs1_2, if_neg hs1_3, if_neg hs1_4, if_neg hs1_5, if_neg hs1_6, if_neg hs1_7, if_neg hs1_8])
noncomputable def d_count (x : Int32) (n : Nat) (iv : am_iv) : Int32 × am_iv := if x = 0 then (iv (31, 0, 0) 0, iv) else if x = 1 then (iv (31, 0, 0) 1, iv) else if x = 2 then (rm_count (fun r => rf iv (31, 0, 0) r) n, iv) else if x = 3 then (iv (31, 0, 0) 2, iv) else if x = 4 then (iv (31, 0, 0) 5, iv) else if x = 5 then (iv (31, 0, 0) 7, iv) else if x = 6 then (iv (31, 0, 0) 8, iv) else if x = 7 then (iv (30, 0, 0) 15, iv) else if x = 8 then (iv (31, 0, 0) 6, iv) else (-1000000001, rx_find 1 iv)
set_option maxRecDepth 20000 in
theorem q_count (l : Launch) {kd : am_kd} {rv : am_rv} {iv : am_iv} (hR : shr kd rv) (x : Int32) (n : Nat) (hn : iv (31, 0, 0) 1 = nI n) (hn8 : n ≤ 8) (hok : ∀ r, r < n → rok (rf iv (31, 0, 0) r)) : am_Met l mX12_count (am_rm 3 0 0) [am_P (30, 0, 0), am_I x] kd rv iv (am_ret (some (am_I (d_count x n iv).1)) kd rv (d_count x n iv).2) := by
  refine am_Met.of (by decide) (Nat.le_of_ble_eq_true rfl) rfl ?_
  refine A_iload_n (pc := 0) (i := 1) dX12_count_0 rfl rfl ?_
  by_cases hs1_0 : x = (0)
  · refine A_tableIn (pc := 1) (off := 51) 52 dX12_count_1 (by rw [hs1_0]; decide) (by rw [hs1_0]; decide) (by rw [hs1_0]; decide) (by decide) ?_
    refine A_aload_n (pc := 52) (i := 0) dX12_count_52 rfl rfl ?_
    refine A_getr (pc := 53) 0 fl_X12_7_12 hR.1 rfl hR.w0 dX12_count_53 ?_
    refine A_iconst (pc := 56) (0) dX12_count_56 (by decide) ?_
    refine A_ialdN (pc := 57) hR.k0 (show 0 < 300 by decide) (by decide) dX12_count_57 ?_
    exact A_iretE (pc := 58) dX12_count_58 rfl (Nat.zero_le _) (Nat.zero_le _) (by rw [d_count, if_pos hs1_0]) (by rw [d_count, if_pos hs1_0])
  by_cases hs1_1 : x = (1)
  · refine A_tableIn (pc := 1) (off := 58) 59 dX12_count_1 (by rw [hs1_1]; decide) (by rw [hs1_1]; decide) (by rw [hs1_1]; decide) (by decide) ?_
    refine A_aload_n (pc := 59) (i := 0) dX12_count_59 rfl rfl ?_
    refine A_getr (pc := 60) 0 fl_X12_7_12 hR.1 rfl hR.w0 dX12_count_60 ?_
    refine A_iconst (pc := 63) (1) dX12_count_63 (by decide) ?_
    refine A_ialdN (pc := 64) hR.k0 (show 1 < 300 by decide) (by decide) dX12_count_64 ?_
    exact A_iretE (pc := 65) dX12_count_65 rfl (Nat.zero_le _) (Nat.zero_le _) (by rw [d_count, if_neg hs1_0, if_pos hs1_1]) (by rw [d_count, if_neg hs1_0, if_pos hs1_1])
  by_cases hs1_2 : x = (2)
  · refine A_tableIn (pc := 1) (off := 65) 66 dX12_count_1 (by rw [hs1_2]; decide) (by rw [hs1_2]; decide) (by rw [hs1_2]; decide) (by decide) ?_
    refine A_aload_n (pc := 66) (i := 0) dX12_count_66 rfl rfl ?_
    refine A_getr (pc := 67) 0 fl_X12_7_12 hR.1 rfl hR.w0 dX12_count_67 ?_
    refine A_callS1 (pc := 70) cs_X12_251 (r_wholeIn l (31, 0, 0) hR.k0 n hn hn8 (fun r hr => (hok r hr).2.2.2.2.2.2)) rfl rfl (Nat.le_of_ble_eq_true rfl) ⟨(Nat.le_of_ble_eq_true rfl), (Nat.le_of_ble_eq_true rfl)⟩ ⟨Nat.zero_le _, Nat.zero_le _⟩ dX12_count_70 ?_
    exact A_iretE (pc := 73) dX12_count_73 rfl (Nat.zero_le _) (Nat.zero_le _) (by rw [d_count, if_neg hs1_0, if_neg hs1_1, if_pos hs1_2]) (by rw [d_count, if_neg hs1_0, if_neg hs1_1, if_pos hs1_2])
  by_cases hs1_3 : x = (3)
  · refine A_tableIn (pc := 1) (off := 73) 74 dX12_count_1 (by rw [hs1_3]; decide) (by rw [hs1_3]; decide) (by rw [hs1_3]; decide) (by decide) ?_
    refine A_aload_n (pc := 74) (i := 0) dX12_count_74 rfl rfl ?_
    refine A_getr (pc := 75) 0 fl_X12_7_12 hR.1 rfl hR.w0 dX12_count_75 ?_
    refine A_iconst (pc := 78) (2) dX12_count_78 (by decide) ?_
    refine A_ialdN (pc := 79) hR.k0 (show 2 < 300 by decide) (by decide) dX12_count_79 ?_
    exact A_iretE (pc := 80) dX12_count_80 rfl (Nat.zero_le _) (Nat.zero_le _) (by rw [d_count, if_neg hs1_0, if_neg hs1_1, if_neg hs1_2, if_pos hs1_3]) (by rw [d_count, if_neg hs1_0, if_neg hs1_1, if_neg hs1_2, if_pos hs1_3])
  by_cases hs1_4 : x = (4)
  · refine A_tableIn (pc := 1) (off := 80) 81 dX12_count_1 (by rw [hs1_4]; decide) (by rw [hs1_4]; decide) (by rw [hs1_4]; decide) (by decide) ?_
    refine A_aload_n (pc := 81) (i := 0) dX12_count_81 rfl rfl ?_
    refine A_getr (pc := 82) 0 fl_X12_7_12 hR.1 rfl hR.w0 dX12_count_82 ?_
    refine A_iconst (pc := 85) (5) dX12_count_85 (by decide) ?_
    refine A_ialdN (pc := 86) hR.k0 (show 5 < 300 by decide) (by decide) dX12_count_86 ?_
    exact A_iretE (pc := 87) dX12_count_87 rfl (Nat.zero_le _) (Nat.zero_le _) (by rw [d_count, if_neg hs1_0, if_neg hs1_1, if_neg hs1_2, if_neg hs1_3, if_pos hs1_4]) (by rw [d_count, if_neg hs1_0, if_neg hs1_1, if_neg hs1_2, if_neg hs1_3, if_pos hs1_4])
  by_cases hs1_5 : x = (5)
  · refine A_tableIn (pc := 1) (off := 87) 88 dX12_count_1 (by rw [hs1_5]; decide) (by rw [hs1_5]; decide) (by rw [hs1_5]; decide) (by decide) ?_
    refine A_aload_n (pc := 88) (i := 0) dX12_count_88 rfl rfl ?_
    refine A_getr (pc := 89) 0 fl_X12_7_12 hR.1 rfl hR.w0 dX12_count_89 ?_
    refine A_bipush (pc := 92) (7) dX12_count_92 (by decide) ?_
    refine A_ialdN (pc := 94) hR.k0 (show 7 < 300 by decide) (by decide) dX12_count_94 ?_
    exact A_iretE (pc := 95) dX12_count_95 rfl (Nat.zero_le _) (Nat.zero_le _) (by rw [d_count, if_neg hs1_0, if_neg hs1_1, if_neg hs1_2, if_neg hs1_3, if_neg hs1_4, if_pos hs1_5]) (by rw [d_count, if_neg hs1_0, if_neg hs1_1, if_neg hs1_2, if_neg hs1_3, if_neg hs1_4, if_pos hs1_5])
  by_cases hs1_6 : x = (6)
  · refine A_tableIn (pc := 1) (off := 95) 96 dX12_count_1 (by rw [hs1_6]; decide) (by rw [hs1_6]; decide) (by rw [hs1_6]; decide) (by decide) ?_
    refine A_aload_n (pc := 96) (i := 0) dX12_count_96 rfl rfl ?_
    refine A_getr (pc := 97) 0 fl_X12_7_12 hR.1 rfl hR.w0 dX12_count_97 ?_
    refine A_bipush (pc := 100) (8) dX12_count_100 (by decide) ?_
    refine A_ialdN (pc := 102) hR.k0 (show 8 < 300 by decide) (by decide) dX12_count_102 ?_
    exact A_iretE (pc := 103) dX12_count_103 rfl (Nat.zero_le _) (Nat.zero_le _) (by rw [d_count, if_neg hs1_0, if_neg hs1_1, if_neg hs1_2, if_neg hs1_3, if_neg hs1_4, if_neg hs1_5, if_pos hs1_6]) (by rw [d_count, if_neg hs1_0, if_neg hs1_1, if_neg hs1_2, if_neg hs1_3, if_neg hs1_4, if_neg hs1_5, if_pos hs1_6])
  by_cases hs1_7 : x = (7)
  · refine A_tableIn (pc := 1) (off := 103) 104 dX12_count_1 (by rw [hs1_7]; decide) (by rw [hs1_7]; decide) (by rw [hs1_7]; decide) (by decide) ?_
    refine A_aload_n (pc := 104) (i := 0) dX12_count_104 rfl rfl ?_
    refine A_geti (pc := 105) 15 fl_X12_278_12 hR.1 rfl dX12_count_105 ?_
    exact A_iretE (pc := 108) dX12_count_108 rfl (Nat.zero_le _) (Nat.zero_le _) (by rw [d_count, if_neg hs1_0, if_neg hs1_1, if_neg hs1_2, if_neg hs1_3, if_neg hs1_4, if_neg hs1_5, if_neg hs1_6, if_pos hs1_7]) (by rw [d_count, if_neg hs1_0, if_neg hs1_1, if_neg hs1_2, if_neg hs1_3, if_neg hs1_4, if_neg hs1_5, if_neg hs1_6, if_pos hs1_7])
  by_cases hs1_8 : x = (8)
  · refine A_tableIn (pc := 1) (off := 108) 109 dX12_count_1 (by rw [hs1_8]; decide) (by rw [hs1_8]; decide) (by rw [hs1_8]; decide) (by decide) ?_
    refine A_aload_n (pc := 109) (i := 0) dX12_count_109 rfl rfl ?_
    refine A_getr (pc := 110) 0 fl_X12_7_12 hR.1 rfl hR.w0 dX12_count_110 ?_
    refine A_bipush (pc := 113) (6) dX12_count_113 (by decide) ?_
    refine A_ialdN (pc := 115) hR.k0 (show 6 < 300 by decide) (by decide) dX12_count_115 ?_
    exact A_iretE (pc := 116) dX12_count_116 rfl (Nat.zero_le _) (Nat.zero_le _) (by rw [d_count, if_neg hs1_0, if_neg hs1_1, if_neg hs1_2, if_neg hs1_3, if_neg hs1_4, if_neg hs1_5, if_neg hs1_6, if_neg hs1_7, if_pos hs1_8]) (by rw [d_count, if_neg hs1_0, if_neg hs1_1, if_neg hs1_2, if_neg hs1_3, if_neg hs1_4, if_neg hs1_5, if_neg hs1_6, if_neg hs1_7, if_pos hs1_8])
  refine A_tableOut (pc := 1) 117 dX12_count_1 (by have := lv_neT hs1_0 (show ((0 : Int32)).toInt = (0) by decide); have := lv_neT hs1_1 (show ((1 : Int32)).toInt = (1) by decide); have := lv_neT hs1_2 (show ((2 : Int32)).toInt = (2) by decide); have := lv_neT hs1_3 (show ((3 : Int32)).toInt = (3) by decide); have := lv_neT hs1_4 (show ((4 : Int32)).toInt = (4) by decide); have := lv_neT hs1_5 (show ((5 : Int32)).toInt = (5) by decide); have := lv_neT hs1_6 (show ((6 : Int32)).toInt = (6) by decide); have := lv_neT hs1_7 (show ((7 : Int32)).toInt = (7) by decide); have := lv_neT hs1_8 (show ((8 : Int32)).toInt = (8) by decide); omega) (by decide) ?_
  refine A_aload_n (pc := 117) (i := 0) dX12_count_117 rfl rfl ?_
  refine A_iconst (pc := 118) (1) dX12_count_118 (by decide) ?_
  refine A_callV1 (pc := 119) cv_X12_65 (r_fnd1 l hR) hR.1 rfl rfl rfl rfl (Nat.le_of_ble_eq_true rfl) ⟨(Nat.le_of_ble_eq_true rfl), (Nat.le_of_ble_eq_true rfl)⟩ ⟨Nat.zero_le _, Nat.zero_le _⟩ dX12_count_119 ?_
  exact A_iretE (pc := 122) dX12_count_122 rfl (Nat.zero_le _) (Nat.zero_le _) (by rw [d_count, if_neg hs1_0, if_neg hs1_1, if_neg hs1_2, if_neg hs1_3, if_neg hs1_4, if_neg hs1_5, if_neg hs1_6, if_neg hs1_7, if_neg hs1_8]) (by rw [d_count, if_neg hs1_0, if_neg hs1_1, if_neg hs1_2, if_neg hs1_3, if_neg hs1_4, if_neg hs1_5, if_neg hs1_6, if_neg hs1_7, if_neg hs1_8])
noncomputable def c_trace (x : Int32) (iv : am_iv) : Int32 × am_iv := if sr_b (0 ≤ x ∧ x < iv (19, 0, 0) 1) = 0 then (-1000000002, er_heap 2 iv) else (iv (20, 0, 0) x.toNatClampNeg, iv)
set_option maxRecDepth 20000 in
theorem p_trace (l : Launch) {kd : am_kd} {rv : am_rv} {iv : am_iv} (hS : sh kd rv) (x : Int32) (s : Nat) (hs : iv (19, 0, 0) 1 = nI s) (hs40 : s ≤ 40) : am_Met l mX11_trace (am_rm 2 0 0) [am_P (1, 0, 0), am_I x] kd rv iv (am_ret (some (am_I (c_trace x iv).1)) kd rv (c_trace x iv).2) := by
  refine am_Met.of (by decide) (Nat.le_of_ble_eq_true rfl) rfl ?_
  refine A_aload_n (pc := 0) (i := 0) dX11_trace_0 rfl rfl ?_
  refine A_getr (pc := 1) 6 fl_X11_38_11 hS.k1 rfl hS.w1_6 dX11_trace_1 ?_
  refine A_iload_n (pc := 4) (i := 1) dX11_trace_4 rfl rfl ?_
  refine A_callV1 (pc := 5) cv_X11_279 (s_rwhas l (19, 0, 0) hS.k19 _) hS.k19 rfl rfl rfl rfl (Nat.le_of_ble_eq_true rfl) ⟨(Nat.le_of_ble_eq_true rfl), (Nat.le_of_ble_eq_true rfl)⟩ ⟨Nat.zero_le _, Nat.zero_le _⟩ dX11_trace_5 ?_
  refine A_ifeq (pc := 8) 23 dX11_trace_8 (by decide) (fun hb8 => ?_) (fun hb8 => ?_)
  · refine A_aload_n (pc := 23) (i := 0) dX11_trace_23 rfl rfl ?_
    refine A_ldc (pc := 24) (List.mem_cons_of_mem _ kc_X11_210) dX11_trace_24 ?_
    refine A_callV1 (pc := 26) cv_X11_61 (s_err2 l hS) hS.k1 rfl rfl rfl rfl (Nat.le_of_ble_eq_true rfl) ⟨(Nat.le_of_ble_eq_true rfl), (Nat.le_of_ble_eq_true rfl)⟩ ⟨Nat.zero_le _, Nat.zero_le _⟩ dX11_trace_26 ?_
    exact A_iretE (pc := 29) dX11_trace_29 rfl (Nat.zero_le _) (Nat.zero_le _) (by rw [c_trace, if_pos hb8]) (by rw [c_trace, if_pos hb8])
  · have hx := (sr_b_1 _).mp hb8
    have hxs : x.toNatClampNeg < s := nI_cl_lt hx.1 (hs ▸ hx.2) (by omega)
    refine A_aload_n (pc := 11) (i := 0) dX11_trace_11 rfl rfl ?_
    refine A_getr (pc := 12) 6 fl_X11_38_11 hS.k1 rfl hS.w1_6 dX11_trace_12 ?_
    refine A_getr (pc := 15) 0 fl_X11_282_5 hS.k19 rfl hS.w19 dX11_trace_15 ?_
    refine A_iload_n (pc := 18) (i := 1) dX11_trace_18 rfl rfl ?_
    refine A_top (nI_cl hx.1) ?_
    refine A_ialdN (pc := 19) hS.k20 (show x.toNatClampNeg < 40 by omega) (by decide) dX11_trace_19 ?_
    refine A_goto (pc := 20) 29 dX11_trace_20 (by decide) ?_
    exact A_iretE (pc := 29) dX11_trace_29 rfl (Nat.zero_le _) (Nat.zero_le _) (by rw [c_trace, if_neg hb8]) (by rw [c_trace, if_neg hb8])
theorem nI_m1k {n : Nat} {x : Int32} (hn : n ≤ 1000) (h0 : 0 ≤ x) (h : x ≤ nI n - 1) : x.toNatClampNeg < n := by
  rcases Nat.eq_zero_or_pos n with e | e
  · subst e
    exact absurd (Int32.le_trans h0 h) (by decide)
  · rw [nI_m1 e] at h
    have := nI_cl_le h0 h (by omega)
    omega
theorem has_isk {n : Nat} (hn : n ≤ 1000) (x : Int32) : (0 ≤ x ∧ x < nI n) ↔ (0 ≤ x ∧ x ≤ nI n - 1) := by
  constructor
  · intro ⟨h0, h⟩
    have h1 := nI_cl_lt h0 h (by omega)
    refine ⟨h0, ?_⟩
    rw [nI_cl h0, nI_m1 (by omega)]
    exact nI_le (by omega) (by omega)
  · intro ⟨h0, h⟩
    have h1 := nI_m1k hn h0 h
    refine ⟨h0, ?_⟩
    rw [nI_cl h0]
    exact nI_lt h1 (by omega)
noncomputable def d_trace (x : Int32) (iv : am_iv) : Int32 × am_iv := if sr_b (0 ≤ x ∧ x ≤ iv (30, 0, 0) 15 - 1) = 0 then (-1000000002, rx_find 2 iv) else (iv (31, 14, 0) x.toNatClampNeg, iv)
set_option maxRecDepth 20000 in
theorem q_trace (l : Launch) {kd : am_kd} {rv : am_rv} {iv : am_iv} (hR : shr kd rv) (x : Int32) (s : Nat) (hs : iv (30, 0, 0) 15 = nI s) (hs40 : s ≤ 40) : am_Met l mX12_trace (am_rm 2 0 0) [am_P (30, 0, 0), am_I x] kd rv iv (am_ret (some (am_I (d_trace x iv).1)) kd rv (d_trace x iv).2) := by
  refine am_Met.of (by decide) (Nat.le_of_ble_eq_true rfl) rfl ?_
  refine A_iload_n (pc := 0) (i := 1) dX12_trace_0 rfl rfl ?_
  refine A_i2l (pc := 1) dX12_trace_1 ?_
  refine A_lconst (pc := 2) (0) dX12_trace_2 (by decide) ?_
  refine A_topJ (y := Int32.toInt64 (0)) (by decide +kernel) ?_
  refine A_aload_n (pc := 3) (i := 0) dX12_trace_3 rfl rfl ?_
  refine A_geti (pc := 4) 15 fl_X12_278_12 hR.1 rfl dX12_trace_4 ?_
  refine A_iconst (pc := 7) (1) dX12_trace_7 (by decide) ?_
  refine A_isub (pc := 8) dX12_trace_8 ?_
  refine A_i2l (pc := 9) dX12_trace_9 ?_
  refine A_callS1 (pc := 10) cs_X12_48 (r_in l _ _ _) rfl rfl (Nat.le_of_ble_eq_true rfl) ⟨(Nat.le_of_ble_eq_true rfl), (Nat.le_of_ble_eq_true rfl)⟩ ⟨Nat.zero_le _, Nat.zero_le _⟩ dX12_trace_10 ?_
  refine A_ifeq (pc := 13) 25 dX12_trace_13 (by decide) (fun hb13 => ?_) (fun hb13 => ?_)
  · refine A_aload_n (pc := 25) (i := 0) dX12_trace_25 rfl rfl ?_
    refine A_iconst (pc := 26) (2) dX12_trace_26 (by decide) ?_
    refine A_callV1 (pc := 27) cv_X12_65 (r_fnd2 l hR) hR.1 rfl rfl rfl rfl (Nat.le_of_ble_eq_true rfl) ⟨(Nat.le_of_ble_eq_true rfl), (Nat.le_of_ble_eq_true rfl)⟩ ⟨Nat.zero_le _, Nat.zero_le _⟩ dX12_trace_27 ?_
    exact A_iretE (pc := 30) dX12_trace_30 rfl (Nat.zero_le _) (Nat.zero_le _) (by rw [d_trace, if_pos hb13]) (by rw [d_trace, if_pos hb13])
  · have hx := (sr_b_1 _).mp hb13
    have hxs : x.toNatClampNeg < s := nI_m1k (by omega) hx.1 (hs ▸ hx.2)
    refine A_aload_n (pc := 16) (i := 0) dX12_trace_16 rfl rfl ?_
    refine A_getr (pc := 17) 14 fl_X12_31_12 hR.1 rfl hR.w14 dX12_trace_17 ?_
    refine A_iload_n (pc := 20) (i := 1) dX12_trace_20 rfl rfl ?_
    refine A_top (nI_cl hx.1) ?_
    refine A_ialdN (pc := 21) hR.k14 (show x.toNatClampNeg < 40 by omega) (by decide) dX12_trace_21 ?_
    refine A_goto (pc := 22) 30 dX12_trace_22 (by decide) ?_
    exact A_iretE (pc := 30) dX12_trace_30 rfl (Nat.zero_le _) (Nat.zero_le _) (by rw [d_trace, if_neg hb13]) (by rw [d_trace, if_neg hb13])
noncomputable def c_tell (x : Int32) (zw : Nat) (iv : am_iv) : Int32 × am_iv := if iv (14, 0, 0) 1 < 20 then ((rw_add (14, 0, 0) (15, 0, 0) 20 zw x iv) (14, 0, 0) 1, (rw_add (14, 0, 0) (15, 0, 0) 20 zw x iv)) else (-1000000004, er_heap 4 iv)
set_option maxRecDepth 20000 in
theorem p_tell (l : Launch) {kd : am_kd} {rv : am_rv} {iv : am_iv} (hS : sh kd rv) (x : Int32) (zw : Nat) (hw : iv (14, 0, 0) 1 = nI zw) (hw2 : zw ≤ 20) : am_Met l mX11_tell (am_rm 2 0 0) [am_P (1, 0, 0), am_I x] kd rv iv (am_ret (some (am_I (c_tell x zw iv).1)) kd rv (c_tell x zw iv).2) := by
  refine am_Met.of (by decide) (Nat.le_of_ble_eq_true rfl) rfl ?_
  refine A_aload_n (pc := 0) (i := 0) dX11_tell_0 rfl rfl ?_
  refine A_getr (pc := 1) 0 fl_X11_12_11 hS.k1 rfl (hS.w1 (k := 0) (by decide)) dX11_tell_1 ?_
  refine A_getr (pc := 4) 12 fl_X11_315_4 (hS.k2 (by decide)) rfl (hS.w2_12 (by decide)) dX11_tell_4 ?_
  refine A_geti (pc := 7) 1 fl_X11_174_5 (hS.k14 (by decide)) rfl dX11_tell_7 ?_
  refine A_bipush (pc := 10) (20) dX11_tell_10 (by decide) ?_
  refine A_icmplt (pc := 12) 22 dX11_tell_12 (by decide) (fun hb12 => ?_) (fun hb12 => ?_)
  · refine A_aload_n (pc := 22) (i := 0) dX11_tell_22 rfl rfl ?_
    refine A_getr (pc := 23) 0 fl_X11_12_11 hS.k1 rfl (hS.w1 (k := 0) (by decide)) dX11_tell_23 ?_
    refine A_getr (pc := 26) 12 fl_X11_315_4 (hS.k2 (by decide)) rfl (hS.w2_12 (by decide)) dX11_tell_26 ?_
    refine A_iload_n (pc := 29) (i := 1) dX11_tell_29 rfl rfl ?_
    refine A_callV0 (pc := 30) cv_X11_179 (s_rwadd l (14, 0, 0) (15, 0, 0) 20 zw (hS.k14 (by decide)) (hS.w14 (by decide)) (hS.k15 (by decide)) (by decide) hw hw2 (by simp) _) (hS.k14 (by decide)) rfl rfl rfl rfl (Nat.le_of_ble_eq_true rfl) ⟨(Nat.le_of_ble_eq_true rfl), (Nat.le_of_ble_eq_true rfl)⟩ ⟨Nat.zero_le _, Nat.zero_le _⟩ dX11_tell_30 ?_
    refine A_aload_n (pc := 33) (i := 0) dX11_tell_33 rfl rfl ?_
    refine A_getr (pc := 34) 0 fl_X11_12_11 hS.k1 rfl (hS.w1 (k := 0) (by decide)) dX11_tell_34 ?_
    refine A_getr (pc := 37) 12 fl_X11_315_4 (hS.k2 (by decide)) rfl (hS.w2_12 (by decide)) dX11_tell_37 ?_
    refine A_geti (pc := 40) 1 fl_X11_174_5 (hS.k14 (by decide)) rfl dX11_tell_40 ?_
    exact A_iretE (pc := 43) dX11_tell_43 rfl (Nat.zero_le _) (Nat.zero_le _) (by rw [c_tell, if_pos hb12]) (by rw [c_tell, if_pos hb12])
  · refine A_aload_n (pc := 15) (i := 0) dX11_tell_15 rfl rfl ?_
    refine A_ldc (pc := 16) (List.mem_cons_of_mem _ kc_X11_69) dX11_tell_16 ?_
    refine A_callV1 (pc := 18) cv_X11_61 (s_err4 l hS) hS.k1 rfl rfl rfl rfl (Nat.le_of_ble_eq_true rfl) ⟨(Nat.le_of_ble_eq_true rfl), (Nat.le_of_ble_eq_true rfl)⟩ ⟨Nat.zero_le _, Nat.zero_le _⟩ dX11_tell_18 ?_
    exact A_iretE (pc := 21) dX11_tell_21 rfl (Nat.zero_le _) (Nat.zero_le _) (by rw [c_tell, if_neg hb12]) (by rw [c_tell, if_neg hb12])
noncomputable def d_tell (x : Int32) (zw : Nat) (iv : am_iv) : Int32 × am_iv := if iv (31, 0, 0) 8 = 20 then (-1000000004, rx_find 4 iv) else (am_ui (am_ui iv (31, 0, 0) (50 + zw) x) (31, 0, 0) 8 ((am_ui iv (31, 0, 0) (50 + zw) x) (31, 0, 0) 8 + 1) (31, 0, 0) 8, am_ui (am_ui iv (31, 0, 0) (50 + zw) x) (31, 0, 0) 8 ((am_ui iv (31, 0, 0) (50 + zw) x) (31, 0, 0) 8 + 1))
set_option maxRecDepth 20000 in
theorem q_tell (l : Launch) {kd : am_kd} {rv : am_rv} {iv : am_iv} (hR : shr kd rv) (x : Int32) (zw : Nat) (hw : iv (31, 0, 0) 8 = nI zw) (hw2 : zw ≤ 20) : am_Met l mX12_tell (am_rm 1 0 0) [am_P (30, 0, 0), am_I x] kd rv iv (am_ret (some (am_I (d_tell x zw iv).1)) kd rv (d_tell x zw iv).2) := by
  refine am_Met.of (by decide) (Nat.le_of_ble_eq_true rfl) rfl ?_
  refine A_aload_n (pc := 0) (i := 0) dX12_tell_0 rfl rfl ?_
  refine A_getr (pc := 1) 0 fl_X12_7_12 hR.1 rfl hR.w0 dX12_tell_1 ?_
  refine A_bipush (pc := 4) (8) dX12_tell_4 (by decide) ?_
  refine A_ialdN (pc := 6) hR.k0 (show 8 < 300 by decide) (by decide) dX12_tell_6 ?_
  refine A_bipush (pc := 7) (20) dX12_tell_7 (by decide) ?_
  refine A_icmpne (pc := 9) 18 dX12_tell_9 (by decide) (fun hb9 => ?_) (fun hb9 => ?_)
  · refine A_aload_n (pc := 18) (i := 0) dX12_tell_18 rfl rfl ?_
    refine A_getr (pc := 19) 0 fl_X12_7_12 hR.1 rfl hR.w0 dX12_tell_19 ?_
    refine A_bipush (pc := 22) (50) dX12_tell_22 (by decide) ?_
    refine A_aload_n (pc := 24) (i := 0) dX12_tell_24 rfl rfl ?_
    refine A_getr (pc := 25) 0 fl_X12_7_12 hR.1 rfl hR.w0 dX12_tell_25 ?_
    refine A_bipush (pc := 28) (8) dX12_tell_28 (by decide) ?_
    refine A_ialdN (pc := 30) hR.k0 (show 8 < 300 by decide) (by decide) dX12_tell_30 ?_
    refine A_iadd (pc := 31) dX12_tell_31 ?_
    refine A_top (y := nI (50 + zw)) (by rw [hw]; exact nI_add 50 zw) ?_
    refine A_iload_n (pc := 32) (i := 1) dX12_tell_32 rfl rfl ?_
    refine A_iastN (pc := 33) hR.k0 (show 50 + zw < 300 by omega) (by decide) dX12_tell_33 ?_
    refine A_aload_n (pc := 34) (i := 0) dX12_tell_34 rfl rfl ?_
    refine A_getr (pc := 35) 0 fl_X12_7_12 hR.1 rfl hR.w0 dX12_tell_35 ?_
    refine A_bipush (pc := 38) (8) dX12_tell_38 (by decide) ?_
    refine A_dup2 (pc := 40) dX12_tell_40 rfl rfl ?_
    refine A_ialdN (pc := 41) hR.k0 (show 8 < 300 by decide) (by decide) dX12_tell_41 ?_
    refine A_iconst (pc := 42) (1) dX12_tell_42 (by decide) ?_
    refine A_iadd (pc := 43) dX12_tell_43 ?_
    refine A_iastN (pc := 44) hR.k0 (show 8 < 300 by decide) (by decide) dX12_tell_44 ?_
    refine A_aload_n (pc := 45) (i := 0) dX12_tell_45 rfl rfl ?_
    refine A_getr (pc := 46) 0 fl_X12_7_12 hR.1 rfl hR.w0 dX12_tell_46 ?_
    refine A_bipush (pc := 49) (8) dX12_tell_49 (by decide) ?_
    refine A_ialdN (pc := 51) hR.k0 (show 8 < 300 by decide) (by decide) dX12_tell_51 ?_
    exact A_iretE (pc := 52) dX12_tell_52 rfl (Nat.zero_le _) (Nat.zero_le _) (by rw [d_tell, if_neg hb9]) (by rw [d_tell, if_neg hb9])
  · refine A_aload_n (pc := 12) (i := 0) dX12_tell_12 rfl rfl ?_
    refine A_iconst (pc := 13) (4) dX12_tell_13 (by decide) ?_
    refine A_callV1 (pc := 14) cv_X12_65 (r_fnd4 l hR) hR.1 rfl rfl rfl rfl (Nat.le_of_ble_eq_true rfl) ⟨(Nat.le_of_ble_eq_true rfl), (Nat.le_of_ble_eq_true rfl)⟩ ⟨Nat.zero_le _, Nat.zero_le _⟩ dX12_tell_14 ?_
    exact A_iretE (pc := 17) dX12_tell_17 rfl (Nat.zero_le _) (Nat.zero_le _) (by rw [d_tell, if_pos hb9]) (by rw [d_tell, if_pos hb9])
noncomputable def c_image (n z0 z1 zt zw : Nat) (iv : am_iv) : Int32 × am_iv := (am_ui (rb_heap 3 0 n z0 z1 zt zw iv) (1, 0, 0) 4 ((rb_heap 3 0 n z0 z1 zt zw iv) (1, 0, 0) 4 + 1) (1, 0, 0) 4, am_ui (rb_heap 3 0 n z0 z1 zt zw iv) (1, 0, 0) 4 ((rb_heap 3 0 n z0 z1 zt zw iv) (1, 0, 0) 4 + 1))
set_option maxRecDepth 20000 in
theorem p_image (l : Launch) {kd : am_kd} {rv : am_rv} {iv : am_iv} (hS : sh kd rv) (n z0 z1 zt zw : Nat) (hn : iv (2, 0, 0) 1 = nI n) (hn8 : n ≤ 8) (hb : ∀ r, r < n → iv (4, 0, r) 7 = 0 ∨ iv (4, 0, r) 7 = 1) (hlo : la_ok kd rv 0) (h0 : iv (9, 0, 0) 1 = nI z0) (h05 : z0 ≤ 50) (h1 : iv (9, 0, 1) 1 = nI z1) (h15 : z1 ≤ 50) (ht : iv (12, 0, 0) 1 = nI zt) (ht5 : zt ≤ 50) (hw : iv (14, 0, 0) 1 = nI zw) (hw2 : zw ≤ 20) : am_Met l mX11_image (am_rm 4 0 0) [am_P (1, 0, 0)] kd rv iv (am_ret (some (am_I (c_image n z0 z1 zt zw iv).1)) kd (lw_cp 3 0 rv 6) (c_image n z0 z1 zt zw iv).2) := by
  refine am_Met.of (by decide) (Nat.le_of_ble_eq_true rfl) rfl ?_
  refine A_aload_n (pc := 0) (i := 0) dX11_image_0 rfl rfl ?_
  refine A_getr (pc := 1) 3 fl_X11_22_11 hS.k1 rfl (hS.w1 (k := 3) (by decide)) dX11_image_1 ?_
  refine A_aload_n (pc := 4) (i := 0) dX11_image_4 rfl rfl ?_
  refine A_getr (pc := 5) 0 fl_X11_12_11 hS.k1 rfl (hS.w1 (k := 0) (by decide)) dX11_image_5 ?_
  refine A_callV0 (pc := 8) cv_X11_220 (s_rmbecome l hS 3 (by decide) 0 (by decide) (by decide) n hn hn8 hb hlo z0 z1 zt zw h0 h05 h1 h15 ht ht5 hw hw2) (hS.k2 (by decide)) rfl rfl rfl rfl (Nat.le_of_ble_eq_true rfl) ⟨(Nat.le_of_ble_eq_true rfl), (Nat.le_of_ble_eq_true rfl)⟩ ⟨Nat.zero_le _, Nat.zero_le _⟩ dX11_image_8 ?_
  have hS := lw_cp_sh (i := 3) (o := 0) hS 6
  refine A_aload_n (pc := 11) (i := 0) dX11_image_11 rfl rfl ?_
  refine A_dup (pc := 12) dX11_image_12 rfl ?_
  refine A_geti (pc := 13) 4 fl_X11_25_11 hS.k1 rfl dX11_image_13 ?_
  refine A_iconst (pc := 16) (1) dX11_image_16 (by decide) ?_
  refine A_iadd (pc := 17) dX11_image_17 ?_
  refine A_puti (pc := 18) 4 fl_X11_25_11 hS.k1 rfl (by decide +kernel) rfl rfl dX11_image_18 ?_
  refine A_aload_n (pc := 21) (i := 0) dX11_image_21 rfl rfl ?_
  refine A_geti (pc := 22) 4 fl_X11_25_11 hS.k1 rfl dX11_image_22 ?_
  exact A_iretE (pc := 25) dX11_image_25 rfl (Nat.zero_le _) (Nat.zero_le _) (by rw [c_image]) (by rw [c_image])
noncomputable def d_image (iv : am_iv) : Int32 × am_iv := (am_ui (rx_cp (31, 0, 0) (31, 4, 0) iv 300) (30, 0, 0) 5 ((rx_cp (31, 0, 0) (31, 4, 0) iv 300) (30, 0, 0) 5 + 1) (30, 0, 0) 5, am_ui (rx_cp (31, 0, 0) (31, 4, 0) iv 300) (30, 0, 0) 5 ((rx_cp (31, 0, 0) (31, 4, 0) iv 300) (30, 0, 0) 5 + 1))
set_option maxRecDepth 20000 in
theorem q_image (l : Launch) {kd : am_kd} {rv : am_rv} {iv : am_iv} (hR : shr kd rv) : am_Met l mX12_image (am_rm 1 0 0) [am_P (30, 0, 0)] kd rv iv (am_ret (some (am_I (d_image  iv).1)) kd rv (d_image  iv).2) := by
  refine am_Met.of (by decide) (Nat.le_of_ble_eq_true rfl) rfl ?_
  refine A_aload_n (pc := 0) (i := 0) dX12_image_0 rfl rfl ?_
  refine A_getr (pc := 1) 0 fl_X12_7_12 hR.1 rfl hR.w0 dX12_image_1 ?_
  refine A_aload_n (pc := 4) (i := 0) dX12_image_4 rfl rfl ?_
  refine A_getr (pc := 5) 4 fl_X12_22_12 hR.1 rfl hR.w4 dX12_image_5 ?_
  refine A_callS0 (pc := 8) cs_X12_240 (r_copies l (31, 0, 0) (31, 4, 0) hR.k0 hR.k4 (by simp)) rfl rfl (Nat.le_of_ble_eq_true rfl) ⟨(Nat.le_of_ble_eq_true rfl), (Nat.le_of_ble_eq_true rfl)⟩ ⟨Nat.zero_le _, Nat.zero_le _⟩ dX12_image_8 ?_
  refine A_aload_n (pc := 11) (i := 0) dX12_image_11 rfl rfl ?_
  refine A_dup (pc := 12) dX12_image_12 rfl ?_
  refine A_geti (pc := 13) 5 fl_X12_308_12 hR.1 rfl dX12_image_13 ?_
  refine A_iconst (pc := 16) (1) dX12_image_16 (by decide) ?_
  refine A_iadd (pc := 17) dX12_image_17 ?_
  refine A_puti (pc := 18) 5 fl_X12_308_12 hR.1 rfl (by decide +kernel) rfl rfl dX12_image_18 ?_
  refine A_aload_n (pc := 21) (i := 0) dX12_image_21 rfl rfl ?_
  refine A_geti (pc := 22) 5 fl_X12_308_12 hR.1 rfl dX12_image_22 ?_
  exact A_iretE (pc := 25) dX12_image_25 rfl (Nat.zero_le _) (Nat.zero_le _) (by rw [d_image]) (by rw [d_image])
noncomputable def c_restore (n z0 z1 zt zw : Nat) (iv : am_iv) : Int32 × am_iv := ((rb_heap 0 3 n z0 z1 zt zw iv) (2, 0, 0) 8, (rb_heap 0 3 n z0 z1 zt zw iv))
set_option maxRecDepth 20000 in
theorem p_restore (l : Launch) {kd : am_kd} {rv : am_rv} {iv : am_iv} (hS : sh kd rv) (hi : ¬ iv (1, 0, 0) 4 = 0) (n z0 z1 zt zw : Nat) (hn : iv (2, 3, 0) 1 = nI n) (hn8 : n ≤ 8) (hb : ∀ r, r < n → iv (4, 3, r) 7 = 0 ∨ iv (4, 3, r) 7 = 1) (hlo : la_ok kd rv 3) (h0 : iv (9, 3, 0) 1 = nI z0) (h05 : z0 ≤ 50) (h1 : iv (9, 3, 1) 1 = nI z1) (h15 : z1 ≤ 50) (ht : iv (12, 3, 0) 1 = nI zt) (ht5 : zt ≤ 50) (hw : iv (14, 3, 0) 1 = nI zw) (hw2 : zw ≤ 20) : am_Met l mX11_restore (am_rm 4 0 0) [am_P (1, 0, 0)] kd rv iv (am_ret (some (am_I (c_restore n z0 z1 zt zw iv).1)) kd (lw_cp 0 3 rv 6) (c_restore n z0 z1 zt zw iv).2) := by
  refine am_Met.of (by decide) (Nat.le_of_ble_eq_true rfl) rfl ?_
  refine A_aload_n (pc := 0) (i := 0) dX11_restore_0 rfl rfl ?_
  refine A_geti (pc := 1) 4 fl_X11_25_11 hS.k1 rfl dX11_restore_1 ?_
  refine A_ifne (pc := 4) 14 dX11_restore_4 (by decide) (fun hb4 => ?_) (fun hb4 => ?_)
  · refine A_aload_n (pc := 14) (i := 0) dX11_restore_14 rfl rfl ?_
    refine A_getr (pc := 15) 0 fl_X11_12_11 hS.k1 rfl (hS.w1 (k := 0) (by decide)) dX11_restore_15 ?_
    refine A_aload_n (pc := 18) (i := 0) dX11_restore_18 rfl rfl ?_
    refine A_getr (pc := 19) 3 fl_X11_22_11 hS.k1 rfl (hS.w1 (k := 3) (by decide)) dX11_restore_19 ?_
    refine A_callV0 (pc := 22) cv_X11_220 (s_rmbecome l hS 0 (by decide) 3 (by decide) (by decide) n hn hn8 hb hlo z0 z1 zt zw h0 h05 h1 h15 ht ht5 hw hw2) (hS.k2 (by decide)) rfl rfl rfl rfl (Nat.le_of_ble_eq_true rfl) ⟨(Nat.le_of_ble_eq_true rfl), (Nat.le_of_ble_eq_true rfl)⟩ ⟨Nat.zero_le _, Nat.zero_le _⟩ dX11_restore_22 ?_
    have hS := lw_cp_sh (i := 0) (o := 3) hS 6
    refine A_aload_n (pc := 25) (i := 0) dX11_restore_25 rfl rfl ?_
    refine A_getr (pc := 26) 0 fl_X11_12_11 hS.k1 rfl (hS.w1 (k := 0) (by decide)) dX11_restore_26 ?_
    refine A_geti (pc := 29) 8 fl_X11_312_4 (hS.k2 (by decide)) rfl dX11_restore_29 ?_
    exact A_iretE (pc := 32) dX11_restore_32 rfl (Nat.zero_le _) (Nat.zero_le _) (by rw [c_restore]) (by rw [c_restore])
  · exact absurd hb4 hi
set_option maxRecDepth 20000 in
theorem p_restore0 (l : Launch) {kd : am_kd} {rv : am_rv} {iv : am_iv} (hS : sh kd rv) (hi : iv (1, 0, 0) 4 = 0) : am_Met l mX11_restore (am_rm 4 0 0) [am_P (1, 0, 0)] kd rv iv (am_ret (some (am_I (-1000000002))) kd rv (er_heap 2 iv)) := by
  refine am_Met.of (by decide) (Nat.le_of_ble_eq_true rfl) rfl ?_
  refine A_aload_n (pc := 0) (i := 0) dX11_restore_0 rfl rfl ?_
  refine A_geti (pc := 1) 4 fl_X11_25_11 hS.k1 rfl dX11_restore_1 ?_
  refine A_ifne (pc := 4) 14 dX11_restore_4 (by decide) (fun hb4 => ?_) (fun hb4 => ?_)
  · exact absurd hi hb4
  · refine A_aload_n (pc := 7) (i := 0) dX11_restore_7 rfl rfl ?_
    refine A_ldc (pc := 8) (List.mem_cons_of_mem _ kc_X11_210) dX11_restore_8 ?_
    refine A_callV1 (pc := 10) cv_X11_61 (s_err2 l hS) hS.k1 rfl rfl rfl rfl (Nat.le_of_ble_eq_true rfl) ⟨(Nat.le_of_ble_eq_true rfl), (Nat.le_of_ble_eq_true rfl)⟩ ⟨Nat.zero_le _, Nat.zero_le _⟩ dX11_restore_10 ?_
    exact A_iretE (pc := 13) dX11_restore_13 rfl (Nat.zero_le _) (Nat.zero_le _) ((rfl)) ((rfl))
noncomputable def d_restore (iv : am_iv) : Int32 × am_iv := if iv (30, 0, 0) 5 = 0 then (-1000000002, rx_find 2 iv) else ((rx_cp (31, 4, 0) (31, 0, 0) iv 300) (31, 0, 0) 0, (rx_cp (31, 4, 0) (31, 0, 0) iv 300))
set_option maxRecDepth 20000 in
theorem q_restore (l : Launch) {kd : am_kd} {rv : am_rv} {iv : am_iv} (hR : shr kd rv) : am_Met l mX12_restore (am_rm 1 0 0) [am_P (30, 0, 0)] kd rv iv (am_ret (some (am_I (d_restore  iv).1)) kd rv (d_restore  iv).2) := by
  refine am_Met.of (by decide) (Nat.le_of_ble_eq_true rfl) rfl ?_
  refine A_aload_n (pc := 0) (i := 0) dX12_restore_0 rfl rfl ?_
  refine A_geti (pc := 1) 5 fl_X12_308_12 hR.1 rfl dX12_restore_1 ?_
  refine A_ifne (pc := 4) 13 dX12_restore_4 (by decide) (fun hb4 => ?_) (fun hb4 => ?_)
  · refine A_aload_n (pc := 13) (i := 0) dX12_restore_13 rfl rfl ?_
    refine A_getr (pc := 14) 4 fl_X12_22_12 hR.1 rfl hR.w4 dX12_restore_14 ?_
    refine A_aload_n (pc := 17) (i := 0) dX12_restore_17 rfl rfl ?_
    refine A_getr (pc := 18) 0 fl_X12_7_12 hR.1 rfl hR.w0 dX12_restore_18 ?_
    refine A_callS0 (pc := 21) cs_X12_240 (r_copies l (31, 4, 0) (31, 0, 0) hR.k4 hR.k0 (by simp)) rfl rfl (Nat.le_of_ble_eq_true rfl) ⟨(Nat.le_of_ble_eq_true rfl), (Nat.le_of_ble_eq_true rfl)⟩ ⟨Nat.zero_le _, Nat.zero_le _⟩ dX12_restore_21 ?_
    refine A_aload_n (pc := 24) (i := 0) dX12_restore_24 rfl rfl ?_
    refine A_getr (pc := 25) 0 fl_X12_7_12 hR.1 rfl hR.w0 dX12_restore_25 ?_
    refine A_iconst (pc := 28) (0) dX12_restore_28 (by decide) ?_
    refine A_ialdN (pc := 29) hR.k0 (show 0 < 300 by decide) (by decide) dX12_restore_29 ?_
    exact A_iretE (pc := 30) dX12_restore_30 rfl (Nat.zero_le _) (Nat.zero_le _) (by rw [d_restore, if_neg hb4]) (by rw [d_restore, if_neg hb4])
  · refine A_aload_n (pc := 7) (i := 0) dX12_restore_7 rfl rfl ?_
    refine A_iconst (pc := 8) (2) dX12_restore_8 (by decide) ?_
    refine A_callV1 (pc := 9) cv_X12_65 (r_fnd2 l hR) hR.1 rfl rfl rfl rfl (Nat.le_of_ble_eq_true rfl) ⟨(Nat.le_of_ble_eq_true rfl), (Nat.le_of_ble_eq_true rfl)⟩ ⟨Nat.zero_le _, Nat.zero_le _⟩ dX12_restore_9 ?_
    exact A_iretE (pc := 12) dX12_restore_12 rfl (Nat.zero_le _) (Nat.zero_le _) (by rw [d_restore, if_pos hb4]) (by rw [d_restore, if_pos hb4])
noncomputable def c_put (x y v : Int32) (iv : am_iv) : Int32 × am_iv := if sr_b (0 ≤ x ∧ x ≤ 3) = 0 then (-1000000001, er_heap 1 iv) else if sr_b (iv (17, x.toNatClampNeg, 0) 2 = 0) = 0 then (if sr_b (0 ≤ y ∧ y < iv (17, x.toNatClampNeg, 0) 1) = 0 then (-1000000001, er_heap 1 iv) else (1, if 0 ≤ y ∧ y < iv (17, x.toNatClampNeg, 0) 1 then am_ui iv (18, x.toNatClampNeg, 0) y.toNatClampNeg (rw_nar (iv (17, x.toNatClampNeg, 0) 2) v) else iv)) else (-1000000002, er_heap 2 iv)
set_option maxRecDepth 20000 in
theorem p_put (l : Launch) {kd : am_kd} {rv : am_rv} {iv : am_iv} (hS : sh kd rv) (x y v : Int32) (sz : Nat → Nat) (hsz : ∀ s, s < 4 → iv (17, s, 0) 1 = nI (sz s) ∧ sz s ≤ 40) : am_Met l mX11_put (am_rm 3 0 0) [am_P (1, 0, 0), am_I x, am_I y, am_I v] kd rv iv (am_ret (some (am_I (c_put x y v iv).1)) kd rv (c_put x y v iv).2) := by
  refine am_Met.of (by decide) (Nat.le_of_ble_eq_true rfl) rfl ?_
  refine A_iload_n (pc := 0) (i := 1) dX11_put_0 rfl rfl ?_
  refine A_callS1 (pc := 1) cs_X11_285 (s_isSheet l _) rfl rfl (Nat.le_of_ble_eq_true rfl) ⟨(Nat.le_of_ble_eq_true rfl), (Nat.le_of_ble_eq_true rfl)⟩ ⟨Nat.zero_le _, Nat.zero_le _⟩ dX11_put_1 ?_
  refine A_ifne (pc := 4) 14 dX11_put_4 (by decide) (fun hb4 => ?_) (fun hb4 => ?_)
  · have hx := (sr_b_1 _).mp hb4
    have hx4 : x.toNatClampNeg < 4 := Nat.lt_of_le_of_lt (nI_cl_le (n := 3) hx.1 hx.2 (by decide)) (by decide)
    refine A_aload_n (pc := 14) (i := 0) dX11_put_14 rfl rfl ?_
    refine A_iload_n (pc := 15) (i := 1) dX11_put_15 rfl rfl ?_
    refine A_top (nI_cl hx.1) ?_
    refine A_callV1 (pc := 16) cv_X11_293 (s_isMissing l hS _ hx4) hS.k1 rfl rfl rfl rfl (Nat.le_of_ble_eq_true rfl) ⟨(Nat.le_of_ble_eq_true rfl), (Nat.le_of_ble_eq_true rfl)⟩ ⟨Nat.zero_le _, Nat.zero_le _⟩ dX11_put_16 ?_
    refine A_ifeq (pc := 19) 29 dX11_put_19 (by decide) (fun hb19 => ?_) (fun hb19 => ?_)
    · refine A_aload_n (pc := 29) (i := 0) dX11_put_29 rfl rfl ?_
      refine A_getr (pc := 30) 5 fl_X11_31_11 hS.k1 rfl hS.w1_5 dX11_put_30 ?_
      refine A_iload_n (pc := 33) (i := 1) dX11_put_33 rfl rfl ?_
      refine A_top (nI_cl hx.1) ?_
      refine A_aaldN (pc := 34) hS.k16 (by decide) (by decide) hx4 (by decide) (hS.w16 hx4) dX11_put_34 ?_
      refine A_iload_n (pc := 35) (i := 2) dX11_put_35 rfl rfl ?_
      refine A_callV1 (pc := 36) cv_X11_279 (s_rwhas l _ (hS.k17 hx4) _) (hS.k17 hx4) rfl rfl rfl rfl (Nat.le_of_ble_eq_true rfl) ⟨(Nat.le_of_ble_eq_true rfl), (Nat.le_of_ble_eq_true rfl)⟩ ⟨Nat.zero_le _, Nat.zero_le _⟩ dX11_put_36 ?_
      refine A_ifne (pc := 39) 49 dX11_put_39 (by decide) (fun hb39 => ?_) (fun hb39 => ?_)
      · refine A_aload_n (pc := 49) (i := 0) dX11_put_49 rfl rfl ?_
        refine A_getr (pc := 50) 5 fl_X11_31_11 hS.k1 rfl hS.w1_5 dX11_put_50 ?_
        refine A_iload_n (pc := 53) (i := 1) dX11_put_53 rfl rfl ?_
        refine A_top (nI_cl hx.1) ?_
        refine A_aaldN (pc := 54) hS.k16 (by decide) (by decide) hx4 (by decide) (hS.w16 hx4) dX11_put_54 ?_
        refine A_iload_n (pc := 55) (i := 2) dX11_put_55 rfl rfl ?_
        refine A_iload_n (pc := 56) (i := 3) dX11_put_56 rfl rfl ?_
        refine A_callV0 (pc := 57) cv_X11_296 (s_rwwrite l _ _ 40 _ (hS.k17 hx4) (hS.w17 hx4) (hS.k18 hx4) (by decide) (hsz _ hx4).1 (hsz _ hx4).2 _ _) (hS.k17 hx4) rfl rfl rfl rfl (Nat.le_of_ble_eq_true rfl) ⟨(Nat.le_of_ble_eq_true rfl), (Nat.le_of_ble_eq_true rfl)⟩ ⟨Nat.zero_le _, Nat.zero_le _⟩ dX11_put_57 ?_
        refine A_iconst (pc := 60) (1) dX11_put_60 (by decide) ?_
        exact A_iretE (pc := 61) dX11_put_61 rfl (Nat.zero_le _) (Nat.zero_le _) (by rw [c_put, if_neg hb4, if_pos hb19, if_neg hb39]) (by rw [c_put, if_neg hb4, if_pos hb19, if_neg hb39])
      · refine A_aload_n (pc := 42) (i := 0) dX11_put_42 rfl rfl ?_
        refine A_ldc (pc := 43) (List.mem_cons_of_mem _ kc_X11_60) dX11_put_43 ?_
        refine A_callV1 (pc := 45) cv_X11_61 (s_err1 l hS) hS.k1 rfl rfl rfl rfl (Nat.le_of_ble_eq_true rfl) ⟨(Nat.le_of_ble_eq_true rfl), (Nat.le_of_ble_eq_true rfl)⟩ ⟨Nat.zero_le _, Nat.zero_le _⟩ dX11_put_45 ?_
        exact A_iretE (pc := 48) dX11_put_48 rfl (Nat.zero_le _) (Nat.zero_le _) (by rw [c_put, if_neg hb4, if_pos hb19, if_pos hb39]) (by rw [c_put, if_neg hb4, if_pos hb19, if_pos hb39])
    · refine A_aload_n (pc := 22) (i := 0) dX11_put_22 rfl rfl ?_
      refine A_ldc (pc := 23) (List.mem_cons_of_mem _ kc_X11_210) dX11_put_23 ?_
      refine A_callV1 (pc := 25) cv_X11_61 (s_err2 l hS) hS.k1 rfl rfl rfl rfl (Nat.le_of_ble_eq_true rfl) ⟨(Nat.le_of_ble_eq_true rfl), (Nat.le_of_ble_eq_true rfl)⟩ ⟨Nat.zero_le _, Nat.zero_le _⟩ dX11_put_25 ?_
      exact A_iretE (pc := 28) dX11_put_28 rfl (Nat.zero_le _) (Nat.zero_le _) (by rw [c_put, if_neg hb4, if_neg hb19]) (by rw [c_put, if_neg hb4, if_neg hb19])
  · refine A_aload_n (pc := 7) (i := 0) dX11_put_7 rfl rfl ?_
    refine A_ldc (pc := 8) (List.mem_cons_of_mem _ kc_X11_60) dX11_put_8 ?_
    refine A_callV1 (pc := 10) cv_X11_61 (s_err1 l hS) hS.k1 rfl rfl rfl rfl (Nat.le_of_ble_eq_true rfl) ⟨(Nat.le_of_ble_eq_true rfl), (Nat.le_of_ble_eq_true rfl)⟩ ⟨Nat.zero_le _, Nat.zero_le _⟩ dX11_put_10 ?_
    exact A_iretE (pc := 13) dX11_put_13 rfl (Nat.zero_le _) (Nat.zero_le _) (by rw [c_put, if_pos hb4]) (by rw [c_put, if_pos hb4])
theorem rx_nox (x y : Int32) (hx : 0 ≤ x) (hy : 0 ≤ y) : (40 : Int32) * x + y = nI (40 * x.toNatClampNeg + y.toNatClampNeg) := by
  have e := nI_cl hx
  have e2 := nI_cl hy
  generalize x.toNatClampNeg = j at e
  generalize y.toNatClampNeg = k at e2
  subst e
  subst e2
  exact rx_no j k
noncomputable def d_put (x y v : Int32) (iv : am_iv) : Int32 × am_iv := if sr_b (0 ≤ x ∧ x ≤ 3) = 0 then (-1000000001, rx_find 1 iv) else if iv (31, 17, 0) x.toNatClampNeg = 0 then (-1000000002, rx_find 2 iv) else if sr_b (0 ≤ y ∧ y ≤ iv (31, 18, 0) x.toNatClampNeg - 1) = 0 then (-1000000001, rx_find 1 iv) else (1, am_ui iv (31, 19, 0) (40 * x.toNatClampNeg + y.toNatClampNeg) (rw_nar (iv (31, 17, 0) x.toNatClampNeg) v))
set_option maxRecDepth 20000 in
theorem q_put (l : Launch) {kd : am_kd} {rv : am_rv} {iv : am_iv} (hR : shr kd rv) (x y v : Int32) (sz : Nat → Nat) (hsz : ∀ s, s < 4 → iv (31, 18, 0) s = nI (sz s) ∧ sz s ≤ 40) : am_Met l mX12_put (am_rm 2 0 0) [am_P (30, 0, 0), am_I x, am_I y, am_I v] kd rv iv (am_ret (some (am_I (d_put x y v iv).1)) kd rv (d_put x y v iv).2) := by
  refine am_Met.of (by decide) (Nat.le_of_ble_eq_true rfl) rfl ?_
  refine A_iload_n (pc := 0) (i := 1) dX12_put_0 rfl rfl ?_
  refine A_callS1 (pc := 1) cs_X12_267 (r_isSheet l _) rfl rfl (Nat.le_of_ble_eq_true rfl) ⟨(Nat.le_of_ble_eq_true rfl), (Nat.le_of_ble_eq_true rfl)⟩ ⟨Nat.zero_le _, Nat.zero_le _⟩ dX12_put_1 ?_
  refine A_ifne (pc := 4) 13 dX12_put_4 (by decide) (fun hb4 => ?_) (fun hb4 => ?_)
  · have hx := (sr_b_1 _).mp hb4
    have hx4 : x.toNatClampNeg < 4 := Nat.lt_of_le_of_lt (nI_cl_le (n := 3) hx.1 hx.2 (by decide)) (by decide)
    refine A_aload_n (pc := 13) (i := 0) dX12_put_13 rfl rfl ?_
    refine A_getr (pc := 14) 17 fl_X12_34_12 hR.1 rfl hR.w17 dX12_put_14 ?_
    refine A_iload_n (pc := 17) (i := 1) dX12_put_17 rfl rfl ?_
    refine A_top (nI_cl hx.1) ?_
    refine A_ialdN (pc := 18) hR.k17 hx4 (by decide) dX12_put_18 ?_
    refine A_ifne (pc := 19) 28 dX12_put_19 (by decide) (fun hb19 => ?_) (fun hb19 => ?_)
    · refine A_iload_n (pc := 28) (i := 2) dX12_put_28 rfl rfl ?_
      refine A_i2l (pc := 29) dX12_put_29 ?_
      refine A_lconst (pc := 30) (0) dX12_put_30 (by decide) ?_
      refine A_topJ (y := Int32.toInt64 (0)) (by decide +kernel) ?_
      refine A_aload_n (pc := 31) (i := 0) dX12_put_31 rfl rfl ?_
      refine A_getr (pc := 32) 18 fl_X12_37_12 hR.1 rfl hR.w18 dX12_put_32 ?_
      refine A_iload_n (pc := 35) (i := 1) dX12_put_35 rfl rfl ?_
      refine A_top (nI_cl hx.1) ?_
      refine A_ialdN (pc := 36) hR.k18 hx4 (by decide) dX12_put_36 ?_
      refine A_iconst (pc := 37) (1) dX12_put_37 (by decide) ?_
      refine A_isub (pc := 38) dX12_put_38 ?_
      refine A_i2l (pc := 39) dX12_put_39 ?_
      refine A_callS1 (pc := 40) cs_X12_48 (r_in l _ _ _) rfl rfl (Nat.le_of_ble_eq_true rfl) ⟨(Nat.le_of_ble_eq_true rfl), (Nat.le_of_ble_eq_true rfl)⟩ ⟨Nat.zero_le _, Nat.zero_le _⟩ dX12_put_40 ?_
      refine A_ifne (pc := 43) 52 dX12_put_43 (by decide) (fun hb43 => ?_) (fun hb43 => ?_)
      · have hy := (sr_b_1 _).mp hb43
        have hyz : y.toNatClampNeg < sz x.toNatClampNeg := nI_m1k (by have := (hsz _ hx4).2; omega) hy.1 ((hsz _ hx4).1 ▸ hy.2)
        have hz4 := (hsz _ hx4).2
        refine A_aload_n (pc := 52) (i := 0) dX12_put_52 rfl rfl ?_
        refine A_getr (pc := 53) 19 fl_X12_40_12 hR.1 rfl hR.w19 dX12_put_53 ?_
        refine A_bipush (pc := 56) (40) dX12_put_56 (by decide) ?_
        refine A_iload_n (pc := 58) (i := 1) dX12_put_58 rfl rfl ?_
        refine A_imul (pc := 59) dX12_put_59 ?_
        refine A_iload_n (pc := 60) (i := 2) dX12_put_60 rfl rfl ?_
        refine A_iadd (pc := 61) dX12_put_61 ?_
        refine A_top (rx_nox x y hx.1 hy.1) ?_
        refine A_aload_n (pc := 62) (i := 0) dX12_put_62 rfl rfl ?_
        refine A_getr (pc := 63) 17 fl_X12_34_12 hR.1 rfl hR.w17 dX12_put_63 ?_
        refine A_iload_n (pc := 66) (i := 1) dX12_put_66 rfl rfl ?_
        refine A_top (nI_cl hx.1) ?_
        refine A_ialdN (pc := 67) hR.k17 hx4 (by decide) dX12_put_67 ?_
        refine A_bipush (pc := 68) (8) dX12_put_68 (by decide) ?_
        refine A_icmpne (pc := 70) 78 dX12_put_70 (by decide) (fun hb70 => ?_) (fun hb70 => ?_)
        · refine A_aload_n (pc := 78) (i := 0) dX12_put_78 rfl rfl ?_
          refine A_getr (pc := 79) 17 fl_X12_34_12 hR.1 rfl hR.w17 dX12_put_79 ?_
          refine A_iload_n (pc := 82) (i := 1) dX12_put_82 rfl rfl ?_
          refine A_top (nI_cl hx.1) ?_
          refine A_ialdN (pc := 83) hR.k17 hx4 (by decide) dX12_put_83 ?_
          refine A_bipush (pc := 84) (16) dX12_put_84 (by decide) ?_
          refine A_icmpne (pc := 86) 94 dX12_put_86 (by decide) (fun hb86 => ?_) (fun hb86 => ?_)
          · refine A_iload_n (pc := 94) (i := 3) dX12_put_94 rfl rfl ?_
            refine A_iastN (pc := 95) hR.k19 (show 40 * x.toNatClampNeg + y.toNatClampNeg < 160 by omega) (by decide) dX12_put_95 ?_
            refine A_iconst (pc := 96) (1) dX12_put_96 (by decide) ?_
            exact A_iretE (pc := 97) dX12_put_97 rfl (Nat.zero_le _) (Nat.zero_le _) (by rw [d_put, if_neg hb4, if_neg hb19, if_neg hb43, rw_nar, if_neg hb70, if_neg hb86]) (by rw [d_put, if_neg hb4, if_neg hb19, if_neg hb43, rw_nar, if_neg hb70, if_neg hb86])
          · refine A_iload_n (pc := 89) (i := 3) dX12_put_89 rfl rfl ?_
            refine A_i2s (pc := 90) dX12_put_90 ?_
            refine A_goto (pc := 91) 95 dX12_put_91 (by decide) ?_
            refine A_iastN (pc := 95) hR.k19 (show 40 * x.toNatClampNeg + y.toNatClampNeg < 160 by omega) (by decide) dX12_put_95 ?_
            refine A_iconst (pc := 96) (1) dX12_put_96 (by decide) ?_
            exact A_iretE (pc := 97) dX12_put_97 rfl (Nat.zero_le _) (Nat.zero_le _) (by rw [d_put, if_neg hb4, if_neg hb19, if_neg hb43, rw_nar, if_neg hb70, if_pos hb86]) (by rw [d_put, if_neg hb4, if_neg hb19, if_neg hb43, rw_nar, if_neg hb70, if_pos hb86])
        · refine A_iload_n (pc := 73) (i := 3) dX12_put_73 rfl rfl ?_
          refine A_i2b (pc := 74) dX12_put_74 ?_
          refine A_goto (pc := 75) 95 dX12_put_75 (by decide) ?_
          refine A_iastN (pc := 95) hR.k19 (show 40 * x.toNatClampNeg + y.toNatClampNeg < 160 by omega) (by decide) dX12_put_95 ?_
          refine A_iconst (pc := 96) (1) dX12_put_96 (by decide) ?_
          exact A_iretE (pc := 97) dX12_put_97 rfl (Nat.zero_le _) (Nat.zero_le _) (by rw [d_put, if_neg hb4, if_neg hb19, if_neg hb43, rw_nar, if_pos hb70]) (by rw [d_put, if_neg hb4, if_neg hb19, if_neg hb43, rw_nar, if_pos hb70])
      · refine A_aload_n (pc := 46) (i := 0) dX12_put_46 rfl rfl ?_
        refine A_iconst (pc := 47) (1) dX12_put_47 (by decide) ?_
        refine A_callV1 (pc := 48) cv_X12_65 (r_fnd1 l hR) hR.1 rfl rfl rfl rfl (Nat.le_of_ble_eq_true rfl) ⟨(Nat.le_of_ble_eq_true rfl), (Nat.le_of_ble_eq_true rfl)⟩ ⟨Nat.zero_le _, Nat.zero_le _⟩ dX12_put_48 ?_
        exact A_iretE (pc := 51) dX12_put_51 rfl (Nat.zero_le _) (Nat.zero_le _) (by rw [d_put, if_neg hb4, if_neg hb19, if_pos hb43]) (by rw [d_put, if_neg hb4, if_neg hb19, if_pos hb43])
    · refine A_aload_n (pc := 22) (i := 0) dX12_put_22 rfl rfl ?_
      refine A_iconst (pc := 23) (2) dX12_put_23 (by decide) ?_
      refine A_callV1 (pc := 24) cv_X12_65 (r_fnd2 l hR) hR.1 rfl rfl rfl rfl (Nat.le_of_ble_eq_true rfl) ⟨(Nat.le_of_ble_eq_true rfl), (Nat.le_of_ble_eq_true rfl)⟩ ⟨Nat.zero_le _, Nat.zero_le _⟩ dX12_put_24 ?_
      exact A_iretE (pc := 27) dX12_put_27 rfl (Nat.zero_le _) (Nat.zero_le _) (by rw [d_put, if_neg hb4, if_pos hb19]) (by rw [d_put, if_neg hb4, if_pos hb19])
  · refine A_aload_n (pc := 7) (i := 0) dX12_put_7 rfl rfl ?_
    refine A_iconst (pc := 8) (1) dX12_put_8 (by decide) ?_
    refine A_callV1 (pc := 9) cv_X12_65 (r_fnd1 l hR) hR.1 rfl rfl rfl rfl (Nat.le_of_ble_eq_true rfl) ⟨(Nat.le_of_ble_eq_true rfl), (Nat.le_of_ble_eq_true rfl)⟩ ⟨Nat.zero_le _, Nat.zero_le _⟩ dX12_put_9 ?_
    exact A_iretE (pc := 12) dX12_put_12 rfl (Nat.zero_le _) (Nat.zero_le _) (by rw [d_put, if_pos hb4]) (by rw [d_put, if_pos hb4])
theorem kd7 {K : Nat} (h : K < 7) : K = 0 ∨ K = 1 ∨ K = 2 ∨ K = 3 ∨ K = 4 ∨ K = 5 ∨ K = 6 := by omega
section AW
variable {l : Launch} {M : am_M} {R : Room} {post : am_Post} {pc : Nat} {ls : List (Option am_V)} {st : List am_V} {kd : am_kd} {rv : am_rv} {iv : am_iv} {cu su : Nat}
theorem W_goes_X11 {n t ta : am_N} {K : Nat} {x : Int32} (hK : K < 7) (hk : kd n = some (.inl (lw_ci K))) (ht : tr_ok kd rv t ta 40) (h1 : n ≠ t) (h2 : n ≠ ta) (hs : rw_ok t 40 iv) (hM : M.1.cls = RX11) (hw : am_wt st ≤ 8) (hroom : 2 + 1 ≤ R.frames ∧ 8 + (5 + 11) + 60 * 2 ≤ R.locals) (hcs : cu ≤ R.cells ∧ su ≤ R.slots) (hd : decode M.2.1 pc = .ok (.invokevirtual 266, 3)) (k : am_W l M R post (pc + 3) ls (am_I (vo_goes K (iv n) x).1 :: st) kd rv (rw_L t ta 40 (vo_goes K (iv n) x).2 iv) cu su) : am_W l M R post pc ls (am_P t :: am_I x :: am_P n :: st) kd rv iv cu su := by
  rcases kd7 hK with rfl | rfl | rfl | rfl | rfl | rfl | rfl
  · exact A_callU1 (r := (RX2, TX2, 3)) (by rw [hM]; exact cu_X11_266_2) (s_vg_2 l n hk t ta ht h1 h2 hs x) hk rfl rfl rfl hw ⟨Nat.le_trans (Nat.le_of_ble_eq_true rfl) hroom.1, Nat.le_trans (Nat.le_of_ble_eq_true rfl) hroom.2⟩ hcs hd k
  · exact A_callU1 (r := (RX8, TX8, 3)) (by rw [hM]; exact cu_X11_266_8) (s_vg_8 l n hk t ta ht h1 h2 hs x) hk rfl rfl rfl hw ⟨Nat.le_trans (Nat.le_of_ble_eq_true rfl) hroom.1, Nat.le_trans (Nat.le_of_ble_eq_true rfl) hroom.2⟩ hcs hd k
  · exact A_callU1 (r := (RX1, TX1, 3)) (by rw [hM]; exact cu_X11_266_1) (s_g2 l n hk t ta ht h1 h2 hs x) hk rfl rfl rfl hw ⟨Nat.le_trans (Nat.le_of_ble_eq_true rfl) hroom.1, Nat.le_trans (Nat.le_of_ble_eq_true rfl) hroom.2⟩ hcs hd k
  · exact A_callU1 (r := (RX0, TX0, 3)) (by rw [hM]; exact cu_X11_266_0) (s_vg_0 l n hk t ta ht h1 h2 hs x) hk rfl rfl rfl hw ⟨Nat.le_trans (Nat.le_of_ble_eq_true rfl) hroom.1, Nat.le_trans (Nat.le_of_ble_eq_true rfl) hroom.2⟩ hcs hd k
  · exact A_callU1 (r := (RX9, TX9, 3)) (by rw [hM]; exact cu_X11_266_9) (s_g4 l n hk t ta ht h1 h2 hs x) hk rfl rfl rfl hw ⟨Nat.le_trans (Nat.le_of_ble_eq_true rfl) hroom.1, Nat.le_trans (Nat.le_of_ble_eq_true rfl) hroom.2⟩ hcs hd k
  · exact A_callU1 (r := (RX10, TX10, 3)) (by rw [hM]; exact cu_X11_266_10) (s_vg_10 l n hk t ta ht h1 h2 hs x) hk rfl rfl rfl hw ⟨Nat.le_trans (Nat.le_of_ble_eq_true rfl) hroom.1, Nat.le_trans (Nat.le_of_ble_eq_true rfl) hroom.2⟩ hcs hd k
  · exact A_callU1 (r := (RX6, TX6, 3)) (by rw [hM]; exact cu_X11_266_6) (s_vg_6 l n hk t ta ht h1 h2 hs x) hk rfl rfl rfl hw ⟨Nat.le_trans (Nat.le_of_ble_eq_true rfl) hroom.1, Nat.le_trans (Nat.le_of_ble_eq_true rfl) hroom.2⟩ hcs hd k
theorem W_moves_X11 {n t ta : am_N} {K : Nat} {x : Int32} (hK : K < 7) (hk : kd n = some (.inl (lw_ci K))) (ht : tr_ok kd rv t ta 40) (h1 : n ≠ t) (h2 : n ≠ ta) (hs : rw_ok t 40 iv) (hM : M.1.cls = RX11) (hw : am_wt st ≤ 8) (hroom : 4 + 1 ≤ R.frames ∧ 8 + (5 + 11) + 60 * 4 ≤ R.locals) (hcs : cu ≤ R.cells ∧ su ≤ R.slots) (hd : decode M.2.1 pc = .ok (.invokevirtual 270, 3)) (k : am_W l M R post (pc + 3) ls (am_I (vo_moves K (iv n) x).1 :: st) kd rv (rw_L t ta 40 (vo_moves K (iv n) x).2 iv) cu su) : am_W l M R post pc ls (am_P t :: am_I x :: am_P n :: st) kd rv iv cu su := by
  rcases kd7 hK with rfl | rfl | rfl | rfl | rfl | rfl | rfl
  · exact A_callU1 (r := (RX2, TX2, 3)) (by rw [hM]; exact cu_X11_270_2) (s_vm_2 l n hk t ta ht h1 h2 hs x) hk rfl rfl rfl hw ⟨Nat.le_trans (Nat.le_of_ble_eq_true rfl) hroom.1, Nat.le_trans (Nat.le_of_ble_eq_true rfl) hroom.2⟩ hcs hd k
  · exact A_callU1 (r := (RX8, TX8, 3)) (by rw [hM]; exact cu_X11_270_8) (s_m1 l n hk t ta ht h1 h2 hs x) hk rfl rfl rfl hw ⟨Nat.le_trans (Nat.le_of_ble_eq_true rfl) hroom.1, Nat.le_trans (Nat.le_of_ble_eq_true rfl) hroom.2⟩ hcs hd k
  · exact A_callU1 (r := (RX1, TX1, 3)) (by rw [hM]; exact cu_X11_270_1) (s_vm_1 l n hk t ta ht h1 h2 hs x) hk rfl rfl rfl hw ⟨Nat.le_trans (Nat.le_of_ble_eq_true rfl) hroom.1, Nat.le_trans (Nat.le_of_ble_eq_true rfl) hroom.2⟩ hcs hd k
  · exact A_callU1 (r := (RX0, TX0, 3)) (by rw [hM]; exact cu_X11_270_0) (s_vm_0 l n hk t ta ht h1 h2 hs x) hk rfl rfl rfl hw ⟨Nat.le_trans (Nat.le_of_ble_eq_true rfl) hroom.1, Nat.le_trans (Nat.le_of_ble_eq_true rfl) hroom.2⟩ hcs hd k
  · exact A_callU1 (r := (RX9, TX9, 3)) (by rw [hM]; exact cu_X11_270_9) (s_vm_9 l n hk t ta ht h1 h2 hs x) hk rfl rfl rfl hw ⟨Nat.le_trans (Nat.le_of_ble_eq_true rfl) hroom.1, Nat.le_trans (Nat.le_of_ble_eq_true rfl) hroom.2⟩ hcs hd k
  · exact A_callU1 (r := (RX10, TX10, 3)) (by rw [hM]; exact cu_X11_270_10) (s_m5_10 l n hk t ta ht h1 h2 hs x) hk rfl rfl rfl hw ⟨Nat.le_trans (Nat.le_of_ble_eq_true rfl) hroom.1, Nat.le_trans (Nat.le_of_ble_eq_true rfl) hroom.2⟩ hcs hd k
  · exact A_callU1 (r := (RX6, TX6, 3)) (by rw [hM]; exact cu_X11_270_6) (s_m5_6 l n hk t ta ht h1 h2 hs x) hk rfl rfl rfl hw ⟨Nat.le_trans (Nat.le_of_ble_eq_true rfl) hroom.1, Nat.le_trans (Nat.le_of_ble_eq_true rfl) hroom.2⟩ hcs hd k
theorem W_ends_X11 {n t ta : am_N} {K : Nat} {x : Int32} (hK : K < 7) (hk : kd n = some (.inl (lw_ci K))) (ht : tr_ok kd rv t ta 40) (h1 : n ≠ t) (h2 : n ≠ ta) (hs : rw_ok t 40 iv) (hM : M.1.cls = RX11) (hw : am_wt st ≤ 8) (hroom : 2 + 1 ≤ R.frames ∧ 8 + (5 + 11) + 60 * 2 ≤ R.locals) (hcs : cu ≤ R.cells ∧ su ≤ R.slots) (hd : decode M.2.1 pc = .ok (.invokevirtual 273, 3)) (k : am_W l M R post (pc + 3) ls (am_I (vo_ends K (iv n) x).1 :: st) kd rv (rw_L t ta 40 (vo_ends K (iv n) x).2 iv) cu su) : am_W l M R post pc ls (am_P t :: am_I x :: am_P n :: st) kd rv iv cu su := by
  rcases kd7 hK with rfl | rfl | rfl | rfl | rfl | rfl | rfl
  · exact A_callU1 (r := (RX2, TX2, 3)) (by rw [hM]; exact cu_X11_273_2) (s_vn_2 l n hk t ta ht h1 h2 hs x) hk rfl rfl rfl hw ⟨Nat.le_trans (Nat.le_of_ble_eq_true rfl) hroom.1, Nat.le_trans (Nat.le_of_ble_eq_true rfl) hroom.2⟩ hcs hd k
  · exact A_callU1 (r := (RX8, TX8, 3)) (by rw [hM]; exact cu_X11_273_8) (s_vn_8 l n hk t ta ht h1 h2 hs x) hk rfl rfl rfl hw ⟨Nat.le_trans (Nat.le_of_ble_eq_true rfl) hroom.1, Nat.le_trans (Nat.le_of_ble_eq_true rfl) hroom.2⟩ hcs hd k
  · exact A_callU1 (r := (RX1, TX1, 3)) (by rw [hM]; exact cu_X11_273_1) (s_vn_1 l n hk t ta ht h1 h2 hs x) hk rfl rfl rfl hw ⟨Nat.le_trans (Nat.le_of_ble_eq_true rfl) hroom.1, Nat.le_trans (Nat.le_of_ble_eq_true rfl) hroom.2⟩ hcs hd k
  · exact A_callU1 (r := (RX0, TX0, 3)) (by rw [hM]; exact cu_X11_273_0) (s_n3_0 l n hk t ta ht h1 h2 hs x) hk rfl rfl rfl hw ⟨Nat.le_trans (Nat.le_of_ble_eq_true rfl) hroom.1, Nat.le_trans (Nat.le_of_ble_eq_true rfl) hroom.2⟩ hcs hd k
  · exact A_callU1 (r := (RX9, TX9, 3)) (by rw [hM]; exact cu_X11_273_9) (s_n3_9 l n hk t ta ht h1 h2 hs x) hk rfl rfl rfl hw ⟨Nat.le_trans (Nat.le_of_ble_eq_true rfl) hroom.1, Nat.le_trans (Nat.le_of_ble_eq_true rfl) hroom.2⟩ hcs hd k
  · exact A_callU1 (r := (RX10, TX10, 3)) (by rw [hM]; exact cu_X11_273_10) (s_vn_10 l n hk t ta ht h1 h2 hs x) hk rfl rfl rfl hw ⟨Nat.le_trans (Nat.le_of_ble_eq_true rfl) hroom.1, Nat.le_trans (Nat.le_of_ble_eq_true rfl) hroom.2⟩ hcs hd k
  · exact A_callU1 (r := (RX6, TX6, 3)) (by rw [hM]; exact cu_X11_273_6) (s_n6 l n hk t ta ht h1 h2 hs x) hk rfl rfl rfl hw ⟨Nat.le_trans (Nat.le_of_ble_eq_true rfl) hroom.1, Nat.le_trans (Nat.le_of_ble_eq_true rfl) hroom.2⟩ hcs hd k
theorem W_tells_X11 {n t ta : am_N} {K : Nat} {x : Int32} (hK : K < 7) (hk : kd n = some (.inl (lw_ci K))) (ht : tr_ok kd rv t ta 40) (h1 : n ≠ t) (h2 : n ≠ ta) (hs : rw_ok t 40 iv) (hM : M.1.cls = RX11) (hw : am_wt st ≤ 8) (hroom : 6 + 1 ≤ R.frames ∧ 8 + (5 + 11) + 60 * 6 ≤ R.locals) (hcs : cu ≤ R.cells ∧ su ≤ R.slots) (hd : decode M.2.1 pc = .ok (.invokevirtual 276, 3)) (k : am_W l M R post (pc + 3) ls (am_I (vo_tells K (iv n) x).1 :: st) kd rv (rw_L t ta 40 (vo_tells K (iv n) x).2 iv) cu su) : am_W l M R post pc ls (am_P t :: am_I x :: am_P n :: st) kd rv iv cu su := by
  rcases kd7 hK with rfl | rfl | rfl | rfl | rfl | rfl | rfl
  · exact A_callU1 (r := (RX2, TX2, 3)) (by rw [hM]; exact cu_X11_276_2) (s_vt_2 l n hk t ta ht h1 h2 hs x) hk rfl rfl rfl hw ⟨Nat.le_trans (Nat.le_of_ble_eq_true rfl) hroom.1, Nat.le_trans (Nat.le_of_ble_eq_true rfl) hroom.2⟩ hcs hd k
  · exact A_callU1 (r := (RX8, TX8, 3)) (by rw [hM]; exact cu_X11_276_8) (s_vt_8 l n hk t ta ht h1 h2 hs x) hk rfl rfl rfl hw ⟨Nat.le_trans (Nat.le_of_ble_eq_true rfl) hroom.1, Nat.le_trans (Nat.le_of_ble_eq_true rfl) hroom.2⟩ hcs hd k
  · exact A_callU1 (r := (RX1, TX1, 3)) (by rw [hM]; exact cu_X11_276_1) (s_vt_1 l n hk t ta ht h1 h2 hs x) hk rfl rfl rfl hw ⟨Nat.le_trans (Nat.le_of_ble_eq_true rfl) hroom.1, Nat.le_trans (Nat.le_of_ble_eq_true rfl) hroom.2⟩ hcs hd k
  · exact A_callU1 (r := (RX0, TX0, 3)) (by rw [hM]; exact cu_X11_276_0) (s_vt_0 l n hk t ta ht h1 h2 hs x) hk rfl rfl rfl hw ⟨Nat.le_trans (Nat.le_of_ble_eq_true rfl) hroom.1, Nat.le_trans (Nat.le_of_ble_eq_true rfl) hroom.2⟩ hcs hd k
  · exact A_callU1 (r := (RX9, TX9, 3)) (by rw [hM]; exact cu_X11_276_9) (s_t4 l n hk t ta ht h1 h2 hs x) hk rfl rfl rfl hw ⟨Nat.le_trans (Nat.le_of_ble_eq_true rfl) hroom.1, Nat.le_trans (Nat.le_of_ble_eq_true rfl) hroom.2⟩ hcs hd k
  · exact A_callU1 (r := (RX10, TX10, 3)) (by rw [hM]; exact cu_X11_276_10) (s_vt_10 l n hk t ta ht h1 h2 hs x) hk rfl rfl rfl hw ⟨Nat.le_trans (Nat.le_of_ble_eq_true rfl) hroom.1, Nat.le_trans (Nat.le_of_ble_eq_true rfl) hroom.2⟩ hcs hd k
  · exact A_callU1 (r := (RX6, TX6, 3)) (by rw [hM]; exact cu_X11_276_6) (s_t6 l n hk t ta ht h1 h2 hs x) hk rfl rfl rfl hw ⟨Nat.le_trans (Nat.le_of_ble_eq_true rfl) hroom.1, Nat.le_trans (Nat.le_of_ble_eq_true rfl) hroom.2⟩ hcs hd k
theorem W_goes_X12 {q K : Nat} {x : Int32} (hR : shr kd rv) (ok : rr_ok iv) (hq16 : iv (30, 0, 0) 16 = nI q) (hq6 : q < 6) (hK : K < 7) (eK : iv (31, 0, 0) (20 + 2 * q) = nI K) (hM : M.1.cls = RX12) (hw : am_wt st ≤ 8) (hroom : 3 + 1 ≤ R.frames ∧ 8 + (5 + 11) + 60 * 3 ≤ R.locals) (hcs : cu ≤ R.cells ∧ su ≤ R.slots) (hd : decode M.2.1 pc = .ok (.invokevirtual 290, 3)) (k : am_W l M R post (pc + 3) ls (am_I (vo_goes K (fun k => if k = 1 then iv (30, 0, 0) 16 else iv (31, 0, 0) (21 + 2 * q)) x).1 :: st) kd rv (rr_L (vo_goes K (fun k => if k = 1 then iv (30, 0, 0) 16 else iv (31, 0, 0) (21 + 2 * q)) x).2 iv) cu su) : am_W l M R post pc ls (am_I x :: am_I (nI K) :: am_P (30, 0, 0) :: st) kd rv iv cu su := by
  rcases kd7 hK with rfl | rfl | rfl | rfl | rfl | rfl | rfl
  · exact A_callV1 (by rw [hM]; exact cv_X12_290) (r_goes0 l hR ok q hq16 hq6 x) hR.1 rfl rfl rfl rfl hw ⟨Nat.le_trans (Nat.le_of_ble_eq_true rfl) hroom.1, Nat.le_trans (Nat.le_of_ble_eq_true rfl) hroom.2⟩ hcs hd k
  · exact A_callV1 (by rw [hM]; exact cv_X12_290) (r_goes1 l hR ok q hq16 hq6 x) hR.1 rfl rfl rfl rfl hw ⟨Nat.le_trans (Nat.le_of_ble_eq_true rfl) hroom.1, Nat.le_trans (Nat.le_of_ble_eq_true rfl) hroom.2⟩ hcs hd k
  · exact A_callV1 (by rw [hM]; exact cv_X12_290) (r_goes2 l hR ok q hq16 hq6 x) hR.1 rfl rfl rfl rfl hw ⟨Nat.le_trans (Nat.le_of_ble_eq_true rfl) hroom.1, Nat.le_trans (Nat.le_of_ble_eq_true rfl) hroom.2⟩ hcs hd k
  · exact A_callV1 (by rw [hM]; exact cv_X12_290) (r_goes3 l hR ok q hq16 hq6 x) hR.1 rfl rfl rfl rfl hw ⟨Nat.le_trans (Nat.le_of_ble_eq_true rfl) hroom.1, Nat.le_trans (Nat.le_of_ble_eq_true rfl) hroom.2⟩ hcs hd k
  · exact A_callV1 (by rw [hM]; exact cv_X12_290) (r_goes4 l hR ok q hq16 hq6 x) hR.1 rfl rfl rfl rfl hw ⟨Nat.le_trans (Nat.le_of_ble_eq_true rfl) hroom.1, Nat.le_trans (Nat.le_of_ble_eq_true rfl) hroom.2⟩ hcs hd k
  · exact A_callV1 (by rw [hM]; exact cv_X12_290) (r_goes5 l hR ok q hq16 hq6 x) hR.1 rfl rfl rfl rfl hw ⟨Nat.le_trans (Nat.le_of_ble_eq_true rfl) hroom.1, Nat.le_trans (Nat.le_of_ble_eq_true rfl) hroom.2⟩ hcs hd k
  · exact A_callV1 (by rw [hM]; exact cv_X12_290) (r_goes6 l hR ok q hq16 hq6 x) hR.1 rfl rfl rfl rfl hw ⟨Nat.le_trans (Nat.le_of_ble_eq_true rfl) hroom.1, Nat.le_trans (Nat.le_of_ble_eq_true rfl) hroom.2⟩ hcs hd k
theorem W_ends_X12 {q K : Nat} {x : Int32} (hR : shr kd rv) (ok : rr_ok iv) (hq16 : iv (30, 0, 0) 16 = nI q) (hq6 : q < 6) (hK : K < 7) (eK : iv (31, 0, 0) (20 + 2 * q) = nI K) (hM : M.1.cls = RX12) (hw : am_wt st ≤ 8) (hroom : 3 + 1 ≤ R.frames ∧ 8 + (5 + 11) + 60 * 3 ≤ R.locals) (hcs : cu ≤ R.cells ∧ su ≤ R.slots) (hd : decode M.2.1 pc = .ok (.invokevirtual 299, 3)) (k : am_W l M R post (pc + 3) ls (am_I (vo_ends K (fun k => if k = 1 then iv (30, 0, 0) 16 else iv (31, 0, 0) (21 + 2 * q)) x).1 :: st) kd rv (rr_L (vo_ends K (fun k => if k = 1 then iv (30, 0, 0) 16 else iv (31, 0, 0) (21 + 2 * q)) x).2 iv) cu su) : am_W l M R post pc ls (am_I x :: am_I (nI K) :: am_P (30, 0, 0) :: st) kd rv iv cu su := by
  rcases kd7 hK with rfl | rfl | rfl | rfl | rfl | rfl | rfl
  · exact A_callV1 (by rw [hM]; exact cv_X12_299) (r_ends0 l hR ok q hq16 hq6 x) hR.1 rfl rfl rfl rfl hw ⟨Nat.le_trans (Nat.le_of_ble_eq_true rfl) hroom.1, Nat.le_trans (Nat.le_of_ble_eq_true rfl) hroom.2⟩ hcs hd k
  · exact A_callV1 (by rw [hM]; exact cv_X12_299) (r_ends1 l hR ok q hq16 hq6 x) hR.1 rfl rfl rfl rfl hw ⟨Nat.le_trans (Nat.le_of_ble_eq_true rfl) hroom.1, Nat.le_trans (Nat.le_of_ble_eq_true rfl) hroom.2⟩ hcs hd k
  · exact A_callV1 (by rw [hM]; exact cv_X12_299) (r_ends2 l hR ok q hq16 hq6 x) hR.1 rfl rfl rfl rfl hw ⟨Nat.le_trans (Nat.le_of_ble_eq_true rfl) hroom.1, Nat.le_trans (Nat.le_of_ble_eq_true rfl) hroom.2⟩ hcs hd k
  · exact A_callV1 (by rw [hM]; exact cv_X12_299) (r_ends3 l hR ok q hq16 hq6 x) hR.1 rfl rfl rfl rfl hw ⟨Nat.le_trans (Nat.le_of_ble_eq_true rfl) hroom.1, Nat.le_trans (Nat.le_of_ble_eq_true rfl) hroom.2⟩ hcs hd k
  · exact A_callV1 (by rw [hM]; exact cv_X12_299) (r_ends4 l hR ok q hq16 hq6 x) hR.1 rfl rfl rfl rfl hw ⟨Nat.le_trans (Nat.le_of_ble_eq_true rfl) hroom.1, Nat.le_trans (Nat.le_of_ble_eq_true rfl) hroom.2⟩ hcs hd k
  · exact A_callV1 (by rw [hM]; exact cv_X12_299) (r_ends5 l hR ok q hq16 hq6 x) hR.1 rfl rfl rfl rfl hw ⟨Nat.le_trans (Nat.le_of_ble_eq_true rfl) hroom.1, Nat.le_trans (Nat.le_of_ble_eq_true rfl) hroom.2⟩ hcs hd k
  · exact A_callV1 (by rw [hM]; exact cv_X12_299) (r_ends6 l hR ok q hq16 hq6 x) hR.1 rfl rfl rfl rfl hw ⟨Nat.le_trans (Nat.le_of_ble_eq_true rfl) hroom.1, Nat.le_trans (Nat.le_of_ble_eq_true rfl) hroom.2⟩ hcs hd k
theorem W_moves_X12 {q K : Nat} {x : Int32} (hR : shr kd rv) (ok : rr_ok iv) (hq16 : iv (30, 0, 0) 16 = nI q) (hq6 : q < 6) (hK : K < 7) (eK : iv (31, 0, 0) (20 + 2 * q) = nI K) (hM : M.1.cls = RX12) (hw : am_wt st ≤ 8) (hroom : 7 + 1 ≤ R.frames ∧ 8 + (5 + 11) + 60 * 7 ≤ R.locals) (hcs : cu ≤ R.cells ∧ su ≤ R.slots) (hd : decode M.2.1 pc = .ok (.invokevirtual 296, 3)) (k : am_W l M R post (pc + 3) ls (am_I (vo_moves K (fun k => if k = 1 then iv (30, 0, 0) 16 else iv (31, 0, 0) (21 + 2 * q)) x).1 :: st) kd rv (rr_L (vo_moves K (fun k => if k = 1 then iv (30, 0, 0) 16 else iv (31, 0, 0) (21 + 2 * q)) x).2 iv) cu su) : am_W l M R post pc ls (am_I x :: am_I (nI K) :: am_P (30, 0, 0) :: st) kd rv iv cu su := by
  rcases kd7 hK with rfl | rfl | rfl | rfl | rfl | rfl | rfl
  · exact A_callV1 (by rw [hM]; exact cv_X12_296) (r_moves0 l hR ok q hq16 hq6 eK x) hR.1 rfl rfl rfl rfl hw ⟨Nat.le_trans (Nat.le_of_ble_eq_true rfl) hroom.1, Nat.le_trans (Nat.le_of_ble_eq_true rfl) hroom.2⟩ hcs hd k
  · exact A_callV1 (by rw [hM]; exact cv_X12_296) (r_moves1 l hR ok q hq16 hq6 eK x) hR.1 rfl rfl rfl rfl hw ⟨Nat.le_trans (Nat.le_of_ble_eq_true rfl) hroom.1, Nat.le_trans (Nat.le_of_ble_eq_true rfl) hroom.2⟩ hcs hd k
  · exact A_callV1 (by rw [hM]; exact cv_X12_296) (r_moves2 l hR ok q hq16 hq6 eK x) hR.1 rfl rfl rfl rfl hw ⟨Nat.le_trans (Nat.le_of_ble_eq_true rfl) hroom.1, Nat.le_trans (Nat.le_of_ble_eq_true rfl) hroom.2⟩ hcs hd k
  · exact A_callV1 (by rw [hM]; exact cv_X12_296) (r_moves3 l hR ok q hq16 hq6 eK x) hR.1 rfl rfl rfl rfl hw ⟨Nat.le_trans (Nat.le_of_ble_eq_true rfl) hroom.1, Nat.le_trans (Nat.le_of_ble_eq_true rfl) hroom.2⟩ hcs hd k
  · exact A_callV1 (by rw [hM]; exact cv_X12_296) (r_moves4 l hR ok q hq16 hq6 eK x) hR.1 rfl rfl rfl rfl hw ⟨Nat.le_trans (Nat.le_of_ble_eq_true rfl) hroom.1, Nat.le_trans (Nat.le_of_ble_eq_true rfl) hroom.2⟩ hcs hd k
  · exact A_callV1 (by rw [hM]; exact cv_X12_296) (r_moves5 l hR ok q hq16 hq6 eK x) hR.1 rfl rfl rfl rfl hw ⟨Nat.le_trans (Nat.le_of_ble_eq_true rfl) hroom.1, Nat.le_trans (Nat.le_of_ble_eq_true rfl) hroom.2⟩ hcs hd k
  · exact A_callV1 (by rw [hM]; exact cv_X12_296) (r_moves6 l hR ok q hq16 hq6 eK x) hR.1 rfl rfl rfl rfl hw ⟨Nat.le_trans (Nat.le_of_ble_eq_true rfl) hroom.1, Nat.le_trans (Nat.le_of_ble_eq_true rfl) hroom.2⟩ hcs hd k
theorem W_tells_X12 {q K : Nat} {x : Int32} (hR : shr kd rv) (ok : rr_ok iv) (hq16 : iv (30, 0, 0) 16 = nI q) (hq6 : q < 6) (hK : K < 7) (eK : iv (31, 0, 0) (20 + 2 * q) = nI K) (hM : M.1.cls = RX12) (hw : am_wt st ≤ 8) (hroom : 10 + 1 ≤ R.frames ∧ 8 + (5 + 11) + 60 * 10 ≤ R.locals) (hcs : cu ≤ R.cells ∧ su ≤ R.slots) (hd : decode M.2.1 pc = .ok (.invokevirtual 305, 3)) (k : am_W l M R post (pc + 3) ls (am_I (vo_tells K (fun k => if k = 1 then iv (30, 0, 0) 16 else iv (31, 0, 0) (21 + 2 * q)) x).1 :: st) kd rv (rr_L (vo_tells K (fun k => if k = 1 then iv (30, 0, 0) 16 else iv (31, 0, 0) (21 + 2 * q)) x).2 iv) cu su) : am_W l M R post pc ls (am_I x :: am_I (nI K) :: am_P (30, 0, 0) :: st) kd rv iv cu su := by
  rcases kd7 hK with rfl | rfl | rfl | rfl | rfl | rfl | rfl
  · exact A_callV1 (by rw [hM]; exact cv_X12_305) (r_tells0 l hR ok q hq16 hq6 eK x) hR.1 rfl rfl rfl rfl hw ⟨Nat.le_trans (Nat.le_of_ble_eq_true rfl) hroom.1, Nat.le_trans (Nat.le_of_ble_eq_true rfl) hroom.2⟩ hcs hd k
  · exact A_callV1 (by rw [hM]; exact cv_X12_305) (r_tells1 l hR ok q hq16 hq6 eK x) hR.1 rfl rfl rfl rfl hw ⟨Nat.le_trans (Nat.le_of_ble_eq_true rfl) hroom.1, Nat.le_trans (Nat.le_of_ble_eq_true rfl) hroom.2⟩ hcs hd k
  · exact A_callV1 (by rw [hM]; exact cv_X12_305) (r_tells2 l hR ok q hq16 hq6 eK x) hR.1 rfl rfl rfl rfl hw ⟨Nat.le_trans (Nat.le_of_ble_eq_true rfl) hroom.1, Nat.le_trans (Nat.le_of_ble_eq_true rfl) hroom.2⟩ hcs hd k
  · exact A_callV1 (by rw [hM]; exact cv_X12_305) (r_tells3 l hR ok q hq16 hq6 eK x) hR.1 rfl rfl rfl rfl hw ⟨Nat.le_trans (Nat.le_of_ble_eq_true rfl) hroom.1, Nat.le_trans (Nat.le_of_ble_eq_true rfl) hroom.2⟩ hcs hd k
  · exact A_callV1 (by rw [hM]; exact cv_X12_305) (r_tells4 l hR ok q hq16 hq6 eK x) hR.1 rfl rfl rfl rfl hw ⟨Nat.le_trans (Nat.le_of_ble_eq_true rfl) hroom.1, Nat.le_trans (Nat.le_of_ble_eq_true rfl) hroom.2⟩ hcs hd k
  · exact A_callV1 (by rw [hM]; exact cv_X12_305) (r_tells5 l hR ok q hq16 hq6 eK x) hR.1 rfl rfl rfl rfl hw ⟨Nat.le_trans (Nat.le_of_ble_eq_true rfl) hroom.1, Nat.le_trans (Nat.le_of_ble_eq_true rfl) hroom.2⟩ hcs hd k
  · exact A_callV1 (by rw [hM]; exact cv_X12_305) (r_tells6 l hR ok q hq16 hq6 eK x) hR.1 rfl rfl rfl rfl hw ⟨Nat.le_trans (Nat.le_of_ble_eq_true rfl) hroom.1, Nat.le_trans (Nat.le_of_ble_eq_true rfl) hroom.2⟩ hcs hd k
end AW
noncomputable def c_voice (x y v : Int32) (nl : Nat) (ln : Nat → am_N) (lk : Nat → Nat) (iv : am_iv) : Int32 × am_iv := if sr_b (0 ≤ x ∧ x < nI nl) = 0 then (-1000000001, er_heap 1 iv) else if sr_b (0 ≤ y ∧ y ≤ 3) = 0 then (-1000000001, er_heap 1 iv) else if y = 0 then ((vo_goes (lk x.toNatClampNeg) ((am_ui iv (19, 0, 0) 1 0) (ln x.toNatClampNeg)) v).1, rw_L (19, 0, 0) (20, 0, 0) 40 (vo_goes (lk x.toNatClampNeg) ((am_ui iv (19, 0, 0) 1 0) (ln x.toNatClampNeg)) v).2 (am_ui iv (19, 0, 0) 1 0)) else if y = 1 then ((vo_moves (lk x.toNatClampNeg) ((am_ui iv (19, 0, 0) 1 0) (ln x.toNatClampNeg)) v).1, rw_L (19, 0, 0) (20, 0, 0) 40 (vo_moves (lk x.toNatClampNeg) ((am_ui iv (19, 0, 0) 1 0) (ln x.toNatClampNeg)) v).2 (am_ui iv (19, 0, 0) 1 0)) else if y = 2 then ((vo_ends (lk x.toNatClampNeg) ((am_ui iv (19, 0, 0) 1 0) (ln x.toNatClampNeg)) v).1, rw_L (19, 0, 0) (20, 0, 0) 40 (vo_ends (lk x.toNatClampNeg) ((am_ui iv (19, 0, 0) 1 0) (ln x.toNatClampNeg)) v).2 (am_ui iv (19, 0, 0) 1 0)) else ((vo_tells (lk x.toNatClampNeg) ((am_ui iv (19, 0, 0) 1 0) (ln x.toNatClampNeg)) v).1, rw_L (19, 0, 0) (20, 0, 0) 40 (vo_tells (lk x.toNatClampNeg) ((am_ui iv (19, 0, 0) 1 0) (ln x.toNatClampNeg)) v).2 (am_ui iv (19, 0, 0) 1 0))
set_option maxRecDepth 20000 in
theorem p_voice (l : Launch) {kd : am_kd} {rv : am_rv} {iv : am_iv} (hS : sh kd rv) (x y v : Int32) (nl : Nat) (ln : Nat → am_N) (lk : Nat → Nat) (hl : rm_laws kd rv iv 0 nl ln lk) : am_Met l mX11_voice (am_rm 8 0 0) [am_P (1, 0, 0), am_I x, am_I y, am_I v] kd rv iv (am_ret (some (am_I (c_voice x y v nl ln lk iv).1)) kd rv (c_voice x y v nl ln lk iv).2) := by
  refine am_Met.of (by decide) (Nat.le_of_ble_eq_true rfl) rfl ?_
  refine A_aload_n (pc := 0) (i := 0) dX11_voice_0 rfl rfl ?_
  refine A_getr (pc := 1) 0 fl_X11_12_11 hS.k1 rfl (hS.w1 (k := 0) (by decide)) dX11_voice_1 ?_
  refine A_iload_n (pc := 4) (i := 1) dX11_voice_4 rfl rfl ?_
  refine A_callV1 (pc := 5) cv_X11_109 (s_hasLaw l hS 0 (by decide) nl ln lk hl _) (hS.k2 (by decide)) rfl rfl rfl rfl (Nat.le_of_ble_eq_true rfl) ⟨(Nat.le_of_ble_eq_true rfl), (Nat.le_of_ble_eq_true rfl)⟩ ⟨Nat.zero_le _, Nat.zero_le _⟩ dX11_voice_5 ?_
  refine A_ifeq (pc := 8) 20 dX11_voice_8 (by decide) (fun hb8 => ?_) (fun hb8 => ?_)
  · refine A_aload_n (pc := 20) (i := 0) dX11_voice_20 rfl rfl ?_
    refine A_ldc (pc := 21) (List.mem_cons_of_mem _ kc_X11_60) dX11_voice_21 ?_
    refine A_callV1 (pc := 23) cv_X11_61 (s_err1 l hS) hS.k1 rfl rfl rfl rfl (Nat.le_of_ble_eq_true rfl) ⟨(Nat.le_of_ble_eq_true rfl), (Nat.le_of_ble_eq_true rfl)⟩ ⟨Nat.zero_le _, Nat.zero_le _⟩ dX11_voice_23 ?_
    exact A_iretE (pc := 26) dX11_voice_26 rfl (Nat.zero_le _) (Nat.zero_le _) (by rw [c_voice, if_pos hb8]) (by rw [c_voice, if_pos hb8])
  · refine A_iload_n (pc := 11) (i := 2) dX11_voice_11 rfl rfl ?_
    refine A_iconst (pc := 12) (0) dX11_voice_12 (by decide) ?_
    refine A_iconst (pc := 13) (3) dX11_voice_13 (by decide) ?_
    refine A_callS1 (pc := 14) cs_X11_56 (s_isHeld l _ _ _) rfl rfl (Nat.le_of_ble_eq_true rfl) ⟨(Nat.le_of_ble_eq_true rfl), (Nat.le_of_ble_eq_true rfl)⟩ ⟨Nat.zero_le _, Nat.zero_le _⟩ dX11_voice_14 ?_
    refine A_ifne (pc := 17) 27 dX11_voice_17 (by decide) (fun hb17 => ?_) (fun hb17 => ?_)
    · have hx := (sr_b_1 _).mp hb8
      have hxl : x.toNatClampNeg < nl := nI_cl_lt hx.1 hx.2 (by have := hl.2.1; omega)
      have hx6 : x.toNatClampNeg < 6 := by have := hl.2.1; omega
      obtain ⟨hl1, hl2, hl3, hl4⟩ := hl.2.2 _ hxl
      have htr : tr_ok kd rv (19, 0, 0) (20, 0, 0) 40 := ⟨hS.k19, hS.w19, hS.k20, by simp, by decide⟩
      refine A_aload_n (pc := 27) (i := 0) dX11_voice_27 rfl rfl ?_
      refine A_getr (pc := 28) 0 fl_X11_12_11 hS.k1 rfl (hS.w1 (k := 0) (by decide)) dX11_voice_28 ?_
      refine A_getr (pc := 31) 3 fl_X11_112_4 (hS.k2 (by decide)) rfl (hS.w2_3 (by decide)) dX11_voice_31 ?_
      refine A_iload_n (pc := 34) (i := 1) dX11_voice_34 rfl rfl ?_
      refine A_top (nI_cl hx.1) ?_
      refine A_aaldN (pc := 35) (hS.k7 (by decide)) (by decide) (by decide) hx6 (by decide) hl1 dX11_voice_35 ?_
      refine A_ast4 (pc := 36) dX11_voice_36 (Nat.le_of_ble_eq_true rfl) rfl ?_
      refine A_aload_n (pc := 38) (i := 0) dX11_voice_38 rfl rfl ?_
      refine A_getr (pc := 39) 6 fl_X11_38_11 hS.k1 rfl hS.w1_6 dX11_voice_39 ?_
      refine A_iconst (pc := 42) (0) dX11_voice_42 (by decide) ?_
      refine A_puti (pc := 43) 1 fl_X11_174_5 hS.k19 rfl (by decide +kernel) rfl rfl dX11_voice_43 ?_
      refine A_iload_n (pc := 46) (i := 2) dX11_voice_46 rfl rfl ?_
      by_cases hs47_0 : y = (0)
      · refine A_tableIn (pc := 47) (off := 25) 72 dX11_voice_47 (by rw [hs47_0]; decide) (by rw [hs47_0]; decide) (by rw [hs47_0]; decide) (by decide) ?_
        refine A_aload (pc := 72) (i := 4) dX11_voice_72 rfl ?_
        refine A_iload_n (pc := 74) (i := 3) dX11_voice_74 rfl rfl ?_
        refine A_aload_n (pc := 75) (i := 0) dX11_voice_75 rfl rfl ?_
        refine A_getr (pc := 76) 6 fl_X11_38_11 hS.k1 rfl hS.w1_6 dX11_voice_76 ?_
        refine W_goes_X11 (pc := 79) hl2 hl3 htr (fun e => by rw [e] at hl4; simp at hl4) (fun e => by rw [e] at hl4; simp at hl4) ⟨0, by decide, am_ui_s _ _ _ _⟩ rfl (Nat.le_of_ble_eq_true rfl) ⟨(Nat.le_of_ble_eq_true rfl), (Nat.le_of_ble_eq_true rfl)⟩ ⟨Nat.zero_le _, Nat.zero_le _⟩ dX11_voice_79 ?_
        exact A_iretE (pc := 82) dX11_voice_82 rfl (Nat.zero_le _) (Nat.zero_le _) (by rw [c_voice, if_neg hb8, if_neg hb17, if_pos hs47_0]) (by rw [c_voice, if_neg hb8, if_neg hb17, if_pos hs47_0])
      by_cases hs47_1 : y = (1)
      · refine A_tableIn (pc := 47) (off := 36) 83 dX11_voice_47 (by rw [hs47_1]; decide) (by rw [hs47_1]; decide) (by rw [hs47_1]; decide) (by decide) ?_
        refine A_aload (pc := 83) (i := 4) dX11_voice_83 rfl ?_
        refine A_iload_n (pc := 85) (i := 3) dX11_voice_85 rfl rfl ?_
        refine A_aload_n (pc := 86) (i := 0) dX11_voice_86 rfl rfl ?_
        refine A_getr (pc := 87) 6 fl_X11_38_11 hS.k1 rfl hS.w1_6 dX11_voice_87 ?_
        refine W_moves_X11 (pc := 90) hl2 hl3 htr (fun e => by rw [e] at hl4; simp at hl4) (fun e => by rw [e] at hl4; simp at hl4) ⟨0, by decide, am_ui_s _ _ _ _⟩ rfl (Nat.le_of_ble_eq_true rfl) ⟨(Nat.le_of_ble_eq_true rfl), (Nat.le_of_ble_eq_true rfl)⟩ ⟨Nat.zero_le _, Nat.zero_le _⟩ dX11_voice_90 ?_
        exact A_iretE (pc := 93) dX11_voice_93 rfl (Nat.zero_le _) (Nat.zero_le _) (by rw [c_voice, if_neg hb8, if_neg hb17, if_neg hs47_0, if_pos hs47_1]) (by rw [c_voice, if_neg hb8, if_neg hb17, if_neg hs47_0, if_pos hs47_1])
      by_cases hs47_2 : y = (2)
      · refine A_tableIn (pc := 47) (off := 47) 94 dX11_voice_47 (by rw [hs47_2]; decide) (by rw [hs47_2]; decide) (by rw [hs47_2]; decide) (by decide) ?_
        refine A_aload (pc := 94) (i := 4) dX11_voice_94 rfl ?_
        refine A_iload_n (pc := 96) (i := 3) dX11_voice_96 rfl rfl ?_
        refine A_aload_n (pc := 97) (i := 0) dX11_voice_97 rfl rfl ?_
        refine A_getr (pc := 98) 6 fl_X11_38_11 hS.k1 rfl hS.w1_6 dX11_voice_98 ?_
        refine W_ends_X11 (pc := 101) hl2 hl3 htr (fun e => by rw [e] at hl4; simp at hl4) (fun e => by rw [e] at hl4; simp at hl4) ⟨0, by decide, am_ui_s _ _ _ _⟩ rfl (Nat.le_of_ble_eq_true rfl) ⟨(Nat.le_of_ble_eq_true rfl), (Nat.le_of_ble_eq_true rfl)⟩ ⟨Nat.zero_le _, Nat.zero_le _⟩ dX11_voice_101 ?_
        exact A_iretE (pc := 104) dX11_voice_104 rfl (Nat.zero_le _) (Nat.zero_le _) (by rw [c_voice, if_neg hb8, if_neg hb17, if_neg hs47_0, if_neg hs47_1, if_pos hs47_2]) (by rw [c_voice, if_neg hb8, if_neg hb17, if_neg hs47_0, if_neg hs47_1, if_pos hs47_2])
      refine A_tableOut (pc := 47) 105 dX11_voice_47 (by have := lv_neT hs47_0 (show ((0 : Int32)).toInt = (0) by decide); have := lv_neT hs47_1 (show ((1 : Int32)).toInt = (1) by decide); have := lv_neT hs47_2 (show ((2 : Int32)).toInt = (2) by decide); omega) (by decide) ?_
      refine A_aload (pc := 105) (i := 4) dX11_voice_105 rfl ?_
      refine A_iload_n (pc := 107) (i := 3) dX11_voice_107 rfl rfl ?_
      refine A_aload_n (pc := 108) (i := 0) dX11_voice_108 rfl rfl ?_
      refine A_getr (pc := 109) 6 fl_X11_38_11 hS.k1 rfl hS.w1_6 dX11_voice_109 ?_
      refine W_tells_X11 (pc := 112) hl2 hl3 htr (fun e => by rw [e] at hl4; simp at hl4) (fun e => by rw [e] at hl4; simp at hl4) ⟨0, by decide, am_ui_s _ _ _ _⟩ rfl (Nat.le_of_ble_eq_true rfl) ⟨(Nat.le_of_ble_eq_true rfl), (Nat.le_of_ble_eq_true rfl)⟩ ⟨Nat.zero_le _, Nat.zero_le _⟩ dX11_voice_112 ?_
      exact A_iretE (pc := 115) dX11_voice_115 rfl (Nat.zero_le _) (Nat.zero_le _) (by rw [c_voice, if_neg hb8, if_neg hb17, if_neg hs47_0, if_neg hs47_1, if_neg hs47_2]) (by rw [c_voice, if_neg hb8, if_neg hb17, if_neg hs47_0, if_neg hs47_1, if_neg hs47_2])
    · refine A_aload_n (pc := 20) (i := 0) dX11_voice_20 rfl rfl ?_
      refine A_ldc (pc := 21) (List.mem_cons_of_mem _ kc_X11_60) dX11_voice_21 ?_
      refine A_callV1 (pc := 23) cv_X11_61 (s_err1 l hS) hS.k1 rfl rfl rfl rfl (Nat.le_of_ble_eq_true rfl) ⟨(Nat.le_of_ble_eq_true rfl), (Nat.le_of_ble_eq_true rfl)⟩ ⟨Nat.zero_le _, Nat.zero_le _⟩ dX11_voice_23 ?_
      exact A_iretE (pc := 26) dX11_voice_26 rfl (Nat.zero_le _) (Nat.zero_le _) (by rw [c_voice, if_neg hb8, if_pos hb17]) (by rw [c_voice, if_neg hb8, if_pos hb17])
noncomputable def d_voice (x y v : Int32) (lk : Nat → Nat) (iv : am_iv) : Int32 × am_iv := if sr_b (0 ≤ x ∧ x ≤ iv (31, 0, 0) 2 - 1) = 0 then (-1000000001, rx_find 1 iv) else if sr_b (0 ≤ y ∧ y ≤ 3) = 0 then (-1000000001, rx_find 1 iv) else if y = 0 then ((vo_goes (lk x.toNatClampNeg) (fun k => if k = 1 then (am_ui (am_ui iv (30, 0, 0) 15 0) (30, 0, 0) 16 x) (30, 0, 0) 16 else (am_ui (am_ui iv (30, 0, 0) 15 0) (30, 0, 0) 16 x) (31, 0, 0) (21 + 2 * x.toNatClampNeg)) v).1, rr_L (vo_goes (lk x.toNatClampNeg) (fun k => if k = 1 then (am_ui (am_ui iv (30, 0, 0) 15 0) (30, 0, 0) 16 x) (30, 0, 0) 16 else (am_ui (am_ui iv (30, 0, 0) 15 0) (30, 0, 0) 16 x) (31, 0, 0) (21 + 2 * x.toNatClampNeg)) v).2 (am_ui (am_ui iv (30, 0, 0) 15 0) (30, 0, 0) 16 x)) else if y = 1 then ((vo_moves (lk x.toNatClampNeg) (fun k => if k = 1 then (am_ui (am_ui iv (30, 0, 0) 15 0) (30, 0, 0) 16 x) (30, 0, 0) 16 else (am_ui (am_ui iv (30, 0, 0) 15 0) (30, 0, 0) 16 x) (31, 0, 0) (21 + 2 * x.toNatClampNeg)) v).1, rr_L (vo_moves (lk x.toNatClampNeg) (fun k => if k = 1 then (am_ui (am_ui iv (30, 0, 0) 15 0) (30, 0, 0) 16 x) (30, 0, 0) 16 else (am_ui (am_ui iv (30, 0, 0) 15 0) (30, 0, 0) 16 x) (31, 0, 0) (21 + 2 * x.toNatClampNeg)) v).2 (am_ui (am_ui iv (30, 0, 0) 15 0) (30, 0, 0) 16 x)) else if y = 2 then ((vo_ends (lk x.toNatClampNeg) (fun k => if k = 1 then (am_ui (am_ui iv (30, 0, 0) 15 0) (30, 0, 0) 16 x) (30, 0, 0) 16 else (am_ui (am_ui iv (30, 0, 0) 15 0) (30, 0, 0) 16 x) (31, 0, 0) (21 + 2 * x.toNatClampNeg)) v).1, rr_L (vo_ends (lk x.toNatClampNeg) (fun k => if k = 1 then (am_ui (am_ui iv (30, 0, 0) 15 0) (30, 0, 0) 16 x) (30, 0, 0) 16 else (am_ui (am_ui iv (30, 0, 0) 15 0) (30, 0, 0) 16 x) (31, 0, 0) (21 + 2 * x.toNatClampNeg)) v).2 (am_ui (am_ui iv (30, 0, 0) 15 0) (30, 0, 0) 16 x)) else ((vo_tells (lk x.toNatClampNeg) (fun k => if k = 1 then (am_ui (am_ui iv (30, 0, 0) 15 0) (30, 0, 0) 16 x) (30, 0, 0) 16 else (am_ui (am_ui iv (30, 0, 0) 15 0) (30, 0, 0) 16 x) (31, 0, 0) (21 + 2 * x.toNatClampNeg)) v).1, rr_L (vo_tells (lk x.toNatClampNeg) (fun k => if k = 1 then (am_ui (am_ui iv (30, 0, 0) 15 0) (30, 0, 0) 16 x) (30, 0, 0) 16 else (am_ui (am_ui iv (30, 0, 0) 15 0) (30, 0, 0) 16 x) (31, 0, 0) (21 + 2 * x.toNatClampNeg)) v).2 (am_ui (am_ui iv (30, 0, 0) 15 0) (30, 0, 0) 16 x))
set_option maxRecDepth 20000 in
theorem q_voice (l : Launch) {kd : am_kd} {rv : am_rv} {iv : am_iv} (hR : shr kd rv) (x y v : Int32) (nl : Nat) (lk : Nat → Nat) (hnl : iv (31, 0, 0) 2 = nI nl) (hnl6 : nl ≤ 6) (hlk : ∀ j, j < nl → lk j < 7 ∧ iv (31, 0, 0) (20 + 2 * j) = nI (lk j)) : am_Met l mX12_voice (am_rm 12 0 0) [am_P (30, 0, 0), am_I x, am_I y, am_I v] kd rv iv (am_ret (some (am_I (d_voice x y v lk iv).1)) kd rv (d_voice x y v lk iv).2) := by
  refine am_Met.of (by decide) (Nat.le_of_ble_eq_true rfl) rfl ?_
  refine A_aload_n (pc := 0) (i := 0) dX12_voice_0 rfl rfl ?_
  refine A_iload_n (pc := 1) (i := 1) dX12_voice_1 rfl rfl ?_
  refine A_callV1 (pc := 2) cv_X12_91 (r_isLaw l hR _) hR.1 rfl rfl rfl rfl (Nat.le_of_ble_eq_true rfl) ⟨(Nat.le_of_ble_eq_true rfl), (Nat.le_of_ble_eq_true rfl)⟩ ⟨Nat.zero_le _, Nat.zero_le _⟩ dX12_voice_2 ?_
  refine A_ifeq (pc := 5) 20 dX12_voice_5 (by decide) (fun hb5 => ?_) (fun hb5 => ?_)
  · refine A_aload_n (pc := 20) (i := 0) dX12_voice_20 rfl rfl ?_
    refine A_iconst (pc := 21) (1) dX12_voice_21 (by decide) ?_
    refine A_callV1 (pc := 22) cv_X12_65 (r_fnd1 l hR) hR.1 rfl rfl rfl rfl (Nat.le_of_ble_eq_true rfl) ⟨(Nat.le_of_ble_eq_true rfl), (Nat.le_of_ble_eq_true rfl)⟩ ⟨Nat.zero_le _, Nat.zero_le _⟩ dX12_voice_22 ?_
    exact A_iretE (pc := 25) dX12_voice_25 rfl (Nat.zero_le _) (Nat.zero_le _) (by rw [d_voice, if_pos hb5]) (by rw [d_voice, if_pos hb5])
  · refine A_iload_n (pc := 8) (i := 2) dX12_voice_8 rfl rfl ?_
    refine A_i2l (pc := 9) dX12_voice_9 ?_
    refine A_lconst (pc := 10) (0) dX12_voice_10 (by decide) ?_
    refine A_topJ (y := Int32.toInt64 (0)) (by decide +kernel) ?_
    refine A_ldc2 (pc := 11) (List.mem_cons_of_mem _ kc_X12_117) dX12_voice_11 ?_
    refine A_topJ (y := Int32.toInt64 (3)) (by decide +kernel) ?_
    refine A_callS1 (pc := 14) cs_X12_48 (r_in l _ _ _) rfl rfl (Nat.le_of_ble_eq_true rfl) ⟨(Nat.le_of_ble_eq_true rfl), (Nat.le_of_ble_eq_true rfl)⟩ ⟨Nat.zero_le _, Nat.zero_le _⟩ dX12_voice_14 ?_
    refine A_ifne (pc := 17) 26 dX12_voice_17 (by decide) (fun hb17 => ?_) (fun hb17 => ?_)
    · have hx := (sr_b_1 _).mp hb5
      have hxl : x.toNatClampNeg < nl := nI_m1n (by omega) hx.1 (hnl ▸ hx.2)
      have hx6 : x.toNatClampNeg < 6 := by omega
      obtain ⟨hk7, hkk⟩ := hlk _ hxl
      refine A_aload_n (pc := 26) (i := 0) dX12_voice_26 rfl rfl ?_
      refine A_iconst (pc := 27) (0) dX12_voice_27 (by decide) ?_
      refine A_puti (pc := 28) 15 fl_X12_278_12 hR.1 rfl (by decide +kernel) rfl rfl dX12_voice_28 ?_
      refine A_aload_n (pc := 31) (i := 0) dX12_voice_31 rfl rfl ?_
      refine A_iload_n (pc := 32) (i := 1) dX12_voice_32 rfl rfl ?_
      refine A_puti (pc := 33) 16 fl_X12_281_12 hR.1 rfl (by decide +kernel) rfl rfl dX12_voice_33 ?_
      have hq16 : (am_ui (am_ui iv (30, 0, 0) 15 0) (30, 0, 0) 16 x) (30, 0, 0) 16 = nI x.toNatClampNeg := (am_ui_s _ _ _ _).trans (nI_cl hx.1)
      have eK2 : (am_ui (am_ui iv (30, 0, 0) 15 0) (30, 0, 0) 16 x) (31, 0, 0) (20 + 2 * x.toNatClampNeg) = nI (lk x.toNatClampNeg) := by rw [am_ui_o (by simp), am_ui_o (by simp)]; exact hkk
      refine A_aload_n (pc := 36) (i := 0) dX12_voice_36 rfl rfl ?_
      refine A_callV1 (pc := 37) cv_X12_293 (r_own l hR x.toNatClampNeg hq16 hx6) hR.1 rfl rfl rfl rfl (Nat.le_of_ble_eq_true rfl) ⟨(Nat.le_of_ble_eq_true rfl), (Nat.le_of_ble_eq_true rfl)⟩ ⟨Nat.zero_le _, Nat.zero_le _⟩ dX12_voice_37 ?_
      refine A_ist4 (pc := 40) dX12_voice_40 (Nat.le_of_ble_eq_true rfl) rfl ?_
      refine A_iload_n (pc := 42) (i := 2) dX12_voice_42 rfl rfl ?_
      refine A_ifne (pc := 43) 56 dX12_voice_43 (by decide) (fun hb43 => ?_) (fun hb43 => ?_)
      · refine A_iload_n (pc := 56) (i := 2) dX12_voice_56 rfl rfl ?_
        refine A_iconst (pc := 57) (1) dX12_voice_57 (by decide) ?_
        refine A_icmpne (pc := 58) 71 dX12_voice_58 (by decide) (fun hb58 => ?_) (fun hb58 => ?_)
        · refine A_iload_n (pc := 71) (i := 2) dX12_voice_71 rfl rfl ?_
          refine A_iconst (pc := 72) (2) dX12_voice_72 (by decide) ?_
          refine A_icmpne (pc := 73) 86 dX12_voice_73 (by decide) (fun hb73 => ?_) (fun hb73 => ?_)
          · refine A_aload_n (pc := 86) (i := 0) dX12_voice_86 rfl rfl ?_
            refine A_iload (pc := 87) (i := 4) dX12_voice_87 rfl ?_
            refine A_top eK2 ?_
            refine A_iload_n (pc := 89) (i := 3) dX12_voice_89 rfl rfl ?_
            refine W_tells_X12 (pc := 90) hR ⟨0, by decide, (am_ui_n (by simp)).trans (am_ui_s _ _ _ _)⟩ hq16 hx6 hk7 eK2 rfl (Nat.le_of_ble_eq_true rfl) ⟨(Nat.le_of_ble_eq_true rfl), (Nat.le_of_ble_eq_true rfl)⟩ ⟨Nat.zero_le _, Nat.zero_le _⟩ dX12_voice_90 ?_
            exact A_iretE (pc := 93) dX12_voice_93 rfl (Nat.zero_le _) (Nat.zero_le _) (by rw [d_voice, if_neg hb5, if_neg hb17, if_neg hb43, if_neg hb58, if_neg hb73]) (by rw [d_voice, if_neg hb5, if_neg hb17, if_neg hb43, if_neg hb58, if_neg hb73])
          · refine A_aload_n (pc := 76) (i := 0) dX12_voice_76 rfl rfl ?_
            refine A_iload (pc := 77) (i := 4) dX12_voice_77 rfl ?_
            refine A_top eK2 ?_
            refine A_iload_n (pc := 79) (i := 3) dX12_voice_79 rfl rfl ?_
            refine W_ends_X12 (pc := 80) hR ⟨0, by decide, (am_ui_n (by simp)).trans (am_ui_s _ _ _ _)⟩ hq16 hx6 hk7 eK2 rfl (Nat.le_of_ble_eq_true rfl) ⟨(Nat.le_of_ble_eq_true rfl), (Nat.le_of_ble_eq_true rfl)⟩ ⟨Nat.zero_le _, Nat.zero_le _⟩ dX12_voice_80 ?_
            refine A_goto (pc := 83) 93 dX12_voice_83 (by decide) ?_
            exact A_iretE (pc := 93) dX12_voice_93 rfl (Nat.zero_le _) (Nat.zero_le _) (by rw [d_voice, if_neg hb5, if_neg hb17, if_neg hb43, if_neg hb58, if_pos hb73]) (by rw [d_voice, if_neg hb5, if_neg hb17, if_neg hb43, if_neg hb58, if_pos hb73])
        · refine A_aload_n (pc := 61) (i := 0) dX12_voice_61 rfl rfl ?_
          refine A_iload (pc := 62) (i := 4) dX12_voice_62 rfl ?_
          refine A_top eK2 ?_
          refine A_iload_n (pc := 64) (i := 3) dX12_voice_64 rfl rfl ?_
          refine W_moves_X12 (pc := 65) hR ⟨0, by decide, (am_ui_n (by simp)).trans (am_ui_s _ _ _ _)⟩ hq16 hx6 hk7 eK2 rfl (Nat.le_of_ble_eq_true rfl) ⟨(Nat.le_of_ble_eq_true rfl), (Nat.le_of_ble_eq_true rfl)⟩ ⟨Nat.zero_le _, Nat.zero_le _⟩ dX12_voice_65 ?_
          refine A_goto (pc := 68) 93 dX12_voice_68 (by decide) ?_
          exact A_iretE (pc := 93) dX12_voice_93 rfl (Nat.zero_le _) (Nat.zero_le _) (by rw [d_voice, if_neg hb5, if_neg hb17, if_neg hb43, if_pos hb58]) (by rw [d_voice, if_neg hb5, if_neg hb17, if_neg hb43, if_pos hb58])
      · refine A_aload_n (pc := 46) (i := 0) dX12_voice_46 rfl rfl ?_
        refine A_iload (pc := 47) (i := 4) dX12_voice_47 rfl ?_
        refine A_top eK2 ?_
        refine A_iload_n (pc := 49) (i := 3) dX12_voice_49 rfl rfl ?_
        refine W_goes_X12 (pc := 50) hR ⟨0, by decide, (am_ui_n (by simp)).trans (am_ui_s _ _ _ _)⟩ hq16 hx6 hk7 eK2 rfl (Nat.le_of_ble_eq_true rfl) ⟨(Nat.le_of_ble_eq_true rfl), (Nat.le_of_ble_eq_true rfl)⟩ ⟨Nat.zero_le _, Nat.zero_le _⟩ dX12_voice_50 ?_
        refine A_goto (pc := 53) 93 dX12_voice_53 (by decide) ?_
        exact A_iretE (pc := 93) dX12_voice_93 rfl (Nat.zero_le _) (Nat.zero_le _) (by rw [d_voice, if_neg hb5, if_neg hb17, if_pos hb43]) (by rw [d_voice, if_neg hb5, if_neg hb17, if_pos hb43])
    · refine A_aload_n (pc := 20) (i := 0) dX12_voice_20 rfl rfl ?_
      refine A_iconst (pc := 21) (1) dX12_voice_21 (by decide) ?_
      refine A_callV1 (pc := 22) cv_X12_65 (r_fnd1 l hR) hR.1 rfl rfl rfl rfl (Nat.le_of_ble_eq_true rfl) ⟨(Nat.le_of_ble_eq_true rfl), (Nat.le_of_ble_eq_true rfl)⟩ ⟨Nat.zero_le _, Nat.zero_le _⟩ dX12_voice_22 ?_
      exact A_iretE (pc := 25) dX12_voice_25 rfl (Nat.zero_le _) (Nat.zero_le _) (by rw [d_voice, if_neg hb5, if_pos hb17]) (by rw [d_voice, if_neg hb5, if_pos hb17])
