def sh_beg (j : Nat) (b : Int32) (s : Nat) (iv : am_iv) : am_iv := rw_fill (18, j, 0) 40 0 (am_ui (am_ui iv (17, j, 0) 2 b) (17, j, 0) 1 (nI s))
noncomputable def c_sheet (x y z : Int32) (iv : am_iv) : Int32 × am_iv := if sr_b (0 ≤ x ∧ x ≤ 3) = 0 then (-1000000001, er_heap 1 iv) else if y = 0 ∨ y = 8 ∨ y = 16 ∨ y = 32 then (if y = 0 then (1, sh_beg x.toNatClampNeg y 0 iv) else if 0 ≤ z then (if z ≤ 40 then (1, sh_beg x.toNatClampNeg y z.toNatClampNeg iv) else (-1000000001, er_heap 1 iv)) else (-1000000003, er_heap 3 iv)) else (-1000000001, er_heap 1 iv)
set_option maxRecDepth 20000 in
theorem p_sheet (l : Launch) {kd : am_kd} {rv : am_rv} {iv : am_iv} (hS : sh kd rv) (x y z : Int32) : am_Met l mX11_sheet (am_rm 4 0 0) [am_P (1, 0, 0), am_I x, am_I y, am_I z] kd rv iv (am_ret (some (am_I (c_sheet x y z iv).1)) kd rv (c_sheet x y z iv).2) := by
  refine am_Met.of (by decide) (Nat.le_of_ble_eq_true rfl) rfl ?_
  refine A_iload_n (pc := 0) (i := 1) dX11_sheet_0 rfl rfl ?_
  refine A_callS1 (pc := 1) cs_X11_285 (s_isSheet l _) rfl rfl (Nat.le_of_ble_eq_true rfl) ⟨(Nat.le_of_ble_eq_true rfl), (Nat.le_of_ble_eq_true rfl)⟩ ⟨Nat.zero_le _, Nat.zero_le _⟩ dX11_sheet_1 ?_
  refine A_ifeq (pc := 4) 29 dX11_sheet_4 (by decide) (fun hb4 => ?_) (fun hb4 => ?_)
  · refine A_aload_n (pc := 29) (i := 0) dX11_sheet_29 rfl rfl ?_
    refine A_ldc (pc := 30) (List.mem_cons_of_mem _ kc_X11_60) dX11_sheet_30 ?_
    refine A_callV1 (pc := 32) cv_X11_61 (s_err1 l hS) hS.k1 rfl rfl rfl rfl (Nat.le_of_ble_eq_true rfl) ⟨(Nat.le_of_ble_eq_true rfl), (Nat.le_of_ble_eq_true rfl)⟩ ⟨Nat.zero_le _, Nat.zero_le _⟩ dX11_sheet_32 ?_
    exact A_iretE (pc := 35) dX11_sheet_35 rfl (Nat.zero_le _) (Nat.zero_le _) (by rw [c_sheet, if_pos hb4]) (by rw [c_sheet, if_pos hb4])
  · refine A_iload_n (pc := 7) (i := 2) dX11_sheet_7 rfl rfl ?_
    refine A_ifeq (pc := 8) 36 dX11_sheet_8 (by decide) (fun hb8 => ?_) (fun hb8 => ?_)
    · refine A_iload_n (pc := 36) (i := 2) dX11_sheet_36 rfl rfl ?_
      refine A_ifeq (pc := 37) 52 dX11_sheet_37 (by decide) (fun hb37 => ?_) (fun hb37 => ?_)
      · refine A_iload_n (pc := 52) (i := 2) dX11_sheet_52 rfl rfl ?_
        refine A_ifeq (pc := 53) 69 dX11_sheet_53 (by decide) (fun hb53 => ?_) (fun hb53 => ?_)
        · have hx := (sr_b_1 _).mp hb4
          have hx4 : x.toNatClampNeg < 4 := Nat.lt_of_le_of_lt (nI_cl_le (n := 3) hx.1 hx.2 (by decide)) (by decide)
          refine A_aload_n (pc := 69) (i := 0) dX11_sheet_69 rfl rfl ?_
          refine A_getr (pc := 70) 5 fl_X11_31_11 hS.k1 rfl hS.w1_5 dX11_sheet_70 ?_
          refine A_iload_n (pc := 73) (i := 1) dX11_sheet_73 rfl rfl ?_
          refine A_top (nI_cl hx.1) ?_
          refine A_aaldN (pc := 74) hS.k16 (by decide) (by decide) hx4 (by decide) (hS.w16 hx4) dX11_sheet_74 ?_
          refine A_iload_n (pc := 75) (i := 2) dX11_sheet_75 rfl rfl ?_
          refine A_iload_n (pc := 76) (i := 2) dX11_sheet_76 rfl rfl ?_
          refine A_ifne (pc := 77) 84 dX11_sheet_77 (by decide) (fun hb77 => ?_) (fun hb77 => ?_)
          · exact absurd hb8 hb77
          · refine A_iconst (pc := 80) (0) dX11_sheet_80 (by decide) ?_
            refine A_goto (pc := 81) 85 dX11_sheet_81 (by decide) ?_
            refine A_callV0 (pc := 85) cv_X11_289 (s_rwbegin l _ _ 40 0 (hS.k17 hx4) (hS.w17 hx4) (hS.k18 hx4) (by decide) y (by decide)) (hS.k17 hx4) rfl rfl rfl rfl (Nat.le_of_ble_eq_true rfl) ⟨(Nat.le_of_ble_eq_true rfl), (Nat.le_of_ble_eq_true rfl)⟩ ⟨Nat.zero_le _, Nat.zero_le _⟩ dX11_sheet_85 ?_
            refine A_iconst (pc := 88) (1) dX11_sheet_88 (by decide) ?_
            exact A_iretE (pc := 89) dX11_sheet_89 rfl (Nat.zero_le _) (Nat.zero_le _) (by rw [c_sheet, if_neg hb4, if_pos (Or.inl hb8), if_pos hb8]) (by rw [c_sheet, if_neg hb4, if_pos (Or.inl hb8), if_pos hb8]; rfl)
        · exact absurd hb8 hb53
      · exact absurd hb8 hb37
    · refine A_iload_n (pc := 11) (i := 2) dX11_sheet_11 rfl rfl ?_
      refine A_bipush (pc := 12) (8) dX11_sheet_12 (by decide) ?_
      refine A_icmpeq (pc := 14) 36 dX11_sheet_14 (by decide) (fun hb14 => ?_) (fun hb14 => ?_)
      · refine A_iload_n (pc := 36) (i := 2) dX11_sheet_36 rfl rfl ?_
        refine A_ifeq (pc := 37) 52 dX11_sheet_37 (by decide) (fun hb37 => ?_) (fun hb37 => ?_)
        · exact absurd hb37 hb8
        · refine A_iload_n (pc := 40) (i := 3) dX11_sheet_40 rfl rfl ?_
          refine A_ifge (pc := 41) 52 dX11_sheet_41 (by decide) (fun hb41 => ?_) (fun hb41 => ?_)
          · refine A_iload_n (pc := 52) (i := 2) dX11_sheet_52 rfl rfl ?_
            refine A_ifeq (pc := 53) 69 dX11_sheet_53 (by decide) (fun hb53 => ?_) (fun hb53 => ?_)
            · exact absurd hb53 hb8
            · refine A_iload_n (pc := 56) (i := 3) dX11_sheet_56 rfl rfl ?_
              refine A_bipush (pc := 57) (40) dX11_sheet_57 (by decide) ?_
              refine A_icmple (pc := 59) 69 dX11_sheet_59 (by decide) (fun hb59 => ?_) (fun hb59 => ?_)
              · have hx := (sr_b_1 _).mp hb4
                have hx4 : x.toNatClampNeg < 4 := Nat.lt_of_le_of_lt (nI_cl_le (n := 3) hx.1 hx.2 (by decide)) (by decide)
                refine A_aload_n (pc := 69) (i := 0) dX11_sheet_69 rfl rfl ?_
                refine A_getr (pc := 70) 5 fl_X11_31_11 hS.k1 rfl hS.w1_5 dX11_sheet_70 ?_
                refine A_iload_n (pc := 73) (i := 1) dX11_sheet_73 rfl rfl ?_
                refine A_top (nI_cl hx.1) ?_
                refine A_aaldN (pc := 74) hS.k16 (by decide) (by decide) hx4 (by decide) (hS.w16 hx4) dX11_sheet_74 ?_
                refine A_iload_n (pc := 75) (i := 2) dX11_sheet_75 rfl rfl ?_
                refine A_iload_n (pc := 76) (i := 2) dX11_sheet_76 rfl rfl ?_
                refine A_ifne (pc := 77) 84 dX11_sheet_77 (by decide) (fun hb77 => ?_) (fun hb77 => ?_)
                · refine A_iload_n (pc := 84) (i := 3) dX11_sheet_84 rfl rfl ?_
                  refine A_top (nI_cl hb41) ?_
                  refine A_callV0 (pc := 85) cv_X11_289 (s_rwbegin l _ _ 40 z.toNatClampNeg (hS.k17 hx4) (hS.w17 hx4) (hS.k18 hx4) (by decide) y (nI_cl_le hb41 hb59 (by decide))) (hS.k17 hx4) rfl rfl rfl rfl (Nat.le_of_ble_eq_true rfl) ⟨(Nat.le_of_ble_eq_true rfl), (Nat.le_of_ble_eq_true rfl)⟩ ⟨Nat.zero_le _, Nat.zero_le _⟩ dX11_sheet_85 ?_
                  refine A_iconst (pc := 88) (1) dX11_sheet_88 (by decide) ?_
                  exact A_iretE (pc := 89) dX11_sheet_89 rfl (Nat.zero_le _) (Nat.zero_le _) (by rw [c_sheet, if_neg hb4, if_pos (Or.inr (Or.inl hb14)), if_neg hb8, if_pos hb41, if_pos hb59]) (by rw [c_sheet, if_neg hb4, if_pos (Or.inr (Or.inl hb14)), if_neg hb8, if_pos hb41, if_pos hb59]; rfl)
                · exact absurd hb77 hb8
              · refine A_aload_n (pc := 62) (i := 0) dX11_sheet_62 rfl rfl ?_
                refine A_ldc (pc := 63) (List.mem_cons_of_mem _ kc_X11_60) dX11_sheet_63 ?_
                refine A_callV1 (pc := 65) cv_X11_61 (s_err1 l hS) hS.k1 rfl rfl rfl rfl (Nat.le_of_ble_eq_true rfl) ⟨(Nat.le_of_ble_eq_true rfl), (Nat.le_of_ble_eq_true rfl)⟩ ⟨Nat.zero_le _, Nat.zero_le _⟩ dX11_sheet_65 ?_
                exact A_iretE (pc := 68) dX11_sheet_68 rfl (Nat.zero_le _) (Nat.zero_le _) (by rw [c_sheet, if_neg hb4, if_pos (Or.inr (Or.inl hb14)), if_neg hb8, if_pos hb41, if_neg hb59]) (by rw [c_sheet, if_neg hb4, if_pos (Or.inr (Or.inl hb14)), if_neg hb8, if_pos hb41, if_neg hb59])
          · refine A_aload_n (pc := 44) (i := 0) dX11_sheet_44 rfl rfl ?_
            refine A_ldcw (pc := 45) (List.mem_cons_of_mem _ kc_X11_288) dX11_sheet_45 ?_
            refine A_callV1 (pc := 48) cv_X11_61 (s_err3 l hS) hS.k1 rfl rfl rfl rfl (Nat.le_of_ble_eq_true rfl) ⟨(Nat.le_of_ble_eq_true rfl), (Nat.le_of_ble_eq_true rfl)⟩ ⟨Nat.zero_le _, Nat.zero_le _⟩ dX11_sheet_48 ?_
            exact A_iretE (pc := 51) dX11_sheet_51 rfl (Nat.zero_le _) (Nat.zero_le _) (by rw [c_sheet, if_neg hb4, if_pos (Or.inr (Or.inl hb14)), if_neg hb8, if_neg hb41]) (by rw [c_sheet, if_neg hb4, if_pos (Or.inr (Or.inl hb14)), if_neg hb8, if_neg hb41])
      · refine A_iload_n (pc := 17) (i := 2) dX11_sheet_17 rfl rfl ?_
        refine A_bipush (pc := 18) (16) dX11_sheet_18 (by decide) ?_
        refine A_icmpeq (pc := 20) 36 dX11_sheet_20 (by decide) (fun hb20 => ?_) (fun hb20 => ?_)
        · refine A_iload_n (pc := 36) (i := 2) dX11_sheet_36 rfl rfl ?_
          refine A_ifeq (pc := 37) 52 dX11_sheet_37 (by decide) (fun hb37 => ?_) (fun hb37 => ?_)
          · exact absurd hb37 hb8
          · refine A_iload_n (pc := 40) (i := 3) dX11_sheet_40 rfl rfl ?_
            refine A_ifge (pc := 41) 52 dX11_sheet_41 (by decide) (fun hb41 => ?_) (fun hb41 => ?_)
            · refine A_iload_n (pc := 52) (i := 2) dX11_sheet_52 rfl rfl ?_
              refine A_ifeq (pc := 53) 69 dX11_sheet_53 (by decide) (fun hb53 => ?_) (fun hb53 => ?_)
              · exact absurd hb53 hb8
              · refine A_iload_n (pc := 56) (i := 3) dX11_sheet_56 rfl rfl ?_
                refine A_bipush (pc := 57) (40) dX11_sheet_57 (by decide) ?_
                refine A_icmple (pc := 59) 69 dX11_sheet_59 (by decide) (fun hb59 => ?_) (fun hb59 => ?_)
                · have hx := (sr_b_1 _).mp hb4
                  have hx4 : x.toNatClampNeg < 4 := Nat.lt_of_le_of_lt (nI_cl_le (n := 3) hx.1 hx.2 (by decide)) (by decide)
                  refine A_aload_n (pc := 69) (i := 0) dX11_sheet_69 rfl rfl ?_
                  refine A_getr (pc := 70) 5 fl_X11_31_11 hS.k1 rfl hS.w1_5 dX11_sheet_70 ?_
                  refine A_iload_n (pc := 73) (i := 1) dX11_sheet_73 rfl rfl ?_
                  refine A_top (nI_cl hx.1) ?_
                  refine A_aaldN (pc := 74) hS.k16 (by decide) (by decide) hx4 (by decide) (hS.w16 hx4) dX11_sheet_74 ?_
                  refine A_iload_n (pc := 75) (i := 2) dX11_sheet_75 rfl rfl ?_
                  refine A_iload_n (pc := 76) (i := 2) dX11_sheet_76 rfl rfl ?_
                  refine A_ifne (pc := 77) 84 dX11_sheet_77 (by decide) (fun hb77 => ?_) (fun hb77 => ?_)
                  · refine A_iload_n (pc := 84) (i := 3) dX11_sheet_84 rfl rfl ?_
                    refine A_top (nI_cl hb41) ?_
                    refine A_callV0 (pc := 85) cv_X11_289 (s_rwbegin l _ _ 40 z.toNatClampNeg (hS.k17 hx4) (hS.w17 hx4) (hS.k18 hx4) (by decide) y (nI_cl_le hb41 hb59 (by decide))) (hS.k17 hx4) rfl rfl rfl rfl (Nat.le_of_ble_eq_true rfl) ⟨(Nat.le_of_ble_eq_true rfl), (Nat.le_of_ble_eq_true rfl)⟩ ⟨Nat.zero_le _, Nat.zero_le _⟩ dX11_sheet_85 ?_
                    refine A_iconst (pc := 88) (1) dX11_sheet_88 (by decide) ?_
                    exact A_iretE (pc := 89) dX11_sheet_89 rfl (Nat.zero_le _) (Nat.zero_le _) (by rw [c_sheet, if_neg hb4, if_pos (Or.inr (Or.inr (Or.inl hb20))), if_neg hb8, if_pos hb41, if_pos hb59]) (by rw [c_sheet, if_neg hb4, if_pos (Or.inr (Or.inr (Or.inl hb20))), if_neg hb8, if_pos hb41, if_pos hb59]; rfl)
                  · exact absurd hb77 hb8
                · refine A_aload_n (pc := 62) (i := 0) dX11_sheet_62 rfl rfl ?_
                  refine A_ldc (pc := 63) (List.mem_cons_of_mem _ kc_X11_60) dX11_sheet_63 ?_
                  refine A_callV1 (pc := 65) cv_X11_61 (s_err1 l hS) hS.k1 rfl rfl rfl rfl (Nat.le_of_ble_eq_true rfl) ⟨(Nat.le_of_ble_eq_true rfl), (Nat.le_of_ble_eq_true rfl)⟩ ⟨Nat.zero_le _, Nat.zero_le _⟩ dX11_sheet_65 ?_
                  exact A_iretE (pc := 68) dX11_sheet_68 rfl (Nat.zero_le _) (Nat.zero_le _) (by rw [c_sheet, if_neg hb4, if_pos (Or.inr (Or.inr (Or.inl hb20))), if_neg hb8, if_pos hb41, if_neg hb59]) (by rw [c_sheet, if_neg hb4, if_pos (Or.inr (Or.inr (Or.inl hb20))), if_neg hb8, if_pos hb41, if_neg hb59])
            · refine A_aload_n (pc := 44) (i := 0) dX11_sheet_44 rfl rfl ?_
              refine A_ldcw (pc := 45) (List.mem_cons_of_mem _ kc_X11_288) dX11_sheet_45 ?_
              refine A_callV1 (pc := 48) cv_X11_61 (s_err3 l hS) hS.k1 rfl rfl rfl rfl (Nat.le_of_ble_eq_true rfl) ⟨(Nat.le_of_ble_eq_true rfl), (Nat.le_of_ble_eq_true rfl)⟩ ⟨Nat.zero_le _, Nat.zero_le _⟩ dX11_sheet_48 ?_
              exact A_iretE (pc := 51) dX11_sheet_51 rfl (Nat.zero_le _) (Nat.zero_le _) (by rw [c_sheet, if_neg hb4, if_pos (Or.inr (Or.inr (Or.inl hb20))), if_neg hb8, if_neg hb41]) (by rw [c_sheet, if_neg hb4, if_pos (Or.inr (Or.inr (Or.inl hb20))), if_neg hb8, if_neg hb41])
        · refine A_iload_n (pc := 23) (i := 2) dX11_sheet_23 rfl rfl ?_
          refine A_bipush (pc := 24) (32) dX11_sheet_24 (by decide) ?_
          refine A_icmpeq (pc := 26) 36 dX11_sheet_26 (by decide) (fun hb26 => ?_) (fun hb26 => ?_)
          · refine A_iload_n (pc := 36) (i := 2) dX11_sheet_36 rfl rfl ?_
            refine A_ifeq (pc := 37) 52 dX11_sheet_37 (by decide) (fun hb37 => ?_) (fun hb37 => ?_)
            · exact absurd hb37 hb8
            · refine A_iload_n (pc := 40) (i := 3) dX11_sheet_40 rfl rfl ?_
              refine A_ifge (pc := 41) 52 dX11_sheet_41 (by decide) (fun hb41 => ?_) (fun hb41 => ?_)
              · refine A_iload_n (pc := 52) (i := 2) dX11_sheet_52 rfl rfl ?_
                refine A_ifeq (pc := 53) 69 dX11_sheet_53 (by decide) (fun hb53 => ?_) (fun hb53 => ?_)
                · exact absurd hb53 hb8
                · refine A_iload_n (pc := 56) (i := 3) dX11_sheet_56 rfl rfl ?_
                  refine A_bipush (pc := 57) (40) dX11_sheet_57 (by decide) ?_
                  refine A_icmple (pc := 59) 69 dX11_sheet_59 (by decide) (fun hb59 => ?_) (fun hb59 => ?_)
                  · have hx := (sr_b_1 _).mp hb4
                    have hx4 : x.toNatClampNeg < 4 := Nat.lt_of_le_of_lt (nI_cl_le (n := 3) hx.1 hx.2 (by decide)) (by decide)
                    refine A_aload_n (pc := 69) (i := 0) dX11_sheet_69 rfl rfl ?_
                    refine A_getr (pc := 70) 5 fl_X11_31_11 hS.k1 rfl hS.w1_5 dX11_sheet_70 ?_
                    refine A_iload_n (pc := 73) (i := 1) dX11_sheet_73 rfl rfl ?_
                    refine A_top (nI_cl hx.1) ?_
                    refine A_aaldN (pc := 74) hS.k16 (by decide) (by decide) hx4 (by decide) (hS.w16 hx4) dX11_sheet_74 ?_
                    refine A_iload_n (pc := 75) (i := 2) dX11_sheet_75 rfl rfl ?_
                    refine A_iload_n (pc := 76) (i := 2) dX11_sheet_76 rfl rfl ?_
                    refine A_ifne (pc := 77) 84 dX11_sheet_77 (by decide) (fun hb77 => ?_) (fun hb77 => ?_)
                    · refine A_iload_n (pc := 84) (i := 3) dX11_sheet_84 rfl rfl ?_
                      refine A_top (nI_cl hb41) ?_
                      refine A_callV0 (pc := 85) cv_X11_289 (s_rwbegin l _ _ 40 z.toNatClampNeg (hS.k17 hx4) (hS.w17 hx4) (hS.k18 hx4) (by decide) y (nI_cl_le hb41 hb59 (by decide))) (hS.k17 hx4) rfl rfl rfl rfl (Nat.le_of_ble_eq_true rfl) ⟨(Nat.le_of_ble_eq_true rfl), (Nat.le_of_ble_eq_true rfl)⟩ ⟨Nat.zero_le _, Nat.zero_le _⟩ dX11_sheet_85 ?_
                      refine A_iconst (pc := 88) (1) dX11_sheet_88 (by decide) ?_
                      exact A_iretE (pc := 89) dX11_sheet_89 rfl (Nat.zero_le _) (Nat.zero_le _) (by rw [c_sheet, if_neg hb4, if_pos (Or.inr (Or.inr (Or.inr hb26))), if_neg hb8, if_pos hb41, if_pos hb59]) (by rw [c_sheet, if_neg hb4, if_pos (Or.inr (Or.inr (Or.inr hb26))), if_neg hb8, if_pos hb41, if_pos hb59]; rfl)
                    · exact absurd hb77 hb8
                  · refine A_aload_n (pc := 62) (i := 0) dX11_sheet_62 rfl rfl ?_
                    refine A_ldc (pc := 63) (List.mem_cons_of_mem _ kc_X11_60) dX11_sheet_63 ?_
                    refine A_callV1 (pc := 65) cv_X11_61 (s_err1 l hS) hS.k1 rfl rfl rfl rfl (Nat.le_of_ble_eq_true rfl) ⟨(Nat.le_of_ble_eq_true rfl), (Nat.le_of_ble_eq_true rfl)⟩ ⟨Nat.zero_le _, Nat.zero_le _⟩ dX11_sheet_65 ?_
                    exact A_iretE (pc := 68) dX11_sheet_68 rfl (Nat.zero_le _) (Nat.zero_le _) (by rw [c_sheet, if_neg hb4, if_pos (Or.inr (Or.inr (Or.inr hb26))), if_neg hb8, if_pos hb41, if_neg hb59]) (by rw [c_sheet, if_neg hb4, if_pos (Or.inr (Or.inr (Or.inr hb26))), if_neg hb8, if_pos hb41, if_neg hb59])
              · refine A_aload_n (pc := 44) (i := 0) dX11_sheet_44 rfl rfl ?_
                refine A_ldcw (pc := 45) (List.mem_cons_of_mem _ kc_X11_288) dX11_sheet_45 ?_
                refine A_callV1 (pc := 48) cv_X11_61 (s_err3 l hS) hS.k1 rfl rfl rfl rfl (Nat.le_of_ble_eq_true rfl) ⟨(Nat.le_of_ble_eq_true rfl), (Nat.le_of_ble_eq_true rfl)⟩ ⟨Nat.zero_le _, Nat.zero_le _⟩ dX11_sheet_48 ?_
                exact A_iretE (pc := 51) dX11_sheet_51 rfl (Nat.zero_le _) (Nat.zero_le _) (by rw [c_sheet, if_neg hb4, if_pos (Or.inr (Or.inr (Or.inr hb26))), if_neg hb8, if_neg hb41]) (by rw [c_sheet, if_neg hb4, if_pos (Or.inr (Or.inr (Or.inr hb26))), if_neg hb8, if_neg hb41])
          · refine A_aload_n (pc := 29) (i := 0) dX11_sheet_29 rfl rfl ?_
            refine A_ldc (pc := 30) (List.mem_cons_of_mem _ kc_X11_60) dX11_sheet_30 ?_
            refine A_callV1 (pc := 32) cv_X11_61 (s_err1 l hS) hS.k1 rfl rfl rfl rfl (Nat.le_of_ble_eq_true rfl) ⟨(Nat.le_of_ble_eq_true rfl), (Nat.le_of_ble_eq_true rfl)⟩ ⟨Nat.zero_le _, Nat.zero_le _⟩ dX11_sheet_32 ?_
            exact A_iretE (pc := 35) dX11_sheet_35 rfl (Nat.zero_le _) (Nat.zero_le _) (by rw [c_sheet, if_neg hb4, if_neg (fun h => h.elim hb8 (fun h => h.elim hb14 (fun h => h.elim hb20 hb26)))]) (by rw [c_sheet, if_neg hb4, if_neg (fun h => h.elim hb8 (fun h => h.elim hb14 (fun h => h.elim hb20 hb26)))])
/-- numbers of a sheet become 0 -/
def sh_z (j : Nat) (w : am_iv) (k : Nat) : am_iv := fun n q => if n = (31, 19, 0) ∧ 40 * j ≤ q ∧ q < 40 * j + k then 0 else w n q
theorem sh_z0 (j : Nat) (w : am_iv) : sh_z j w 0 = w := by
  funext n q
  unfold sh_z
  rw [if_neg (by omega)]
theorem sh_zs (j : Nat) (w : am_iv) (k : Nat) : am_ui (sh_z j w k) (31, 19, 0) (40 * j + k) 0 = sh_z j w (k + 1) := by
  funext n q
  simp only [sh_z, am_ui]
  by_cases e : n = (31, 19, 0)
  · by_cases e2 : q = 40 * j + k
    · rw [if_pos ⟨e, e2⟩, if_pos ⟨e, by omega, by omega⟩]
    · rw [if_neg (fun h => e2 h.2)]
      by_cases e3 : 40 * j ≤ q ∧ q < 40 * j + k
      · rw [if_pos ⟨e, e3⟩, if_pos ⟨e, e3.1, by omega⟩]
      · rw [if_neg (fun h => e3 h.2), if_neg (fun h => e3 ⟨h.2.1, by omega⟩)]
  · rw [if_neg (fun h => e h.1), if_neg (fun h => e h.1), if_neg (fun h => e h.1)]
theorem rx_nxk (x : Int32) (hx : 0 ≤ x) (k : Nat) : (40 : Int32) * x + nI k = nI (40 * x.toNatClampNeg + k) := by
  have e := nI_cl hx
  generalize x.toNatClampNeg = j at e
  subst e
  exact rx_no j k
set_option maxRecDepth 20000 in
theorem shr_loop (l : Launch) {kd : am_kd} {rv : am_rv} (hR : shr kd rv) (x y z : Int32) (hx0 : 0 ≤ x) (hx4 : x.toNatClampNeg < 4) (w : am_iv) : ∀ j, j ≤ 40 → am_W l mX12_sheet (am_rm 2 0 0) (am_ret (some (am_I 1)) kd rv (sh_z x.toNatClampNeg w 40)) 90 [some (am_P (30, 0, 0)), some (am_I x), some (am_I y), some (am_I z), some (am_I (nI j))] [] kd rv (sh_z x.toNatClampNeg w j) 0 0 := by
  refine am_for _ 40 ?_ (fun j hj ih => ?_)
  · refine A_iload (pc := 90) (i := 4) dX12_sheet_90 rfl ?_
    refine A_bipush (pc := 92) (40) dX12_sheet_92 (by decide) ?_
    refine A_icmpge (pc := 94) 116 dX12_sheet_94 (by decide) (fun hb94 => ?_) (fun hb94 => ?_)
    · refine A_iconst (pc := 116) (1) dX12_sheet_116 (by decide) ?_
      exact A_iretE (pc := 117) dX12_sheet_117 rfl (Nat.zero_le _) (Nat.zero_le _) (rfl) (rfl)
    · exact absurd (show nI 40 ≤ nI 40 by decide) hb94
  · refine A_iload (pc := 90) (i := 4) dX12_sheet_90 rfl ?_
    refine A_bipush (pc := 92) (40) dX12_sheet_92 (by decide) ?_
    refine A_icmpge (pc := 94) 116 dX12_sheet_94 (by decide) (fun hb94 => ?_) (fun hb94 => ?_)
    · exact absurd hb94 (nI_ge (b := 40) hj (by decide))
    · refine A_aload_n (pc := 97) (i := 0) dX12_sheet_97 rfl rfl ?_
      refine A_getr (pc := 98) 19 fl_X12_40_12 hR.1 rfl hR.w19 dX12_sheet_98 ?_
      refine A_bipush (pc := 101) (40) dX12_sheet_101 (by decide) ?_
      refine A_iload_n (pc := 103) (i := 1) dX12_sheet_103 rfl rfl ?_
      refine A_imul (pc := 104) dX12_sheet_104 ?_
      refine A_iload (pc := 105) (i := 4) dX12_sheet_105 rfl ?_
      refine A_iadd (pc := 107) dX12_sheet_107 ?_
      refine A_top (rx_nxk x hx0 j) ?_
      refine A_iconst (pc := 108) (0) dX12_sheet_108 (by decide) ?_
      refine A_iastN (pc := 109) hR.k19 (show 40 * x.toNatClampNeg + j < 160 by omega) (by decide) dX12_sheet_109 ?_
      refine A_heap (sh_zs x.toNatClampNeg w j) ?_
      refine A_inc4 (pc := 110) (nI (j + 1)) dX12_sheet_110 (nI_1 j) (Nat.le_of_ble_eq_true rfl) rfl ?_
      refine A_goto (pc := 113) 90 dX12_sheet_113 (by decide) ?_
      exact ih
noncomputable def d_sheet (x y z : Int32) (iv : am_iv) : Int32 × am_iv := if sr_b (0 ≤ x ∧ x ≤ 3) = 0 then (-1000000001, rx_find 1 iv) else if y = 0 ∨ y = 8 ∨ y = 16 ∨ y = 32 then (if y = 0 then (1, sh_z x.toNatClampNeg (am_ui (am_ui iv (31, 17, 0) x.toNatClampNeg y) (31, 18, 0) x.toNatClampNeg 0) 40) else if 0 ≤ z then (if z ≤ 40 then (1, sh_z x.toNatClampNeg (am_ui (am_ui iv (31, 17, 0) x.toNatClampNeg y) (31, 18, 0) x.toNatClampNeg z) 40) else (-1000000001, rx_find 1 iv)) else (-1000000003, rx_find 3 iv)) else (-1000000001, rx_find 1 iv)
set_option maxRecDepth 20000 in
theorem q_sheet (l : Launch) {kd : am_kd} {rv : am_rv} {iv : am_iv} (hR : shr kd rv) (x y z : Int32) : am_Met l mX12_sheet (am_rm 2 0 0) [am_P (30, 0, 0), am_I x, am_I y, am_I z] kd rv iv (am_ret (some (am_I (d_sheet x y z iv).1)) kd rv (d_sheet x y z iv).2) := by
  refine am_Met.of (by decide) (Nat.le_of_ble_eq_true rfl) rfl ?_
  refine A_iload_n (pc := 0) (i := 1) dX12_sheet_0 rfl rfl ?_
  refine A_callS1 (pc := 1) cs_X12_267 (r_isSheet l _) rfl rfl (Nat.le_of_ble_eq_true rfl) ⟨(Nat.le_of_ble_eq_true rfl), (Nat.le_of_ble_eq_true rfl)⟩ ⟨Nat.zero_le _, Nat.zero_le _⟩ dX12_sheet_1 ?_
  refine A_ifeq (pc := 4) 29 dX12_sheet_4 (by decide) (fun hb4 => ?_) (fun hb4 => ?_)
  · refine A_aload_n (pc := 29) (i := 0) dX12_sheet_29 rfl rfl ?_
    refine A_iconst (pc := 30) (1) dX12_sheet_30 (by decide) ?_
    refine A_callV1 (pc := 31) cv_X12_65 (r_fnd1 l hR) hR.1 rfl rfl rfl rfl (Nat.le_of_ble_eq_true rfl) ⟨(Nat.le_of_ble_eq_true rfl), (Nat.le_of_ble_eq_true rfl)⟩ ⟨Nat.zero_le _, Nat.zero_le _⟩ dX12_sheet_31 ?_
    exact A_iretE (pc := 34) dX12_sheet_34 rfl (Nat.zero_le _) (Nat.zero_le _) (by rw [d_sheet, if_pos hb4]) (by rw [d_sheet, if_pos hb4])
  · refine A_iload_n (pc := 7) (i := 2) dX12_sheet_7 rfl rfl ?_
    refine A_ifeq (pc := 8) 35 dX12_sheet_8 (by decide) (fun hb8 => ?_) (fun hb8 => ?_)
    · refine A_iload_n (pc := 35) (i := 2) dX12_sheet_35 rfl rfl ?_
      refine A_ifeq (pc := 36) 49 dX12_sheet_36 (by decide) (fun hb36 => ?_) (fun hb36 => ?_)
      · refine A_iload_n (pc := 49) (i := 2) dX12_sheet_49 rfl rfl ?_
        refine A_ifeq (pc := 50) 65 dX12_sheet_50 (by decide) (fun hb50 => ?_) (fun hb50 => ?_)
        · have hx := (sr_b_1 _).mp hb4
          have hx4 : x.toNatClampNeg < 4 := Nat.lt_of_le_of_lt (nI_cl_le (n := 3) hx.1 hx.2 (by decide)) (by decide)
          refine A_aload_n (pc := 65) (i := 0) dX12_sheet_65 rfl rfl ?_
          refine A_getr (pc := 66) 17 fl_X12_34_12 hR.1 rfl hR.w17 dX12_sheet_66 ?_
          refine A_iload_n (pc := 69) (i := 1) dX12_sheet_69 rfl rfl ?_
          refine A_top (nI_cl hx.1) ?_
          refine A_iload_n (pc := 70) (i := 2) dX12_sheet_70 rfl rfl ?_
          refine A_iastN (pc := 71) hR.k17 hx4 (by decide) dX12_sheet_71 ?_
          refine A_aload_n (pc := 72) (i := 0) dX12_sheet_72 rfl rfl ?_
          refine A_getr (pc := 73) 18 fl_X12_37_12 hR.1 rfl hR.w18 dX12_sheet_73 ?_
          refine A_iload_n (pc := 76) (i := 1) dX12_sheet_76 rfl rfl ?_
          refine A_top (nI_cl hx.1) ?_
          refine A_iload_n (pc := 77) (i := 2) dX12_sheet_77 rfl rfl ?_
          refine A_ifne (pc := 78) 85 dX12_sheet_78 (by decide) (fun hb78 => ?_) (fun hb78 => ?_)
          · exact absurd hb8 hb78
          · refine A_iconst (pc := 81) (0) dX12_sheet_81 (by decide) ?_
            refine A_goto (pc := 82) 86 dX12_sheet_82 (by decide) ?_
            refine A_iastN (pc := 86) hR.k18 hx4 (by decide) dX12_sheet_86 ?_
            refine A_iconst (pc := 87) (0) dX12_sheet_87 (by decide) ?_
            refine A_ist4 (pc := 88) dX12_sheet_88 (Nat.le_of_ble_eq_true rfl) rfl ?_
            rw [show (d_sheet x y z iv) = (1, sh_z x.toNatClampNeg (am_ui (am_ui iv (31, 17, 0) x.toNatClampNeg y) (31, 18, 0) x.toNatClampNeg 0) 40) from by rw [d_sheet, if_neg hb4, if_pos (Or.inl hb8), if_pos hb8]]
            have h := shr_loop l hR x y z hx.1 hx4 (am_ui (am_ui iv (31, 17, 0) x.toNatClampNeg y) (31, 18, 0) x.toNatClampNeg 0) 0 (Nat.zero_le _)
            rw [sh_z0] at h
            exact h
        · exact absurd hb8 hb50
      · exact absurd hb8 hb36
    · refine A_iload_n (pc := 11) (i := 2) dX12_sheet_11 rfl rfl ?_
      refine A_bipush (pc := 12) (8) dX12_sheet_12 (by decide) ?_
      refine A_icmpeq (pc := 14) 35 dX12_sheet_14 (by decide) (fun hb14 => ?_) (fun hb14 => ?_)
      · refine A_iload_n (pc := 35) (i := 2) dX12_sheet_35 rfl rfl ?_
        refine A_ifeq (pc := 36) 49 dX12_sheet_36 (by decide) (fun hb36 => ?_) (fun hb36 => ?_)
        · exact absurd hb36 hb8
        · refine A_iload_n (pc := 39) (i := 3) dX12_sheet_39 rfl rfl ?_
          refine A_ifge (pc := 40) 49 dX12_sheet_40 (by decide) (fun hb40 => ?_) (fun hb40 => ?_)
          · refine A_iload_n (pc := 49) (i := 2) dX12_sheet_49 rfl rfl ?_
            refine A_ifeq (pc := 50) 65 dX12_sheet_50 (by decide) (fun hb50 => ?_) (fun hb50 => ?_)
            · exact absurd hb50 hb8
            · refine A_iload_n (pc := 53) (i := 3) dX12_sheet_53 rfl rfl ?_
              refine A_bipush (pc := 54) (40) dX12_sheet_54 (by decide) ?_
              refine A_icmple (pc := 56) 65 dX12_sheet_56 (by decide) (fun hb56 => ?_) (fun hb56 => ?_)
              · have hx := (sr_b_1 _).mp hb4
                have hx4 : x.toNatClampNeg < 4 := Nat.lt_of_le_of_lt (nI_cl_le (n := 3) hx.1 hx.2 (by decide)) (by decide)
                refine A_aload_n (pc := 65) (i := 0) dX12_sheet_65 rfl rfl ?_
                refine A_getr (pc := 66) 17 fl_X12_34_12 hR.1 rfl hR.w17 dX12_sheet_66 ?_
                refine A_iload_n (pc := 69) (i := 1) dX12_sheet_69 rfl rfl ?_
                refine A_top (nI_cl hx.1) ?_
                refine A_iload_n (pc := 70) (i := 2) dX12_sheet_70 rfl rfl ?_
                refine A_iastN (pc := 71) hR.k17 hx4 (by decide) dX12_sheet_71 ?_
                refine A_aload_n (pc := 72) (i := 0) dX12_sheet_72 rfl rfl ?_
                refine A_getr (pc := 73) 18 fl_X12_37_12 hR.1 rfl hR.w18 dX12_sheet_73 ?_
                refine A_iload_n (pc := 76) (i := 1) dX12_sheet_76 rfl rfl ?_
                refine A_top (nI_cl hx.1) ?_
                refine A_iload_n (pc := 77) (i := 2) dX12_sheet_77 rfl rfl ?_
                refine A_ifne (pc := 78) 85 dX12_sheet_78 (by decide) (fun hb78 => ?_) (fun hb78 => ?_)
                · refine A_iload_n (pc := 85) (i := 3) dX12_sheet_85 rfl rfl ?_
                  refine A_iastN (pc := 86) hR.k18 hx4 (by decide) dX12_sheet_86 ?_
                  refine A_iconst (pc := 87) (0) dX12_sheet_87 (by decide) ?_
                  refine A_ist4 (pc := 88) dX12_sheet_88 (Nat.le_of_ble_eq_true rfl) rfl ?_
                  rw [show (d_sheet x y z iv) = (1, sh_z x.toNatClampNeg (am_ui (am_ui iv (31, 17, 0) x.toNatClampNeg y) (31, 18, 0) x.toNatClampNeg z) 40) from by rw [d_sheet, if_neg hb4, if_pos (Or.inr (Or.inl hb14)), if_neg hb8, if_pos hb40, if_pos hb56]]
                  have h := shr_loop l hR x y z hx.1 hx4 (am_ui (am_ui iv (31, 17, 0) x.toNatClampNeg y) (31, 18, 0) x.toNatClampNeg z) 0 (Nat.zero_le _)
                  rw [sh_z0] at h
                  exact h
                · exact absurd hb78 hb8
              · refine A_aload_n (pc := 59) (i := 0) dX12_sheet_59 rfl rfl ?_
                refine A_iconst (pc := 60) (1) dX12_sheet_60 (by decide) ?_
                refine A_callV1 (pc := 61) cv_X12_65 (r_fnd1 l hR) hR.1 rfl rfl rfl rfl (Nat.le_of_ble_eq_true rfl) ⟨(Nat.le_of_ble_eq_true rfl), (Nat.le_of_ble_eq_true rfl)⟩ ⟨Nat.zero_le _, Nat.zero_le _⟩ dX12_sheet_61 ?_
                exact A_iretE (pc := 64) dX12_sheet_64 rfl (Nat.zero_le _) (Nat.zero_le _) (by rw [d_sheet, if_neg hb4, if_pos (Or.inr (Or.inl hb14)), if_neg hb8, if_pos hb40, if_neg hb56]) (by rw [d_sheet, if_neg hb4, if_pos (Or.inr (Or.inl hb14)), if_neg hb8, if_pos hb40, if_neg hb56])
          · refine A_aload_n (pc := 43) (i := 0) dX12_sheet_43 rfl rfl ?_
            refine A_iconst (pc := 44) (3) dX12_sheet_44 (by decide) ?_
            refine A_callV1 (pc := 45) cv_X12_65 (r_fnd3 l hR) hR.1 rfl rfl rfl rfl (Nat.le_of_ble_eq_true rfl) ⟨(Nat.le_of_ble_eq_true rfl), (Nat.le_of_ble_eq_true rfl)⟩ ⟨Nat.zero_le _, Nat.zero_le _⟩ dX12_sheet_45 ?_
            exact A_iretE (pc := 48) dX12_sheet_48 rfl (Nat.zero_le _) (Nat.zero_le _) (by rw [d_sheet, if_neg hb4, if_pos (Or.inr (Or.inl hb14)), if_neg hb8, if_neg hb40]) (by rw [d_sheet, if_neg hb4, if_pos (Or.inr (Or.inl hb14)), if_neg hb8, if_neg hb40])
      · refine A_iload_n (pc := 17) (i := 2) dX12_sheet_17 rfl rfl ?_
        refine A_bipush (pc := 18) (16) dX12_sheet_18 (by decide) ?_
        refine A_icmpeq (pc := 20) 35 dX12_sheet_20 (by decide) (fun hb20 => ?_) (fun hb20 => ?_)
        · refine A_iload_n (pc := 35) (i := 2) dX12_sheet_35 rfl rfl ?_
          refine A_ifeq (pc := 36) 49 dX12_sheet_36 (by decide) (fun hb36 => ?_) (fun hb36 => ?_)
          · exact absurd hb36 hb8
          · refine A_iload_n (pc := 39) (i := 3) dX12_sheet_39 rfl rfl ?_
            refine A_ifge (pc := 40) 49 dX12_sheet_40 (by decide) (fun hb40 => ?_) (fun hb40 => ?_)
            · refine A_iload_n (pc := 49) (i := 2) dX12_sheet_49 rfl rfl ?_
              refine A_ifeq (pc := 50) 65 dX12_sheet_50 (by decide) (fun hb50 => ?_) (fun hb50 => ?_)
              · exact absurd hb50 hb8
              · refine A_iload_n (pc := 53) (i := 3) dX12_sheet_53 rfl rfl ?_
                refine A_bipush (pc := 54) (40) dX12_sheet_54 (by decide) ?_
                refine A_icmple (pc := 56) 65 dX12_sheet_56 (by decide) (fun hb56 => ?_) (fun hb56 => ?_)
                · have hx := (sr_b_1 _).mp hb4
                  have hx4 : x.toNatClampNeg < 4 := Nat.lt_of_le_of_lt (nI_cl_le (n := 3) hx.1 hx.2 (by decide)) (by decide)
                  refine A_aload_n (pc := 65) (i := 0) dX12_sheet_65 rfl rfl ?_
                  refine A_getr (pc := 66) 17 fl_X12_34_12 hR.1 rfl hR.w17 dX12_sheet_66 ?_
                  refine A_iload_n (pc := 69) (i := 1) dX12_sheet_69 rfl rfl ?_
                  refine A_top (nI_cl hx.1) ?_
                  refine A_iload_n (pc := 70) (i := 2) dX12_sheet_70 rfl rfl ?_
                  refine A_iastN (pc := 71) hR.k17 hx4 (by decide) dX12_sheet_71 ?_
                  refine A_aload_n (pc := 72) (i := 0) dX12_sheet_72 rfl rfl ?_
                  refine A_getr (pc := 73) 18 fl_X12_37_12 hR.1 rfl hR.w18 dX12_sheet_73 ?_
                  refine A_iload_n (pc := 76) (i := 1) dX12_sheet_76 rfl rfl ?_
                  refine A_top (nI_cl hx.1) ?_
                  refine A_iload_n (pc := 77) (i := 2) dX12_sheet_77 rfl rfl ?_
                  refine A_ifne (pc := 78) 85 dX12_sheet_78 (by decide) (fun hb78 => ?_) (fun hb78 => ?_)
                  · refine A_iload_n (pc := 85) (i := 3) dX12_sheet_85 rfl rfl ?_
                    refine A_iastN (pc := 86) hR.k18 hx4 (by decide) dX12_sheet_86 ?_
                    refine A_iconst (pc := 87) (0) dX12_sheet_87 (by decide) ?_
                    refine A_ist4 (pc := 88) dX12_sheet_88 (Nat.le_of_ble_eq_true rfl) rfl ?_
                    rw [show (d_sheet x y z iv) = (1, sh_z x.toNatClampNeg (am_ui (am_ui iv (31, 17, 0) x.toNatClampNeg y) (31, 18, 0) x.toNatClampNeg z) 40) from by rw [d_sheet, if_neg hb4, if_pos (Or.inr (Or.inr (Or.inl hb20))), if_neg hb8, if_pos hb40, if_pos hb56]]
                    have h := shr_loop l hR x y z hx.1 hx4 (am_ui (am_ui iv (31, 17, 0) x.toNatClampNeg y) (31, 18, 0) x.toNatClampNeg z) 0 (Nat.zero_le _)
                    rw [sh_z0] at h
                    exact h
                  · exact absurd hb78 hb8
                · refine A_aload_n (pc := 59) (i := 0) dX12_sheet_59 rfl rfl ?_
                  refine A_iconst (pc := 60) (1) dX12_sheet_60 (by decide) ?_
                  refine A_callV1 (pc := 61) cv_X12_65 (r_fnd1 l hR) hR.1 rfl rfl rfl rfl (Nat.le_of_ble_eq_true rfl) ⟨(Nat.le_of_ble_eq_true rfl), (Nat.le_of_ble_eq_true rfl)⟩ ⟨Nat.zero_le _, Nat.zero_le _⟩ dX12_sheet_61 ?_
                  exact A_iretE (pc := 64) dX12_sheet_64 rfl (Nat.zero_le _) (Nat.zero_le _) (by rw [d_sheet, if_neg hb4, if_pos (Or.inr (Or.inr (Or.inl hb20))), if_neg hb8, if_pos hb40, if_neg hb56]) (by rw [d_sheet, if_neg hb4, if_pos (Or.inr (Or.inr (Or.inl hb20))), if_neg hb8, if_pos hb40, if_neg hb56])
            · refine A_aload_n (pc := 43) (i := 0) dX12_sheet_43 rfl rfl ?_
              refine A_iconst (pc := 44) (3) dX12_sheet_44 (by decide) ?_
              refine A_callV1 (pc := 45) cv_X12_65 (r_fnd3 l hR) hR.1 rfl rfl rfl rfl (Nat.le_of_ble_eq_true rfl) ⟨(Nat.le_of_ble_eq_true rfl), (Nat.le_of_ble_eq_true rfl)⟩ ⟨Nat.zero_le _, Nat.zero_le _⟩ dX12_sheet_45 ?_
              exact A_iretE (pc := 48) dX12_sheet_48 rfl (Nat.zero_le _) (Nat.zero_le _) (by rw [d_sheet, if_neg hb4, if_pos (Or.inr (Or.inr (Or.inl hb20))), if_neg hb8, if_neg hb40]) (by rw [d_sheet, if_neg hb4, if_pos (Or.inr (Or.inr (Or.inl hb20))), if_neg hb8, if_neg hb40])
        · refine A_iload_n (pc := 23) (i := 2) dX12_sheet_23 rfl rfl ?_
          refine A_bipush (pc := 24) (32) dX12_sheet_24 (by decide) ?_
          refine A_icmpeq (pc := 26) 35 dX12_sheet_26 (by decide) (fun hb26 => ?_) (fun hb26 => ?_)
          · refine A_iload_n (pc := 35) (i := 2) dX12_sheet_35 rfl rfl ?_
            refine A_ifeq (pc := 36) 49 dX12_sheet_36 (by decide) (fun hb36 => ?_) (fun hb36 => ?_)
            · exact absurd hb36 hb8
            · refine A_iload_n (pc := 39) (i := 3) dX12_sheet_39 rfl rfl ?_
              refine A_ifge (pc := 40) 49 dX12_sheet_40 (by decide) (fun hb40 => ?_) (fun hb40 => ?_)
              · refine A_iload_n (pc := 49) (i := 2) dX12_sheet_49 rfl rfl ?_
                refine A_ifeq (pc := 50) 65 dX12_sheet_50 (by decide) (fun hb50 => ?_) (fun hb50 => ?_)
                · exact absurd hb50 hb8
                · refine A_iload_n (pc := 53) (i := 3) dX12_sheet_53 rfl rfl ?_
                  refine A_bipush (pc := 54) (40) dX12_sheet_54 (by decide) ?_
                  refine A_icmple (pc := 56) 65 dX12_sheet_56 (by decide) (fun hb56 => ?_) (fun hb56 => ?_)
                  · have hx := (sr_b_1 _).mp hb4
                    have hx4 : x.toNatClampNeg < 4 := Nat.lt_of_le_of_lt (nI_cl_le (n := 3) hx.1 hx.2 (by decide)) (by decide)
                    refine A_aload_n (pc := 65) (i := 0) dX12_sheet_65 rfl rfl ?_
                    refine A_getr (pc := 66) 17 fl_X12_34_12 hR.1 rfl hR.w17 dX12_sheet_66 ?_
                    refine A_iload_n (pc := 69) (i := 1) dX12_sheet_69 rfl rfl ?_
                    refine A_top (nI_cl hx.1) ?_
                    refine A_iload_n (pc := 70) (i := 2) dX12_sheet_70 rfl rfl ?_
                    refine A_iastN (pc := 71) hR.k17 hx4 (by decide) dX12_sheet_71 ?_
                    refine A_aload_n (pc := 72) (i := 0) dX12_sheet_72 rfl rfl ?_
                    refine A_getr (pc := 73) 18 fl_X12_37_12 hR.1 rfl hR.w18 dX12_sheet_73 ?_
                    refine A_iload_n (pc := 76) (i := 1) dX12_sheet_76 rfl rfl ?_
                    refine A_top (nI_cl hx.1) ?_
                    refine A_iload_n (pc := 77) (i := 2) dX12_sheet_77 rfl rfl ?_
                    refine A_ifne (pc := 78) 85 dX12_sheet_78 (by decide) (fun hb78 => ?_) (fun hb78 => ?_)
                    · refine A_iload_n (pc := 85) (i := 3) dX12_sheet_85 rfl rfl ?_
                      refine A_iastN (pc := 86) hR.k18 hx4 (by decide) dX12_sheet_86 ?_
                      refine A_iconst (pc := 87) (0) dX12_sheet_87 (by decide) ?_
                      refine A_ist4 (pc := 88) dX12_sheet_88 (Nat.le_of_ble_eq_true rfl) rfl ?_
                      rw [show (d_sheet x y z iv) = (1, sh_z x.toNatClampNeg (am_ui (am_ui iv (31, 17, 0) x.toNatClampNeg y) (31, 18, 0) x.toNatClampNeg z) 40) from by rw [d_sheet, if_neg hb4, if_pos (Or.inr (Or.inr (Or.inr hb26))), if_neg hb8, if_pos hb40, if_pos hb56]]
                      have h := shr_loop l hR x y z hx.1 hx4 (am_ui (am_ui iv (31, 17, 0) x.toNatClampNeg y) (31, 18, 0) x.toNatClampNeg z) 0 (Nat.zero_le _)
                      rw [sh_z0] at h
                      exact h
                    · exact absurd hb78 hb8
                  · refine A_aload_n (pc := 59) (i := 0) dX12_sheet_59 rfl rfl ?_
                    refine A_iconst (pc := 60) (1) dX12_sheet_60 (by decide) ?_
                    refine A_callV1 (pc := 61) cv_X12_65 (r_fnd1 l hR) hR.1 rfl rfl rfl rfl (Nat.le_of_ble_eq_true rfl) ⟨(Nat.le_of_ble_eq_true rfl), (Nat.le_of_ble_eq_true rfl)⟩ ⟨Nat.zero_le _, Nat.zero_le _⟩ dX12_sheet_61 ?_
                    exact A_iretE (pc := 64) dX12_sheet_64 rfl (Nat.zero_le _) (Nat.zero_le _) (by rw [d_sheet, if_neg hb4, if_pos (Or.inr (Or.inr (Or.inr hb26))), if_neg hb8, if_pos hb40, if_neg hb56]) (by rw [d_sheet, if_neg hb4, if_pos (Or.inr (Or.inr (Or.inr hb26))), if_neg hb8, if_pos hb40, if_neg hb56])
              · refine A_aload_n (pc := 43) (i := 0) dX12_sheet_43 rfl rfl ?_
                refine A_iconst (pc := 44) (3) dX12_sheet_44 (by decide) ?_
                refine A_callV1 (pc := 45) cv_X12_65 (r_fnd3 l hR) hR.1 rfl rfl rfl rfl (Nat.le_of_ble_eq_true rfl) ⟨(Nat.le_of_ble_eq_true rfl), (Nat.le_of_ble_eq_true rfl)⟩ ⟨Nat.zero_le _, Nat.zero_le _⟩ dX12_sheet_45 ?_
                exact A_iretE (pc := 48) dX12_sheet_48 rfl (Nat.zero_le _) (Nat.zero_le _) (by rw [d_sheet, if_neg hb4, if_pos (Or.inr (Or.inr (Or.inr hb26))), if_neg hb8, if_neg hb40]) (by rw [d_sheet, if_neg hb4, if_pos (Or.inr (Or.inr (Or.inr hb26))), if_neg hb8, if_neg hb40])
          · refine A_aload_n (pc := 29) (i := 0) dX12_sheet_29 rfl rfl ?_
            refine A_iconst (pc := 30) (1) dX12_sheet_30 (by decide) ?_
            refine A_callV1 (pc := 31) cv_X12_65 (r_fnd1 l hR) hR.1 rfl rfl rfl rfl (Nat.le_of_ble_eq_true rfl) ⟨(Nat.le_of_ble_eq_true rfl), (Nat.le_of_ble_eq_true rfl)⟩ ⟨Nat.zero_le _, Nat.zero_le _⟩ dX12_sheet_31 ?_
            exact A_iretE (pc := 34) dX12_sheet_34 rfl (Nat.zero_le _) (Nat.zero_le _) (by rw [d_sheet, if_neg hb4, if_neg (fun h => h.elim hb8 (fun h => h.elim hb14 (fun h => h.elim hb20 hb26)))]) (by rw [d_sheet, if_neg hb4, if_neg (fun h => h.elim hb8 (fun h => h.elim hb14 (fun h => h.elim hb20 hb26)))])
theorem std_ok {s : Nat} (hs : s ≤ 40) {i m : Int32} (h : 0 ≤ i ∧ 0 ≤ m ∧ i ≤ nI s ∧ m ≤ nI s - i) : i.toNatClampNeg + m.toNatClampNeg ≤ s := by
  obtain ⟨h0, h1, h2, h3⟩ := h
  have a := nI_cl_le h0 h2 (by omega)
  have ei := nI_cl h0
  have em := nI_cl h1
  generalize i.toNatClampNeg = p at a ei
  subst ei
  have e : nI s - nI p = nI (s - p) := by
    have : nI (s - p) + nI p = nI s := by rw [nI_add, show s - p + p = s by omega]
    rw [← this, Int32.add_sub_cancel]
  rw [e] at h3
  have b := nI_cl_le h1 h3 (by omega)
  omega
noncomputable def c_move (x y z v m : Int32) (iv : am_iv) : Int32 × am_iv := if sr_b (0 ≤ x ∧ x ≤ 3) = 0 then (-1000000001, er_heap 1 iv) else if sr_b (0 ≤ z ∧ z ≤ 3) = 0 then (-1000000001, er_heap 1 iv) else if sr_b (iv (17, x.toNatClampNeg, 0) 2 = 0) = 0 then (if sr_b (iv (17, z.toNatClampNeg, 0) 2 = 0) = 0 then (if iv (17, x.toNatClampNeg, 0) 2 = iv (17, z.toNatClampNeg, 0) 2 then (if sr_b (0 ≤ y ∧ 0 ≤ m ∧ y ≤ iv (17, x.toNatClampNeg, 0) 1 ∧ m ≤ iv (17, x.toNatClampNeg, 0) 1 - y) = 0 then (-1000000001, er_heap 1 iv) else if sr_b (0 ≤ v ∧ 0 ≤ m ∧ v ≤ iv (17, z.toNatClampNeg, 0) 1 ∧ m ≤ iv (17, z.toNatClampNeg, 0) 1 - v) = 0 then (-1000000001, er_heap 1 iv) else (m, am_cpy iv (18, x.toNatClampNeg, 0) (18, z.toNatClampNeg, 0) y.toNatClampNeg v.toNatClampNeg m.toNatClampNeg)) else (-1000000005, er_heap 5 iv)) else (-1000000002, er_heap 2 iv)) else (-1000000002, er_heap 2 iv)
set_option maxRecDepth 20000 in
theorem p_move (l : Launch) {kd : am_kd} {rv : am_rv} {iv : am_iv} (hS : sh kd rv) (x y z v m : Int32) (szf : Nat → Nat) (hsz : ∀ s, s < 4 → iv (17, s, 0) 1 = nI (szf s) ∧ szf s ≤ 40) : am_Met l mX11_move (am_rm 3 0 0) [am_P (1, 0, 0), am_I x, am_I y, am_I z, am_I v, am_I m] kd rv iv (am_ret (some (am_I (c_move x y z v m iv).1)) kd rv (c_move x y z v m iv).2) := by
  refine am_Met.of (by decide) (Nat.le_of_ble_eq_true rfl) rfl ?_
  refine A_iload_n (pc := 0) (i := 1) dX11_move_0 rfl rfl ?_
  refine A_callS1 (pc := 1) cs_X11_285 (s_isSheet l _) rfl rfl (Nat.le_of_ble_eq_true rfl) ⟨(Nat.le_of_ble_eq_true rfl), (Nat.le_of_ble_eq_true rfl)⟩ ⟨Nat.zero_le _, Nat.zero_le _⟩ dX11_move_1 ?_
  refine A_ifeq (pc := 4) 14 dX11_move_4 (by decide) (fun hb4 => ?_) (fun hb4 => ?_)
  · refine A_aload_n (pc := 14) (i := 0) dX11_move_14 rfl rfl ?_
    refine A_ldc (pc := 15) (List.mem_cons_of_mem _ kc_X11_60) dX11_move_15 ?_
    refine A_callV1 (pc := 17) cv_X11_61 (s_err1 l hS) hS.k1 rfl rfl rfl rfl (Nat.le_of_ble_eq_true rfl) ⟨(Nat.le_of_ble_eq_true rfl), (Nat.le_of_ble_eq_true rfl)⟩ ⟨Nat.zero_le _, Nat.zero_le _⟩ dX11_move_17 ?_
    exact A_iretE (pc := 20) dX11_move_20 rfl (Nat.zero_le _) (Nat.zero_le _) (by rw [c_move, if_pos hb4]) (by rw [c_move, if_pos hb4])
  · refine A_iload_n (pc := 7) (i := 3) dX11_move_7 rfl rfl ?_
    refine A_callS1 (pc := 8) cs_X11_285 (s_isSheet l _) rfl rfl (Nat.le_of_ble_eq_true rfl) ⟨(Nat.le_of_ble_eq_true rfl), (Nat.le_of_ble_eq_true rfl)⟩ ⟨Nat.zero_le _, Nat.zero_le _⟩ dX11_move_8 ?_
    refine A_ifne (pc := 11) 21 dX11_move_11 (by decide) (fun hb11 => ?_) (fun hb11 => ?_)
    · have hx := (sr_b_1 _).mp hb4
      have hx4 : x.toNatClampNeg < 4 := Nat.lt_of_le_of_lt (nI_cl_le (n := 3) hx.1 hx.2 (by decide)) (by decide)
      have hz := (sr_b_1 _).mp hb11
      have hz4 : z.toNatClampNeg < 4 := Nat.lt_of_le_of_lt (nI_cl_le (n := 3) hz.1 hz.2 (by decide)) (by decide)
      refine A_aload_n (pc := 21) (i := 0) dX11_move_21 rfl rfl ?_
      refine A_iload_n (pc := 22) (i := 1) dX11_move_22 rfl rfl ?_
      refine A_top (nI_cl hx.1) ?_
      refine A_callV1 (pc := 23) cv_X11_293 (s_isMissing l hS _ hx4) hS.k1 rfl rfl rfl rfl (Nat.le_of_ble_eq_true rfl) ⟨(Nat.le_of_ble_eq_true rfl), (Nat.le_of_ble_eq_true rfl)⟩ ⟨Nat.zero_le _, Nat.zero_le _⟩ dX11_move_23 ?_
      refine A_ifne (pc := 26) 37 dX11_move_26 (by decide) (fun hb26 => ?_) (fun hb26 => ?_)
      · refine A_aload_n (pc := 37) (i := 0) dX11_move_37 rfl rfl ?_
        refine A_ldc (pc := 38) (List.mem_cons_of_mem _ kc_X11_210) dX11_move_38 ?_
        refine A_callV1 (pc := 40) cv_X11_61 (s_err2 l hS) hS.k1 rfl rfl rfl rfl (Nat.le_of_ble_eq_true rfl) ⟨(Nat.le_of_ble_eq_true rfl), (Nat.le_of_ble_eq_true rfl)⟩ ⟨Nat.zero_le _, Nat.zero_le _⟩ dX11_move_40 ?_
        exact A_iretE (pc := 43) dX11_move_43 rfl (Nat.zero_le _) (Nat.zero_le _) (by rw [c_move, if_neg hb4, if_neg hb11, if_neg hb26]) (by rw [c_move, if_neg hb4, if_neg hb11, if_neg hb26])
      · refine A_aload_n (pc := 29) (i := 0) dX11_move_29 rfl rfl ?_
        refine A_iload_n (pc := 30) (i := 3) dX11_move_30 rfl rfl ?_
        refine A_top (nI_cl hz.1) ?_
        refine A_callV1 (pc := 31) cv_X11_293 (s_isMissing l hS _ hz4) hS.k1 rfl rfl rfl rfl (Nat.le_of_ble_eq_true rfl) ⟨(Nat.le_of_ble_eq_true rfl), (Nat.le_of_ble_eq_true rfl)⟩ ⟨Nat.zero_le _, Nat.zero_le _⟩ dX11_move_31 ?_
        refine A_ifeq (pc := 34) 44 dX11_move_34 (by decide) (fun hb34 => ?_) (fun hb34 => ?_)
        · refine A_aload_n (pc := 44) (i := 0) dX11_move_44 rfl rfl ?_
          refine A_getr (pc := 45) 5 fl_X11_31_11 hS.k1 rfl hS.w1_5 dX11_move_45 ?_
          refine A_iload_n (pc := 48) (i := 1) dX11_move_48 rfl rfl ?_
          refine A_top (nI_cl hx.1) ?_
          refine A_aaldN (pc := 49) hS.k16 (by decide) (by decide) hx4 (by decide) (hS.w16 hx4) dX11_move_49 ?_
          refine A_ast6 (pc := 50) dX11_move_50 (Nat.le_of_ble_eq_true rfl) rfl ?_
          refine A_aload_n (pc := 52) (i := 0) dX11_move_52 rfl rfl ?_
          refine A_getr (pc := 53) 5 fl_X11_31_11 hS.k1 rfl hS.w1_5 dX11_move_53 ?_
          refine A_iload_n (pc := 56) (i := 3) dX11_move_56 rfl rfl ?_
          refine A_top (nI_cl hz.1) ?_
          refine A_aaldN (pc := 57) hS.k16 (by decide) (by decide) hz4 (by decide) (hS.w16 hz4) dX11_move_57 ?_
          refine A_ast7 (pc := 58) dX11_move_58 (Nat.le_of_ble_eq_true rfl) rfl ?_
          refine A_aload (pc := 60) (i := 6) dX11_move_60 rfl ?_
          refine A_geti (pc := 62) 2 fl_X11_299_5 (hS.k17 hx4) rfl dX11_move_62 ?_
          refine A_aload (pc := 65) (i := 7) dX11_move_65 rfl ?_
          refine A_geti (pc := 67) 2 fl_X11_299_5 (hS.k17 hz4) rfl dX11_move_67 ?_
          refine A_icmpeq (pc := 70) 80 dX11_move_70 (by decide) (fun hb70 => ?_) (fun hb70 => ?_)
          · refine A_aload (pc := 80) (i := 6) dX11_move_80 rfl ?_
            refine A_iload_n (pc := 82) (i := 2) dX11_move_82 rfl rfl ?_
            refine A_iload (pc := 83) (i := 5) dX11_move_83 rfl ?_
            refine A_callV1 (pc := 85) cv_X11_302 (s_rwstands l _ (hS.k17 hx4) _ _) (hS.k17 hx4) rfl rfl rfl rfl (Nat.le_of_ble_eq_true rfl) ⟨(Nat.le_of_ble_eq_true rfl), (Nat.le_of_ble_eq_true rfl)⟩ ⟨Nat.zero_le _, Nat.zero_le _⟩ dX11_move_85 ?_
            refine A_ifeq (pc := 88) 103 dX11_move_88 (by decide) (fun hb88 => ?_) (fun hb88 => ?_)
            · refine A_aload_n (pc := 103) (i := 0) dX11_move_103 rfl rfl ?_
              refine A_ldc (pc := 104) (List.mem_cons_of_mem _ kc_X11_60) dX11_move_104 ?_
              refine A_callV1 (pc := 106) cv_X11_61 (s_err1 l hS) hS.k1 rfl rfl rfl rfl (Nat.le_of_ble_eq_true rfl) ⟨(Nat.le_of_ble_eq_true rfl), (Nat.le_of_ble_eq_true rfl)⟩ ⟨Nat.zero_le _, Nat.zero_le _⟩ dX11_move_106 ?_
              exact A_iretE (pc := 109) dX11_move_109 rfl (Nat.zero_le _) (Nat.zero_le _) (by rw [c_move, if_neg hb4, if_neg hb11, if_pos hb26, if_pos hb34, if_pos hb70, if_pos hb88]) (by rw [c_move, if_neg hb4, if_neg hb11, if_pos hb26, if_pos hb34, if_pos hb70, if_pos hb88])
            · refine A_aload (pc := 91) (i := 7) dX11_move_91 rfl ?_
              refine A_iload (pc := 93) (i := 4) dX11_move_93 rfl ?_
              refine A_iload (pc := 95) (i := 5) dX11_move_95 rfl ?_
              refine A_callV1 (pc := 97) cv_X11_302 (s_rwstands l _ (hS.k17 hz4) _ _) (hS.k17 hz4) rfl rfl rfl rfl (Nat.le_of_ble_eq_true rfl) ⟨(Nat.le_of_ble_eq_true rfl), (Nat.le_of_ble_eq_true rfl)⟩ ⟨Nat.zero_le _, Nat.zero_le _⟩ dX11_move_97 ?_
              refine A_ifne (pc := 100) 110 dX11_move_100 (by decide) (fun hb100 => ?_) (fun hb100 => ?_)
              · refine A_aload (pc := 110) (i := 6) dX11_move_110 rfl ?_
                refine A_getr (pc := 112) 0 fl_X11_282_5 (hS.k17 hx4) rfl (hS.w17 hx4) dX11_move_112 ?_
                refine A_iload_n (pc := 115) (i := 2) dX11_move_115 rfl rfl ?_
                refine A_aload (pc := 116) (i := 7) dX11_move_116 rfl ?_
                refine A_getr (pc := 118) 0 fl_X11_282_5 (hS.k17 hz4) rfl (hS.w17 hz4) dX11_move_118 ?_
                refine A_iload (pc := 121) (i := 4) dX11_move_121 rfl ?_
                refine A_iload (pc := 123) (i := 5) dX11_move_123 rfl ?_
                have h8 := (sr_b_1 _).mp hb88
                have h9 := (sr_b_1 _).mp hb100
                have z8 := (hsz _ hx4).2
                have z9 := (hsz _ hz4).2
                refine A_copy (pc := 125) cc_X11_306 (hS.k18 hx4) (hS.k18 hz4) (Int32.not_lt.mpr h8.1) (Int32.not_lt.mpr h9.1) (Int32.not_lt.mpr h8.2.1) (Nat.le_trans (std_ok z8 ((hsz _ hx4).1 ▸ h8)) z8) (Nat.le_trans (std_ok z9 ((hsz _ hz4).1 ▸ h9)) z9) (Nat.le_of_ble_eq_true rfl) (Nat.le_of_ble_eq_true rfl) dX11_move_125 ?_
                refine A_iload (pc := 128) (i := 5) dX11_move_128 rfl ?_
                exact A_iretE (pc := 130) dX11_move_130 rfl (Nat.zero_le _) (Nat.zero_le _) (by rw [c_move, if_neg hb4, if_neg hb11, if_pos hb26, if_pos hb34, if_pos hb70, if_neg hb88, if_neg hb100]) (by rw [c_move, if_neg hb4, if_neg hb11, if_pos hb26, if_pos hb34, if_pos hb70, if_neg hb88, if_neg hb100])
              · refine A_aload_n (pc := 103) (i := 0) dX11_move_103 rfl rfl ?_
                refine A_ldc (pc := 104) (List.mem_cons_of_mem _ kc_X11_60) dX11_move_104 ?_
                refine A_callV1 (pc := 106) cv_X11_61 (s_err1 l hS) hS.k1 rfl rfl rfl rfl (Nat.le_of_ble_eq_true rfl) ⟨(Nat.le_of_ble_eq_true rfl), (Nat.le_of_ble_eq_true rfl)⟩ ⟨Nat.zero_le _, Nat.zero_le _⟩ dX11_move_106 ?_
                exact A_iretE (pc := 109) dX11_move_109 rfl (Nat.zero_le _) (Nat.zero_le _) (by rw [c_move, if_neg hb4, if_neg hb11, if_pos hb26, if_pos hb34, if_pos hb70, if_neg hb88, if_pos hb100]) (by rw [c_move, if_neg hb4, if_neg hb11, if_pos hb26, if_pos hb34, if_pos hb70, if_neg hb88, if_pos hb100])
          · refine A_aload_n (pc := 73) (i := 0) dX11_move_73 rfl rfl ?_
            refine A_ldc (pc := 74) (List.mem_cons_of_mem _ kc_X11_131) dX11_move_74 ?_
            refine A_callV1 (pc := 76) cv_X11_61 (s_err5 l hS) hS.k1 rfl rfl rfl rfl (Nat.le_of_ble_eq_true rfl) ⟨(Nat.le_of_ble_eq_true rfl), (Nat.le_of_ble_eq_true rfl)⟩ ⟨Nat.zero_le _, Nat.zero_le _⟩ dX11_move_76 ?_
            exact A_iretE (pc := 79) dX11_move_79 rfl (Nat.zero_le _) (Nat.zero_le _) (by rw [c_move, if_neg hb4, if_neg hb11, if_pos hb26, if_pos hb34, if_neg hb70]) (by rw [c_move, if_neg hb4, if_neg hb11, if_pos hb26, if_pos hb34, if_neg hb70])
        · refine A_aload_n (pc := 37) (i := 0) dX11_move_37 rfl rfl ?_
          refine A_ldc (pc := 38) (List.mem_cons_of_mem _ kc_X11_210) dX11_move_38 ?_
          refine A_callV1 (pc := 40) cv_X11_61 (s_err2 l hS) hS.k1 rfl rfl rfl rfl (Nat.le_of_ble_eq_true rfl) ⟨(Nat.le_of_ble_eq_true rfl), (Nat.le_of_ble_eq_true rfl)⟩ ⟨Nat.zero_le _, Nat.zero_le _⟩ dX11_move_40 ?_
          exact A_iretE (pc := 43) dX11_move_43 rfl (Nat.zero_le _) (Nat.zero_le _) (by rw [c_move, if_neg hb4, if_neg hb11, if_pos hb26, if_neg hb34]) (by rw [c_move, if_neg hb4, if_neg hb11, if_pos hb26, if_neg hb34])
    · refine A_aload_n (pc := 14) (i := 0) dX11_move_14 rfl rfl ?_
      refine A_ldc (pc := 15) (List.mem_cons_of_mem _ kc_X11_60) dX11_move_15 ?_
      refine A_callV1 (pc := 17) cv_X11_61 (s_err1 l hS) hS.k1 rfl rfl rfl rfl (Nat.le_of_ble_eq_true rfl) ⟨(Nat.le_of_ble_eq_true rfl), (Nat.le_of_ble_eq_true rfl)⟩ ⟨Nat.zero_le _, Nat.zero_le _⟩ dX11_move_17 ?_
      exact A_iretE (pc := 20) dX11_move_20 rfl (Nat.zero_le _) (Nat.zero_le _) (by rw [c_move, if_neg hb4, if_pos hb11]) (by rw [c_move, if_neg hb4, if_pos hb11])
/-- numbers are lifted, then laid -/
def mv_1 (p : Nat) (w : am_iv) (k : Nat) : am_iv := fun n q => if n = (31, 20, 0) ∧ q < k then w (31, 19, 0) (p + q) else w n q
def mv_2 (p : Nat) (w : am_iv) (k : Nat) : am_iv := fun n q => if n = (31, 19, 0) ∧ p ≤ q ∧ q < p + k then w (31, 20, 0) (q - p) else w n q
theorem mv_10 (p : Nat) (w : am_iv) : mv_1 p w 0 = w := by funext n q; unfold mv_1; rw [if_neg (by omega)]
theorem mv_20 (p : Nat) (w : am_iv) : mv_2 p w 0 = w := by funext n q; unfold mv_2; rw [if_neg (by omega)]
theorem mv_1s (p : Nat) (w : am_iv) (k : Nat) : am_ui (mv_1 p w k) (31, 20, 0) k (mv_1 p w k (31, 19, 0) (p + k)) = mv_1 p w (k + 1) := by
  funext n q
  have e9 : mv_1 p w k (31, 19, 0) (p + k) = w (31, 19, 0) (p + k) := by unfold mv_1; rw [if_neg (by simp)]
  rw [e9]
  simp only [mv_1, am_ui]
  by_cases e : n = (31, 20, 0)
  · by_cases e2 : q = k
    · rw [if_pos ⟨e, e2⟩, if_pos ⟨e, by omega⟩, e2]
    · rw [if_neg (fun h => e2 h.2)]
      by_cases e3 : q < k
      · rw [if_pos ⟨e, e3⟩, if_pos ⟨e, by omega⟩]
      · rw [if_neg (fun h => e3 h.2), if_neg (fun h => by omega)]
  · rw [if_neg (fun h => e h.1), if_neg (fun h => e h.1), if_neg (fun h => e h.1)]
theorem mv_2s (p : Nat) (w : am_iv) (k : Nat) : am_ui (mv_2 p w k) (31, 19, 0) (p + k) (mv_2 p w k (31, 20, 0) k) = mv_2 p w (k + 1) := by
  funext n q
  have e9 : mv_2 p w k (31, 20, 0) k = w (31, 20, 0) k := by unfold mv_2; rw [if_neg (by simp)]
  rw [e9]
  simp only [mv_2, am_ui]
  by_cases e : n = (31, 19, 0)
  · by_cases e2 : q = p + k
    · rw [if_pos ⟨e, e2⟩, if_pos ⟨e, by omega, by omega⟩, show q - p = k by omega]
    · rw [if_neg (fun h => e2 h.2)]
      by_cases e3 : p ≤ q ∧ q < p + k
      · rw [if_pos ⟨e, e3⟩, if_pos ⟨e, e3.1, by omega⟩]
      · rw [if_neg (fun h => e3 h.2), if_neg (fun h => e3 ⟨h.2.1, by omega⟩)]
  · rw [if_neg (fun h => e h.1), if_neg (fun h => e h.1), if_neg (fun h => e h.1)]
theorem rx_nxyk (x y : Int32) (hx : 0 ≤ x) (hy : 0 ≤ y) (k : Nat) : (40 : Int32) * x + y + nI k = nI (40 * x.toNatClampNeg + y.toNatClampNeg + k) := by
  rw [rx_nox x y hx hy, nI_add]
set_option maxRecDepth 20000 in
theorem mv_loop2 (l : Launch) {kd : am_kd} {rv : am_rv} (hR : shr kd rv) (x y z v m : Int32) (hx0 : 0 ≤ x) (hy0 : 0 ≤ y) (hz0 : 0 ≤ z) (hv0 : 0 ≤ v) (hm0 : 0 ≤ m) (hp1 : (40 * x.toNatClampNeg + y.toNatClampNeg) + m.toNatClampNeg ≤ 160) (hp2 : (40 * z.toNatClampNeg + v.toNatClampNeg) + m.toNatClampNeg ≤ 160) (hm40 : m.toNatClampNeg ≤ 40) (w : am_iv) : ∀ j, j ≤ m.toNatClampNeg → am_W l mX12_move (am_rm 2 0 0) (am_ret (some (am_I m)) kd rv (mv_2 (40 * z.toNatClampNeg + v.toNatClampNeg) w m.toNatClampNeg)) 152 [some (am_P (30, 0, 0)), some (am_I x), some (am_I y), some (am_I z), some (am_I v), some (am_I m), some (am_I (nI j))] [] kd rv (mv_2 (40 * z.toNatClampNeg + v.toNatClampNeg) w j) 0 0 := by
  have em := nI_cl hm0
  refine am_for _ m.toNatClampNeg ?_ (fun j hj ih => ?_)
  · refine A_iload (pc := 152) (i := 6) dX12_move_152 rfl ?_
    refine A_iload (pc := 154) (i := 5) dX12_move_154 rfl ?_
    refine A_icmpge (pc := 156) 187 dX12_move_156 (by decide) (fun hb156 => ?_) (fun hb156 => ?_)
    · refine A_iload (pc := 187) (i := 5) dX12_move_187 rfl ?_
      exact A_iretE (pc := 189) dX12_move_189 rfl (Nat.zero_le _) (Nat.zero_le _) (rfl) (rfl)
    · exact absurd (by rw [← em]; exact Int32.le_refl _) hb156
  · refine A_iload (pc := 152) (i := 6) dX12_move_152 rfl ?_
    refine A_iload (pc := 154) (i := 5) dX12_move_154 rfl ?_
    refine A_icmpge (pc := 156) 187 dX12_move_156 (by decide) (fun hb156 => ?_) (fun hb156 => ?_)
    · exact absurd (by rw [← em]; exact hb156) (nI_ge hj (by omega))
    · refine A_aload_n (pc := 159) (i := 0) dX12_move_159 rfl rfl ?_
      refine A_getr (pc := 160) 19 fl_X12_40_12 hR.1 rfl hR.w19 dX12_move_160 ?_
      refine A_bipush (pc := 163) (40) dX12_move_163 (by decide) ?_
      refine A_iload_n (pc := 165) (i := 3) dX12_move_165 rfl rfl ?_
      refine A_imul (pc := 166) dX12_move_166 ?_
      refine A_iload (pc := 167) (i := 4) dX12_move_167 rfl ?_
      refine A_iadd (pc := 169) dX12_move_169 ?_
      refine A_iload (pc := 170) (i := 6) dX12_move_170 rfl ?_
      refine A_iadd (pc := 172) dX12_move_172 ?_
      refine A_top (rx_nxyk z v hz0 hv0 j) ?_
      refine A_aload_n (pc := 173) (i := 0) dX12_move_173 rfl rfl ?_
      refine A_getr (pc := 174) 20 fl_X12_43_12 hR.1 rfl hR.w20 dX12_move_174 ?_
      refine A_iload (pc := 177) (i := 6) dX12_move_177 rfl ?_
      refine A_ialdN (pc := 179) hR.k20 (show j < 40 by omega) (by decide) dX12_move_179 ?_
      refine A_iastN (pc := 180) hR.k19 (show (40 * z.toNatClampNeg + v.toNatClampNeg) + j < 160 by omega) (by decide) dX12_move_180 ?_
      refine A_heap (mv_2s (40 * z.toNatClampNeg + v.toNatClampNeg) w j) ?_
      refine A_inc6 (pc := 181) (nI (j + 1)) dX12_move_181 (nI_1 j) (Nat.le_of_ble_eq_true rfl) rfl ?_
      refine A_goto (pc := 184) 152 dX12_move_184 (by decide) ?_
      exact ih
set_option maxRecDepth 20000 in
theorem mv_loop1 (l : Launch) {kd : am_kd} {rv : am_rv} (hR : shr kd rv) (x y z v m : Int32) (hx0 : 0 ≤ x) (hy0 : 0 ≤ y) (hz0 : 0 ≤ z) (hv0 : 0 ≤ v) (hm0 : 0 ≤ m) (hp1 : (40 * x.toNatClampNeg + y.toNatClampNeg) + m.toNatClampNeg ≤ 160) (hp2 : (40 * z.toNatClampNeg + v.toNatClampNeg) + m.toNatClampNeg ≤ 160) (hm40 : m.toNatClampNeg ≤ 40) (w : am_iv) : ∀ j, j ≤ m.toNatClampNeg → am_W l mX12_move (am_rm 2 0 0) (am_ret (some (am_I m)) kd rv (mv_2 (40 * z.toNatClampNeg + v.toNatClampNeg) (mv_1 (40 * x.toNatClampNeg + y.toNatClampNeg) w m.toNatClampNeg) m.toNatClampNeg)) 115 [some (am_P (30, 0, 0)), some (am_I x), some (am_I y), some (am_I z), some (am_I v), some (am_I m), some (am_I (nI j))] [] kd rv (mv_1 (40 * x.toNatClampNeg + y.toNatClampNeg) w j) 0 0 := by
  have em := nI_cl hm0
  refine am_for _ m.toNatClampNeg ?_ (fun j hj ih => ?_)
  · refine A_iload (pc := 115) (i := 6) dX12_move_115 rfl ?_
    refine A_iload (pc := 117) (i := 5) dX12_move_117 rfl ?_
    refine A_icmpge (pc := 119) 149 dX12_move_119 (by decide) (fun hb119 => ?_) (fun hb119 => ?_)
    · refine A_iconst (pc := 149) (0) dX12_move_149 (by decide) ?_
      refine A_ist6 (pc := 150) dX12_move_150 (Nat.le_of_ble_eq_true rfl) rfl ?_
      have h := mv_loop2 l hR x y z v m hx0 hy0 hz0 hv0 hm0 hp1 hp2 hm40 (mv_1 (40 * x.toNatClampNeg + y.toNatClampNeg) w m.toNatClampNeg) 0 (Nat.zero_le _)
      rw [mv_20] at h
      exact h
    · exact absurd (by rw [← em]; exact Int32.le_refl _) hb119
  · refine A_iload (pc := 115) (i := 6) dX12_move_115 rfl ?_
    refine A_iload (pc := 117) (i := 5) dX12_move_117 rfl ?_
    refine A_icmpge (pc := 119) 149 dX12_move_119 (by decide) (fun hb119 => ?_) (fun hb119 => ?_)
    · exact absurd (by rw [← em]; exact hb119) (nI_ge hj (by omega))
    · refine A_aload_n (pc := 122) (i := 0) dX12_move_122 rfl rfl ?_
      refine A_getr (pc := 123) 20 fl_X12_43_12 hR.1 rfl hR.w20 dX12_move_123 ?_
      refine A_iload (pc := 126) (i := 6) dX12_move_126 rfl ?_
      refine A_aload_n (pc := 128) (i := 0) dX12_move_128 rfl rfl ?_
      refine A_getr (pc := 129) 19 fl_X12_40_12 hR.1 rfl hR.w19 dX12_move_129 ?_
      refine A_bipush (pc := 132) (40) dX12_move_132 (by decide) ?_
      refine A_iload_n (pc := 134) (i := 1) dX12_move_134 rfl rfl ?_
      refine A_imul (pc := 135) dX12_move_135 ?_
      refine A_iload_n (pc := 136) (i := 2) dX12_move_136 rfl rfl ?_
      refine A_iadd (pc := 137) dX12_move_137 ?_
      refine A_iload (pc := 138) (i := 6) dX12_move_138 rfl ?_
      refine A_iadd (pc := 140) dX12_move_140 ?_
      refine A_top (rx_nxyk x y hx0 hy0 j) ?_
      refine A_ialdN (pc := 141) hR.k19 (show (40 * x.toNatClampNeg + y.toNatClampNeg) + j < 160 by omega) (by decide) dX12_move_141 ?_
      refine A_iastN (pc := 142) hR.k20 (show j < 40 by omega) (by decide) dX12_move_142 ?_
      refine A_heap (mv_1s (40 * x.toNatClampNeg + y.toNatClampNeg) w j) ?_
      refine A_inc6 (pc := 143) (nI (j + 1)) dX12_move_143 (nI_1 j) (Nat.le_of_ble_eq_true rfl) rfl ?_
      refine A_goto (pc := 146) 115 dX12_move_146 (by decide) ?_
      exact ih
theorem std_ok2 {s : Nat} (hs : s ≤ 40) {i m : Int32} (h0 : 0 ≤ i) (h1 : 0 ≤ m) (h3 : m ≤ nI s - i) : 0 ≤ i ∧ 0 ≤ m ∧ i ≤ nI s ∧ m ≤ nI s - i := by
  refine ⟨h0, h1, ?_, h3⟩
  have h31 : i.toNatClampNeg < 2 ^ 31 := by
    obtain ⟨j, hj, rfl⟩ := nI_of (Int32.not_lt.mpr h0)
    rw [nI_clamp hj]; exact hj
  have ei := nI_cl h0
  generalize i.toNatClampNeg = p at h31 ei
  subst ei
  have q : 0 ≤ nI s - nI p := Int32.le_trans h1 h3
  have q1 := Int32.le_iff_toInt_le.mp q
  rw [ix_sub (by rw [nI_toInt (by omega), nI_toInt h31]; omega) (by rw [nI_toInt (by omega), nI_toInt h31]; omega), nI_toInt (by omega), nI_toInt h31] at q1
  have : (0 : Int32).toInt = 0 := by decide
  exact nI_le (by omega) (by omega)
noncomputable def d_move (x y z v m : Int32) (iv : am_iv) : Int32 × am_iv := if sr_b (0 ≤ x ∧ x ≤ 3) = 0 then (-1000000001, rx_find 1 iv) else if sr_b (0 ≤ z ∧ z ≤ 3) = 0 then (-1000000001, rx_find 1 iv) else if iv (31, 17, 0) x.toNatClampNeg = 0 then (-1000000002, rx_find 2 iv) else if iv (31, 17, 0) z.toNatClampNeg = 0 then (-1000000002, rx_find 2 iv) else if iv (31, 17, 0) x.toNatClampNeg = iv (31, 17, 0) z.toNatClampNeg then (if m < 0 then (-1000000001, rx_find 1 iv) else if y < 0 then (-1000000001, rx_find 1 iv) else if v < 0 then (-1000000001, rx_find 1 iv) else if iv (31, 18, 0) x.toNatClampNeg - y < m then (-1000000001, rx_find 1 iv) else if m ≤ iv (31, 18, 0) z.toNatClampNeg - v then (m, mv_2 (40 * z.toNatClampNeg + v.toNatClampNeg) (mv_1 (40 * x.toNatClampNeg + y.toNatClampNeg) iv m.toNatClampNeg) m.toNatClampNeg) else (-1000000001, rx_find 1 iv)) else (-1000000005, rx_find 5 iv)
set_option maxRecDepth 20000 in
theorem q_move (l : Launch) {kd : am_kd} {rv : am_rv} {iv : am_iv} (hR : shr kd rv) (x y z v m : Int32) (szf : Nat → Nat) (hsz : ∀ s, s < 4 → iv (31, 18, 0) s = nI (szf s) ∧ szf s ≤ 40) : am_Met l mX12_move (am_rm 2 0 0) [am_P (30, 0, 0), am_I x, am_I y, am_I z, am_I v, am_I m] kd rv iv (am_ret (some (am_I (d_move x y z v m iv).1)) kd rv (d_move x y z v m iv).2) := by
  refine am_Met.of (by decide) (Nat.le_of_ble_eq_true rfl) rfl ?_
  refine A_iload_n (pc := 0) (i := 1) dX12_move_0 rfl rfl ?_
  refine A_callS1 (pc := 1) cs_X12_267 (r_isSheet l _) rfl rfl (Nat.le_of_ble_eq_true rfl) ⟨(Nat.le_of_ble_eq_true rfl), (Nat.le_of_ble_eq_true rfl)⟩ ⟨Nat.zero_le _, Nat.zero_le _⟩ dX12_move_1 ?_
  refine A_ifeq (pc := 4) 14 dX12_move_4 (by decide) (fun hb4 => ?_) (fun hb4 => ?_)
  · refine A_aload_n (pc := 14) (i := 0) dX12_move_14 rfl rfl ?_
    refine A_iconst (pc := 15) (1) dX12_move_15 (by decide) ?_
    refine A_callV1 (pc := 16) cv_X12_65 (r_fnd1 l hR) hR.1 rfl rfl rfl rfl (Nat.le_of_ble_eq_true rfl) ⟨(Nat.le_of_ble_eq_true rfl), (Nat.le_of_ble_eq_true rfl)⟩ ⟨Nat.zero_le _, Nat.zero_le _⟩ dX12_move_16 ?_
    exact A_iretE (pc := 19) dX12_move_19 rfl (Nat.zero_le _) (Nat.zero_le _) (by rw [d_move, if_pos hb4]) (by rw [d_move, if_pos hb4])
  · refine A_iload_n (pc := 7) (i := 3) dX12_move_7 rfl rfl ?_
    refine A_callS1 (pc := 8) cs_X12_267 (r_isSheet l _) rfl rfl (Nat.le_of_ble_eq_true rfl) ⟨(Nat.le_of_ble_eq_true rfl), (Nat.le_of_ble_eq_true rfl)⟩ ⟨Nat.zero_le _, Nat.zero_le _⟩ dX12_move_8 ?_
    refine A_ifne (pc := 11) 20 dX12_move_11 (by decide) (fun hb11 => ?_) (fun hb11 => ?_)
    · have hx := (sr_b_1 _).mp hb4
      have hx4 : x.toNatClampNeg < 4 := Nat.lt_of_le_of_lt (nI_cl_le (n := 3) hx.1 hx.2 (by decide)) (by decide)
      have hz := (sr_b_1 _).mp hb11
      have hz4 : z.toNatClampNeg < 4 := Nat.lt_of_le_of_lt (nI_cl_le (n := 3) hz.1 hz.2 (by decide)) (by decide)
      refine A_aload_n (pc := 20) (i := 0) dX12_move_20 rfl rfl ?_
      refine A_getr (pc := 21) 17 fl_X12_34_12 hR.1 rfl hR.w17 dX12_move_21 ?_
      refine A_iload_n (pc := 24) (i := 1) dX12_move_24 rfl rfl ?_
      refine A_top (nI_cl hx.1) ?_
      refine A_ialdN (pc := 25) hR.k17 hx4 (by decide) dX12_move_25 ?_
      refine A_ifeq (pc := 26) 38 dX12_move_26 (by decide) (fun hb26 => ?_) (fun hb26 => ?_)
      · refine A_aload_n (pc := 38) (i := 0) dX12_move_38 rfl rfl ?_
        refine A_iconst (pc := 39) (2) dX12_move_39 (by decide) ?_
        refine A_callV1 (pc := 40) cv_X12_65 (r_fnd2 l hR) hR.1 rfl rfl rfl rfl (Nat.le_of_ble_eq_true rfl) ⟨(Nat.le_of_ble_eq_true rfl), (Nat.le_of_ble_eq_true rfl)⟩ ⟨Nat.zero_le _, Nat.zero_le _⟩ dX12_move_40 ?_
        exact A_iretE (pc := 43) dX12_move_43 rfl (Nat.zero_le _) (Nat.zero_le _) (by rw [d_move, if_neg hb4, if_neg hb11, if_pos hb26]) (by rw [d_move, if_neg hb4, if_neg hb11, if_pos hb26])
      · refine A_aload_n (pc := 29) (i := 0) dX12_move_29 rfl rfl ?_
        refine A_getr (pc := 30) 17 fl_X12_34_12 hR.1 rfl hR.w17 dX12_move_30 ?_
        refine A_iload_n (pc := 33) (i := 3) dX12_move_33 rfl rfl ?_
        refine A_top (nI_cl hz.1) ?_
        refine A_ialdN (pc := 34) hR.k17 hz4 (by decide) dX12_move_34 ?_
        refine A_ifne (pc := 35) 44 dX12_move_35 (by decide) (fun hb35 => ?_) (fun hb35 => ?_)
        · refine A_aload_n (pc := 44) (i := 0) dX12_move_44 rfl rfl ?_
          refine A_getr (pc := 45) 17 fl_X12_34_12 hR.1 rfl hR.w17 dX12_move_45 ?_
          refine A_iload_n (pc := 48) (i := 1) dX12_move_48 rfl rfl ?_
          refine A_top (nI_cl hx.1) ?_
          refine A_ialdN (pc := 49) hR.k17 hx4 (by decide) dX12_move_49 ?_
          refine A_aload_n (pc := 50) (i := 0) dX12_move_50 rfl rfl ?_
          refine A_getr (pc := 51) 17 fl_X12_34_12 hR.1 rfl hR.w17 dX12_move_51 ?_
          refine A_iload_n (pc := 54) (i := 3) dX12_move_54 rfl rfl ?_
          refine A_top (nI_cl hz.1) ?_
          refine A_ialdN (pc := 55) hR.k17 hz4 (by decide) dX12_move_55 ?_
          refine A_icmpeq (pc := 56) 65 dX12_move_56 (by decide) (fun hb56 => ?_) (fun hb56 => ?_)
          · refine A_iload (pc := 65) (i := 5) dX12_move_65 rfl ?_
            refine A_iflt (pc := 67) 106 dX12_move_67 (by decide) (fun hb67 => ?_) (fun hb67 => ?_)
            · refine A_aload_n (pc := 106) (i := 0) dX12_move_106 rfl rfl ?_
              refine A_iconst (pc := 107) (1) dX12_move_107 (by decide) ?_
              refine A_callV1 (pc := 108) cv_X12_65 (r_fnd1 l hR) hR.1 rfl rfl rfl rfl (Nat.le_of_ble_eq_true rfl) ⟨(Nat.le_of_ble_eq_true rfl), (Nat.le_of_ble_eq_true rfl)⟩ ⟨Nat.zero_le _, Nat.zero_le _⟩ dX12_move_108 ?_
              exact A_iretE (pc := 111) dX12_move_111 rfl (Nat.zero_le _) (Nat.zero_le _) (by rw [d_move, if_neg hb4, if_neg hb11, if_neg hb26, if_neg hb35, if_pos hb56, if_pos hb67]) (by rw [d_move, if_neg hb4, if_neg hb11, if_neg hb26, if_neg hb35, if_pos hb56, if_pos hb67])
            · refine A_iload_n (pc := 70) (i := 2) dX12_move_70 rfl rfl ?_
              refine A_iflt (pc := 71) 106 dX12_move_71 (by decide) (fun hb71 => ?_) (fun hb71 => ?_)
              · refine A_aload_n (pc := 106) (i := 0) dX12_move_106 rfl rfl ?_
                refine A_iconst (pc := 107) (1) dX12_move_107 (by decide) ?_
                refine A_callV1 (pc := 108) cv_X12_65 (r_fnd1 l hR) hR.1 rfl rfl rfl rfl (Nat.le_of_ble_eq_true rfl) ⟨(Nat.le_of_ble_eq_true rfl), (Nat.le_of_ble_eq_true rfl)⟩ ⟨Nat.zero_le _, Nat.zero_le _⟩ dX12_move_108 ?_
                exact A_iretE (pc := 111) dX12_move_111 rfl (Nat.zero_le _) (Nat.zero_le _) (by rw [d_move, if_neg hb4, if_neg hb11, if_neg hb26, if_neg hb35, if_pos hb56, if_neg hb67, if_pos hb71]) (by rw [d_move, if_neg hb4, if_neg hb11, if_neg hb26, if_neg hb35, if_pos hb56, if_neg hb67, if_pos hb71])
              · refine A_iload (pc := 74) (i := 4) dX12_move_74 rfl ?_
                refine A_iflt (pc := 76) 106 dX12_move_76 (by decide) (fun hb76 => ?_) (fun hb76 => ?_)
                · refine A_aload_n (pc := 106) (i := 0) dX12_move_106 rfl rfl ?_
                  refine A_iconst (pc := 107) (1) dX12_move_107 (by decide) ?_
                  refine A_callV1 (pc := 108) cv_X12_65 (r_fnd1 l hR) hR.1 rfl rfl rfl rfl (Nat.le_of_ble_eq_true rfl) ⟨(Nat.le_of_ble_eq_true rfl), (Nat.le_of_ble_eq_true rfl)⟩ ⟨Nat.zero_le _, Nat.zero_le _⟩ dX12_move_108 ?_
                  exact A_iretE (pc := 111) dX12_move_111 rfl (Nat.zero_le _) (Nat.zero_le _) (by rw [d_move, if_neg hb4, if_neg hb11, if_neg hb26, if_neg hb35, if_pos hb56, if_neg hb67, if_neg hb71, if_pos hb76]) (by rw [d_move, if_neg hb4, if_neg hb11, if_neg hb26, if_neg hb35, if_pos hb56, if_neg hb67, if_neg hb71, if_pos hb76])
                · refine A_iload (pc := 79) (i := 5) dX12_move_79 rfl ?_
                  refine A_aload_n (pc := 81) (i := 0) dX12_move_81 rfl rfl ?_
                  refine A_getr (pc := 82) 18 fl_X12_37_12 hR.1 rfl hR.w18 dX12_move_82 ?_
                  refine A_iload_n (pc := 85) (i := 1) dX12_move_85 rfl rfl ?_
                  refine A_top (nI_cl hx.1) ?_
                  refine A_ialdN (pc := 86) hR.k18 hx4 (by decide) dX12_move_86 ?_
                  refine A_iload_n (pc := 87) (i := 2) dX12_move_87 rfl rfl ?_
                  refine A_isub (pc := 88) dX12_move_88 ?_
                  refine A_icmpgt (pc := 89) 106 dX12_move_89 (by decide) (fun hb89 => ?_) (fun hb89 => ?_)
                  · refine A_aload_n (pc := 106) (i := 0) dX12_move_106 rfl rfl ?_
                    refine A_iconst (pc := 107) (1) dX12_move_107 (by decide) ?_
                    refine A_callV1 (pc := 108) cv_X12_65 (r_fnd1 l hR) hR.1 rfl rfl rfl rfl (Nat.le_of_ble_eq_true rfl) ⟨(Nat.le_of_ble_eq_true rfl), (Nat.le_of_ble_eq_true rfl)⟩ ⟨Nat.zero_le _, Nat.zero_le _⟩ dX12_move_108 ?_
                    exact A_iretE (pc := 111) dX12_move_111 rfl (Nat.zero_le _) (Nat.zero_le _) (by rw [d_move, if_neg hb4, if_neg hb11, if_neg hb26, if_neg hb35, if_pos hb56, if_neg hb67, if_neg hb71, if_neg hb76, if_pos hb89]) (by rw [d_move, if_neg hb4, if_neg hb11, if_neg hb26, if_neg hb35, if_pos hb56, if_neg hb67, if_neg hb71, if_neg hb76, if_pos hb89])
                  · refine A_iload (pc := 92) (i := 5) dX12_move_92 rfl ?_
                    refine A_aload_n (pc := 94) (i := 0) dX12_move_94 rfl rfl ?_
                    refine A_getr (pc := 95) 18 fl_X12_37_12 hR.1 rfl hR.w18 dX12_move_95 ?_
                    refine A_iload_n (pc := 98) (i := 3) dX12_move_98 rfl rfl ?_
                    refine A_top (nI_cl hz.1) ?_
                    refine A_ialdN (pc := 99) hR.k18 hz4 (by decide) dX12_move_99 ?_
                    refine A_iload (pc := 100) (i := 4) dX12_move_100 rfl ?_
                    refine A_isub (pc := 102) dX12_move_102 ?_
                    refine A_icmple (pc := 103) 112 dX12_move_103 (by decide) (fun hb103 => ?_) (fun hb103 => ?_)
                    · have z8 := (hsz _ hx4).2
                      have z9 := (hsz _ hz4).2
                      have hm0 := Int32.not_lt.mp hb67
                      have hy0 := Int32.not_lt.mp hb71
                      have hv0 := Int32.not_lt.mp hb76
                      have s8 := std_ok z8 (std_ok2 z8 hy0 hm0 ((hsz _ hx4).1 ▸ Int32.not_lt.mp hb89))
                      have s9 := std_ok z9 (std_ok2 z9 hv0 hm0 ((hsz _ hz4).1 ▸ hb103))
                      refine A_iconst (pc := 112) (0) dX12_move_112 (by decide) ?_
                      refine A_ist6 (pc := 113) dX12_move_113 (Nat.le_of_ble_eq_true rfl) rfl ?_
                      rw [show (d_move x y z v m iv) = (m, mv_2 (40 * z.toNatClampNeg + v.toNatClampNeg) (mv_1 (40 * x.toNatClampNeg + y.toNatClampNeg) iv m.toNatClampNeg) m.toNatClampNeg) from by rw [d_move, if_neg hb4, if_neg hb11, if_neg hb26, if_neg hb35, if_pos hb56, if_neg hb67, if_neg hb71, if_neg hb76, if_neg hb89, if_pos hb103]]
                      have h := mv_loop1 l hR x y z v m hx.1 hy0 hz.1 hv0 hm0 (by omega) (by omega) (by omega) iv 0 (Nat.zero_le _)
                      rw [mv_10] at h
                      exact h
                    · refine A_aload_n (pc := 106) (i := 0) dX12_move_106 rfl rfl ?_
                      refine A_iconst (pc := 107) (1) dX12_move_107 (by decide) ?_
                      refine A_callV1 (pc := 108) cv_X12_65 (r_fnd1 l hR) hR.1 rfl rfl rfl rfl (Nat.le_of_ble_eq_true rfl) ⟨(Nat.le_of_ble_eq_true rfl), (Nat.le_of_ble_eq_true rfl)⟩ ⟨Nat.zero_le _, Nat.zero_le _⟩ dX12_move_108 ?_
                      exact A_iretE (pc := 111) dX12_move_111 rfl (Nat.zero_le _) (Nat.zero_le _) (by rw [d_move, if_neg hb4, if_neg hb11, if_neg hb26, if_neg hb35, if_pos hb56, if_neg hb67, if_neg hb71, if_neg hb76, if_neg hb89, if_neg hb103]) (by rw [d_move, if_neg hb4, if_neg hb11, if_neg hb26, if_neg hb35, if_pos hb56, if_neg hb67, if_neg hb71, if_neg hb76, if_neg hb89, if_neg hb103])
          · refine A_aload_n (pc := 59) (i := 0) dX12_move_59 rfl rfl ?_
            refine A_iconst (pc := 60) (5) dX12_move_60 (by decide) ?_
            refine A_callV1 (pc := 61) cv_X12_65 (r_fnd5 l hR) hR.1 rfl rfl rfl rfl (Nat.le_of_ble_eq_true rfl) ⟨(Nat.le_of_ble_eq_true rfl), (Nat.le_of_ble_eq_true rfl)⟩ ⟨Nat.zero_le _, Nat.zero_le _⟩ dX12_move_61 ?_
            exact A_iretE (pc := 64) dX12_move_64 rfl (Nat.zero_le _) (Nat.zero_le _) (by rw [d_move, if_neg hb4, if_neg hb11, if_neg hb26, if_neg hb35, if_neg hb56]) (by rw [d_move, if_neg hb4, if_neg hb11, if_neg hb26, if_neg hb35, if_neg hb56])
        · refine A_aload_n (pc := 38) (i := 0) dX12_move_38 rfl rfl ?_
          refine A_iconst (pc := 39) (2) dX12_move_39 (by decide) ?_
          refine A_callV1 (pc := 40) cv_X12_65 (r_fnd2 l hR) hR.1 rfl rfl rfl rfl (Nat.le_of_ble_eq_true rfl) ⟨(Nat.le_of_ble_eq_true rfl), (Nat.le_of_ble_eq_true rfl)⟩ ⟨Nat.zero_le _, Nat.zero_le _⟩ dX12_move_40 ?_
          exact A_iretE (pc := 43) dX12_move_43 rfl (Nat.zero_le _) (Nat.zero_le _) (by rw [d_move, if_neg hb4, if_neg hb11, if_neg hb26, if_pos hb35]) (by rw [d_move, if_neg hb4, if_neg hb11, if_neg hb26, if_pos hb35])
    · refine A_aload_n (pc := 14) (i := 0) dX12_move_14 rfl rfl ?_
      refine A_iconst (pc := 15) (1) dX12_move_15 (by decide) ?_
      refine A_callV1 (pc := 16) cv_X12_65 (r_fnd1 l hR) hR.1 rfl rfl rfl rfl (Nat.le_of_ble_eq_true rfl) ⟨(Nat.le_of_ble_eq_true rfl), (Nat.le_of_ble_eq_true rfl)⟩ ⟨Nat.zero_le _, Nat.zero_le _⟩ dX12_move_16 ?_
      exact A_iretE (pc := 19) dX12_move_19 rfl (Nat.zero_le _) (Nat.zero_le _) (by rw [d_move, if_neg hb4, if_pos hb11]) (by rw [d_move, if_neg hb4, if_pos hb11])
