/-- a byte of a word -/
def fb (g : Int64) (k : Nat) : Int32 := (g >>> ((8 * nI k).toInt64 &&& 63) &&& 255).toInt32
/-- bytes are laid on the tape -/
def fc (g : Int64) (z : Nat) (w : am_iv) : Nat → am_iv
  | 0 => w
  | k + 1 => rw_add (12, 0, 0) (13, 0, 0) 50 (z + k) (fb g k) (fc g z w k)
theorem fc_1 {g : Int64} {z : Nat} {w : am_iv} (hz : w (12, 0, 0) 1 = nI z) : ∀ k, z + k ≤ 50 → fc g z w k (12, 0, 0) 1 = nI (z + k) := by
  intro k
  induction k with
  | zero => intro _; exact hz
  | succ k ih =>
    intro h
    show rw_add (12, 0, 0) (13, 0, 0) 50 (z + k) (fb g k) (fc g z w k) (12, 0, 0) 1 = _
    unfold rw_add
    rw [if_pos (by omega), am_ui_s]
    rfl
set_option maxRecDepth 20000 in
theorem fd_loop (l : Launch) {kd : am_kd} {rv : am_rv} {iv : am_iv} (hS : sh kd rv) (g : Int64) (x : Int32) (hx0 : 0 ≤ x) (zt : Nat) (ht : iv (12, 0, 0) 1 = nI zt) (hzx : zt + x.toNatClampNeg ≤ 50) : ∀ j, j ≤ x.toNatClampNeg → am_W l mX11_feed (am_rm 2 0 0) (am_ret (some (am_I (nI (zt + x.toNatClampNeg)))) kd rv (fc g zt iv x.toNatClampNeg)) 44 [some (am_P (1, 0, 0)), some (am_J g), none, some (am_I x), some (am_I (nI j))] [] kd rv (fc g zt iv j) 0 0 := by
  have ex := nI_cl hx0
  refine am_for _ x.toNatClampNeg ?_ (fun j hj ih => ?_)
  · refine A_iload (pc := 44) (i := 4) dX11_feed_44 rfl ?_
    refine A_iload_n (pc := 46) (i := 3) dX11_feed_46 rfl rfl ?_
    refine A_icmpge (pc := 47) 78 dX11_feed_47 (by decide) (fun hb47 => ?_) (fun hb47 => ?_)
    · refine A_aload_n (pc := 78) (i := 0) dX11_feed_78 rfl rfl ?_
      refine A_getr (pc := 79) 0 fl_X11_12_11 hS.k1 rfl (hS.w1 (k := 0) (by decide)) dX11_feed_79 ?_
      refine A_getr (pc := 82) 11 fl_X11_171_4 (hS.k2 (by decide)) rfl (hS.w2_11 (by decide)) dX11_feed_82 ?_
      refine A_geti (pc := 85) 1 fl_X11_174_5 (hS.k12 (by decide)) rfl dX11_feed_85 ?_
      exact A_iretE (pc := 88) dX11_feed_88 rfl (Nat.zero_le _) (Nat.zero_le _) (fc_1 ht _ hzx) (rfl)
    · exact absurd (by rw [← ex]; exact Int32.le_refl _) hb47
  · refine A_iload (pc := 44) (i := 4) dX11_feed_44 rfl ?_
    refine A_iload_n (pc := 46) (i := 3) dX11_feed_46 rfl rfl ?_
    refine A_icmpge (pc := 47) 78 dX11_feed_47 (by decide) (fun hb47 => ?_) (fun hb47 => ?_)
    · exact absurd (by rw [← ex]; exact hb47) (nI_ge hj (by omega))
    · refine A_aload_n (pc := 50) (i := 0) dX11_feed_50 rfl rfl ?_
      refine A_getr (pc := 51) 0 fl_X11_12_11 hS.k1 rfl (hS.w1 (k := 0) (by decide)) dX11_feed_51 ?_
      refine A_getr (pc := 54) 11 fl_X11_171_4 (hS.k2 (by decide)) rfl (hS.w2_11 (by decide)) dX11_feed_54 ?_
      refine A_lload_n (pc := 57) (i := 1) dX11_feed_57 rfl rfl ?_
      refine A_bipush (pc := 58) (8) dX11_feed_58 (by decide) ?_
      refine A_iload (pc := 60) (i := 4) dX11_feed_60 rfl ?_
      refine A_imul (pc := 62) dX11_feed_62 ?_
      refine A_lshr (pc := 63) dX11_feed_63 ?_
      refine A_ldc2 (pc := 64) (List.mem_cons_of_mem _ kc_X11_177) dX11_feed_64 ?_
      refine A_land (pc := 67) dX11_feed_67 ?_
      refine A_l2i (pc := 68) dX11_feed_68 ?_
      refine A_top (y := fb g j) rfl ?_
      refine A_callV0 (pc := 69) cv_X11_179 (s_rwadd l (12, 0, 0) (13, 0, 0) 50 (zt + j) (hS.k12 (by decide)) (hS.w12 (by decide)) (hS.k13 (by decide)) (by decide) (fc_1 ht j (by omega)) (by omega) (by simp) (fb g j)) (hS.k12 (by decide)) rfl rfl rfl rfl (Nat.le_of_ble_eq_true rfl) ⟨(Nat.le_of_ble_eq_true rfl), (Nat.le_of_ble_eq_true rfl)⟩ ⟨Nat.zero_le _, Nat.zero_le _⟩ dX11_feed_69 ?_
      refine A_inc4 (pc := 72) (nI (j + 1)) dX11_feed_72 (nI_1 j) (Nat.le_of_ble_eq_true rfl) rfl ?_
      refine A_goto (pc := 75) 44 dX11_feed_75 (by decide) ?_
      exact ih
noncomputable def c_feed (g : Int64) (x : Int32) (zt : Nat) (iv : am_iv) : Int32 × am_iv := if sr_b (1 ≤ x ∧ x ≤ 8) = 0 then (-1000000001, er_heap 1 iv) else if iv (12, 0, 0) 1 + x ≤ 50 then (nI (zt + x.toNatClampNeg), fc g zt iv x.toNatClampNeg) else (-1000000004, er_heap 4 iv)
set_option maxRecDepth 20000 in
theorem p_feed (l : Launch) {kd : am_kd} {rv : am_rv} {iv : am_iv} (hS : sh kd rv) (g : Int64) (x : Int32) (zt : Nat) (ht : iv (12, 0, 0) 1 = nI zt) (hz50 : zt ≤ 50) : am_Met l mX11_feed (am_rm 2 0 0) [am_P (1, 0, 0), am_J g, am_I x] kd rv iv (am_ret (some (am_I (c_feed g x zt iv).1)) kd rv (c_feed g x zt iv).2) := by
  refine am_Met.of (by decide) (Nat.le_of_ble_eq_true rfl) rfl ?_
  refine A_iload_n (pc := 0) (i := 3) dX11_feed_0 rfl rfl ?_
  refine A_iconst (pc := 1) (1) dX11_feed_1 (by decide) ?_
  refine A_bipush (pc := 2) (8) dX11_feed_2 (by decide) ?_
  refine A_callS1 (pc := 4) cs_X11_56 (s_isHeld l _ _ _) rfl rfl (Nat.le_of_ble_eq_true rfl) ⟨(Nat.le_of_ble_eq_true rfl), (Nat.le_of_ble_eq_true rfl)⟩ ⟨Nat.zero_le _, Nat.zero_le _⟩ dX11_feed_4 ?_
  refine A_ifne (pc := 7) 17 dX11_feed_7 (by decide) (fun hb7 => ?_) (fun hb7 => ?_)
  · refine A_aload_n (pc := 17) (i := 0) dX11_feed_17 rfl rfl ?_
    refine A_getr (pc := 18) 0 fl_X11_12_11 hS.k1 rfl (hS.w1 (k := 0) (by decide)) dX11_feed_18 ?_
    refine A_getr (pc := 21) 11 fl_X11_171_4 (hS.k2 (by decide)) rfl (hS.w2_11 (by decide)) dX11_feed_21 ?_
    refine A_geti (pc := 24) 1 fl_X11_174_5 (hS.k12 (by decide)) rfl dX11_feed_24 ?_
    refine A_iload_n (pc := 27) (i := 3) dX11_feed_27 rfl rfl ?_
    refine A_iadd (pc := 28) dX11_feed_28 ?_
    refine A_bipush (pc := 29) (50) dX11_feed_29 (by decide) ?_
    refine A_icmple (pc := 31) 41 dX11_feed_31 (by decide) (fun hb31 => ?_) (fun hb31 => ?_)
    · have hx := (sr_b_1 _).mp hb7
      have hx0 : 0 ≤ x := Int32.le_trans (by decide) hx.1
      have hx8 := nI_cl_le (n := 8) hx0 hx.2 (by decide)
      have hzx : zt + x.toNatClampNeg ≤ 50 := by
        have q := hb31
        rw [ht, nI_cl hx0, nI_add] at q
        rcases Nat.lt_or_ge 50 (zt + x.toNatClampNeg) with z | z
        · exact absurd q (nI_ge z (by omega))
        · exact z
      refine A_iconst (pc := 41) (0) dX11_feed_41 (by decide) ?_
      refine A_ist4 (pc := 42) dX11_feed_42 (Nat.le_of_ble_eq_true rfl) rfl ?_
      rw [show (c_feed g x zt iv) = (nI (zt + x.toNatClampNeg), fc g zt iv x.toNatClampNeg) from by rw [c_feed, if_neg hb7, if_pos hb31]]
      exact fd_loop l hS g x hx0 zt ht hzx 0 (Nat.zero_le _)
    · refine A_aload_n (pc := 34) (i := 0) dX11_feed_34 rfl rfl ?_
      refine A_ldc (pc := 35) (List.mem_cons_of_mem _ kc_X11_69) dX11_feed_35 ?_
      refine A_callV1 (pc := 37) cv_X11_61 (s_err4 l hS) hS.k1 rfl rfl rfl rfl (Nat.le_of_ble_eq_true rfl) ⟨(Nat.le_of_ble_eq_true rfl), (Nat.le_of_ble_eq_true rfl)⟩ ⟨Nat.zero_le _, Nat.zero_le _⟩ dX11_feed_37 ?_
      exact A_iretE (pc := 40) dX11_feed_40 rfl (Nat.zero_le _) (Nat.zero_le _) (by rw [c_feed, if_neg hb7, if_neg hb31]) (by rw [c_feed, if_neg hb7, if_neg hb31])
  · refine A_aload_n (pc := 10) (i := 0) dX11_feed_10 rfl rfl ?_
    refine A_ldc (pc := 11) (List.mem_cons_of_mem _ kc_X11_60) dX11_feed_11 ?_
    refine A_callV1 (pc := 13) cv_X11_61 (s_err1 l hS) hS.k1 rfl rfl rfl rfl (Nat.le_of_ble_eq_true rfl) ⟨(Nat.le_of_ble_eq_true rfl), (Nat.le_of_ble_eq_true rfl)⟩ ⟨Nat.zero_le _, Nat.zero_le _⟩ dX11_feed_13 ?_
    exact A_iretE (pc := 16) dX11_feed_16 rfl (Nat.zero_le _) (Nat.zero_le _) (by rw [c_feed, if_pos hb7]) (by rw [c_feed, if_pos hb7])
def fd (g : Int64) (z : Nat) (w : am_iv) : Nat → am_iv
  | 0 => w
  | k + 1 => am_ui (am_ui (fd g z w k) (31, 0, 0) (250 + (z + k)) (fb g k)) (31, 0, 0) 7 (nI (z + (k + 1)))
theorem fd_7 {g : Int64} {z : Nat} {w : am_iv} (hz : w (31, 0, 0) 7 = nI z) : ∀ k, fd g z w k (31, 0, 0) 7 = nI (z + k) := by
  intro k
  cases k with
  | zero => exact hz
  | succ k => exact am_ui_s _ _ _ _
set_option maxRecDepth 20000 in
theorem fdr_loop (l : Launch) {kd : am_kd} {rv : am_rv} {iv : am_iv} (hR : shr kd rv) (g : Int64) (x : Int32) (hx0 : 0 ≤ x) (zt : Nat) (ht : iv (31, 0, 0) 7 = nI zt) (hzx : zt + x.toNatClampNeg ≤ 50) : ∀ j, j ≤ x.toNatClampNeg → am_W l mX12_feed (am_rm 2 0 0) (am_ret (some (am_I (nI (zt + x.toNatClampNeg)))) kd rv (fd g zt iv x.toNatClampNeg)) 41 [some (am_P (30, 0, 0)), some (am_J g), none, some (am_I x), some (am_I (nI j))] [] kd rv (fd g zt iv j) 0 0 := by
  have ex := nI_cl hx0
  refine am_for _ x.toNatClampNeg ?_ (fun j hj ih => ?_)
  · refine A_iload (pc := 41) (i := 4) dX12_feed_41 rfl ?_
    refine A_iload_n (pc := 43) (i := 3) dX12_feed_43 rfl rfl ?_
    refine A_icmpge (pc := 44) 92 dX12_feed_44 (by decide) (fun hb44 => ?_) (fun hb44 => ?_)
    · refine A_aload_n (pc := 92) (i := 0) dX12_feed_92 rfl rfl ?_
      refine A_getr (pc := 93) 0 fl_X12_7_12 hR.1 rfl hR.w0 dX12_feed_93 ?_
      refine A_bipush (pc := 96) (7) dX12_feed_96 (by decide) ?_
      refine A_ialdN (pc := 98) hR.k0 (show 7 < 300 by decide) (by decide) dX12_feed_98 ?_
      exact A_iretE (pc := 99) dX12_feed_99 rfl (Nat.zero_le _) (Nat.zero_le _) (fd_7 ht _) (rfl)
    · exact absurd (by rw [← ex]; exact Int32.le_refl _) hb44
  · refine A_iload (pc := 41) (i := 4) dX12_feed_41 rfl ?_
    refine A_iload_n (pc := 43) (i := 3) dX12_feed_43 rfl rfl ?_
    refine A_icmpge (pc := 44) 92 dX12_feed_44 (by decide) (fun hb44 => ?_) (fun hb44 => ?_)
    · exact absurd (by rw [← ex]; exact hb44) (nI_ge hj (by omega))
    · refine A_aload_n (pc := 47) (i := 0) dX12_feed_47 rfl rfl ?_
      refine A_getr (pc := 48) 0 fl_X12_7_12 hR.1 rfl hR.w0 dX12_feed_48 ?_
      refine A_sipush (pc := 51) (250) dX12_feed_51 (by decide) ?_
      refine A_aload_n (pc := 54) (i := 0) dX12_feed_54 rfl rfl ?_
      refine A_getr (pc := 55) 0 fl_X12_7_12 hR.1 rfl hR.w0 dX12_feed_55 ?_
      refine A_bipush (pc := 58) (7) dX12_feed_58 (by decide) ?_
      refine A_ialdN (pc := 60) hR.k0 (show 7 < 300 by decide) (by decide) dX12_feed_60 ?_
      refine A_iadd (pc := 61) dX12_feed_61 ?_
      refine A_top (y := nI (250 + (zt + j))) (by rw [fd_7 ht j]; exact nI_add 250 (zt + j)) ?_
      refine A_lload_n (pc := 62) (i := 1) dX12_feed_62 rfl rfl ?_
      refine A_bipush (pc := 63) (8) dX12_feed_63 (by decide) ?_
      refine A_iload (pc := 65) (i := 4) dX12_feed_65 rfl ?_
      refine A_imul (pc := 67) dX12_feed_67 ?_
      refine A_lshr (pc := 68) dX12_feed_68 ?_
      refine A_ldc2 (pc := 69) (List.mem_cons_of_mem _ kc_X12_187) dX12_feed_69 ?_
      refine A_land (pc := 72) dX12_feed_72 ?_
      refine A_l2i (pc := 73) dX12_feed_73 ?_
      refine A_top (y := fb g j) rfl ?_
      refine A_iastN (pc := 74) hR.k0 (show 250 + (zt + j) < 300 by omega) (by decide) dX12_feed_74 ?_
      refine A_aload_n (pc := 75) (i := 0) dX12_feed_75 rfl rfl ?_
      refine A_getr (pc := 76) 0 fl_X12_7_12 hR.1 rfl hR.w0 dX12_feed_76 ?_
      refine A_bipush (pc := 79) (7) dX12_feed_79 (by decide) ?_
      refine A_dup2 (pc := 81) dX12_feed_81 rfl rfl ?_
      refine A_ialdN (pc := 82) hR.k0 (show 7 < 300 by decide) (by decide) dX12_feed_82 ?_
      refine A_iconst (pc := 83) (1) dX12_feed_83 (by decide) ?_
      refine A_iadd (pc := 84) dX12_feed_84 ?_
      refine A_top (y := nI (zt + (j + 1))) (by rw [am_ui_n (by simp; omega), fd_7 ht j]; exact (nI_succ (zt + j)).symm) ?_
      refine A_iastN (pc := 85) hR.k0 (show 7 < 300 by decide) (by decide) dX12_feed_85 ?_
      refine A_heap (iv' := fd g zt iv (j + 1)) rfl ?_
      refine A_inc4 (pc := 86) (nI (j + 1)) dX12_feed_86 (nI_1 j) (Nat.le_of_ble_eq_true rfl) rfl ?_
      refine A_goto (pc := 89) 41 dX12_feed_89 (by decide) ?_
      exact ih
noncomputable def d_feed (g : Int64) (x : Int32) (zt : Nat) (iv : am_iv) : Int32 × am_iv := if sr_b (1 ≤ x ∧ x ≤ 8) = 0 then (-1000000001, rx_find 1 iv) else if iv (31, 0, 0) 7 + x ≤ 50 then (nI (zt + x.toNatClampNeg), fd g zt iv x.toNatClampNeg) else (-1000000004, rx_find 4 iv)
set_option maxRecDepth 20000 in
theorem q_feed (l : Launch) {kd : am_kd} {rv : am_rv} {iv : am_iv} (hR : shr kd rv) (g : Int64) (x : Int32) (zt : Nat) (ht : iv (31, 0, 0) 7 = nI zt) (hz50 : zt ≤ 50) : am_Met l mX12_feed (am_rm 2 0 0) [am_P (30, 0, 0), am_J g, am_I x] kd rv iv (am_ret (some (am_I (d_feed g x zt iv).1)) kd rv (d_feed g x zt iv).2) := by
  refine am_Met.of (by decide) (Nat.le_of_ble_eq_true rfl) rfl ?_
  refine A_iload_n (pc := 0) (i := 3) dX12_feed_0 rfl rfl ?_
  refine A_i2l (pc := 1) dX12_feed_1 ?_
  refine A_lconst (pc := 2) (1) dX12_feed_2 (by decide) ?_
  refine A_topJ (y := Int32.toInt64 (1)) (by decide +kernel) ?_
  refine A_ldc2 (pc := 3) (List.mem_cons_of_mem _ kc_X12_185) dX12_feed_3 ?_
  refine A_topJ (y := Int32.toInt64 (8)) (by decide +kernel) ?_
  refine A_callS1 (pc := 6) cs_X12_48 (r_in l _ _ _) rfl rfl (Nat.le_of_ble_eq_true rfl) ⟨(Nat.le_of_ble_eq_true rfl), (Nat.le_of_ble_eq_true rfl)⟩ ⟨Nat.zero_le _, Nat.zero_le _⟩ dX12_feed_6 ?_
  refine A_ifne (pc := 9) 18 dX12_feed_9 (by decide) (fun hb9 => ?_) (fun hb9 => ?_)
  · refine A_aload_n (pc := 18) (i := 0) dX12_feed_18 rfl rfl ?_
    refine A_getr (pc := 19) 0 fl_X12_7_12 hR.1 rfl hR.w0 dX12_feed_19 ?_
    refine A_bipush (pc := 22) (7) dX12_feed_22 (by decide) ?_
    refine A_ialdN (pc := 24) hR.k0 (show 7 < 300 by decide) (by decide) dX12_feed_24 ?_
    refine A_iload_n (pc := 25) (i := 3) dX12_feed_25 rfl rfl ?_
    refine A_iadd (pc := 26) dX12_feed_26 ?_
    refine A_bipush (pc := 27) (50) dX12_feed_27 (by decide) ?_
    refine A_icmple (pc := 29) 38 dX12_feed_29 (by decide) (fun hb29 => ?_) (fun hb29 => ?_)
    · have hx := (sr_b_1 _).mp hb9
      have hx0 : 0 ≤ x := Int32.le_trans (by decide) hx.1
      have hx8 := nI_cl_le (n := 8) hx0 hx.2 (by decide)
      have hzx : zt + x.toNatClampNeg ≤ 50 := by
        have q := hb29
        rw [ht, nI_cl hx0, nI_add] at q
        rcases Nat.lt_or_ge 50 (zt + x.toNatClampNeg) with z | z
        · exact absurd q (nI_ge z (by omega))
        · exact z
      refine A_iconst (pc := 38) (0) dX12_feed_38 (by decide) ?_
      refine A_ist4 (pc := 39) dX12_feed_39 (Nat.le_of_ble_eq_true rfl) rfl ?_
      rw [show (d_feed g x zt iv) = (nI (zt + x.toNatClampNeg), fd g zt iv x.toNatClampNeg) from by rw [d_feed, if_neg hb9, if_pos hb29]]
      exact fdr_loop l hR g x hx0 zt ht hzx 0 (Nat.zero_le _)
    · refine A_aload_n (pc := 32) (i := 0) dX12_feed_32 rfl rfl ?_
      refine A_iconst (pc := 33) (4) dX12_feed_33 (by decide) ?_
      refine A_callV1 (pc := 34) cv_X12_65 (r_fnd4 l hR) hR.1 rfl rfl rfl rfl (Nat.le_of_ble_eq_true rfl) ⟨(Nat.le_of_ble_eq_true rfl), (Nat.le_of_ble_eq_true rfl)⟩ ⟨Nat.zero_le _, Nat.zero_le _⟩ dX12_feed_34 ?_
      exact A_iretE (pc := 37) dX12_feed_37 rfl (Nat.zero_le _) (Nat.zero_le _) (by rw [d_feed, if_neg hb9, if_neg hb29]) (by rw [d_feed, if_neg hb9, if_neg hb29])
  · refine A_aload_n (pc := 12) (i := 0) dX12_feed_12 rfl rfl ?_
    refine A_iconst (pc := 13) (1) dX12_feed_13 (by decide) ?_
    refine A_callV1 (pc := 14) cv_X12_65 (r_fnd1 l hR) hR.1 rfl rfl rfl rfl (Nat.le_of_ble_eq_true rfl) ⟨(Nat.le_of_ble_eq_true rfl), (Nat.le_of_ble_eq_true rfl)⟩ ⟨Nat.zero_le _, Nat.zero_le _⟩ dX12_feed_14 ?_
    exact A_iretE (pc := 17) dX12_feed_17 rfl (Nat.zero_le _) (Nat.zero_le _) (by rw [d_feed, if_pos hb9]) (by rw [d_feed, if_pos hb9])
def tx_R (u zt : Nat) (iv : am_iv) : Int32 × am_iv := td_read u (9, 4, 0) (10, 4, 0) (11, 4, 0) (fun k => iv (13, 0, 0) k) zt 0 (td_start (9, 4, 0) iv)
def tx_W (u zt : Nat) (iv : am_iv) : am_iv := am_ui (tx_R u zt iv).2 (12, 0, 0) 1 0
def c_text (u zt : Nat) (iv : am_iv) : Int32 × am_iv := if (tx_R u zt iv).1 < 0 then (1, tx_cp (9, 0, u) (10, 0, u) (10, 4, 0) (tx_W u zt iv (9, 4, 0) 1).toNatClampNeg (tx_W u zt iv)) else (-10 - (tx_R u zt iv).1, tx_W u zt iv)
theorem td_read_ok {u : Nat} {n c s : am_N} {bt : Nat → Int32} (hnc : n ≠ c) (hns : n ≠ s) : ∀ (k i : Nat) (iv : am_iv), td_ok n iv → td_ok n (td_read u n c s bt k i iv).2 := by
  intro k
  induction k with
  | zero =>
    intro i iv h
    obtain ⟨t', z', -, h2⟩ := tp_ab_q (n := n) (c := c) (s := s) hnc 0 _ _ iv h.q
    exact ⟨t', z', h2⟩
  | succ k ih =>
    intro i iv h
    unfold td_read
    split
    · exact td_step_ok hnc hns h
    · exact ih _ _ (td_step_ok hnc hns h)
theorem tx_W_1 (u zt : Nat) (iv : am_iv) : ∃ z, z ≤ 50 ∧ tx_W u zt iv (9, 4, 0) 1 = nI z := by
  have h0 : td_ok (9, 4, 0) (td_start (9, 4, 0) iv) := ⟨0, 0, (am_ui_n (by simp)).trans ((am_ui_n (by simp)).trans ((am_ui_n (by simp)).trans (am_ui_s _ _ _ _))), by decide, (am_ui_n (by simp)).trans ((am_ui_n (by simp)).trans ((am_ui_n (by simp)).trans ((am_ui_n (by simp)).trans (am_ui_s _ _ _ _)))), by decide⟩
  obtain ⟨t, z, hq⟩ := td_read_ok (u := u) (n := (9, 4, 0)) (c := (10, 4, 0)) (s := (11, 4, 0)) (bt := fun k => iv (13, 0, 0) k) (by simp) (by simp) zt 0 _ h0
  exact ⟨z, hq.2.2.2, (am_ui_o (by simp)).trans hq.2.2.1⟩
set_option maxRecDepth 20000 in
theorem p_text0 (l : Launch) {kd : am_kd} {rv : am_rv} {iv : am_iv} (hS : sh kd rv) (hk0 : kd (40, 0, 0) = some (.inr (9, 0))) (hk1 : kd (40, 0, 1) = some (.inr (9, 0))) (zt : Nat) (ht : iv (12, 0, 0) 1 = nI zt) (hz50 : zt ≤ 50) (hby : ∀ k, k < zt → 0 ≤ iv (13, 0, 0) k ∧ iv (13, 0, 0) k ≤ 255) : am_Met l mX11_text (am_rm 7 0 0) [am_P (1, 0, 0), am_I 0] kd rv iv (am_ret (some (am_I (c_text 0 zt iv).1)) kd rv (c_text 0 zt iv).2) := by
  refine am_Met.of (by decide) (Nat.le_of_ble_eq_true rfl) rfl ?_
  refine A_iload_n (pc := 0) (i := 1) dX11_text_0 rfl rfl ?_
  refine A_iconst (pc := 1) (0) dX11_text_1 (by decide) ?_
  refine A_iconst (pc := 2) (1) dX11_text_2 (by decide) ?_
  refine A_callS1 (pc := 3) cs_X11_56 (s_isHeld l _ _ _) rfl rfl (Nat.le_of_ble_eq_true rfl) ⟨(Nat.le_of_ble_eq_true rfl), (Nat.le_of_ble_eq_true rfl)⟩ ⟨Nat.zero_le _, Nat.zero_le _⟩ dX11_text_3 ?_
  refine A_ifne (pc := 6) 16 dX11_text_6 (by decide) (fun hb6 => ?_) (fun hb6 => ?_)
  · refine A_aload_n (pc := 16) (i := 0) dX11_text_16 rfl rfl ?_
    refine A_getr (pc := 17) 7 fl_X11_45_11 hS.k1 rfl hS.w1_7 dX11_text_17 ?_
    refine A_aload_n (pc := 20) (i := 0) dX11_text_20 rfl rfl ?_
    refine A_getr (pc := 21) 0 fl_X11_12_11 hS.k1 rfl (hS.w1 (k := 0) (by decide)) dX11_text_21 ?_
    refine A_getr (pc := 24) 11 fl_X11_171_4 (hS.k2 (by decide)) rfl (hS.w2_11 (by decide)) dX11_text_24 ?_
    refine A_iload_n (pc := 27) (i := 1) dX11_text_27 rfl rfl ?_
    refine A_ifne (pc := 28) 36 dX11_text_28 (by decide) (fun hb28 => ?_) (fun hb28 => ?_)
    · exact absurd rfl hb28
    · refine A_ldcS0 (pc := 31) hk0 rfl dX11_text_31 ?_
      refine A_goto (pc := 33) 38 dX11_text_33 (by decide) ?_
      refine A_callV1 (pc := 38) cv_X11_186 (s_txread l (9, 4, 0) (10, 4, 0) (11, 4, 0) ⟨hS.k9 (Or.inr ⟨rfl, rfl⟩), hS.w9_0 (Or.inr ⟨rfl, rfl⟩), hS.w9_2 (Or.inr ⟨rfl, rfl⟩), hS.k10 (Or.inr ⟨rfl, rfl⟩), hS.k11 (Or.inr ⟨rfl, rfl⟩), by simp, by simp, by simp⟩ 0 (by decide) hk0 hk1 (12, 0, 0) (13, 0, 0) 50 ⟨hS.k12 (by decide), hS.w12 (by decide), hS.k13 (by decide)⟩ zt hz50 (by decide) (fun k => iv (13, 0, 0) k) hby (by simp) (by simp) (by simp) (by simp) (by simp) (by simp) ht (fun j _ => rfl)) (hS.k9 (Or.inr ⟨rfl, rfl⟩)) rfl rfl rfl rfl (Nat.le_of_ble_eq_true rfl) ⟨(Nat.le_of_ble_eq_true rfl), (Nat.le_of_ble_eq_true rfl)⟩ ⟨Nat.zero_le _, Nat.zero_le _⟩ dX11_text_38 ?_
      refine A_ist2 (pc := 41) dX11_text_41 (Nat.le_of_ble_eq_true rfl) rfl ?_
      refine A_aload_n (pc := 42) (i := 0) dX11_text_42 rfl rfl ?_
      refine A_getr (pc := 43) 0 fl_X11_12_11 hS.k1 rfl (hS.w1 (k := 0) (by decide)) dX11_text_43 ?_
      refine A_getr (pc := 46) 11 fl_X11_171_4 (hS.k2 (by decide)) rfl (hS.w2_11 (by decide)) dX11_text_46 ?_
      refine A_iconst (pc := 49) (0) dX11_text_49 (by decide) ?_
      refine A_puti (pc := 50) 1 fl_X11_174_5 (hS.k12 (by decide)) rfl (by decide +kernel) rfl rfl dX11_text_50 ?_
      refine A_iload_n (pc := 53) (i := 2) dX11_text_53 rfl rfl ?_
      refine A_iflt (pc := 54) 62 dX11_text_54 (by decide) (fun hb54 => ?_) (fun hb54 => ?_)
      · refine A_aload_n (pc := 62) (i := 0) dX11_text_62 rfl rfl ?_
        refine A_getr (pc := 63) 0 fl_X11_12_11 hS.k1 rfl (hS.w1 (k := 0) (by decide)) dX11_text_63 ?_
        refine A_getr (pc := 66) 10 fl_X11_190_4 (hS.k2 (by decide)) rfl (hS.w2_10 (by decide)) dX11_text_66 ?_
        refine A_iload_n (pc := 69) (i := 1) dX11_text_69 rfl rfl ?_
        refine A_aaldN (pc := 70) (hS.k8 (by decide)) (by decide) (by decide) (by decide) (by decide) (hS.w8 (by decide) (by decide)) dX11_text_70 ?_
        refine A_aload_n (pc := 71) (i := 0) dX11_text_71 rfl rfl ?_
        refine A_getr (pc := 72) 7 fl_X11_45_11 hS.k1 rfl hS.w1_7 dX11_text_72 ?_
        refine A_callV0 (pc := 75) cv_X11_194 (s_txbecome l (9, 0, 0) (10, 0, 0) (11, 0, 0) ⟨hS.k9 (Or.inl ⟨by decide, by decide⟩), hS.w9_0 (Or.inl ⟨by decide, by decide⟩), hS.w9_2 (Or.inl ⟨by decide, by decide⟩), hS.k10 (Or.inl ⟨by decide, by decide⟩), hS.k11 (Or.inl ⟨by decide, by decide⟩), by simp, by simp, by simp⟩ (9, 4, 0) (10, 4, 0) (11, 4, 0) ⟨hS.k9 (Or.inr ⟨rfl, rfl⟩), hS.w9_0 (Or.inr ⟨rfl, rfl⟩), hS.w9_2 (Or.inr ⟨rfl, rfl⟩), hS.k10 (Or.inr ⟨rfl, rfl⟩), hS.k11 (Or.inr ⟨rfl, rfl⟩), by simp, by simp, by simp⟩ (tx_W 0 zt iv (9, 4, 0) 1).toNatClampNeg (by obtain ⟨z, hz, e⟩ := tx_W_1 0 zt iv; rw [e, nI_clamp (by omega)]; exact e) (by obtain ⟨z, hz, e⟩ := tx_W_1 0 zt iv; rw [e, nI_clamp (by omega)]; exact hz)) (hS.k9 (Or.inl ⟨(by decide), (by decide)⟩)) rfl rfl rfl rfl (Nat.le_of_ble_eq_true rfl) ⟨(Nat.le_of_ble_eq_true rfl), (Nat.le_of_ble_eq_true rfl)⟩ ⟨Nat.zero_le _, Nat.zero_le _⟩ dX11_text_75 ?_
        refine A_iconst (pc := 78) (1) dX11_text_78 (by decide) ?_
        exact A_iretE (pc := 79) dX11_text_79 rfl (Nat.zero_le _) (Nat.zero_le _) (by rw [c_text, if_pos (show (tx_R 0 zt iv).1 < 0 from hb54)] <;> rfl) (by rw [c_text, if_pos (show (tx_R 0 zt iv).1 < 0 from hb54)] <;> rfl)
      · refine A_bipush (pc := 57) (-10) dX11_text_57 (by decide) ?_
        refine A_iload_n (pc := 59) (i := 2) dX11_text_59 rfl rfl ?_
        refine A_isub (pc := 60) dX11_text_60 ?_
        exact A_iretE (pc := 61) dX11_text_61 rfl (Nat.zero_le _) (Nat.zero_le _) (by rw [c_text, if_neg (show ¬ (tx_R 0 zt iv).1 < 0 from hb54)] <;> rfl) (by rw [c_text, if_neg (show ¬ (tx_R 0 zt iv).1 < 0 from hb54)] <;> rfl)
  · exact absurd hb6 (by decide)
set_option maxRecDepth 20000 in
theorem p_text1 (l : Launch) {kd : am_kd} {rv : am_rv} {iv : am_iv} (hS : sh kd rv) (hk0 : kd (40, 1, 0) = some (.inr (9, 0))) (hk1 : kd (40, 1, 1) = some (.inr (9, 0))) (zt : Nat) (ht : iv (12, 0, 0) 1 = nI zt) (hz50 : zt ≤ 50) (hby : ∀ k, k < zt → 0 ≤ iv (13, 0, 0) k ∧ iv (13, 0, 0) k ≤ 255) : am_Met l mX11_text (am_rm 7 0 0) [am_P (1, 0, 0), am_I 1] kd rv iv (am_ret (some (am_I (c_text 1 zt iv).1)) kd rv (c_text 1 zt iv).2) := by
  refine am_Met.of (by decide) (Nat.le_of_ble_eq_true rfl) rfl ?_
  refine A_iload_n (pc := 0) (i := 1) dX11_text_0 rfl rfl ?_
  refine A_iconst (pc := 1) (0) dX11_text_1 (by decide) ?_
  refine A_iconst (pc := 2) (1) dX11_text_2 (by decide) ?_
  refine A_callS1 (pc := 3) cs_X11_56 (s_isHeld l _ _ _) rfl rfl (Nat.le_of_ble_eq_true rfl) ⟨(Nat.le_of_ble_eq_true rfl), (Nat.le_of_ble_eq_true rfl)⟩ ⟨Nat.zero_le _, Nat.zero_le _⟩ dX11_text_3 ?_
  refine A_ifne (pc := 6) 16 dX11_text_6 (by decide) (fun hb6 => ?_) (fun hb6 => ?_)
  · refine A_aload_n (pc := 16) (i := 0) dX11_text_16 rfl rfl ?_
    refine A_getr (pc := 17) 7 fl_X11_45_11 hS.k1 rfl hS.w1_7 dX11_text_17 ?_
    refine A_aload_n (pc := 20) (i := 0) dX11_text_20 rfl rfl ?_
    refine A_getr (pc := 21) 0 fl_X11_12_11 hS.k1 rfl (hS.w1 (k := 0) (by decide)) dX11_text_21 ?_
    refine A_getr (pc := 24) 11 fl_X11_171_4 (hS.k2 (by decide)) rfl (hS.w2_11 (by decide)) dX11_text_24 ?_
    refine A_iload_n (pc := 27) (i := 1) dX11_text_27 rfl rfl ?_
    refine A_ifne (pc := 28) 36 dX11_text_28 (by decide) (fun hb28 => ?_) (fun hb28 => ?_)
    · refine A_ldcS1 (pc := 36) hk0 rfl dX11_text_36 ?_
      refine A_callV1 (pc := 38) cv_X11_186 (s_txread l (9, 4, 0) (10, 4, 0) (11, 4, 0) ⟨hS.k9 (Or.inr ⟨rfl, rfl⟩), hS.w9_0 (Or.inr ⟨rfl, rfl⟩), hS.w9_2 (Or.inr ⟨rfl, rfl⟩), hS.k10 (Or.inr ⟨rfl, rfl⟩), hS.k11 (Or.inr ⟨rfl, rfl⟩), by simp, by simp, by simp⟩ 1 (by decide) hk0 hk1 (12, 0, 0) (13, 0, 0) 50 ⟨hS.k12 (by decide), hS.w12 (by decide), hS.k13 (by decide)⟩ zt hz50 (by decide) (fun k => iv (13, 0, 0) k) hby (by simp) (by simp) (by simp) (by simp) (by simp) (by simp) ht (fun j _ => rfl)) (hS.k9 (Or.inr ⟨rfl, rfl⟩)) rfl rfl rfl rfl (Nat.le_of_ble_eq_true rfl) ⟨(Nat.le_of_ble_eq_true rfl), (Nat.le_of_ble_eq_true rfl)⟩ ⟨Nat.zero_le _, Nat.zero_le _⟩ dX11_text_38 ?_
      refine A_ist2 (pc := 41) dX11_text_41 (Nat.le_of_ble_eq_true rfl) rfl ?_
      refine A_aload_n (pc := 42) (i := 0) dX11_text_42 rfl rfl ?_
      refine A_getr (pc := 43) 0 fl_X11_12_11 hS.k1 rfl (hS.w1 (k := 0) (by decide)) dX11_text_43 ?_
      refine A_getr (pc := 46) 11 fl_X11_171_4 (hS.k2 (by decide)) rfl (hS.w2_11 (by decide)) dX11_text_46 ?_
      refine A_iconst (pc := 49) (0) dX11_text_49 (by decide) ?_
      refine A_puti (pc := 50) 1 fl_X11_174_5 (hS.k12 (by decide)) rfl (by decide +kernel) rfl rfl dX11_text_50 ?_
      refine A_iload_n (pc := 53) (i := 2) dX11_text_53 rfl rfl ?_
      refine A_iflt (pc := 54) 62 dX11_text_54 (by decide) (fun hb54 => ?_) (fun hb54 => ?_)
      · refine A_aload_n (pc := 62) (i := 0) dX11_text_62 rfl rfl ?_
        refine A_getr (pc := 63) 0 fl_X11_12_11 hS.k1 rfl (hS.w1 (k := 0) (by decide)) dX11_text_63 ?_
        refine A_getr (pc := 66) 10 fl_X11_190_4 (hS.k2 (by decide)) rfl (hS.w2_10 (by decide)) dX11_text_66 ?_
        refine A_iload_n (pc := 69) (i := 1) dX11_text_69 rfl rfl ?_
        refine A_aaldN (pc := 70) (hS.k8 (by decide)) (by decide) (by decide) (by decide) (by decide) (hS.w8 (by decide) (by decide)) dX11_text_70 ?_
        refine A_aload_n (pc := 71) (i := 0) dX11_text_71 rfl rfl ?_
        refine A_getr (pc := 72) 7 fl_X11_45_11 hS.k1 rfl hS.w1_7 dX11_text_72 ?_
        refine A_callV0 (pc := 75) cv_X11_194 (s_txbecome l (9, 0, 1) (10, 0, 1) (11, 0, 1) ⟨hS.k9 (Or.inl ⟨by decide, by decide⟩), hS.w9_0 (Or.inl ⟨by decide, by decide⟩), hS.w9_2 (Or.inl ⟨by decide, by decide⟩), hS.k10 (Or.inl ⟨by decide, by decide⟩), hS.k11 (Or.inl ⟨by decide, by decide⟩), by simp, by simp, by simp⟩ (9, 4, 0) (10, 4, 0) (11, 4, 0) ⟨hS.k9 (Or.inr ⟨rfl, rfl⟩), hS.w9_0 (Or.inr ⟨rfl, rfl⟩), hS.w9_2 (Or.inr ⟨rfl, rfl⟩), hS.k10 (Or.inr ⟨rfl, rfl⟩), hS.k11 (Or.inr ⟨rfl, rfl⟩), by simp, by simp, by simp⟩ (tx_W 1 zt iv (9, 4, 0) 1).toNatClampNeg (by obtain ⟨z, hz, e⟩ := tx_W_1 1 zt iv; rw [e, nI_clamp (by omega)]; exact e) (by obtain ⟨z, hz, e⟩ := tx_W_1 1 zt iv; rw [e, nI_clamp (by omega)]; exact hz)) (hS.k9 (Or.inl ⟨(by decide), (by decide)⟩)) rfl rfl rfl rfl (Nat.le_of_ble_eq_true rfl) ⟨(Nat.le_of_ble_eq_true rfl), (Nat.le_of_ble_eq_true rfl)⟩ ⟨Nat.zero_le _, Nat.zero_le _⟩ dX11_text_75 ?_
        refine A_iconst (pc := 78) (1) dX11_text_78 (by decide) ?_
        exact A_iretE (pc := 79) dX11_text_79 rfl (Nat.zero_le _) (Nat.zero_le _) (by rw [c_text, if_pos (show (tx_R 1 zt iv).1 < 0 from hb54)] <;> rfl) (by rw [c_text, if_pos (show (tx_R 1 zt iv).1 < 0 from hb54)] <;> rfl)
      · refine A_bipush (pc := 57) (-10) dX11_text_57 (by decide) ?_
        refine A_iload_n (pc := 59) (i := 2) dX11_text_59 rfl rfl ?_
        refine A_isub (pc := 60) dX11_text_60 ?_
        exact A_iretE (pc := 61) dX11_text_61 rfl (Nat.zero_le _) (Nat.zero_le _) (by rw [c_text, if_neg (show ¬ (tx_R 1 zt iv).1 < 0 from hb54)] <;> rfl) (by rw [c_text, if_neg (show ¬ (tx_R 1 zt iv).1 < 0 from hb54)] <;> rfl)
    · exact absurd hb28 (by decide)
  · exact absurd hb6 (by decide)
set_option maxRecDepth 20000 in
theorem p_textE (l : Launch) {kd : am_kd} {rv : am_rv} {iv : am_iv} (hS : sh kd rv) (x : Int32) (hx : sr_b (0 ≤ x ∧ x ≤ 1) = 0) : am_Met l mX11_text (am_rm 2 0 0) [am_P (1, 0, 0), am_I x] kd rv iv (am_ret (some (am_I (-1000000001))) kd rv (er_heap 1 iv)) := by
  refine am_Met.of (by decide) (Nat.le_of_ble_eq_true rfl) rfl ?_
  refine A_iload_n (pc := 0) (i := 1) dX11_text_0 rfl rfl ?_
  refine A_iconst (pc := 1) (0) dX11_text_1 (by decide) ?_
  refine A_iconst (pc := 2) (1) dX11_text_2 (by decide) ?_
  refine A_callS1 (pc := 3) cs_X11_56 (s_isHeld l _ _ _) rfl rfl (Nat.le_of_ble_eq_true rfl) ⟨(Nat.le_of_ble_eq_true rfl), (Nat.le_of_ble_eq_true rfl)⟩ ⟨Nat.zero_le _, Nat.zero_le _⟩ dX11_text_3 ?_
  refine A_ifne (pc := 6) 16 dX11_text_6 (by decide) (fun hb6 => ?_) (fun hb6 => ?_)
  · exact absurd hx hb6
  · refine A_aload_n (pc := 9) (i := 0) dX11_text_9 rfl rfl ?_
    refine A_ldc (pc := 10) (List.mem_cons_of_mem _ kc_X11_60) dX11_text_10 ?_
    refine A_callV1 (pc := 12) cv_X11_61 (s_err1 l hS) hS.k1 rfl rfl rfl rfl (Nat.le_of_ble_eq_true rfl) ⟨(Nat.le_of_ble_eq_true rfl), (Nat.le_of_ble_eq_true rfl)⟩ ⟨Nat.zero_le _, Nat.zero_le _⟩ dX11_text_12 ?_
    exact A_iretE (pc := 15) dX11_text_15 rfl (Nat.zero_le _) (Nat.zero_le _) ((rfl)) ((rfl))
/-- bytes are kept as the text of a use -/
def tc (u : Nat) (w : am_iv) (k : Nat) : am_iv := fun n q => if n = (31, 0, 0) ∧ 150 + 50 * u ≤ q ∧ q < 150 + 50 * u + k then w (31, 0, 0) (250 + (q - (150 + 50 * u))) else w n q
theorem tc_0 (u : Nat) (w : am_iv) : tc u w 0 = w := by funext n q; unfold tc; rw [if_neg (by omega)]
theorem tc_s (u : Nat) (w : am_iv) (k : Nat) (hu : u < 2) (hk : k < 50) : am_ui (tc u w k) (31, 0, 0) (150 + 50 * u + k) (tc u w k (31, 0, 0) (250 + k)) = tc u w (k + 1) := by
  funext n q
  have e9 : tc u w k (31, 0, 0) (250 + k) = w (31, 0, 0) (250 + k) := by unfold tc; rw [if_neg (by omega)]
  rw [e9]
  simp only [tc, am_ui]
  by_cases e : n = (31, 0, 0)
  · by_cases e2 : q = 150 + 50 * u + k
    · rw [if_pos ⟨e, e2⟩, if_pos ⟨e, by omega, by omega⟩, show q - (150 + 50 * u) = k by omega]
    · rw [if_neg (fun h => e2 h.2)]
      by_cases e3 : 150 + 50 * u ≤ q ∧ q < 150 + 50 * u + k
      · rw [if_pos ⟨e, e3⟩, if_pos ⟨e, e3.1, by omega⟩]
      · rw [if_neg (fun h => e3 h.2), if_neg (fun h => e3 ⟨h.2.1, by omega⟩)]
  · rw [if_neg (fun h => e h.1), if_neg (fun h => e h.1), if_neg (fun h => e h.1)]
def tx_V (u zt : Nat) (iv : am_iv) : Int32 × ps := pV (fun p => am_ui iv (31, 0, 0) 7 0 (31, 0, 0) (250 + p)) zt (if nI u = 0 then 1 else 0) (fun q => am_ui iv (31, 0, 0) 7 0 (31, 13, 0) q)
def tx_H (u zt : Nat) (iv : am_iv) : am_iv := hp (wk_iv 250 zt (if nI u = 0 then 1 else 0) (am_ui iv (31, 0, 0) 7 0)) (tx_V u zt iv).2
def d_text (u zt : Nat) (iv : am_iv) : Int32 × am_iv := if (tx_V u zt iv).2.2.1 < 0 then (1, tc u (am_ui (tx_H u zt iv) (31, 0, 0) (40 + u) (nI zt)) zt) else (-10 - (tx_V u zt iv).2.2.1, tx_H u zt iv)
set_option maxRecDepth 20000 in
theorem tcr_loop0 (l : Launch) {kd : am_kd} {rv : am_rv} (hR : shr kd rv) (zt : Nat) (hz50 : zt ≤ 50) (x3 : Int32) (w : am_iv) : ∀ j, j ≤ zt → am_W l mX12_text (am_rm 40 0 0) (am_ret (some (am_I 1)) kd rv (tc 0 w zt)) 70 [some (am_P (30, 0, 0)), some (am_I 0), some (am_I (nI zt)), some (am_I x3), some (am_I (nI j))] [] kd rv (tc 0 w j) 0 0 := by
  refine am_for _ zt ?_ (fun j hj ih => ?_)
  · refine A_iload (pc := 70) (i := 4) dX12_text_70 rfl ?_
    refine A_iload_n (pc := 72) (i := 2) dX12_text_72 rfl rfl ?_
    refine A_icmpge (pc := 73) 109 dX12_text_73 (by decide) (fun hb73 => ?_) (fun hb73 => ?_)
    · refine A_iconst (pc := 109) (1) dX12_text_109 (by decide) ?_
      exact A_iretE (pc := 110) dX12_text_110 rfl (Nat.zero_le _) (Nat.zero_le _) (rfl) (rfl)
    · exact absurd (Int32.le_refl _) hb73
  · refine A_iload (pc := 70) (i := 4) dX12_text_70 rfl ?_
    refine A_iload_n (pc := 72) (i := 2) dX12_text_72 rfl rfl ?_
    refine A_icmpge (pc := 73) 109 dX12_text_73 (by decide) (fun hb73 => ?_) (fun hb73 => ?_)
    · exact absurd hb73 (nI_ge hj (by omega))
    · refine A_aload_n (pc := 76) (i := 0) dX12_text_76 rfl rfl ?_
      refine A_getr (pc := 77) 0 fl_X12_7_12 hR.1 rfl hR.w0 dX12_text_77 ?_
      refine A_sipush (pc := 80) (150) dX12_text_80 (by decide) ?_
      refine A_bipush (pc := 83) (50) dX12_text_83 (by decide) ?_
      refine A_iload_n (pc := 85) (i := 1) dX12_text_85 rfl rfl ?_
      refine A_imul (pc := 86) dX12_text_86 ?_
      refine A_iadd (pc := 87) dX12_text_87 ?_
      refine A_iload (pc := 88) (i := 4) dX12_text_88 rfl ?_
      refine A_iadd (pc := 90) dX12_text_90 ?_
      refine A_top (y := nI (150 + j)) (nI_add 150 j) ?_
      refine A_aload_n (pc := 91) (i := 0) dX12_text_91 rfl rfl ?_
      refine A_getr (pc := 92) 0 fl_X12_7_12 hR.1 rfl hR.w0 dX12_text_92 ?_
      refine A_sipush (pc := 95) (250) dX12_text_95 (by decide) ?_
      refine A_iload (pc := 98) (i := 4) dX12_text_98 rfl ?_
      refine A_iadd (pc := 100) dX12_text_100 ?_
      refine A_top (y := nI (250 + j)) (nI_add 250 j) ?_
      refine A_ialdN (pc := 101) hR.k0 (show 250 + j < 300 by omega) (by decide) dX12_text_101 ?_
      refine A_iastN (pc := 102) hR.k0 (show 150 + j < 300 by omega) (by decide) dX12_text_102 ?_
      refine A_heap (tc_s 0 w j (by decide) (by omega)) ?_
      refine A_inc4 (pc := 103) (nI (j + 1)) dX12_text_103 (nI_1 j) (Nat.le_of_ble_eq_true rfl) rfl ?_
      refine A_goto (pc := 106) 70 dX12_text_106 (by decide) ?_
      exact ih
set_option maxRecDepth 20000 in
theorem q_text0 (l : Launch) {kd : am_kd} {rv : am_rv} {iv : am_iv} (hR : shr kd rv) (zt : Nat) (ht : iv (31, 0, 0) 7 = nI zt) (hz50 : zt ≤ 50) : am_Met l mX12_text (am_rm 40 0 0) [am_P (30, 0, 0), am_I 0] kd rv iv (am_ret (some (am_I (d_text 0 zt iv).1)) kd rv (d_text 0 zt iv).2) := by
  refine am_Met.of (by decide) (Nat.le_of_ble_eq_true rfl) rfl ?_
  refine A_iload_n (pc := 0) (i := 1) dX12_text_0 rfl rfl ?_
  refine A_i2l (pc := 1) dX12_text_1 ?_
  refine A_lconst (pc := 2) (0) dX12_text_2 (by decide) ?_
  refine A_topJ (y := Int32.toInt64 (0)) (by decide +kernel) ?_
  refine A_lconst (pc := 3) (1) dX12_text_3 (by decide) ?_
  refine A_topJ (y := Int32.toInt64 (1)) (by decide +kernel) ?_
  refine A_callS1 (pc := 4) cs_X12_48 (r_in l _ _ _) rfl rfl (Nat.le_of_ble_eq_true rfl) ⟨(Nat.le_of_ble_eq_true rfl), (Nat.le_of_ble_eq_true rfl)⟩ ⟨Nat.zero_le _, Nat.zero_le _⟩ dX12_text_4 ?_
  refine A_ifne (pc := 7) 16 dX12_text_7 (by decide) (fun hb7 => ?_) (fun hb7 => ?_)
  · refine A_aload_n (pc := 16) (i := 0) dX12_text_16 rfl rfl ?_
    refine A_getr (pc := 17) 0 fl_X12_7_12 hR.1 rfl hR.w0 dX12_text_17 ?_
    refine A_bipush (pc := 20) (7) dX12_text_20 (by decide) ?_
    refine A_ialdN (pc := 22) hR.k0 (show 7 < 300 by decide) (by decide) dX12_text_22 ?_
    refine A_top ht ?_
    refine A_ist2 (pc := 23) dX12_text_23 (Nat.le_of_ble_eq_true rfl) rfl ?_
    refine A_aload_n (pc := 24) (i := 0) dX12_text_24 rfl rfl ?_
    refine A_getr (pc := 25) 0 fl_X12_7_12 hR.1 rfl hR.w0 dX12_text_25 ?_
    refine A_bipush (pc := 28) (7) dX12_text_28 (by decide) ?_
    refine A_iconst (pc := 30) (0) dX12_text_30 (by decide) ?_
    refine A_iastN (pc := 31) hR.k0 (show 7 < 300 by decide) (by decide) dX12_text_31 ?_
    refine A_aload_n (pc := 32) (i := 0) dX12_text_32 rfl rfl ?_
    refine A_sipush (pc := 33) (250) dX12_text_33 (by decide) ?_
    refine A_iload_n (pc := 36) (i := 2) dX12_text_36 rfl rfl ?_
    refine A_iload_n (pc := 37) (i := 1) dX12_text_37 rfl rfl ?_
    refine A_heap rfl ?_
    refine A_callV1 (pc := 38) cv_X12_189 (r_worked l hR 250 zt (by omega) 0) hR.1 rfl rfl rfl rfl (Nat.le_of_ble_eq_true rfl) ⟨(Nat.le_of_ble_eq_true rfl), (Nat.le_of_ble_eq_true rfl)⟩ ⟨Nat.zero_le _, Nat.zero_le _⟩ dX12_text_38 ?_
    refine A_heap (iv' := tx_H 0 zt iv) rfl ?_
    refine A_ist3 (pc := 41) dX12_text_41 (Nat.le_of_ble_eq_true rfl) rfl ?_
    refine A_aload_n (pc := 42) (i := 0) dX12_text_42 rfl rfl ?_
    refine A_geti (pc := 43) 10 fl_X12_137_12 hR.1 rfl dX12_text_43 ?_
    refine A_top (y := (tx_V 0 zt iv).2.2.1) rfl ?_
    refine A_iflt (pc := 46) 57 dX12_text_46 (by decide) (fun hb46 => ?_) (fun hb46 => ?_)
    · have hf : (tx_V 0 zt iv).2.2.1 < 0 := hb46
      refine A_aload_n (pc := 57) (i := 0) dX12_text_57 rfl rfl ?_
      refine A_getr (pc := 58) 0 fl_X12_7_12 hR.1 rfl hR.w0 dX12_text_58 ?_
      refine A_bipush (pc := 61) (40) dX12_text_61 (by decide) ?_
      refine A_iload_n (pc := 63) (i := 1) dX12_text_63 rfl rfl ?_
      refine A_iadd (pc := 64) dX12_text_64 ?_
      refine A_top (y := nI (40 + 0)) (by decide) ?_
      refine A_iload_n (pc := 65) (i := 2) dX12_text_65 rfl rfl ?_
      refine A_iastN (pc := 66) hR.k0 (show 40 + 0 < 300 by decide) (by decide) dX12_text_66 ?_
      refine A_iconst (pc := 67) (0) dX12_text_67 (by decide) ?_
      refine A_ist4 (pc := 68) dX12_text_68 (Nat.le_of_ble_eq_true rfl) rfl ?_
      rw [d_text, if_pos hf]
      have h := tcr_loop0 l hR zt hz50 (tx_V 0 zt iv).1 (am_ui (tx_H 0 zt iv) (31, 0, 0) (40 + 0) (nI zt)) 0 (Nat.zero_le _)
      rw [tc_0] at h
      exact h
    · have hf : ¬ (tx_V 0 zt iv).2.2.1 < 0 := hb46
      refine A_bipush (pc := 49) (-10) dX12_text_49 (by decide) ?_
      refine A_aload_n (pc := 51) (i := 0) dX12_text_51 rfl rfl ?_
      refine A_geti (pc := 52) 10 fl_X12_137_12 hR.1 rfl dX12_text_52 ?_
      refine A_top (y := (tx_V 0 zt iv).2.2.1) rfl ?_
      refine A_isub (pc := 55) dX12_text_55 ?_
      exact A_iretE (pc := 56) dX12_text_56 rfl (Nat.zero_le _) (Nat.zero_le _) (by rw [d_text, if_neg hf]) (by rw [d_text, if_neg hf])
  · exact absurd hb7 (by decide)
set_option maxRecDepth 20000 in
theorem tcr_loop1 (l : Launch) {kd : am_kd} {rv : am_rv} (hR : shr kd rv) (zt : Nat) (hz50 : zt ≤ 50) (x3 : Int32) (w : am_iv) : ∀ j, j ≤ zt → am_W l mX12_text (am_rm 40 0 0) (am_ret (some (am_I 1)) kd rv (tc 1 w zt)) 70 [some (am_P (30, 0, 0)), some (am_I 1), some (am_I (nI zt)), some (am_I x3), some (am_I (nI j))] [] kd rv (tc 1 w j) 0 0 := by
  refine am_for _ zt ?_ (fun j hj ih => ?_)
  · refine A_iload (pc := 70) (i := 4) dX12_text_70 rfl ?_
    refine A_iload_n (pc := 72) (i := 2) dX12_text_72 rfl rfl ?_
    refine A_icmpge (pc := 73) 109 dX12_text_73 (by decide) (fun hb73 => ?_) (fun hb73 => ?_)
    · refine A_iconst (pc := 109) (1) dX12_text_109 (by decide) ?_
      exact A_iretE (pc := 110) dX12_text_110 rfl (Nat.zero_le _) (Nat.zero_le _) (rfl) (rfl)
    · exact absurd (Int32.le_refl _) hb73
  · refine A_iload (pc := 70) (i := 4) dX12_text_70 rfl ?_
    refine A_iload_n (pc := 72) (i := 2) dX12_text_72 rfl rfl ?_
    refine A_icmpge (pc := 73) 109 dX12_text_73 (by decide) (fun hb73 => ?_) (fun hb73 => ?_)
    · exact absurd hb73 (nI_ge hj (by omega))
    · refine A_aload_n (pc := 76) (i := 0) dX12_text_76 rfl rfl ?_
      refine A_getr (pc := 77) 0 fl_X12_7_12 hR.1 rfl hR.w0 dX12_text_77 ?_
      refine A_sipush (pc := 80) (150) dX12_text_80 (by decide) ?_
      refine A_bipush (pc := 83) (50) dX12_text_83 (by decide) ?_
      refine A_iload_n (pc := 85) (i := 1) dX12_text_85 rfl rfl ?_
      refine A_imul (pc := 86) dX12_text_86 ?_
      refine A_iadd (pc := 87) dX12_text_87 ?_
      refine A_iload (pc := 88) (i := 4) dX12_text_88 rfl ?_
      refine A_iadd (pc := 90) dX12_text_90 ?_
      refine A_top (y := nI (200 + j)) (nI_add 200 j) ?_
      refine A_aload_n (pc := 91) (i := 0) dX12_text_91 rfl rfl ?_
      refine A_getr (pc := 92) 0 fl_X12_7_12 hR.1 rfl hR.w0 dX12_text_92 ?_
      refine A_sipush (pc := 95) (250) dX12_text_95 (by decide) ?_
      refine A_iload (pc := 98) (i := 4) dX12_text_98 rfl ?_
      refine A_iadd (pc := 100) dX12_text_100 ?_
      refine A_top (y := nI (250 + j)) (nI_add 250 j) ?_
      refine A_ialdN (pc := 101) hR.k0 (show 250 + j < 300 by omega) (by decide) dX12_text_101 ?_
      refine A_iastN (pc := 102) hR.k0 (show 200 + j < 300 by omega) (by decide) dX12_text_102 ?_
      refine A_heap (tc_s 1 w j (by decide) (by omega)) ?_
      refine A_inc4 (pc := 103) (nI (j + 1)) dX12_text_103 (nI_1 j) (Nat.le_of_ble_eq_true rfl) rfl ?_
      refine A_goto (pc := 106) 70 dX12_text_106 (by decide) ?_
      exact ih
set_option maxRecDepth 20000 in
theorem q_text1 (l : Launch) {kd : am_kd} {rv : am_rv} {iv : am_iv} (hR : shr kd rv) (zt : Nat) (ht : iv (31, 0, 0) 7 = nI zt) (hz50 : zt ≤ 50) : am_Met l mX12_text (am_rm 40 0 0) [am_P (30, 0, 0), am_I 1] kd rv iv (am_ret (some (am_I (d_text 1 zt iv).1)) kd rv (d_text 1 zt iv).2) := by
  refine am_Met.of (by decide) (Nat.le_of_ble_eq_true rfl) rfl ?_
  refine A_iload_n (pc := 0) (i := 1) dX12_text_0 rfl rfl ?_
  refine A_i2l (pc := 1) dX12_text_1 ?_
  refine A_lconst (pc := 2) (0) dX12_text_2 (by decide) ?_
  refine A_topJ (y := Int32.toInt64 (0)) (by decide +kernel) ?_
  refine A_lconst (pc := 3) (1) dX12_text_3 (by decide) ?_
  refine A_topJ (y := Int32.toInt64 (1)) (by decide +kernel) ?_
  refine A_callS1 (pc := 4) cs_X12_48 (r_in l _ _ _) rfl rfl (Nat.le_of_ble_eq_true rfl) ⟨(Nat.le_of_ble_eq_true rfl), (Nat.le_of_ble_eq_true rfl)⟩ ⟨Nat.zero_le _, Nat.zero_le _⟩ dX12_text_4 ?_
  refine A_ifne (pc := 7) 16 dX12_text_7 (by decide) (fun hb7 => ?_) (fun hb7 => ?_)
  · refine A_aload_n (pc := 16) (i := 0) dX12_text_16 rfl rfl ?_
    refine A_getr (pc := 17) 0 fl_X12_7_12 hR.1 rfl hR.w0 dX12_text_17 ?_
    refine A_bipush (pc := 20) (7) dX12_text_20 (by decide) ?_
    refine A_ialdN (pc := 22) hR.k0 (show 7 < 300 by decide) (by decide) dX12_text_22 ?_
    refine A_top ht ?_
    refine A_ist2 (pc := 23) dX12_text_23 (Nat.le_of_ble_eq_true rfl) rfl ?_
    refine A_aload_n (pc := 24) (i := 0) dX12_text_24 rfl rfl ?_
    refine A_getr (pc := 25) 0 fl_X12_7_12 hR.1 rfl hR.w0 dX12_text_25 ?_
    refine A_bipush (pc := 28) (7) dX12_text_28 (by decide) ?_
    refine A_iconst (pc := 30) (0) dX12_text_30 (by decide) ?_
    refine A_iastN (pc := 31) hR.k0 (show 7 < 300 by decide) (by decide) dX12_text_31 ?_
    refine A_aload_n (pc := 32) (i := 0) dX12_text_32 rfl rfl ?_
    refine A_sipush (pc := 33) (250) dX12_text_33 (by decide) ?_
    refine A_iload_n (pc := 36) (i := 2) dX12_text_36 rfl rfl ?_
    refine A_iload_n (pc := 37) (i := 1) dX12_text_37 rfl rfl ?_
    refine A_heap rfl ?_
    refine A_callV1 (pc := 38) cv_X12_189 (r_worked l hR 250 zt (by omega) 1) hR.1 rfl rfl rfl rfl (Nat.le_of_ble_eq_true rfl) ⟨(Nat.le_of_ble_eq_true rfl), (Nat.le_of_ble_eq_true rfl)⟩ ⟨Nat.zero_le _, Nat.zero_le _⟩ dX12_text_38 ?_
    refine A_heap (iv' := tx_H 1 zt iv) rfl ?_
    refine A_ist3 (pc := 41) dX12_text_41 (Nat.le_of_ble_eq_true rfl) rfl ?_
    refine A_aload_n (pc := 42) (i := 0) dX12_text_42 rfl rfl ?_
    refine A_geti (pc := 43) 10 fl_X12_137_12 hR.1 rfl dX12_text_43 ?_
    refine A_top (y := (tx_V 1 zt iv).2.2.1) rfl ?_
    refine A_iflt (pc := 46) 57 dX12_text_46 (by decide) (fun hb46 => ?_) (fun hb46 => ?_)
    · have hf : (tx_V 1 zt iv).2.2.1 < 0 := hb46
      refine A_aload_n (pc := 57) (i := 0) dX12_text_57 rfl rfl ?_
      refine A_getr (pc := 58) 0 fl_X12_7_12 hR.1 rfl hR.w0 dX12_text_58 ?_
      refine A_bipush (pc := 61) (40) dX12_text_61 (by decide) ?_
      refine A_iload_n (pc := 63) (i := 1) dX12_text_63 rfl rfl ?_
      refine A_iadd (pc := 64) dX12_text_64 ?_
      refine A_top (y := nI (40 + 1)) (by decide) ?_
      refine A_iload_n (pc := 65) (i := 2) dX12_text_65 rfl rfl ?_
      refine A_iastN (pc := 66) hR.k0 (show 40 + 1 < 300 by decide) (by decide) dX12_text_66 ?_
      refine A_iconst (pc := 67) (0) dX12_text_67 (by decide) ?_
      refine A_ist4 (pc := 68) dX12_text_68 (Nat.le_of_ble_eq_true rfl) rfl ?_
      rw [d_text, if_pos hf]
      have h := tcr_loop1 l hR zt hz50 (tx_V 1 zt iv).1 (am_ui (tx_H 1 zt iv) (31, 0, 0) (40 + 1) (nI zt)) 0 (Nat.zero_le _)
      rw [tc_0] at h
      exact h
    · have hf : ¬ (tx_V 1 zt iv).2.2.1 < 0 := hb46
      refine A_bipush (pc := 49) (-10) dX12_text_49 (by decide) ?_
      refine A_aload_n (pc := 51) (i := 0) dX12_text_51 rfl rfl ?_
      refine A_geti (pc := 52) 10 fl_X12_137_12 hR.1 rfl dX12_text_52 ?_
      refine A_top (y := (tx_V 1 zt iv).2.2.1) rfl ?_
      refine A_isub (pc := 55) dX12_text_55 ?_
      exact A_iretE (pc := 56) dX12_text_56 rfl (Nat.zero_le _) (Nat.zero_le _) (by rw [d_text, if_neg hf]) (by rw [d_text, if_neg hf])
  · exact absurd hb7 (by decide)
set_option maxRecDepth 20000 in
theorem q_textE (l : Launch) {kd : am_kd} {rv : am_rv} {iv : am_iv} (hR : shr kd rv) (x : Int32) (hx : sr_b (0 ≤ x ∧ x ≤ 1) = 0) : am_Met l mX12_text (am_rm 2 0 0) [am_P (30, 0, 0), am_I x] kd rv iv (am_ret (some (am_I (-1000000001))) kd rv (rx_find 1 iv)) := by
  refine am_Met.of (by decide) (Nat.le_of_ble_eq_true rfl) rfl ?_
  refine A_iload_n (pc := 0) (i := 1) dX12_text_0 rfl rfl ?_
  refine A_i2l (pc := 1) dX12_text_1 ?_
  refine A_lconst (pc := 2) (0) dX12_text_2 (by decide) ?_
  refine A_topJ (y := Int32.toInt64 (0)) (by decide +kernel) ?_
  refine A_lconst (pc := 3) (1) dX12_text_3 (by decide) ?_
  refine A_topJ (y := Int32.toInt64 (1)) (by decide +kernel) ?_
  refine A_callS1 (pc := 4) cs_X12_48 (r_in l _ _ _) rfl rfl (Nat.le_of_ble_eq_true rfl) ⟨(Nat.le_of_ble_eq_true rfl), (Nat.le_of_ble_eq_true rfl)⟩ ⟨Nat.zero_le _, Nat.zero_le _⟩ dX12_text_4 ?_
  refine A_ifne (pc := 7) 16 dX12_text_7 (by decide) (fun hb7 => ?_) (fun hb7 => ?_)
  · exact absurd hx hb7
  · refine A_aload_n (pc := 10) (i := 0) dX12_text_10 rfl rfl ?_
    refine A_iconst (pc := 11) (1) dX12_text_11 (by decide) ?_
    refine A_callV1 (pc := 12) cv_X12_65 (r_fnd1 l hR) hR.1 rfl rfl rfl rfl (Nat.le_of_ble_eq_true rfl) ⟨(Nat.le_of_ble_eq_true rfl), (Nat.le_of_ble_eq_true rfl)⟩ ⟨Nat.zero_le _, Nat.zero_le _⟩ dX12_text_12 ?_
    exact A_iretE (pc := 15) dX12_text_15 rfl (Nat.zero_le _) (Nat.zero_le _) ((rfl)) ((rfl))
