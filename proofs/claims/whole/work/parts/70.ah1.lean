theorem tQ.it {a n nl z : Nat} {ln : Nat → am_N} {lk : Nat → Nat} (ha : a < 3) {w : am_iv} (N : Nat) (h : tQ a n nl z ln lk w) : tQ a n nl z ln lk (_root_.Jvm.Pilot.CSmokeRingsLaw_law_r5279_9afc0a.it (rm_tick 1 n z nl ln lk) N w) := by
  obtain ⟨y, u, h⟩ := h
  exact ⟨y, _, h.it ha N⟩
theorem rQ.it {a n nl y : Nat} {lk : Nat → Nat} (ha : a < 3) {u : am_iv} (N : Nat) (h : rQ a n nl y lk u) : rQ a n nl y lk (_root_.Jvm.Pilot.CSmokeRingsLaw_law_r5279_9afc0a.it (rt_tick a n nl y lk) N u) := by
  obtain ⟨z, ln, w, h⟩ := h
  exact ⟨z, ln, _, h.it ha N⟩
theorem rQ.rok {a n nl y : Nat} {lk : Nat → Nat} {u : am_iv} (h : rQ a n nl y lk u) : ∀ r, r < n → _root_.Jvm.Pilot.CSmokeRingsLaw_law_r5279_9afc0a.rok (rf u (31, a, 0) r) := (rQ.ref u h).2.2.2.2.2.2.1
theorem chU.tff {a : Nat} {T : am_iv → am_iv} {F : am_iv → Int32} (hT : ∀ w, chU a w (T w)) (N : Nat) : ∀ c f w, chU a w (tf T F N c f w).2 := by
  induction N with
  | zero => intro c f w; exact chU.rf _ _
  | succ N ih =>
    intro c f w
    unfold tf
    split
    · exact chU.rf _ _
    · exact (hT w).tr (ih _ _ _)
theorem chU.fii {a : Nat} {T : am_iv → am_iv} {m : am_N} {r : Nat} (hT : ∀ w, chU a w (T w)) (N : Nat) : ∀ g w, chU a w (fi T m r N g w).2 := by
  induction N with
  | zero =>
    intro g w
    unfold fi
    split <;> exact chU.rf _ _
  | succ N ih =>
    intro g w
    unfold fi
    split
    · exact (hT w).tr (ih _ _)
    · exact chU.rf _ _
noncomputable def c_then (x y t : Int32) (n nl z0 z1 zt zw : Nat) (ln : Nat → am_N) (lk : Nat → Nat) (rv : am_rv) (iv : am_iv) : Int32 × am_rv × am_iv := if sr_b (0 ≤ x ∧ x ≤ 60) = 0 then (-1000000001, rv, er_heap 1 iv) else if sr_b (0 ≤ y ∧ y < iv (2, 0, 0) 1) = 0 then (-1000000001, rv, er_heap 1 iv) else if sr_b (0 ≤ t ∧ t ≤ 7) = 0 then (-1000000001, rv, er_heap 1 iv) else (rg_trait ((it (rm_tick 1 n z1 nl ln lk) x.toNatClampNeg (rb_heap 1 0 n z0 z1 zt zw iv)) (4, 1, y.toNatClampNeg)) t, (lw_cp 1 0 rv 6), (it (rm_tick 1 n z1 nl ln lk) x.toNatClampNeg (rb_heap 1 0 n z0 z1 zt zw iv)))
set_option maxRecDepth 20000 in
theorem p_then (l : Launch) {kd : am_kd} {rv : am_rv} {iv : am_iv} (hS : sh kd rv) (x y t : Int32) (n nl z0 z1 zt zw : Nat) (ln : Nat → am_N) (lk : Nat → Nat) (hA : AH kd rv n z0 z1 zt zw iv) (hl : rm_laws kd (lw_cp 1 0 rv 6) (rb_heap 1 0 n z0 z1 zt zw iv) 1 nl ln lk) (hq : tQ 1 n nl z1 ln lk (rb_heap 1 0 n z0 z1 zt zw iv)) : am_Met l mX11_then (am_rm 10 0 0) [am_P (1, 0, 0), am_I x, am_I y, am_I t] kd rv iv (am_ret (some (am_I (c_then x y t n nl z0 z1 zt zw ln lk rv iv).1)) kd (c_then x y t n nl z0 z1 zt zw ln lk rv iv).2.1 (c_then x y t n nl z0 z1 zt zw ln lk rv iv).2.2) := by
  refine am_Met.of (by decide) (Nat.le_of_ble_eq_true rfl) rfl ?_
  have hn := hA.1.1
  have hn8 := hA.1.2.1
  refine A_iload_n (pc := 0) (i := 1) dX11_then_0 rfl rfl ?_
  refine A_callS1 (pc := 1) cs_X11_211 (s_isAhead l _) rfl rfl (Nat.le_of_ble_eq_true rfl) ⟨(Nat.le_of_ble_eq_true rfl), (Nat.le_of_ble_eq_true rfl)⟩ ⟨Nat.zero_le _, Nat.zero_le _⟩ dX11_then_1 ?_
  refine A_ifeq (pc := 4) 28 dX11_then_4 (by decide) (fun hb4 => ?_) (fun hb4 => ?_)
  · refine A_aload_n (pc := 28) (i := 0) dX11_then_28 rfl rfl ?_
    refine A_ldc (pc := 29) (List.mem_cons_of_mem _ kc_X11_60) dX11_then_29 ?_
    refine A_callV1 (pc := 31) cv_X11_61 (s_err1 l hS) hS.k1 rfl rfl rfl rfl (Nat.le_of_ble_eq_true rfl) ⟨(Nat.le_of_ble_eq_true rfl), (Nat.le_of_ble_eq_true rfl)⟩ ⟨Nat.zero_le _, Nat.zero_le _⟩ dX11_then_31 ?_
    rw [c_then, if_pos hb4]
    exact A_iretE (pc := 34) dX11_then_34 rfl (Nat.zero_le _) (Nat.zero_le _) ((rfl)) ((rfl))
  · refine A_aload_n (pc := 7) (i := 0) dX11_then_7 rfl rfl ?_
    refine A_getr (pc := 8) 0 fl_X11_12_11 hS.k1 rfl (hS.w1 (k := 0) (by decide)) dX11_then_8 ?_
    refine A_iload_n (pc := 11) (i := 2) dX11_then_11 rfl rfl ?_
    refine A_callV1 (pc := 12) cv_X11_74 (s_hasRing l hS _ (by decide) _) (hS.k2 (by decide)) rfl rfl rfl rfl (Nat.le_of_ble_eq_true rfl) ⟨(Nat.le_of_ble_eq_true rfl), (Nat.le_of_ble_eq_true rfl)⟩ ⟨Nat.zero_le _, Nat.zero_le _⟩ dX11_then_12 ?_
    refine A_ifeq (pc := 15) 28 dX11_then_15 (by decide) (fun hb15 => ?_) (fun hb15 => ?_)
    · refine A_aload_n (pc := 28) (i := 0) dX11_then_28 rfl rfl ?_
      refine A_ldc (pc := 29) (List.mem_cons_of_mem _ kc_X11_60) dX11_then_29 ?_
      refine A_callV1 (pc := 31) cv_X11_61 (s_err1 l hS) hS.k1 rfl rfl rfl rfl (Nat.le_of_ble_eq_true rfl) ⟨(Nat.le_of_ble_eq_true rfl), (Nat.le_of_ble_eq_true rfl)⟩ ⟨Nat.zero_le _, Nat.zero_le _⟩ dX11_then_31 ?_
      rw [c_then, if_neg hb4, if_pos hb15]
      exact A_iretE (pc := 34) dX11_then_34 rfl (Nat.zero_le _) (Nat.zero_le _) ((rfl)) ((rfl))
    · refine A_iload_n (pc := 18) (i := 3) dX11_then_18 rfl rfl ?_
      refine A_iconst (pc := 19) (0) dX11_then_19 (by decide) ?_
      refine A_bipush (pc := 20) (7) dX11_then_20 (by decide) ?_
      refine A_callS1 (pc := 22) cs_X11_56 (s_isHeld l _ _ _) rfl rfl (Nat.le_of_ble_eq_true rfl) ⟨(Nat.le_of_ble_eq_true rfl), (Nat.le_of_ble_eq_true rfl)⟩ ⟨Nat.zero_le _, Nat.zero_le _⟩ dX11_then_22 ?_
      refine A_ifne (pc := 25) 35 dX11_then_25 (by decide) (fun hb25 => ?_) (fun hb25 => ?_)
      · have hx := (sr_b_1 _).mp hb4
        have hy := (sr_b_1 _).mp hb15
        have hyn : y.toNatClampNeg < n := nI_cl_lt hy.1 (hn ▸ hy.2) (by omega)
        have hy8 : y.toNatClampNeg < 8 := by omega
        refine A_aload_n (pc := 35) (i := 0) dX11_then_35 rfl rfl ?_
        refine A_iload_n (pc := 36) (i := 1) dX11_then_36 rfl rfl ?_
        refine A_top (nI_cl hx.1) ?_
        refine A_callV0 (pc := 37) cv_X11_214 (s_goA l hS hA hl hq x.toNatClampNeg (Nat.lt_of_le_of_lt (ah60 hx) (by decide))) hS.k1 rfl rfl rfl rfl (Nat.le_of_ble_eq_true rfl) ⟨(Nat.le_of_ble_eq_true rfl), (Nat.le_of_ble_eq_true rfl)⟩ ⟨Nat.zero_le _, Nat.zero_le _⟩ dX11_then_37 ?_
        have hS := lw_cp_sh (i := 1) (o := 0) hS 6
        refine A_aload_n (pc := 40) (i := 0) dX11_then_40 rfl rfl ?_
        refine A_getr (pc := 41) 1 fl_X11_16_11 hS.k1 rfl (hS.w1 (k := 1) (by decide)) dX11_then_41 ?_
        refine A_getr (pc := 44) 0 fl_X11_78_4 (hS.k2 (by decide)) rfl (hS.w2_0 (by decide)) dX11_then_44 ?_
        refine A_iload_n (pc := 47) (i := 2) dX11_then_47 rfl rfl ?_
        refine A_top (nI_cl hy.1) ?_
        refine A_aaldN (pc := 48) (hS.k3 (by decide)) (by decide) (by decide) hy8 (by decide) (hS.w3 (by decide) hy8) dX11_then_48 ?_
        refine A_iload_n (pc := 49) (i := 3) dX11_then_49 rfl rfl ?_
        refine A_callV1 (pc := 50) cv_X11_82 (s_trait l _ (hS.k4 (by decide) hy8) _) (hS.k4 (by decide) hy8) rfl rfl rfl rfl (Nat.le_of_ble_eq_true rfl) ⟨(Nat.le_of_ble_eq_true rfl), (Nat.le_of_ble_eq_true rfl)⟩ ⟨Nat.zero_le _, Nat.zero_le _⟩ dX11_then_50 ?_
        rw [c_then, if_neg hb4, if_neg hb15, if_neg hb25]
        exact A_iretE (pc := 53) dX11_then_53 rfl (Nat.zero_le _) (Nat.zero_le _) ((rfl)) ((rfl))
      · refine A_aload_n (pc := 28) (i := 0) dX11_then_28 rfl rfl ?_
        refine A_ldc (pc := 29) (List.mem_cons_of_mem _ kc_X11_60) dX11_then_29 ?_
        refine A_callV1 (pc := 31) cv_X11_61 (s_err1 l hS) hS.k1 rfl rfl rfl rfl (Nat.le_of_ble_eq_true rfl) ⟨(Nat.le_of_ble_eq_true rfl), (Nat.le_of_ble_eq_true rfl)⟩ ⟨Nat.zero_le _, Nat.zero_le _⟩ dX11_then_31 ?_
        rw [c_then, if_neg hb4, if_neg hb15, if_pos hb25]
        exact A_iretE (pc := 34) dX11_then_34 rfl (Nat.zero_le _) (Nat.zero_le _) ((rfl)) ((rfl))
noncomputable def d_then (x y t : Int32) (n nl z : Nat) (lk : Nat → Nat) (iv : am_iv) : Int32 × am_iv := if sr_b (0 ≤ x ∧ x ≤ 60) = 0 then (-1000000001, rx_find 1 iv) else if sr_b (0 ≤ y ∧ y ≤ iv (31, 0, 0) 1 - 1) = 0 then (-1000000001, rx_find 1 iv) else if sr_b (0 ≤ t ∧ t ≤ 7) = 0 then (-1000000001, rx_find 1 iv) else if t = 7 then (rg_pace (rf (it (rt_tick 1 n nl z lk) x.toNatClampNeg (rx_cp (31, 0, 0) (31, 1, 0) iv 300)) (31, 1, 0) y.toNatClampNeg), (it (rt_tick 1 n nl z lk) x.toNatClampNeg (rx_cp (31, 0, 0) (31, 1, 0) iv 300))) else (rf (it (rt_tick 1 n nl z lk) x.toNatClampNeg (rx_cp (31, 0, 0) (31, 1, 0) iv 300)) (31, 1, 0) y.toNatClampNeg (t.toNatClampNeg + 1), (it (rt_tick 1 n nl z lk) x.toNatClampNeg (rx_cp (31, 0, 0) (31, 1, 0) iv 300)))
set_option maxRecDepth 20000 in
theorem q_then (l : Launch) {kd : am_kd} {rv : am_rv} {iv : am_iv} (hR : shr kd rv) (x y t : Int32) (n nl z : Nat) (lk : Nat → Nat) (hn : iv (31, 0, 0) 1 = nI n) (hn8 : n ≤ 8) (hq : rQ 1 n nl z lk (rx_cp (31, 0, 0) (31, 1, 0) iv 300)) : am_Met l mX12_then (am_rm 50 0 0) [am_P (30, 0, 0), am_I x, am_I y, am_I t] kd rv iv (am_ret (some (am_I (d_then x y t n nl z lk iv).1)) kd rv (d_then x y t n nl z lk iv).2) := by
  refine am_Met.of (by decide) (Nat.le_of_ble_eq_true rfl) rfl ?_
  refine A_iload_n (pc := 0) (i := 1) dX12_then_0 rfl rfl ?_
  refine A_callS1 (pc := 1) cs_X12_244 (r_isAhead l _) rfl rfl (Nat.le_of_ble_eq_true rfl) ⟨(Nat.le_of_ble_eq_true rfl), (Nat.le_of_ble_eq_true rfl)⟩ ⟨Nat.zero_le _, Nat.zero_le _⟩ dX12_then_1 ?_
  refine A_ifeq (pc := 4) 27 dX12_then_4 (by decide) (fun hb4 => ?_) (fun hb4 => ?_)
  · refine A_aload_n (pc := 27) (i := 0) dX12_then_27 rfl rfl ?_
    refine A_iconst (pc := 28) (1) dX12_then_28 (by decide) ?_
    refine A_callV1 (pc := 29) cv_X12_65 (r_fnd1 l hR) hR.1 rfl rfl rfl rfl (Nat.le_of_ble_eq_true rfl) ⟨(Nat.le_of_ble_eq_true rfl), (Nat.le_of_ble_eq_true rfl)⟩ ⟨Nat.zero_le _, Nat.zero_le _⟩ dX12_then_29 ?_
    exact A_iretE (pc := 32) dX12_then_32 rfl (Nat.zero_le _) (Nat.zero_le _) (by rw [d_then, if_pos hb4]) (by rw [d_then, if_pos hb4])
  · refine A_aload_n (pc := 7) (i := 0) dX12_then_7 rfl rfl ?_
    refine A_iload_n (pc := 8) (i := 2) dX12_then_8 rfl rfl ?_
    refine A_callV1 (pc := 9) cv_X12_77 (r_isRing l hR _) hR.1 rfl rfl rfl rfl (Nat.le_of_ble_eq_true rfl) ⟨(Nat.le_of_ble_eq_true rfl), (Nat.le_of_ble_eq_true rfl)⟩ ⟨Nat.zero_le _, Nat.zero_le _⟩ dX12_then_9 ?_
    refine A_ifeq (pc := 12) 27 dX12_then_12 (by decide) (fun hb12 => ?_) (fun hb12 => ?_)
    · refine A_aload_n (pc := 27) (i := 0) dX12_then_27 rfl rfl ?_
      refine A_iconst (pc := 28) (1) dX12_then_28 (by decide) ?_
      refine A_callV1 (pc := 29) cv_X12_65 (r_fnd1 l hR) hR.1 rfl rfl rfl rfl (Nat.le_of_ble_eq_true rfl) ⟨(Nat.le_of_ble_eq_true rfl), (Nat.le_of_ble_eq_true rfl)⟩ ⟨Nat.zero_le _, Nat.zero_le _⟩ dX12_then_29 ?_
      exact A_iretE (pc := 32) dX12_then_32 rfl (Nat.zero_le _) (Nat.zero_le _) (by rw [d_then, if_neg hb4, if_pos hb12]) (by rw [d_then, if_neg hb4, if_pos hb12])
    · refine A_iload_n (pc := 15) (i := 3) dX12_then_15 rfl rfl ?_
      refine A_i2l (pc := 16) dX12_then_16 ?_
      refine A_lconst (pc := 17) (0) dX12_then_17 (by decide) ?_
      refine A_topJ (y := Int32.toInt64 (0)) (by decide +kernel) ?_
      refine A_ldc2 (pc := 18) (List.mem_cons_of_mem _ kc_X12_81) dX12_then_18 ?_
      refine A_topJ (y := Int32.toInt64 (7)) (by decide +kernel) ?_
      refine A_callS1 (pc := 21) cs_X12_48 (r_in l _ _ _) rfl rfl (Nat.le_of_ble_eq_true rfl) ⟨(Nat.le_of_ble_eq_true rfl), (Nat.le_of_ble_eq_true rfl)⟩ ⟨Nat.zero_le _, Nat.zero_le _⟩ dX12_then_21 ?_
      refine A_ifne (pc := 24) 33 dX12_then_24 (by decide) (fun hb24 => ?_) (fun hb24 => ?_)
      · have hx := (sr_b_1 _).mp hb4
        have hy := (sr_b_1 _).mp hb12
        have hyn : y.toNatClampNeg < n := nI_m1n hn8 hy.1 (hn ▸ hy.2)
        have hy8 : y.toNatClampNeg < 8 := by omega
        have ht := (sr_b_1 _).mp hb24
        have ht8 : t.toNatClampNeg < 8 := Nat.lt_of_le_of_lt (nI_cl_le (n := 7) ht.1 ht.2 (by decide)) (by decide)
        refine A_aload_n (pc := 33) (i := 0) dX12_then_33 rfl rfl ?_
        refine A_iload_n (pc := 34) (i := 1) dX12_then_34 rfl rfl ?_
        refine A_top (nI_cl hx.1) ?_
        refine A_callV0 (pc := 35) cv_X12_247 (r_ahead l hR n nl z lk _ rQ.ref (rQ.tick (by decide)) hq x.toNatClampNeg (Nat.lt_of_le_of_lt (ah60 hx) (by decide))) hR.1 rfl rfl rfl rfl (Nat.le_of_ble_eq_true rfl) ⟨(Nat.le_of_ble_eq_true rfl), (Nat.le_of_ble_eq_true rfl)⟩ ⟨Nat.zero_le _, Nat.zero_le _⟩ dX12_then_35 ?_
        refine A_iload_n (pc := 38) (i := 3) dX12_then_38 rfl rfl ?_
        refine A_bipush (pc := 39) (7) dX12_then_39 (by decide) ?_
        refine A_icmpne (pc := 41) 55 dX12_then_41 (by decide) (fun hb41 => ?_) (fun hb41 => ?_)
        · refine A_aload_n (pc := 55) (i := 0) dX12_then_55 rfl rfl ?_
          refine A_getr (pc := 56) 1 fl_X12_13_12 hR.1 rfl hR.w1 dX12_then_56 ?_
          refine A_iload_n (pc := 59) (i := 2) dX12_then_59 rfl rfl ?_
          refine A_top (nI_cl hy.1) ?_
          refine A_iload_n (pc := 60) (i := 3) dX12_then_60 rfl rfl ?_
          refine A_top (nI_cl ht.1) ?_
          refine A_callS1 (pc := 61) cs_X12_73 (r_of l (31, 1, 0) hR.k1 y.toNatClampNeg hy8 t.toNatClampNeg _ rfl ht8) rfl rfl (Nat.le_of_ble_eq_true rfl) ⟨(Nat.le_of_ble_eq_true rfl), (Nat.le_of_ble_eq_true rfl)⟩ ⟨Nat.zero_le _, Nat.zero_le _⟩ dX12_then_61 ?_
          exact A_iretE (pc := 64) dX12_then_64 rfl (Nat.zero_le _) (Nat.zero_le _) (by rw [d_then, if_neg hb4, if_neg hb12, if_neg hb24, if_neg hb41]) (by rw [d_then, if_neg hb4, if_neg hb12, if_neg hb24, if_neg hb41])
        · refine A_aload_n (pc := 44) (i := 0) dX12_then_44 rfl rfl ?_
          refine A_getr (pc := 45) 1 fl_X12_13_12 hR.1 rfl hR.w1 dX12_then_45 ?_
          refine A_iload_n (pc := 48) (i := 2) dX12_then_48 rfl rfl ?_
          refine A_top (nI_cl hy.1) ?_
          refine A_callS1 (pc := 49) cs_X12_83 (r_pace l (31, 1, 0) hR.k1 y.toNatClampNeg hy8 (rQ.rok (rQ.it (by decide) _ hq) _ hyn)) rfl rfl (Nat.le_of_ble_eq_true rfl) ⟨(Nat.le_of_ble_eq_true rfl), (Nat.le_of_ble_eq_true rfl)⟩ ⟨Nat.zero_le _, Nat.zero_le _⟩ dX12_then_49 ?_
          refine A_goto (pc := 52) 64 dX12_then_52 (by decide) ?_
          exact A_iretE (pc := 64) dX12_then_64 rfl (Nat.zero_le _) (Nat.zero_le _) (by rw [d_then, if_neg hb4, if_neg hb12, if_neg hb24, if_pos hb41]) (by rw [d_then, if_neg hb4, if_neg hb12, if_neg hb24, if_pos hb41])
      · refine A_aload_n (pc := 27) (i := 0) dX12_then_27 rfl rfl ?_
        refine A_iconst (pc := 28) (1) dX12_then_28 (by decide) ?_
        refine A_callV1 (pc := 29) cv_X12_65 (r_fnd1 l hR) hR.1 rfl rfl rfl rfl (Nat.le_of_ble_eq_true rfl) ⟨(Nat.le_of_ble_eq_true rfl), (Nat.le_of_ble_eq_true rfl)⟩ ⟨Nat.zero_le _, Nat.zero_le _⟩ dX12_then_29 ?_
        exact A_iretE (pc := 32) dX12_then_32 rfl (Nat.zero_le _) (Nat.zero_le _) (by rw [d_then, if_neg hb4, if_neg hb12, if_pos hb24]) (by rw [d_then, if_neg hb4, if_neg hb12, if_pos hb24])
theorem call_then (l : Launch) {kd : am_kd} {rv : am_rv} {iv : am_iv} (h : REL kd rv iv iv) (x : Int32) (y : Int32) (t : Int32) : CALL l kd rv iv mX11_then mX12_then [am_I x, am_I y, am_I t] := by
  obtain ⟨n, nl, ln, lk, z0, y0, z1, y1, zt, zw, hX⟩ := h.n
  have hA := hX.AH h.1
  have hn8 := hX.1.1.2.2
  have hB := hX.b0 (h.z (i := 1) (by decide))
  have hl := hB.1.laws
  have hq : tQ 1 n nl z1 ln lk (rb_heap 1 0 n z0 z1 zt zw iv) := ⟨y1, _, ah_tR hX (h.z (i := 1) (by decide))⟩
  refine CALL.fg (d2 := 50) h (c_then x y t n nl z0 z1 zt zw ln lk rv iv) (d_then x y t n nl y1 lk) (p_then l h.S x y t n nl z0 z1 zt zw ln lk hA hl hq) (fun q k hq => ?_) (fun hR h1 eu => ?_) (by decide) (by decide) (fun u hu eu => ?_) (fun u q k hq => ?_)
  · unfold c_then
    repeat' split
    all_goals first
      | exact er_u hq
      | exact (chg.rb.tr (chg.itt (fun w => chg.tick) _ _)).u hq
  · have hX := hX.u eu
    have hq : rQ 1 n nl y1 lk (rx_cp (31, 0, 0) (31, 1, 0) _ 300) := ⟨z1, ln, _, ah_tR hX (h.z (i := 1) (by decide))⟩
    exact q_then l hR x y t n nl y1 lk hX.1.1.2.1 hn8 hq
  · have hX := hX.u eu
    have hz := hu.z (i := 1) (by decide)
    have hT := ah_tR hX hz
    unfold c_then d_then
    rw [← hX.has y]
    by_cases c0 : sr_b (0 ≤ x ∧ x ≤ 60) = 0
    · rw [if_pos c0, if_pos c0]; exact ⟨rfl, hu.err 1 (by decide)⟩
    · rw [if_neg c0, if_neg c0]
      by_cases c1 : sr_b (0 ≤ y ∧ y < iv (2, 0, 0) 1) = 0
      · rw [if_pos c1, if_pos c1]; exact ⟨rfl, hu.err 1 (by decide)⟩
      · rw [if_neg c1, if_neg c1]
        by_cases c2 : sr_b (0 ≤ t ∧ t ≤ 7) = 0
        · rw [if_pos c2, if_pos c2]; exact ⟨rfl, hu.err 1 (by decide)⟩
        · rw [if_neg c2, if_neg c2]
          obtain ⟨hy0, hyn⟩ := hX.idx c1
          have ht := (sr_b_1 _).mp c2
          have hI := hT.it (by decide) x.toNatClampNeg
          have e := trait_alike (hI.at hyn) (hI.1.2.2.1 _ hyn).2.2.2.2.2.2 ht.1 ht.2
          dsimp only
          rw [e]
          by_cases c3 : t = 7
          · rw [if_pos c3, if_pos c3]
            exact ⟨rfl, (hu.cp (Or.inl rfl) (by decide)).chgT (Or.inl rfl) ((chg.rb.tr (chg.itt (fun w => chg.tick) _ _))) (fun q k z => chU.d0 (Or.inl rfl) ((chU.cp.tr (chU.itt (fun w => chU.tick) _ _))) z)⟩
          · rw [if_neg c3, if_neg c3]
            exact ⟨rfl, (hu.cp (Or.inl rfl) (by decide)).chgT (Or.inl rfl) ((chg.rb.tr (chg.itt (fun w => chg.tick) _ _))) (fun q k z => chU.d0 (Or.inl rfl) ((chU.cp.tr (chU.itt (fun w => chU.tick) _ _))) z)⟩
  · unfold d_then
    repeat' split
    all_goals first
      | exact rx_c hq
      | exact (chU.cp.tr (chU.itt (fun w => chU.tick) _ _)).c hq
noncomputable def c_whole (x : Int32) (n nl z0 z1 zt zw : Nat) (ln : Nat → am_N) (lk : Nat → Nat) (rv : am_rv) (iv : am_iv) : Int32 × am_rv × am_iv := if sr_b (0 ≤ x ∧ x ≤ 60) = 0 then (-1000000001, rv, er_heap 1 iv) else (rm_count (fun r => (it (rm_tick 1 n z1 nl ln lk) x.toNatClampNeg (rb_heap 1 0 n z0 z1 zt zw iv)) (4, 1, r)) n, (lw_cp 1 0 rv 6), (it (rm_tick 1 n z1 nl ln lk) x.toNatClampNeg (rb_heap 1 0 n z0 z1 zt zw iv)))
set_option maxRecDepth 20000 in
theorem p_whole (l : Launch) {kd : am_kd} {rv : am_rv} {iv : am_iv} (hS : sh kd rv) (x : Int32) (n nl z0 z1 zt zw : Nat) (ln : Nat → am_N) (lk : Nat → Nat) (hA : AH kd rv n z0 z1 zt zw iv) (hl : rm_laws kd (lw_cp 1 0 rv 6) (rb_heap 1 0 n z0 z1 zt zw iv) 1 nl ln lk) (hq : tQ 1 n nl z1 ln lk (rb_heap 1 0 n z0 z1 zt zw iv)) : am_Met l mX11_whole (am_rm 9 0 0) [am_P (1, 0, 0), am_I x] kd rv iv (am_ret (some (am_I (c_whole x n nl z0 z1 zt zw ln lk rv iv).1)) kd (c_whole x n nl z0 z1 zt zw ln lk rv iv).2.1 (c_whole x n nl z0 z1 zt zw ln lk rv iv).2.2) := by
  refine am_Met.of (by decide) (Nat.le_of_ble_eq_true rfl) rfl ?_
  have hn := hA.1.1
  have hn8 := hA.1.2.1
  refine A_iload_n (pc := 0) (i := 1) dX11_whole_0 rfl rfl ?_
  refine A_callS1 (pc := 1) cs_X11_211 (s_isAhead l _) rfl rfl (Nat.le_of_ble_eq_true rfl) ⟨(Nat.le_of_ble_eq_true rfl), (Nat.le_of_ble_eq_true rfl)⟩ ⟨Nat.zero_le _, Nat.zero_le _⟩ dX11_whole_1 ?_
  refine A_ifne (pc := 4) 14 dX11_whole_4 (by decide) (fun hb4 => ?_) (fun hb4 => ?_)
  · have hx := (sr_b_1 _).mp hb4
    refine A_aload_n (pc := 14) (i := 0) dX11_whole_14 rfl rfl ?_
    refine A_iload_n (pc := 15) (i := 1) dX11_whole_15 rfl rfl ?_
    refine A_top (nI_cl hx.1) ?_
    refine A_callV0 (pc := 16) cv_X11_214 (s_goA l hS hA hl hq x.toNatClampNeg (Nat.lt_of_le_of_lt (ah60 hx) (by decide))) hS.k1 rfl rfl rfl rfl (Nat.le_of_ble_eq_true rfl) ⟨(Nat.le_of_ble_eq_true rfl), (Nat.le_of_ble_eq_true rfl)⟩ ⟨Nat.zero_le _, Nat.zero_le _⟩ dX11_whole_16 ?_
    have hS := lw_cp_sh (i := 1) (o := 0) hS 6
    refine A_aload_n (pc := 19) (i := 0) dX11_whole_19 rfl rfl ?_
    refine A_getr (pc := 20) 1 fl_X11_16_11 hS.k1 rfl (hS.w1 (k := 1) (by decide)) dX11_whole_20 ?_
    refine A_callV1 (pc := 23) cv_X11_217 (s_wholeCount l hS 1 (by decide) n (tQ.cls _ (tQ.it (by decide) _ hq)).1 hn8) (hS.k2 (by decide)) rfl rfl rfl rfl (Nat.le_of_ble_eq_true rfl) ⟨(Nat.le_of_ble_eq_true rfl), (Nat.le_of_ble_eq_true rfl)⟩ ⟨Nat.zero_le _, Nat.zero_le _⟩ dX11_whole_23 ?_
    rw [c_whole, if_neg hb4]
    exact A_iretE (pc := 26) dX11_whole_26 rfl (Nat.zero_le _) (Nat.zero_le _) ((rfl)) ((rfl))
  · refine A_aload_n (pc := 7) (i := 0) dX11_whole_7 rfl rfl ?_
    refine A_ldc (pc := 8) (List.mem_cons_of_mem _ kc_X11_60) dX11_whole_8 ?_
    refine A_callV1 (pc := 10) cv_X11_61 (s_err1 l hS) hS.k1 rfl rfl rfl rfl (Nat.le_of_ble_eq_true rfl) ⟨(Nat.le_of_ble_eq_true rfl), (Nat.le_of_ble_eq_true rfl)⟩ ⟨Nat.zero_le _, Nat.zero_le _⟩ dX11_whole_10 ?_
    rw [c_whole, if_pos hb4]
    exact A_iretE (pc := 13) dX11_whole_13 rfl (Nat.zero_le _) (Nat.zero_le _) ((rfl)) ((rfl))
noncomputable def d_whole (x : Int32) (n nl z : Nat) (lk : Nat → Nat) (iv : am_iv) : Int32 × am_iv := if sr_b (0 ≤ x ∧ x ≤ 60) = 0 then (-1000000001, rx_find 1 iv) else (rm_count (fun r => rf (it (rt_tick 1 n nl z lk) x.toNatClampNeg (rx_cp (31, 0, 0) (31, 1, 0) iv 300)) (31, 1, 0) r) n, (it (rt_tick 1 n nl z lk) x.toNatClampNeg (rx_cp (31, 0, 0) (31, 1, 0) iv 300)))
set_option maxRecDepth 20000 in
theorem q_whole (l : Launch) {kd : am_kd} {rv : am_rv} {iv : am_iv} (hR : shr kd rv) (x : Int32) (n nl z : Nat) (lk : Nat → Nat) (hn : iv (31, 0, 0) 1 = nI n) (hn8 : n ≤ 8) (hq : rQ 1 n nl z lk (rx_cp (31, 0, 0) (31, 1, 0) iv 300)) : am_Met l mX12_whole (am_rm 50 0 0) [am_P (30, 0, 0), am_I x] kd rv iv (am_ret (some (am_I (d_whole x n nl z lk iv).1)) kd rv (d_whole x n nl z lk iv).2) := by
  refine am_Met.of (by decide) (Nat.le_of_ble_eq_true rfl) rfl ?_
  refine A_iload_n (pc := 0) (i := 1) dX12_whole_0 rfl rfl ?_
  refine A_callS1 (pc := 1) cs_X12_244 (r_isAhead l _) rfl rfl (Nat.le_of_ble_eq_true rfl) ⟨(Nat.le_of_ble_eq_true rfl), (Nat.le_of_ble_eq_true rfl)⟩ ⟨Nat.zero_le _, Nat.zero_le _⟩ dX12_whole_1 ?_
  refine A_ifne (pc := 4) 13 dX12_whole_4 (by decide) (fun hb4 => ?_) (fun hb4 => ?_)
  · have hx := (sr_b_1 _).mp hb4
    refine A_aload_n (pc := 13) (i := 0) dX12_whole_13 rfl rfl ?_
    refine A_iload_n (pc := 14) (i := 1) dX12_whole_14 rfl rfl ?_
    refine A_top (nI_cl hx.1) ?_
    refine A_callV0 (pc := 15) cv_X12_247 (r_ahead l hR n nl z lk _ rQ.ref (rQ.tick (by decide)) hq x.toNatClampNeg (Nat.lt_of_le_of_lt (ah60 hx) (by decide))) hR.1 rfl rfl rfl rfl (Nat.le_of_ble_eq_true rfl) ⟨(Nat.le_of_ble_eq_true rfl), (Nat.le_of_ble_eq_true rfl)⟩ ⟨Nat.zero_le _, Nat.zero_le _⟩ dX12_whole_15 ?_
    refine A_aload_n (pc := 18) (i := 0) dX12_whole_18 rfl rfl ?_
    refine A_getr (pc := 19) 1 fl_X12_13_12 hR.1 rfl hR.w1 dX12_whole_19 ?_
    refine A_callS1 (pc := 22) cs_X12_251 (r_wholeIn l (31, 1, 0) hR.k1 n (rQ.ref _ (rQ.it (by decide) _ hq)).1 hn8 (fun r hr => (rQ.rok (rQ.it (by decide) _ hq) r hr).2.2.2.2.2.2)) rfl rfl (Nat.le_of_ble_eq_true rfl) ⟨(Nat.le_of_ble_eq_true rfl), (Nat.le_of_ble_eq_true rfl)⟩ ⟨Nat.zero_le _, Nat.zero_le _⟩ dX12_whole_22 ?_
    exact A_iretE (pc := 25) dX12_whole_25 rfl (Nat.zero_le _) (Nat.zero_le _) (by rw [d_whole, if_neg hb4]) (by rw [d_whole, if_neg hb4])
  · refine A_aload_n (pc := 7) (i := 0) dX12_whole_7 rfl rfl ?_
    refine A_iconst (pc := 8) (1) dX12_whole_8 (by decide) ?_
    refine A_callV1 (pc := 9) cv_X12_65 (r_fnd1 l hR) hR.1 rfl rfl rfl rfl (Nat.le_of_ble_eq_true rfl) ⟨(Nat.le_of_ble_eq_true rfl), (Nat.le_of_ble_eq_true rfl)⟩ ⟨Nat.zero_le _, Nat.zero_le _⟩ dX12_whole_9 ?_
    exact A_iretE (pc := 12) dX12_whole_12 rfl (Nat.zero_le _) (Nat.zero_le _) (by rw [d_whole, if_pos hb4]) (by rw [d_whole, if_pos hb4])
theorem call_whole (l : Launch) {kd : am_kd} {rv : am_rv} {iv : am_iv} (h : REL kd rv iv iv) (x : Int32) : CALL l kd rv iv mX11_whole mX12_whole [am_I x] := by
  obtain ⟨n, nl, ln, lk, z0, y0, z1, y1, zt, zw, hX⟩ := h.n
  have hA := hX.AH h.1
  have hn8 := hX.1.1.2.2
  have hB := hX.b0 (h.z (i := 1) (by decide))
  have hl := hB.1.laws
  have hq : tQ 1 n nl z1 ln lk (rb_heap 1 0 n z0 z1 zt zw iv) := ⟨y1, _, ah_tR hX (h.z (i := 1) (by decide))⟩
  refine CALL.fg (d2 := 50) h (c_whole x n nl z0 z1 zt zw ln lk rv iv) (d_whole x n nl y1 lk) (p_whole l h.S x n nl z0 z1 zt zw ln lk hA hl hq) (fun q k hq => ?_) (fun hR h1 eu => ?_) (by decide) (by decide) (fun u hu eu => ?_) (fun u q k hq => ?_)
  · unfold c_whole
    repeat' split
    all_goals first
      | exact er_u hq
      | exact (chg.rb.tr (chg.itt (fun w => chg.tick) _ _)).u hq
  · have hX := hX.u eu
    have hq : rQ 1 n nl y1 lk (rx_cp (31, 0, 0) (31, 1, 0) _ 300) := ⟨z1, ln, _, ah_tR hX (h.z (i := 1) (by decide))⟩
    exact q_whole l hR x n nl y1 lk hX.1.1.2.1 hn8 hq
  · have hX := hX.u eu
    have hz := hu.z (i := 1) (by decide)
    have hT := ah_tR hX hz
    unfold c_whole d_whole
    by_cases c0 : sr_b (0 ≤ x ∧ x ≤ 60) = 0
    · rw [if_pos c0, if_pos c0]; exact ⟨rfl, hu.err 1 (by decide)⟩
    · rw [if_neg c0, if_neg c0]
      have hI := hT.it (by decide) x.toNatClampNeg
      exact ⟨rm_count_c n (fun k hk => hI.at hk), (hu.cp (Or.inl rfl) (by decide)).chgT (Or.inl rfl) ((chg.rb.tr (chg.itt (fun w => chg.tick) _ _))) (fun q k z => chU.d0 (Or.inl rfl) ((chU.cp.tr (chU.itt (fun w => chU.tick) _ _))) z)⟩
  · unfold d_whole
    repeat' split
    all_goals first
      | exact rx_c hq
      | exact (chU.cp.tr (chU.itt (fun w => chU.tick) _ _)).c hq
noncomputable def c_turns (x : Int32) (n nl z0 z1 zt zw : Nat) (ln : Nat → am_N) (lk : Nat → Nat) (rv : am_rv) (iv : am_iv) : Int32 × am_rv × am_iv := if sr_b (0 ≤ x ∧ x ≤ 60) = 0 then (-1000000001, rv, er_heap 1 iv) else ((cf (rm_tick 1 n z1 nl ln lk) (fun w => rm_front (fun r => w (4, 1, r)) n) 60 x.toNatClampNeg 0 (rm_front (fun r => (rb_heap 1 0 n z0 z1 zt zw iv) (4, 1, r)) n) (rb_heap 1 0 n z0 z1 zt zw iv)).1, (lw_cp 1 0 rv 6), (cf (rm_tick 1 n z1 nl ln lk) (fun w => rm_front (fun r => w (4, 1, r)) n) 60 x.toNatClampNeg 0 (rm_front (fun r => (rb_heap 1 0 n z0 z1 zt zw iv) (4, 1, r)) n) (rb_heap 1 0 n z0 z1 zt zw iv)).2)
set_option maxRecDepth 20000 in
theorem p_turns (l : Launch) {kd : am_kd} {rv : am_rv} {iv : am_iv} (hS : sh kd rv) (x : Int32) (n nl z0 z1 zt zw : Nat) (ln : Nat → am_N) (lk : Nat → Nat) (hA : AH kd rv n z0 z1 zt zw iv) (hl : rm_laws kd (lw_cp 1 0 rv 6) (rb_heap 1 0 n z0 z1 zt zw iv) 1 nl ln lk) (hq : tQ 1 n nl z1 ln lk (rb_heap 1 0 n z0 z1 zt zw iv)) : am_Met l mX11_turns (am_rm 9 0 0) [am_P (1, 0, 0), am_I x] kd rv iv (am_ret (some (am_I (c_turns x n nl z0 z1 zt zw ln lk rv iv).1)) kd (c_turns x n nl z0 z1 zt zw ln lk rv iv).2.1 (c_turns x n nl z0 z1 zt zw ln lk rv iv).2.2) := by
  refine am_Met.of (by decide) (Nat.le_of_ble_eq_true rfl) rfl ?_
  have hn := hA.1.1
  have hn8 := hA.1.2.1
  refine A_iload_n (pc := 0) (i := 1) dX11_turns_0 rfl rfl ?_
  refine A_callS1 (pc := 1) cs_X11_211 (s_isAhead l _) rfl rfl (Nat.le_of_ble_eq_true rfl) ⟨(Nat.le_of_ble_eq_true rfl), (Nat.le_of_ble_eq_true rfl)⟩ ⟨Nat.zero_le _, Nat.zero_le _⟩ dX11_turns_1 ?_
  refine A_ifne (pc := 4) 14 dX11_turns_4 (by decide) (fun hb4 => ?_) (fun hb4 => ?_)
  · have hx := (sr_b_1 _).mp hb4
    refine A_aload_n (pc := 14) (i := 0) dX11_turns_14 rfl rfl ?_
    refine A_getr (pc := 15) 1 fl_X11_16_11 hS.k1 rfl (hS.w1 (k := 1) (by decide)) dX11_turns_15 ?_
    refine A_aload_n (pc := 18) (i := 0) dX11_turns_18 rfl rfl ?_
    refine A_getr (pc := 19) 0 fl_X11_12_11 hS.k1 rfl (hS.w1 (k := 0) (by decide)) dX11_turns_19 ?_
    refine A_callV0 (pc := 22) cv_X11_220 (s_bec l hS hA) (hS.k2 (by decide)) rfl rfl rfl rfl (Nat.le_of_ble_eq_true rfl) ⟨(Nat.le_of_ble_eq_true rfl), (Nat.le_of_ble_eq_true rfl)⟩ ⟨Nat.zero_le _, Nat.zero_le _⟩ dX11_turns_22 ?_
    have hS := lw_cp_sh (i := 1) (o := 0) hS 6
    refine A_aload_n (pc := 25) (i := 0) dX11_turns_25 rfl rfl ?_
    refine A_getr (pc := 26) 1 fl_X11_16_11 hS.k1 rfl (hS.w1 (k := 1) (by decide)) dX11_turns_26 ?_
    refine A_iload_n (pc := 29) (i := 1) dX11_turns_29 rfl rfl ?_
    refine A_top (nI_cl hx.1) ?_
    refine A_bipush (pc := 30) (60) dX11_turns_30 (by decide) ?_
    refine A_callV1 (pc := 32) cv_X11_223 (s_changes l hS 1 (by decide) nl ln lk hl n z1 _ tQ.cls (tQ.tick (by decide)) hq x.toNatClampNeg (Nat.lt_of_le_of_lt (ah60 hx) (by decide)) _) (hS.k2 (by decide)) rfl rfl rfl rfl (Nat.le_of_ble_eq_true rfl) ⟨(Nat.le_of_ble_eq_true rfl), (Nat.le_of_ble_eq_true rfl)⟩ ⟨Nat.zero_le _, Nat.zero_le _⟩ dX11_turns_32 ?_
    rw [c_turns, if_neg hb4]
    exact A_iretE (pc := 35) dX11_turns_35 rfl (Nat.zero_le _) (Nat.zero_le _) ((rfl)) ((rfl))
  · refine A_aload_n (pc := 7) (i := 0) dX11_turns_7 rfl rfl ?_
    refine A_ldc (pc := 8) (List.mem_cons_of_mem _ kc_X11_60) dX11_turns_8 ?_
    refine A_callV1 (pc := 10) cv_X11_61 (s_err1 l hS) hS.k1 rfl rfl rfl rfl (Nat.le_of_ble_eq_true rfl) ⟨(Nat.le_of_ble_eq_true rfl), (Nat.le_of_ble_eq_true rfl)⟩ ⟨Nat.zero_le _, Nat.zero_le _⟩ dX11_turns_10 ?_
    rw [c_turns, if_pos hb4]
    exact A_iretE (pc := 13) dX11_turns_13 rfl (Nat.zero_le _) (Nat.zero_le _) ((rfl)) ((rfl))
noncomputable def d_turns (x : Int32) (n nl z : Nat) (lk : Nat → Nat) (iv : am_iv) : Int32 × am_iv := if sr_b (0 ≤ x ∧ x ≤ 60) = 0 then (-1000000001, rx_find 1 iv) else (tf (rt_tick 1 n nl z lk) (fun w => rm_front (fun r => rf w (31, 1, 0) r) n) x.toNatClampNeg 0 (rm_front (fun r => rf (rx_cp (31, 0, 0) (31, 1, 0) iv 300) (31, 1, 0) r) n) (rx_cp (31, 0, 0) (31, 1, 0) iv 300))
set_option maxRecDepth 20000 in
theorem q_turns (l : Launch) {kd : am_kd} {rv : am_rv} {iv : am_iv} (hR : shr kd rv) (x : Int32) (n nl z : Nat) (lk : Nat → Nat) (hn : iv (31, 0, 0) 1 = nI n) (hn8 : n ≤ 8) (hq : rQ 1 n nl z lk (rx_cp (31, 0, 0) (31, 1, 0) iv 300)) : am_Met l mX12_turns (am_rm 50 0 0) [am_P (30, 0, 0), am_I x] kd rv iv (am_ret (some (am_I (d_turns x n nl z lk iv).1)) kd rv (d_turns x n nl z lk iv).2) := by
  refine am_Met.of (by decide) (Nat.le_of_ble_eq_true rfl) rfl ?_
  refine A_iload_n (pc := 0) (i := 1) dX12_turns_0 rfl rfl ?_
  refine A_callS1 (pc := 1) cs_X12_244 (r_isAhead l _) rfl rfl (Nat.le_of_ble_eq_true rfl) ⟨(Nat.le_of_ble_eq_true rfl), (Nat.le_of_ble_eq_true rfl)⟩ ⟨Nat.zero_le _, Nat.zero_le _⟩ dX12_turns_1 ?_
  refine A_ifne (pc := 4) 13 dX12_turns_4 (by decide) (fun hb4 => ?_) (fun hb4 => ?_)
  · have hx := (sr_b_1 _).mp hb4
    refine A_aload_n (pc := 13) (i := 0) dX12_turns_13 rfl rfl ?_
    refine A_getr (pc := 14) 0 fl_X12_7_12 hR.1 rfl hR.w0 dX12_turns_14 ?_
    refine A_aload_n (pc := 17) (i := 0) dX12_turns_17 rfl rfl ?_
    refine A_getr (pc := 18) 1 fl_X12_13_12 hR.1 rfl hR.w1 dX12_turns_18 ?_
    refine A_callS0 (pc := 21) cs_X12_240 (r_copies l (31, 0, 0) (31, 1, 0) hR.k0 hR.k1 (by simp)) rfl rfl (Nat.le_of_ble_eq_true rfl) ⟨(Nat.le_of_ble_eq_true rfl), (Nat.le_of_ble_eq_true rfl)⟩ ⟨Nat.zero_le _, Nat.zero_le _⟩ dX12_turns_21 ?_
    refine A_aload_n (pc := 24) (i := 0) dX12_turns_24 rfl rfl ?_
    refine A_aload_n (pc := 25) (i := 0) dX12_turns_25 rfl rfl ?_
    refine A_getr (pc := 26) 1 fl_X12_13_12 hR.1 rfl hR.w1 dX12_turns_26 ?_
    refine A_iload_n (pc := 29) (i := 1) dX12_turns_29 rfl rfl ?_
    refine A_top (nI_cl hx.1) ?_
    refine A_callV1 (pc := 30) cv_X12_254 (r_turnsIn l hR 1 (by decide) hR.k1 n nl z lk _ rQ.ref (rQ.tick (by decide)) hq x.toNatClampNeg (Nat.lt_of_le_of_lt (ah60 hx) (by decide))) hR.1 rfl rfl rfl rfl (Nat.le_of_ble_eq_true rfl) ⟨(Nat.le_of_ble_eq_true rfl), (Nat.le_of_ble_eq_true rfl)⟩ ⟨Nat.zero_le _, Nat.zero_le _⟩ dX12_turns_30 ?_
    exact A_iretE (pc := 33) dX12_turns_33 rfl (Nat.zero_le _) (Nat.zero_le _) (by rw [d_turns, if_neg hb4]) (by rw [d_turns, if_neg hb4])
  · refine A_aload_n (pc := 7) (i := 0) dX12_turns_7 rfl rfl ?_
    refine A_iconst (pc := 8) (1) dX12_turns_8 (by decide) ?_
    refine A_callV1 (pc := 9) cv_X12_65 (r_fnd1 l hR) hR.1 rfl rfl rfl rfl (Nat.le_of_ble_eq_true rfl) ⟨(Nat.le_of_ble_eq_true rfl), (Nat.le_of_ble_eq_true rfl)⟩ ⟨Nat.zero_le _, Nat.zero_le _⟩ dX12_turns_9 ?_
    exact A_iretE (pc := 12) dX12_turns_12 rfl (Nat.zero_le _) (Nat.zero_le _) (by rw [d_turns, if_pos hb4]) (by rw [d_turns, if_pos hb4])
theorem turns_alike {n nl z1 y1 : Nat} {ln : Nat → am_N} {lk : Nat → Nat} {w u : am_iv} (hT : tR 1 1 n nl z1 y1 ln lk w u) (b N : Nat) (hb : b < 1000) (hN : N < 1000) : ∃ x, x ≤ N ∧ (tf (rt_tick 1 n nl y1 lk) (fun w => rm_front (fun r => rf w (31, 1, 0) r) n) N 0 (rm_front (fun r => rf u (31, 1, 0) r) n) u).1 = nI x ∧ (cf (rm_tick 1 n z1 nl ln lk) (fun w => rm_front (fun r => w (4, 1, r)) n) (nI b) N 0 (rm_front (fun r => w (4, 1, r)) n) w).1 = nI (min b x) := by
  have hn8 := hT.2.1.2.1
  obtain ⟨x, -, h2, h3, h4⟩ := cf_tf (T := (rm_tick 1 n z1 nl ln lk)) (T' := rt_tick 1 n nl y1 lk) (F := (fun w => rm_front (fun r => w (4, 1, r)) n)) (F' := (fun w => rm_front (fun r => rf w (31, 1, 0) r) n)) (R := tR 1 1 n nl z1 y1 ln lk) (fun w h => front_stays (by omega) h) (fun w u h => h.tick (by decide)) (fun w u h => rm_front_c n (by omega) (fun k hk => h.at hk)) b hb N 0 w u (Nat.zero_le _) (by omega) hT
  exact ⟨x, by omega, h3, h4⟩
theorem call_turns (l : Launch) {kd : am_kd} {rv : am_rv} {iv : am_iv} (h : REL kd rv iv iv) (x : Int32) : CALL l kd rv iv mX11_turns mX12_turns [am_I x] := by
  obtain ⟨n, nl, ln, lk, z0, y0, z1, y1, zt, zw, hX⟩ := h.n
  have hA := hX.AH h.1
  have hn8 := hX.1.1.2.2
  have hB := hX.b0 (h.z (i := 1) (by decide))
  have hl := hB.1.laws
  have hq : tQ 1 n nl z1 ln lk (rb_heap 1 0 n z0 z1 zt zw iv) := ⟨y1, _, ah_tR hX (h.z (i := 1) (by decide))⟩
  refine CALL.fg (d2 := 50) h (c_turns x n nl z0 z1 zt zw ln lk rv iv) (d_turns x n nl y1 lk) (p_turns l h.S x n nl z0 z1 zt zw ln lk hA hl hq) (fun q k hq => ?_) (fun hR h1 eu => ?_) (by decide) (by decide) (fun u hu eu => ?_) (fun u q k hq => ?_)
  · unfold c_turns
    repeat' split
    all_goals first
      | exact er_u hq
      | exact (chg.rb.tr (chg.cff (fun w => chg.tick) _ _ _ _)).u hq
  · have hX := hX.u eu
    have hq : rQ 1 n nl y1 lk (rx_cp (31, 0, 0) (31, 1, 0) _ 300) := ⟨z1, ln, _, ah_tR hX (h.z (i := 1) (by decide))⟩
    exact q_turns l hR x n nl y1 lk hX.1.1.2.1 hn8 hq
  · have hX := hX.u eu
    have hz := hu.z (i := 1) (by decide)
    have hT := ah_tR hX hz
    unfold c_turns d_turns
    by_cases c0 : sr_b (0 ≤ x ∧ x ≤ 60) = 0
    · rw [if_pos c0, if_pos c0]; exact ⟨rfl, hu.err 1 (by decide)⟩
    · rw [if_neg c0, if_neg c0]
      have hx := ah60 ((sr_b_1 _).mp c0)
      obtain ⟨m, h1, h2, h3⟩ := turns_alike hT 60 x.toNatClampNeg (by decide) (by omega)
      refine ⟨?_, (hu.cp (Or.inl rfl) (by decide)).chgT (Or.inl rfl) (chg.rb.tr (chg.cff (fun w => chg.tick) _ _ _ _)) (fun q k z => chU.d0 (Or.inl rfl) (chU.cp.tr (chU.tff (fun w => chU.tick) _ _ _ _)) z)⟩
      refine Eq.trans ?_ h2.symm
      refine Eq.trans h3 ?_
      rw [show min 60 m = m by omega]
  · unfold d_turns
    repeat' split
    all_goals first
      | exact rx_c hq
      | exact (chU.cp.tr (chU.tff (fun w => chU.tick) _ _ _ _)).c hq
noncomputable def c_far (x y : Int32) (n nl z0 z1 zt zw : Nat) (ln : Nat → am_N) (lk : Nat → Nat) (rv : am_rv) (iv : am_iv) : Int32 × am_rv × am_iv := if sr_b (0 ≤ x ∧ x ≤ 60) = 0 then (-1000000001, rv, er_heap 1 iv) else if sr_b (0 ≤ y ∧ y < iv (2, 0, 0) 1) = 0 then (-1000000001, rv, er_heap 1 iv) else if iv (4, 0, y.toNatClampNeg) 7 = 0 then (-1000000002, rv, er_heap 2 iv) else ((gx (rm_tick 1 n z1 nl ln lk) (4, 1, y.toNatClampNeg) x.toNatClampNeg ((rb_heap 1 0 n z0 z1 zt zw iv) (4, 1, y.toNatClampNeg) 1) (rb_heap 1 0 n z0 z1 zt zw iv)).1, (lw_cp 1 0 rv 6), (gx (rm_tick 1 n z1 nl ln lk) (4, 1, y.toNatClampNeg) x.toNatClampNeg ((rb_heap 1 0 n z0 z1 zt zw iv) (4, 1, y.toNatClampNeg) 1) (rb_heap 1 0 n z0 z1 zt zw iv)).2)
set_option maxRecDepth 20000 in
theorem p_far (l : Launch) {kd : am_kd} {rv : am_rv} {iv : am_iv} (hS : sh kd rv) (x y : Int32) (n nl z0 z1 zt zw : Nat) (ln : Nat → am_N) (lk : Nat → Nat) (hA : AH kd rv n z0 z1 zt zw iv) (hl : rm_laws kd (lw_cp 1 0 rv 6) (rb_heap 1 0 n z0 z1 zt zw iv) 1 nl ln lk) (hq : tQ 1 n nl z1 ln lk (rb_heap 1 0 n z0 z1 zt zw iv)) : am_Met l mX11_far (am_rm 9 0 0) [am_P (1, 0, 0), am_I x, am_I y] kd rv iv (am_ret (some (am_I (c_far x y n nl z0 z1 zt zw ln lk rv iv).1)) kd (c_far x y n nl z0 z1 zt zw ln lk rv iv).2.1 (c_far x y n nl z0 z1 zt zw ln lk rv iv).2.2) := by
  refine am_Met.of (by decide) (Nat.le_of_ble_eq_true rfl) rfl ?_
  have hn := hA.1.1
  have hn8 := hA.1.2.1
  refine A_iload_n (pc := 0) (i := 1) dX11_far_0 rfl rfl ?_
  refine A_callS1 (pc := 1) cs_X11_211 (s_isAhead l _) rfl rfl (Nat.le_of_ble_eq_true rfl) ⟨(Nat.le_of_ble_eq_true rfl), (Nat.le_of_ble_eq_true rfl)⟩ ⟨Nat.zero_le _, Nat.zero_le _⟩ dX11_far_1 ?_
  refine A_ifeq (pc := 4) 18 dX11_far_4 (by decide) (fun hb4 => ?_) (fun hb4 => ?_)
  · refine A_aload_n (pc := 18) (i := 0) dX11_far_18 rfl rfl ?_
    refine A_ldc (pc := 19) (List.mem_cons_of_mem _ kc_X11_60) dX11_far_19 ?_
    refine A_callV1 (pc := 21) cv_X11_61 (s_err1 l hS) hS.k1 rfl rfl rfl rfl (Nat.le_of_ble_eq_true rfl) ⟨(Nat.le_of_ble_eq_true rfl), (Nat.le_of_ble_eq_true rfl)⟩ ⟨Nat.zero_le _, Nat.zero_le _⟩ dX11_far_21 ?_
    rw [c_far, if_pos hb4]
    exact A_iretE (pc := 24) dX11_far_24 rfl (Nat.zero_le _) (Nat.zero_le _) ((rfl)) ((rfl))
  · refine A_aload_n (pc := 7) (i := 0) dX11_far_7 rfl rfl ?_
    refine A_getr (pc := 8) 0 fl_X11_12_11 hS.k1 rfl (hS.w1 (k := 0) (by decide)) dX11_far_8 ?_
    refine A_iload_n (pc := 11) (i := 2) dX11_far_11 rfl rfl ?_
    refine A_callV1 (pc := 12) cv_X11_74 (s_hasRing l hS _ (by decide) _) (hS.k2 (by decide)) rfl rfl rfl rfl (Nat.le_of_ble_eq_true rfl) ⟨(Nat.le_of_ble_eq_true rfl), (Nat.le_of_ble_eq_true rfl)⟩ ⟨Nat.zero_le _, Nat.zero_le _⟩ dX11_far_12 ?_
    refine A_ifne (pc := 15) 25 dX11_far_15 (by decide) (fun hb15 => ?_) (fun hb15 => ?_)
    · have hx := (sr_b_1 _).mp hb4
      have hy := (sr_b_1 _).mp hb15
      have hyn : y.toNatClampNeg < n := nI_cl_lt hy.1 (hn ▸ hy.2) (by omega)
      have hy8 : y.toNatClampNeg < 8 := by omega
      refine A_aload_n (pc := 25) (i := 0) dX11_far_25 rfl rfl ?_
      refine A_getr (pc := 26) 0 fl_X11_12_11 hS.k1 rfl (hS.w1 (k := 0) (by decide)) dX11_far_26 ?_
      refine A_getr (pc := 29) 0 fl_X11_78_4 (hS.k2 (by decide)) rfl (hS.w2_0 (by decide)) dX11_far_29 ?_
      refine A_iload_n (pc := 32) (i := 2) dX11_far_32 rfl rfl ?_
      refine A_top (nI_cl hy.1) ?_
      refine A_aaldN (pc := 33) (hS.k3 (by decide)) (by decide) (by decide) hy8 (by decide) (hS.w3 (by decide) hy8) dX11_far_33 ?_
      refine A_geti (pc := 34) 7 fl_X11_87_3 (hS.k4 (by decide) hy8) rfl dX11_far_34 ?_
      refine A_ifne (pc := 37) 47 dX11_far_37 (by decide) (fun hb37 => ?_) (fun hb37 => ?_)
      · refine A_aload_n (pc := 47) (i := 0) dX11_far_47 rfl rfl ?_
        refine A_getr (pc := 48) 1 fl_X11_16_11 hS.k1 rfl (hS.w1 (k := 1) (by decide)) dX11_far_48 ?_
        refine A_aload_n (pc := 51) (i := 0) dX11_far_51 rfl rfl ?_
        refine A_getr (pc := 52) 0 fl_X11_12_11 hS.k1 rfl (hS.w1 (k := 0) (by decide)) dX11_far_52 ?_
        refine A_callV0 (pc := 55) cv_X11_220 (s_bec l hS hA) (hS.k2 (by decide)) rfl rfl rfl rfl (Nat.le_of_ble_eq_true rfl) ⟨(Nat.le_of_ble_eq_true rfl), (Nat.le_of_ble_eq_true rfl)⟩ ⟨Nat.zero_le _, Nat.zero_le _⟩ dX11_far_55 ?_
        have hS := lw_cp_sh (i := 1) (o := 0) hS 6
        refine A_aload_n (pc := 58) (i := 0) dX11_far_58 rfl rfl ?_
        refine A_getr (pc := 59) 1 fl_X11_16_11 hS.k1 rfl (hS.w1 (k := 1) (by decide)) dX11_far_59 ?_
        refine A_iload_n (pc := 62) (i := 1) dX11_far_62 rfl rfl ?_
        refine A_top (nI_cl hx.1) ?_
        refine A_iload_n (pc := 63) (i := 2) dX11_far_63 rfl rfl ?_
        refine A_top (nI_cl hy.1) ?_
        refine A_callV1 (pc := 64) cv_X11_226 (s_greatestX l hS 1 (by decide) nl ln lk hl n z1 _ tQ.cls (tQ.tick (by decide)) hq x.toNatClampNeg (Nat.lt_of_le_of_lt (ah60 hx) (by decide)) y.toNatClampNeg hy8) (hS.k2 (by decide)) rfl rfl rfl rfl (Nat.le_of_ble_eq_true rfl) ⟨(Nat.le_of_ble_eq_true rfl), (Nat.le_of_ble_eq_true rfl)⟩ ⟨Nat.zero_le _, Nat.zero_le _⟩ dX11_far_64 ?_
        rw [c_far, if_neg hb4, if_neg hb15, if_neg hb37]
        exact A_iretE (pc := 67) dX11_far_67 rfl (Nat.zero_le _) (Nat.zero_le _) ((rfl)) ((rfl))
      · refine A_aload_n (pc := 40) (i := 0) dX11_far_40 rfl rfl ?_
        refine A_ldc (pc := 41) (List.mem_cons_of_mem _ kc_X11_210) dX11_far_41 ?_
        refine A_callV1 (pc := 43) cv_X11_61 (s_err2 l hS) hS.k1 rfl rfl rfl rfl (Nat.le_of_ble_eq_true rfl) ⟨(Nat.le_of_ble_eq_true rfl), (Nat.le_of_ble_eq_true rfl)⟩ ⟨Nat.zero_le _, Nat.zero_le _⟩ dX11_far_43 ?_
        rw [c_far, if_neg hb4, if_neg hb15, if_pos hb37]
        exact A_iretE (pc := 46) dX11_far_46 rfl (Nat.zero_le _) (Nat.zero_le _) ((rfl)) ((rfl))
    · refine A_aload_n (pc := 18) (i := 0) dX11_far_18 rfl rfl ?_
      refine A_ldc (pc := 19) (List.mem_cons_of_mem _ kc_X11_60) dX11_far_19 ?_
      refine A_callV1 (pc := 21) cv_X11_61 (s_err1 l hS) hS.k1 rfl rfl rfl rfl (Nat.le_of_ble_eq_true rfl) ⟨(Nat.le_of_ble_eq_true rfl), (Nat.le_of_ble_eq_true rfl)⟩ ⟨Nat.zero_le _, Nat.zero_le _⟩ dX11_far_21 ?_
      rw [c_far, if_neg hb4, if_pos hb15]
      exact A_iretE (pc := 24) dX11_far_24 rfl (Nat.zero_le _) (Nat.zero_le _) ((rfl)) ((rfl))
noncomputable def d_far (x y : Int32) (n nl z : Nat) (lk : Nat → Nat) (iv : am_iv) : Int32 × am_iv := if sr_b (0 ≤ x ∧ x ≤ 60) = 0 then (-1000000001, rx_find 1 iv) else if sr_b (0 ≤ y ∧ y ≤ iv (31, 0, 0) 1 - 1) = 0 then (-1000000001, rx_find 1 iv) else if sr_b (rf iv (31, 0, 0) y.toNatClampNeg 7 = 1) = 0 then (-1000000002, rx_find 2 iv) else (fi (rt_tick 1 n nl z lk) (31, 1, 0) y.toNatClampNeg x.toNatClampNeg (-99999) (rx_cp (31, 0, 0) (31, 1, 0) iv 300))
set_option maxRecDepth 20000 in
theorem q_far (l : Launch) {kd : am_kd} {rv : am_rv} {iv : am_iv} (hR : shr kd rv) (x y : Int32) (n nl z : Nat) (lk : Nat → Nat) (hn : iv (31, 0, 0) 1 = nI n) (hn8 : n ≤ 8) (hq : rQ 1 n nl z lk (rx_cp (31, 0, 0) (31, 1, 0) iv 300)) : am_Met l mX12_far (am_rm 50 0 0) [am_P (30, 0, 0), am_I x, am_I y] kd rv iv (am_ret (some (am_I (d_far x y n nl z lk iv).1)) kd rv (d_far x y n nl z lk iv).2) := by
  refine am_Met.of (by decide) (Nat.le_of_ble_eq_true rfl) rfl ?_
  refine A_iload_n (pc := 0) (i := 1) dX12_far_0 rfl rfl ?_
  refine A_callS1 (pc := 1) cs_X12_244 (r_isAhead l _) rfl rfl (Nat.le_of_ble_eq_true rfl) ⟨(Nat.le_of_ble_eq_true rfl), (Nat.le_of_ble_eq_true rfl)⟩ ⟨Nat.zero_le _, Nat.zero_le _⟩ dX12_far_1 ?_
  refine A_ifeq (pc := 4) 15 dX12_far_4 (by decide) (fun hb4 => ?_) (fun hb4 => ?_)
  · refine A_aload_n (pc := 15) (i := 0) dX12_far_15 rfl rfl ?_
    refine A_iconst (pc := 16) (1) dX12_far_16 (by decide) ?_
    refine A_callV1 (pc := 17) cv_X12_65 (r_fnd1 l hR) hR.1 rfl rfl rfl rfl (Nat.le_of_ble_eq_true rfl) ⟨(Nat.le_of_ble_eq_true rfl), (Nat.le_of_ble_eq_true rfl)⟩ ⟨Nat.zero_le _, Nat.zero_le _⟩ dX12_far_17 ?_
    exact A_iretE (pc := 20) dX12_far_20 rfl (Nat.zero_le _) (Nat.zero_le _) (by rw [d_far, if_pos hb4]) (by rw [d_far, if_pos hb4])
  · refine A_aload_n (pc := 7) (i := 0) dX12_far_7 rfl rfl ?_
    refine A_iload_n (pc := 8) (i := 2) dX12_far_8 rfl rfl ?_
    refine A_callV1 (pc := 9) cv_X12_77 (r_isRing l hR _) hR.1 rfl rfl rfl rfl (Nat.le_of_ble_eq_true rfl) ⟨(Nat.le_of_ble_eq_true rfl), (Nat.le_of_ble_eq_true rfl)⟩ ⟨Nat.zero_le _, Nat.zero_le _⟩ dX12_far_9 ?_
    refine A_ifne (pc := 12) 21 dX12_far_12 (by decide) (fun hb12 => ?_) (fun hb12 => ?_)
    · have hx := (sr_b_1 _).mp hb4
      have hy := (sr_b_1 _).mp hb12
      have hyn : y.toNatClampNeg < n := nI_m1n hn8 hy.1 (hn ▸ hy.2)
      have hy8 : y.toNatClampNeg < 8 := by omega
      refine A_aload_n (pc := 21) (i := 0) dX12_far_21 rfl rfl ?_
      refine A_getr (pc := 22) 0 fl_X12_7_12 hR.1 rfl hR.w0 dX12_far_22 ?_
      refine A_iload_n (pc := 25) (i := 2) dX12_far_25 rfl rfl ?_
      refine A_top (nI_cl hy.1) ?_
      refine A_callS1 (pc := 26) cs_X12_209 (r_isWhole l (31, 0, 0) hR.k0 y.toNatClampNeg hy8) rfl rfl (Nat.le_of_ble_eq_true rfl) ⟨(Nat.le_of_ble_eq_true rfl), (Nat.le_of_ble_eq_true rfl)⟩ ⟨Nat.zero_le _, Nat.zero_le _⟩ dX12_far_26 ?_
      refine A_ifne (pc := 29) 38 dX12_far_29 (by decide) (fun hb29 => ?_) (fun hb29 => ?_)
      · refine A_aload_n (pc := 38) (i := 0) dX12_far_38 rfl rfl ?_
        refine A_getr (pc := 39) 0 fl_X12_7_12 hR.1 rfl hR.w0 dX12_far_39 ?_
        refine A_aload_n (pc := 42) (i := 0) dX12_far_42 rfl rfl ?_
        refine A_getr (pc := 43) 1 fl_X12_13_12 hR.1 rfl hR.w1 dX12_far_43 ?_
        refine A_callS0 (pc := 46) cs_X12_240 (r_copies l (31, 0, 0) (31, 1, 0) hR.k0 hR.k1 (by simp)) rfl rfl (Nat.le_of_ble_eq_true rfl) ⟨(Nat.le_of_ble_eq_true rfl), (Nat.le_of_ble_eq_true rfl)⟩ ⟨Nat.zero_le _, Nat.zero_le _⟩ dX12_far_46 ?_
        refine A_aload_n (pc := 49) (i := 0) dX12_far_49 rfl rfl ?_
        refine A_aload_n (pc := 50) (i := 0) dX12_far_50 rfl rfl ?_
        refine A_getr (pc := 51) 1 fl_X12_13_12 hR.1 rfl hR.w1 dX12_far_51 ?_
        refine A_iload_n (pc := 54) (i := 1) dX12_far_54 rfl rfl ?_
        refine A_top (nI_cl hx.1) ?_
        refine A_iload_n (pc := 55) (i := 2) dX12_far_55 rfl rfl ?_
        refine A_top (nI_cl hy.1) ?_
        refine A_callV1 (pc := 56) cv_X12_257 (r_farIn l hR 1 (by decide) hR.k1 n nl z lk _ rQ.ref (rQ.tick (by decide)) hq x.toNatClampNeg (Nat.lt_of_le_of_lt (ah60 hx) (by decide)) y.toNatClampNeg hy8) hR.1 rfl rfl rfl rfl (Nat.le_of_ble_eq_true rfl) ⟨(Nat.le_of_ble_eq_true rfl), (Nat.le_of_ble_eq_true rfl)⟩ ⟨Nat.zero_le _, Nat.zero_le _⟩ dX12_far_56 ?_
        exact A_iretE (pc := 59) dX12_far_59 rfl (Nat.zero_le _) (Nat.zero_le _) (by rw [d_far, if_neg hb4, if_neg hb12, if_neg hb29]) (by rw [d_far, if_neg hb4, if_neg hb12, if_neg hb29])
      · refine A_aload_n (pc := 32) (i := 0) dX12_far_32 rfl rfl ?_
        refine A_iconst (pc := 33) (2) dX12_far_33 (by decide) ?_
        refine A_callV1 (pc := 34) cv_X12_65 (r_fnd2 l hR) hR.1 rfl rfl rfl rfl (Nat.le_of_ble_eq_true rfl) ⟨(Nat.le_of_ble_eq_true rfl), (Nat.le_of_ble_eq_true rfl)⟩ ⟨Nat.zero_le _, Nat.zero_le _⟩ dX12_far_34 ?_
        exact A_iretE (pc := 37) dX12_far_37 rfl (Nat.zero_le _) (Nat.zero_le _) (by rw [d_far, if_neg hb4, if_neg hb12, if_pos hb29]) (by rw [d_far, if_neg hb4, if_neg hb12, if_pos hb29])
    · refine A_aload_n (pc := 15) (i := 0) dX12_far_15 rfl rfl ?_
      refine A_iconst (pc := 16) (1) dX12_far_16 (by decide) ?_
      refine A_callV1 (pc := 17) cv_X12_65 (r_fnd1 l hR) hR.1 rfl rfl rfl rfl (Nat.le_of_ble_eq_true rfl) ⟨(Nat.le_of_ble_eq_true rfl), (Nat.le_of_ble_eq_true rfl)⟩ ⟨Nat.zero_le _, Nat.zero_le _⟩ dX12_far_17 ?_
      exact A_iretE (pc := 20) dX12_far_20 rfl (Nat.zero_le _) (Nat.zero_le _) (by rw [d_far, if_neg hb4, if_pos hb12]) (by rw [d_far, if_neg hb4, if_pos hb12])
theorem far_alike {n nl z1 y1 : Nat} {ln : Nat → am_N} {lk : Nat → Nat} {w u : am_iv} (hT : tR 1 1 n nl z1 y1 ln lk w u) {r : Nat} (hr : r < n) (N : Nat) (h7 : w (4, 1, r) 7 = 1) : (fi (rt_tick 1 n nl y1 lk) (31, 1, 0) r N (-99999) u).1 = (gx (rm_tick 1 n z1 nl ln lk) (4, 1, r) N (w (4, 1, r) 1) w).1 := by
  have e := gx_fi (T := (rm_tick 1 n z1 nl ln lk)) (T' := rt_tick 1 n nl y1 lk) (n := (4, 1, r)) (m := (31, 1, 0)) (r := r) (R := tR 1 1 n nl z1 y1 ln lk) (fun w u h => h.tick (by decide)) (fun w u h => ⟨h.at hr 7 (by decide), h.at hr 1 (by decide), (h.1.2.2.1 r hr).2.2.2.2.2.2⟩) N (-99999) w u hT
  have e7 := hT.at hr 7 (by decide)
  have e1 := hT.at hr 1 (by decide)
  rw [e, if_pos (by rw [← e7]; exact h7), ← e1]
  have b := (hT.1.2.2.1 r hr).1
  by_cases c : w (4, 1, r) 1 ≤ -99999
  · have c1 := Int32.le_iff_toInt_le.mp c
    have c2 : w (4, 1, r) 1 = -99999 := Int32.toInt_inj.mp (by rw [t_m99999] at c1 ⊢; omega)
    rw [if_pos c, c2]
  · rw [if_neg c]
theorem call_far (l : Launch) {kd : am_kd} {rv : am_rv} {iv : am_iv} (h : REL kd rv iv iv) (x : Int32) (y : Int32) : CALL l kd rv iv mX11_far mX12_far [am_I x, am_I y] := by
  obtain ⟨n, nl, ln, lk, z0, y0, z1, y1, zt, zw, hX⟩ := h.n
  have hA := hX.AH h.1
  have hn8 := hX.1.1.2.2
  have hB := hX.b0 (h.z (i := 1) (by decide))
  have hl := hB.1.laws
  have hq : tQ 1 n nl z1 ln lk (rb_heap 1 0 n z0 z1 zt zw iv) := ⟨y1, _, ah_tR hX (h.z (i := 1) (by decide))⟩
  refine CALL.fg (d2 := 50) h (c_far x y n nl z0 z1 zt zw ln lk rv iv) (d_far x y n nl y1 lk) (p_far l h.S x y n nl z0 z1 zt zw ln lk hA hl hq) (fun q k hq => ?_) (fun hR h1 eu => ?_) (by decide) (by decide) (fun u hu eu => ?_) (fun u q k hq => ?_)
  · unfold c_far
    repeat' split
    all_goals first
      | exact er_u hq
      | exact (chg.rb.tr (chg.gxx (fun w => chg.tick) _ _ _)).u hq
  · have hX := hX.u eu
    have hq : rQ 1 n nl y1 lk (rx_cp (31, 0, 0) (31, 1, 0) _ 300) := ⟨z1, ln, _, ah_tR hX (h.z (i := 1) (by decide))⟩
    exact q_far l hR x y n nl y1 lk hX.1.1.2.1 hn8 hq
  · have hX := hX.u eu
    have hz := hu.z (i := 1) (by decide)
    have hT := ah_tR hX hz
    unfold c_far d_far
    rw [← hX.has y]
    by_cases c0 : sr_b (0 ≤ x ∧ x ≤ 60) = 0
    · rw [if_pos c0, if_pos c0]; exact ⟨rfl, hu.err 1 (by decide)⟩
    · rw [if_neg c0, if_neg c0]
      by_cases c1 : sr_b (0 ≤ y ∧ y < iv (2, 0, 0) 1) = 0
      · rw [if_pos c1, if_pos c1]; exact ⟨rfl, hu.err 1 (by decide)⟩
      · rw [if_neg c1, if_neg c1]
        obtain ⟨hy0, hyn⟩ := hX.idx c1
        have e7 : rf u (31, 0, 0) y.toNatClampNeg 7 = iv (4, 0, y.toNatClampNeg) 7 := (hX.1.2.1 _ hyn 7 (by decide) (by decide)).symm
        have b7 := (hX.1.2.2 _ hyn).2.2.2.2.2.2
        rw [e7]
        by_cases c3 : iv (4, 0, y.toNatClampNeg) 7 = 0
        · rw [if_pos c3, if_pos (by rw [c3]; decide)]; exact ⟨rfl, hu.err 2 (by decide)⟩
        · have c4 := b7.resolve_left c3
          rw [if_neg c3, if_neg (by rw [c4]; decide)]
          have w7 : rb_heap 1 0 n z0 z1 zt zw iv (4, 1, y.toNatClampNeg) 7 = 1 := (rbv_4 (by decide) hyn (by decide) (by decide)).trans c4
          exact ⟨(far_alike hT hyn x.toNatClampNeg w7).symm, (hu.cp (Or.inl rfl) (by decide)).chgT (Or.inl rfl) ((chg.rb.tr (chg.gxx (fun w => chg.tick) _ _ _))) (fun q k z => chU.d0 (Or.inl rfl) ((chU.cp.tr (chU.fii (fun w => chU.tick) _ _ _))) z)⟩
  · unfold d_far
    repeat' split
    all_goals first
      | exact rx_c hq
      | exact (chU.cp.tr (chU.fii (fun w => chU.tick) _ _ _)).c hq
