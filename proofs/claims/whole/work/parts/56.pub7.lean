section AK
variable {l : Launch} {M : am_M} {R : Room} {post : am_Post} {pc : Nat} {ls : List (Option am_V)} {st : List am_V} {kd : am_kd} {rv : am_rv} {iv : am_iv} {cu su : Nat}
theorem W_make {n : am_N} {K : Nat} {j m : Int32} (hK : K < 7) (hk : kd n = none) (ht : n.1 < 40) (hi0 : ∀ k, iv n k = 0) (hr0 : ∀ k, rv n k = none) (hM : M.1.cls = RX11) (hw : am_wt st ≤ 8) (hroom : 4 + 1 ≤ R.frames ∧ 8 + (3 + 11) + 60 * 4 ≤ R.locals) (hcs : cu + 1 ≤ R.cells ∧ su + 3 ≤ R.slots) (hd : decode M.2.1 pc = .ok (.invokestatic 101, 3)) (k : am_W l M R post (pc + 3) ls (am_P n :: st) (am_uk kd n (.inl (lw_ci K))) rv (mk_iv n (nI K) j m iv) (cu + 1) (su + 3)) : am_W l M R post pc ls (am_I m :: am_I j :: am_I (nI K) :: st) kd rv iv cu su := by
  rcases kd7 hK with rfl | rfl | rfl | rfl | rfl | rfl | rfl
  · exact A_callS (by rw [hM]; exact cs_X11_101) (s_mk0 l n hk ht hi0 hr0 j m) rfl rfl hw hroom hcs hd (fun v9 kd9 rv9 iv9 h9 => by
      obtain ⟨e1, e2, e3, e4⟩ := h9
      subst e1; subst e2; subst e3; subst e4
      exact k)
  · exact A_callS (by rw [hM]; exact cs_X11_101) (s_mk1 l n hk ht hi0 hr0 j m) rfl rfl hw hroom hcs hd (fun v9 kd9 rv9 iv9 h9 => by
      obtain ⟨e1, e2, e3, e4⟩ := h9
      subst e1; subst e2; subst e3; subst e4
      exact k)
  · exact A_callS (by rw [hM]; exact cs_X11_101) (s_mk2 l n hk ht hi0 hr0 j m) rfl rfl hw hroom hcs hd (fun v9 kd9 rv9 iv9 h9 => by
      obtain ⟨e1, e2, e3, e4⟩ := h9
      subst e1; subst e2; subst e3; subst e4
      exact k)
  · exact A_callS (by rw [hM]; exact cs_X11_101) (s_mk3 l n hk ht hi0 hr0 j m) rfl rfl hw hroom hcs hd (fun v9 kd9 rv9 iv9 h9 => by
      obtain ⟨e1, e2, e3, e4⟩ := h9
      subst e1; subst e2; subst e3; subst e4
      exact k)
  · exact A_callS (by rw [hM]; exact cs_X11_101) (s_mk4 l n hk ht hi0 hr0 j m) rfl rfl hw hroom hcs hd (fun v9 kd9 rv9 iv9 h9 => by
      obtain ⟨e1, e2, e3, e4⟩ := h9
      subst e1; subst e2; subst e3; subst e4
      exact k)
  · exact A_callS (by rw [hM]; exact cs_X11_101) (s_mk5 l n hk ht hi0 hr0 j m) rfl rfl hw hroom hcs hd (fun v9 kd9 rv9 iv9 h9 => by
      obtain ⟨e1, e2, e3, e4⟩ := h9
      subst e1; subst e2; subst e3; subst e4
      exact k)
  · exact A_callS (by rw [hM]; exact cs_X11_101) (s_mk6 l n hk ht hi0 hr0 j m) rfl rfl hw hroom hcs hd (fun v9 kd9 rv9 iv9 h9 => by
      obtain ⟨e1, e2, e3, e4⟩ := h9
      subst e1; subst e2; subst e3; subst e4
      exact k)
end AK
noncomputable def c_lawE (x y : Int32) (iv : am_iv) : Int32 × am_iv := if sr_b (0 ≤ x ∧ x ≤ 6) = 0 then (-1000000001, er_heap 1 iv) else if sr_b (0 ≤ y ∧ y ≤ 99) = 0 then (-1000000001, er_heap 1 iv) else (-1000000004, er_heap 4 iv)
set_option maxRecDepth 20000 in
theorem p_lawE (l : Launch) {kd : am_kd} {rv : am_rv} {iv : am_iv} (hS : sh kd rv) (x y : Int32) (hbad : sr_b (0 ≤ x ∧ x ≤ 6) = 0 ∨ sr_b (0 ≤ y ∧ y ≤ 99) = 0 ∨ ¬ iv (2, 0, 0) 4 < 6) : am_Met l mX11_law (am_rm 2 0 0) [am_P (1, 0, 0), am_I x, am_I y] kd rv iv (am_ret (some (am_I (c_lawE x y iv).1)) kd rv (c_lawE x y iv).2) := by
  refine am_Met.of (by decide) (Nat.le_of_ble_eq_true rfl) rfl ?_
  refine A_iload_n (pc := 0) (i := 1) dX11_law_0 rfl rfl ?_
  refine A_iconst (pc := 1) (0) dX11_law_1 (by decide) ?_
  refine A_bipush (pc := 2) (6) dX11_law_2 (by decide) ?_
  refine A_callS1 (pc := 4) cs_X11_56 (s_isHeld l _ _ _) rfl rfl (Nat.le_of_ble_eq_true rfl) ⟨(Nat.le_of_ble_eq_true rfl), (Nat.le_of_ble_eq_true rfl)⟩ ⟨Nat.zero_le _, Nat.zero_le _⟩ dX11_law_4 ?_
  refine A_ifeq (pc := 7) 20 dX11_law_7 (by decide) (fun hb7 => ?_) (fun hb7 => ?_)
  · refine A_aload_n (pc := 20) (i := 0) dX11_law_20 rfl rfl ?_
    refine A_ldc (pc := 21) (List.mem_cons_of_mem _ kc_X11_60) dX11_law_21 ?_
    refine A_callV1 (pc := 23) cv_X11_61 (s_err1 l hS) hS.k1 rfl rfl rfl rfl (Nat.le_of_ble_eq_true rfl) ⟨(Nat.le_of_ble_eq_true rfl), (Nat.le_of_ble_eq_true rfl)⟩ ⟨Nat.zero_le _, Nat.zero_le _⟩ dX11_law_23 ?_
    exact A_iretE (pc := 26) dX11_law_26 rfl (Nat.zero_le _) (Nat.zero_le _) (by rw [c_lawE, if_pos hb7]) (by rw [c_lawE, if_pos hb7])
  · refine A_iload_n (pc := 10) (i := 2) dX11_law_10 rfl rfl ?_
    refine A_iconst (pc := 11) (0) dX11_law_11 (by decide) ?_
    refine A_bipush (pc := 12) (99) dX11_law_12 (by decide) ?_
    refine A_callS1 (pc := 14) cs_X11_56 (s_isHeld l _ _ _) rfl rfl (Nat.le_of_ble_eq_true rfl) ⟨(Nat.le_of_ble_eq_true rfl), (Nat.le_of_ble_eq_true rfl)⟩ ⟨Nat.zero_le _, Nat.zero_le _⟩ dX11_law_14 ?_
    refine A_ifne (pc := 17) 27 dX11_law_17 (by decide) (fun hb17 => ?_) (fun hb17 => ?_)
    · refine A_aload_n (pc := 27) (i := 0) dX11_law_27 rfl rfl ?_
      refine A_getr (pc := 28) 0 fl_X11_12_11 hS.k1 rfl (hS.w1 (k := 0) (by decide)) dX11_law_28 ?_
      refine A_geti (pc := 31) 4 fl_X11_98_4 (hS.k2 (by decide)) rfl dX11_law_31 ?_
      refine A_bipush (pc := 34) (6) dX11_law_34 (by decide) ?_
      refine A_icmplt (pc := 36) 46 dX11_law_36 (by decide) (fun hb36 => ?_) (fun hb36 => ?_)
      · exact absurd hb36 ((hbad.resolve_left hb7).resolve_left hb17)
      · refine A_aload_n (pc := 39) (i := 0) dX11_law_39 rfl rfl ?_
        refine A_ldc (pc := 40) (List.mem_cons_of_mem _ kc_X11_69) dX11_law_40 ?_
        refine A_callV1 (pc := 42) cv_X11_61 (s_err4 l hS) hS.k1 rfl rfl rfl rfl (Nat.le_of_ble_eq_true rfl) ⟨(Nat.le_of_ble_eq_true rfl), (Nat.le_of_ble_eq_true rfl)⟩ ⟨Nat.zero_le _, Nat.zero_le _⟩ dX11_law_42 ?_
        exact A_iretE (pc := 45) dX11_law_45 rfl (Nat.zero_le _) (Nat.zero_le _) (by rw [c_lawE, if_neg hb7, if_neg hb17]) (by rw [c_lawE, if_neg hb7, if_neg hb17])
    · refine A_aload_n (pc := 20) (i := 0) dX11_law_20 rfl rfl ?_
      refine A_ldc (pc := 21) (List.mem_cons_of_mem _ kc_X11_60) dX11_law_21 ?_
      refine A_callV1 (pc := 23) cv_X11_61 (s_err1 l hS) hS.k1 rfl rfl rfl rfl (Nat.le_of_ble_eq_true rfl) ⟨(Nat.le_of_ble_eq_true rfl), (Nat.le_of_ble_eq_true rfl)⟩ ⟨Nat.zero_le _, Nat.zero_le _⟩ dX11_law_23 ?_
      exact A_iretE (pc := 26) dX11_law_26 rfl (Nat.zero_le _) (Nat.zero_le _) (by rw [c_lawE, if_neg hb7, if_pos hb17]) (by rw [c_lawE, if_neg hb7, if_pos hb17])
noncomputable def c_lawG (n : am_N) (x y : Int32) (nl : Nat) (iv : am_iv) : am_iv := al_iv 0 nl (mk_iv n x (nI nl) y iv)
set_option maxRecDepth 20000 in
theorem p_lawG (l : Launch) {kd : am_kd} {rv : am_rv} {iv : am_iv} (hS : sh kd rv) (x y : Int32) (hx : ¬ sr_b (0 ≤ x ∧ x ≤ 6) = 0) (hy : ¬ sr_b (0 ≤ y ∧ y ≤ 99) = 0) (nl : Nat) (hn : iv (2, 0, 0) 4 = nI nl) (hn6 : nl < 6) (q : am_N) (hq : kd q = none) (hq22 : q.1 = 22) (hi0 : ∀ k, iv q k = 0) (hr0 : ∀ k, rv q k = none) : am_Met l mX11_law (am_rm 6 1 3) [am_P (1, 0, 0), am_I x, am_I y] kd rv iv (am_ret (some (am_I (nI nl))) (am_uk kd q (.inl (lw_ci x.toNatClampNeg))) (am_ur rv (7, 0, 0) nl (some q)) (c_lawG q x y nl iv)) := by
  refine am_Met.of (by decide) (Nat.le_of_ble_eq_true rfl) rfl ?_
  have hq2 : ((2, 0, 0) : am_N) ≠ q := fun e => by rw [← e] at hq22; simp at hq22
  refine A_iload_n (pc := 0) (i := 1) dX11_law_0 rfl rfl ?_
  refine A_iconst (pc := 1) (0) dX11_law_1 (by decide) ?_
  refine A_bipush (pc := 2) (6) dX11_law_2 (by decide) ?_
  refine A_callS1 (pc := 4) cs_X11_56 (s_isHeld l _ _ _) rfl rfl (Nat.le_of_ble_eq_true rfl) ⟨(Nat.le_of_ble_eq_true rfl), (Nat.le_of_ble_eq_true rfl)⟩ ⟨Nat.zero_le _, Nat.zero_le _⟩ dX11_law_4 ?_
  refine A_ifeq (pc := 7) 20 dX11_law_7 (by decide) (fun hb7 => ?_) (fun hb7 => ?_)
  · exact absurd hb7 hx
  · refine A_iload_n (pc := 10) (i := 2) dX11_law_10 rfl rfl ?_
    refine A_iconst (pc := 11) (0) dX11_law_11 (by decide) ?_
    refine A_bipush (pc := 12) (99) dX11_law_12 (by decide) ?_
    refine A_callS1 (pc := 14) cs_X11_56 (s_isHeld l _ _ _) rfl rfl (Nat.le_of_ble_eq_true rfl) ⟨(Nat.le_of_ble_eq_true rfl), (Nat.le_of_ble_eq_true rfl)⟩ ⟨Nat.zero_le _, Nat.zero_le _⟩ dX11_law_14 ?_
    refine A_ifne (pc := 17) 27 dX11_law_17 (by decide) (fun hb17 => ?_) (fun hb17 => ?_)
    · have hx1 := (sr_b_1 _).mp hx
      have hx7 : x.toNatClampNeg < 7 := Nat.lt_of_le_of_lt (nI_cl_le (n := 6) hx1.1 hx1.2 (by decide)) (by decide)
      have ex := nI_cl hx1.1
      refine A_aload_n (pc := 27) (i := 0) dX11_law_27 rfl rfl ?_
      refine A_getr (pc := 28) 0 fl_X11_12_11 hS.k1 rfl (hS.w1 (k := 0) (by decide)) dX11_law_28 ?_
      refine A_geti (pc := 31) 4 fl_X11_98_4 (hS.k2 (by decide)) rfl dX11_law_31 ?_
      refine A_bipush (pc := 34) (6) dX11_law_34 (by decide) ?_
      refine A_icmplt (pc := 36) 46 dX11_law_36 (by decide) (fun hb36 => ?_) (fun hb36 => ?_)
      · refine A_aload_n (pc := 46) (i := 0) dX11_law_46 rfl rfl ?_
        refine A_getr (pc := 47) 0 fl_X11_12_11 hS.k1 rfl (hS.w1 (k := 0) (by decide)) dX11_law_47 ?_
        refine A_iload_n (pc := 50) (i := 1) dX11_law_50 rfl rfl ?_
        refine A_top ex ?_
        refine A_aload_n (pc := 51) (i := 0) dX11_law_51 rfl rfl ?_
        refine A_getr (pc := 52) 0 fl_X11_12_11 hS.k1 rfl (hS.w1 (k := 0) (by decide)) dX11_law_52 ?_
        refine A_geti (pc := 55) 4 fl_X11_98_4 (hS.k2 (by decide)) rfl dX11_law_55 ?_
        refine A_top hn ?_
        refine A_iload_n (pc := 58) (i := 2) dX11_law_58 rfl rfl ?_
        refine W_make (pc := 59) (n := q) hx7 hq (by rw [hq22]; decide) hi0 hr0 rfl (Nat.le_of_ble_eq_true rfl) ⟨(Nat.le_of_ble_eq_true rfl), (Nat.le_of_ble_eq_true rfl)⟩ ⟨by decide, by decide⟩ dX11_law_59 ?_
        have hS := hS.uk (n := q) (by rw [hq22]; decide) (.inl (lw_ci x.toNatClampNeg))
        refine A_callV1 (pc := 62) cv_X11_105 (s_addLaw l hS 0 (by decide) nl (by unfold mk_iv; rw [am_ui_o hq2, am_ui_o hq2, am_ui_o hq2]; exact hn) hn6 q x.toNatClampNeg hx7 am_uk_s) (hS.k2 (by decide)) rfl rfl rfl rfl (Nat.le_of_ble_eq_true rfl) ⟨(Nat.le_of_ble_eq_true rfl), (Nat.le_of_ble_eq_true rfl)⟩ ⟨by decide, by decide⟩ dX11_law_62 ?_
        exact A_iretE (pc := 65) dX11_law_65 rfl (by decide) (by decide) ((rfl)) (by rw [← ex]; rfl)
      · exact absurd (by rw [hn]; exact nI_lt (b := 6) hn6 (by decide)) hb36
    · exact absurd hb17 hy
noncomputable def d_law (x y : Int32) (nl : Nat) (iv : am_iv) : Int32 × am_iv := if sr_b (0 ≤ x ∧ x ≤ 6) = 0 then (-1000000001, rx_find 1 iv) else if sr_b (0 ≤ y ∧ y ≤ 99) = 0 then (-1000000001, rx_find 1 iv) else if iv (31, 0, 0) 2 = 6 then (-1000000004, rx_find 4 iv) else ((am_ui (am_ui (am_ui (am_ui iv (31, 0, 0) (20 + 2 * nl) x) (31, 0, 0) (21 + 2 * nl) y) (31, 0, 0) 3 ((am_ui (am_ui iv (31, 0, 0) (20 + 2 * nl) x) (31, 0, 0) (21 + 2 * nl) y) (31, 0, 0) 3 ||| 1 <<< ((am_ui (am_ui iv (31, 0, 0) (20 + 2 * nl) x) (31, 0, 0) (21 + 2 * nl) y) (31, 0, 0) 2 &&& 31))) (31, 0, 0) 2 ((am_ui (am_ui (am_ui iv (31, 0, 0) (20 + 2 * nl) x) (31, 0, 0) (21 + 2 * nl) y) (31, 0, 0) 3 ((am_ui (am_ui iv (31, 0, 0) (20 + 2 * nl) x) (31, 0, 0) (21 + 2 * nl) y) (31, 0, 0) 3 ||| 1 <<< ((am_ui (am_ui iv (31, 0, 0) (20 + 2 * nl) x) (31, 0, 0) (21 + 2 * nl) y) (31, 0, 0) 2 &&& 31))) (31, 0, 0) 2 + 1)) (31, 0, 0) 2 - 1, (am_ui (am_ui (am_ui (am_ui iv (31, 0, 0) (20 + 2 * nl) x) (31, 0, 0) (21 + 2 * nl) y) (31, 0, 0) 3 ((am_ui (am_ui iv (31, 0, 0) (20 + 2 * nl) x) (31, 0, 0) (21 + 2 * nl) y) (31, 0, 0) 3 ||| 1 <<< ((am_ui (am_ui iv (31, 0, 0) (20 + 2 * nl) x) (31, 0, 0) (21 + 2 * nl) y) (31, 0, 0) 2 &&& 31))) (31, 0, 0) 2 ((am_ui (am_ui (am_ui iv (31, 0, 0) (20 + 2 * nl) x) (31, 0, 0) (21 + 2 * nl) y) (31, 0, 0) 3 ((am_ui (am_ui iv (31, 0, 0) (20 + 2 * nl) x) (31, 0, 0) (21 + 2 * nl) y) (31, 0, 0) 3 ||| 1 <<< ((am_ui (am_ui iv (31, 0, 0) (20 + 2 * nl) x) (31, 0, 0) (21 + 2 * nl) y) (31, 0, 0) 2 &&& 31))) (31, 0, 0) 2 + 1)))
set_option maxRecDepth 20000 in
theorem q_law (l : Launch) {kd : am_kd} {rv : am_rv} {iv : am_iv} (hR : shr kd rv) (x y : Int32) (nl : Nat) (hnl : iv (31, 0, 0) 2 = nI nl) (hnl0 : nl ≤ 6) : am_Met l mX12_law (am_rm 2 0 0) [am_P (30, 0, 0), am_I x, am_I y] kd rv iv (am_ret (some (am_I (d_law x y nl iv).1)) kd rv (d_law x y nl iv).2) := by
  refine am_Met.of (by decide) (Nat.le_of_ble_eq_true rfl) rfl ?_
  refine A_iload_n (pc := 0) (i := 1) dX12_law_0 rfl rfl ?_
  refine A_i2l (pc := 1) dX12_law_1 ?_
  refine A_lconst (pc := 2) (0) dX12_law_2 (by decide) ?_
  refine A_topJ (y := Int32.toInt64 (0)) (by decide +kernel) ?_
  refine A_ldc2 (pc := 3) (List.mem_cons_of_mem _ kc_X12_87) dX12_law_3 ?_
  refine A_topJ (y := Int32.toInt64 (6)) (by decide +kernel) ?_
  refine A_callS1 (pc := 6) cs_X12_48 (r_in l _ _ _) rfl rfl (Nat.le_of_ble_eq_true rfl) ⟨(Nat.le_of_ble_eq_true rfl), (Nat.le_of_ble_eq_true rfl)⟩ ⟨Nat.zero_le _, Nat.zero_le _⟩ dX12_law_6 ?_
  refine A_ifeq (pc := 9) 24 dX12_law_9 (by decide) (fun hb9 => ?_) (fun hb9 => ?_)
  · refine A_aload_n (pc := 24) (i := 0) dX12_law_24 rfl rfl ?_
    refine A_iconst (pc := 25) (1) dX12_law_25 (by decide) ?_
    refine A_callV1 (pc := 26) cv_X12_65 (r_fnd1 l hR) hR.1 rfl rfl rfl rfl (Nat.le_of_ble_eq_true rfl) ⟨(Nat.le_of_ble_eq_true rfl), (Nat.le_of_ble_eq_true rfl)⟩ ⟨Nat.zero_le _, Nat.zero_le _⟩ dX12_law_26 ?_
    exact A_iretE (pc := 29) dX12_law_29 rfl (Nat.zero_le _) (Nat.zero_le _) (by rw [d_law, if_pos hb9]) (by rw [d_law, if_pos hb9])
  · refine A_iload_n (pc := 12) (i := 2) dX12_law_12 rfl rfl ?_
    refine A_i2l (pc := 13) dX12_law_13 ?_
    refine A_lconst (pc := 14) (0) dX12_law_14 (by decide) ?_
    refine A_topJ (y := Int32.toInt64 (0)) (by decide +kernel) ?_
    refine A_ldc2 (pc := 15) (List.mem_cons_of_mem _ kc_X12_89) dX12_law_15 ?_
    refine A_topJ (y := Int32.toInt64 (99)) (by decide +kernel) ?_
    refine A_callS1 (pc := 18) cs_X12_48 (r_in l _ _ _) rfl rfl (Nat.le_of_ble_eq_true rfl) ⟨(Nat.le_of_ble_eq_true rfl), (Nat.le_of_ble_eq_true rfl)⟩ ⟨Nat.zero_le _, Nat.zero_le _⟩ dX12_law_18 ?_
    refine A_ifne (pc := 21) 30 dX12_law_21 (by decide) (fun hb21 => ?_) (fun hb21 => ?_)
    · refine A_aload_n (pc := 30) (i := 0) dX12_law_30 rfl rfl ?_
      refine A_getr (pc := 31) 0 fl_X12_7_12 hR.1 rfl hR.w0 dX12_law_31 ?_
      refine A_iconst (pc := 34) (2) dX12_law_34 (by decide) ?_
      refine A_ialdN (pc := 35) hR.k0 (show 2 < 300 by decide) (by decide) dX12_law_35 ?_
      refine A_bipush (pc := 36) (6) dX12_law_36 (by decide) ?_
      refine A_icmpne (pc := 38) 47 dX12_law_38 (by decide) (fun hb38 => ?_) (fun hb38 => ?_)
      · have hnl6 : nl < 6 := by
          rcases Nat.lt_or_ge nl 6 with z | z
          · exact z
          · exact absurd (by rw [hnl, show nl = 6 by omega]; rfl) hb38
        refine A_aload_n (pc := 47) (i := 0) dX12_law_47 rfl rfl ?_
        refine A_getr (pc := 48) 0 fl_X12_7_12 hR.1 rfl hR.w0 dX12_law_48 ?_
        refine A_bipush (pc := 51) (20) dX12_law_51 (by decide) ?_
        refine A_iconst (pc := 53) (2) dX12_law_53 (by decide) ?_
        refine A_aload_n (pc := 54) (i := 0) dX12_law_54 rfl rfl ?_
        refine A_getr (pc := 55) 0 fl_X12_7_12 hR.1 rfl hR.w0 dX12_law_55 ?_
        refine A_iconst (pc := 58) (2) dX12_law_58 (by decide) ?_
        refine A_ialdN (pc := 59) hR.k0 (show 2 < 300 by decide) (by decide) dX12_law_59 ?_
        refine A_imul (pc := 60) dX12_law_60 ?_
        refine A_iadd (pc := 61) dX12_law_61 ?_
        refine A_top (y := nI (20 + 2 * nl)) (by rw [hnl]; show nI 20 + nI 2 * nI nl = _; rw [show nI 2 * nI nl = nI (2 * nl) from (Int32.ofNat_mul 2 nl).symm, nI_add]) ?_
        refine A_iload_n (pc := 62) (i := 1) dX12_law_62 rfl rfl ?_
        refine A_iastN (pc := 63) hR.k0 (show 20 + 2 * nl < 300 by omega) (by decide) dX12_law_63 ?_
        refine A_aload_n (pc := 64) (i := 0) dX12_law_64 rfl rfl ?_
        refine A_getr (pc := 65) 0 fl_X12_7_12 hR.1 rfl hR.w0 dX12_law_65 ?_
        refine A_bipush (pc := 68) (20) dX12_law_68 (by decide) ?_
        refine A_iconst (pc := 70) (2) dX12_law_70 (by decide) ?_
        refine A_aload_n (pc := 71) (i := 0) dX12_law_71 rfl rfl ?_
        refine A_getr (pc := 72) 0 fl_X12_7_12 hR.1 rfl hR.w0 dX12_law_72 ?_
        refine A_iconst (pc := 75) (2) dX12_law_75 (by decide) ?_
        refine A_ialdN (pc := 76) hR.k0 (show 2 < 300 by decide) (by decide) dX12_law_76 ?_
        refine A_imul (pc := 77) dX12_law_77 ?_
        refine A_iadd (pc := 78) dX12_law_78 ?_
        refine A_iconst (pc := 79) (1) dX12_law_79 (by decide) ?_
        refine A_iadd (pc := 80) dX12_law_80 ?_
        refine A_top (y := nI (21 + 2 * nl)) (by rw [am_ui_n (by simp; omega)]; rw [hnl]; show nI 20 + nI 2 * nI nl + nI 1 = _; rw [show nI 2 * nI nl = nI (2 * nl) from (Int32.ofNat_mul 2 nl).symm, nI_add, nI_add, show 20 + 2 * nl + 1 = 21 + 2 * nl by omega]) ?_
        refine A_iload_n (pc := 81) (i := 2) dX12_law_81 rfl rfl ?_
        refine A_iastN (pc := 82) hR.k0 (show 21 + 2 * nl < 300 by omega) (by decide) dX12_law_82 ?_
        refine A_aload_n (pc := 83) (i := 0) dX12_law_83 rfl rfl ?_
        refine A_getr (pc := 84) 0 fl_X12_7_12 hR.1 rfl hR.w0 dX12_law_84 ?_
        refine A_iconst (pc := 87) (3) dX12_law_87 (by decide) ?_
        refine A_dup2 (pc := 88) dX12_law_88 rfl rfl ?_
        refine A_ialdN (pc := 89) hR.k0 (show 3 < 300 by decide) (by decide) dX12_law_89 ?_
        refine A_iconst (pc := 90) (1) dX12_law_90 (by decide) ?_
        refine A_aload_n (pc := 91) (i := 0) dX12_law_91 rfl rfl ?_
        refine A_getr (pc := 92) 0 fl_X12_7_12 hR.1 rfl hR.w0 dX12_law_92 ?_
        refine A_iconst (pc := 95) (2) dX12_law_95 (by decide) ?_
        refine A_ialdN (pc := 96) hR.k0 (show 2 < 300 by decide) (by decide) dX12_law_96 ?_
        refine A_ishl (pc := 97) dX12_law_97 ?_
        refine A_ior (pc := 98) dX12_law_98 ?_
        refine A_iastN (pc := 99) hR.k0 (show 3 < 300 by decide) (by decide) dX12_law_99 ?_
        refine A_aload_n (pc := 100) (i := 0) dX12_law_100 rfl rfl ?_
        refine A_getr (pc := 101) 0 fl_X12_7_12 hR.1 rfl hR.w0 dX12_law_101 ?_
        refine A_iconst (pc := 104) (2) dX12_law_104 (by decide) ?_
        refine A_dup2 (pc := 105) dX12_law_105 rfl rfl ?_
        refine A_ialdN (pc := 106) hR.k0 (show 2 < 300 by decide) (by decide) dX12_law_106 ?_
        refine A_iconst (pc := 107) (1) dX12_law_107 (by decide) ?_
        refine A_iadd (pc := 108) dX12_law_108 ?_
        refine A_iastN (pc := 109) hR.k0 (show 2 < 300 by decide) (by decide) dX12_law_109 ?_
        refine A_aload_n (pc := 110) (i := 0) dX12_law_110 rfl rfl ?_
        refine A_getr (pc := 111) 0 fl_X12_7_12 hR.1 rfl hR.w0 dX12_law_111 ?_
        refine A_iconst (pc := 114) (2) dX12_law_114 (by decide) ?_
        refine A_ialdN (pc := 115) hR.k0 (show 2 < 300 by decide) (by decide) dX12_law_115 ?_
        refine A_iconst (pc := 116) (1) dX12_law_116 (by decide) ?_
        refine A_isub (pc := 117) dX12_law_117 ?_
        exact A_iretE (pc := 118) dX12_law_118 rfl (Nat.zero_le _) (Nat.zero_le _) (by rw [d_law, if_neg hb9, if_neg hb21, if_neg hb38]) (by rw [d_law, if_neg hb9, if_neg hb21, if_neg hb38])
      · refine A_aload_n (pc := 41) (i := 0) dX12_law_41 rfl rfl ?_
        refine A_iconst (pc := 42) (4) dX12_law_42 (by decide) ?_
        refine A_callV1 (pc := 43) cv_X12_65 (r_fnd4 l hR) hR.1 rfl rfl rfl rfl (Nat.le_of_ble_eq_true rfl) ⟨(Nat.le_of_ble_eq_true rfl), (Nat.le_of_ble_eq_true rfl)⟩ ⟨Nat.zero_le _, Nat.zero_le _⟩ dX12_law_43 ?_
        exact A_iretE (pc := 46) dX12_law_46 rfl (Nat.zero_le _) (Nat.zero_le _) (by rw [d_law, if_neg hb9, if_neg hb21, if_pos hb38]) (by rw [d_law, if_neg hb9, if_neg hb21, if_pos hb38])
    · refine A_aload_n (pc := 24) (i := 0) dX12_law_24 rfl rfl ?_
      refine A_iconst (pc := 25) (1) dX12_law_25 (by decide) ?_
      refine A_callV1 (pc := 26) cv_X12_65 (r_fnd1 l hR) hR.1 rfl rfl rfl rfl (Nat.le_of_ble_eq_true rfl) ⟨(Nat.le_of_ble_eq_true rfl), (Nat.le_of_ble_eq_true rfl)⟩ ⟨Nat.zero_le _, Nat.zero_le _⟩ dX12_law_26 ?_
      exact A_iretE (pc := 29) dX12_law_29 rfl (Nat.zero_le _) (Nat.zero_le _) (by rw [d_law, if_neg hb9, if_pos hb21]) (by rw [d_law, if_neg hb9, if_pos hb21])
theorem rm_tick_2 {i n z nl : Nat} {ln : Nat → am_N} {lk : Nat → Nat} {w : am_iv} {k : Nat} (hk : k ≠ 8) : rm_tick i n z nl ln lk w (2, i, 0) k = w (2, i, 0) k := by
  unfold rm_tick rm_tick4
  have hf : fr (2, i, 0) k := ⟨by simp [gb], by simp⟩
  rw [am_ui_n (by simp [hk]), rm_set_o (by simp), rm_gone_o (by simp), rm_go_o hf, rm_save_o (by simp)]
set_option maxRecDepth 20000 in
theorem ps_loop0 (l : Launch) {kd : am_kd} {rv : am_rv} {iv : am_iv} (hS : sh kd rv) (nl : Nat) (ln : Nat → am_N) (lk : Nat → Nat) (n z : Nat) (Q : am_iv → Prop) (hQ : ∀ w, Q w → tk_q 0 n z nl w) (hT : ∀ w, Q w → Q ((rm_tick 0 n z nl ln lk) w)) (hl : rm_laws kd rv iv 0 nl ln lk) (N : Nat) (hN : N < 2 ^ 31) (d : Nat) : ∀ (w : am_iv), Q w → d ≤ N → am_W l mX11_pass (am_rm 7 0 0) (am_ret (some (am_I (it (rm_tick 0 n z nl ln lk) d w (2, 0, 0) 8))) kd rv (it (rm_tick 0 n z nl ln lk) d w)) 42 [some (am_P (1, 0, 0)), some (am_I (nI N)), some (am_I 0), some (am_I (nI (N - d)))] [] kd rv w 0 0 := by
  induction d with
  | zero =>
    intro w hq hd
    refine A_iload_n (pc := 42) (i := 3) dX11_pass_42 rfl rfl ?_
    refine A_iload_n (pc := 43) (i := 1) dX11_pass_43 rfl rfl ?_
    refine A_icmpge (pc := 44) 71 dX11_pass_44 (by decide) (fun hb44 => ?_) (fun hb44 => ?_)
    · refine A_aload_n (pc := 71) (i := 0) dX11_pass_71 rfl rfl ?_
      refine A_getr (pc := 72) 0 fl_X11_12_11 hS.k1 rfl (hS.w1 (k := 0) (by decide)) dX11_pass_72 ?_
      refine A_geti (pc := 75) 8 fl_X11_312_4 (hS.k2 (by decide)) rfl dX11_pass_75 ?_
      exact A_iretE (pc := 78) dX11_pass_78 rfl (Nat.zero_le _) (Nat.zero_le _) (rfl) (rfl)
    · exact absurd (nI_le (Nat.le_refl N) hN) hb44
  | succ d ih =>
    intro w hq hd
    refine A_iload_n (pc := 42) (i := 3) dX11_pass_42 rfl rfl ?_
    refine A_iload_n (pc := 43) (i := 1) dX11_pass_43 rfl rfl ?_
    refine A_icmpge (pc := 44) 71 dX11_pass_44 (by decide) (fun hb44 => ?_) (fun hb44 => ?_)
    · exact absurd hb44 (nI_nge (by omega) hN)
    · refine A_aload_n (pc := 47) (i := 0) dX11_pass_47 rfl rfl ?_
      refine A_getr (pc := 48) 0 fl_X11_12_11 hS.k1 rfl (hS.w1 (k := 0) (by decide)) dX11_pass_48 ?_
      refine A_callV0 (pc := 51) cv_X11_241 (s_tick l hS 0 (by decide) nl ln lk (hl.to ((hQ w hq).2.2.2.2.1.trans hl.1.symm)) n (hQ w hq).1 (hQ w hq).2.1 z (hQ w hq).2.2.1 (hQ w hq).2.2.2.1 (hQ w hq).2.2.2.2.2) (hS.k2 (by decide)) rfl rfl rfl rfl (Nat.le_of_ble_eq_true rfl) ⟨(Nat.le_of_ble_eq_true rfl), (Nat.le_of_ble_eq_true rfl)⟩ ⟨Nat.zero_le _, Nat.zero_le _⟩ dX11_pass_51 ?_
      refine A_iload_n (pc := 54) (i := 2) dX11_pass_54 rfl rfl ?_
      refine A_ifeq (pc := 55) 65 dX11_pass_55 (by decide) (fun hb55 => ?_) (fun hb55 => ?_)
      · refine A_inc3 (pc := 65) (nI (N - d)) dX11_pass_65 (nI_sub1 hd) (Nat.le_of_ble_eq_true rfl) rfl ?_
        refine A_goto (pc := 68) 42 dX11_pass_68 (by decide) ?_
        exact ih _ (hT w hq) (by omega)
      · exact absurd rfl hb55
noncomputable def c_ticks (x : Int32) (n z nl : Nat) (ln : Nat → am_N) (lk : Nat → Nat) (iv : am_iv) : Int32 × am_iv := if sr_b (1 ≤ x ∧ x ≤ 100) = 0 then (-1000000001, er_heap 1 iv) else if iv (2, 0, 0) 8 + x ≤ 9999 then (it (rm_tick 0 n z nl ln lk) x.toNatClampNeg iv (2, 0, 0) 8, it (rm_tick 0 n z nl ln lk) x.toNatClampNeg iv) else (-1000000003, er_heap 3 iv)
set_option maxRecDepth 20000 in
theorem p_pass0 (l : Launch) {kd : am_kd} {rv : am_rv} {iv : am_iv} (hS : sh kd rv) (x : Int32) (nl : Nat) (ln : Nat → am_N) (lk : Nat → Nat) (n z : Nat) (Q : am_iv → Prop) (hQ : ∀ w, Q w → tk_q 0 n z nl w) (hT : ∀ w, Q w → Q ((rm_tick 0 n z nl ln lk) w)) (hl : rm_laws kd rv iv 0 nl ln lk) (hq : Q iv) : am_Met l mX11_pass (am_rm 7 0 0) [am_P (1, 0, 0), am_I x, am_I 0] kd rv iv (am_ret (some (am_I (c_ticks x n z nl ln lk iv).1)) kd rv (c_ticks x n z nl ln lk iv).2) := by
  refine am_Met.of (by decide) (Nat.le_of_ble_eq_true rfl) rfl ?_
  refine A_iload_n (pc := 0) (i := 1) dX11_pass_0 rfl rfl ?_
  refine A_iconst (pc := 1) (1) dX11_pass_1 (by decide) ?_
  refine A_bipush (pc := 2) (100) dX11_pass_2 (by decide) ?_
  refine A_callS1 (pc := 4) cs_X11_56 (s_isHeld l _ _ _) rfl rfl (Nat.le_of_ble_eq_true rfl) ⟨(Nat.le_of_ble_eq_true rfl), (Nat.le_of_ble_eq_true rfl)⟩ ⟨Nat.zero_le _, Nat.zero_le _⟩ dX11_pass_4 ?_
  refine A_ifne (pc := 7) 17 dX11_pass_7 (by decide) (fun hb7 => ?_) (fun hb7 => ?_)
  · refine A_aload_n (pc := 17) (i := 0) dX11_pass_17 rfl rfl ?_
    refine A_getr (pc := 18) 0 fl_X11_12_11 hS.k1 rfl (hS.w1 (k := 0) (by decide)) dX11_pass_18 ?_
    refine A_geti (pc := 21) 8 fl_X11_312_4 (hS.k2 (by decide)) rfl dX11_pass_21 ?_
    refine A_iload_n (pc := 24) (i := 1) dX11_pass_24 rfl rfl ?_
    refine A_iadd (pc := 25) dX11_pass_25 ?_
    refine A_sipush (pc := 26) (9999) dX11_pass_26 (by decide) ?_
    refine A_icmple (pc := 29) 40 dX11_pass_29 (by decide) (fun hb29 => ?_) (fun hb29 => ?_)
    · refine A_iconst (pc := 40) (0) dX11_pass_40 (by decide) ?_
      refine A_ist3 (pc := 41) dX11_pass_41 (Nat.le_of_ble_eq_true rfl) rfl ?_
      rw [show (c_ticks x n z nl ln lk iv) = (it (rm_tick 0 n z nl ln lk) x.toNatClampNeg iv (2, 0, 0) 8, it (rm_tick 0 n z nl ln lk) x.toNatClampNeg iv) from by rw [c_ticks, if_neg hb7, if_pos hb29]]
      have hx := (sr_b_1 _).mp hb7
      have h9 := ps_loop0 l hS nl ln lk n z Q hQ hT hl x.toNatClampNeg (Nat.lt_of_le_of_lt (nI_cl_le (n := 100) (Int32.le_trans (by decide) hx.1) hx.2 (by decide)) (by decide)) x.toNatClampNeg iv hq (Nat.le_refl _)
      rw [Nat.sub_self, ← nI_cl (Int32.le_trans (by decide) hx.1)] at h9
      exact h9
    · refine A_aload_n (pc := 32) (i := 0) dX11_pass_32 rfl rfl ?_
      refine A_ldcw (pc := 33) (List.mem_cons_of_mem _ kc_X11_288) dX11_pass_33 ?_
      refine A_callV1 (pc := 36) cv_X11_61 (s_err3 l hS) hS.k1 rfl rfl rfl rfl (Nat.le_of_ble_eq_true rfl) ⟨(Nat.le_of_ble_eq_true rfl), (Nat.le_of_ble_eq_true rfl)⟩ ⟨Nat.zero_le _, Nat.zero_le _⟩ dX11_pass_36 ?_
      exact A_iretE (pc := 39) dX11_pass_39 rfl (Nat.zero_le _) (Nat.zero_le _) (by rw [c_ticks, if_neg hb7, if_neg hb29]) (by rw [c_ticks, if_neg hb7, if_neg hb29])
  · refine A_aload_n (pc := 10) (i := 0) dX11_pass_10 rfl rfl ?_
    refine A_ldc (pc := 11) (List.mem_cons_of_mem _ kc_X11_60) dX11_pass_11 ?_
    refine A_callV1 (pc := 13) cv_X11_61 (s_err1 l hS) hS.k1 rfl rfl rfl rfl (Nat.le_of_ble_eq_true rfl) ⟨(Nat.le_of_ble_eq_true rfl), (Nat.le_of_ble_eq_true rfl)⟩ ⟨Nat.zero_le _, Nat.zero_le _⟩ dX11_pass_13 ?_
    exact A_iretE (pc := 16) dX11_pass_16 rfl (Nat.zero_le _) (Nat.zero_le _) (by rw [c_ticks, if_pos hb7]) (by rw [c_ticks, if_pos hb7])
set_option maxRecDepth 20000 in
theorem p_ticks (l : Launch) {kd : am_kd} {rv : am_rv} {iv : am_iv} (hS : sh kd rv) (x : Int32) (nl : Nat) (ln : Nat → am_N) (lk : Nat → Nat) (n z : Nat) (Q : am_iv → Prop) (hQ : ∀ w, Q w → tk_q 0 n z nl w) (hT : ∀ w, Q w → Q ((rm_tick 0 n z nl ln lk) w)) (hl : rm_laws kd rv iv 0 nl ln lk) (hq : Q iv) : am_Met l mX11_ticks (am_rm 8 0 0) [am_P (1, 0, 0), am_I x] kd rv iv (am_ret (some (am_I (c_ticks x n z nl ln lk iv).1)) kd rv (c_ticks x n z nl ln lk iv).2) := by
  refine am_Met.of (by decide) (Nat.le_of_ble_eq_true rfl) rfl ?_
  refine A_aload_n (pc := 0) (i := 0) dX11_ticks_0 rfl rfl ?_
  refine A_iload_n (pc := 1) (i := 1) dX11_ticks_1 rfl rfl ?_
  refine A_iconst (pc := 2) (0) dX11_ticks_2 (by decide) ?_
  refine A_callV1 (pc := 3) cv_X11_202 (p_pass0 l hS x nl ln lk n z Q hQ hT hl hq) hS.k1 rfl rfl rfl rfl (Nat.le_of_ble_eq_true rfl) ⟨(Nat.le_of_ble_eq_true rfl), (Nat.le_of_ble_eq_true rfl)⟩ ⟨Nat.zero_le _, Nat.zero_le _⟩ dX11_ticks_3 ?_
  exact A_iretE (pc := 6) dX11_ticks_6 rfl (Nat.zero_le _) (Nat.zero_le _) ((rfl)) ((rfl))
set_option maxRecDepth 20000 in
theorem ps_loop1 (l : Launch) {kd : am_kd} {rv : am_rv} {iv : am_iv} (hS : sh kd rv) (nl : Nat) (ln : Nat → am_N) (lk : Nat → Nat) (n z : Nat) (Q : am_iv → Prop) (hQ : ∀ w, Q w → tk_q 0 n z nl w) (hT : ∀ w, Q w → Q ((fun w => bl_heap 0 (rm_tick 0 n z nl ln lk w) n) w)) (hl : rm_laws kd rv iv 0 nl ln lk) (N : Nat) (hN : N < 2 ^ 31) (d : Nat) : ∀ (w : am_iv), Q w → d ≤ N → am_W l mX11_pass (am_rm 7 0 0) (am_ret (some (am_I (it (fun w => bl_heap 0 (rm_tick 0 n z nl ln lk w) n) d w (2, 0, 0) 8))) kd rv (it (fun w => bl_heap 0 (rm_tick 0 n z nl ln lk w) n) d w)) 42 [some (am_P (1, 0, 0)), some (am_I (nI N)), some (am_I 1), some (am_I (nI (N - d)))] [] kd rv w 0 0 := by
  induction d with
  | zero =>
    intro w hq hd
    refine A_iload_n (pc := 42) (i := 3) dX11_pass_42 rfl rfl ?_
    refine A_iload_n (pc := 43) (i := 1) dX11_pass_43 rfl rfl ?_
    refine A_icmpge (pc := 44) 71 dX11_pass_44 (by decide) (fun hb44 => ?_) (fun hb44 => ?_)
    · refine A_aload_n (pc := 71) (i := 0) dX11_pass_71 rfl rfl ?_
      refine A_getr (pc := 72) 0 fl_X11_12_11 hS.k1 rfl (hS.w1 (k := 0) (by decide)) dX11_pass_72 ?_
      refine A_geti (pc := 75) 8 fl_X11_312_4 (hS.k2 (by decide)) rfl dX11_pass_75 ?_
      exact A_iretE (pc := 78) dX11_pass_78 rfl (Nat.zero_le _) (Nat.zero_le _) (rfl) (rfl)
    · exact absurd (nI_le (Nat.le_refl N) hN) hb44
  | succ d ih =>
    intro w hq hd
    refine A_iload_n (pc := 42) (i := 3) dX11_pass_42 rfl rfl ?_
    refine A_iload_n (pc := 43) (i := 1) dX11_pass_43 rfl rfl ?_
    refine A_icmpge (pc := 44) 71 dX11_pass_44 (by decide) (fun hb44 => ?_) (fun hb44 => ?_)
    · exact absurd hb44 (nI_nge (by omega) hN)
    · refine A_aload_n (pc := 47) (i := 0) dX11_pass_47 rfl rfl ?_
      refine A_getr (pc := 48) 0 fl_X11_12_11 hS.k1 rfl (hS.w1 (k := 0) (by decide)) dX11_pass_48 ?_
      refine A_callV0 (pc := 51) cv_X11_241 (s_tick l hS 0 (by decide) nl ln lk (hl.to ((hQ w hq).2.2.2.2.1.trans hl.1.symm)) n (hQ w hq).1 (hQ w hq).2.1 z (hQ w hq).2.2.1 (hQ w hq).2.2.2.1 (hQ w hq).2.2.2.2.2) (hS.k2 (by decide)) rfl rfl rfl rfl (Nat.le_of_ble_eq_true rfl) ⟨(Nat.le_of_ble_eq_true rfl), (Nat.le_of_ble_eq_true rfl)⟩ ⟨Nat.zero_le _, Nat.zero_le _⟩ dX11_pass_51 ?_
      refine A_iload_n (pc := 54) (i := 2) dX11_pass_54 rfl rfl ?_
      refine A_ifeq (pc := 55) 65 dX11_pass_55 (by decide) (fun hb55 => ?_) (fun hb55 => ?_)
      · exact absurd hb55 (by decide)
      · refine A_aload_n (pc := 58) (i := 0) dX11_pass_58 rfl rfl ?_
        refine A_getr (pc := 59) 0 fl_X11_12_11 hS.k1 rfl (hS.w1 (k := 0) (by decide)) dX11_pass_59 ?_
        refine A_callV0 (pc := 62) cv_X11_323 (s_blow l hS 0 (by decide) n ((rm_tick_2 (by decide)).trans (hQ w hq).1) (hQ w hq).2.1) (hS.k2 (by decide)) rfl rfl rfl rfl (Nat.le_of_ble_eq_true rfl) ⟨(Nat.le_of_ble_eq_true rfl), (Nat.le_of_ble_eq_true rfl)⟩ ⟨Nat.zero_le _, Nat.zero_le _⟩ dX11_pass_62 ?_
        refine A_inc3 (pc := 65) (nI (N - d)) dX11_pass_65 (nI_sub1 hd) (Nat.le_of_ble_eq_true rfl) rfl ?_
        refine A_goto (pc := 68) 42 dX11_pass_68 (by decide) ?_
        exact ih _ (hT w hq) (by omega)
noncomputable def c_breeze (x : Int32) (n z nl : Nat) (ln : Nat → am_N) (lk : Nat → Nat) (iv : am_iv) : Int32 × am_iv := if sr_b (1 ≤ x ∧ x ≤ 100) = 0 then (-1000000001, er_heap 1 iv) else if iv (2, 0, 0) 8 + x ≤ 9999 then (it (fun w => bl_heap 0 (rm_tick 0 n z nl ln lk w) n) x.toNatClampNeg iv (2, 0, 0) 8, it (fun w => bl_heap 0 (rm_tick 0 n z nl ln lk w) n) x.toNatClampNeg iv) else (-1000000003, er_heap 3 iv)
set_option maxRecDepth 20000 in
theorem p_pass1 (l : Launch) {kd : am_kd} {rv : am_rv} {iv : am_iv} (hS : sh kd rv) (x : Int32) (nl : Nat) (ln : Nat → am_N) (lk : Nat → Nat) (n z : Nat) (Q : am_iv → Prop) (hQ : ∀ w, Q w → tk_q 0 n z nl w) (hT : ∀ w, Q w → Q ((fun w => bl_heap 0 (rm_tick 0 n z nl ln lk w) n) w)) (hl : rm_laws kd rv iv 0 nl ln lk) (hq : Q iv) : am_Met l mX11_pass (am_rm 7 0 0) [am_P (1, 0, 0), am_I x, am_I 1] kd rv iv (am_ret (some (am_I (c_breeze x n z nl ln lk iv).1)) kd rv (c_breeze x n z nl ln lk iv).2) := by
  refine am_Met.of (by decide) (Nat.le_of_ble_eq_true rfl) rfl ?_
  refine A_iload_n (pc := 0) (i := 1) dX11_pass_0 rfl rfl ?_
  refine A_iconst (pc := 1) (1) dX11_pass_1 (by decide) ?_
  refine A_bipush (pc := 2) (100) dX11_pass_2 (by decide) ?_
  refine A_callS1 (pc := 4) cs_X11_56 (s_isHeld l _ _ _) rfl rfl (Nat.le_of_ble_eq_true rfl) ⟨(Nat.le_of_ble_eq_true rfl), (Nat.le_of_ble_eq_true rfl)⟩ ⟨Nat.zero_le _, Nat.zero_le _⟩ dX11_pass_4 ?_
  refine A_ifne (pc := 7) 17 dX11_pass_7 (by decide) (fun hb7 => ?_) (fun hb7 => ?_)
  · refine A_aload_n (pc := 17) (i := 0) dX11_pass_17 rfl rfl ?_
    refine A_getr (pc := 18) 0 fl_X11_12_11 hS.k1 rfl (hS.w1 (k := 0) (by decide)) dX11_pass_18 ?_
    refine A_geti (pc := 21) 8 fl_X11_312_4 (hS.k2 (by decide)) rfl dX11_pass_21 ?_
    refine A_iload_n (pc := 24) (i := 1) dX11_pass_24 rfl rfl ?_
    refine A_iadd (pc := 25) dX11_pass_25 ?_
    refine A_sipush (pc := 26) (9999) dX11_pass_26 (by decide) ?_
    refine A_icmple (pc := 29) 40 dX11_pass_29 (by decide) (fun hb29 => ?_) (fun hb29 => ?_)
    · refine A_iconst (pc := 40) (0) dX11_pass_40 (by decide) ?_
      refine A_ist3 (pc := 41) dX11_pass_41 (Nat.le_of_ble_eq_true rfl) rfl ?_
      rw [show (c_breeze x n z nl ln lk iv) = (it (fun w => bl_heap 0 (rm_tick 0 n z nl ln lk w) n) x.toNatClampNeg iv (2, 0, 0) 8, it (fun w => bl_heap 0 (rm_tick 0 n z nl ln lk w) n) x.toNatClampNeg iv) from by rw [c_breeze, if_neg hb7, if_pos hb29]]
      have hx := (sr_b_1 _).mp hb7
      have h9 := ps_loop1 l hS nl ln lk n z Q hQ hT hl x.toNatClampNeg (Nat.lt_of_le_of_lt (nI_cl_le (n := 100) (Int32.le_trans (by decide) hx.1) hx.2 (by decide)) (by decide)) x.toNatClampNeg iv hq (Nat.le_refl _)
      rw [Nat.sub_self, ← nI_cl (Int32.le_trans (by decide) hx.1)] at h9
      exact h9
    · refine A_aload_n (pc := 32) (i := 0) dX11_pass_32 rfl rfl ?_
      refine A_ldcw (pc := 33) (List.mem_cons_of_mem _ kc_X11_288) dX11_pass_33 ?_
      refine A_callV1 (pc := 36) cv_X11_61 (s_err3 l hS) hS.k1 rfl rfl rfl rfl (Nat.le_of_ble_eq_true rfl) ⟨(Nat.le_of_ble_eq_true rfl), (Nat.le_of_ble_eq_true rfl)⟩ ⟨Nat.zero_le _, Nat.zero_le _⟩ dX11_pass_36 ?_
      exact A_iretE (pc := 39) dX11_pass_39 rfl (Nat.zero_le _) (Nat.zero_le _) (by rw [c_breeze, if_neg hb7, if_neg hb29]) (by rw [c_breeze, if_neg hb7, if_neg hb29])
  · refine A_aload_n (pc := 10) (i := 0) dX11_pass_10 rfl rfl ?_
    refine A_ldc (pc := 11) (List.mem_cons_of_mem _ kc_X11_60) dX11_pass_11 ?_
    refine A_callV1 (pc := 13) cv_X11_61 (s_err1 l hS) hS.k1 rfl rfl rfl rfl (Nat.le_of_ble_eq_true rfl) ⟨(Nat.le_of_ble_eq_true rfl), (Nat.le_of_ble_eq_true rfl)⟩ ⟨Nat.zero_le _, Nat.zero_le _⟩ dX11_pass_13 ?_
    exact A_iretE (pc := 16) dX11_pass_16 rfl (Nat.zero_le _) (Nat.zero_le _) (by rw [c_breeze, if_pos hb7]) (by rw [c_breeze, if_pos hb7])
set_option maxRecDepth 20000 in
theorem p_breeze (l : Launch) {kd : am_kd} {rv : am_rv} {iv : am_iv} (hS : sh kd rv) (x : Int32) (nl : Nat) (ln : Nat → am_N) (lk : Nat → Nat) (n z : Nat) (Q : am_iv → Prop) (hQ : ∀ w, Q w → tk_q 0 n z nl w) (hT : ∀ w, Q w → Q ((fun w => bl_heap 0 (rm_tick 0 n z nl ln lk w) n) w)) (hl : rm_laws kd rv iv 0 nl ln lk) (hq : Q iv) : am_Met l mX11_breeze (am_rm 8 0 0) [am_P (1, 0, 0), am_I x] kd rv iv (am_ret (some (am_I (c_breeze x n z nl ln lk iv).1)) kd rv (c_breeze x n z nl ln lk iv).2) := by
  refine am_Met.of (by decide) (Nat.le_of_ble_eq_true rfl) rfl ?_
  refine A_aload_n (pc := 0) (i := 0) dX11_breeze_0 rfl rfl ?_
  refine A_iload_n (pc := 1) (i := 1) dX11_breeze_1 rfl rfl ?_
  refine A_iconst (pc := 2) (1) dX11_breeze_2 (by decide) ?_
  refine A_callV1 (pc := 3) cv_X11_202 (p_pass1 l hS x nl ln lk n z Q hQ hT hl hq) hS.k1 rfl rfl rfl rfl (Nat.le_of_ble_eq_true rfl) ⟨(Nat.le_of_ble_eq_true rfl), (Nat.le_of_ble_eq_true rfl)⟩ ⟨Nat.zero_le _, Nat.zero_le _⟩ dX11_breeze_3 ?_
  exact A_iretE (pc := 6) dX11_breeze_6 rfl (Nat.zero_le _) (Nat.zero_le _) ((rfl)) ((rfl))
noncomputable def d_ticks (x : Int32) (n nl z : Nat) (lk : Nat → Nat) (iv : am_iv) : Int32 × am_iv := if sr_b (1 ≤ x ∧ x ≤ 100) = 0 then (-1000000001, rx_find 1 iv) else if iv (31, 0, 0) 0 + x ≤ 9999 then (it (rt_tick 0 n nl z lk) x.toNatClampNeg iv (31, 0, 0) 0, it (rt_tick 0 n nl z lk) x.toNatClampNeg iv) else (-1000000003, rx_find 3 iv)
set_option maxRecDepth 20000 in
theorem q_ticks (l : Launch) {kd : am_kd} {rv : am_rv} {iv : am_iv} (hR : shr kd rv) (x : Int32) (n nl z : Nat) (lk : Nat → Nat) (Q : am_iv → Prop) (hQ : ∀ w, Q w → rt_pre w 0 n nl z lk) (hT : ∀ w, Q w → Q ((rt_tick 0 n nl z lk) w)) (hq : Q iv) : am_Met l mX12_ticks (am_rm 44 0 0) [am_P (30, 0, 0), am_I x] kd rv iv (am_ret (some (am_I (d_ticks x n nl z lk iv).1)) kd rv (d_ticks x n nl z lk iv).2) := by
  refine am_Met.of (by decide) (Nat.le_of_ble_eq_true rfl) rfl ?_
  refine A_iload_n (pc := 0) (i := 1) dX12_ticks_0 rfl rfl ?_
  refine A_i2l (pc := 1) dX12_ticks_1 ?_
  refine A_lconst (pc := 2) (1) dX12_ticks_2 (by decide) ?_
  refine A_topJ (y := Int32.toInt64 (1)) (by decide +kernel) ?_
  refine A_ldc2 (pc := 3) (List.mem_cons_of_mem _ kc_X12_228) dX12_ticks_3 ?_
  refine A_topJ (y := Int32.toInt64 (100)) (by decide +kernel) ?_
  refine A_callS1 (pc := 6) cs_X12_48 (r_in l _ _ _) rfl rfl (Nat.le_of_ble_eq_true rfl) ⟨(Nat.le_of_ble_eq_true rfl), (Nat.le_of_ble_eq_true rfl)⟩ ⟨Nat.zero_le _, Nat.zero_le _⟩ dX12_ticks_6 ?_
  refine A_ifne (pc := 9) 18 dX12_ticks_9 (by decide) (fun hb9 => ?_) (fun hb9 => ?_)
  · refine A_aload_n (pc := 18) (i := 0) dX12_ticks_18 rfl rfl ?_
    refine A_getr (pc := 19) 0 fl_X12_7_12 hR.1 rfl hR.w0 dX12_ticks_19 ?_
    refine A_iconst (pc := 22) (0) dX12_ticks_22 (by decide) ?_
    refine A_ialdN (pc := 23) hR.k0 (show 0 < 300 by decide) (by decide) dX12_ticks_23 ?_
    refine A_iload_n (pc := 24) (i := 1) dX12_ticks_24 rfl rfl ?_
    refine A_iadd (pc := 25) dX12_ticks_25 ?_
    refine A_sipush (pc := 26) (9999) dX12_ticks_26 (by decide) ?_
    refine A_icmple (pc := 29) 38 dX12_ticks_29 (by decide) (fun hb29 => ?_) (fun hb29 => ?_)
    · have hx := (sr_b_1 _).mp hb9
      have hx0 : 0 ≤ x := Int32.le_trans (by decide) hx.1
      refine A_aload_n (pc := 38) (i := 0) dX12_ticks_38 rfl rfl ?_
      refine A_aload_n (pc := 39) (i := 0) dX12_ticks_39 rfl rfl ?_
      refine A_getr (pc := 40) 0 fl_X12_7_12 hR.1 rfl hR.w0 dX12_ticks_40 ?_
      refine A_iload_n (pc := 43) (i := 1) dX12_ticks_43 rfl rfl ?_
      refine A_top (nI_cl hx0) ?_
      refine A_callV0 (pc := 44) cv_X12_230 (r_goesAhead l hR 0 (by decide) hR.k0 n nl z lk Q hQ hT hq x.toNatClampNeg (Nat.lt_of_le_of_lt (nI_cl_le (n := 100) hx0 hx.2 (by decide)) (by decide))) hR.1 rfl rfl rfl rfl (Nat.le_of_ble_eq_true rfl) ⟨(Nat.le_of_ble_eq_true rfl), (Nat.le_of_ble_eq_true rfl)⟩ ⟨Nat.zero_le _, Nat.zero_le _⟩ dX12_ticks_44 ?_
      refine A_aload_n (pc := 47) (i := 0) dX12_ticks_47 rfl rfl ?_
      refine A_getr (pc := 48) 0 fl_X12_7_12 hR.1 rfl hR.w0 dX12_ticks_48 ?_
      refine A_iconst (pc := 51) (0) dX12_ticks_51 (by decide) ?_
      refine A_ialdN (pc := 52) hR.k0 (show 0 < 300 by decide) (by decide) dX12_ticks_52 ?_
      exact A_iretE (pc := 53) dX12_ticks_53 rfl (Nat.zero_le _) (Nat.zero_le _) (by rw [d_ticks, if_neg hb9, if_pos hb29]) (by rw [d_ticks, if_neg hb9, if_pos hb29])
    · refine A_aload_n (pc := 32) (i := 0) dX12_ticks_32 rfl rfl ?_
      refine A_iconst (pc := 33) (3) dX12_ticks_33 (by decide) ?_
      refine A_callV1 (pc := 34) cv_X12_65 (r_fnd3 l hR) hR.1 rfl rfl rfl rfl (Nat.le_of_ble_eq_true rfl) ⟨(Nat.le_of_ble_eq_true rfl), (Nat.le_of_ble_eq_true rfl)⟩ ⟨Nat.zero_le _, Nat.zero_le _⟩ dX12_ticks_34 ?_
      exact A_iretE (pc := 37) dX12_ticks_37 rfl (Nat.zero_le _) (Nat.zero_le _) (by rw [d_ticks, if_neg hb9, if_neg hb29]) (by rw [d_ticks, if_neg hb9, if_neg hb29])
  · refine A_aload_n (pc := 12) (i := 0) dX12_ticks_12 rfl rfl ?_
    refine A_iconst (pc := 13) (1) dX12_ticks_13 (by decide) ?_
    refine A_callV1 (pc := 14) cv_X12_65 (r_fnd1 l hR) hR.1 rfl rfl rfl rfl (Nat.le_of_ble_eq_true rfl) ⟨(Nat.le_of_ble_eq_true rfl), (Nat.le_of_ble_eq_true rfl)⟩ ⟨Nat.zero_le _, Nat.zero_le _⟩ dX12_ticks_14 ?_
    exact A_iretE (pc := 17) dX12_ticks_17 rfl (Nat.zero_le _) (Nat.zero_le _) (by rw [d_ticks, if_pos hb9]) (by rw [d_ticks, if_pos hb9])
theorem rt_tick_o {a n nl z : Nat} {lk : Nat → Nat} {w : am_iv} {q : am_N} {k : Nat} (hn : n ≤ 8) (h : rfr a q k) (h3 : q ≠ (31, 3, 0)) (h0 : ¬ (q = (31, a, 0) ∧ k = 0)) : rt_tick a n nl z lk w q k = w q k := by
  unfold rt_tick rt_tick4
  rw [am_ui_n h0, rt_set_o h n hn, rt_gone_o hn h n hn, rt_go_o h n hn]
  unfold rx_cp
  rw [if_neg (fun e => h3 e.1)]
/-- the breeze of the reference -/
def br1 (w : am_iv) : am_iv := am_ui w (31, 0, 0) 6 (bz (w (31, 0, 0) 6))
def br_heap (w : am_iv) : Nat → am_iv
  | 0 => w
  | j + 1 => if rf (br_heap w j) (31, 0, 0) j 7 = 1 then am_ui (br1 (br_heap w j)) (31, 0, 0) (79 + 8 * j + 2) (by_ (rf (br1 (br_heap w j)) (31, 0, 0) j 2) (br1 (br_heap w j) (31, 0, 0) 6)) else br_heap w j
theorem br_o {w : am_iv} {q : am_N} {k : Nat} (h : ¬ (q = (31, 0, 0) ∧ (k = 6 ∨ (80 ≤ k ∧ k < 144)))) (j : Nat) (hj : j ≤ 8) : br_heap w j q k = w q k := by
  induction j with
  | zero => rfl
  | succ j ih =>
    unfold br_heap
    split
    · rw [am_ui_n (fun e => h ⟨e.1, Or.inr (by omega)⟩)]
      unfold br1
      rw [am_ui_n (fun e => h ⟨e.1, Or.inl e.2⟩)]
      exact ih (by omega)
    · exact ih (by omega)
set_option maxRecDepth 20000 in
theorem br_inner (l : Launch) {kd : am_kd} {rv : am_rv} (hR : shr kd rv) (n : Nat) (hn8 : n ≤ 8) (v : am_iv) (hn : v (31, 0, 0) 1 = nI n) (x y : Int32) (post : am_Post) (hend : am_W l mX12_breeze (am_rm 44 0 0) post 152 [some (am_P (30, 0, 0)), some (am_I x), some (am_I y), some (am_I (nI n))] [] kd rv (br_heap v n) 0 0) : ∀ j, j ≤ n → am_W l mX12_breeze (am_rm 44 0 0) post 55 [some (am_P (30, 0, 0)), some (am_I x), some (am_I y), some (am_I (nI j))] [] kd rv (br_heap v j) 0 0 := by
  have e1 : ∀ j, j ≤ 8 → br_heap v j (31, 0, 0) 1 = nI n := fun j hj => (br_o (by simp) j hj).trans hn
  refine am_for _ n ?_ (fun j hj ih => ?_)
  · refine A_iload_n (pc := 55) (i := 3) dX12_breeze_55 rfl rfl ?_
    refine A_aload_n (pc := 56) (i := 0) dX12_breeze_56 rfl rfl ?_
    refine A_getr (pc := 57) 0 fl_X12_7_12 hR.1 rfl hR.w0 dX12_breeze_57 ?_
    refine A_iconst (pc := 60) (1) dX12_breeze_60 (by decide) ?_
    refine A_ialdN (pc := 61) hR.k0 (show 1 < 300 by decide) (by decide) dX12_breeze_61 ?_
    refine A_top (e1 n hn8) ?_
    refine A_icmpge (pc := 62) 152 dX12_breeze_62 (by decide) (fun hb62 => ?_) (fun hb62 => ?_)
    · exact hend
    · exact absurd (Int32.le_refl _) hb62
  · refine A_iload_n (pc := 55) (i := 3) dX12_breeze_55 rfl rfl ?_
    refine A_aload_n (pc := 56) (i := 0) dX12_breeze_56 rfl rfl ?_
    refine A_getr (pc := 57) 0 fl_X12_7_12 hR.1 rfl hR.w0 dX12_breeze_57 ?_
    refine A_iconst (pc := 60) (1) dX12_breeze_60 (by decide) ?_
    refine A_ialdN (pc := 61) hR.k0 (show 1 < 300 by decide) (by decide) dX12_breeze_61 ?_
    refine A_top (e1 j (by omega)) ?_
    refine A_icmpge (pc := 62) 152 dX12_breeze_62 (by decide) (fun hb62 => ?_) (fun hb62 => ?_)
    · exact absurd hb62 (nI_ge hj (by omega))
    · refine A_aload_n (pc := 65) (i := 0) dX12_breeze_65 rfl rfl ?_
      refine A_getr (pc := 66) 0 fl_X12_7_12 hR.1 rfl hR.w0 dX12_breeze_66 ?_
      refine A_iload_n (pc := 69) (i := 3) dX12_breeze_69 rfl rfl ?_
      refine A_callS1 (pc := 70) cs_X12_209 (r_isWhole l (31, 0, 0) hR.k0 j (by omega)) rfl rfl (Nat.le_of_ble_eq_true rfl) ⟨(Nat.le_of_ble_eq_true rfl), (Nat.le_of_ble_eq_true rfl)⟩ ⟨Nat.zero_le _, Nat.zero_le _⟩ dX12_breeze_70 ?_
      refine A_ifeq (pc := 73) 146 dX12_breeze_73 (by decide) (fun hb73 => ?_) (fun hb73 => ?_)
      · refine A_inc3 (pc := 146) (nI (j + 1)) dX12_breeze_146 (nI_1 j) (Nat.le_of_ble_eq_true rfl) rfl ?_
        refine A_goto (pc := 149) 55 dX12_breeze_149 (by decide) ?_
        rw [br_heap, if_neg ((sr_b_0 _).mp hb73)] at ih
        exact ih
      · refine A_aload_n (pc := 76) (i := 0) dX12_breeze_76 rfl rfl ?_
        refine A_getr (pc := 77) 0 fl_X12_7_12 hR.1 rfl hR.w0 dX12_breeze_77 ?_
        refine A_bipush (pc := 80) (6) dX12_breeze_80 (by decide) ?_
        refine A_aload_n (pc := 82) (i := 0) dX12_breeze_82 rfl rfl ?_
        refine A_getr (pc := 83) 0 fl_X12_7_12 hR.1 rfl hR.w0 dX12_breeze_83 ?_
        refine A_bipush (pc := 86) (6) dX12_breeze_86 (by decide) ?_
        refine A_ialdN (pc := 88) hR.k0 (show 6 < 300 by decide) (by decide) dX12_breeze_88 ?_
        refine A_ldc (pc := 89) (List.mem_cons_of_mem _ kc_X12_233) dX12_breeze_89 ?_
        refine A_imul (pc := 91) dX12_breeze_91 ?_
        refine A_sipush (pc := 92) (12345) dX12_breeze_92 (by decide) ?_
        refine A_iadd (pc := 95) dX12_breeze_95 ?_
        refine A_top (y := bz ((br_heap v j) (31, 0, 0) 6)) rfl ?_
        refine A_iastN (pc := 96) hR.k0 (show 6 < 300 by decide) (by decide) dX12_breeze_96 ?_
        refine A_heap (iv' := br1 (br_heap v j)) rfl ?_
        refine A_aload_n (pc := 97) (i := 0) dX12_breeze_97 rfl rfl ?_
        refine A_getr (pc := 98) 0 fl_X12_7_12 hR.1 rfl hR.w0 dX12_breeze_98 ?_
        refine A_bipush (pc := 101) (80) dX12_breeze_101 (by decide) ?_
        refine A_bipush (pc := 103) (8) dX12_breeze_103 (by decide) ?_
        refine A_iload_n (pc := 105) (i := 3) dX12_breeze_105 rfl rfl ?_
        refine A_imul (pc := 106) dX12_breeze_106 ?_
        refine A_iadd (pc := 107) dX12_breeze_107 ?_
        refine A_iconst (pc := 108) (1) dX12_breeze_108 (by decide) ?_
        refine A_iadd (pc := 109) dX12_breeze_109 ?_
        refine A_top (y := nI (79 + 8 * j + 2)) (rx_ring j 1) ?_
        refine A_aload_n (pc := 110) (i := 0) dX12_breeze_110 rfl rfl ?_
        refine A_getr (pc := 111) 0 fl_X12_7_12 hR.1 rfl hR.w0 dX12_breeze_111 ?_
        refine A_iload_n (pc := 114) (i := 3) dX12_breeze_114 rfl rfl ?_
        refine A_iconst (pc := 115) (1) dX12_breeze_115 (by decide) ?_
        refine A_callS1 (pc := 116) cs_X12_73 (r_of l (31, 0, 0) hR.k0 j (by omega) 1 2 rfl (by decide)) rfl rfl (Nat.le_of_ble_eq_true rfl) ⟨(Nat.le_of_ble_eq_true rfl), (Nat.le_of_ble_eq_true rfl)⟩ ⟨Nat.zero_le _, Nat.zero_le _⟩ dX12_breeze_116 ?_
        refine A_aload_n (pc := 119) (i := 0) dX12_breeze_119 rfl rfl ?_
        refine A_getr (pc := 120) 0 fl_X12_7_12 hR.1 rfl hR.w0 dX12_breeze_120 ?_
        refine A_bipush (pc := 123) (6) dX12_breeze_123 (by decide) ?_
        refine A_ialdN (pc := 125) hR.k0 (show 6 < 300 by decide) (by decide) dX12_breeze_125 ?_
        refine A_bipush (pc := 126) (8) dX12_breeze_126 (by decide) ?_
        refine A_iushr (pc := 128) dX12_breeze_128 ?_
        refine A_bipush (pc := 129) (7) dX12_breeze_129 (by decide) ?_
        refine A_irem (pc := 131) dX12_breeze_131 (by decide) ?_
        refine A_iadd (pc := 132) dX12_breeze_132 ?_
        refine A_iconst (pc := 133) (3) dX12_breeze_133 (by decide) ?_
        refine A_isub (pc := 134) dX12_breeze_134 ?_
        refine A_i2l (pc := 135) dX12_breeze_135 ?_
        refine A_sipush (pc := 136) (-999) dX12_breeze_136 (by decide) ?_
        refine A_sipush (pc := 139) (999) dX12_breeze_139 (by decide) ?_
        refine A_callS1 (pc := 142) cs_X12_193 (r_held l _ _ _) rfl rfl (Nat.le_of_ble_eq_true rfl) ⟨(Nat.le_of_ble_eq_true rfl), (Nat.le_of_ble_eq_true rfl)⟩ ⟨Nat.zero_le _, Nat.zero_le _⟩ dX12_breeze_142 ?_
        refine A_top (y := by_ (rf (br1 (br_heap v j)) (31, 0, 0) j 2) (br1 (br_heap v j) (31, 0, 0) 6)) rfl ?_
        refine A_iastN (pc := 145) hR.k0 (show 79 + 8 * j + 2 < 300 by omega) (by decide) dX12_breeze_145 ?_
        refine A_inc3 (pc := 146) (nI (j + 1)) dX12_breeze_146 (nI_1 j) (Nat.le_of_ble_eq_true rfl) rfl ?_
        refine A_goto (pc := 149) 55 dX12_breeze_149 (by decide) ?_
        rw [br_heap, if_pos (Classical.not_not.mp (fun h => hb73 ((sr_b_0 _).mpr h)))] at ih
        exact ih
set_option maxRecDepth 20000 in
theorem br_loop (l : Launch) {kd : am_kd} {rv : am_rv} (hR : shr kd rv) (n nl z : Nat) (lk : Nat → Nat) (Q : am_iv → Prop) (hQ : ∀ w, Q w → rt_pre w 0 n nl z lk) (hT : ∀ w, Q w → Q ((fun w => br_heap (rt_tick 0 n nl z lk w) n) w)) (N : Nat) (hN : N < 2 ^ 31) (d : Nat) : ∀ (w : am_iv) (x3 : Option am_V), Q w → d ≤ N → am_W l mX12_breeze (am_rm 44 0 0) (am_ret (some (am_I (it (fun w => br_heap (rt_tick 0 n nl z lk w) n) d w (31, 0, 0) 0))) kd rv (it (fun w => br_heap (rt_tick 0 n nl z lk w) n) d w)) 40 [some (am_P (30, 0, 0)), some (am_I (nI N)), some (am_I (nI (N - d))), x3] [] kd rv w 0 0 := by
  induction d with
  | zero =>
    intro w x3 hq hd
    refine A_iload_n (pc := 40) (i := 2) dX12_breeze_40 rfl rfl ?_
    refine A_iload_n (pc := 41) (i := 1) dX12_breeze_41 rfl rfl ?_
    refine A_icmpge (pc := 42) 158 dX12_breeze_42 (by decide) (fun hb42 => ?_) (fun hb42 => ?_)
    · refine A_aload_n (pc := 158) (i := 0) dX12_breeze_158 rfl rfl ?_
      refine A_getr (pc := 159) 0 fl_X12_7_12 hR.1 rfl hR.w0 dX12_breeze_159 ?_
      refine A_iconst (pc := 162) (0) dX12_breeze_162 (by decide) ?_
      refine A_ialdN (pc := 163) hR.k0 (show 0 < 300 by decide) (by decide) dX12_breeze_163 ?_
      exact A_iretE (pc := 164) dX12_breeze_164 rfl (Nat.zero_le _) (Nat.zero_le _) (rfl) (rfl)
    · exact absurd (nI_le (Nat.le_refl N) hN) hb42
  | succ d ih =>
    intro w x3 hq hd
    have hpre := hQ w hq
    refine A_iload_n (pc := 40) (i := 2) dX12_breeze_40 rfl rfl ?_
    refine A_iload_n (pc := 41) (i := 1) dX12_breeze_41 rfl rfl ?_
    refine A_icmpge (pc := 42) 158 dX12_breeze_42 (by decide) (fun hb42 => ?_) (fun hb42 => ?_)
    · exact absurd hb42 (nI_nge (by omega) hN)
    · refine A_aload_n (pc := 45) (i := 0) dX12_breeze_45 rfl rfl ?_
      refine A_aload_n (pc := 46) (i := 0) dX12_breeze_46 rfl rfl ?_
      refine A_getr (pc := 47) 0 fl_X12_7_12 hR.1 rfl hR.w0 dX12_breeze_47 ?_
      refine A_callV0 (pc := 50) cv_X12_224 (r_goesBy l hR 0 (by decide) hR.k0 n nl z lk hpre) hR.1 rfl rfl rfl rfl (Nat.le_of_ble_eq_true rfl) ⟨(Nat.le_of_ble_eq_true rfl), (Nat.le_of_ble_eq_true rfl)⟩ ⟨Nat.zero_le _, Nat.zero_le _⟩ dX12_breeze_50 ?_
      refine A_iconst (pc := 53) (0) dX12_breeze_53 (by decide) ?_
      refine A_ist3 (pc := 54) dX12_breeze_54 (Nat.le_of_ble_eq_true rfl) rfl ?_
      refine br_inner l hR n hpre.2.1 (rt_tick 0 n nl z lk w) ((rt_tick_o hpre.2.1 ⟨by simp, by simp, by simp⟩ (by simp) (by simp)).trans hpre.1) _ _ _ ?_ 0 (Nat.zero_le _)
      refine A_inc2 (pc := 152) (nI (N - d)) dX12_breeze_152 (nI_sub1 hd) (Nat.le_of_ble_eq_true rfl) rfl ?_
      refine A_goto (pc := 155) 40 dX12_breeze_155 (by decide) ?_
      exact ih _ _ (hT w hq) (by omega)
noncomputable def d_breeze (x : Int32) (n nl z : Nat) (lk : Nat → Nat) (iv : am_iv) : Int32 × am_iv := if sr_b (1 ≤ x ∧ x ≤ 100) = 0 then (-1000000001, rx_find 1 iv) else if iv (31, 0, 0) 0 + x ≤ 9999 then (it (fun w => br_heap (rt_tick 0 n nl z lk w) n) x.toNatClampNeg iv (31, 0, 0) 0, it (fun w => br_heap (rt_tick 0 n nl z lk w) n) x.toNatClampNeg iv) else (-1000000003, rx_find 3 iv)
set_option maxRecDepth 20000 in
theorem q_breeze (l : Launch) {kd : am_kd} {rv : am_rv} {iv : am_iv} (hR : shr kd rv) (x : Int32) (n nl z : Nat) (lk : Nat → Nat) (Q : am_iv → Prop) (hQ : ∀ w, Q w → rt_pre w 0 n nl z lk) (hT : ∀ w, Q w → Q ((fun w => br_heap (rt_tick 0 n nl z lk w) n) w)) (hq : Q iv) : am_Met l mX12_breeze (am_rm 44 0 0) [am_P (30, 0, 0), am_I x] kd rv iv (am_ret (some (am_I (d_breeze x n nl z lk iv).1)) kd rv (d_breeze x n nl z lk iv).2) := by
  refine am_Met.of (by decide) (Nat.le_of_ble_eq_true rfl) rfl ?_
  refine A_iload_n (pc := 0) (i := 1) dX12_breeze_0 rfl rfl ?_
  refine A_i2l (pc := 1) dX12_breeze_1 ?_
  refine A_lconst (pc := 2) (1) dX12_breeze_2 (by decide) ?_
  refine A_topJ (y := Int32.toInt64 (1)) (by decide +kernel) ?_
  refine A_ldc2 (pc := 3) (List.mem_cons_of_mem _ kc_X12_228) dX12_breeze_3 ?_
  refine A_topJ (y := Int32.toInt64 (100)) (by decide +kernel) ?_
  refine A_callS1 (pc := 6) cs_X12_48 (r_in l _ _ _) rfl rfl (Nat.le_of_ble_eq_true rfl) ⟨(Nat.le_of_ble_eq_true rfl), (Nat.le_of_ble_eq_true rfl)⟩ ⟨Nat.zero_le _, Nat.zero_le _⟩ dX12_breeze_6 ?_
  refine A_ifne (pc := 9) 18 dX12_breeze_9 (by decide) (fun hb9 => ?_) (fun hb9 => ?_)
  · refine A_aload_n (pc := 18) (i := 0) dX12_breeze_18 rfl rfl ?_
    refine A_getr (pc := 19) 0 fl_X12_7_12 hR.1 rfl hR.w0 dX12_breeze_19 ?_
    refine A_iconst (pc := 22) (0) dX12_breeze_22 (by decide) ?_
    refine A_ialdN (pc := 23) hR.k0 (show 0 < 300 by decide) (by decide) dX12_breeze_23 ?_
    refine A_iload_n (pc := 24) (i := 1) dX12_breeze_24 rfl rfl ?_
    refine A_iadd (pc := 25) dX12_breeze_25 ?_
    refine A_sipush (pc := 26) (9999) dX12_breeze_26 (by decide) ?_
    refine A_icmple (pc := 29) 38 dX12_breeze_29 (by decide) (fun hb29 => ?_) (fun hb29 => ?_)
    · refine A_iconst (pc := 38) (0) dX12_breeze_38 (by decide) ?_
      refine A_ist2 (pc := 39) dX12_breeze_39 (Nat.le_of_ble_eq_true rfl) rfl ?_
      rw [show (d_breeze x n nl z lk iv) = (it (fun w => br_heap (rt_tick 0 n nl z lk w) n) x.toNatClampNeg iv (31, 0, 0) 0, it (fun w => br_heap (rt_tick 0 n nl z lk w) n) x.toNatClampNeg iv) from by rw [d_breeze, if_neg hb9, if_pos hb29]]
      have hx := (sr_b_1 _).mp hb9
      have h9 := br_loop l hR n nl z lk Q hQ hT x.toNatClampNeg (Nat.lt_of_le_of_lt (nI_cl_le (n := 100) (Int32.le_trans (by decide) hx.1) hx.2 (by decide)) (by decide)) x.toNatClampNeg iv none hq (Nat.le_refl _)
      rw [Nat.sub_self, ← nI_cl (Int32.le_trans (by decide) hx.1)] at h9
      exact h9
    · refine A_aload_n (pc := 32) (i := 0) dX12_breeze_32 rfl rfl ?_
      refine A_iconst (pc := 33) (3) dX12_breeze_33 (by decide) ?_
      refine A_callV1 (pc := 34) cv_X12_65 (r_fnd3 l hR) hR.1 rfl rfl rfl rfl (Nat.le_of_ble_eq_true rfl) ⟨(Nat.le_of_ble_eq_true rfl), (Nat.le_of_ble_eq_true rfl)⟩ ⟨Nat.zero_le _, Nat.zero_le _⟩ dX12_breeze_34 ?_
      exact A_iretE (pc := 37) dX12_breeze_37 rfl (Nat.zero_le _) (Nat.zero_le _) (by rw [d_breeze, if_neg hb9, if_neg hb29]) (by rw [d_breeze, if_neg hb9, if_neg hb29])
  · refine A_aload_n (pc := 12) (i := 0) dX12_breeze_12 rfl rfl ?_
    refine A_iconst (pc := 13) (1) dX12_breeze_13 (by decide) ?_
    refine A_callV1 (pc := 14) cv_X12_65 (r_fnd1 l hR) hR.1 rfl rfl rfl rfl (Nat.le_of_ble_eq_true rfl) ⟨(Nat.le_of_ble_eq_true rfl), (Nat.le_of_ble_eq_true rfl)⟩ ⟨Nat.zero_le _, Nat.zero_le _⟩ dX12_breeze_14 ?_
    exact A_iretE (pc := 17) dX12_breeze_17 rfl (Nat.zero_le _) (Nat.zero_le _) (by rw [d_breeze, if_pos hb9]) (by rw [d_breeze, if_pos hb9])
