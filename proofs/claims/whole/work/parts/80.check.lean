/-- numbers told, against the rings that are whole, front first -/
noncomputable def ck (F : am_iv → Int32) (K : Nat → am_iv → am_iv) (G : Nat → am_iv → Int32) : Nat → Nat → am_iv → Int32 × am_iv
  | 0, i, w => if F w < 0 then (0, w) else (1 + nI i, w)
  | d + 1, i, w => if F w < 0 then (1 + nI i, w) else if G i w = F w then ck F K G d (i + 1) (K (F w).toNatClampNeg w) else (1 + nI i, w)
def kc_F (n : Nat) (w : am_iv) : Int32 := rm_front (fun r => w (4, 1, r)) n
def kr_F (n : Nat) (u : am_iv) : Int32 := rm_front (fun r => rf u (31, 1, 0) r) n
def kc_K (r : Nat) (w : am_iv) : am_iv := am_ui w (4, 1, r) 7 0
def kr_K (r : Nat) (u : am_iv) : am_iv := am_ui u (31, 1, 0) (86 + 8 * r) 0
def kc_G (i : Nat) (w : am_iv) : Int32 := w (15, 0, 0) i
def kr_G (i : Nat) (u : am_iv) : Int32 := u (31, 0, 0) (50 + i)
theorem kf_n {F : Nat → Nat → Int32} {n : Nat} (hn : n ≤ 8) (h : 0 ≤ rm_front F n) : (rm_front F n).toNatClampNeg < n ∧ rm_front F n = nI (rm_front F n).toNatClampNeg := by
  rcases rm_front_in F n with e | ⟨q, hq, e⟩
  · rw [e] at h; exact absurd h (by decide)
  · rw [e, nI_clamp (by omega)]; exact ⟨hq, rfl⟩
theorem i_nn {x : Int32} (h : ¬ x < 0) : 0 ≤ x := Int32.not_lt.mp h
theorem ck_g {n d : Nat} : ∀ i w, chg 1 w (ck (kc_F n) kc_K kc_G d i w).2 := by
  induction d with
  | zero =>
    intro i w
    rw [ck]
    split <;> exact chg.rf _ _
  | succ d ih =>
    intro i w
    rw [ck]
    repeat' split
    all_goals first
      | exact chg.rf _ _
      | exact (chg.ui (inR4 1 _) (Or.inr (by decide))).tr (ih _ _)
theorem ck_U {n d : Nat} : ∀ i w, chU 1 w (ck (kr_F n) kr_K kr_G d i w).2 := by
  induction d with
  | zero =>
    intro i w
    rw [ck]
    split <;> exact chU.rf _ _
  | succ d ih =>
    intro i w
    rw [ck]
    repeat' split
    all_goals first
      | exact chU.rf _ _
      | exact chU.ui.tr (ih _ _)
/-- the rings ahead, and the numbers told, are the same -/
def kQ (n zw : Nat) (w u : am_iv) : Prop := (∀ r, r < n → a7 (w (4, 1, r)) (rf u (31, 1, 0) r)) ∧ ∀ k, k < zw → w (15, 0, 0) k = u (31, 0, 0) (50 + k)
theorem kQ.K {n zw : Nat} {w u : am_iv} (h : kQ n zw w u) (r : Nat) : kQ n zw (kc_K r w) (kr_K r u) := by
  refine ⟨fun q hq k hk => ?_, fun k hk => ?_⟩
  · have e := h.1 q hq k hk
    unfold rf at e ⊢
    unfold kc_K kr_K
    by_cases c : q = r ∧ k = 7
    · obtain ⟨c1, c2⟩ := c
      subst c1; subst c2
      rw [am_ui_s, if_neg (by decide), show 79 + 8 * q + 7 = 86 + 8 * q by omega, am_ui_s]
    · rw [am_ui_n (fun z => c ⟨by have := z.1; simp at this; exact this, z.2⟩)]
      by_cases k0 : k = 0
      · rw [if_pos k0] at e ⊢; exact e
      · rw [if_neg k0] at e ⊢
        rw [am_ui_n (fun z => c (by omega))]
        exact e
  · unfold kc_K kr_K
    rw [am_ui_o (by simp), am_ui_o (by simp)]
    exact h.2 k hk
theorem ck_same {n zw : Nat} (hn : n ≤ 8) (d : Nat) : ∀ i w u, i + d = zw → kQ n zw w u → (ck (kc_F n) kc_K kc_G d i w).1 = (ck (kr_F n) kr_K kr_G d i u).1 := by
  induction d with
  | zero =>
    intro i w u hi h
    have e : kc_F n w = kr_F n u := rm_front_c n (by omega) h.1
    rw [ck, ck, e]
    split <;> rfl
  | succ d ih =>
    intro i w u hi h
    have e : kc_F n w = kr_F n u := rm_front_c n (by omega) h.1
    have eg : kc_G i w = kr_G i u := h.2 i (by omega)
    rw [ck, ck, e, eg]
    split
    · rfl
    · split
      · exact ih _ _ _ (by omega) (h.K _)
      · rfl
set_option maxRecDepth 20000 in
theorem ck_loop (l : Launch) {kd : am_kd} {rv : am_rv} (hS : sh kd rv) (n zw : Nat) (hn8 : n ≤ 8) (hz20 : zw ≤ 20) (d : Nat) : ∀ (i : Nat) (w : am_iv) (p3 : Option am_V), w (2, 1, 0) 1 = nI n → w (14, 0, 0) 1 = nI zw → i + d = zw → am_W l mX11_checked (am_rm 1 0 0) (am_ret (some (am_I (ck (kc_F n) kc_K kc_G d i w).1)) kd rv (ck (kc_F n) kc_K kc_G d i w).2) 2 [some (am_P (1, 0, 0)), some (am_P (14, 0, 0)), some (am_I (nI i)), p3] [] kd rv w 0 0 := by
  induction d with
  | zero =>
    intro i w p3 hn hz hd
    have ei : i = zw := hd
    subst ei
    refine A_iload_n (pc := 2) (i := 2) dX11_checked_2 rfl rfl ?_
    refine A_aload_n (pc := 3) (i := 1) dX11_checked_3 rfl rfl ?_
    refine A_geti (pc := 4) 1 fl_X11_174_5 (hS.k14 (by decide)) rfl dX11_checked_4 ?_
    refine A_top hz ?_
    refine A_icmpgt (pc := 7) 79 dX11_checked_7 (by decide) (fun hb7 => ?_) (fun hb7 => ?_)
    · exact absurd hb7 (nI_nlt (Nat.le_refl _) (by omega))
    · refine A_aload_n (pc := 10) (i := 0) dX11_checked_10 rfl rfl ?_
      refine A_getr (pc := 11) 1 fl_X11_16_11 hS.k1 rfl (hS.w1 (k := 1) (by decide)) dX11_checked_11 ?_
      refine A_callV1 (pc := 14) cv_X11_206 (s_foremost l hS 1 (by decide) n hn hn8) (hS.k2 (by decide)) rfl rfl rfl rfl (Nat.le_of_ble_eq_true rfl) ⟨(Nat.le_of_ble_eq_true rfl), (Nat.le_of_ble_eq_true rfl)⟩ ⟨Nat.zero_le _, Nat.zero_le _⟩ dX11_checked_14 ?_
      refine A_top (y := kc_F n w) rfl ?_
      refine A_ist3 (pc := 17) dX11_checked_17 (Nat.le_of_ble_eq_true rfl) rfl ?_
      refine A_iload_n (pc := 18) (i := 3) dX11_checked_18 rfl rfl ?_
      refine A_ifge (pc := 19) 38 dX11_checked_19 (by decide) (fun hb19 => ?_) (fun hb19 => ?_)
      · refine A_aload_n (pc := 38) (i := 1) dX11_checked_38 rfl rfl ?_
        refine A_iload_n (pc := 39) (i := 2) dX11_checked_39 rfl rfl ?_
        refine A_callV1 (pc := 40) cv_X11_279 (s_rwhas l (14, 0, 0) (hS.k14 (by decide)) _) (hS.k14 (by decide)) rfl rfl rfl rfl (Nat.le_of_ble_eq_true rfl) ⟨(Nat.le_of_ble_eq_true rfl), (Nat.le_of_ble_eq_true rfl)⟩ ⟨Nat.zero_le _, Nat.zero_le _⟩ dX11_checked_40 ?_
        refine A_ifeq (pc := 43) 56 dX11_checked_43 (by decide) (fun hb43 => ?_) (fun hb43 => ?_)
        · refine A_iconst (pc := 56) (1) dX11_checked_56 (by decide) ?_
          refine A_iload_n (pc := 57) (i := 2) dX11_checked_57 rfl rfl ?_
          refine A_iadd (pc := 58) dX11_checked_58 ?_
          rw [ck, if_neg (Int32.not_lt.mpr hb19)]
          exact A_iretE (pc := 59) dX11_checked_59 rfl (Nat.zero_le _) (Nat.zero_le _) ((rfl)) ((rfl))
        · exact absurd ((sr_b_0 _).mpr (fun z => absurd z.2 (by rw [hz]; exact nI_nlt (Nat.le_refl _) (by omega)))) hb43
      · refine A_iload_n (pc := 22) (i := 2) dX11_checked_22 rfl rfl ?_
        refine A_aload_n (pc := 23) (i := 1) dX11_checked_23 rfl rfl ?_
        refine A_geti (pc := 24) 1 fl_X11_174_5 (hS.k14 (by decide)) rfl dX11_checked_24 ?_
        refine A_top hz ?_
        refine A_icmpne (pc := 27) 34 dX11_checked_27 (by decide) (fun hb27 => ?_) (fun hb27 => ?_)
        · exact absurd rfl hb27
        · refine A_iconst (pc := 30) (0) dX11_checked_30 (by decide) ?_
          refine A_goto (pc := 31) 37 dX11_checked_31 (by decide) ?_
          rw [ck, if_pos (Int32.not_le.mp hb19)]
          exact A_iretE (pc := 37) dX11_checked_37 rfl (Nat.zero_le _) (Nat.zero_le _) ((rfl)) ((rfl))
  | succ d ih =>
    intro i w p3 hn hz hd
    refine A_iload_n (pc := 2) (i := 2) dX11_checked_2 rfl rfl ?_
    refine A_aload_n (pc := 3) (i := 1) dX11_checked_3 rfl rfl ?_
    refine A_geti (pc := 4) 1 fl_X11_174_5 (hS.k14 (by decide)) rfl dX11_checked_4 ?_
    refine A_top hz ?_
    refine A_icmpgt (pc := 7) 79 dX11_checked_7 (by decide) (fun hb7 => ?_) (fun hb7 => ?_)
    · exact absurd hb7 (nI_nlt (by omega) (by omega))
    · refine A_aload_n (pc := 10) (i := 0) dX11_checked_10 rfl rfl ?_
      refine A_getr (pc := 11) 1 fl_X11_16_11 hS.k1 rfl (hS.w1 (k := 1) (by decide)) dX11_checked_11 ?_
      refine A_callV1 (pc := 14) cv_X11_206 (s_foremost l hS 1 (by decide) n hn hn8) (hS.k2 (by decide)) rfl rfl rfl rfl (Nat.le_of_ble_eq_true rfl) ⟨(Nat.le_of_ble_eq_true rfl), (Nat.le_of_ble_eq_true rfl)⟩ ⟨Nat.zero_le _, Nat.zero_le _⟩ dX11_checked_14 ?_
      refine A_top (y := kc_F n w) rfl ?_
      refine A_ist3 (pc := 17) dX11_checked_17 (Nat.le_of_ble_eq_true rfl) rfl ?_
      refine A_iload_n (pc := 18) (i := 3) dX11_checked_18 rfl rfl ?_
      refine A_ifge (pc := 19) 38 dX11_checked_19 (by decide) (fun hb19 => ?_) (fun hb19 => ?_)
      · refine A_aload_n (pc := 38) (i := 1) dX11_checked_38 rfl rfl ?_
        refine A_iload_n (pc := 39) (i := 2) dX11_checked_39 rfl rfl ?_
        refine A_callV1 (pc := 40) cv_X11_279 (s_rwhas l (14, 0, 0) (hS.k14 (by decide)) _) (hS.k14 (by decide)) rfl rfl rfl rfl (Nat.le_of_ble_eq_true rfl) ⟨(Nat.le_of_ble_eq_true rfl), (Nat.le_of_ble_eq_true rfl)⟩ ⟨Nat.zero_le _, Nat.zero_le _⟩ dX11_checked_40 ?_
        refine A_ifeq (pc := 43) 56 dX11_checked_43 (by decide) (fun hb43 => ?_) (fun hb43 => ?_)
        · exact absurd (show 0 ≤ nI i ∧ nI i < w (14, 0, 0) 1 from ⟨nI_pos' (by omega), by rw [hz]; exact nI_lt (by omega) (by omega)⟩) ((sr_b_0 _).mp hb43)
        · refine A_aload_n (pc := 46) (i := 1) dX11_checked_46 rfl rfl ?_
          refine A_getr (pc := 47) 0 fl_X11_282_5 (hS.k14 (by decide)) rfl (hS.w14 (by decide)) dX11_checked_47 ?_
          refine A_iload_n (pc := 50) (i := 2) dX11_checked_50 rfl rfl ?_
          refine A_ialdN (pc := 51) (hS.k15 (by decide)) (show i < 20 by omega) (Nat.le_of_ble_eq_true rfl) dX11_checked_51 ?_
          refine A_iload_n (pc := 52) (i := 3) dX11_checked_52 rfl rfl ?_
          refine A_icmpeq (pc := 53) 60 dX11_checked_53 (by decide) (fun hb53 => ?_) (fun hb53 => ?_)
          · refine A_aload_n (pc := 60) (i := 0) dX11_checked_60 rfl rfl ?_
            refine A_getr (pc := 61) 1 fl_X11_16_11 hS.k1 rfl (hS.w1 (k := 1) (by decide)) dX11_checked_61 ?_
            refine A_getr (pc := 64) 0 fl_X11_78_4 (hS.k2 (by decide)) rfl (hS.w2_0 (by decide)) dX11_checked_64 ?_
            refine A_iload_n (pc := 67) (i := 3) dX11_checked_67 rfl rfl ?_
            obtain ⟨hr, er⟩ := kf_n (F := fun r => w (4, 1, r)) hn8 hb19
            have hr8 : (kc_F n w).toNatClampNeg < 8 := Nat.lt_of_lt_of_le hr hn8
            refine A_top (y := nI (kc_F n w).toNatClampNeg) er ?_
            refine A_aaldN (pc := 68) (hS.k3 (by decide)) (by decide) (by decide) hr8 (by decide) (hS.w3 (by decide) hr8) dX11_checked_68 ?_
            refine A_iconst (pc := 69) (0) dX11_checked_69 (by decide) ?_
            refine A_puti (pc := 70) 7 fl_X11_87_3 (hS.k4 (by decide) hr8) rfl (by decide +kernel) A_zn0 rfl dX11_checked_70 ?_
            refine A_inc2 (pc := 73) (nI (i + 1)) dX11_checked_73 (nI_1 i) (Nat.le_of_ble_eq_true rfl) rfl ?_
            refine A_goto (pc := 76) 2 dX11_checked_76 (by decide) ?_
            rw [ck, if_neg (Int32.not_lt.mpr hb19), if_pos (show kc_G i w = kc_F n w from hb53)]
            exact ih (i + 1) _ _ ((am_ui_o (by simp)).trans hn) ((am_ui_o (by simp)).trans hz) (by omega)
          · refine A_iconst (pc := 56) (1) dX11_checked_56 (by decide) ?_
            refine A_iload_n (pc := 57) (i := 2) dX11_checked_57 rfl rfl ?_
            refine A_iadd (pc := 58) dX11_checked_58 ?_
            rw [ck, if_neg (Int32.not_lt.mpr hb19), if_neg (show ¬ kc_G i w = kc_F n w from hb53)]
            exact A_iretE (pc := 59) dX11_checked_59 rfl (Nat.zero_le _) (Nat.zero_le _) ((rfl)) ((rfl))
      · refine A_iload_n (pc := 22) (i := 2) dX11_checked_22 rfl rfl ?_
        refine A_aload_n (pc := 23) (i := 1) dX11_checked_23 rfl rfl ?_
        refine A_geti (pc := 24) 1 fl_X11_174_5 (hS.k14 (by decide)) rfl dX11_checked_24 ?_
        refine A_top hz ?_
        refine A_icmpne (pc := 27) 34 dX11_checked_27 (by decide) (fun hb27 => ?_) (fun hb27 => ?_)
        · refine A_iconst (pc := 34) (1) dX11_checked_34 (by decide) ?_
          refine A_iload_n (pc := 35) (i := 2) dX11_checked_35 rfl rfl ?_
          refine A_iadd (pc := 36) dX11_checked_36 ?_
          rw [ck, if_pos (Int32.not_le.mp hb19)]
          exact A_iretE (pc := 37) dX11_checked_37 rfl (Nat.zero_le _) (Nat.zero_le _) ((rfl)) ((rfl))
        · exact absurd ((nI_lit (c := zw) (by omega) (by omega)).mp (hb27)) (by omega)
set_option maxRecDepth 20000 in
theorem s_checked (l : Launch) {kd : am_kd} {rv : am_rv} {w : am_iv} (hS : sh kd rv) (n zw : Nat) (hn8 : n ≤ 8) (hz20 : zw ≤ 20) (hn : w (2, 1, 0) 1 = nI n) (hz : w (14, 0, 0) 1 = nI zw) : am_Met l mX11_checked (am_rm 1 0 0) [am_P (1, 0, 0), am_P (14, 0, 0)] kd rv w (am_ret (some (am_I (ck (kc_F n) kc_K kc_G zw 0 w).1)) kd rv (ck (kc_F n) kc_K kc_G zw 0 w).2) := by
  refine am_Met.of (by decide) (Nat.le_of_ble_eq_true rfl) rfl ?_
  refine A_iconst (pc := 0) (0) dX11_checked_0 (by decide) ?_
  refine A_ist2 (pc := 1) dX11_checked_1 (Nat.le_of_ble_eq_true rfl) rfl ?_
  exact ck_loop l hS n zw hn8 hz20 zw 0 w none hn hz (Nat.zero_add zw)
noncomputable def c_check (x : Int32) (n nl z0 z1 zt zw : Nat) (ln : Nat → am_N) (lk : Nat → Nat) (rv : am_rv) (iv : am_iv) : Int32 × am_rv × am_iv := if sr_b (0 ≤ x ∧ x ≤ 60) = 0 then (-1000000001, rv, er_heap 1 (am_ui iv (14, 0, 0) 1 0)) else ((ck (kc_F n) kc_K kc_G zw 0 (it (rm_tick 1 n z1 nl ln lk) x.toNatClampNeg (rb_heap 1 0 n z0 z1 zt zw iv))).1, (lw_cp 1 0 rv 6), (am_ui (ck (kc_F n) kc_K kc_G zw 0 (it (rm_tick 1 n z1 nl ln lk) x.toNatClampNeg (rb_heap 1 0 n z0 z1 zt zw iv))).2 (14, 0, 0) 1 0))
set_option maxRecDepth 20000 in
theorem p_check (l : Launch) {kd : am_kd} {rv : am_rv} {iv : am_iv} (hS : sh kd rv) (x : Int32) (n nl z0 z1 zt zw : Nat) (ln : Nat → am_N) (lk : Nat → Nat) (hA : AH kd rv n z0 z1 zt zw iv) (hl : rm_laws kd (lw_cp 1 0 rv 6) (rb_heap 1 0 n z0 z1 zt zw iv) 1 nl ln lk) (hq : tQ 1 n nl z1 ln lk (rb_heap 1 0 n z0 z1 zt zw iv)) : am_Met l mX11_check (am_rm 9 0 0) [am_P (1, 0, 0), am_I x] kd rv iv (am_ret (some (am_I (c_check x n nl z0 z1 zt zw ln lk rv iv).1)) kd (c_check x n nl z0 z1 zt zw ln lk rv iv).2.1 (c_check x n nl z0 z1 zt zw ln lk rv iv).2.2) := by
  refine am_Met.of (by decide) (Nat.le_of_ble_eq_true rfl) rfl ?_
  have hn := hA.1.1
  have hn8 := hA.1.2.1
  refine A_iload_n (pc := 0) (i := 1) dX11_check_0 rfl rfl ?_
  refine A_callS1 (pc := 1) cs_X11_211 (s_isAhead l _) rfl rfl (Nat.le_of_ble_eq_true rfl) ⟨(Nat.le_of_ble_eq_true rfl), (Nat.le_of_ble_eq_true rfl)⟩ ⟨Nat.zero_le _, Nat.zero_le _⟩ dX11_check_1 ?_
  refine A_ifne (pc := 4) 25 dX11_check_4 (by decide) (fun hb4 => ?_) (fun hb4 => ?_)
  · have hx := (sr_b_1 _).mp hb4
    refine A_aload_n (pc := 25) (i := 0) dX11_check_25 rfl rfl ?_
    refine A_iload_n (pc := 26) (i := 1) dX11_check_26 rfl rfl ?_
    refine A_top (nI_cl hx.1) ?_
    refine A_callV0 (pc := 27) cv_X11_214 (s_goA l hS hA hl hq x.toNatClampNeg (Nat.lt_of_le_of_lt (ah60 hx) (by decide))) hS.k1 rfl rfl rfl rfl (Nat.le_of_ble_eq_true rfl) ⟨(Nat.le_of_ble_eq_true rfl), (Nat.le_of_ble_eq_true rfl)⟩ ⟨Nat.zero_le _, Nat.zero_le _⟩ dX11_check_27 ?_
    have hS := lw_cp_sh (i := 1) (o := 0) hS 6
    refine A_aload_n (pc := 30) (i := 0) dX11_check_30 rfl rfl ?_
    refine A_aload_n (pc := 31) (i := 0) dX11_check_31 rfl rfl ?_
    refine A_getr (pc := 32) 0 fl_X11_12_11 hS.k1 rfl (hS.w1 (k := 0) (by decide)) dX11_check_32 ?_
    refine A_getr (pc := 35) 12 fl_X11_315_4 (hS.k2 (by decide)) rfl (hS.w2_12 (by decide)) dX11_check_35 ?_
    refine A_callV1 (pc := 38) cv_X11_318 (s_checked l hS n zw hn8 hA.2.2.2.2.2 (tQ.cls _ (tQ.it (by decide) _ hq)).1 (((chg.itt (fun w => chg.tick) x.toNatClampNeg (rb_heap 1 0 n z0 z1 zt zw iv)) (14, 0, 0) 1 (Or.inl (fun e => by have := e.2.2; simp at this))).trans ((chg.rb (14, 0, 0) 1 (Or.inl (fun e => by have := e.2.2; simp at this))).trans hA.2.2.2.2.1))) hS.k1 rfl rfl rfl rfl (Nat.le_of_ble_eq_true rfl) ⟨(Nat.le_of_ble_eq_true rfl), (Nat.le_of_ble_eq_true rfl)⟩ ⟨Nat.zero_le _, Nat.zero_le _⟩ dX11_check_38 ?_
    refine A_ist2 (pc := 41) dX11_check_41 (Nat.le_of_ble_eq_true rfl) rfl ?_
    refine A_aload_n (pc := 42) (i := 0) dX11_check_42 rfl rfl ?_
    refine A_getr (pc := 43) 0 fl_X11_12_11 hS.k1 rfl (hS.w1 (k := 0) (by decide)) dX11_check_43 ?_
    refine A_getr (pc := 46) 12 fl_X11_315_4 (hS.k2 (by decide)) rfl (hS.w2_12 (by decide)) dX11_check_46 ?_
    refine A_iconst (pc := 49) (0) dX11_check_49 (by decide) ?_
    refine A_puti (pc := 50) 1 fl_X11_174_5 (hS.k14 (by decide)) rfl (by decide +kernel) rfl rfl dX11_check_50 ?_
    refine A_iload_n (pc := 53) (i := 2) dX11_check_53 rfl rfl ?_
    rw [c_check, if_neg hb4]
    exact A_iretE (pc := 54) dX11_check_54 rfl (Nat.zero_le _) (Nat.zero_le _) ((rfl)) ((rfl))
  · refine A_aload_n (pc := 7) (i := 0) dX11_check_7 rfl rfl ?_
    refine A_getr (pc := 8) 0 fl_X11_12_11 hS.k1 rfl (hS.w1 (k := 0) (by decide)) dX11_check_8 ?_
    refine A_getr (pc := 11) 12 fl_X11_315_4 (hS.k2 (by decide)) rfl (hS.w2_12 (by decide)) dX11_check_11 ?_
    refine A_iconst (pc := 14) (0) dX11_check_14 (by decide) ?_
    refine A_puti (pc := 15) 1 fl_X11_174_5 (hS.k14 (by decide)) rfl (by decide +kernel) rfl rfl dX11_check_15 ?_
    refine A_aload_n (pc := 18) (i := 0) dX11_check_18 rfl rfl ?_
    refine A_ldc (pc := 19) (List.mem_cons_of_mem _ kc_X11_60) dX11_check_19 ?_
    refine A_callV1 (pc := 21) cv_X11_61 (s_err1 l hS) hS.k1 rfl rfl rfl rfl (Nat.le_of_ble_eq_true rfl) ⟨(Nat.le_of_ble_eq_true rfl), (Nat.le_of_ble_eq_true rfl)⟩ ⟨Nat.zero_le _, Nat.zero_le _⟩ dX11_check_21 ?_
    rw [c_check, if_pos hb4]
    exact A_iretE (pc := 24) dX11_check_24 rfl (Nat.zero_le _) (Nat.zero_le _) ((rfl)) ((rfl))
theorem kx_ix {v : Int32} (h : v = nI v.toNatClampNeg) : (80 : Int32) + 8 * v + 6 = nI (86 + 8 * v.toNatClampNeg) := by
  generalize v.toNatClampNeg = m at h
  subst h
  show nI 80 + nI 8 * nI m + nI 6 = _
  rw [mI_mul, mI_add, mI_add, show 80 + 8 * m + 6 = 86 + 8 * m by omega]
theorem kx_lt {r n : Nat} (hn : n ≤ 8) (h : r < n) : 86 + 8 * r < 300 := by omega
theorem kx_7 {n q : Nat} {w : am_iv} (h : ∀ r, r < n → rf w (31, 1, 0) r 7 = 0 ∨ rf w (31, 1, 0) r 7 = 1) : ∀ r, r < n → rf (kr_K q w) (31, 1, 0) r 7 = 0 ∨ rf (kr_K q w) (31, 1, 0) r 7 = 1 := fun r hr => by
  unfold kr_K
  show am_ui w (31, 1, 0) (86 + 8 * q) 0 (31, 1, 0) (79 + 8 * r + 7) = 0 ∨ am_ui w (31, 1, 0) (86 + 8 * q) 0 (31, 1, 0) (79 + 8 * r + 7) = 1
  by_cases c : r = q
  · subst c
    rw [show 79 + 8 * r + 7 = 86 + 8 * r by omega, am_ui_s]
    exact Or.inl rfl
  · rw [am_ui_n (fun z => c (by omega))]
    exact h r hr
set_option maxRecDepth 20000 in
theorem kr_loop2 (l : Launch) {kd : am_kd} {rv : am_rv} (hR : shr kd rv) (n zw : Nat) (hn8 : n ≤ 8) (hz20 : zw ≤ 20) (x : Int32) (d : Nat) : ∀ (i : Nat) (w : am_iv), w (31, 1, 0) 1 = nI n → (∀ r, r < n → rf w (31, 1, 0) r 7 = 0 ∨ rf w (31, 1, 0) r 7 = 1) → i + d = zw → am_W l mX12_check (am_rm 50 0 0) (am_ret (some (am_I (ck (kr_F n) kr_K kr_G d i w).1)) kd rv (ck (kr_F n) kr_K kr_G d i w).2) 45 [some (am_P (30, 0, 0)), some (am_I x), some (am_I (nI zw)), some (am_I (nI i)), some (am_I (kr_F n w))] [] kd rv w 0 0 := by
  induction d with
  | zero =>
    intro i w hn h7 hd
    have ei : i = zw := hd
    subst ei
    refine A_iload (pc := 45) (i := 4) dX12_check_45 rfl ?_
    refine A_iflt (pc := 47) 105 dX12_check_47 (by decide) (fun hb47 => ?_) (fun hb47 => ?_)
    · refine A_iload_n (pc := 105) (i := 3) dX12_check_105 rfl rfl ?_
      refine A_iload_n (pc := 106) (i := 2) dX12_check_106 rfl rfl ?_
      refine A_icmpge (pc := 107) 116 dX12_check_107 (by decide) (fun hb107 => ?_) (fun hb107 => ?_)
      · refine A_iconst (pc := 116) (0) dX12_check_116 (by decide) ?_
        rw [ck, if_pos hb47]
        exact A_iretE (pc := 117) dX12_check_117 rfl (Nat.zero_le _) (Nat.zero_le _) ((rfl)) ((rfl))
      · exact absurd (nI_le (Nat.le_refl _) (by omega)) hb107
    · refine A_iload_n (pc := 50) (i := 3) dX12_check_50 rfl rfl ?_
      refine A_iload_n (pc := 51) (i := 2) dX12_check_51 rfl rfl ?_
      refine A_icmpeq (pc := 52) 69 dX12_check_52 (by decide) (fun hb52 => ?_) (fun hb52 => ?_)
      · refine A_iconst (pc := 69) (1) dX12_check_69 (by decide) ?_
        refine A_iload_n (pc := 70) (i := 3) dX12_check_70 rfl rfl ?_
        refine A_iadd (pc := 71) dX12_check_71 ?_
        rw [ck, if_neg hb47]
        exact A_iretE (pc := 72) dX12_check_72 rfl (Nat.zero_le _) (Nat.zero_le _) ((rfl)) ((rfl))
      · exact absurd rfl hb52
  | succ d ih =>
    intro i w hn h7 hd
    refine A_iload (pc := 45) (i := 4) dX12_check_45 rfl ?_
    refine A_iflt (pc := 47) 105 dX12_check_47 (by decide) (fun hb47 => ?_) (fun hb47 => ?_)
    · refine A_iload_n (pc := 105) (i := 3) dX12_check_105 rfl rfl ?_
      refine A_iload_n (pc := 106) (i := 2) dX12_check_106 rfl rfl ?_
      refine A_icmpge (pc := 107) 116 dX12_check_107 (by decide) (fun hb107 => ?_) (fun hb107 => ?_)
      · exact absurd hb107 (nI_nge (by omega) (by omega))
      · refine A_iconst (pc := 110) (1) dX12_check_110 (by decide) ?_
        refine A_iload_n (pc := 111) (i := 3) dX12_check_111 rfl rfl ?_
        refine A_iadd (pc := 112) dX12_check_112 ?_
        refine A_goto (pc := 113) 117 dX12_check_113 (by decide) ?_
        rw [ck, if_pos hb47]
        exact A_iretE (pc := 117) dX12_check_117 rfl (Nat.zero_le _) (Nat.zero_le _) ((rfl)) ((rfl))
    · refine A_iload_n (pc := 50) (i := 3) dX12_check_50 rfl rfl ?_
      refine A_iload_n (pc := 51) (i := 2) dX12_check_51 rfl rfl ?_
      refine A_icmpeq (pc := 52) 69 dX12_check_52 (by decide) (fun hb52 => ?_) (fun hb52 => ?_)
      · exact absurd ((nI_lit (c := zw) (by omega) (by omega)).mp hb52) (by omega)
      · refine A_aload_n (pc := 55) (i := 0) dX12_check_55 rfl rfl ?_
        refine A_getr (pc := 56) 0 fl_X12_7_12 hR.1 rfl hR.w0 dX12_check_56 ?_
        refine A_bipush (pc := 59) (50) dX12_check_59 (by decide) ?_
        refine A_iload_n (pc := 61) (i := 3) dX12_check_61 rfl rfl ?_
        refine A_iadd (pc := 62) dX12_check_62 ?_
        refine A_top (show (50 : Int32) + nI i = nI (50 + i) from mI_add 50 i) ?_
        refine A_ialdN (pc := 63) (j := 50 + i) hR.k0 (by omega) (by decide) dX12_check_63 ?_
        refine A_iload (pc := 64) (i := 4) dX12_check_64 rfl ?_
        refine A_icmpeq (pc := 66) 73 dX12_check_66 (by decide) (fun hb66 => ?_) (fun hb66 => ?_)
        · obtain ⟨hr, er⟩ := kf_n (F := fun r => rf w (31, 1, 0) r) hn8 (i_nn hb47)
          refine A_aload_n (pc := 73) (i := 0) dX12_check_73 rfl rfl ?_
          refine A_getr (pc := 74) 1 fl_X12_13_12 hR.1 rfl hR.w1 dX12_check_74 ?_
          refine A_bipush (pc := 77) (80) dX12_check_77 (by decide) ?_
          refine A_bipush (pc := 79) (8) dX12_check_79 (by decide) ?_
          refine A_iload (pc := 81) (i := 4) dX12_check_81 rfl ?_
          refine A_imul (pc := 83) dX12_check_83 ?_
          refine A_iadd (pc := 84) dX12_check_84 ?_
          refine A_bipush (pc := 85) (6) dX12_check_85 (by decide) ?_
          refine A_iadd (pc := 87) dX12_check_87 ?_
          refine A_top (y := nI (86 + 8 * (kr_F n w).toNatClampNeg)) (kx_ix er) ?_
          refine A_iconst (pc := 88) (0) dX12_check_88 (by decide) ?_
          refine A_iastN (pc := 89) (j := 86 + 8 * (kr_F n w).toNatClampNeg) hR.k1 (show 86 + 8 * (kr_F n w).toNatClampNeg < 300 from kx_lt hn8 hr) (by decide) dX12_check_89 ?_
          refine A_heap (iv' := kr_K (kr_F n w).toNatClampNeg w) rfl ?_
          refine A_inc3 (pc := 90) (nI (i + 1)) dX12_check_90 (nI_1 i) (Nat.le_of_ble_eq_true rfl) rfl ?_
          refine A_aload_n (pc := 93) (i := 0) dX12_check_93 rfl rfl ?_
          refine A_getr (pc := 94) 1 fl_X12_13_12 hR.1 rfl hR.w1 dX12_check_94 ?_
          refine A_callS1 (pc := 97) cs_X12_234 (r_frontOf l (31, 1, 0) hR.k1 n ((am_ui_n (by simp; omega)).trans hn) hn8 (kx_7 h7)) rfl rfl (Nat.le_of_ble_eq_true rfl) ⟨(Nat.le_of_ble_eq_true rfl), (Nat.le_of_ble_eq_true rfl)⟩ ⟨Nat.zero_le _, Nat.zero_le _⟩ dX12_check_97 ?_
          refine A_top (y := kr_F n (kr_K (kr_F n w).toNatClampNeg w)) rfl ?_
          refine A_ist4 (pc := 100) dX12_check_100 (Nat.le_of_ble_eq_true rfl) rfl ?_
          refine A_goto (pc := 102) 45 dX12_check_102 (by decide) ?_
          rw [ck, if_neg hb47, if_pos (show kr_G i w = kr_F n w from hb66)]
          exact ih (i + 1) _ ((am_ui_n (by simp; omega)).trans hn) (kx_7 h7) (by omega)
        · refine A_iconst (pc := 69) (1) dX12_check_69 (by decide) ?_
          refine A_iload_n (pc := 70) (i := 3) dX12_check_70 rfl rfl ?_
          refine A_iadd (pc := 71) dX12_check_71 ?_
          rw [ck, if_neg hb47, if_neg (show ¬ kr_G i w = kr_F n w from hb66)]
          exact A_iretE (pc := 72) dX12_check_72 rfl (Nat.zero_le _) (Nat.zero_le _) ((rfl)) ((rfl))
noncomputable def d_check (x : Int32) (zw n nl z : Nat) (lk : Nat → Nat) (iv : am_iv) : Int32 × am_iv := if sr_b (0 ≤ x ∧ x ≤ 60) = 0 then (-1000000001, rx_find 1 (am_ui iv (31, 0, 0) 8 0)) else (ck (kr_F n) kr_K kr_G zw 0 (it (rt_tick 1 n nl z lk) x.toNatClampNeg (rx_cp (31, 0, 0) (31, 1, 0) (am_ui iv (31, 0, 0) 8 0) 300)))
set_option maxRecDepth 20000 in
theorem q_check (l : Launch) {kd : am_kd} {rv : am_rv} {iv : am_iv} (hR : shr kd rv) (x : Int32) (zw n nl z : Nat) (lk : Nat → Nat) (h8 : iv (31, 0, 0) 8 = nI zw) (hz20 : zw ≤ 20) (hn8 : n ≤ 8) (hq : rQ 1 n nl z lk (rx_cp (31, 0, 0) (31, 1, 0) (am_ui iv (31, 0, 0) 8 0) 300)) : am_Met l mX12_check (am_rm 50 0 0) [am_P (30, 0, 0), am_I x] kd rv iv (am_ret (some (am_I (d_check x zw n nl z lk iv).1)) kd rv (d_check x zw n nl z lk iv).2) := by
  refine am_Met.of (by decide) (Nat.le_of_ble_eq_true rfl) rfl ?_
  refine A_aload_n (pc := 0) (i := 0) dX12_check_0 rfl rfl ?_
  refine A_getr (pc := 1) 0 fl_X12_7_12 hR.1 rfl hR.w0 dX12_check_1 ?_
  refine A_bipush (pc := 4) (8) dX12_check_4 (by decide) ?_
  refine A_ialdN (pc := 6) hR.k0 (show 8 < 300 by decide) (by decide) dX12_check_6 ?_
  refine A_top h8 ?_
  refine A_ist2 (pc := 7) dX12_check_7 (Nat.le_of_ble_eq_true rfl) rfl ?_
  refine A_aload_n (pc := 8) (i := 0) dX12_check_8 rfl rfl ?_
  refine A_getr (pc := 9) 0 fl_X12_7_12 hR.1 rfl hR.w0 dX12_check_9 ?_
  refine A_bipush (pc := 12) (8) dX12_check_12 (by decide) ?_
  refine A_iconst (pc := 14) (0) dX12_check_14 (by decide) ?_
  refine A_iastN (pc := 15) (j := 8) hR.k0 (by decide) (by decide) dX12_check_15 ?_
  refine A_iload_n (pc := 16) (i := 1) dX12_check_16 rfl rfl ?_
  refine A_callS1 (pc := 17) cs_X12_244 (r_isAhead l _) rfl rfl (Nat.le_of_ble_eq_true rfl) ⟨(Nat.le_of_ble_eq_true rfl), (Nat.le_of_ble_eq_true rfl)⟩ ⟨Nat.zero_le _, Nat.zero_le _⟩ dX12_check_17 ?_
  refine A_ifne (pc := 20) 29 dX12_check_20 (by decide) (fun hb20 => ?_) (fun hb20 => ?_)
  · have hx := (sr_b_1 _).mp hb20
    refine A_aload_n (pc := 29) (i := 0) dX12_check_29 rfl rfl ?_
    refine A_iload_n (pc := 30) (i := 1) dX12_check_30 rfl rfl ?_
    refine A_top (nI_cl hx.1) ?_
    refine A_callV0 (pc := 31) cv_X12_247 (r_ahead l hR n nl z lk _ rQ.ref (rQ.tick (by decide)) hq x.toNatClampNeg (Nat.lt_of_le_of_lt (ah60 hx) (by decide))) hR.1 rfl rfl rfl rfl (Nat.le_of_ble_eq_true rfl) ⟨(Nat.le_of_ble_eq_true rfl), (Nat.le_of_ble_eq_true rfl)⟩ ⟨Nat.zero_le _, Nat.zero_le _⟩ dX12_check_31 ?_
    refine A_iconst (pc := 34) (0) dX12_check_34 (by decide) ?_
    refine A_ist3 (pc := 35) dX12_check_35 (Nat.le_of_ble_eq_true rfl) rfl ?_
    refine A_aload_n (pc := 36) (i := 0) dX12_check_36 rfl rfl ?_
    refine A_getr (pc := 37) 1 fl_X12_13_12 hR.1 rfl hR.w1 dX12_check_37 ?_
    refine A_callS1 (pc := 40) cs_X12_234 (r_frontOf l (31, 1, 0) hR.k1 n (rQ.ref _ (rQ.it (by decide) _ hq)).1 hn8 (fun r hr => (rQ.rok (rQ.it (by decide) _ hq) r hr).2.2.2.2.2.2)) rfl rfl (Nat.le_of_ble_eq_true rfl) ⟨(Nat.le_of_ble_eq_true rfl), (Nat.le_of_ble_eq_true rfl)⟩ ⟨Nat.zero_le _, Nat.zero_le _⟩ dX12_check_40 ?_
    refine A_ist4 (pc := 43) dX12_check_43 (Nat.le_of_ble_eq_true rfl) rfl ?_
    rw [show (d_check x zw n nl z lk iv) = (ck (kr_F n) kr_K kr_G zw 0 (it (rt_tick 1 n nl z lk) x.toNatClampNeg (rx_cp (31, 0, 0) (31, 1, 0) (am_ui iv (31, 0, 0) 8 0) 300))) from by rw [d_check, if_neg hb20]]
    exact kr_loop2 l hR n zw hn8 hz20 x zw 0 (it (rt_tick 1 n nl z lk) x.toNatClampNeg (rx_cp (31, 0, 0) (31, 1, 0) (am_ui iv (31, 0, 0) 8 0) 300)) (rQ.ref _ (rQ.it (by decide) _ hq)).1 (fun r hr => (rQ.rok (rQ.it (by decide) _ hq) r hr).2.2.2.2.2.2) (Nat.zero_add zw)
  · refine A_aload_n (pc := 23) (i := 0) dX12_check_23 rfl rfl ?_
    refine A_iconst (pc := 24) (1) dX12_check_24 (by decide) ?_
    refine A_callV1 (pc := 25) cv_X12_65 (r_fnd1 l hR) hR.1 rfl rfl rfl rfl (Nat.le_of_ble_eq_true rfl) ⟨(Nat.le_of_ble_eq_true rfl), (Nat.le_of_ble_eq_true rfl)⟩ ⟨Nat.zero_le _, Nat.zero_le _⟩ dX12_check_25 ?_
    exact A_iretE (pc := 28) dX12_check_28 rfl (Nat.zero_le _) (Nat.zero_le _) (by rw [d_check, if_pos hb20]) (by rw [d_check, if_pos hb20])
theorem REL.w0 {kd : am_kd} {rv : am_rv} {w u : am_iv} (hu : REL kd rv w u) : REL kd rv (am_ui w (14, 0, 0) 1 0) (am_ui u (31, 0, 0) 8 0) := by
  obtain ⟨n, nl, ln, lk, z0, y0, z1, y1, zt, zw, hX⟩ := hu.n
  have hn8 := hX.1.1.2.2
  obtain ⟨⟨a0, b0⟩, l0, f0, ⟨t0, t1⟩, p0, g1, g2, g3, g4⟩ := hX
  have ew : ∀ q k, q ≠ (14, 0, 0) → am_ui w (14, 0, 0) 1 0 q k = w q k := fun q k h1 => am_ui_o h1
  have eu9 : ∀ k, k ≠ 8 → am_ui u (31, 0, 0) 8 0 (31, 0, 0) k = u (31, 0, 0) k := fun k h1 => am_ui_n (fun z => h1 z.2)
  refine hu.chg0 (chg.ui (inR14 0 0) (Or.inl ⟨by simp, by simp⟩)) (fun q k z => am_ui_o (dU_ne z).1) ?_
  exact (show rX kd rv 0 0 n nl ln lk z0 y0 z1 y1 zt 0 _ _ from ⟨⟨a0.c (ew _ _ (by simp)) (eu9 1 (by decide)), b0.c hn8 (fun r k => ew _ _ (by simp)) (fun k _ _ => eu9 k (by omega))⟩, l0.c (ew _ _ (by simp)) (fun q k hq => ew _ _ (fun e => by subst e; simp at hq)) (fun k hk => eu9 k (by omega)), f0.c (fun k _ _ => ew _ _ (by simp)) (fun k hk => eu9 k (by omega)), ⟨t0.c (ew _ _ (by simp)) (fun k => ew _ _ (by simp)) (eu9 _ (by omega)) (fun p _ => eu9 _ (by omega)), t1.c (ew _ _ (by simp)) (fun k => ew _ _ (by simp)) (eu9 _ (by omega)) (fun p _ => eu9 _ (by omega))⟩, p0.c (ew _ _ (by simp)) (fun k => ew _ _ (by simp)) (fun k hk => eu9 k (by omega)), am_ui_s _ _ _ _, am_ui_s _ _ _ _, by decide, fun k hk => absurd hk (by omega)⟩).r
theorem chT.w0 {w w' : am_iv} (h : chT w w') : chT (am_ui w (14, 0, 0) 1 0) (am_ui w' (14, 0, 0) 1 0) := fun q k z => by
  by_cases e : q = (14, 0, 0) ∧ k = 1
  · obtain ⟨e1, e2⟩ := e
    subst e1; subst e2
    rw [am_ui_s, am_ui_s]
  · rw [am_ui_n e, am_ui_n e]; exact h q k z
theorem ah_tR8 {kd : am_kd} {rv : am_rv} {n nl : Nat} {ln : Nat → am_N} {lk : Nat → Nat} {z0 y0 z1 y1 zt zw : Nat} {w u : am_iv} (h : rX kd rv 0 0 n nl ln lk z0 y0 z1 y1 zt zw w u) (h0 : ∀ r, r < 8 → w (4, 1, r) 0 = nI r ∧ w (6, 1, r) 0 = nI r) : tR 1 1 n nl z1 y1 ln lk (rb_heap 1 0 n z0 z1 zt zw w) (rx_cp (31, 0, 0) (31, 1, 0) (am_ui u (31, 0, 0) 8 0) 300) := by
  obtain ⟨h1, h2, h3, h4⟩ := h.b0 h0
  have eu9 : ∀ k, k ≠ 8 → am_ui u (31, 0, 0) 8 0 (31, 0, 0) k = u (31, 0, 0) k := fun k h1 => am_ui_n (fun z => h1 z.2)
  have k1 := h1.cu (u' := am_ui u (31, 0, 0) 8 0) (fun k _ _ h8 _ => eu9 k h8) (fun k h40 _ => eu9 k (by omega))
  have k2 : oR 0 _ (am_ui u (31, 0, 0) 8 0) := h2.trans (eu9 3 (by decide)).symm
  exact (k1.cp (b := 1) (by decide)).tR k2.cp (h3.c rfl (eu9 1 (by decide))).cp ((h4.c h.1.1.2.2 (fun _ _ => rfl) (fun k _ _ => eu9 k (by omega))).cp h.1.1.2.2)
theorem call_check (l : Launch) {kd : am_kd} {rv : am_rv} {iv : am_iv} (h : REL kd rv iv iv) (x : Int32) : CALL l kd rv iv mX11_check mX12_check [am_I x] := by
  obtain ⟨n, nl, ln, lk, z0, y0, z1, y1, zt, zw, hX⟩ := h.n
  have hA := hX.AH h.1
  have hn8 := hX.1.1.2.2
  have hB := hX.b0 (h.z (i := 1) (by decide))
  have hl := hB.1.laws
  have hq : tQ 1 n nl z1 ln lk (rb_heap 1 0 n z0 z1 zt zw iv) := ⟨y1, _, ah_tR hX (h.z (i := 1) (by decide))⟩
  refine CALL.fs (d2 := 50) h (c_check x n nl z0 z1 zt zw ln lk rv iv) (d_check x zw n nl y1 lk) (p_check l h.S x n nl z0 z1 zt zw ln lk hA hl hq) (fun hR h1 eu => ?_) (by decide) (by decide) (fun u hu eu => ?_)
  · have hX := hX.u eu
    have hq : rQ 1 n nl y1 lk (rx_cp (31, 0, 0) (31, 1, 0) _ 300) := ⟨z1, ln, _, ah_tR hX (h.z (i := 1) (by decide))⟩
    have hq8 : rQ 1 n nl y1 lk (rx_cp (31, 0, 0) (31, 1, 0) (am_ui _ (31, 0, 0) 8 0) 300) := ⟨z1, ln, _, ah_tR8 hX (h.z (i := 1) (by decide))⟩
    exact q_check l hR x zw n nl y1 lk hX.2.2.2.2.2.2.1 hX.2.2.2.2.2.2.2.1 hn8 hq8
  · have hX := hX.u eu
    have hz := hu.z (i := 1) (by decide)
    have hT := ah_tR hX hz
    unfold c_check d_check
    by_cases c0 : sr_b (0 ≤ x ∧ x ≤ 60) = 0
    · rw [if_pos c0, if_pos c0]
      refine ⟨rfl, hu.w0.err 1 (by decide), fun q k hq => ?_, fun q k hq => ?_⟩
      · show er_heap 1 (am_ui iv (14, 0, 0) 1 0) q k = _
        rw [er_u hq]; exact ui_u hq (by simp)
      · show rx_find 1 (am_ui u (31, 0, 0) 8 0) q k = _
        rw [rx_c hq]; exact ui_c hq (by simp)
    · rw [if_neg c0, if_neg c0]
      have hT8 := (ah_tR8 hX hz).it (by decide) x.toNatClampNeg
      have hw : chg 1 iv (ck (kc_F n) kc_K kc_G zw 0 (it (rm_tick 1 n z1 nl ln lk) x.toNatClampNeg (rb_heap 1 0 n z0 z1 zt zw iv))).2 := (chg.rb.tr (chg.itt (fun w => chg.tick) _ _)).tr (ck_g _ _)
      have hv : chU 1 (am_ui u (31, 0, 0) 8 0) (ck (kr_F n) kr_K kr_G zw 0 (it (rt_tick 1 n nl y1 lk) x.toNatClampNeg (rx_cp (31, 0, 0) (31, 1, 0) (am_ui u (31, 0, 0) 8 0) 300))).2 := (chU.cp.tr (chU.itt (fun w => chU.tick) _ _)).tr (ck_U _ _)
      refine ⟨?_, ((hu.w0).cp (i := 1) (o := 0) (Or.inl rfl) (by decide)).chTV hw.T1.w0 hv.V1, fun q k hq => ?_, fun q k hq => ?_⟩
      · refine ck_same hn8 zw 0 _ _ (Nat.zero_add zw) ⟨fun r hr => hT8.at hr, fun k hk => ?_⟩
        refine ((chg.rb.tr (chg.itt (fun w => chg.tick) _ _)) (15, 0, 0) k (Or.inl (fun e => by have := e.2.2; simp at this))).trans ?_
        refine Eq.trans ?_ ((chU.cp.tr (chU.itt (fun w => chU.tick) _ _)) (31, 0, 0) (50 + k) (by simp) (by simp) (by simp) (by simp)).symm
        rw [am_ui_n (by simp; omega)]
        exact hX.2.2.2.2.2.2.2.2 k hk
      · show am_ui _ (14, 0, 0) 1 0 q k = _
        rw [ui_u hq (by simp)]; exact hw.u hq
      · exact (hv.c hq).trans (ui_c hq (by simp))
