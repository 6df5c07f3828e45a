theorem nI_clt (v : Int32) : v.toNatClampNeg < 2 ^ 31 := by
  have := v.toInt_lt
  show v.toInt.toNat < 2 ^ 31
  omega
/-- two rings alone in the room ahead -/
def al_w (v : Int32) (k : Nat) (w : am_iv) : am_iv := am_ui (rm_ring (4, 1, 1) (-20) 0 1 (v - nI k) 20 4 (am_ui (rm_ring (4, 1, 0) 0 0 1 v 20 4 (am_ui w (2, 1, 0) 1 0)) (2, 1, 0) 1 (nI 1))) (2, 1, 0) 1 (nI 2)
def al_u (v : Int32) (k : Nat) (u : am_iv) : am_iv := rx_add (31, 1, 0) 1 (-20) 0 1 (v - nI k) 20 4 (rx_add (31, 1, 0) 0 0 0 1 v 20 4 (am_ui (rx_cp (31, 0, 0) (31, 1, 0) u 300) (31, 1, 0) 1 0))
noncomputable def al_s (nl z1 : Nat) (ln : Nat → am_N) (lk : Nat → Nat) (N : Nat) (v : Int32) (k : Nat) (w : am_iv) : Int32 × am_iv := cf (rm_tick 1 2 z1 nl ln lk) (fun w => rm_front (fun r => w (4, 1, r)) 2) 1 N 0 (rm_front (fun r => al_w v k w (4, 1, r)) 2) (al_w v k w)
noncomputable def al_t (nl z : Nat) (lk : Nat → Nat) (N : Nat) (v : Int32) (k : Nat) (u : am_iv) : Int32 × am_iv := tf (rt_tick 1 2 nl z lk) (fun w => rm_front (fun r => rf w (31, 1, 0) r) 2) N 0 (rm_front (fun r => rf (al_u v k u) (31, 1, 0) r) 2) (al_u v k u)
theorem chB.al {v : Int32} {k : Nat} {w : am_iv} : chB w (al_w v k w) := ((((chB.n).tr chB.ring).tr chB.n).tr chB.ring).tr chB.n
theorem chg.al {v : Int32} {k : Nat} {w : am_iv} : chg 1 w (al_w v k w) := ((((chg.u2).tr chg.ring).tr chg.u2).tr chg.ring).tr chg.u2
theorem chU.al {v : Int32} {k : Nat} {u : am_iv} : chU 1 u (al_u v k u) := ((chU.cp.tr chU.ui).tr chU.add).tr chU.add
theorem chB.als {nl z1 : Nat} {ln : Nat → am_N} {lk : Nat → Nat} {N : Nat} {v : Int32} {k : Nat} {w : am_iv} : chB w (al_s nl z1 ln lk N v k w).2 := chB.al.tr (chB.cff (fun w => chB.tick) _ _ _ _)
theorem chg.als {nl z1 : Nat} {ln : Nat → am_N} {lk : Nat → Nat} {N : Nat} {v : Int32} {k : Nat} {w : am_iv} : chg 1 w (al_s nl z1 ln lk N v k w).2 := chg.al.tr (chg.cff (fun w => chg.tick) _ _ _ _)
theorem chU.alt {nl z : Nat} {lk : Nat → Nat} {N : Nat} {v : Int32} {k : Nat} {u : am_iv} : chU 1 u (al_t nl z lk N v k u).2 := chU.al.tr (chU.tff (fun w => chU.tick) _ _ _ _)
theorem ak_ok {x v : Int32} (hx : -99999 ≤ x.toInt ∧ x.toInt ≤ 99999) (h0 : 0 ≤ v.toInt ∧ v.toInt ≤ 999) : rok (rgv x 0 1 v 20 4) := ⟨hx, (by decide : -999 ≤ (0 : Int32).toInt ∧ (0 : Int32).toInt ≤ 999), Or.inl rfl, h0, (by decide : 1 ≤ (20 : Int32).toInt ∧ (20 : Int32).toInt ≤ 200), (by decide : 1 ≤ (4 : Int32).toInt ∧ (4 : Int32).toInt ≤ 50), Or.inr rfl⟩
theorem al_v {v : Int32} {k : Nat} (h0 : 0 ≤ v) (h9 : v ≤ 999) (hk : k ≤ v.toNatClampNeg) : 0 ≤ (v - nI k).toInt ∧ (v - nI k).toInt ≤ 999 := by
  have hv : v = nI v.toNatClampNeg := nI_cl h0
  have h999 := nI_cl_le (n := 999) h0 h9 (by decide)
  generalize v.toNatClampNeg = m at hv hk h999
  subst hv
  have e : nI m - nI k = nI (m - k) := by
    have := nI_add (m - k) k
    rw [show m - k + k = m by omega] at this
    rw [← this]
    exact Int32.add_sub_cancel _ _
  rw [e]
  have e2 : (nI (m - k)).toInt = ((m - k : Nat) : Int) := nI_toInt (by omega)
  rw [e2]
  omega
theorem al_tR {kd : am_kd} {rv : am_rv} {nl : Nat} {ln : Nat → am_N} {lk : Nat → Nat} {z0 y0 z1 y1 : Nat} {w u : am_iv} (h : bR kd rv nl ln lk z0 y0 z1 y1 0 w u) (ho : oR 0 w u) {v : Int32} {k : Nat} (h0 : 0 ≤ v) (h9 : v ≤ 999) (hk : k ≤ v.toNatClampNeg) : tR 1 1 2 nl z1 y1 ln lk (al_w v k w) (al_u v k u) := by
  have hv := al_v (k := 0) h0 h9 (Nat.zero_le _)
  rw [show v - nI 0 = v from Int32.sub_zero v] at hv
  have y := yR.zero h ho
  have y1 := y.add (by decide) 0 0 1 v 20 4 (ak_ok (by decide) hv)
  have y2 := y1.add (by decide) (-20) 0 1 (v - nI k) 20 4 (ak_ok (by decide) (al_v h0 h9 hk))
  exact y2.tR
theorem al_st {kd : am_kd} {rv : am_rv} {nl : Nat} {ln : Nat → am_N} {lk : Nat → Nat} {z0 y0 z1 y1 : Nat} {w u : am_iv} (h : bR kd rv nl ln lk z0 y0 z1 y1 0 w u) (ho : oR 0 w u) {v : Int32} {k : Nat} (h0 : 0 ≤ v) (h9 : v ≤ 999) (hk : k ≤ v.toNatClampNeg) {N : Nat} (hN : N < 1000) : 1 ≤ (al_s nl z1 ln lk N v k w).1 ↔ 1 ≤ (al_t nl y1 lk N v k u).1 := by
  obtain ⟨m, h1, h2, h3⟩ := turns_alike (al_tR h ho h0 h9 hk) 1 N (by decide) hN
  have h2 : (al_t nl y1 lk N v k u).1 = nI m := h2
  have h3 : (al_s nl z1 ln lk N v k w).1 = nI (min 1 m) := h3
  rw [h2, h3]
  have e : ∀ q, q < 2 ^ 31 → ((1 : Int32) ≤ nI q ↔ 1 ≤ q) := fun q hq => ⟨fun z => by
    rcases Nat.lt_or_ge q 1 with c | c
    · exact absurd z (nI_nge (b := 1) c (by decide))
    · exact c, fun z => nI_le z hq⟩
  rw [e _ (by omega), e _ (by omega)]
  omega
/-- the loops -/
noncomputable def al_f (a : Int32) (w : am_iv) : Int32 × am_iv := if 0 ≤ a then (a, w) else (-1000000002, er_heap 2 w)
noncomputable def al_c (S : Nat → am_iv → Int32 × am_iv) : Nat → Nat → Int32 → am_iv → Int32 × am_iv
  | 0, _, a, w => al_f a w
  | d + 1, k, a, w => if 1 ≤ (S k w).1 then al_c S d (k + 1) (nI k) (S k w).2 else al_f a (S k w).2
noncomputable def al_d (S : Nat → am_iv → Int32 × am_iv) (v : Int32) : Nat → Nat → am_iv → Int32 × am_iv
  | 0, _, u => (if 99 ≤ v then 99 else v, u)
  | d + 1, k, u => if 1 ≤ (S k u).1 then al_d S v d (k + 1) (S k u).2 else if nI k = 0 then (-1000000002, rx_find 2 (S k u).2) else (nI k - 1, (S k u).2)
/-- how many -/
def al_m (v : Nat) : Nat := min 99 v
theorem al_min {v : Int32} (h0 : 0 ≤ v) : (if v < 99 then v else 99) = nI (al_m v.toNatClampNeg) ∧ (if 99 ≤ v then 99 else v) = nI (al_m v.toNatClampNeg) := by
  have hv := nI_cl h0
  have hlt : v.toNatClampNeg < 2 ^ 31 := nI_clt v
  generalize v.toNatClampNeg = m at hv hlt
  subst hv
  unfold al_m
  rw [show (99 : Int32) = nI 99 from rfl]
  rcases Nat.lt_or_ge m 99 with c | c
  · rw [if_pos ((nI_ltn hlt (by decide)).mpr c : nI m < nI 99), if_neg (nI_nge (b := 99) c (by decide) : ¬ nI 99 ≤ nI m), show min 99 m = m by omega]
    exact ⟨rfl, rfl⟩
  · rw [if_neg (fun z => by have := (nI_ltn hlt (show 99 < 2 ^ 31 by decide)).mp z; omega), if_pos (nI_le c hlt : nI 99 ≤ nI m), show min 99 m = 99 by omega]
    exact ⟨rfl, rfl⟩
theorem al_end {m k : Nat} (hd : k + 0 = al_m m + 1) (h : ¬ (99 : Int32) < nI k) (hm : m < 2 ^ 31) : nI m < nI k := by
  unfold al_m at hd
  rcases Nat.lt_or_ge 99 k with c | c
  · exact absurd (nI_lt c (by omega)) h
  · exact nI_lt (by omega) (by omega)
set_option maxRecDepth 20000 in
theorem al_loop (l : Launch) {kd : am_kd} {rv : am_rv} (hS : sh kd rv) (nl z0 z1 : Nat) (ln : Nat → am_N) (lk : Nat → Nat) (y : Int32) (hy0 : 0 ≤ y) (hy9 : y ≤ 999) (N : Nat) (hN : N < 1000) (d : Nat) : ∀ (k : Nat) (a : Int32) (w : am_iv), sQ kd rv nl ln lk z0 z1 w → k + d = al_m y.toNatClampNeg + 1 → am_W l mX11_alike (am_rm 9 0 0) (am_ret (some (am_I (al_c (al_s nl z1 ln lk N y) d k a w).1)) kd rv (al_c (al_s nl z1 ln lk N y) d k a w).2) 49 [some (am_P (1, 0, 0)), some (am_I (nI N)), some (am_I y), some (am_I (nI (al_m y.toNatClampNeg))), some (am_I a), some (am_I (nI k))] [] kd rv w 0 0 := by
  induction d with
  | zero =>
    intro k a w hq hd
    have hm : al_m y.toNatClampNeg ≤ 99 := Nat.min_le_left _ _
    refine A_iload (pc := 49) (i := 5) dX11_alike_49 rfl ?_
    refine A_iload_n (pc := 51) (i := 3) dX11_alike_51 rfl rfl ?_
    refine A_icmpgt (pc := 52) 123 dX11_alike_52 (by decide) (fun hb52 => ?_) (fun hb52 => ?_)
    · refine A_iload (pc := 123) (i := 4) dX11_alike_123 rfl ?_
      refine A_ifge (pc := 125) 137 dX11_alike_125 (by decide) (fun hb125 => ?_) (fun hb125 => ?_)
      · refine A_iload (pc := 137) (i := 4) dX11_alike_137 rfl ?_
        rw [al_c, al_f, if_pos hb125]
        exact A_iretE (pc := 139) dX11_alike_139 rfl (Nat.zero_le _) (Nat.zero_le _) ((rfl)) ((rfl))
      · refine A_aload_n (pc := 128) (i := 0) dX11_alike_128 rfl rfl ?_
        refine A_ldc (pc := 129) (List.mem_cons_of_mem _ kc_X11_210) dX11_alike_129 ?_
        refine A_callV1 (pc := 131) cv_X11_61 (s_err2 l hS) hS.k1 rfl rfl rfl rfl (Nat.le_of_ble_eq_true rfl) ⟨(Nat.le_of_ble_eq_true rfl), (Nat.le_of_ble_eq_true rfl)⟩ ⟨Nat.zero_le _, Nat.zero_le _⟩ dX11_alike_131 ?_
        refine A_goto (pc := 134) 139 dX11_alike_134 (by decide) ?_
        rw [al_c, al_f, if_neg hb125]
        exact A_iretE (pc := 139) dX11_alike_139 rfl (Nat.zero_le _) (Nat.zero_le _) ((rfl)) ((rfl))
    · exact absurd ((nI_ltn (by omega) (by omega)).mpr (by omega)) hb52
  | succ d ih =>
    intro k a w hq hd
    have hm : al_m y.toNatClampNeg ≤ 99 := Nat.min_le_left _ _
    have hk : k ≤ y.toNatClampNeg := Nat.le_trans (show k ≤ al_m y.toNatClampNeg by omega) (Nat.min_le_right _ _)
    have hq2 : tQ 1 2 nl z1 ln lk (al_w y k w) := by
      obtain ⟨y0, y1, u, h1, h2⟩ := hq
      exact ⟨y1, _, al_tR h1 h2 hy0 hy9 hk⟩
    have hl := (hq.c (chB.al (v := y) (k := k))).laws
    refine A_iload (pc := 49) (i := 5) dX11_alike_49 rfl ?_
    refine A_iload_n (pc := 51) (i := 3) dX11_alike_51 rfl rfl ?_
    refine A_icmpgt (pc := 52) 123 dX11_alike_52 (by decide) (fun hb52 => ?_) (fun hb52 => ?_)
    · exact absurd ((nI_ltn (by omega) (by omega)).mp hb52) (by omega)
    · refine A_aload_n (pc := 55) (i := 0) dX11_alike_55 rfl rfl ?_
      refine A_getr (pc := 56) 1 fl_X11_16_11 hS.k1 rfl (hS.w1 (k := 1) (by decide)) dX11_alike_56 ?_
      refine A_iconst (pc := 59) (0) dX11_alike_59 (by decide) ?_
      refine A_puti (pc := 60) 1 fl_X11_244_4 (hS.k2 (by decide)) rfl (by decide +kernel) rfl rfl dX11_alike_60 ?_
      refine A_aload_n (pc := 63) (i := 0) dX11_alike_63 rfl rfl ?_
      refine A_getr (pc := 64) 1 fl_X11_16_11 hS.k1 rfl (hS.w1 (k := 1) (by decide)) dX11_alike_64 ?_
      refine A_iconst (pc := 67) (0) dX11_alike_67 (by decide) ?_
      refine A_iconst (pc := 68) (0) dX11_alike_68 (by decide) ?_
      refine A_iconst (pc := 69) (1) dX11_alike_69 (by decide) ?_
      refine A_iload_n (pc := 70) (i := 2) dX11_alike_70 rfl rfl ?_
      refine A_bipush (pc := 71) (20) dX11_alike_71 (by decide) ?_
      refine A_iconst (pc := 73) (4) dX11_alike_73 (by decide) ?_
      refine A_callV1 (pc := 74) cv_X11_70 (s_addRing l hS 1 (by decide) 0 (am_ui_s _ _ _ _) (by decide) _ _ _ _ _ _) (hS.k2 (by decide)) rfl rfl rfl rfl (Nat.le_of_ble_eq_true rfl) ⟨(Nat.le_of_ble_eq_true rfl), (Nat.le_of_ble_eq_true rfl)⟩ ⟨Nat.zero_le _, Nat.zero_le _⟩ dX11_alike_74 ?_
      refine A_pop (pc := 77) dX11_alike_77 rfl ?_
      refine A_aload_n (pc := 78) (i := 0) dX11_alike_78 rfl rfl ?_
      refine A_getr (pc := 79) 1 fl_X11_16_11 hS.k1 rfl (hS.w1 (k := 1) (by decide)) dX11_alike_79 ?_
      refine A_bipush (pc := 82) (-20) dX11_alike_82 (by decide) ?_
      refine A_iconst (pc := 84) (0) dX11_alike_84 (by decide) ?_
      refine A_iconst (pc := 85) (1) dX11_alike_85 (by decide) ?_
      refine A_iload_n (pc := 86) (i := 2) dX11_alike_86 rfl rfl ?_
      refine A_iload (pc := 87) (i := 5) dX11_alike_87 rfl ?_
      refine A_isub (pc := 89) dX11_alike_89 ?_
      refine A_bipush (pc := 90) (20) dX11_alike_90 (by decide) ?_
      refine A_iconst (pc := 92) (4) dX11_alike_92 (by decide) ?_
      refine A_callV1 (pc := 93) cv_X11_70 (s_addRing l hS 1 (by decide) 1 (am_ui_s _ _ _ _) (by decide) _ _ _ _ _ _) (hS.k2 (by decide)) rfl rfl rfl rfl (Nat.le_of_ble_eq_true rfl) ⟨(Nat.le_of_ble_eq_true rfl), (Nat.le_of_ble_eq_true rfl)⟩ ⟨Nat.zero_le _, Nat.zero_le _⟩ dX11_alike_93 ?_
      refine A_heap (iv' := al_w y k w) rfl ?_
      refine A_pop (pc := 96) dX11_alike_96 rfl ?_
      refine A_aload_n (pc := 97) (i := 0) dX11_alike_97 rfl rfl ?_
      refine A_getr (pc := 98) 1 fl_X11_16_11 hS.k1 rfl (hS.w1 (k := 1) (by decide)) dX11_alike_98 ?_
      refine A_iload_n (pc := 101) (i := 1) dX11_alike_101 rfl rfl ?_
      refine A_iconst (pc := 102) (1) dX11_alike_102 (by decide) ?_
      refine A_callV1 (pc := 103) cv_X11_223 (s_changes l hS 1 (by decide) nl ln lk hl 2 z1 _ tQ.cls (tQ.tick (by decide)) hq2 N (by omega) _) (hS.k2 (by decide)) rfl rfl rfl rfl (Nat.le_of_ble_eq_true rfl) ⟨(Nat.le_of_ble_eq_true rfl), (Nat.le_of_ble_eq_true rfl)⟩ ⟨Nat.zero_le _, Nat.zero_le _⟩ dX11_alike_103 ?_
      refine A_iconst (pc := 106) (1) dX11_alike_106 (by decide) ?_
      refine A_icmpge (pc := 107) 113 dX11_alike_107 (by decide) (fun hb107 => ?_) (fun hb107 => ?_)
      · refine A_iload (pc := 113) (i := 5) dX11_alike_113 rfl ?_
        refine A_ist4 (pc := 115) dX11_alike_115 (Nat.le_of_ble_eq_true rfl) rfl ?_
        refine A_inc5 (pc := 117) (nI (k + 1)) dX11_alike_117 (nI_1 k) (Nat.le_of_ble_eq_true rfl) rfl ?_
        refine A_goto (pc := 120) 49 dX11_alike_120 (by decide) ?_
        rw [al_c, if_pos (show 1 ≤ (al_s nl z1 ln lk N y k w).1 from hb107)]
        exact ih (k + 1) (nI k) _ (hq.c chB.als) (by omega)
      · refine A_goto (pc := 110) 123 dX11_alike_110 (by decide) ?_
        refine A_iload (pc := 123) (i := 4) dX11_alike_123 rfl ?_
        refine A_ifge (pc := 125) 137 dX11_alike_125 (by decide) (fun hb125 => ?_) (fun hb125 => ?_)
        · refine A_iload (pc := 137) (i := 4) dX11_alike_137 rfl ?_
          rw [al_c, if_neg (show ¬ 1 ≤ (al_s nl z1 ln lk N y k w).1 from hb107), al_f, if_pos hb125]
          exact A_iretE (pc := 139) dX11_alike_139 rfl (Nat.zero_le _) (Nat.zero_le _) ((rfl)) ((rfl))
        · refine A_aload_n (pc := 128) (i := 0) dX11_alike_128 rfl rfl ?_
          refine A_ldc (pc := 129) (List.mem_cons_of_mem _ kc_X11_210) dX11_alike_129 ?_
          refine A_callV1 (pc := 131) cv_X11_61 (s_err2 l hS) hS.k1 rfl rfl rfl rfl (Nat.le_of_ble_eq_true rfl) ⟨(Nat.le_of_ble_eq_true rfl), (Nat.le_of_ble_eq_true rfl)⟩ ⟨Nat.zero_le _, Nat.zero_le _⟩ dX11_alike_131 ?_
          refine A_goto (pc := 134) 139 dX11_alike_134 (by decide) ?_
          rw [al_c, if_neg (show ¬ 1 ≤ (al_s nl z1 ln lk N y k w).1 from hb107), al_f, if_neg hb125]
          exact A_iretE (pc := 139) dX11_alike_139 rfl (Nat.zero_le _) (Nat.zero_le _) ((rfl)) ((rfl))
noncomputable def c_alike (x y : Int32) (n nl z0 z1 zt zw : Nat) (ln : Nat → am_N) (lk : Nat → Nat) (rv : am_rv) (iv : am_iv) : Int32 × am_rv × am_iv := if sr_b (0 ≤ x ∧ x ≤ 60) = 0 then (-1000000001, rv, er_heap 1 iv) else if sr_b (0 ≤ y ∧ y ≤ 999) = 0 then (-1000000001, rv, er_heap 1 iv) else ((al_c (al_s nl z1 ln lk x.toNatClampNeg y) (al_m y.toNatClampNeg + 1) 0 (-1) (rb_heap 1 0 n z0 z1 zt zw iv)).1, (lw_cp 1 0 rv 6), (al_c (al_s nl z1 ln lk x.toNatClampNeg y) (al_m y.toNatClampNeg + 1) 0 (-1) (rb_heap 1 0 n z0 z1 zt zw iv)).2)
set_option maxRecDepth 20000 in
theorem p_alike (l : Launch) {kd : am_kd} {rv : am_rv} {iv : am_iv} (hS : sh kd rv) (x y : Int32) (n nl z0 z1 zt zw : Nat) (ln : Nat → am_N) (lk : Nat → Nat) (hA : AH kd rv n z0 z1 zt zw iv) (hl : rm_laws kd (lw_cp 1 0 rv 6) (rb_heap 1 0 n z0 z1 zt zw iv) 1 nl ln lk) (hq : tQ 1 n nl z1 ln lk (rb_heap 1 0 n z0 z1 zt zw iv)) (hs : sQ kd (lw_cp 1 0 rv 6) nl ln lk z0 z1 (rb_heap 1 0 n z0 z1 zt zw iv)) : am_Met l mX11_alike (am_rm 9 0 0) [am_P (1, 0, 0), am_I x, am_I y] kd rv iv (am_ret (some (am_I (c_alike x y n nl z0 z1 zt zw ln lk rv iv).1)) kd (c_alike x y n nl z0 z1 zt zw ln lk rv iv).2.1 (c_alike x y n nl z0 z1 zt zw ln lk rv iv).2.2) := by
  refine am_Met.of (by decide) (Nat.le_of_ble_eq_true rfl) rfl ?_
  have hn := hA.1.1
  have hn8 := hA.1.2.1
  refine A_iload_n (pc := 0) (i := 1) dX11_alike_0 rfl rfl ?_
  refine A_callS1 (pc := 1) cs_X11_211 (s_isAhead l _) rfl rfl (Nat.le_of_ble_eq_true rfl) ⟨(Nat.le_of_ble_eq_true rfl), (Nat.le_of_ble_eq_true rfl)⟩ ⟨Nat.zero_le _, Nat.zero_le _⟩ dX11_alike_1 ?_
  refine A_ifeq (pc := 4) 18 dX11_alike_4 (by decide) (fun hb4 => ?_) (fun hb4 => ?_)
  · refine A_aload_n (pc := 18) (i := 0) dX11_alike_18 rfl rfl ?_
    refine A_ldc (pc := 19) (List.mem_cons_of_mem _ kc_X11_60) dX11_alike_19 ?_
    refine A_callV1 (pc := 21) cv_X11_61 (s_err1 l hS) hS.k1 rfl rfl rfl rfl (Nat.le_of_ble_eq_true rfl) ⟨(Nat.le_of_ble_eq_true rfl), (Nat.le_of_ble_eq_true rfl)⟩ ⟨Nat.zero_le _, Nat.zero_le _⟩ dX11_alike_21 ?_
    rw [c_alike, if_pos hb4]
    exact A_iretE (pc := 24) dX11_alike_24 rfl (Nat.zero_le _) (Nat.zero_le _) ((rfl)) ((rfl))
  · refine A_iload_n (pc := 7) (i := 2) dX11_alike_7 rfl rfl ?_
    refine A_iconst (pc := 8) (0) dX11_alike_8 (by decide) ?_
    refine A_sipush (pc := 9) (999) dX11_alike_9 (by decide) ?_
    refine A_callS1 (pc := 12) cs_X11_56 (s_isHeld l _ _ _) rfl rfl (Nat.le_of_ble_eq_true rfl) ⟨(Nat.le_of_ble_eq_true rfl), (Nat.le_of_ble_eq_true rfl)⟩ ⟨Nat.zero_le _, Nat.zero_le _⟩ dX11_alike_12 ?_
    refine A_ifne (pc := 15) 25 dX11_alike_15 (by decide) (fun hb15 => ?_) (fun hb15 => ?_)
    · have hx := (sr_b_1 _).mp hb4
      have hy := (sr_b_1 _).mp hb15
      refine A_aload_n (pc := 25) (i := 0) dX11_alike_25 rfl rfl ?_
      refine A_getr (pc := 26) 1 fl_X11_16_11 hS.k1 rfl (hS.w1 (k := 1) (by decide)) dX11_alike_26 ?_
      refine A_aload_n (pc := 29) (i := 0) dX11_alike_29 rfl rfl ?_
      refine A_getr (pc := 30) 0 fl_X11_12_11 hS.k1 rfl (hS.w1 (k := 0) (by decide)) dX11_alike_30 ?_
      refine A_callV0 (pc := 33) cv_X11_220 (s_bec l hS hA) (hS.k2 (by decide)) rfl rfl rfl rfl (Nat.le_of_ble_eq_true rfl) ⟨(Nat.le_of_ble_eq_true rfl), (Nat.le_of_ble_eq_true rfl)⟩ ⟨Nat.zero_le _, Nat.zero_le _⟩ dX11_alike_33 ?_
      have hS := lw_cp_sh (i := 1) (o := 0) hS 6
      refine A_bipush (pc := 36) (99) dX11_alike_36 (by decide) ?_
      refine A_iload_n (pc := 38) (i := 2) dX11_alike_38 rfl rfl ?_
      refine A_mmin (pc := 39) cm_X11_250 (Nat.le_of_ble_eq_true rfl) (Nat.le_of_ble_eq_true rfl) (Nat.zero_le _) (Nat.zero_le _) dX11_alike_39 ?_
      refine A_top (al_min hy.1).1 ?_
      refine A_ist3 (pc := 42) dX11_alike_42 (Nat.le_of_ble_eq_true rfl) rfl ?_
      refine A_iconst (pc := 43) (-1) dX11_alike_43 (by decide) ?_
      refine A_ist4 (pc := 44) dX11_alike_44 (Nat.le_of_ble_eq_true rfl) rfl ?_
      refine A_iconst (pc := 46) (0) dX11_alike_46 (by decide) ?_
      refine A_ist5 (pc := 47) dX11_alike_47 (Nat.le_of_ble_eq_true rfl) rfl ?_
      rw [c_alike, if_neg hb4, if_neg hb15]
      have h9 := al_loop l hS nl z0 z1 ln lk y hy.1 hy.2 x.toNatClampNeg (Nat.lt_of_le_of_lt (ah60 hx) (by decide)) (al_m y.toNatClampNeg + 1) 0 (-1) (rb_heap 1 0 n z0 z1 zt zw iv) hs (Nat.zero_add _)
      rw [← nI_cl hx.1] at h9
      exact h9
    · refine A_aload_n (pc := 18) (i := 0) dX11_alike_18 rfl rfl ?_
      refine A_ldc (pc := 19) (List.mem_cons_of_mem _ kc_X11_60) dX11_alike_19 ?_
      refine A_callV1 (pc := 21) cv_X11_61 (s_err1 l hS) hS.k1 rfl rfl rfl rfl (Nat.le_of_ble_eq_true rfl) ⟨(Nat.le_of_ble_eq_true rfl), (Nat.le_of_ble_eq_true rfl)⟩ ⟨Nat.zero_le _, Nat.zero_le _⟩ dX11_alike_21 ?_
      rw [c_alike, if_neg hb4, if_pos hb15]
      exact A_iretE (pc := 24) dX11_alike_24 rfl (Nat.zero_le _) (Nat.zero_le _) ((rfl)) ((rfl))
set_option maxRecDepth 20000 in
theorem ar_loop (l : Launch) {kd : am_kd} {rv : am_rv} (hR : shr kd rv) (nl y0 z : Nat) (lk : Nat → Nat) (y : Int32) (hy0 : 0 ≤ y) (hy9 : y ≤ 999) (N : Nat) (hN : N < 1000) (d : Nat) : ∀ (k : Nat) (w : am_iv) (p1 p2 : Option am_V), vQ nl lk y0 z w → k + d = al_m y.toNatClampNeg + 1 → am_W l mX12_alike (am_rm 50 0 0) (am_ret (some (am_I (al_d (al_t nl z lk N y) y d k w).1)) kd rv (al_d (al_t nl z lk N y) y d k w).2) 27 [some (am_P (30, 0, 0)), some (am_I (nI N)), some (am_I y), some (am_I (nI k)), p1, p2] [] kd rv w 0 0 := by
  have eyv : y = nI y.toNatClampNeg := nI_cl hy0
  have hlt : y.toNatClampNeg < 2 ^ 31 := nI_clt y
  induction d with
  | zero =>
    intro k w p1 p2 hq hd
    have hm : al_m y.toNatClampNeg = min 99 y.toNatClampNeg := rfl
    refine A_iload_n (pc := 27) (i := 3) dX12_alike_27 rfl rfl ?_
    refine A_bipush (pc := 28) (99) dX12_alike_28 (by decide) ?_
    refine A_icmpgt (pc := 30) 126 dX12_alike_30 (by decide) (fun hb30 => ?_) (fun hb30 => ?_)
    · refine A_iload_n (pc := 126) (i := 2) dX12_alike_126 rfl rfl ?_
      refine A_bipush (pc := 127) (99) dX12_alike_127 (by decide) ?_
      refine A_icmpge (pc := 129) 136 dX12_alike_129 (by decide) (fun hb129 => ?_) (fun hb129 => ?_)
      · refine A_bipush (pc := 136) (99) dX12_alike_136 (by decide) ?_
        rw [al_d, if_pos hb129]
        exact A_iretE (pc := 138) dX12_alike_138 rfl (Nat.zero_le _) (Nat.zero_le _) ((rfl)) ((rfl))
      · refine A_iload_n (pc := 132) (i := 2) dX12_alike_132 rfl rfl ?_
        refine A_goto (pc := 133) 138 dX12_alike_133 (by decide) ?_
        rw [al_d, if_neg hb129]
        exact A_iretE (pc := 138) dX12_alike_138 rfl (Nat.zero_le _) (Nat.zero_le _) ((rfl)) ((rfl))
    · refine A_iload_n (pc := 33) (i := 3) dX12_alike_33 rfl rfl ?_
      refine A_iload_n (pc := 34) (i := 2) dX12_alike_34 rfl rfl ?_
      refine A_icmpgt (pc := 35) 126 dX12_alike_35 (by decide) (fun hb35 => ?_) (fun hb35 => ?_)
      · refine A_iload_n (pc := 126) (i := 2) dX12_alike_126 rfl rfl ?_
        refine A_bipush (pc := 127) (99) dX12_alike_127 (by decide) ?_
        refine A_icmpge (pc := 129) 136 dX12_alike_129 (by decide) (fun hb129 => ?_) (fun hb129 => ?_)
        · refine A_bipush (pc := 136) (99) dX12_alike_136 (by decide) ?_
          rw [al_d, if_pos hb129]
          exact A_iretE (pc := 138) dX12_alike_138 rfl (Nat.zero_le _) (Nat.zero_le _) ((rfl)) ((rfl))
        · refine A_iload_n (pc := 132) (i := 2) dX12_alike_132 rfl rfl ?_
          refine A_goto (pc := 133) 138 dX12_alike_133 (by decide) ?_
          rw [al_d, if_neg hb129]
          exact A_iretE (pc := 138) dX12_alike_138 rfl (Nat.zero_le _) (Nat.zero_le _) ((rfl)) ((rfl))
      · exact absurd (show y < nI k by rw [eyv]; exact al_end hd hb30 hlt) hb35
  | succ d ih =>
    intro k w p1 p2 hq hd
    have hm : al_m y.toNatClampNeg = min 99 y.toNatClampNeg := rfl
    have hk : k ≤ y.toNatClampNeg := by omega
    have hq2 : rQ 1 2 nl z lk (al_u y k w) := by
      obtain ⟨kd, rv, ln, z0, z1, v, h1, h2⟩ := hq
      exact ⟨z1, ln, _, al_tR h1 h2 hy0 hy9 hk⟩
    refine A_iload_n (pc := 27) (i := 3) dX12_alike_27 rfl rfl ?_
    refine A_bipush (pc := 28) (99) dX12_alike_28 (by decide) ?_
    refine A_icmpgt (pc := 30) 126 dX12_alike_30 (by decide) (fun hb30 => ?_) (fun hb30 => ?_)
    · exact absurd (show nI 99 < nI k from hb30) (nI_nlt (by omega) (by decide))
    · refine A_iload_n (pc := 33) (i := 3) dX12_alike_33 rfl rfl ?_
      refine A_iload_n (pc := 34) (i := 2) dX12_alike_34 rfl rfl ?_
      refine A_icmpgt (pc := 35) 126 dX12_alike_35 (by decide) (fun hb35 => ?_) (fun hb35 => ?_)
      · exact absurd ((nI_ltn (by omega) (by omega)).mp (eyv ▸ hb35 : nI (y.toNatClampNeg) < nI k)) (by omega)
      · refine A_aload_n (pc := 38) (i := 0) dX12_alike_38 rfl rfl ?_
        refine A_getr (pc := 39) 0 fl_X12_7_12 hR.1 rfl hR.w0 dX12_alike_39 ?_
        refine A_aload_n (pc := 42) (i := 0) dX12_alike_42 rfl rfl ?_
        refine A_getr (pc := 43) 1 fl_X12_13_12 hR.1 rfl hR.w1 dX12_alike_43 ?_
        refine A_callS0 (pc := 46) cs_X12_240 (r_copies l (31, 0, 0) (31, 1, 0) hR.k0 hR.k1 (by simp)) rfl rfl (Nat.le_of_ble_eq_true rfl) ⟨(Nat.le_of_ble_eq_true rfl), (Nat.le_of_ble_eq_true rfl)⟩ ⟨Nat.zero_le _, Nat.zero_le _⟩ dX12_alike_46 ?_
        refine A_aload_n (pc := 49) (i := 0) dX12_alike_49 rfl rfl ?_
        refine A_getr (pc := 50) 1 fl_X12_13_12 hR.1 rfl hR.w1 dX12_alike_50 ?_
        refine A_iconst (pc := 53) (1) dX12_alike_53 (by decide) ?_
        refine A_iconst (pc := 54) (0) dX12_alike_54 (by decide) ?_
        refine A_iastN (pc := 55) hR.k1 (show 1 < 300 by decide) (by decide) dX12_alike_55 ?_
        refine A_aload_n (pc := 56) (i := 0) dX12_alike_56 rfl rfl ?_
        refine A_getr (pc := 57) 1 fl_X12_13_12 hR.1 rfl hR.w1 dX12_alike_57 ?_
        refine A_iconst (pc := 60) (0) dX12_alike_60 (by decide) ?_
        refine A_iconst (pc := 61) (0) dX12_alike_61 (by decide) ?_
        refine A_iconst (pc := 62) (1) dX12_alike_62 (by decide) ?_
        refine A_iload_n (pc := 63) (i := 2) dX12_alike_63 rfl rfl ?_
        refine A_bipush (pc := 64) (20) dX12_alike_64 (by decide) ?_
        refine A_iconst (pc := 66) (4) dX12_alike_66 (by decide) ?_
        refine A_callS1 (pc := 67) cs_X12_69 (r_adds l (31, 1, 0) hR.k1 0 (am_ui_s _ _ _ _) (by decide) _ _ _ _ _ _) rfl rfl (Nat.le_of_ble_eq_true rfl) ⟨(Nat.le_of_ble_eq_true rfl), (Nat.le_of_ble_eq_true rfl)⟩ ⟨Nat.zero_le _, Nat.zero_le _⟩ dX12_alike_67 ?_
        refine A_ist4 (pc := 70) dX12_alike_70 (Nat.le_of_ble_eq_true rfl) rfl ?_
        refine A_aload_n (pc := 72) (i := 0) dX12_alike_72 rfl rfl ?_
        refine A_getr (pc := 73) 1 fl_X12_13_12 hR.1 rfl hR.w1 dX12_alike_73 ?_
        refine A_bipush (pc := 76) (-20) dX12_alike_76 (by decide) ?_
        refine A_iconst (pc := 78) (0) dX12_alike_78 (by decide) ?_
        refine A_iconst (pc := 79) (1) dX12_alike_79 (by decide) ?_
        refine A_iload_n (pc := 80) (i := 2) dX12_alike_80 rfl rfl ?_
        refine A_iload_n (pc := 81) (i := 3) dX12_alike_81 rfl rfl ?_
        refine A_isub (pc := 82) dX12_alike_82 ?_
        refine A_bipush (pc := 83) (20) dX12_alike_83 (by decide) ?_
        refine A_iconst (pc := 85) (4) dX12_alike_85 (by decide) ?_
        refine A_callS1 (pc := 86) cs_X12_69 (r_adds l (31, 1, 0) hR.k1 1 (am_ui_s _ _ _ _) (by decide) _ _ _ _ _ _) rfl rfl (Nat.le_of_ble_eq_true rfl) ⟨(Nat.le_of_ble_eq_true rfl), (Nat.le_of_ble_eq_true rfl)⟩ ⟨Nat.zero_le _, Nat.zero_le _⟩ dX12_alike_86 ?_
        refine A_heap (iv' := al_u y k w) rfl ?_
        refine A_ist5 (pc := 89) dX12_alike_89 (Nat.le_of_ble_eq_true rfl) rfl ?_
        refine A_aload_n (pc := 91) (i := 0) dX12_alike_91 rfl rfl ?_
        refine A_aload_n (pc := 92) (i := 0) dX12_alike_92 rfl rfl ?_
        refine A_getr (pc := 93) 1 fl_X12_13_12 hR.1 rfl hR.w1 dX12_alike_93 ?_
        refine A_iload_n (pc := 96) (i := 1) dX12_alike_96 rfl rfl ?_
        refine A_callV1 (pc := 97) cv_X12_254 (r_turnsIn l hR 1 (by decide) hR.k1 2 nl z lk _ rQ.ref (rQ.tick (by decide)) hq2 N (by omega)) hR.1 rfl rfl rfl rfl (Nat.le_of_ble_eq_true rfl) ⟨(Nat.le_of_ble_eq_true rfl), (Nat.le_of_ble_eq_true rfl)⟩ ⟨Nat.zero_le _, Nat.zero_le _⟩ dX12_alike_97 ?_
        refine A_iconst (pc := 100) (1) dX12_alike_100 (by decide) ?_
        refine A_icmpge (pc := 101) 120 dX12_alike_101 (by decide) (fun hb101 => ?_) (fun hb101 => ?_)
        · refine A_inc3 (pc := 120) (nI (k + 1)) dX12_alike_120 (nI_1 k) (Nat.le_of_ble_eq_true rfl) rfl ?_
          refine A_goto (pc := 123) 27 dX12_alike_123 (by decide) ?_
          rw [al_d, if_pos (show 1 ≤ (al_t nl z lk N y k w).1 from hb101)]
          exact ih (k + 1) _ _ _ (hq.c chU.alt.V1) (by omega)
        · refine A_iload_n (pc := 104) (i := 3) dX12_alike_104 rfl rfl ?_
          refine A_ifne (pc := 105) 116 dX12_alike_105 (by decide) (fun hb105 => ?_) (fun hb105 => ?_)
          · refine A_iload_n (pc := 116) (i := 3) dX12_alike_116 rfl rfl ?_
            refine A_iconst (pc := 117) (1) dX12_alike_117 (by decide) ?_
            refine A_isub (pc := 118) dX12_alike_118 ?_
            rw [al_d, if_neg (show ¬ 1 ≤ (al_t nl z lk N y k w).1 from hb101), if_neg hb105]
            exact A_iretE (pc := 119) dX12_alike_119 rfl (Nat.zero_le _) (Nat.zero_le _) ((rfl)) ((rfl))
          · refine A_aload_n (pc := 108) (i := 0) dX12_alike_108 rfl rfl ?_
            refine A_iconst (pc := 109) (2) dX12_alike_109 (by decide) ?_
            refine A_callV1 (pc := 110) cv_X12_65 (r_fnd2 l hR) hR.1 rfl rfl rfl rfl (Nat.le_of_ble_eq_true rfl) ⟨(Nat.le_of_ble_eq_true rfl), (Nat.le_of_ble_eq_true rfl)⟩ ⟨Nat.zero_le _, Nat.zero_le _⟩ dX12_alike_110 ?_
            refine A_goto (pc := 113) 119 dX12_alike_113 (by decide) ?_
            rw [al_d, if_neg (show ¬ 1 ≤ (al_t nl z lk N y k w).1 from hb101), if_pos hb105]
            exact A_iretE (pc := 119) dX12_alike_119 rfl (Nat.zero_le _) (Nat.zero_le _) ((rfl)) ((rfl))
noncomputable def d_alike (x y : Int32) (n nl z : Nat) (lk : Nat → Nat) (iv : am_iv) : Int32 × am_iv := if sr_b (0 ≤ x ∧ x ≤ 60) = 0 then (-1000000001, rx_find 1 iv) else if sr_b (0 ≤ y ∧ y ≤ 999) = 0 then (-1000000001, rx_find 1 iv) else (al_d (al_t nl z lk x.toNatClampNeg y) y (al_m y.toNatClampNeg + 1) 0 iv)
set_option maxRecDepth 20000 in
theorem q_alike (l : Launch) {kd : am_kd} {rv : am_rv} {iv : am_iv} (hR : shr kd rv) (x y : Int32) (n nl z : Nat) (lk : Nat → Nat) (hn : iv (31, 0, 0) 1 = nI n) (hn8 : n ≤ 8) (hq : rQ 1 n nl z lk (rx_cp (31, 0, 0) (31, 1, 0) iv 300)) (y0 : Nat) (hv : vQ nl lk y0 z iv) : am_Met l mX12_alike (am_rm 50 0 0) [am_P (30, 0, 0), am_I x, am_I y] kd rv iv (am_ret (some (am_I (d_alike x y n nl z lk iv).1)) kd rv (d_alike x y n nl z lk iv).2) := by
  refine am_Met.of (by decide) (Nat.le_of_ble_eq_true rfl) rfl ?_
  refine A_iload_n (pc := 0) (i := 1) dX12_alike_0 rfl rfl ?_
  refine A_callS1 (pc := 1) cs_X12_244 (r_isAhead l _) rfl rfl (Nat.le_of_ble_eq_true rfl) ⟨(Nat.le_of_ble_eq_true rfl), (Nat.le_of_ble_eq_true rfl)⟩ ⟨Nat.zero_le _, Nat.zero_le _⟩ dX12_alike_1 ?_
  refine A_ifeq (pc := 4) 19 dX12_alike_4 (by decide) (fun hb4 => ?_) (fun hb4 => ?_)
  · refine A_aload_n (pc := 19) (i := 0) dX12_alike_19 rfl rfl ?_
    refine A_iconst (pc := 20) (1) dX12_alike_20 (by decide) ?_
    refine A_callV1 (pc := 21) cv_X12_65 (r_fnd1 l hR) hR.1 rfl rfl rfl rfl (Nat.le_of_ble_eq_true rfl) ⟨(Nat.le_of_ble_eq_true rfl), (Nat.le_of_ble_eq_true rfl)⟩ ⟨Nat.zero_le _, Nat.zero_le _⟩ dX12_alike_21 ?_
    exact A_iretE (pc := 24) dX12_alike_24 rfl (Nat.zero_le _) (Nat.zero_le _) (by rw [d_alike, if_pos hb4]) (by rw [d_alike, if_pos hb4])
  · refine A_iload_n (pc := 7) (i := 2) dX12_alike_7 rfl rfl ?_
    refine A_i2l (pc := 8) dX12_alike_8 ?_
    refine A_lconst (pc := 9) (0) dX12_alike_9 (by decide) ?_
    refine A_topJ (y := Int32.toInt64 (0)) (by decide +kernel) ?_
    refine A_ldc2 (pc := 10) (List.mem_cons_of_mem _ kc_X12_59) dX12_alike_10 ?_
    refine A_topJ (y := Int32.toInt64 (999)) (by decide +kernel) ?_
    refine A_callS1 (pc := 13) cs_X12_48 (r_in l _ _ _) rfl rfl (Nat.le_of_ble_eq_true rfl) ⟨(Nat.le_of_ble_eq_true rfl), (Nat.le_of_ble_eq_true rfl)⟩ ⟨Nat.zero_le _, Nat.zero_le _⟩ dX12_alike_13 ?_
    refine A_ifne (pc := 16) 25 dX12_alike_16 (by decide) (fun hb16 => ?_) (fun hb16 => ?_)
    · have hx := (sr_b_1 _).mp hb4
      have hy := (sr_b_1 _).mp hb16
      refine A_iconst (pc := 25) (0) dX12_alike_25 (by decide) ?_
      refine A_ist3 (pc := 26) dX12_alike_26 (Nat.le_of_ble_eq_true rfl) rfl ?_
      rw [show (d_alike x y n nl z lk iv) = (al_d (al_t nl z lk x.toNatClampNeg y) y (al_m y.toNatClampNeg + 1) 0 iv) from by rw [d_alike, if_neg hb4, if_neg hb16]]
      have h9 := ar_loop l hR nl y0 z lk y hy.1 hy.2 x.toNatClampNeg (Nat.lt_of_le_of_lt (ah60 hx) (by decide)) (al_m y.toNatClampNeg + 1) 0 iv none none hv (Nat.zero_add _)
      rw [← nI_cl hx.1] at h9
      exact h9
    · refine A_aload_n (pc := 19) (i := 0) dX12_alike_19 rfl rfl ?_
      refine A_iconst (pc := 20) (1) dX12_alike_20 (by decide) ?_
      refine A_callV1 (pc := 21) cv_X12_65 (r_fnd1 l hR) hR.1 rfl rfl rfl rfl (Nat.le_of_ble_eq_true rfl) ⟨(Nat.le_of_ble_eq_true rfl), (Nat.le_of_ble_eq_true rfl)⟩ ⟨Nat.zero_le _, Nat.zero_le _⟩ dX12_alike_21 ?_
      exact A_iretE (pc := 24) dX12_alike_24 rfl (Nat.zero_le _) (Nat.zero_le _) (by rw [d_alike, if_neg hb4, if_pos hb16]) (by rw [d_alike, if_neg hb4, if_pos hb16])
theorem alike_same {kd : am_kd} {rv : am_rv} {nl : Nat} {ln : Nat → am_N} {lk : Nat → Nat} {z0 y0 z1 y1 : Nat} {v : Int32} (h0 : 0 ≤ v) (h9 : v ≤ 999) {N : Nat} (hN : N < 1000) (d : Nat) : ∀ (k : Nat) (w u : am_iv), bR kd rv nl ln lk z0 y0 z1 y1 0 w u → oR 0 w u → k + d = al_m v.toNatClampNeg + 1 → (1 ≤ k ∨ 1 ≤ d) → same1 w u (al_c (al_s nl z1 ln lk N v) d k (nI k - 1) w) (al_d (al_t nl y1 lk N v) v d k u) := by
  have hm : al_m v.toNatClampNeg = min 99 v.toNatClampNeg := rfl
  induction d with
  | zero =>
    intro k w u h ho hd h1
    rw [al_c, al_d, al_f, nI_m1 (by omega), if_pos (nI_pos' (by omega)), (al_min h0).2]
    exact same1.ok (by rw [show k - 1 = al_m v.toNatClampNeg by omega]) (chT.rf _) (chV.rf _)
  | succ d ih =>
    intro k w u h ho hd h1
    have hs := al_st h ho h0 h9 (show k ≤ v.toNatClampNeg by omega) hN
    by_cases c : 1 ≤ (al_s nl z1 ln lk N v k w).1
    · rw [al_c, if_pos c, al_d, if_pos (hs.mp c)]
      have i2 := ih (k + 1) (al_s nl z1 ln lk N v k w).2 (al_t nl y1 lk N v k u).2 ((h.cw chB.als).cV chU.alt.V1) ((ho.cw chB.als).cV chU.alt.V1) (by omega) (Or.inl (by omega))
      rw [nI_m1 (by omega)] at i2
      exact i2.st chg.als.T1 chU.alt.V1
    · rw [al_c, if_neg c, al_d, if_neg (fun z => c (hs.mpr z)), al_f]
      by_cases c2 : k = 0
      · subst c2
        rw [if_neg (by decide), if_pos nI_0]
        exact same1.err _ 2 (by decide) chg.als.T1 chU.alt.V1
      · rw [if_neg (nI_ne0 (by omega) (by omega)), nI_m1 (by omega), if_pos (nI_pos' (by omega))]
        exact same1.ok rfl chg.als.T1 chU.alt.V1
theorem call_alike (l : Launch) {kd : am_kd} {rv : am_rv} {iv : am_iv} (h : REL kd rv iv iv) (x : Int32) (y : Int32) : CALL l kd rv iv mX11_alike mX12_alike [am_I x, am_I y] := by
  obtain ⟨n, nl, ln, lk, z0, y0, z1, y1, zt, zw, hX⟩ := h.n
  have hA := hX.AH h.1
  have hn8 := hX.1.1.2.2
  have hB := hX.b0 (h.z (i := 1) (by decide))
  have hl := hB.1.laws
  have hq : tQ 1 n nl z1 ln lk (rb_heap 1 0 n z0 z1 zt zw iv) := ⟨y1, _, ah_tR hX (h.z (i := 1) (by decide))⟩
  refine CALL.fs (d2 := 50) h (c_alike x y n nl z0 z1 zt zw ln lk rv iv) (d_alike x y n nl y1 lk) (p_alike l h.S x y n nl z0 z1 zt zw ln lk hA hl hq ⟨_, _, _, hB.1, hB.2.1⟩) (fun hR h1 eu => ?_) (by decide) (by decide) (fun u hu eu => ?_)
  · have hX := hX.u eu
    have hq : rQ 1 n nl y1 lk (rx_cp (31, 0, 0) (31, 1, 0) _ 300) := ⟨z1, ln, _, ah_tR hX (h.z (i := 1) (by decide))⟩
    have hb := hX.b0 (h.z (i := 1) (by decide))
    exact q_alike l hR x y n nl y1 lk hX.1.1.2.1 hn8 hq y0 ⟨_, _, _, _, _, _, hb.1, hb.2.1⟩
  · have hX := hX.u eu
    have hz := hu.z (i := 1) (by decide)
    have hT := ah_tR hX hz
    have hb := hX.b0 hz
    unfold c_alike d_alike
    by_cases c0 : sr_b (0 ≤ x ∧ x ≤ 60) = 0
    · rw [if_pos c0, if_pos c0]; exact SM.err hu _ 1 (by decide)
    · rw [if_neg c0, if_neg c0]
      by_cases c1 : sr_b (0 ≤ y ∧ y ≤ 999) = 0
      · rw [if_pos c1, if_pos c1]; exact SM.err hu _ 1 (by decide)
      · rw [if_neg c1, if_neg c1]
        have hx := ah60 ((sr_b_1 _).mp c0)
        have hy := (sr_b_1 _).mp c1
        exact SM.of hu ((alike_same hy.1 hy.2 (by omega) _ 0 _ _ hb.1 hb.2.1 (Nat.zero_add _) (Or.inr (by omega))).st chg.rb.T1 (chV.rf _))
