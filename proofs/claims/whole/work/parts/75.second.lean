/-- the rings that every try begins with: room 2 against row 2 -/
def eR (kd : am_kd) (rv : am_rv) (nl : Nat) (ln : Nat → am_N) (lk : Nat → Nat) (z0 y0 z1 y1 n : Nat) (w u : am_iv) : Prop := (bR kd rv nl ln lk z0 y0 z1 y1 2 w u ∧ oR 2 w u) ∧ rR_n 2 2 n w u ∧ rR_r 2 2 n w u
theorem trv_1 {i o n : Nat} {w : am_iv} : tr_heap i o n w (2, i, 0) 1 = nI n := by
  unfold tr_heap
  rw [tr_cp_o (by simp), am_ui_s]
theorem trv_4 {i o n : Nat} (hio : o ≠ i) {w : am_iv} {r k : Nat} (hr : r < n) (h1 : 1 ≤ k) (h7 : k ≤ 7) : tr_heap i o n w (4, i, r) k = w (4, o, r) k := by
  unfold tr_heap
  rw [tr_cp_v hio h1 h7 n hr, am_ui_o (by simp)]
theorem eR.y {kd : am_kd} {rv : am_rv} {nl : Nat} {ln : Nat → am_N} {lk : Nat → Nat} {z0 y0 z1 y1 : Nat} {n : Nat} {w u : am_iv} (h : eR kd rv nl ln lk z0 y0 z1 y1 n w u) : yR kd rv nl ln lk z0 y0 z1 y1 n (tr_heap 1 2 n w) (rx_cp (31, 2, 0) (31, 1, 0) u 300) := by
  obtain ⟨⟨h1, h2⟩, ⟨a1, a2, a3⟩, b1, b2⟩ := h
  refine ⟨⟨(h1.cp (b := 1) (by decide)).cw (chB.tr_ (Or.inl rfl)), (h2.cp (b := 1)).cw (chB.tr_ (Or.inl rfl))⟩, ⟨trv_1, (rx_cp_v (by decide)).trans a2, a3⟩, fun r hr k q1 q7 => ?_, fun r hr => rok_f (b2 r hr) (fun k q1 q7 => trv_4 (by decide) hr q1 q7)⟩
  rw [trv_4 (by decide) hr q1 q7, rx_cp_v (by omega)]
  exact b1 r hr k q1 q7
theorem eR.c {kd : am_kd} {rv : am_rv} {nl : Nat} {ln : Nat → am_N} {lk : Nat → Nat} {z0 y0 z1 y1 : Nat} {n : Nat} {w u w' u' : am_iv} (h : eR kd rv nl ln lk z0 y0 z1 y1 n w u) (hw : chB w w') (h2 : chg 1 w w') (hu : chU 1 u u') : eR kd rv nl ln lk z0 y0 z1 y1 n w' u' := by
  obtain ⟨⟨h1, ho⟩, ⟨a1, a2, a3⟩, b1, b2⟩ := h
  have eu : ∀ k, u' (31, 2, 0) k = u (31, 2, 0) k := fun k => hu _ _ (by simp) (by simp) (by simp) (by simp)
  have e0 : ∀ k, u' (31, 0, 0) k = u (31, 0, 0) k := fun k => hu _ _ (by simp) (by simp) (by simp) (by simp)
  have ew : ∀ r k, w' (4, 2, r) k = w (4, 2, r) k := fun r k => h2 _ _ (Or.inl (fun e => by have := e.2.2; simp at this))
  refine ⟨⟨(h1.cw hw).cu (fun k _ _ _ _ => eu k) (fun k _ _ => e0 k), (ho.cw hw).trans (eu 3).symm⟩, ⟨(h2 _ _ (Or.inl (fun e => by have := e.2.2; simp at this))).trans a1, (eu 1).trans a2, a3⟩, fun r hr k q1 q7 => ?_, fun r hr => rok_f (b2 r hr) (fun k _ _ => ew r k)⟩
  rw [ew, eu]
  exact b1 r hr k q1 q7
def se_w (n z0 : Nat) (t : Int32) (q : Nat) (w : am_iv) : am_iv := as_heap 1 n z0 t (nI q) (tr_heap 1 2 n w)
def se_u (n y0 : Nat) (t : Int32) (q : Nat) (u : am_iv) : am_iv := rs_heap 1 n y0 t (nI q) (rx_cp (31, 2, 0) (31, 1, 0) u 300)
noncomputable def se_s (n nl z0 z1 : Nat) (ln : Nat → am_N) (lk : Nat → Nat) (N : Nat) (t : Int32) (q : Nat) (w : am_iv) : Int32 × am_iv := cf (rm_tick 1 (n + 1) z1 nl ln lk) (fun w => rm_front (fun r => w (4, 1, r)) (n + 1)) 2 N 0 (rm_front (fun r => se_w n z0 t q w (4, 1, r)) (n + 1)) (se_w n z0 t q w)
noncomputable def se_t (n nl y0 z : Nat) (lk : Nat → Nat) (N : Nat) (t : Int32) (q : Nat) (u : am_iv) : Int32 × am_iv := tf (rt_tick 1 (n + 1) nl z lk) (fun w => rm_front (fun r => rf w (31, 1, 0) r) (n + 1)) N 0 (rm_front (fun r => rf (se_u n y0 t q u) (31, 1, 0) r) (n + 1)) (se_u n y0 t q u)
theorem chB.ses {n nl z0 z1 : Nat} {ln : Nat → am_N} {lk : Nat → Nat} {N : Nat} {t : Int32} {q : Nat} {w : am_iv} : chB w (se_s n nl z0 z1 ln lk N t q w).2 := ((chB.tr_ (Or.inl rfl)).tr chB.as).tr (chB.cff (fun w => chB.tick) _ _ _ _)
theorem chg.ses {n nl z0 z1 : Nat} {ln : Nat → am_N} {lk : Nat → Nat} {N : Nat} {t : Int32} {q : Nat} {w : am_iv} : chg 1 w (se_s n nl z0 z1 ln lk N t q w).2 := (chg.trh.tr chg.as).tr (chg.cff (fun w => chg.tick) _ _ _ _)
theorem chU.set_ {n nl y0 z : Nat} {lk : Nat → Nat} {N : Nat} {t : Int32} {q : Nat} {u : am_iv} : chU 1 u (se_t n nl y0 z lk N t q u).2 := (chU.cp.tr chU.rs).tr (chU.tff (fun w => chU.tick) _ _ _ _)
theorem se_tR {kd : am_kd} {rv : am_rv} {nl : Nat} {ln : Nat → am_N} {lk : Nat → Nat} {z0 y0 z1 y1 : Nat} {n : Nat} {w u : am_iv} (h : eR kd rv nl ln lk z0 y0 z1 y1 n w u) (hn7 : n < 8) (t : Int32) (q : Nat) : tR 1 1 (n + 1) nl z1 y1 ln lk (se_w n z0 t q w) (se_u n y0 t q u) := (h.y.stroke hn7 t (nI q)).tR
theorem se_st {kd : am_kd} {rv : am_rv} {nl : Nat} {ln : Nat → am_N} {lk : Nat → Nat} {z0 y0 z1 y1 : Nat} {n : Nat} {w u : am_iv} (h : eR kd rv nl ln lk z0 y0 z1 y1 n w u) (hn7 : n < 8) (t : Int32) (q : Nat) {N : Nat} (hN : N < 1000) : (se_s n nl z0 z1 ln lk N t q w).1 < 2 ↔ (se_t n nl y0 y1 lk N t q u).1 < 2 := by
  obtain ⟨m, h1, h2, h3⟩ := turns_alike (se_tR h hn7 t q) 2 N (by decide) hN
  have h2 : (se_t n nl y0 y1 lk N t q u).1 = nI m := h2
  have h3 : (se_s n nl z0 z1 ln lk N t q w).1 = nI (min 2 m) := h3
  rw [h2, h3]
  have e : ∀ q, q < 2 ^ 31 → (nI q < (2 : Int32) ↔ q < 2) := fun q hq => nI_ltn (b := 2) hq (by decide)
  rw [e _ (by omega), e _ (by omega)]
  omega
noncomputable def se_c (S : Nat → am_iv → Int32 × am_iv) (E : am_iv → am_iv) : Nat → Nat → am_iv → Int32 × am_iv
  | 0, _, w => (-1000000002, E w)
  | d + 1, q, w => if (S q w).1 < 2 then se_c S E d (q + 1) (S q w).2 else (nI q, (S q w).2)
theorem second_same {kd : am_kd} {rv : am_rv} {nl : Nat} {ln : Nat → am_N} {lk : Nat → Nat} {z0 y0 z1 y1 : Nat} {n : Nat} (hn7 : n < 8) (t : Int32) {N : Nat} (hN : N < 1000) (d : Nat) : ∀ (q : Nat) (w u : am_iv), eR kd rv nl ln lk z0 y0 z1 y1 n w u → same1 w u (se_c (se_s n nl z0 z1 ln lk N t) (er_heap 2) d q w) (se_c (se_t n nl y0 y1 lk N t) (rx_find 2) d q u) := by
  induction d with
  | zero => intro q w u h; exact same1.err _ 2 (by decide) (chT.rf _) (chV.rf _)
  | succ d ih =>
    intro q w u h
    have hs := se_st h hn7 t q hN
    by_cases c : (se_s n nl z0 z1 ln lk N t q w).1 < 2
    · rw [se_c, if_pos c, se_c, if_pos (hs.mp c)]
      exact (ih (q + 1) _ _ (h.c chB.ses chg.ses chU.set_)).st chg.ses.T1 chU.set_.V1
    · rw [se_c, if_neg c, se_c, if_neg (fun z => c (hs.mpr z))]
      exact same1.ok rfl chg.ses.T1 chU.set_.V1
def seQ (kd : am_kd) (rv : am_rv) (nl : Nat) (ln : Nat → am_N) (lk : Nat → Nat) (z0 z1 n : Nat) (w : am_iv) : Prop := ∃ y0 y1 u, eR kd rv nl ln lk z0 y0 z1 y1 n w u
def svQ (nl : Nat) (lk : Nat → Nat) (y0 y1 n : Nat) (u : am_iv) : Prop := ∃ kd rv ln z0 z1 w, eR kd rv nl ln lk z0 y0 z1 y1 n w u
theorem seQ.c {kd : am_kd} {rv : am_rv} {nl : Nat} {ln : Nat → am_N} {lk : Nat → Nat} {z0 z1 n : Nat} {w w' : am_iv} (h : seQ kd rv nl ln lk z0 z1 n w) (hw : chB w w') (h2 : chg 1 w w') : seQ kd rv nl ln lk z0 z1 n w' := by
  obtain ⟨y0, y1, u, h⟩ := h
  exact ⟨y0, y1, u, h.c hw h2 (chU.rf _ _)⟩
theorem svQ.c {nl : Nat} {lk : Nat → Nat} {y0 y1 n : Nat} {u u' : am_iv} (h : svQ nl lk y0 y1 n u) (hu : chU 1 u u') : svQ nl lk y0 y1 n u' := by
  obtain ⟨kd, rv, ln, z0, z1, w, h⟩ := h
  exact ⟨kd, rv, ln, z0, z1, w, h.c (chB.rf _) (chg.rf _ _) hu⟩
/-- ticks leave a row's laws -/
theorem it_k {a n nl z : Nat} {lk : Nat → Nat} (hn : n ≤ 8) (ha : a < 3) {k : Nat} (h0 : k ≠ 0) (h80 : k < 80) (N : Nat) : ∀ u, it (rt_tick a n nl z lk) N u (31, a, 0) k = u (31, a, 0) k := by
  induction N with
  | zero => intro u; rfl
  | succ N ih => intro u; exact (ih _).trans (rt_tick_o hn ⟨fun q => by omega, by simp, by simp; omega⟩ (by simp; omega) (fun q => h0 q.2))
/-- how the tries begin -/
theorem se_start {kd : am_kd} {rv : am_rv} {n nl : Nat} {ln : Nat → am_N} {lk : Nat → Nat} {z0 y0 z1 y1 zt zw : Nat} {w u : am_iv} (h : rX kd rv 0 0 n nl ln lk z0 y0 z1 y1 zt zw w u) (h0 : ∀ r, r < 8 → w (4, 1, r) 0 = nI r ∧ w (6, 1, r) 0 = nI r) (N : Nat) : eR kd (lw_cp 1 0 rv 6) nl ln lk z0 y0 z1 y1 n (tr_heap 2 1 n (it (rm_tick 1 n z1 nl ln lk) N (rb_heap 1 0 n z0 z1 zt zw w))) (it (rt_tick 2 n nl y1 lk) N (rx_cp (31, 0, 0) (31, 2, 0) u 300)) ∧ tR 1 2 n nl z1 y1 ln lk (rb_heap 1 0 n z0 z1 zt zw w) (rx_cp (31, 0, 0) (31, 2, 0) u 300) := by
  obtain ⟨h1, h2, h3, h4⟩ := h.b0 h0
  have hn8 := h.1.1.2.2
  have b2 := h1.cp (b := 2) (by decide)
  have o2 : oR 2 _ _ := h2.cp (b := 2)
  have t := b2.tR o2 h3.cp (h4.cp hn8)
  have ti := t.it (by decide) N
  have hw : chB (rb_heap 1 0 n z0 z1 zt zw w) (tr_heap 2 1 n (it (rm_tick 1 n z1 nl ln lk) N (rb_heap 1 0 n z0 z1 zt zw w))) := (chB.itt (fun w => chB.tick) N _).tr (chB.tr_ (Or.inr rfl))
  have hu : chU 2 (rx_cp (31, 0, 0) (31, 2, 0) u 300) (it (rt_tick 2 n nl y1 lk) N (rx_cp (31, 0, 0) (31, 2, 0) u 300)) := chU.itt (fun w => chU.tick) N _
  refine ⟨⟨⟨(b2.cw hw).cu (fun k h2 _ _ h8 => it_k hn8 (by decide) (by omega) h8 N _) (fun k _ _ => hu _ _ (by simp) (by simp) (by simp) (by simp)), (o2.cw hw).trans (it_k hn8 (by decide) (by decide) (by decide) N _).symm⟩, ⟨trv_1, ti.2.2.1.1, hn8⟩, fun r hr k q1 q7 => ?_, fun r hr => rok_f (ti.1.2.2.1 r hr) (fun k q1 q7 => trv_4 (by decide) hr q1 q7)⟩, t⟩
  rw [trv_4 (by decide) hr q1 q7]
  exact ti.1.1 r hr k q1 q7
set_option maxRecDepth 20000 in
theorem se_loop (l : Launch) {kd : am_kd} {rv : am_rv} (hS : sh kd rv) (n nl z0 z1 : Nat) (ln : Nat → am_N) (lk : Nat → Nat) (y t : Int32) (N : Nat) (hN : N < 1000) (hn7 : n < 8) (d : Nat) : ∀ (q : Nat) (w : am_iv), seQ kd rv nl ln lk z0 z1 n w → q + d = 100 → am_W l mX11_second (am_rm 9 0 0) (am_ret (some (am_I (se_c (se_s n nl z0 z1 ln lk N t) (er_heap 2) d q w).1)) kd rv (se_c (se_s n nl z0 z1 ln lk N t) (er_heap 2) d q w).2) 71 [some (am_P (1, 0, 0)), some (am_I (nI N)), some (am_I y), some (am_I t), some (am_I (nI q))] [] kd rv w 0 0 := by
  induction d with
  | zero =>
    intro q w hq hd
    refine A_iload (pc := 71) (i := 4) dX11_second_71 rfl ?_
    refine A_bipush (pc := 73) (99) dX11_second_73 (by decide) ?_
    refine A_icmpgt (pc := 75) 122 dX11_second_75 (by decide) (fun hb75 => ?_) (fun hb75 => ?_)
    · refine A_aload_n (pc := 122) (i := 0) dX11_second_122 rfl rfl ?_
      refine A_ldc (pc := 123) (List.mem_cons_of_mem _ kc_X11_210) dX11_second_123 ?_
      refine A_callV1 (pc := 125) cv_X11_61 (s_err2 l hS) hS.k1 rfl rfl rfl rfl (Nat.le_of_ble_eq_true rfl) ⟨(Nat.le_of_ble_eq_true rfl), (Nat.le_of_ble_eq_true rfl)⟩ ⟨Nat.zero_le _, Nat.zero_le _⟩ dX11_second_125 ?_
      exact A_iretE (pc := 128) dX11_second_128 rfl (Nat.zero_le _) (Nat.zero_le _) ((rfl)) ((rfl))
    · exact absurd (show nI 99 < nI q from nI_lt (by omega) (by omega)) hb75
  | succ d ih =>
    intro q w hq hd
    have hq1 : (w (2, 2, 0) 1 = nI n ∧ ∀ r, r < n → w (4, 2, r) 7 = 0 ∨ w (4, 2, r) 7 = 1) ∧ (tr_heap 1 2 n w (9, 1, 0) 1 = nI z0 ∧ z0 ≤ 50) ∧ tQ 1 (n + 1) nl z1 ln lk (se_w n z0 t q w) ∧ rm_laws kd rv (se_w n z0 t q w) 1 nl ln lk := by
      obtain ⟨y0, y1, u, h⟩ := hq
      exact ⟨⟨h.2.1.1, fun r hr => (h.2.2.2 r hr).2.2.2.2.2.2⟩, ⟨h.y.1.1.2.2.1.1.1, h.y.1.1.2.2.1.1.2.1⟩, ⟨y1, _, se_tR h hn7 t q⟩, (h.y.stroke hn7 t (nI q)).1.1.laws⟩
    obtain ⟨⟨g1, g2⟩, ⟨g3, g4⟩, g5, g6⟩ := hq1
    refine A_iload (pc := 71) (i := 4) dX11_second_71 rfl ?_
    refine A_bipush (pc := 73) (99) dX11_second_73 (by decide) ?_
    refine A_icmpgt (pc := 75) 122 dX11_second_75 (by decide) (fun hb75 => ?_) (fun hb75 => ?_)
    · exact absurd (show nI 99 < nI q from hb75) (nI_nlt (by omega) (by decide))
    · refine A_aload_n (pc := 78) (i := 0) dX11_second_78 rfl rfl ?_
      refine A_getr (pc := 79) 1 fl_X11_16_11 hS.k1 rfl (hS.w1 (k := 1) (by decide)) dX11_second_79 ?_
      refine A_aload_n (pc := 82) (i := 0) dX11_second_82 rfl rfl ?_
      refine A_getr (pc := 83) 2 fl_X11_19_11 hS.k1 rfl (hS.w1 (k := 2) (by decide)) dX11_second_83 ?_
      refine A_callV0 (pc := 86) cv_X11_247 (s_takeRings l hS 1 (by decide) 2 (by decide) (by decide) n g1 (by omega) g2) (hS.k2 (by decide)) rfl rfl rfl rfl (Nat.le_of_ble_eq_true rfl) ⟨(Nat.le_of_ble_eq_true rfl), (Nat.le_of_ble_eq_true rfl)⟩ ⟨Nat.zero_le _, Nat.zero_le _⟩ dX11_second_86 ?_
      refine A_aload_n (pc := 89) (i := 0) dX11_second_89 rfl rfl ?_
      refine A_getr (pc := 90) 1 fl_X11_16_11 hS.k1 rfl (hS.w1 (k := 1) (by decide)) dX11_second_90 ?_
      refine A_iload_n (pc := 93) (i := 3) dX11_second_93 rfl rfl ?_
      refine A_iload (pc := 94) (i := 4) dX11_second_94 rfl ?_
      refine A_callV1 (pc := 96) cv_X11_164 (s_addStroke l hS 1 (by decide) n trv_1 hn7 z0 g3 g4 _ _) (hS.k2 (by decide)) rfl rfl rfl rfl (Nat.le_of_ble_eq_true rfl) ⟨(Nat.le_of_ble_eq_true rfl), (Nat.le_of_ble_eq_true rfl)⟩ ⟨Nat.zero_le _, Nat.zero_le _⟩ dX11_second_96 ?_
      refine A_heap (iv' := se_w n z0 t q w) rfl ?_
      refine A_pop (pc := 99) dX11_second_99 rfl ?_
      refine A_aload_n (pc := 100) (i := 0) dX11_second_100 rfl rfl ?_
      refine A_getr (pc := 101) 1 fl_X11_16_11 hS.k1 rfl (hS.w1 (k := 1) (by decide)) dX11_second_101 ?_
      refine A_iload_n (pc := 104) (i := 1) dX11_second_104 rfl rfl ?_
      refine A_iconst (pc := 105) (2) dX11_second_105 (by decide) ?_
      refine A_callV1 (pc := 106) cv_X11_223 (s_changes l hS 1 (by decide) nl ln lk g6 (n + 1) z1 _ tQ.cls (tQ.tick (by decide)) g5 N (by omega) _) (hS.k2 (by decide)) rfl rfl rfl rfl (Nat.le_of_ble_eq_true rfl) ⟨(Nat.le_of_ble_eq_true rfl), (Nat.le_of_ble_eq_true rfl)⟩ ⟨Nat.zero_le _, Nat.zero_le _⟩ dX11_second_106 ?_
      refine A_iconst (pc := 109) (2) dX11_second_109 (by decide) ?_
      refine A_icmplt (pc := 110) 116 dX11_second_110 (by decide) (fun hb110 => ?_) (fun hb110 => ?_)
      · refine A_inc4 (pc := 116) (nI (q + 1)) dX11_second_116 (nI_1 q) (Nat.le_of_ble_eq_true rfl) rfl ?_
        refine A_goto (pc := 119) 71 dX11_second_119 (by decide) ?_
        rw [se_c, if_pos (show (se_s n nl z0 z1 ln lk N t q w).1 < 2 from hb110)]
        exact ih (q + 1) _ (hq.c chB.ses chg.ses) (by omega)
      · refine A_iload (pc := 113) (i := 4) dX11_second_113 rfl ?_
        rw [se_c, if_neg (show ¬ (se_s n nl z0 z1 ln lk N t q w).1 < 2 from hb110)]
        exact A_iretE (pc := 115) dX11_second_115 rfl (Nat.zero_le _) (Nat.zero_le _) ((rfl)) ((rfl))
noncomputable def c_second (x y t : Int32) (n nl z0 z1 zt zw : Nat) (ln : Nat → am_N) (lk : Nat → Nat) (rv : am_rv) (iv : am_iv) : Int32 × am_rv × am_iv := if sr_b (0 ≤ x ∧ x ≤ 60) = 0 then (-1000000001, rv, er_heap 1 iv) else if sr_b (0 ≤ y ∧ y ≤ 20) = 0 then (-1000000001, rv, er_heap 1 iv) else if sr_b (1 ≤ t ∧ t ≤ 400) = 0 then (-1000000001, rv, er_heap 1 iv) else if sr_b (8 ≤ iv (2, 0, 0) 1) = 0 then ((se_c (se_s n nl z0 z1 ln lk x.toNatClampNeg t) (er_heap 2) 99 1 (tr_heap 2 1 n (it (rm_tick 1 n z1 nl ln lk) y.toNatClampNeg (rb_heap 1 0 n z0 z1 zt zw iv)))).1, (lw_cp 1 0 rv 6), (se_c (se_s n nl z0 z1 ln lk x.toNatClampNeg t) (er_heap 2) 99 1 (tr_heap 2 1 n (it (rm_tick 1 n z1 nl ln lk) y.toNatClampNeg (rb_heap 1 0 n z0 z1 zt zw iv)))).2) else (-1000000004, rv, er_heap 4 iv)
set_option maxRecDepth 20000 in
theorem p_second (l : Launch) {kd : am_kd} {rv : am_rv} {iv : am_iv} (hS : sh kd rv) (x y t : Int32) (n nl z0 z1 zt zw : Nat) (ln : Nat → am_N) (lk : Nat → Nat) (hA : AH kd rv n z0 z1 zt zw iv) (hl : rm_laws kd (lw_cp 1 0 rv 6) (rb_heap 1 0 n z0 z1 zt zw iv) 1 nl ln lk) (hq : tQ 1 n nl z1 ln lk (rb_heap 1 0 n z0 z1 zt zw iv)) (hs : seQ kd (lw_cp 1 0 rv 6) nl ln lk z0 z1 n (tr_heap 2 1 n (it (rm_tick 1 n z1 nl ln lk) y.toNatClampNeg (rb_heap 1 0 n z0 z1 zt zw iv)))) : am_Met l mX11_second (am_rm 9 0 0) [am_P (1, 0, 0), am_I x, am_I y, am_I t] kd rv iv (am_ret (some (am_I (c_second x y t n nl z0 z1 zt zw ln lk rv iv).1)) kd (c_second x y t n nl z0 z1 zt zw ln lk rv iv).2.1 (c_second x y t n nl z0 z1 zt zw ln lk rv iv).2.2) := by
  refine am_Met.of (by decide) (Nat.le_of_ble_eq_true rfl) rfl ?_
  have hn := hA.1.1
  have hn8 := hA.1.2.1
  refine A_iload_n (pc := 0) (i := 1) dX11_second_0 rfl rfl ?_
  refine A_callS1 (pc := 1) cs_X11_211 (s_isAhead l _) rfl rfl (Nat.le_of_ble_eq_true rfl) ⟨(Nat.le_of_ble_eq_true rfl), (Nat.le_of_ble_eq_true rfl)⟩ ⟨Nat.zero_le _, Nat.zero_le _⟩ dX11_second_1 ?_
  refine A_ifeq (pc := 4) 28 dX11_second_4 (by decide) (fun hb4 => ?_) (fun hb4 => ?_)
  · refine A_aload_n (pc := 28) (i := 0) dX11_second_28 rfl rfl ?_
    refine A_ldc (pc := 29) (List.mem_cons_of_mem _ kc_X11_60) dX11_second_29 ?_
    refine A_callV1 (pc := 31) cv_X11_61 (s_err1 l hS) hS.k1 rfl rfl rfl rfl (Nat.le_of_ble_eq_true rfl) ⟨(Nat.le_of_ble_eq_true rfl), (Nat.le_of_ble_eq_true rfl)⟩ ⟨Nat.zero_le _, Nat.zero_le _⟩ dX11_second_31 ?_
    rw [c_second, if_pos hb4]
    exact A_iretE (pc := 34) dX11_second_34 rfl (Nat.zero_le _) (Nat.zero_le _) ((rfl)) ((rfl))
  · refine A_iload_n (pc := 7) (i := 2) dX11_second_7 rfl rfl ?_
    refine A_iconst (pc := 8) (0) dX11_second_8 (by decide) ?_
    refine A_bipush (pc := 9) (20) dX11_second_9 (by decide) ?_
    refine A_callS1 (pc := 11) cs_X11_56 (s_isHeld l _ _ _) rfl rfl (Nat.le_of_ble_eq_true rfl) ⟨(Nat.le_of_ble_eq_true rfl), (Nat.le_of_ble_eq_true rfl)⟩ ⟨Nat.zero_le _, Nat.zero_le _⟩ dX11_second_11 ?_
    refine A_ifeq (pc := 14) 28 dX11_second_14 (by decide) (fun hb14 => ?_) (fun hb14 => ?_)
    · refine A_aload_n (pc := 28) (i := 0) dX11_second_28 rfl rfl ?_
      refine A_ldc (pc := 29) (List.mem_cons_of_mem _ kc_X11_60) dX11_second_29 ?_
      refine A_callV1 (pc := 31) cv_X11_61 (s_err1 l hS) hS.k1 rfl rfl rfl rfl (Nat.le_of_ble_eq_true rfl) ⟨(Nat.le_of_ble_eq_true rfl), (Nat.le_of_ble_eq_true rfl)⟩ ⟨Nat.zero_le _, Nat.zero_le _⟩ dX11_second_31 ?_
      rw [c_second, if_neg hb4, if_pos hb14]
      exact A_iretE (pc := 34) dX11_second_34 rfl (Nat.zero_le _) (Nat.zero_le _) ((rfl)) ((rfl))
    · refine A_iload_n (pc := 17) (i := 3) dX11_second_17 rfl rfl ?_
      refine A_iconst (pc := 18) (1) dX11_second_18 (by decide) ?_
      refine A_sipush (pc := 19) (400) dX11_second_19 (by decide) ?_
      refine A_callS1 (pc := 22) cs_X11_56 (s_isHeld l _ _ _) rfl rfl (Nat.le_of_ble_eq_true rfl) ⟨(Nat.le_of_ble_eq_true rfl), (Nat.le_of_ble_eq_true rfl)⟩ ⟨Nat.zero_le _, Nat.zero_le _⟩ dX11_second_22 ?_
      refine A_ifne (pc := 25) 35 dX11_second_25 (by decide) (fun hb25 => ?_) (fun hb25 => ?_)
      · have hx := (sr_b_1 _).mp hb4
        have hy := (sr_b_1 _).mp hb14
        have hy20 := nI_cl_le (n := 20) hy.1 hy.2 (by decide)
        refine A_aload_n (pc := 35) (i := 0) dX11_second_35 rfl rfl ?_
        refine A_getr (pc := 36) 0 fl_X11_12_11 hS.k1 rfl (hS.w1 (k := 0) (by decide)) dX11_second_36 ?_
        refine A_callV1 (pc := 39) cv_X11_65 (s_isFull l hS _ (by decide)) (hS.k2 (by decide)) rfl rfl rfl rfl (Nat.le_of_ble_eq_true rfl) ⟨(Nat.le_of_ble_eq_true rfl), (Nat.le_of_ble_eq_true rfl)⟩ ⟨Nat.zero_le _, Nat.zero_le _⟩ dX11_second_39 ?_
        refine A_ifeq (pc := 42) 52 dX11_second_42 (by decide) (fun hb42 => ?_) (fun hb42 => ?_)
        · have hn7 : n < 8 := by
            have z := hb42
            rw [hn] at z
            rcases Nat.lt_or_ge n 8 with c | c
            · exact c
            · have : n = 8 := by omega
              subst this
              exact absurd z (by decide)
          refine A_aload_n (pc := 52) (i := 0) dX11_second_52 rfl rfl ?_
          refine A_iload_n (pc := 53) (i := 2) dX11_second_53 rfl rfl ?_
          refine A_top (nI_cl hy.1) ?_
          refine A_callV0 (pc := 54) cv_X11_214 (s_goA l hS hA hl hq y.toNatClampNeg (by omega)) hS.k1 rfl rfl rfl rfl (Nat.le_of_ble_eq_true rfl) ⟨(Nat.le_of_ble_eq_true rfl), (Nat.le_of_ble_eq_true rfl)⟩ ⟨Nat.zero_le _, Nat.zero_le _⟩ dX11_second_54 ?_
          have hS := lw_cp_sh (i := 1) (o := 0) hS 6
          refine A_aload_n (pc := 57) (i := 0) dX11_second_57 rfl rfl ?_
          refine A_getr (pc := 58) 2 fl_X11_19_11 hS.k1 rfl (hS.w1 (k := 2) (by decide)) dX11_second_58 ?_
          refine A_aload_n (pc := 61) (i := 0) dX11_second_61 rfl rfl ?_
          refine A_getr (pc := 62) 1 fl_X11_16_11 hS.k1 rfl (hS.w1 (k := 1) (by decide)) dX11_second_62 ?_
          refine A_callV0 (pc := 65) cv_X11_247 (s_takeRings l hS 2 (by decide) 1 (by decide) (by decide) n (tQ.cls _ (tQ.it (by decide) _ hq)).1 hn8 (fun r hr => ((tQ.cls _ (tQ.it (by decide) _ hq)).2.2.2.2.2 r hr).1)) (hS.k2 (by decide)) rfl rfl rfl rfl (Nat.le_of_ble_eq_true rfl) ⟨(Nat.le_of_ble_eq_true rfl), (Nat.le_of_ble_eq_true rfl)⟩ ⟨Nat.zero_le _, Nat.zero_le _⟩ dX11_second_65 ?_
          refine A_iconst (pc := 68) (1) dX11_second_68 (by decide) ?_
          refine A_ist4 (pc := 69) dX11_second_69 (Nat.le_of_ble_eq_true rfl) rfl ?_
          rw [c_second, if_neg hb4, if_neg hb14, if_neg hb25, if_pos hb42]
          have h9 := se_loop l hS n nl z0 z1 ln lk y t x.toNatClampNeg (Nat.lt_of_le_of_lt (ah60 hx) (by decide)) hn7 99 1 (tr_heap 2 1 n (it (rm_tick 1 n z1 nl ln lk) y.toNatClampNeg (rb_heap 1 0 n z0 z1 zt zw iv))) hs rfl
          rw [← nI_cl hx.1] at h9
          exact h9
        · refine A_aload_n (pc := 45) (i := 0) dX11_second_45 rfl rfl ?_
          refine A_ldc (pc := 46) (List.mem_cons_of_mem _ kc_X11_69) dX11_second_46 ?_
          refine A_callV1 (pc := 48) cv_X11_61 (s_err4 l hS) hS.k1 rfl rfl rfl rfl (Nat.le_of_ble_eq_true rfl) ⟨(Nat.le_of_ble_eq_true rfl), (Nat.le_of_ble_eq_true rfl)⟩ ⟨Nat.zero_le _, Nat.zero_le _⟩ dX11_second_48 ?_
          rw [c_second, if_neg hb4, if_neg hb14, if_neg hb25, if_neg hb42]
          exact A_iretE (pc := 51) dX11_second_51 rfl (Nat.zero_le _) (Nat.zero_le _) ((rfl)) ((rfl))
      · refine A_aload_n (pc := 28) (i := 0) dX11_second_28 rfl rfl ?_
        refine A_ldc (pc := 29) (List.mem_cons_of_mem _ kc_X11_60) dX11_second_29 ?_
        refine A_callV1 (pc := 31) cv_X11_61 (s_err1 l hS) hS.k1 rfl rfl rfl rfl (Nat.le_of_ble_eq_true rfl) ⟨(Nat.le_of_ble_eq_true rfl), (Nat.le_of_ble_eq_true rfl)⟩ ⟨Nat.zero_le _, Nat.zero_le _⟩ dX11_second_31 ?_
        rw [c_second, if_neg hb4, if_neg hb14, if_pos hb25]
        exact A_iretE (pc := 34) dX11_second_34 rfl (Nat.zero_le _) (Nat.zero_le _) ((rfl)) ((rfl))
set_option maxRecDepth 20000 in
theorem sr_loop (l : Launch) {kd : am_kd} {rv : am_rv} (hR : shr kd rv) (n nl y0 z : Nat) (lk : Nat → Nat) (y t : Int32) (N : Nat) (hN : N < 1000) (hn7 : n < 8) (d : Nat) : ∀ (q : Nat) (w : am_iv) (p5 : Option am_V), svQ nl lk y0 z n w → q + d = 100 → am_W l mX12_second (am_rm 50 0 0) (am_ret (some (am_I (se_c (se_t n nl y0 z lk N t) (rx_find 2) d q w).1)) kd rv (se_c (se_t n nl y0 z lk N t) (rx_find 2) d q w).2) 77 [some (am_P (30, 0, 0)), some (am_I (nI N)), some (am_I y), some (am_I t), some (am_I (nI q)), p5] [] kd rv w 0 0 := by
  induction d with
  | zero =>
    intro q w p5 hq hd
    refine A_iload (pc := 77) (i := 4) dX12_second_77 rfl ?_
    refine A_bipush (pc := 79) (99) dX12_second_79 (by decide) ?_
    refine A_icmpgt (pc := 81) 130 dX12_second_81 (by decide) (fun hb81 => ?_) (fun hb81 => ?_)
    · refine A_aload_n (pc := 130) (i := 0) dX12_second_130 rfl rfl ?_
      refine A_iconst (pc := 131) (2) dX12_second_131 (by decide) ?_
      refine A_callV1 (pc := 132) cv_X12_65 (r_fnd2 l hR) hR.1 rfl rfl rfl rfl (Nat.le_of_ble_eq_true rfl) ⟨(Nat.le_of_ble_eq_true rfl), (Nat.le_of_ble_eq_true rfl)⟩ ⟨Nat.zero_le _, Nat.zero_le _⟩ dX12_second_132 ?_
      exact A_iretE (pc := 135) dX12_second_135 rfl (Nat.zero_le _) (Nat.zero_le _) ((rfl)) ((rfl))
    · exact absurd (show nI 99 < nI q from nI_lt (by omega) (by omega)) hb81
  | succ d ih =>
    intro q w p5 hq hd
    have hq1 : rx_cp (31, 2, 0) (31, 1, 0) w 300 (31, 1, 0) 1 = nI n ∧ (rx_cp (31, 2, 0) (31, 1, 0) w 300 (31, 0, 0) 40 = nI y0 ∧ y0 ≤ 50) ∧ rQ 1 (n + 1) nl z lk (se_u n y0 t q w) := by
      obtain ⟨kd, rv, ln, z0, z1, v, h⟩ := hq
      exact ⟨h.y.2.1.2.1, ⟨h.y.1.1.2.2.1.1.2.2.1, h.y.1.1.2.2.1.1.2.2.2.1⟩, ⟨z1, ln, _, se_tR h hn7 t q⟩⟩
    obtain ⟨g1, ⟨g3, g4⟩, g5⟩ := hq1
    refine A_iload (pc := 77) (i := 4) dX12_second_77 rfl ?_
    refine A_bipush (pc := 79) (99) dX12_second_79 (by decide) ?_
    refine A_icmpgt (pc := 81) 130 dX12_second_81 (by decide) (fun hb81 => ?_) (fun hb81 => ?_)
    · exact absurd (show nI 99 < nI q from hb81) (nI_nlt (by omega) (by decide))
    · refine A_aload_n (pc := 84) (i := 0) dX12_second_84 rfl rfl ?_
      refine A_getr (pc := 85) 2 fl_X12_16_12 hR.1 rfl hR.w2 dX12_second_85 ?_
      refine A_aload_n (pc := 88) (i := 0) dX12_second_88 rfl rfl ?_
      refine A_getr (pc := 89) 1 fl_X12_13_12 hR.1 rfl hR.w1 dX12_second_89 ?_
      refine A_callS0 (pc := 92) cs_X12_240 (r_copies l (31, 2, 0) (31, 1, 0) hR.k2 hR.k1 (by simp)) rfl rfl (Nat.le_of_ble_eq_true rfl) ⟨(Nat.le_of_ble_eq_true rfl), (Nat.le_of_ble_eq_true rfl)⟩ ⟨Nat.zero_le _, Nat.zero_le _⟩ dX12_second_92 ?_
      refine A_aload_n (pc := 95) (i := 0) dX12_second_95 rfl rfl ?_
      refine A_aload_n (pc := 96) (i := 0) dX12_second_96 rfl rfl ?_
      refine A_getr (pc := 97) 1 fl_X12_13_12 hR.1 rfl hR.w1 dX12_second_97 ?_
      refine A_iload_n (pc := 100) (i := 3) dX12_second_100 rfl rfl ?_
      refine A_iload (pc := 101) (i := 4) dX12_second_101 rfl ?_
      refine A_callV1 (pc := 103) cv_X12_203 (r_strokes l hR 1 (by decide) hR.k1 n g1 hn7 y0 g3 g4 _ _) hR.1 rfl rfl rfl rfl (Nat.le_of_ble_eq_true rfl) ⟨(Nat.le_of_ble_eq_true rfl), (Nat.le_of_ble_eq_true rfl)⟩ ⟨Nat.zero_le _, Nat.zero_le _⟩ dX12_second_103 ?_
      refine A_heap (iv' := se_u n y0 t q w) rfl ?_
      refine A_ist5 (pc := 106) dX12_second_106 (Nat.le_of_ble_eq_true rfl) rfl ?_
      refine A_aload_n (pc := 108) (i := 0) dX12_second_108 rfl rfl ?_
      refine A_aload_n (pc := 109) (i := 0) dX12_second_109 rfl rfl ?_
      refine A_getr (pc := 110) 1 fl_X12_13_12 hR.1 rfl hR.w1 dX12_second_110 ?_
      refine A_iload_n (pc := 113) (i := 1) dX12_second_113 rfl rfl ?_
      refine A_callV1 (pc := 114) cv_X12_254 (r_turnsIn l hR 1 (by decide) hR.k1 (n + 1) nl z lk _ rQ.ref (rQ.tick (by decide)) g5 N (by omega)) hR.1 rfl rfl rfl rfl (Nat.le_of_ble_eq_true rfl) ⟨(Nat.le_of_ble_eq_true rfl), (Nat.le_of_ble_eq_true rfl)⟩ ⟨Nat.zero_le _, Nat.zero_le _⟩ dX12_second_114 ?_
      refine A_iconst (pc := 117) (2) dX12_second_117 (by decide) ?_
      refine A_icmplt (pc := 118) 124 dX12_second_118 (by decide) (fun hb118 => ?_) (fun hb118 => ?_)
      · refine A_inc4 (pc := 124) (nI (q + 1)) dX12_second_124 (nI_1 q) (Nat.le_of_ble_eq_true rfl) rfl ?_
        refine A_goto (pc := 127) 77 dX12_second_127 (by decide) ?_
        rw [se_c, if_pos (show (se_t n nl y0 z lk N t q w).1 < 2 from hb118)]
        exact ih (q + 1) _ _ (hq.c chU.set_) (by omega)
      · refine A_iload (pc := 121) (i := 4) dX12_second_121 rfl ?_
        rw [se_c, if_neg (show ¬ (se_t n nl y0 z lk N t q w).1 < 2 from hb118)]
        exact A_iretE (pc := 123) dX12_second_123 rfl (Nat.zero_le _) (Nat.zero_le _) ((rfl)) ((rfl))
noncomputable def d_second (x y t : Int32) (y0 n nl z : Nat) (lk : Nat → Nat) (iv : am_iv) : Int32 × am_iv := if sr_b (0 ≤ x ∧ x ≤ 60) = 0 then (-1000000001, rx_find 1 iv) else if sr_b (0 ≤ y ∧ y ≤ 20) = 0 then (-1000000001, rx_find 1 iv) else if sr_b (1 ≤ t ∧ t ≤ 400) = 0 then (-1000000001, rx_find 1 iv) else if iv (31, 0, 0) 1 = 8 then (-1000000004, rx_find 4 iv) else (se_c (se_t n nl y0 z lk x.toNatClampNeg t) (rx_find 2) 99 1 (it (rt_tick 2 n nl z lk) y.toNatClampNeg (rx_cp (31, 0, 0) (31, 2, 0) iv 300)))
set_option maxRecDepth 20000 in
theorem q_second (l : Launch) {kd : am_kd} {rv : am_rv} {iv : am_iv} (hR : shr kd rv) (x y t : Int32) (y0 n nl z : Nat) (lk : Nat → Nat) (hn : iv (31, 0, 0) 1 = nI n) (hn8 : n ≤ 8) (hq2 : rQ 2 n nl z lk (rx_cp (31, 0, 0) (31, 2, 0) iv 300)) (hv : svQ nl lk y0 z n (it (rt_tick 2 n nl z lk) y.toNatClampNeg (rx_cp (31, 0, 0) (31, 2, 0) iv 300))) : am_Met l mX12_second (am_rm 50 0 0) [am_P (30, 0, 0), am_I x, am_I y, am_I t] kd rv iv (am_ret (some (am_I (d_second x y t y0 n nl z lk iv).1)) kd rv (d_second x y t y0 n nl z lk iv).2) := by
  refine am_Met.of (by decide) (Nat.le_of_ble_eq_true rfl) rfl ?_
  refine A_iload_n (pc := 0) (i := 1) dX12_second_0 rfl rfl ?_
  refine A_callS1 (pc := 1) cs_X12_244 (r_isAhead l _) rfl rfl (Nat.le_of_ble_eq_true rfl) ⟨(Nat.le_of_ble_eq_true rfl), (Nat.le_of_ble_eq_true rfl)⟩ ⟨Nat.zero_le _, Nat.zero_le _⟩ dX12_second_1 ?_
  refine A_ifeq (pc := 4) 31 dX12_second_4 (by decide) (fun hb4 => ?_) (fun hb4 => ?_)
  · refine A_aload_n (pc := 31) (i := 0) dX12_second_31 rfl rfl ?_
    refine A_iconst (pc := 32) (1) dX12_second_32 (by decide) ?_
    refine A_callV1 (pc := 33) cv_X12_65 (r_fnd1 l hR) hR.1 rfl rfl rfl rfl (Nat.le_of_ble_eq_true rfl) ⟨(Nat.le_of_ble_eq_true rfl), (Nat.le_of_ble_eq_true rfl)⟩ ⟨Nat.zero_le _, Nat.zero_le _⟩ dX12_second_33 ?_
    exact A_iretE (pc := 36) dX12_second_36 rfl (Nat.zero_le _) (Nat.zero_le _) (by rw [d_second, if_pos hb4]) (by rw [d_second, if_pos hb4])
  · refine A_iload_n (pc := 7) (i := 2) dX12_second_7 rfl rfl ?_
    refine A_i2l (pc := 8) dX12_second_8 ?_
    refine A_lconst (pc := 9) (0) dX12_second_9 (by decide) ?_
    refine A_topJ (y := Int32.toInt64 (0)) (by decide +kernel) ?_
    refine A_ldc2 (pc := 10) (List.mem_cons_of_mem _ kc_X12_262) dX12_second_10 ?_
    refine A_topJ (y := Int32.toInt64 (20)) (by decide +kernel) ?_
    refine A_callS1 (pc := 13) cs_X12_48 (r_in l _ _ _) rfl rfl (Nat.le_of_ble_eq_true rfl) ⟨(Nat.le_of_ble_eq_true rfl), (Nat.le_of_ble_eq_true rfl)⟩ ⟨Nat.zero_le _, Nat.zero_le _⟩ dX12_second_13 ?_
    refine A_ifeq (pc := 16) 31 dX12_second_16 (by decide) (fun hb16 => ?_) (fun hb16 => ?_)
    · refine A_aload_n (pc := 31) (i := 0) dX12_second_31 rfl rfl ?_
      refine A_iconst (pc := 32) (1) dX12_second_32 (by decide) ?_
      refine A_callV1 (pc := 33) cv_X12_65 (r_fnd1 l hR) hR.1 rfl rfl rfl rfl (Nat.le_of_ble_eq_true rfl) ⟨(Nat.le_of_ble_eq_true rfl), (Nat.le_of_ble_eq_true rfl)⟩ ⟨Nat.zero_le _, Nat.zero_le _⟩ dX12_second_33 ?_
      exact A_iretE (pc := 36) dX12_second_36 rfl (Nat.zero_le _) (Nat.zero_le _) (by rw [d_second, if_neg hb4, if_pos hb16]) (by rw [d_second, if_neg hb4, if_pos hb16])
    · refine A_iload_n (pc := 19) (i := 3) dX12_second_19 rfl rfl ?_
      refine A_i2l (pc := 20) dX12_second_20 ?_
      refine A_lconst (pc := 21) (1) dX12_second_21 (by decide) ?_
      refine A_topJ (y := Int32.toInt64 (1)) (by decide +kernel) ?_
      refine A_ldc2 (pc := 22) (List.mem_cons_of_mem _ kc_X12_201) dX12_second_22 ?_
      refine A_topJ (y := Int32.toInt64 (400)) (by decide +kernel) ?_
      refine A_callS1 (pc := 25) cs_X12_48 (r_in l _ _ _) rfl rfl (Nat.le_of_ble_eq_true rfl) ⟨(Nat.le_of_ble_eq_true rfl), (Nat.le_of_ble_eq_true rfl)⟩ ⟨Nat.zero_le _, Nat.zero_le _⟩ dX12_second_25 ?_
      refine A_ifne (pc := 28) 37 dX12_second_28 (by decide) (fun hb28 => ?_) (fun hb28 => ?_)
      · have hx := (sr_b_1 _).mp hb4
        have hy := (sr_b_1 _).mp hb16
        have hy20 := nI_cl_le (n := 20) hy.1 hy.2 (by decide)
        refine A_aload_n (pc := 37) (i := 0) dX12_second_37 rfl rfl ?_
        refine A_getr (pc := 38) 0 fl_X12_7_12 hR.1 rfl hR.w0 dX12_second_38 ?_
        refine A_iconst (pc := 41) (1) dX12_second_41 (by decide) ?_
        refine A_ialdN (pc := 42) hR.k0 (show 1 < 300 by decide) (by decide) dX12_second_42 ?_
        refine A_bipush (pc := 43) (8) dX12_second_43 (by decide) ?_
        refine A_icmpne (pc := 45) 54 dX12_second_45 (by decide) (fun hb45 => ?_) (fun hb45 => ?_)
        · have hn7 := full_n hn8 hn hb45
          refine A_aload_n (pc := 54) (i := 0) dX12_second_54 rfl rfl ?_
          refine A_getr (pc := 55) 0 fl_X12_7_12 hR.1 rfl hR.w0 dX12_second_55 ?_
          refine A_aload_n (pc := 58) (i := 0) dX12_second_58 rfl rfl ?_
          refine A_getr (pc := 59) 2 fl_X12_16_12 hR.1 rfl hR.w2 dX12_second_59 ?_
          refine A_callS0 (pc := 62) cs_X12_240 (r_copies l (31, 0, 0) (31, 2, 0) hR.k0 hR.k2 (by simp)) rfl rfl (Nat.le_of_ble_eq_true rfl) ⟨(Nat.le_of_ble_eq_true rfl), (Nat.le_of_ble_eq_true rfl)⟩ ⟨Nat.zero_le _, Nat.zero_le _⟩ dX12_second_62 ?_
          refine A_aload_n (pc := 65) (i := 0) dX12_second_65 rfl rfl ?_
          refine A_aload_n (pc := 66) (i := 0) dX12_second_66 rfl rfl ?_
          refine A_getr (pc := 67) 2 fl_X12_16_12 hR.1 rfl hR.w2 dX12_second_67 ?_
          refine A_iload_n (pc := 70) (i := 2) dX12_second_70 rfl rfl ?_
          refine A_top (nI_cl hy.1) ?_
          refine A_callV0 (pc := 71) cv_X12_230 (r_goesAhead l hR 2 (by decide) hR.k2 n nl z lk _ rQ.ref (rQ.tick (by decide)) hq2 y.toNatClampNeg (by omega)) hR.1 rfl rfl rfl rfl (Nat.le_of_ble_eq_true rfl) ⟨(Nat.le_of_ble_eq_true rfl), (Nat.le_of_ble_eq_true rfl)⟩ ⟨Nat.zero_le _, Nat.zero_le _⟩ dX12_second_71 ?_
          refine A_iconst (pc := 74) (1) dX12_second_74 (by decide) ?_
          refine A_ist4 (pc := 75) dX12_second_75 (Nat.le_of_ble_eq_true rfl) rfl ?_
          rw [show (d_second x y t y0 n nl z lk iv) = (se_c (se_t n nl y0 z lk x.toNatClampNeg t) (rx_find 2) 99 1 (it (rt_tick 2 n nl z lk) y.toNatClampNeg (rx_cp (31, 0, 0) (31, 2, 0) iv 300))) from by rw [d_second, if_neg hb4, if_neg hb16, if_neg hb28, if_neg hb45]]
          have h9 := sr_loop l hR n nl y0 z lk y t x.toNatClampNeg (Nat.lt_of_le_of_lt (ah60 hx) (by decide)) hn7 99 1 (it (rt_tick 2 n nl z lk) y.toNatClampNeg (rx_cp (31, 0, 0) (31, 2, 0) iv 300)) none hv rfl
          rw [← nI_cl hx.1] at h9
          exact h9
        · refine A_aload_n (pc := 48) (i := 0) dX12_second_48 rfl rfl ?_
          refine A_iconst (pc := 49) (4) dX12_second_49 (by decide) ?_
          refine A_callV1 (pc := 50) cv_X12_65 (r_fnd4 l hR) hR.1 rfl rfl rfl rfl (Nat.le_of_ble_eq_true rfl) ⟨(Nat.le_of_ble_eq_true rfl), (Nat.le_of_ble_eq_true rfl)⟩ ⟨Nat.zero_le _, Nat.zero_le _⟩ dX12_second_50 ?_
          exact A_iretE (pc := 53) dX12_second_53 rfl (Nat.zero_le _) (Nat.zero_le _) (by rw [d_second, if_neg hb4, if_neg hb16, if_neg hb28, if_pos hb45]) (by rw [d_second, if_neg hb4, if_neg hb16, if_neg hb28, if_pos hb45])
      · refine A_aload_n (pc := 31) (i := 0) dX12_second_31 rfl rfl ?_
        refine A_iconst (pc := 32) (1) dX12_second_32 (by decide) ?_
        refine A_callV1 (pc := 33) cv_X12_65 (r_fnd1 l hR) hR.1 rfl rfl rfl rfl (Nat.le_of_ble_eq_true rfl) ⟨(Nat.le_of_ble_eq_true rfl), (Nat.le_of_ble_eq_true rfl)⟩ ⟨Nat.zero_le _, Nat.zero_le _⟩ dX12_second_33 ?_
        exact A_iretE (pc := 36) dX12_second_36 rfl (Nat.zero_le _) (Nat.zero_le _) (by rw [d_second, if_neg hb4, if_neg hb16, if_pos hb28]) (by rw [d_second, if_neg hb4, if_neg hb16, if_pos hb28])
theorem call_second (l : Launch) {kd : am_kd} {rv : am_rv} {iv : am_iv} (h : REL kd rv iv iv) (x : Int32) (y : Int32) (t : Int32) : CALL l kd rv iv mX11_second mX12_second [am_I x, am_I y, am_I t] := by
  obtain ⟨n, nl, ln, lk, z0, y0, z1, y1, zt, zw, hX⟩ := h.n
  have hA := hX.AH h.1
  have hn8 := hX.1.1.2.2
  have hB := hX.b0 (h.z (i := 1) (by decide))
  have hl := hB.1.laws
  have hq : tQ 1 n nl z1 ln lk (rb_heap 1 0 n z0 z1 zt zw iv) := ⟨y1, _, ah_tR hX (h.z (i := 1) (by decide))⟩
  refine CALL.fs (d2 := 50) h (c_second x y t n nl z0 z1 zt zw ln lk rv iv) (d_second x y t y0 n nl y1 lk) (p_second l h.S x y t n nl z0 z1 zt zw ln lk hA hl hq ⟨_, _, _, (se_start hX (h.z (i := 1) (by decide)) y.toNatClampNeg).1⟩) (fun hR h1 eu => ?_) (by decide) (by decide) (fun u hu eu => ?_)
  · have hX := hX.u eu
    have hq : rQ 1 n nl y1 lk (rx_cp (31, 0, 0) (31, 1, 0) _ 300) := ⟨z1, ln, _, ah_tR hX (h.z (i := 1) (by decide))⟩
    have hst := se_start hX (h.z (i := 1) (by decide)) y.toNatClampNeg
    exact q_second l hR x y t y0 n nl y1 lk hX.1.1.2.1 hn8 ⟨_, _, _, hst.2⟩ ⟨_, _, _, _, _, _, hst.1⟩
  · have hX := hX.u eu
    have hz := hu.z (i := 1) (by decide)
    have hT := ah_tR hX hz
    unfold c_second d_second
    by_cases c0 : sr_b (0 ≤ x ∧ x ≤ 60) = 0
    · rw [if_pos c0, if_pos c0]; exact SM.err hu _ 1 (by decide)
    · rw [if_neg c0, if_neg c0]
      by_cases c1 : sr_b (0 ≤ y ∧ y ≤ 20) = 0
      · rw [if_pos c1, if_pos c1]; exact SM.err hu _ 1 (by decide)
      · rw [if_neg c1, if_neg c1]
        by_cases c2 : sr_b (1 ≤ t ∧ t ≤ 400) = 0
        · rw [if_pos c2, if_pos c2]; exact SM.err hu _ 1 (by decide)
        · rw [if_neg c2, if_neg c2]
          have hx := ah60 ((sr_b_1 _).mp c0)
          have hF := full_c hn8 hX.1.1.1 hX.1.1.2.1
          by_cases c5 : u (31, 0, 0) 1 = 8
          · rw [if_neg (fun z => hF.mp z c5), if_pos c5]; exact SM.err hu _ 4 (by decide)
          · rw [if_pos (hF.mpr c5), if_neg c5]
            exact SM.of hu ((second_same (full_n hn8 hX.1.1.2.1 c5) t (by omega) 99 1 _ _ (se_start hX hz y.toNatClampNeg).1).st ((chg.rb.T1.tr (chg.itt (fun w => chg.tick) _ _).T1).tr (chg.trh.T (Or.inr rfl))) ((chU.cp.V (Or.inr rfl)).tr ((chU.itt (fun w => chU.tick) _ _).V (Or.inr rfl))))
