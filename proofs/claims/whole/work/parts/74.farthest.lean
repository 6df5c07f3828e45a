/-- one stroke alone in the room ahead -/
def fa_w (z0 l q : Nat) (w : am_iv) : am_iv := as_heap 1 0 z0 (nI l) (nI q) (am_ui w (2, 1, 0) 1 0)
def fa_u (y0 l q : Nat) (u : am_iv) : am_iv := rs_heap 1 0 y0 (nI l) (nI q) (am_ui (rx_cp (31, 0, 0) (31, 1, 0) u 300) (31, 1, 0) 1 0)
noncomputable def fa_s (nl z0 z1 : Nat) (ln : Nat → am_N) (lk : Nat → Nat) (N l q : Nat) (w : am_iv) : Int32 × am_iv := gx (rm_tick 1 1 z1 nl ln lk) (4, 1, 0) N (fa_w z0 l q w (4, 1, 0) 1) (fa_w z0 l q w)
noncomputable def fa_t (nl y0 z : Nat) (lk : Nat → Nat) (N l q : Nat) (u : am_iv) : Int32 × am_iv := fi (rt_tick 1 1 nl z lk) (31, 1, 0) 0 N (-99999) (fa_u y0 l q u)
theorem chB.fas {nl z0 z1 : Nat} {ln : Nat → am_N} {lk : Nat → Nat} {N l q : Nat} {w : am_iv} : chB w (fa_s nl z0 z1 ln lk N l q w).2 := (chB.n.tr chB.as).tr (chB.gxx (fun w => chB.tick) _ _ _)
theorem chg.fas {nl z0 z1 : Nat} {ln : Nat → am_N} {lk : Nat → Nat} {N l q : Nat} {w : am_iv} : chg 1 w (fa_s nl z0 z1 ln lk N l q w).2 := (chg.u2.tr chg.as).tr (chg.gxx (fun w => chg.tick) _ _ _)
theorem chU.fat {nl y0 z : Nat} {lk : Nat → Nat} {N l q : Nat} {u : am_iv} : chU 1 u (fa_t nl y0 z lk N l q u).2 := ((chU.cp.tr chU.ui).tr chU.rs).tr (chU.fii (fun w => chU.tick) _ _ _)
theorem fa_tR {kd : am_kd} {rv : am_rv} {nl : Nat} {ln : Nat → am_N} {lk : Nat → Nat} {z0 y0 z1 y1 : Nat} {w u : am_iv} (h : bR kd rv nl ln lk z0 y0 z1 y1 0 w u) (ho : oR 0 w u) (l q : Nat) : tR 1 1 1 nl z1 y1 ln lk (fa_w z0 l q w) (fa_u y0 l q u) := ((yR.zero h ho).stroke (by decide) (nI l) (nI q)).tR
theorem fa_7 {z0 l q : Nat} {w : am_iv} : fa_w z0 l q w (4, 1, 0) 7 = 1 := by
  unfold fa_w as_heap
  rw [am_ui_o (by simp), rm_ring_v (by decide) (by decide)]
  rfl
theorem fa_st {kd : am_kd} {rv : am_rv} {nl : Nat} {ln : Nat → am_N} {lk : Nat → Nat} {z0 y0 z1 y1 : Nat} {w u : am_iv} (h : bR kd rv nl ln lk z0 y0 z1 y1 0 w u) (ho : oR 0 w u) (N l q : Nat) : (fa_s nl z0 z1 ln lk N l q w).1 = (fa_t nl y0 y1 lk N l q u).1 := (far_alike (fa_tR h ho l q) (r := 0) (by decide) N fa_7).symm
def fa1 (S : Nat → am_iv → Int32 × am_iv) (g : Nat → Int32) : Nat → Nat → Int32 → Int32 → am_iv → Int32 × Int32 × am_iv
  | 0, _, b, a, w => (b, a, w)
  | d + 1, q, b, a, w => fa1 S g d (q + 1) (if (S q w).1 ≤ b then b else (S q w).1) (if (S q w).1 ≤ b then a else g q) (S q w).2
def fa2 (S : Nat → Nat → am_iv → Int32 × am_iv) (B : Nat) : Nat → Nat → Int32 → Int32 → am_iv → Int32 × Int32 × am_iv
  | 0, _, b, a, w => (b, a, w)
  | d + 1, l, b, a, w => fa2 S B d (l + 1) (fa1 (S l) (fun q => 100 * nI l + nI q) B 1 b a w).1 (fa1 (S l) (fun q => 100 * nI l + nI q) B 1 b a w).2.1 (fa1 (S l) (fun q => 100 * nI l + nI q) B 1 b a w).2.2
theorem chB.fa1 {S : Nat → am_iv → Int32 × am_iv} {g : Nat → Int32} (hS : ∀ q w, chB w (S q w).2) (d : Nat) : ∀ q b a w, chB w (_root_.Jvm.Pilot.CSmokeRingsLaw_law_r5279_9afc0a.fa1 S g d q b a w).2.2 := by
  induction d with
  | zero => intro q b a w; exact chB.rf _
  | succ d ih => intro q b a w; exact (hS q w).tr (ih _ _ _ _)
theorem chV.fa1 {S : Nat → am_iv → Int32 × am_iv} {g : Nat → Int32} (hS : ∀ q w, chV w (S q w).2) (d : Nat) : ∀ q b a w, chV w (_root_.Jvm.Pilot.CSmokeRingsLaw_law_r5279_9afc0a.fa1 S g d q b a w).2.2 := by
  induction d with
  | zero => intro q b a w; exact chV.rf _
  | succ d ih => intro q b a w; exact (hS q w).tr (ih _ _ _ _)
/-- the same on both sides -/
theorem fa1_same {kd : am_kd} {rv : am_rv} {nl : Nat} {ln : Nat → am_N} {lk : Nat → Nat} {z0 y0 z1 y1 : Nat} {g : Nat → Int32} (N l : Nat) (d : Nat) : ∀ q b a w u, bR kd rv nl ln lk z0 y0 z1 y1 0 w u → oR 0 w u → (fa1 (fa_s nl z0 z1 ln lk N l) g d q b a w).1 = (fa1 (fa_t nl y0 y1 lk N l) g d q b a u).1 ∧ (fa1 (fa_s nl z0 z1 ln lk N l) g d q b a w).2.1 = (fa1 (fa_t nl y0 y1 lk N l) g d q b a u).2.1 ∧ ((bR kd rv nl ln lk z0 y0 z1 y1 0 (fa1 (fa_s nl z0 z1 ln lk N l) g d q b a w).2.2 (fa1 (fa_t nl y0 y1 lk N l) g d q b a u).2.2 ∧ oR 0 (fa1 (fa_s nl z0 z1 ln lk N l) g d q b a w).2.2 (fa1 (fa_t nl y0 y1 lk N l) g d q b a u).2.2) ∧ chg 1 w (fa1 (fa_s nl z0 z1 ln lk N l) g d q b a w).2.2 ∧ chV u (fa1 (fa_t nl y0 y1 lk N l) g d q b a u).2.2) := by
  induction d with
  | zero => intro q b a w u h ho; exact ⟨rfl, rfl, ⟨h, ho⟩, chg.rf _ _, chV.rf _⟩
  | succ d ih =>
    intro q b a w u h ho
    have e := fa_st h ho N l q
    rw [fa1, fa1, e]
    obtain ⟨h1, h2, h3, h4, h5⟩ := ih (q + 1) (if (fa_t nl y0 y1 lk N l q u).1 ≤ b then b else (fa_t nl y0 y1 lk N l q u).1) (if (fa_t nl y0 y1 lk N l q u).1 ≤ b then a else g q) (fa_s nl z0 z1 ln lk N l q w).2 (fa_t nl y0 y1 lk N l q u).2 ((h.cw chB.fas).cV chU.fat.V1) ((ho.cw chB.fas).cV chU.fat.V1)
    exact ⟨h1, h2, h3, chg.fas.tr h4, chU.fat.V1.tr h5⟩
theorem fa2_same {kd : am_kd} {rv : am_rv} {nl : Nat} {ln : Nat → am_N} {lk : Nat → Nat} {z0 y0 z1 y1 : Nat} (N B : Nat) (d : Nat) : ∀ l b a w u, bR kd rv nl ln lk z0 y0 z1 y1 0 w u → oR 0 w u → same1 w u ((fa2 (fa_s nl z0 z1 ln lk N) B d l b a w).2.1, (fa2 (fa_s nl z0 z1 ln lk N) B d l b a w).2.2) ((fa2 (fa_t nl y0 y1 lk N) B d l b a u).2.1, (fa2 (fa_t nl y0 y1 lk N) B d l b a u).2.2) := by
  induction d with
  | zero => intro l b a w u h ho; exact same1.ok rfl (chT.rf _) (chV.rf _)
  | succ d ih =>
    intro l b a w u h ho
    obtain ⟨h1, h2, h3, h4, h5⟩ := fa1_same (g := fun q => 100 * nI l + nI q) N l B 1 b a w u h ho
    rw [fa2, fa2, h1, h2]
    exact (ih (l + 1) _ _ _ _ h3.1 h3.2).st h4.T1 h5
set_option maxRecDepth 20000 in
theorem fa_in (l0 : Launch) {kd : am_kd} {rv : am_rv} (hS : sh kd rv) (nl z0 z1 : Nat) (ln : Nat → am_N) (lk : Nat → Nat) (x2 x3 : am_V) (N B : Nat) (hN : N < 1000) (hB : B < 1000) (post : Option am_V → am_kd → am_rv → am_iv → Prop) (l : Nat) (hl0 : l < 1000) (d : Nat) : ∀ (q : Nat) (b a : Int32) (w : am_iv) (p8 : Option am_V), sQ kd rv nl ln lk z0 z1 w → q + d = B + 1 → (∀ p8 : Option am_V, am_W l0 mX11_farthest (am_rm 9 0 0) post 125 [some (am_P (1, 0, 0)), some (am_I (nI N)), some x2, some (am_I (nI B)), some (am_I (fa1 ((fa_s nl z0 z1 ln lk N) l) (fun q => 100 * nI l + nI q) d q b a w).1), some (am_I (fa1 ((fa_s nl z0 z1 ln lk N) l) (fun q => 100 * nI l + nI q) d q b a w).2.1), some (am_I (nI l)), some (am_I (nI (B + 1))), p8] [] kd rv (fa1 ((fa_s nl z0 z1 ln lk N) l) (fun q => 100 * nI l + nI q) d q b a w).2.2 0 0) → am_W l0 mX11_farthest (am_rm 9 0 0) post 63 [some (am_P (1, 0, 0)), some (am_I (nI N)), some x2, some (am_I (nI B)), some (am_I b), some (am_I a), some (am_I (nI l)), some (am_I (nI q)), p8] [] kd rv w 0 0 := by
  induction d with
  | zero =>
    intro q b a w p8 hq hd K
    obtain rfl : q = B + 1 := by omega
    refine A_iload (pc := 63) (i := 7) dX11_farthest_63 rfl ?_
    refine A_iload_n (pc := 65) (i := 3) dX11_farthest_65 rfl rfl ?_
    refine A_icmpgt (pc := 66) 125 dX11_farthest_66 (by decide) (fun hb66 => ?_) (fun hb66 => ?_)
    · exact K p8
    · exact absurd ((nI_ltn (by omega) (by omega)).mpr (by omega)) hb66
  | succ d ih =>
    intro q b a w p8 hq hd K
    have hz : am_ui w (2, 1, 0) 1 0 (9, 1, 0) 1 = nI z0 ∧ z0 ≤ 50 := by
      obtain ⟨y0, y1, u, h1, h2⟩ := hq
      exact ⟨(am_ui_o (by simp)).trans h1.2.2.1.1.1, h1.2.2.1.1.2.1⟩
    have hq2 : tQ 1 1 nl z1 ln lk (fa_w z0 l q w) := by
      obtain ⟨y0, y1, u, h1, h2⟩ := hq
      exact ⟨y1, _, fa_tR h1 h2 l q⟩
    have hl := (hq.c ((chB.n (v := 0)).tr (chB.as (n := 0) (z := z0) (a := nI l) (b := nI q)))).laws
    refine A_iload (pc := 63) (i := 7) dX11_farthest_63 rfl ?_
    refine A_iload_n (pc := 65) (i := 3) dX11_farthest_65 rfl rfl ?_
    refine A_icmpgt (pc := 66) 125 dX11_farthest_66 (by decide) (fun hb66 => ?_) (fun hb66 => ?_)
    · exact absurd ((nI_ltn (by omega) (by omega)).mp hb66) (by omega)
    · refine A_aload_n (pc := 69) (i := 0) dX11_farthest_69 rfl rfl ?_
      refine A_getr (pc := 70) 1 fl_X11_16_11 hS.k1 rfl (hS.w1 (k := 1) (by decide)) dX11_farthest_70 ?_
      refine A_iconst (pc := 73) (0) dX11_farthest_73 (by decide) ?_
      refine A_puti (pc := 74) 1 fl_X11_244_4 (hS.k2 (by decide)) rfl (by decide +kernel) rfl rfl dX11_farthest_74 ?_
      refine A_aload_n (pc := 77) (i := 0) dX11_farthest_77 rfl rfl ?_
      refine A_getr (pc := 78) 1 fl_X11_16_11 hS.k1 rfl (hS.w1 (k := 1) (by decide)) dX11_farthest_78 ?_
      refine A_iload_n (pc := 81) (i := 1) dX11_farthest_81 rfl rfl ?_
      refine A_aload_n (pc := 82) (i := 0) dX11_farthest_82 rfl rfl ?_
      refine A_getr (pc := 83) 1 fl_X11_16_11 hS.k1 rfl (hS.w1 (k := 1) (by decide)) dX11_farthest_83 ?_
      refine A_iload (pc := 86) (i := 6) dX11_farthest_86 rfl ?_
      refine A_iload (pc := 88) (i := 7) dX11_farthest_88 rfl ?_
      refine A_callV1 (pc := 90) cv_X11_164 (s_addStroke l0 hS 1 (by decide) 0 (am_ui_s _ _ _ _) (by decide) z0 hz.1 hz.2 _ _) (hS.k2 (by decide)) rfl rfl rfl rfl (Nat.le_of_ble_eq_true rfl) ⟨(Nat.le_of_ble_eq_true rfl), (Nat.le_of_ble_eq_true rfl)⟩ ⟨Nat.zero_le _, Nat.zero_le _⟩ dX11_farthest_90 ?_
      refine A_heap (iv' := fa_w z0 l q w) rfl ?_
      refine A_callV1 (pc := 93) cv_X11_226 (s_greatestX l0 hS 1 (by decide) nl ln lk hl 1 z1 _ tQ.cls (tQ.tick (by decide)) hq2 N (by omega) 0 (by decide)) (hS.k2 (by decide)) rfl rfl rfl rfl (Nat.le_of_ble_eq_true rfl) ⟨(Nat.le_of_ble_eq_true rfl), (Nat.le_of_ble_eq_true rfl)⟩ ⟨Nat.zero_le _, Nat.zero_le _⟩ dX11_farthest_93 ?_
      refine A_ist8 (pc := 96) dX11_farthest_96 (Nat.le_of_ble_eq_true rfl) rfl ?_
      refine A_iload (pc := 98) (i := 8) dX11_farthest_98 rfl ?_
      refine A_iload (pc := 100) (i := 4) dX11_farthest_100 rfl ?_
      refine A_icmple (pc := 102) 119 dX11_farthest_102 (by decide) (fun hb102 => ?_) (fun hb102 => ?_)
      · refine A_inc7 (pc := 119) (nI (q + 1)) dX11_farthest_119 (nI_1 q) (Nat.le_of_ble_eq_true rfl) rfl ?_
        refine A_goto (pc := 122) 63 dX11_farthest_122 (by decide) ?_
        refine ih (q + 1) _ _ _ _ (hq.c chB.fas) (by omega) (fun p8 => ?_)
        have h9 := K p8
        rw [fa1, if_pos (show (fa_s nl z0 z1 ln lk N l q w).1 ≤ b from hb102), if_pos (show (fa_s nl z0 z1 ln lk N l q w).1 ≤ b from hb102)] at h9
        exact h9
      · refine A_iload (pc := 105) (i := 8) dX11_farthest_105 rfl ?_
        refine A_ist4 (pc := 107) dX11_farthest_107 (Nat.le_of_ble_eq_true rfl) rfl ?_
        refine A_bipush (pc := 109) (100) dX11_farthest_109 (by decide) ?_
        refine A_iload (pc := 111) (i := 6) dX11_farthest_111 rfl ?_
        refine A_imul (pc := 113) dX11_farthest_113 ?_
        refine A_iload (pc := 114) (i := 7) dX11_farthest_114 rfl ?_
        refine A_iadd (pc := 116) dX11_farthest_116 ?_
        refine A_ist5 (pc := 117) dX11_farthest_117 (Nat.le_of_ble_eq_true rfl) rfl ?_
        refine A_inc7 (pc := 119) (nI (q + 1)) dX11_farthest_119 (nI_1 q) (Nat.le_of_ble_eq_true rfl) rfl ?_
        refine A_goto (pc := 122) 63 dX11_farthest_122 (by decide) ?_
        refine ih (q + 1) _ _ _ _ (hq.c chB.fas) (by omega) (fun p8 => ?_)
        have h9 := K p8
        rw [fa1, if_neg (show ¬ (fa_s nl z0 z1 ln lk N l q w).1 ≤ b from hb102), if_neg (show ¬ (fa_s nl z0 z1 ln lk N l q w).1 ≤ b from hb102)] at h9
        exact h9
set_option maxRecDepth 20000 in
theorem fa_out (l0 : Launch) {kd : am_kd} {rv : am_rv} (hS : sh kd rv) (nl z0 z1 : Nat) (ln : Nat → am_N) (lk : Nat → Nat) (x3 : am_V) (N A B : Nat) (hN : N < 1000) (hB : B < 1000) (hA : A < 999) (d : Nat) : ∀ (l : Nat) (b a : Int32) (w : am_iv) (p7 p8 : Option am_V), sQ kd rv nl ln lk z0 z1 w → l + d = A + 1 → am_W l0 mX11_farthest (am_rm 9 0 0) (am_ret (some (am_I (fa2 (fa_s nl z0 z1 ln lk N) B d l b a w).2.1)) kd rv (fa2 (fa_s nl z0 z1 ln lk N) B d l b a w).2.2) 54 [some (am_P (1, 0, 0)), some (am_I (nI N)), some (am_I (nI A)), some (am_I (nI B)), some (am_I b), some (am_I a), some (am_I (nI l)), p7, p8] [] kd rv w 0 0 := by
  induction d with
  | zero =>
    intro l b a w p7 p8 hq hd
    refine A_iload (pc := 54) (i := 6) dX11_farthest_54 rfl ?_
    refine A_iload_n (pc := 56) (i := 2) dX11_farthest_56 rfl rfl ?_
    refine A_icmpgt (pc := 57) 131 dX11_farthest_57 (by decide) (fun hb57 => ?_) (fun hb57 => ?_)
    · refine A_iload (pc := 131) (i := 5) dX11_farthest_131 rfl ?_
      exact A_iretE (pc := 133) dX11_farthest_133 rfl (Nat.zero_le _) (Nat.zero_le _) ((rfl)) ((rfl))
    · exact absurd ((nI_ltn (by omega) (by omega)).mpr (by omega)) hb57
  | succ d ih =>
    intro l b a w p7 p8 hq hd
    refine A_iload (pc := 54) (i := 6) dX11_farthest_54 rfl ?_
    refine A_iload_n (pc := 56) (i := 2) dX11_farthest_56 rfl rfl ?_
    refine A_icmpgt (pc := 57) 131 dX11_farthest_57 (by decide) (fun hb57 => ?_) (fun hb57 => ?_)
    · exact absurd ((nI_ltn (by omega) (by omega)).mp hb57) (by omega)
    · refine A_iconst (pc := 60) (1) dX11_farthest_60 (by decide) ?_
      refine A_ist7 (pc := 61) dX11_farthest_61 (Nat.le_of_ble_eq_true rfl) rfl ?_
      refine fa_in l0 hS nl z0 z1 ln lk _ x3 N B hN hB _ l (by omega) B 1 b a w p8 hq (by omega) (fun p8 => ?_)
      refine A_inc6 (pc := 125) (nI (l + 1)) dX11_farthest_125 (nI_1 l) (Nat.le_of_ble_eq_true rfl) rfl ?_
      refine A_goto (pc := 128) 54 dX11_farthest_128 (by decide) ?_
      rw [fa2]
      exact ih (l + 1) _ _ _ _ _ (hq.c (chB.fa1 (fun q w => chB.fas) _ _ _ _ _)) (by omega)
      -- end
noncomputable def c_farthest (x y t : Int32) (n nl z0 z1 zt zw : Nat) (ln : Nat → am_N) (lk : Nat → Nat) (rv : am_rv) (iv : am_iv) : Int32 × am_rv × am_iv := if sr_b (0 ≤ x ∧ x ≤ 60) = 0 then (-1000000001, rv, er_heap 1 iv) else if sr_b (1 ≤ y ∧ y ≤ 40) = 0 then (-1000000001, rv, er_heap 1 iv) else if sr_b (1 ≤ t ∧ t ≤ 20) = 0 then (-1000000001, rv, er_heap 1 iv) else ((fa2 (fa_s nl z0 z1 ln lk x.toNatClampNeg) t.toNatClampNeg y.toNatClampNeg 1 (-1) 0 (rb_heap 1 0 n z0 z1 zt zw iv)).2.1, (lw_cp 1 0 rv 6), (fa2 (fa_s nl z0 z1 ln lk x.toNatClampNeg) t.toNatClampNeg y.toNatClampNeg 1 (-1) 0 (rb_heap 1 0 n z0 z1 zt zw iv)).2.2)
set_option maxRecDepth 20000 in
theorem p_farthest (l : Launch) {kd : am_kd} {rv : am_rv} {iv : am_iv} (hS : sh kd rv) (x y t : Int32) (n nl z0 z1 zt zw : Nat) (ln : Nat → am_N) (lk : Nat → Nat) (hA : AH kd rv n z0 z1 zt zw iv) (hl : rm_laws kd (lw_cp 1 0 rv 6) (rb_heap 1 0 n z0 z1 zt zw iv) 1 nl ln lk) (hq : tQ 1 n nl z1 ln lk (rb_heap 1 0 n z0 z1 zt zw iv)) (hs : sQ kd (lw_cp 1 0 rv 6) nl ln lk z0 z1 (rb_heap 1 0 n z0 z1 zt zw iv)) : am_Met l mX11_farthest (am_rm 9 0 0) [am_P (1, 0, 0), am_I x, am_I y, am_I t] kd rv iv (am_ret (some (am_I (c_farthest x y t n nl z0 z1 zt zw ln lk rv iv).1)) kd (c_farthest x y t n nl z0 z1 zt zw ln lk rv iv).2.1 (c_farthest x y t n nl z0 z1 zt zw ln lk rv iv).2.2) := by
  refine am_Met.of (by decide) (Nat.le_of_ble_eq_true rfl) rfl ?_
  have hn := hA.1.1
  have hn8 := hA.1.2.1
  refine A_iload_n (pc := 0) (i := 1) dX11_farthest_0 rfl rfl ?_
  refine A_callS1 (pc := 1) cs_X11_211 (s_isAhead l _) rfl rfl (Nat.le_of_ble_eq_true rfl) ⟨(Nat.le_of_ble_eq_true rfl), (Nat.le_of_ble_eq_true rfl)⟩ ⟨Nat.zero_le _, Nat.zero_le _⟩ dX11_farthest_1 ?_
  refine A_ifeq (pc := 4) 27 dX11_farthest_4 (by decide) (fun hb4 => ?_) (fun hb4 => ?_)
  · refine A_aload_n (pc := 27) (i := 0) dX11_farthest_27 rfl rfl ?_
    refine A_ldc (pc := 28) (List.mem_cons_of_mem _ kc_X11_60) dX11_farthest_28 ?_
    refine A_callV1 (pc := 30) cv_X11_61 (s_err1 l hS) hS.k1 rfl rfl rfl rfl (Nat.le_of_ble_eq_true rfl) ⟨(Nat.le_of_ble_eq_true rfl), (Nat.le_of_ble_eq_true rfl)⟩ ⟨Nat.zero_le _, Nat.zero_le _⟩ dX11_farthest_30 ?_
    rw [c_farthest, if_pos hb4]
    exact A_iretE (pc := 33) dX11_farthest_33 rfl (Nat.zero_le _) (Nat.zero_le _) ((rfl)) ((rfl))
  · refine A_iload_n (pc := 7) (i := 2) dX11_farthest_7 rfl rfl ?_
    refine A_iconst (pc := 8) (1) dX11_farthest_8 (by decide) ?_
    refine A_bipush (pc := 9) (40) dX11_farthest_9 (by decide) ?_
    refine A_callS1 (pc := 11) cs_X11_56 (s_isHeld l _ _ _) rfl rfl (Nat.le_of_ble_eq_true rfl) ⟨(Nat.le_of_ble_eq_true rfl), (Nat.le_of_ble_eq_true rfl)⟩ ⟨Nat.zero_le _, Nat.zero_le _⟩ dX11_farthest_11 ?_
    refine A_ifeq (pc := 14) 27 dX11_farthest_14 (by decide) (fun hb14 => ?_) (fun hb14 => ?_)
    · refine A_aload_n (pc := 27) (i := 0) dX11_farthest_27 rfl rfl ?_
      refine A_ldc (pc := 28) (List.mem_cons_of_mem _ kc_X11_60) dX11_farthest_28 ?_
      refine A_callV1 (pc := 30) cv_X11_61 (s_err1 l hS) hS.k1 rfl rfl rfl rfl (Nat.le_of_ble_eq_true rfl) ⟨(Nat.le_of_ble_eq_true rfl), (Nat.le_of_ble_eq_true rfl)⟩ ⟨Nat.zero_le _, Nat.zero_le _⟩ dX11_farthest_30 ?_
      rw [c_farthest, if_neg hb4, if_pos hb14]
      exact A_iretE (pc := 33) dX11_farthest_33 rfl (Nat.zero_le _) (Nat.zero_le _) ((rfl)) ((rfl))
    · refine A_iload_n (pc := 17) (i := 3) dX11_farthest_17 rfl rfl ?_
      refine A_iconst (pc := 18) (1) dX11_farthest_18 (by decide) ?_
      refine A_bipush (pc := 19) (20) dX11_farthest_19 (by decide) ?_
      refine A_callS1 (pc := 21) cs_X11_56 (s_isHeld l _ _ _) rfl rfl (Nat.le_of_ble_eq_true rfl) ⟨(Nat.le_of_ble_eq_true rfl), (Nat.le_of_ble_eq_true rfl)⟩ ⟨Nat.zero_le _, Nat.zero_le _⟩ dX11_farthest_21 ?_
      refine A_ifne (pc := 24) 34 dX11_farthest_24 (by decide) (fun hb24 => ?_) (fun hb24 => ?_)
      · have hx := (sr_b_1 _).mp hb4
        have hy := (sr_b_1 _).mp hb14
        have hb := (sr_b_1 _).mp hb24
        have hy0 : 0 ≤ y := Int32.le_trans (by decide) hy.1
        have hb0 : 0 ≤ t := Int32.le_trans (by decide) hb.1
        have hy40 := nI_cl_le (n := 40) hy0 hy.2 (by decide)
        have hb20 := nI_cl_le (n := 20) hb0 hb.2 (by decide)
        refine A_aload_n (pc := 34) (i := 0) dX11_farthest_34 rfl rfl ?_
        refine A_getr (pc := 35) 1 fl_X11_16_11 hS.k1 rfl (hS.w1 (k := 1) (by decide)) dX11_farthest_35 ?_
        refine A_aload_n (pc := 38) (i := 0) dX11_farthest_38 rfl rfl ?_
        refine A_getr (pc := 39) 0 fl_X11_12_11 hS.k1 rfl (hS.w1 (k := 0) (by decide)) dX11_farthest_39 ?_
        refine A_callV0 (pc := 42) cv_X11_220 (s_bec l hS hA) (hS.k2 (by decide)) rfl rfl rfl rfl (Nat.le_of_ble_eq_true rfl) ⟨(Nat.le_of_ble_eq_true rfl), (Nat.le_of_ble_eq_true rfl)⟩ ⟨Nat.zero_le _, Nat.zero_le _⟩ dX11_farthest_42 ?_
        have hS := lw_cp_sh (i := 1) (o := 0) hS 6
        refine A_iconst (pc := 45) (-1) dX11_farthest_45 (by decide) ?_
        refine A_ist4 (pc := 46) dX11_farthest_46 (Nat.le_of_ble_eq_true rfl) rfl ?_
        refine A_iconst (pc := 48) (0) dX11_farthest_48 (by decide) ?_
        refine A_ist5 (pc := 49) dX11_farthest_49 (Nat.le_of_ble_eq_true rfl) rfl ?_
        refine A_iconst (pc := 51) (1) dX11_farthest_51 (by decide) ?_
        refine A_ist6 (pc := 52) dX11_farthest_52 (Nat.le_of_ble_eq_true rfl) rfl ?_
        rw [c_farthest, if_neg hb4, if_neg hb14, if_neg hb24]
        have h9 := fa_out l hS nl z0 z1 ln lk (am_I 0) x.toNatClampNeg y.toNatClampNeg t.toNatClampNeg (Nat.lt_of_le_of_lt (ah60 hx) (by decide)) (by omega) (by omega) y.toNatClampNeg 1 (-1) 0 (rb_heap 1 0 n z0 z1 zt zw iv) none none hs (Nat.add_comm _ _)
        rw [← nI_cl hx.1, ← nI_cl hy0, ← nI_cl hb0] at h9
        exact h9
      · refine A_aload_n (pc := 27) (i := 0) dX11_farthest_27 rfl rfl ?_
        refine A_ldc (pc := 28) (List.mem_cons_of_mem _ kc_X11_60) dX11_farthest_28 ?_
        refine A_callV1 (pc := 30) cv_X11_61 (s_err1 l hS) hS.k1 rfl rfl rfl rfl (Nat.le_of_ble_eq_true rfl) ⟨(Nat.le_of_ble_eq_true rfl), (Nat.le_of_ble_eq_true rfl)⟩ ⟨Nat.zero_le _, Nat.zero_le _⟩ dX11_farthest_30 ?_
        rw [c_farthest, if_neg hb4, if_neg hb14, if_pos hb24]
        exact A_iretE (pc := 33) dX11_farthest_33 rfl (Nat.zero_le _) (Nat.zero_le _) ((rfl)) ((rfl))
set_option maxRecDepth 20000 in
theorem ra_in (l0 : Launch) {kd : am_kd} {rv : am_rv} (hR : shr kd rv) (nl y0 z : Nat) (lk : Nat → Nat) (x2 : am_V) (N B : Nat) (hN : N < 1000) (hB : B < 1000) (post : Option am_V → am_kd → am_rv → am_iv → Prop) (l : Nat) (hl0 : l < 1000) (d : Nat) : ∀ (q : Nat) (b a : Int32) (w : am_iv) (p8 p9 : Option am_V), vQ nl lk y0 z w → q + d = B + 1 → (∀ p8 p9 : Option am_V, am_W l0 mX12_farthest (am_rm 50 0 0) post 150 [some (am_P (30, 0, 0)), some (am_I (nI N)), some x2, some (am_I (nI B)), some (am_I (fa1 ((fa_t nl y0 z lk N) l) (fun q => 100 * nI l + nI q) d q b a w).2.1), some (am_I (fa1 ((fa_t nl y0 z lk N) l) (fun q => 100 * nI l + nI q) d q b a w).1), some (am_I (nI l)), some (am_I (nI (B + 1))), p8, p9] [] kd rv (fa1 ((fa_t nl y0 z lk N) l) (fun q => 100 * nI l + nI q) d q b a w).2.2 0 0) → am_W l0 mX12_farthest (am_rm 50 0 0) post 55 [some (am_P (30, 0, 0)), some (am_I (nI N)), some x2, some (am_I (nI B)), some (am_I a), some (am_I b), some (am_I (nI l)), some (am_I (nI q)), p8, p9] [] kd rv w 0 0 := by
  induction d with
  | zero =>
    intro q b a w p8 p9 hq hd K
    obtain rfl : q = B + 1 := by omega
    refine A_iload (pc := 55) (i := 7) dX12_farthest_55 rfl ?_
    refine A_iload_n (pc := 57) (i := 3) dX12_farthest_57 rfl rfl ?_
    refine A_icmpgt (pc := 58) 150 dX12_farthest_58 (by decide) (fun hb58 => ?_) (fun hb58 => ?_)
    · exact K p8 p9
    · exact absurd ((nI_ltn (by omega) (by omega)).mpr (by omega)) hb58
  | succ d ih =>
    intro q b a w p8 p9 hq hd K
    have hz : am_ui (rx_cp (31, 0, 0) (31, 1, 0) w 300) (31, 1, 0) 1 0 (31, 0, 0) 40 = nI y0 ∧ y0 ≤ 50 := by
      obtain ⟨kd, rv, ln, z0, z1, v, h1, h2⟩ := hq
      exact ⟨by rw [am_ui_o (by simp), rx_cp_o (by simp)]; exact h1.2.2.1.1.2.2.1, h1.2.2.1.1.2.2.2.1⟩
    have hq2 : rQ 1 1 nl z lk (fa_u y0 l q w) := by
      obtain ⟨kd, rv, ln, z0, z1, v, h1, h2⟩ := hq
      exact ⟨z1, ln, _, fa_tR h1 h2 l q⟩
    refine A_iload (pc := 55) (i := 7) dX12_farthest_55 rfl ?_
    refine A_iload_n (pc := 57) (i := 3) dX12_farthest_57 rfl rfl ?_
    refine A_icmpgt (pc := 58) 150 dX12_farthest_58 (by decide) (fun hb58 => ?_) (fun hb58 => ?_)
    · exact absurd ((nI_ltn (by omega) (by omega)).mp hb58) (by omega)
    · refine A_aload_n (pc := 61) (i := 0) dX12_farthest_61 rfl rfl ?_
      refine A_getr (pc := 62) 0 fl_X12_7_12 hR.1 rfl hR.w0 dX12_farthest_62 ?_
      refine A_aload_n (pc := 65) (i := 0) dX12_farthest_65 rfl rfl ?_
      refine A_getr (pc := 66) 1 fl_X12_13_12 hR.1 rfl hR.w1 dX12_farthest_66 ?_
      refine A_callS0 (pc := 69) cs_X12_240 (r_copies l0 (31, 0, 0) (31, 1, 0) hR.k0 hR.k1 (by simp)) rfl rfl (Nat.le_of_ble_eq_true rfl) ⟨(Nat.le_of_ble_eq_true rfl), (Nat.le_of_ble_eq_true rfl)⟩ ⟨Nat.zero_le _, Nat.zero_le _⟩ dX12_farthest_69 ?_
      refine A_aload_n (pc := 72) (i := 0) dX12_farthest_72 rfl rfl ?_
      refine A_getr (pc := 73) 1 fl_X12_13_12 hR.1 rfl hR.w1 dX12_farthest_73 ?_
      refine A_iconst (pc := 76) (1) dX12_farthest_76 (by decide) ?_
      refine A_iconst (pc := 77) (0) dX12_farthest_77 (by decide) ?_
      refine A_iastN (pc := 78) hR.k1 (show 1 < 300 by decide) (by decide) dX12_farthest_78 ?_
      refine A_aload_n (pc := 79) (i := 0) dX12_farthest_79 rfl rfl ?_
      refine A_aload_n (pc := 80) (i := 0) dX12_farthest_80 rfl rfl ?_
      refine A_getr (pc := 81) 1 fl_X12_13_12 hR.1 rfl hR.w1 dX12_farthest_81 ?_
      refine A_iload (pc := 84) (i := 6) dX12_farthest_84 rfl ?_
      refine A_iload (pc := 86) (i := 7) dX12_farthest_86 rfl ?_
      refine A_callV1 (pc := 88) cv_X12_203 (r_strokes l0 hR 1 (by decide) hR.k1 0 (am_ui_s _ _ _ _) (by decide) y0 hz.1 hz.2 _ _) hR.1 rfl rfl rfl rfl (Nat.le_of_ble_eq_true rfl) ⟨(Nat.le_of_ble_eq_true rfl), (Nat.le_of_ble_eq_true rfl)⟩ ⟨Nat.zero_le _, Nat.zero_le _⟩ dX12_farthest_88 ?_
      refine A_heap (iv' := fa_u y0 l q w) rfl ?_
      refine A_ist8 (pc := 91) dX12_farthest_91 (Nat.le_of_ble_eq_true rfl) rfl ?_
      refine A_aload_n (pc := 93) (i := 0) dX12_farthest_93 rfl rfl ?_
      refine A_aload_n (pc := 94) (i := 0) dX12_farthest_94 rfl rfl ?_
      refine A_getr (pc := 95) 1 fl_X12_13_12 hR.1 rfl hR.w1 dX12_farthest_95 ?_
      refine A_iload_n (pc := 98) (i := 1) dX12_farthest_98 rfl rfl ?_
      refine A_iload (pc := 99) (i := 8) dX12_farthest_99 rfl ?_
      refine A_callV1 (pc := 101) cv_X12_257 (r_farIn l0 hR 1 (by decide) hR.k1 1 nl z lk _ rQ.ref (rQ.tick (by decide)) hq2 N (by omega) 0 (by decide)) hR.1 rfl rfl rfl rfl (Nat.le_of_ble_eq_true rfl) ⟨(Nat.le_of_ble_eq_true rfl), (Nat.le_of_ble_eq_true rfl)⟩ ⟨Nat.zero_le _, Nat.zero_le _⟩ dX12_farthest_101 ?_
      refine A_ist9 (pc := 104) dX12_farthest_104 (Nat.le_of_ble_eq_true rfl) rfl ?_
      refine A_iload (pc := 106) (i := 9) dX12_farthest_106 rfl ?_
      refine A_iload (pc := 108) (i := 5) dX12_farthest_108 rfl ?_
      refine A_icmple (pc := 110) 124 dX12_farthest_110 (by decide) (fun hb110 => ?_) (fun hb110 => ?_)
      · refine A_iload (pc := 124) (i := 4) dX12_farthest_124 rfl ?_
        refine A_ist4 (pc := 126) dX12_farthest_126 (Nat.le_of_ble_eq_true rfl) rfl ?_
        refine A_iload (pc := 128) (i := 9) dX12_farthest_128 rfl ?_
        refine A_iload (pc := 130) (i := 5) dX12_farthest_130 rfl ?_
        refine A_icmple (pc := 132) 140 dX12_farthest_132 (by decide) (fun hb132 => ?_) (fun hb132 => ?_)
        · refine A_iload (pc := 140) (i := 5) dX12_farthest_140 rfl ?_
          refine A_ist5 (pc := 142) dX12_farthest_142 (Nat.le_of_ble_eq_true rfl) rfl ?_
          refine A_inc7 (pc := 144) (nI (q + 1)) dX12_farthest_144 (nI_1 q) (Nat.le_of_ble_eq_true rfl) rfl ?_
          refine A_goto (pc := 147) 55 dX12_farthest_147 (by decide) ?_
          refine ih (q + 1) _ _ _ _ _ (hq.c chU.fat.V1) (by omega) (fun p8 p9 => ?_)
          have h9 := K p8 p9
          rw [fa1, if_pos (show (fa_t nl y0 z lk N l q w).1 ≤ b from hb110), if_pos (show (fa_t nl y0 z lk N l q w).1 ≤ b from hb110)] at h9
          exact h9
        · refine A_iload (pc := 135) (i := 9) dX12_farthest_135 rfl ?_
          refine A_goto (pc := 137) 142 dX12_farthest_137 (by decide) ?_
          refine A_ist5 (pc := 142) dX12_farthest_142 (Nat.le_of_ble_eq_true rfl) rfl ?_
          refine A_inc7 (pc := 144) (nI (q + 1)) dX12_farthest_144 (nI_1 q) (Nat.le_of_ble_eq_true rfl) rfl ?_
          refine A_goto (pc := 147) 55 dX12_farthest_147 (by decide) ?_
          exact absurd hb110 hb132
      · refine A_bipush (pc := 113) (100) dX12_farthest_113 (by decide) ?_
        refine A_iload (pc := 115) (i := 6) dX12_farthest_115 rfl ?_
        refine A_imul (pc := 117) dX12_farthest_117 ?_
        refine A_iload (pc := 118) (i := 7) dX12_farthest_118 rfl ?_
        refine A_iadd (pc := 120) dX12_farthest_120 ?_
        refine A_goto (pc := 121) 126 dX12_farthest_121 (by decide) ?_
        refine A_ist4 (pc := 126) dX12_farthest_126 (Nat.le_of_ble_eq_true rfl) rfl ?_
        refine A_iload (pc := 128) (i := 9) dX12_farthest_128 rfl ?_
        refine A_iload (pc := 130) (i := 5) dX12_farthest_130 rfl ?_
        refine A_icmple (pc := 132) 140 dX12_farthest_132 (by decide) (fun hb132 => ?_) (fun hb132 => ?_)
        · refine A_iload (pc := 140) (i := 5) dX12_farthest_140 rfl ?_
          refine A_ist5 (pc := 142) dX12_farthest_142 (Nat.le_of_ble_eq_true rfl) rfl ?_
          refine A_inc7 (pc := 144) (nI (q + 1)) dX12_farthest_144 (nI_1 q) (Nat.le_of_ble_eq_true rfl) rfl ?_
          refine A_goto (pc := 147) 55 dX12_farthest_147 (by decide) ?_
          exact absurd hb132 hb110
        · refine A_iload (pc := 135) (i := 9) dX12_farthest_135 rfl ?_
          refine A_goto (pc := 137) 142 dX12_farthest_137 (by decide) ?_
          refine A_ist5 (pc := 142) dX12_farthest_142 (Nat.le_of_ble_eq_true rfl) rfl ?_
          refine A_inc7 (pc := 144) (nI (q + 1)) dX12_farthest_144 (nI_1 q) (Nat.le_of_ble_eq_true rfl) rfl ?_
          refine A_goto (pc := 147) 55 dX12_farthest_147 (by decide) ?_
          refine ih (q + 1) _ _ _ _ _ (hq.c chU.fat.V1) (by omega) (fun p8 p9 => ?_)
          have h9 := K p8 p9
          rw [fa1, if_neg (show ¬ (fa_t nl y0 z lk N l q w).1 ≤ b from hb110), if_neg (show ¬ (fa_t nl y0 z lk N l q w).1 ≤ b from hb110)] at h9
          exact h9
set_option maxRecDepth 20000 in
theorem ra_out (l0 : Launch) {kd : am_kd} {rv : am_rv} (hR : shr kd rv) (nl y0 z : Nat) (lk : Nat → Nat) (N A B : Nat) (hN : N < 1000) (hB : B < 1000) (hA : A < 999) (d : Nat) : ∀ (l : Nat) (b a : Int32) (w : am_iv) (p7 p8 p9 : Option am_V), vQ nl lk y0 z w → l + d = A + 1 → am_W l0 mX12_farthest (am_rm 50 0 0) (am_ret (some (am_I (fa2 (fa_t nl y0 z lk N) B d l b a w).2.1)) kd rv (fa2 (fa_t nl y0 z lk N) B d l b a w).2.2) 46 [some (am_P (30, 0, 0)), some (am_I (nI N)), some (am_I (nI A)), some (am_I (nI B)), some (am_I a), some (am_I b), some (am_I (nI l)), p7, p8, p9] [] kd rv w 0 0 := by
  induction d with
  | zero =>
    intro l b a w p7 p8 p9 hq hd
    refine A_iload (pc := 46) (i := 6) dX12_farthest_46 rfl ?_
    refine A_iload_n (pc := 48) (i := 2) dX12_farthest_48 rfl rfl ?_
    refine A_icmpgt (pc := 49) 156 dX12_farthest_49 (by decide) (fun hb49 => ?_) (fun hb49 => ?_)
    · refine A_iload (pc := 156) (i := 4) dX12_farthest_156 rfl ?_
      exact A_iretE (pc := 158) dX12_farthest_158 rfl (Nat.zero_le _) (Nat.zero_le _) ((rfl)) ((rfl))
    · exact absurd ((nI_ltn (by omega) (by omega)).mpr (by omega)) hb49
  | succ d ih =>
    intro l b a w p7 p8 p9 hq hd
    refine A_iload (pc := 46) (i := 6) dX12_farthest_46 rfl ?_
    refine A_iload_n (pc := 48) (i := 2) dX12_farthest_48 rfl rfl ?_
    refine A_icmpgt (pc := 49) 156 dX12_farthest_49 (by decide) (fun hb49 => ?_) (fun hb49 => ?_)
    · exact absurd ((nI_ltn (by omega) (by omega)).mp hb49) (by omega)
    · refine A_iconst (pc := 52) (1) dX12_farthest_52 (by decide) ?_
      refine A_ist7 (pc := 53) dX12_farthest_53 (Nat.le_of_ble_eq_true rfl) rfl ?_
      refine ra_in l0 hR nl y0 z lk _ N B hN hB _ l (by omega) B 1 b a w p8 p9 hq (by omega) (fun p8 p9 => ?_)
      refine A_inc6 (pc := 150) (nI (l + 1)) dX12_farthest_150 (nI_1 l) (Nat.le_of_ble_eq_true rfl) rfl ?_
      refine A_goto (pc := 153) 46 dX12_farthest_153 (by decide) ?_
      rw [fa2]
      exact ih (l + 1) _ _ _ _ _ _ (hq.c (chV.fa1 (fun q w => chU.fat.V1) _ _ _ _ _)) (by omega)
      -- end
noncomputable def d_farthest (x y t : Int32) (y0 n nl z : Nat) (lk : Nat → Nat) (iv : am_iv) : Int32 × am_iv := if sr_b (0 ≤ x ∧ x ≤ 60) = 0 then (-1000000001, rx_find 1 iv) else if sr_b (1 ≤ y ∧ y ≤ 40) = 0 then (-1000000001, rx_find 1 iv) else if sr_b (1 ≤ t ∧ t ≤ 20) = 0 then (-1000000001, rx_find 1 iv) else ((fa2 (fa_t nl y0 z lk x.toNatClampNeg) t.toNatClampNeg y.toNatClampNeg 1 (-1) 0 iv).2.1, (fa2 (fa_t nl y0 z lk x.toNatClampNeg) t.toNatClampNeg y.toNatClampNeg 1 (-1) 0 iv).2.2)
set_option maxRecDepth 20000 in
theorem q_farthest (l : Launch) {kd : am_kd} {rv : am_rv} {iv : am_iv} (hR : shr kd rv) (x y t : Int32) (y0 n nl z : Nat) (lk : Nat → Nat) (hv : vQ nl lk y0 z iv) : am_Met l mX12_farthest (am_rm 50 0 0) [am_P (30, 0, 0), am_I x, am_I y, am_I t] kd rv iv (am_ret (some (am_I (d_farthest x y t y0 n nl z lk iv).1)) kd rv (d_farthest x y t y0 n nl z lk iv).2) := by
  refine am_Met.of (by decide) (Nat.le_of_ble_eq_true rfl) rfl ?_
  refine A_iload_n (pc := 0) (i := 1) dX12_farthest_0 rfl rfl ?_
  refine A_callS1 (pc := 1) cs_X12_244 (r_isAhead l _) rfl rfl (Nat.le_of_ble_eq_true rfl) ⟨(Nat.le_of_ble_eq_true rfl), (Nat.le_of_ble_eq_true rfl)⟩ ⟨Nat.zero_le _, Nat.zero_le _⟩ dX12_farthest_1 ?_
  refine A_ifeq (pc := 4) 31 dX12_farthest_4 (by decide) (fun hb4 => ?_) (fun hb4 => ?_)
  · refine A_aload_n (pc := 31) (i := 0) dX12_farthest_31 rfl rfl ?_
    refine A_iconst (pc := 32) (1) dX12_farthest_32 (by decide) ?_
    refine A_callV1 (pc := 33) cv_X12_65 (r_fnd1 l hR) hR.1 rfl rfl rfl rfl (Nat.le_of_ble_eq_true rfl) ⟨(Nat.le_of_ble_eq_true rfl), (Nat.le_of_ble_eq_true rfl)⟩ ⟨Nat.zero_le _, Nat.zero_le _⟩ dX12_farthest_33 ?_
    exact A_iretE (pc := 36) dX12_farthest_36 rfl (Nat.zero_le _) (Nat.zero_le _) (by rw [d_farthest, if_pos hb4]) (by rw [d_farthest, if_pos hb4])
  · refine A_iload_n (pc := 7) (i := 2) dX12_farthest_7 rfl rfl ?_
    refine A_i2l (pc := 8) dX12_farthest_8 ?_
    refine A_lconst (pc := 9) (1) dX12_farthest_9 (by decide) ?_
    refine A_topJ (y := Int32.toInt64 (1)) (by decide +kernel) ?_
    refine A_ldc2 (pc := 10) (List.mem_cons_of_mem _ kc_X12_260) dX12_farthest_10 ?_
    refine A_topJ (y := Int32.toInt64 (40)) (by decide +kernel) ?_
    refine A_callS1 (pc := 13) cs_X12_48 (r_in l _ _ _) rfl rfl (Nat.le_of_ble_eq_true rfl) ⟨(Nat.le_of_ble_eq_true rfl), (Nat.le_of_ble_eq_true rfl)⟩ ⟨Nat.zero_le _, Nat.zero_le _⟩ dX12_farthest_13 ?_
    refine A_ifeq (pc := 16) 31 dX12_farthest_16 (by decide) (fun hb16 => ?_) (fun hb16 => ?_)
    · refine A_aload_n (pc := 31) (i := 0) dX12_farthest_31 rfl rfl ?_
      refine A_iconst (pc := 32) (1) dX12_farthest_32 (by decide) ?_
      refine A_callV1 (pc := 33) cv_X12_65 (r_fnd1 l hR) hR.1 rfl rfl rfl rfl (Nat.le_of_ble_eq_true rfl) ⟨(Nat.le_of_ble_eq_true rfl), (Nat.le_of_ble_eq_true rfl)⟩ ⟨Nat.zero_le _, Nat.zero_le _⟩ dX12_farthest_33 ?_
      exact A_iretE (pc := 36) dX12_farthest_36 rfl (Nat.zero_le _) (Nat.zero_le _) (by rw [d_farthest, if_neg hb4, if_pos hb16]) (by rw [d_farthest, if_neg hb4, if_pos hb16])
    · refine A_iload_n (pc := 19) (i := 3) dX12_farthest_19 rfl rfl ?_
      refine A_i2l (pc := 20) dX12_farthest_20 ?_
      refine A_lconst (pc := 21) (1) dX12_farthest_21 (by decide) ?_
      refine A_topJ (y := Int32.toInt64 (1)) (by decide +kernel) ?_
      refine A_ldc2 (pc := 22) (List.mem_cons_of_mem _ kc_X12_262) dX12_farthest_22 ?_
      refine A_topJ (y := Int32.toInt64 (20)) (by decide +kernel) ?_
      refine A_callS1 (pc := 25) cs_X12_48 (r_in l _ _ _) rfl rfl (Nat.le_of_ble_eq_true rfl) ⟨(Nat.le_of_ble_eq_true rfl), (Nat.le_of_ble_eq_true rfl)⟩ ⟨Nat.zero_le _, Nat.zero_le _⟩ dX12_farthest_25 ?_
      refine A_ifne (pc := 28) 37 dX12_farthest_28 (by decide) (fun hb28 => ?_) (fun hb28 => ?_)
      · have hx := (sr_b_1 _).mp hb4
        have hy := (sr_b_1 _).mp hb16
        have hb := (sr_b_1 _).mp hb28
        have hy0 : 0 ≤ y := Int32.le_trans (by decide) hy.1
        have hb0 : 0 ≤ t := Int32.le_trans (by decide) hb.1
        have hy40 := nI_cl_le (n := 40) hy0 hy.2 (by decide)
        have hb20 := nI_cl_le (n := 20) hb0 hb.2 (by decide)
        refine A_iconst (pc := 37) (0) dX12_farthest_37 (by decide) ?_
        refine A_ist4 (pc := 38) dX12_farthest_38 (Nat.le_of_ble_eq_true rfl) rfl ?_
        refine A_iconst (pc := 40) (-1) dX12_farthest_40 (by decide) ?_
        refine A_ist5 (pc := 41) dX12_farthest_41 (Nat.le_of_ble_eq_true rfl) rfl ?_
        refine A_iconst (pc := 43) (1) dX12_farthest_43 (by decide) ?_
        refine A_ist6 (pc := 44) dX12_farthest_44 (Nat.le_of_ble_eq_true rfl) rfl ?_
        rw [show (d_farthest x y t y0 n nl z lk iv) = ((fa2 (fa_t nl y0 z lk x.toNatClampNeg) t.toNatClampNeg y.toNatClampNeg 1 (-1) 0 iv).2.1, (fa2 (fa_t nl y0 z lk x.toNatClampNeg) t.toNatClampNeg y.toNatClampNeg 1 (-1) 0 iv).2.2) from by rw [d_farthest, if_neg hb4, if_neg hb16, if_neg hb28]]
        have h9 := ra_out l hR nl y0 z lk x.toNatClampNeg y.toNatClampNeg t.toNatClampNeg (Nat.lt_of_le_of_lt (ah60 hx) (by decide)) (by omega) (by omega) y.toNatClampNeg 1 (-1) 0 iv none none none hv (Nat.add_comm _ _)
        rw [← nI_cl hx.1, ← nI_cl hy0, ← nI_cl hb0] at h9
        exact h9
      · refine A_aload_n (pc := 31) (i := 0) dX12_farthest_31 rfl rfl ?_
        refine A_iconst (pc := 32) (1) dX12_farthest_32 (by decide) ?_
        refine A_callV1 (pc := 33) cv_X12_65 (r_fnd1 l hR) hR.1 rfl rfl rfl rfl (Nat.le_of_ble_eq_true rfl) ⟨(Nat.le_of_ble_eq_true rfl), (Nat.le_of_ble_eq_true rfl)⟩ ⟨Nat.zero_le _, Nat.zero_le _⟩ dX12_farthest_33 ?_
        exact A_iretE (pc := 36) dX12_farthest_36 rfl (Nat.zero_le _) (Nat.zero_le _) (by rw [d_farthest, if_neg hb4, if_neg hb16, if_pos hb28]) (by rw [d_farthest, if_neg hb4, if_neg hb16, if_pos hb28])
theorem call_farthest (l : Launch) {kd : am_kd} {rv : am_rv} {iv : am_iv} (h : REL kd rv iv iv) (x : Int32) (y : Int32) (t : Int32) : CALL l kd rv iv mX11_farthest mX12_farthest [am_I x, am_I y, am_I t] := by
  obtain ⟨n, nl, ln, lk, z0, y0, z1, y1, zt, zw, hX⟩ := h.n
  have hA := hX.AH h.1
  have hn8 := hX.1.1.2.2
  have hB := hX.b0 (h.z (i := 1) (by decide))
  have hl := hB.1.laws
  have hq : tQ 1 n nl z1 ln lk (rb_heap 1 0 n z0 z1 zt zw iv) := ⟨y1, _, ah_tR hX (h.z (i := 1) (by decide))⟩
  refine CALL.fs (d2 := 50) h (c_farthest x y t n nl z0 z1 zt zw ln lk rv iv) (d_farthest x y t y0 n nl y1 lk) (p_farthest l h.S x y t n nl z0 z1 zt zw ln lk hA hl hq ⟨_, _, _, hB.1, hB.2.1⟩) (fun hR h1 eu => ?_) (by decide) (by decide) (fun u hu eu => ?_)
  · have hX := hX.u eu
    have hq : rQ 1 n nl y1 lk (rx_cp (31, 0, 0) (31, 1, 0) _ 300) := ⟨z1, ln, _, ah_tR hX (h.z (i := 1) (by decide))⟩
    have hb := hX.b0 (h.z (i := 1) (by decide))
    exact q_farthest l hR x y t y0 n nl y1 lk ⟨_, _, _, _, _, _, hb.1, hb.2.1⟩
  · have hX := hX.u eu
    have hz := hu.z (i := 1) (by decide)
    have hT := ah_tR hX hz
    have hb := hX.b0 hz
    unfold c_farthest d_farthest
    by_cases c0 : sr_b (0 ≤ x ∧ x ≤ 60) = 0
    · rw [if_pos c0, if_pos c0]; exact SM.err hu _ 1 (by decide)
    · rw [if_neg c0, if_neg c0]
      by_cases c1 : sr_b (1 ≤ y ∧ y ≤ 40) = 0
      · rw [if_pos c1, if_pos c1]; exact SM.err hu _ 1 (by decide)
      · rw [if_neg c1, if_neg c1]
        by_cases c2 : sr_b (1 ≤ t ∧ t ≤ 20) = 0
        · rw [if_pos c2, if_pos c2]; exact SM.err hu _ 1 (by decide)
        · rw [if_neg c2, if_neg c2]
          exact SM.of hu ((fa2_same x.toNatClampNeg t.toNatClampNeg y.toNatClampNeg 1 (-1) 0 _ _ hb.1 hb.2.1).st chg.rb.T1 (chV.rf _))
