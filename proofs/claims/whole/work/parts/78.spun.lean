def ch5 (w w' : am_iv) : Prop := ∀ q k, fB q k → ¬ (q = (2, 1, 0) ∧ k = 5) → w' q k = w q k
theorem chB.c5 {w w' : am_iv} (h : chB w w') : ch5 w w' := fun q k z _ => h q k z
theorem ch5.tr {a b c : am_iv} (h1 : ch5 a b) (h2 : ch5 b c) : ch5 a c := fun q k z z2 => (h2 q k z z2).trans (h1 q k z z2)
theorem ch5.on {w : am_iv} {v : Int32} : ch5 w (am_ui w (2, 1, 0) 5 v) := fun q k _ z => am_ui_n z
/-- what is kept from one try of a film to the next -/
def fR (kd : am_kd) (rv : am_rv) (nl : Nat) (ln : Nat → am_N) (lk : Nat → Nat) (z0 y0 z1 y1 n s sz : Nat) (w u : am_iv) : Prop := bR kd rv nl ln lk z0 y0 z1 y1 0 w u ∧ (rR_n 0 0 n w u ∧ rR_r 0 0 n w u) ∧ (w (17, s, 0) 1 = nI sz ∧ u (31, 18, 0) s = nI sz) ∧ ∀ k, k < sz → w (18, s, 0) k = u (31, 19, 0) (40 * s + k)
theorem fR.c {kd : am_kd} {rv : am_rv} {nl : Nat} {ln : Nat → am_N} {lk : Nat → Nat} {z0 y0 z1 y1 n s sz : Nat} {w u w' u' : am_iv} (h : fR kd rv nl ln lk z0 y0 z1 y1 n s sz w u) (hw : ch5 w w') (h2 : chg 1 w w') (hu : chU 1 u u') : fR kd rv nl ln lk z0 y0 z1 y1 n s sz w' u' := by
  obtain ⟨hb, ⟨⟨a1, a2, a3⟩, b1, b2⟩, ⟨c1, c2⟩, c3⟩ := h
  have e0 : ∀ k, u' (31, 0, 0) k = u (31, 0, 0) k := fun k => hu _ _ (by simp) (by simp) (by simp) (by simp)
  have e9 : ∀ i k, (i = 18 ∨ i = 19) → u' (31, i, 0) k = u (31, i, 0) k := fun i k hi => hu _ _ (by simp; omega) (by simp; omega) (by simp; omega) (by simp)
  have ew : ∀ r k, w' (4, 0, r) k = w (4, 0, r) k := fun r k => h2 _ _ (Or.inl (fun e => by have := e.2.2; simp at this))
  have es : ∀ i k, (i = 17 ∨ i = 18) → w' (i, s, 0) k = w (i, s, 0) k := fun i k hi => h2 _ _ (Or.inl (fun e => by have := e.2.1; simp at this; omega))
  refine ⟨(hb.c hw).cu (fun k _ _ _ _ => e0 k) (fun k _ _ => e0 k), ⟨⟨(h2 _ _ (Or.inl (fun e => by have := e.2.2; simp at this))).trans a1, (e0 1).trans a2, a3⟩, fun r hr k q1 q7 => ?_, fun r hr => rok_f (b2 r hr) (fun k _ _ => ew r k)⟩, ⟨(es 17 1 (Or.inl rfl)).trans c1, (e9 18 s (Or.inl rfl)).trans c2⟩, fun k hk => ?_⟩
  · rw [ew, e0]; exact b1 r hr k q1 q7
  · rw [es 18 k (Or.inr rfl), e9 19 _ (Or.inr rfl)]; exact c3 k hk
theorem fR.y {kd : am_kd} {rv : am_rv} {nl : Nat} {ln : Nat → am_N} {lk : Nat → Nat} {z0 y0 z1 y1 n s sz : Nat} {w u : am_iv} (h : fR kd rv nl ln lk z0 y0 z1 y1 n s sz w u) : (bR kd rv nl ln lk z0 y0 z1 y1 1 (tr_heap 1 0 n w) (rx_cp (31, 0, 0) (31, 1, 0) u 300) ∧ rR_n 1 1 n (tr_heap 1 0 n w) (rx_cp (31, 0, 0) (31, 1, 0) u 300) ∧ rR_r 1 1 n (tr_heap 1 0 n w) (rx_cp (31, 0, 0) (31, 1, 0) u 300)) ∧ ∀ k, k < sz → tr_heap 1 0 n w (18, s, 0) k = rx_cp (31, 0, 0) (31, 1, 0) u 300 (31, 19, 0) (40 * s + k) := by
  obtain ⟨hb, ⟨⟨a1, a2, a3⟩, b1, b2⟩, -, c3⟩ := h
  refine ⟨⟨(hb.cp (b := 1) (by decide)).cw (chB.tr_ (Or.inl rfl)), ⟨trv_1, (rx_cp_v (by decide)).trans a2, a3⟩, fun r hr k q1 q7 => ?_, fun r hr => rok_f (b2 r hr) (fun k q1 q7 => trv_4 (by decide) hr q1 q7)⟩, fun k hk => ?_⟩
  · rw [trv_4 (by decide) hr q1 q7, rx_cp_v (by omega)]
    exact b1 r hr k q1 q7
  · rw [chg.trh (18, s, 0) k (Or.inl (fun e => by have := e.2.1; simp at this)), rx_cp_o (by simp)]
    exact c3 k hk
theorem spun_G {kd : am_kd} {rv : am_rv} {nl : Nat} {ln : Nat → am_N} {lk : Nat → Nat} {z0 y0 z1 y1 n s sz : Nat} {w u : am_iv} (h : fR kd rv nl ln lk z0 y0 z1 y1 n s sz w u) (ho : oR 0 w u) {v : Int32} (h0 : 0 ≤ v.toInt) (h9 : v.toInt ≤ 999) : gF n nl z1 y1 ln lk s sz (am_ui (tr_heap 1 0 n w) (4, 1, 0) 4 v) (am_ui (rx_cp (31, 0, 0) (31, 1, 0) u 300) (31, 1, 0) 83 v) := by
  obtain ⟨⟨hb, hn, hr1, hr2⟩, c3⟩ := h.y
  have ho1 : oR 1 (am_ui (tr_heap 1 0 n w) (4, 1, 0) 4 v) (am_ui (rx_cp (31, 0, 0) (31, 1, 0) u 300) (31, 1, 0) 83 v) := by
    have o1 := (ho.cp (b := 1)).cw ((chB.tr_ (i := 1) (o := 0) (n := n) (Or.inl rfl)).tr (chB.r (i := 1) (r := 0) (k := 4) (v := v) (by decide)))
    unfold oR at o1 ⊢
    rw [am_ui_n (show ¬ ((31, 1, 0) = (31, 1, 0) ∧ 3 = 83) by simp)]
    exact o1
  have hb1 : bR kd rv nl ln lk z0 y0 z1 y1 1 (am_ui (tr_heap 1 0 n w) (4, 1, 0) 4 v) (am_ui (rx_cp (31, 0, 0) (31, 1, 0) u 300) (31, 1, 0) 83 v) := (hb.cw (chB.r (by decide))).cu (fun k _ _ _ h8 => am_ui_n (fun z => by omega)) (fun k _ _ => am_ui_o (by simp))
  refine ⟨hb1.tR ho1 ⟨(am_ui_o (by simp)).trans hn.1, (am_ui_n (by simp)).trans hn.2.1, hn.2.2⟩ ⟨fun r hr k q1 q7 => ?_, fun r hr => ?_⟩, fun k hk => ?_⟩
  · by_cases e : r = 0 ∧ k = 4
    · obtain ⟨e1, e2⟩ := e
      subst e1; subst e2
      rw [am_ui_s]
      exact (am_ui_s _ _ _ _).symm
    · rw [am_ui_n (fun z => e ⟨by have := z.1; simp at this; exact this, z.2⟩), am_ui_n (fun z => e (by omega))]
      exact hr1 r hr k q1 q7
  · by_cases e : r = 0
    · subst e
      obtain ⟨g1, g2, g3, g4, g5, g6, g7⟩ := hr2 0 hr
      have f : ∀ k, k ≠ 4 → am_ui (tr_heap 1 0 n w) (4, 1, 0) 4 v (4, 1, 0) k = tr_heap 1 0 n w (4, 1, 0) k := fun k hk => am_ui_n (fun z => hk z.2)
      refine ⟨by rw [f 1 (by decide)]; exact g1, by rw [f 2 (by decide)]; exact g2, by rw [f 3 (by decide)]; exact g3, by rw [am_ui_s]; exact ⟨h0, h9⟩, by rw [f 5 (by decide)]; exact g5, by rw [f 6 (by decide)]; exact g6, by rw [f 7 (by decide)]; exact g7⟩
    · exact rok_f (hr2 r hr) (fun k _ _ => am_ui_n (fun z => e (by have := z.1; simp at this; exact this)))
  · rw [am_ui_o (by simp), am_ui_o (by simp)]; exact c3 k hk
theorem made_G {kd : am_kd} {rv : am_rv} {nl : Nat} {ln : Nat → am_N} {lk : Nat → Nat} {z0 y0 z1 y1 n s sz : Nat} {w u : am_iv} (h : fR kd rv nl ln lk z0 y0 z1 y1 n s sz w u) {v : Int32} : gF n nl z1 y1 ln lk s sz (am_ui (tr_heap 1 0 n w) (2, 1, 0) 5 v) (am_ui (rx_cp (31, 0, 0) (31, 1, 0) u 300) (31, 1, 0) 3 v) := by
  obtain ⟨⟨hb, hn, hr1, hr2⟩, c3⟩ := h.y
  have ho1 : oR 1 (am_ui (tr_heap 1 0 n w) (2, 1, 0) 5 v) (am_ui (rx_cp (31, 0, 0) (31, 1, 0) u 300) (31, 1, 0) 3 v) := (am_ui_s _ _ _ _).trans (am_ui_s _ _ _ _).symm
  have hb1 : bR kd rv nl ln lk z0 y0 z1 y1 1 (am_ui (tr_heap 1 0 n w) (2, 1, 0) 5 v) (am_ui (rx_cp (31, 0, 0) (31, 1, 0) u 300) (31, 1, 0) 3 v) := (hb.c ch5.on).cu (fun k _ h3 _ _ => am_ui_n (fun z => h3 z.2)) (fun k _ _ => am_ui_o (by simp))
  refine ⟨hb1.tR ho1 ⟨(am_ui_n (by simp)).trans hn.1, (am_ui_n (by simp)).trans hn.2.1, hn.2.2⟩ ⟨fun r hr k q1 q7 => ?_, fun r hr => ?_⟩, fun k hk => ?_⟩
  · rw [am_ui_o (by simp), am_ui_n (fun z => by omega)]
    exact hr1 r hr k q1 q7
  · exact rok_f (hr2 r hr) (fun k _ _ => am_ui_o (by simp))
  · rw [am_ui_o (by simp), am_ui_o (by simp)]; exact c3 k hk
/-- the tries -/
def sm1 (S : Nat → Int32 → am_iv → Int32 × am_iv) (V : Nat → Int32) : Nat → Nat → Int32 → Int32 → am_iv → Int32 × Int32 × am_iv
  | 0, _, b, a, w => (b, a, w)
  | d + 1, k, b, a, w => sm1 S V d (k + 1) (if b ≤ (S k b w).1 then b else (S k b w).1) (if b ≤ (S k b w).1 then a else V k) (S k b w).2
def sm2 (S : Nat → am_iv → Int32 × am_iv) (V : Nat → Int32) : Nat → Nat → Int32 → Int32 → am_iv → Int32 × Int32 × am_iv
  | 0, _, m, a, u => (m, a, u)
  | d + 1, k, m, a, u => sm2 S V d (k + 1) (if a < 0 then (S k u).1 else if m ≤ (S k u).1 then m else (S k u).1) (if a < 0 then V k else if m ≤ (S k u).1 then a else V k) (S k u).2
theorem sm1_g {S : Nat → Int32 → am_iv → Int32 × am_iv} {V : Nat → Int32} (hS : ∀ k b w, chg 1 w (S k b w).2) (d : Nat) : ∀ k b a w, chg 1 w (sm1 S V d k b a w).2.2 := by
  induction d with
  | zero => intro k b a w; exact chg.rf _ _
  | succ d ih => intro k b a w; exact (hS k b w).tr (ih _ _ _ _)
theorem sm2_U {S : Nat → am_iv → Int32 × am_iv} {V : Nat → Int32} (hS : ∀ k u, chU 1 u (S k u).2) (d : Nat) : ∀ k m a u, chU 1 u (sm2 S V d k m a u).2.2 := by
  induction d with
  | zero => intro k m a u; exact chU.rf _ _
  | succ d ih => intro k m a u; exact (hS k u).tr (ih _ _ _ _)
def smS (b a m a' : Int32) : Prop := a = a' ∧ 0 ≤ a' ∧ b = m
theorem sm_step {b a m a' C R v : Int32} (h : smS b a m a') (hC : C = R ∨ (b ≤ C ∧ b ≤ R)) (hv : 0 ≤ v) : smS (if b ≤ C then b else C) (if b ≤ C then a else v) (if a' < 0 then R else if m ≤ R then m else R) (if a' < 0 then v else if m ≤ R then a' else v) := by
  obtain ⟨e1, e2, e3⟩ := h
  subst e1; subst e3
  have c : ¬ a < 0 := fun z => by
    have z1 := Int32.lt_iff_toInt_lt.mp z
    have z2 := Int32.le_iff_toInt_le.mp e2
    omega
  rw [if_neg c, if_neg c]
  rcases hC with e | ⟨e4, e5⟩
  · subst e
    by_cases c2 : b ≤ C
    · rw [if_pos c2, if_pos c2]; exact ⟨rfl, e2, rfl⟩
    · rw [if_neg c2, if_neg c2]; exact ⟨rfl, hv, rfl⟩
  · rw [if_pos e4, if_pos e4, if_pos e5, if_pos e5]; exact ⟨rfl, e2, rfl⟩
theorem sm_first {C R v : Int32} (hC : C = R ∨ ((40000001 : Int32) ≤ C ∧ (40000001 : Int32) ≤ R)) (hR : R.toInt ≤ 40000000) (hv : 0 ≤ v) : smS (if (40000001 : Int32) ≤ C then 40000001 else C) (if (40000001 : Int32) ≤ C then 0 else v) (if (-1 : Int32) < 0 then R else if 0 ≤ R then 0 else R) (if (-1 : Int32) < 0 then v else if 0 ≤ R then -1 else v) := by
  have g : ¬ (40000001 : Int32) ≤ R := fun z => by
    have z1 := Int32.le_iff_toInt_le.mp z
    rw [show (40000001 : Int32).toInt = 40000001 by decide] at z1
    omega
  rcases hC with e | ⟨-, e⟩
  · subst e
    rw [if_neg g, if_neg g, if_pos (by decide), if_pos (by decide)]
    exact ⟨rfl, hv, rfl⟩
  · exact absurd e g
theorem sm_same {Fr : am_iv → am_iv → Prop} {S1 : Nat → Int32 → am_iv → Int32 × am_iv} {S2 : Nat → am_iv → Int32 × am_iv} {V : Nat → Int32} {L : Nat} (hS : ∀ k b w u, k < L → Fr w u → ((S1 k b w).1 = (S2 k u).1 ∨ (b ≤ (S1 k b w).1 ∧ b ≤ (S2 k u).1)) ∧ (S2 k u).1.toInt ≤ 40000000 ∧ Fr (S1 k b w).2 (S2 k u).2) (hV : ∀ k, k < L → 0 ≤ V k) (d : Nat) : ∀ k b a m a' w u, k + d ≤ L → Fr w u → smS b a m a' → (sm1 S1 V d k b a w).2.1 = (sm2 S2 V d k m a' u).2.1 := by
  induction d with
  | zero => intro k b a m a' w u hk h hs; exact hs.1
  | succ d ih =>
    intro k b a m a' w u hk h hs
    obtain ⟨g1, g2, g3⟩ := hS k b w u (by omega) h
    rw [sm1, sm2]
    exact ih (k + 1) _ _ _ _ _ _ (by omega) g3 (sm_step hs g1 (hV k (by omega)))
theorem sm_all {Fr : am_iv → am_iv → Prop} {S1 : Nat → Int32 → am_iv → Int32 × am_iv} {S2 : Nat → am_iv → Int32 × am_iv} {V : Nat → Int32} {L : Nat} (hL : 0 < L) (hS : ∀ k b w u, k < L → Fr w u → ((S1 k b w).1 = (S2 k u).1 ∨ (b ≤ (S1 k b w).1 ∧ b ≤ (S2 k u).1)) ∧ (S2 k u).1.toInt ≤ 40000000 ∧ Fr (S1 k b w).2 (S2 k u).2) (hV : ∀ k, k < L → 0 ≤ V k) {w u : am_iv} (h : Fr w u) : (sm1 S1 V L 0 40000001 0 w).2.1 = (sm2 S2 V L 0 0 (-1) u).2.1 := by
  obtain ⟨E, e⟩ : ∃ E, L = E + 1 := ⟨L - 1, by omega⟩
  obtain ⟨g1, g2, g3⟩ := hS 0 40000001 w u hL h
  have s1 := sm_first g1 g2 (hV 0 hL)
  have r := sm_same hS hV E 1 _ _ _ _ _ _ (by omega) g3 s1
  rw [e, sm1, sm2]
  exact r
def sp_w (n k : Nat) (w : am_iv) : am_iv := am_ui (tr_heap 1 0 n w) (4, 1, 0) 4 (nI (9 * k))
def sp_u (k : Nat) (u : am_iv) : am_iv := am_ui (rx_cp (31, 0, 0) (31, 1, 0) u 300) (31, 1, 0) 83 (nI (9 * k))
def md_w (n k : Nat) (w : am_iv) : am_iv := am_ui (tr_heap 1 0 n w) (2, 1, 0) 5 (nI k)
def md_u (k : Nat) (u : am_iv) : am_iv := am_ui (rx_cp (31, 0, 0) (31, 1, 0) u 300) (31, 1, 0) 3 (nI k)
def tpS (W : Nat → am_iv → am_iv) (T : am_iv → am_iv) (s sz k : Nat) (b : Int32) (w : am_iv) : Int32 × am_iv := ob T s b sz 0 0 (W k w)
def tpT (W : Nat → am_iv → am_iv) (T : am_iv → am_iv) (s sz k : Nat) (u : am_iv) : Int32 × am_iv := fo T (31, 1, 0) s sz 0 0 (W k u)
theorem sp_g {n k : Nat} {w : am_iv} : chg 1 w (sp_w n k w) := chg.trh.tr (chg.ui (inR4 1 0) (Or.inr (by decide)))
theorem md_g {n k : Nat} {w : am_iv} : chg 1 w (md_w n k w) := chg.trh.tr (chg.ui (inR2 1 0) (Or.inl ⟨by simp, by simp⟩))
theorem sp_5 {n k : Nat} {w : am_iv} : chB w (sp_w n k w) := (chB.tr_ (Or.inl rfl)).tr (chB.r (by decide))
theorem md_5 {n k : Nat} {w : am_iv} : ch5 w (md_w n k w) := (chB.tr_ (Or.inl rfl)).c5.tr ch5.on
theorem sp_U {k : Nat} {u : am_iv} : chU 1 u (sp_u k u) := chU.cp.tr chU.ui
theorem md_U {k : Nat} {u : am_iv} : chU 1 u (md_u k u) := chU.cp.tr chU.ui
theorem nI_9 {k : Nat} (hk : k < 112) : 0 ≤ (nI (9 * k)).toInt ∧ (nI (9 * k)).toInt ≤ 999 := by
  rw [nI_toInt (by omega)]
  omega
theorem spun_st {kd : am_kd} {rv : am_rv} {nl : Nat} {ln : Nat → am_N} {lk : Nat → Nat} {z0 y0 z1 y1 n s sz : Nat} (hn : 0 < n) (hsz : sz ≤ 40) : ∀ k b w u, k < 112 → (fR kd rv nl ln lk z0 y0 z1 y1 n s sz w u ∧ oR 0 w u) → ((tpS (sp_w n) (rm_tick 1 n z1 nl ln lk) s sz k b w).1 = (tpT sp_u (rt_tick 1 n nl y1 lk) s sz k u).1 ∨ (b ≤ (tpS (sp_w n) (rm_tick 1 n z1 nl ln lk) s sz k b w).1 ∧ b ≤ (tpT sp_u (rt_tick 1 n nl y1 lk) s sz k u).1)) ∧ (tpT sp_u (rt_tick 1 n nl y1 lk) s sz k u).1.toInt ≤ 40000000 ∧ (fR kd rv nl ln lk z0 y0 z1 y1 n s sz (tpS (sp_w n) (rm_tick 1 n z1 nl ln lk) s sz k b w).2 (tpT sp_u (rt_tick 1 n nl y1 lk) s sz k u).2 ∧ oR 0 (tpS (sp_w n) (rm_tick 1 n z1 nl ln lk) s sz k b w).2 (tpT sp_u (rt_tick 1 n nl y1 lk) s sz k u).2) := by
  intro k b w u hk h
  obtain ⟨g1, g2, g3⟩ := ob_fo hn s sz hsz b sz 0 0 _ _ (spun_G h.1 h.2 (nI_9 hk).1 (nI_9 hk).2) (Nat.zero_add sz) (by decide) (by decide)
  have hB : chB w (tpS (sp_w n) (rm_tick 1 n z1 nl ln lk) s sz k b w).2 := sp_5.tr (chB.ob (fun w => chB.tick) _ _ _ _)
  have hU : chU 1 u (tpT sp_u (rt_tick 1 n nl y1 lk) s sz k u).2 := sp_U.tr (chU.fo (fun w => chU.tick) _ _ _ _)
  refine ⟨g1, g3, h.1.c hB.c5 (sp_g.tr (chg.ob (fun w => chg.tick) _ _ _ _)) hU, (h.2.cw hB).trans (hU _ _ (by simp) (by simp) (by simp) (by simp)).symm⟩
theorem made_st {kd : am_kd} {rv : am_rv} {nl : Nat} {ln : Nat → am_N} {lk : Nat → Nat} {z0 y0 z1 y1 n s sz : Nat} (hn : 0 < n) (hsz : sz ≤ 40) (L : Nat) : ∀ k b w u, k < L → fR kd rv nl ln lk z0 y0 z1 y1 n s sz w u → ((tpS (md_w n) (rm_tick 1 n z1 nl ln lk) s sz k b w).1 = (tpT md_u (rt_tick 1 n nl y1 lk) s sz k u).1 ∨ (b ≤ (tpS (md_w n) (rm_tick 1 n z1 nl ln lk) s sz k b w).1 ∧ b ≤ (tpT md_u (rt_tick 1 n nl y1 lk) s sz k u).1)) ∧ (tpT md_u (rt_tick 1 n nl y1 lk) s sz k u).1.toInt ≤ 40000000 ∧ fR kd rv nl ln lk z0 y0 z1 y1 n s sz (tpS (md_w n) (rm_tick 1 n z1 nl ln lk) s sz k b w).2 (tpT md_u (rt_tick 1 n nl y1 lk) s sz k u).2 := by
  intro k b w u hk h
  obtain ⟨g1, g2, g3⟩ := ob_fo hn s sz hsz b sz 0 0 _ _ (made_G h (v := nI k)) (Nat.zero_add sz) (by decide) (by decide)
  have hB : ch5 w (tpS (md_w n) (rm_tick 1 n z1 nl ln lk) s sz k b w).2 := md_5.tr (chB.ob (fun w => chB.tick) _ _ _ _).c5
  have hU : chU 1 u (tpT md_u (rt_tick 1 n nl y1 lk) s sz k u).2 := md_U.tr (chU.fo (fun w => chU.tick) _ _ _ _)
  exact ⟨g1, g3, h.c hB (md_g.tr (chg.ob (fun w => chg.tick) _ _ _ _)) hU⟩
/-- what each side keeps -/
def fQ (kd : am_kd) (rv : am_rv) (nl : Nat) (ln : Nat → am_N) (lk : Nat → Nat) (z0 z1 n s sz : Nat) (o : Bool) (w : am_iv) : Prop := ∃ y0 y1 u, fR kd rv nl ln lk z0 y0 z1 y1 n s sz w u ∧ (o = true → oR 0 w u)
def fV (nl : Nat) (lk : Nat → Nat) (y0 y1 n s sz : Nat) (o : Bool) (u : am_iv) : Prop := ∃ kd rv ln z0 z1 w, fR kd rv nl ln lk z0 y0 z1 y1 n s sz w u ∧ (o = true → oR 0 w u)
theorem fQ.c {kd : am_kd} {rv : am_rv} {nl : Nat} {ln : Nat → am_N} {lk : Nat → Nat} {z0 z1 n s sz : Nat} {o : Bool} {w w' : am_iv} (h : fQ kd rv nl ln lk z0 z1 n s sz o w) (hw : ch5 w w') (hb : o = true → chB w w') (h2 : chg 1 w w') : fQ kd rv nl ln lk z0 z1 n s sz o w' := by
  obtain ⟨y0, y1, u, h, ho⟩ := h
  exact ⟨y0, y1, u, h.c hw h2 (chU.rf _ _), fun z => (ho z).cw (hb z)⟩
theorem fV.c {nl : Nat} {lk : Nat → Nat} {y0 y1 n s sz : Nat} {o : Bool} {u u' : am_iv} (h : fV nl lk y0 y1 n s sz o u) (hu : chU 1 u u') : fV nl lk y0 y1 n s sz o u' := by
  obtain ⟨kd, rv, ln, z0, z1, w, h, ho⟩ := h
  exact ⟨kd, rv, ln, z0, z1, w, h.c (chB.rf _).c5 (chg.rf _ _) hu, fun z => (ho z).trans (hu _ _ (by simp) (by simp) (by simp) (by simp)).symm⟩
theorem fQ.t {kd : am_kd} {rv : am_rv} {nl : Nat} {ln : Nat → am_N} {lk : Nat → Nat} {z0 z1 n s sz : Nat} {o : Bool} {w : am_iv} (h : fQ kd rv nl ln lk z0 z1 n s sz o w) : (w (2, 0, 0) 1 = nI n ∧ n ≤ 8 ∧ ∀ r, r < n → w (4, 0, r) 7 = 0 ∨ w (4, 0, r) 7 = 1) ∧ w (17, s, 0) 1 = nI sz ∧ rm_laws kd rv w 1 nl ln lk ∧ (∀ k, tQ 1 n nl z1 ln lk (md_w n k w)) ∧ ∀ k, o = true → k < 112 → tQ 1 n nl z1 ln lk (sp_w n k w) := by
  obtain ⟨y0, y1, u, h, ho⟩ := h
  exact ⟨⟨h.2.1.1.1, h.2.1.1.2.2, fun r hr => (h.2.1.2.2 r hr).2.2.2.2.2.2⟩, h.2.2.1.1, h.1.laws, fun k => ⟨y1, _, (made_G h).1⟩, fun k z hk => ⟨y1, _, (spun_G h (ho z) (nI_9 hk).1 (nI_9 hk).2).1⟩⟩
theorem fV.t {nl : Nat} {lk : Nat → Nat} {y0 y1 n s sz : Nat} {o : Bool} {u : am_iv} (h : fV nl lk y0 y1 n s sz o u) : u (31, 18, 0) s = nI sz ∧ (∀ k, rQ 1 n nl y1 lk (md_u k u)) ∧ ∀ k, o = true → k < 112 → rQ 1 n nl y1 lk (sp_u k u) := by
  obtain ⟨kd, rv, ln, z0, z1, w, h, ho⟩ := h
  exact ⟨h.2.2.1.2, fun k => ⟨z1, ln, _, (made_G h).1⟩, fun k z hk => ⟨z1, ln, _, (spun_G h (ho z) (nI_9 hk).1 (nI_9 hk).2).1⟩⟩
theorem n9_1 (k : Nat) : nI (9 * k) + 9 = nI (9 * (k + 1)) := by
  show nI (9 * k) + nI 9 = _
  rw [mI_add, Nat.mul_succ]
theorem sh_1 {nl : Nat} (h : nl ≤ 6) : (1 : Int32) <<< (nI nl &&& 31) = nI (2 ^ nl) := by
  rcases (show nl = 0 ∨ nl = 1 ∨ nl = 2 ∨ nl = 3 ∨ nl = 4 ∨ nl = 5 ∨ nl = 6 by omega) with rfl | rfl | rfl | rfl | rfl | rfl | rfl <;> decide
theorem p2_64 {nl : Nat} (h : nl ≤ 6) : 2 ^ nl ≤ 64 := Nat.pow_le_pow_right (by decide) h
theorem film_start {kd : am_kd} {rv : am_rv} {n nl : Nat} {ln : Nat → am_N} {lk : Nat → Nat} {z0 y0 z1 y1 zt zw s sz : Nat} {w u : am_iv} (h : rX kd rv 0 0 n nl ln lk z0 y0 z1 y1 zt zw w u) (h0 : ∀ r, r < 8 → w (4, 1, r) 0 = nI r ∧ w (6, 1, r) 0 = nI r) (h1 : w (17, s, 0) 1 = nI sz) (h2 : u (31, 18, 0) s = nI sz) (h3 : ∀ k, k < sz → w (18, s, 0) k = u (31, 19, 0) (40 * s + k)) : fR kd (lw_cp 1 0 rv 6) nl ln lk z0 y0 z1 y1 n s sz (rb_heap 1 0 n z0 z1 zt zw w) u ∧ oR 0 (rb_heap 1 0 n z0 z1 zt zw w) u := by
  obtain ⟨b1, b2, -, -⟩ := h.b0 h0
  have ew : ∀ r k, rb_heap 1 0 n z0 z1 zt zw w (4, 0, r) k = w (4, 0, r) k := fun r k => chg.rb _ _ (Or.inl (fun e => by have := e.2.2; simp at this))
  have es : ∀ i k, (i = 17 ∨ i = 18) → rb_heap 1 0 n z0 z1 zt zw w (i, s, 0) k = w (i, s, 0) k := fun i k hi => chg.rb _ _ (Or.inl (fun e => by have := e.2.1; simp at this; omega))
  refine ⟨⟨b1, ⟨⟨(chg.rb _ _ (Or.inl (fun e => by have := e.2.2; simp at this))).trans h.1.1.1, h.1.1.2.1, h.1.1.2.2⟩, fun r hr k q1 q7 => ?_, fun r hr => rok_f (h.1.2.2 r hr) (fun k _ _ => ew r k)⟩, ⟨(es 17 1 (Or.inl rfl)).trans h1, h2⟩, fun k hk => ?_⟩, b2⟩
  · rw [ew]; exact h.1.2.1 r hr k q1 q7
  · rw [es 18 k (Or.inr rfl)]; exact h3 k hk
set_option maxRecDepth 20000 in
theorem spun_loop (l : Launch) {kd : am_kd} {rv : am_rv} (hS : sh kd rv) (n nl z0 z1 : Nat) (ln : Nat → am_N) (lk : Nat → Nat) (s : Nat) (hs : s < 4) (sz : Nat) (hsz : sz ≤ 40) (c2 : Int32) (d : Nat) : ∀ (k : Nat) (b a : Int32) (w : am_iv) (p6 : Option am_V), fQ kd rv nl ln lk z0 z1 n s sz true w → k + d = 112 → am_W l mX11_spun (am_rm 9 0 0) (am_ret (some (am_I (sm1 (tpS (sp_w n) (rm_tick 1 n z1 nl ln lk) s sz) (fun k => nI (9 * k)) d k b a w).2.1)) kd rv (sm1 (tpS (sp_w n) (rm_tick 1 n z1 nl ln lk) s sz) (fun k => nI (9 * k)) d k b a w).2.2) 37 [some (am_P (1, 0, 0)), some (am_I (nI s)), some (am_I c2), some (am_I b), some (am_I a), some (am_I (nI (9 * k))), p6] [] kd rv w 0 0 := by
  induction d with
  | zero =>
    intro k b a w p6 hq hd
    refine A_iload (pc := 37) (i := 5) dX11_spun_37 rfl ?_
    refine A_sipush (pc := 39) (999) dX11_spun_39 (by decide) ?_
    refine A_icmpgt (pc := 42) 102 dX11_spun_42 (by decide) (fun hb42 => ?_) (fun hb42 => ?_)
    · refine A_iload (pc := 102) (i := 4) dX11_spun_102 rfl ?_
      exact A_iretE (pc := 104) dX11_spun_104 rfl (Nat.zero_le _) (Nat.zero_le _) ((rfl)) ((rfl))
    · exact absurd (show nI 999 < nI (9 * k) from nI_lt (by omega) (by omega)) hb42
  | succ d ih =>
    intro k b a w p6 hq hd
    obtain ⟨⟨g1, g2, g3⟩, g4, g5, g6, g7⟩ := hq.t
    refine A_iload (pc := 37) (i := 5) dX11_spun_37 rfl ?_
    refine A_sipush (pc := 39) (999) dX11_spun_39 (by decide) ?_
    refine A_icmpgt (pc := 42) 102 dX11_spun_42 (by decide) (fun hb42 => ?_) (fun hb42 => ?_)
    · exact absurd (show nI 999 < nI (9 * k) from hb42) (nI_nlt (by omega) (by decide))
    · refine A_aload_n (pc := 45) (i := 0) dX11_spun_45 rfl rfl ?_
      refine A_getr (pc := 46) 1 fl_X11_16_11 hS.k1 rfl (hS.w1 (k := 1) (by decide)) dX11_spun_46 ?_
      refine A_aload_n (pc := 49) (i := 0) dX11_spun_49 rfl rfl ?_
      refine A_getr (pc := 50) 0 fl_X11_12_11 hS.k1 rfl (hS.w1 (k := 0) (by decide)) dX11_spun_50 ?_
      refine A_callV0 (pc := 53) cv_X11_247 (s_takeRings l hS 1 (by decide) 0 (by decide) (by decide) n g1 g2 g3) (hS.k2 (by decide)) rfl rfl rfl rfl (Nat.le_of_ble_eq_true rfl) ⟨(Nat.le_of_ble_eq_true rfl), (Nat.le_of_ble_eq_true rfl)⟩ ⟨Nat.zero_le _, Nat.zero_le _⟩ dX11_spun_53 ?_
      refine A_aload_n (pc := 56) (i := 0) dX11_spun_56 rfl rfl ?_
      refine A_getr (pc := 57) 1 fl_X11_16_11 hS.k1 rfl (hS.w1 (k := 1) (by decide)) dX11_spun_57 ?_
      refine A_getr (pc := 60) 0 fl_X11_78_4 (hS.k2 (by decide)) rfl (hS.w2_0 (by decide)) dX11_spun_60 ?_
      refine A_iconst (pc := 63) (0) dX11_spun_63 (by decide) ?_
      refine A_aaldN (pc := 64) (hS.k3 (by decide)) (by decide) (by decide) (by decide) (by decide) (hS.w3 (by decide) (by decide)) dX11_spun_64 ?_
      refine A_iload (pc := 65) (i := 5) dX11_spun_65 rfl ?_
      refine A_puti (pc := 67) 4 fl_X11_232_3 (hS.k4 (by decide) (by decide)) rfl (by decide +kernel) rfl rfl dX11_spun_67 ?_
      refine A_heap (iv' := sp_w n k w) rfl ?_
      refine A_aload_n (pc := 70) (i := 0) dX11_spun_70 rfl rfl ?_
      refine A_aload_n (pc := 71) (i := 0) dX11_spun_71 rfl rfl ?_
      refine A_getr (pc := 72) 5 fl_X11_31_11 hS.k1 rfl hS.w1_5 dX11_spun_72 ?_
      refine A_iload_n (pc := 75) (i := 1) dX11_spun_75 rfl rfl ?_
      refine A_aaldN (pc := 76) hS.k16 (by decide) (by decide) hs (by decide) (hS.w16 hs) dX11_spun_76 ?_
      refine A_iload_n (pc := 77) (i := 3) dX11_spun_77 rfl rfl ?_
      refine A_callV1 (pc := 78) cv_X11_259 (s_offBy l hS n nl z1 ln lk g5 s hs sz hsz b (g7 k rfl (by omega)) ((sp_g (17, s, 0) 1 (Or.inl (fun e => by have := e.2.1; simp at this))).trans g4)) hS.k1 rfl rfl rfl rfl (Nat.le_of_ble_eq_true rfl) ⟨(Nat.le_of_ble_eq_true rfl), (Nat.le_of_ble_eq_true rfl)⟩ ⟨Nat.zero_le _, Nat.zero_le _⟩ dX11_spun_78 ?_
      refine A_ist6 (pc := 81) dX11_spun_81 (Nat.le_of_ble_eq_true rfl) rfl ?_
      refine A_iload (pc := 83) (i := 6) dX11_spun_83 rfl ?_
      refine A_iload_n (pc := 85) (i := 3) dX11_spun_85 rfl rfl ?_
      refine A_icmpge (pc := 86) 96 dX11_spun_86 (by decide) (fun hb86 => ?_) (fun hb86 => ?_)
      · refine A_inc5 (pc := 96) (nI (9 * (k + 1))) dX11_spun_96 (n9_1 k) (Nat.le_of_ble_eq_true rfl) rfl ?_
        refine A_goto (pc := 99) 37 dX11_spun_99 (by decide) ?_
        refine A_heap (iv' := ((tpS (sp_w n) (rm_tick 1 n z1 nl ln lk) s sz) k b w).2) rfl ?_
        rw [sm1, if_pos (show b ≤ ((tpS (sp_w n) (rm_tick 1 n z1 nl ln lk) s sz) k b w).1 from hb86), if_pos (show b ≤ ((tpS (sp_w n) (rm_tick 1 n z1 nl ln lk) s sz) k b w).1 from hb86)]
        exact ih (k + 1) _ _ _ _ (hq.c (sp_5.tr (chB.ob (fun w => chB.tick) _ _ _ _)).c5 (fun _ => sp_5.tr (chB.ob (fun w => chB.tick) _ _ _ _)) (sp_g.tr (chg.ob (fun w => chg.tick) _ _ _ _))) (by omega)
      · refine A_iload (pc := 89) (i := 6) dX11_spun_89 rfl ?_
        refine A_ist3 (pc := 91) dX11_spun_91 (Nat.le_of_ble_eq_true rfl) rfl ?_
        refine A_iload (pc := 92) (i := 5) dX11_spun_92 rfl ?_
        refine A_ist4 (pc := 94) dX11_spun_94 (Nat.le_of_ble_eq_true rfl) rfl ?_
        refine A_inc5 (pc := 96) (nI (9 * (k + 1))) dX11_spun_96 (n9_1 k) (Nat.le_of_ble_eq_true rfl) rfl ?_
        refine A_goto (pc := 99) 37 dX11_spun_99 (by decide) ?_
        refine A_heap (iv' := ((tpS (sp_w n) (rm_tick 1 n z1 nl ln lk) s sz) k b w).2) rfl ?_
        rw [sm1, if_neg (show ¬ b ≤ ((tpS (sp_w n) (rm_tick 1 n z1 nl ln lk) s sz) k b w).1 from hb86), if_neg (show ¬ b ≤ ((tpS (sp_w n) (rm_tick 1 n z1 nl ln lk) s sz) k b w).1 from hb86)]
        exact ih (k + 1) _ _ _ _ (hq.c (sp_5.tr (chB.ob (fun w => chB.tick) _ _ _ _)).c5 (fun _ => sp_5.tr (chB.ob (fun w => chB.tick) _ _ _ _)) (sp_g.tr (chg.ob (fun w => chg.tick) _ _ _ _))) (by omega)
noncomputable def c_spun (x : Int32) (sz D n nl z0 z1 zt zw : Nat) (ln : Nat → am_N) (lk : Nat → Nat) (rv : am_rv) (iv : am_iv) : Int32 × am_rv × am_iv := if fe_c x iv = 0 then ((sm1 (tpS (sp_w n) (rm_tick 1 n z1 nl ln lk) x.toNatClampNeg sz) (fun k => nI (9 * k)) D 0 40000001 0 (rb_heap 1 0 n z0 z1 zt zw iv)).2.1, (lw_cp 1 0 rv 6), (sm1 (tpS (sp_w n) (rm_tick 1 n z1 nl ln lk) x.toNatClampNeg sz) (fun k => nI (9 * k)) D 0 40000001 0 (rb_heap 1 0 n z0 z1 zt zw iv)).2.2) else (fe_c x iv, rv, er_heap (if fe_c x iv = -1000000001 then 1 else 2) iv)
set_option maxRecDepth 20000 in
theorem p_spun (l : Launch) {kd : am_kd} {rv : am_rv} {iv : am_iv} (hS : sh kd rv) (x : Int32) (n nl z0 z1 zt zw : Nat) (ln : Nat → am_N) (lk : Nat → Nat) (hA : AH kd rv n z0 z1 zt zw iv) (hl : rm_laws kd (lw_cp 1 0 rv 6) (rb_heap 1 0 n z0 z1 zt zw iv) 1 nl ln lk) (sz D : Nat) (hD : D = 112) (hz : x.toNatClampNeg < 4 → sz ≤ 40) (hf : x.toNatClampNeg < 4 → fQ kd (lw_cp 1 0 rv 6) nl ln lk z0 z1 n x.toNatClampNeg sz true (rb_heap 1 0 n z0 z1 zt zw iv)) : am_Met l mX11_spun (am_rm 9 0 0) [am_P (1, 0, 0), am_I x] kd rv iv (am_ret (some (am_I (c_spun x sz D n nl z0 z1 zt zw ln lk rv iv).1)) kd (c_spun x sz D n nl z0 z1 zt zw ln lk rv iv).2.1 (c_spun x sz D n nl z0 z1 zt zw ln lk rv iv).2.2) := by
  refine am_Met.of (by decide) (Nat.le_of_ble_eq_true rfl) rfl ?_
  refine A_aload_n (pc := 0) (i := 0) dX11_spun_0 rfl rfl ?_
  refine A_iload_n (pc := 1) (i := 1) dX11_spun_1 rfl rfl ?_
  refine A_callV1 (pc := 2) cv_X11_255 (s_filmError l hS x) hS.k1 rfl rfl rfl rfl (Nat.le_of_ble_eq_true rfl) ⟨(Nat.le_of_ble_eq_true rfl), (Nat.le_of_ble_eq_true rfl)⟩ ⟨Nat.zero_le _, Nat.zero_le _⟩ dX11_spun_2 ?_
  refine A_top (y := fe_c x iv) rfl ?_
  refine A_ist2 (pc := 5) dX11_spun_5 (Nat.le_of_ble_eq_true rfl) rfl ?_
  refine A_iload_n (pc := 6) (i := 2) dX11_spun_6 rfl rfl ?_
  refine A_ifeq (pc := 7) 16 dX11_spun_7 (by decide) (fun hb7 => ?_) (fun hb7 => ?_)
  · obtain ⟨hx, hx4, -⟩ := fe_x hb7
    have hz40 := hz hx4
    refine A_aload_n (pc := 16) (i := 0) dX11_spun_16 rfl rfl ?_
    refine A_getr (pc := 17) 1 fl_X11_16_11 hS.k1 rfl (hS.w1 (k := 1) (by decide)) dX11_spun_17 ?_
    refine A_aload_n (pc := 20) (i := 0) dX11_spun_20 rfl rfl ?_
    refine A_getr (pc := 21) 0 fl_X11_12_11 hS.k1 rfl (hS.w1 (k := 0) (by decide)) dX11_spun_21 ?_
    refine A_callV0 (pc := 24) cv_X11_220 (s_bec l hS hA) (hS.k2 (by decide)) rfl rfl rfl rfl (Nat.le_of_ble_eq_true rfl) ⟨(Nat.le_of_ble_eq_true rfl), (Nat.le_of_ble_eq_true rfl)⟩ ⟨Nat.zero_le _, Nat.zero_le _⟩ dX11_spun_24 ?_
    have hS := lw_cp_sh (i := 1) (o := 0) hS 6
    refine A_ldcw (pc := 27) (List.mem_cons_of_mem _ kc_X11_258) dX11_spun_27 ?_
    refine A_ist3 (pc := 30) dX11_spun_30 (Nat.le_of_ble_eq_true rfl) rfl ?_
    refine A_iconst (pc := 31) (0) dX11_spun_31 (by decide) ?_
    refine A_ist4 (pc := 32) dX11_spun_32 (Nat.le_of_ble_eq_true rfl) rfl ?_
    refine A_iconst (pc := 34) (0) dX11_spun_34 (by decide) ?_
    refine A_ist5 (pc := 35) dX11_spun_35 (Nat.le_of_ble_eq_true rfl) rfl ?_
    rw [c_spun, if_pos hb7]
    have h9 := spun_loop l hS n nl z0 z1 ln lk x.toNatClampNeg hx4 sz hz40 (fe_c x iv) D 0 40000001 0 (rb_heap 1 0 n z0 z1 zt zw iv) none (hf hx4) (by omega)
    rw [← nI_cl hx.1] at h9
    exact h9
  · refine A_aload_n (pc := 10) (i := 0) dX11_spun_10 rfl rfl ?_
    refine A_iload_n (pc := 11) (i := 2) dX11_spun_11 rfl rfl ?_
    refine A_callV1 (pc := 12) cv_X11_61 (s_err12 l hS (fe_c12 hb7)) hS.k1 rfl rfl rfl rfl (Nat.le_of_ble_eq_true rfl) ⟨(Nat.le_of_ble_eq_true rfl), (Nat.le_of_ble_eq_true rfl)⟩ ⟨Nat.zero_le _, Nat.zero_le _⟩ dX11_spun_12 ?_
    rw [c_spun, if_neg hb7]
    exact A_iretE (pc := 15) dX11_spun_15 rfl (Nat.zero_le _) (Nat.zero_le _) ((rfl)) ((rfl))
set_option maxRecDepth 20000 in
theorem spun_rloop (l : Launch) {kd : am_kd} {rv : am_rv} (hR : shr kd rv) (n nl y0 z : Nat) (lk : Nat → Nat) (s : Nat) (hs : s < 4) (sz : Nat) (hsz : sz ≤ 40) (c2 : Int32) (d : Nat) : ∀ (k : Nat) (b a : Int32) (w : am_iv) (p6 : Option am_V), fV nl lk y0 z n s sz true w → k + d = 112 → am_W l mX12_spun (am_rm 50 0 0) (am_ret (some (am_I (sm2 (tpT sp_u (rt_tick 1 n nl z lk) s sz) (fun k => nI (9 * k)) d k b a w).2.1)) kd rv (sm2 (tpT sp_u (rt_tick 1 n nl z lk) s sz) (fun k => nI (9 * k)) d k b a w).2.2) 24 [some (am_P (30, 0, 0)), some (am_I (nI s)), some (am_I c2), some (am_I a), some (am_I b), some (am_I (nI (9 * k))), p6] [] kd rv w 0 0 := by
  induction d with
  | zero =>
    intro k b a w p6 hq hd
    refine A_iload (pc := 24) (i := 5) dX12_spun_24 rfl ?_
    refine A_sipush (pc := 26) (999) dX12_spun_26 (by decide) ?_
    refine A_icmpgt (pc := 29) 87 dX12_spun_29 (by decide) (fun hb29 => ?_) (fun hb29 => ?_)
    · refine A_iload_n (pc := 87) (i := 3) dX12_spun_87 rfl rfl ?_
      exact A_iretE (pc := 88) dX12_spun_88 rfl (Nat.zero_le _) (Nat.zero_le _) ((rfl)) ((rfl))
    · exact absurd (show nI 999 < nI (9 * k) from nI_lt (by omega) (by omega)) hb29
  | succ d ih =>
    intro k b a w p6 hq hd
    obtain ⟨g4, g6, g7⟩ := hq.t
    refine A_iload (pc := 24) (i := 5) dX12_spun_24 rfl ?_
    refine A_sipush (pc := 26) (999) dX12_spun_26 (by decide) ?_
    refine A_icmpgt (pc := 29) 87 dX12_spun_29 (by decide) (fun hb29 => ?_) (fun hb29 => ?_)
    · exact absurd (show nI 999 < nI (9 * k) from hb29) (nI_nlt (by omega) (by decide))
    · refine A_aload_n (pc := 32) (i := 0) dX12_spun_32 rfl rfl ?_
      refine A_getr (pc := 33) 0 fl_X12_7_12 hR.1 rfl hR.w0 dX12_spun_33 ?_
      refine A_aload_n (pc := 36) (i := 0) dX12_spun_36 rfl rfl ?_
      refine A_getr (pc := 37) 1 fl_X12_13_12 hR.1 rfl hR.w1 dX12_spun_37 ?_
      refine A_callS0 (pc := 40) cs_X12_240 (r_copies l (31, 0, 0) (31, 1, 0) hR.k0 hR.k1 (by simp)) rfl rfl (Nat.le_of_ble_eq_true rfl) ⟨(Nat.le_of_ble_eq_true rfl), (Nat.le_of_ble_eq_true rfl)⟩ ⟨Nat.zero_le _, Nat.zero_le _⟩ dX12_spun_40 ?_
      refine A_aload_n (pc := 43) (i := 0) dX12_spun_43 rfl rfl ?_
      refine A_getr (pc := 44) 1 fl_X12_13_12 hR.1 rfl hR.w1 dX12_spun_44 ?_
      refine A_bipush (pc := 47) (83) dX12_spun_47 (by decide) ?_
      refine A_iload (pc := 49) (i := 5) dX12_spun_49 rfl ?_
      refine A_iastN (pc := 51) (j := 83) hR.k1 (by decide) (by decide) dX12_spun_51 ?_
      refine A_heap (iv' := sp_u k w) rfl ?_
      refine A_aload_n (pc := 52) (i := 0) dX12_spun_52 rfl rfl ?_
      refine A_aload_n (pc := 53) (i := 0) dX12_spun_53 rfl rfl ?_
      refine A_getr (pc := 54) 1 fl_X12_13_12 hR.1 rfl hR.w1 dX12_spun_54 ?_
      refine A_iload_n (pc := 57) (i := 1) dX12_spun_57 rfl rfl ?_
      refine A_callV1 (pc := 58) cv_X12_273 (r_offIn l hR 1 (by decide) hR.k1 n nl z lk (fun w => rQ 1 n nl z lk w ∧ w (31, 18, 0) s = nI sz) (fun w h => rQ.ref w h.1) (fun w h => ⟨rQ.tick (by decide) w h.1, (chU.tick (31, 18, 0) s (by simp) (by simp) (by simp) (by simp)).trans h.2⟩) ⟨(g7 k rfl (by omega)), (sp_U (31, 18, 0) s (by simp) (by simp) (by simp) (by simp)).trans g4⟩ s sz hs hsz (fun w h => h.2)) hR.1 rfl rfl rfl rfl (Nat.le_of_ble_eq_true rfl) ⟨(Nat.le_of_ble_eq_true rfl), (Nat.le_of_ble_eq_true rfl)⟩ ⟨Nat.zero_le _, Nat.zero_le _⟩ dX12_spun_58 ?_
      refine A_ist6 (pc := 61) dX12_spun_61 (Nat.le_of_ble_eq_true rfl) rfl ?_
      refine A_iload_n (pc := 63) (i := 3) dX12_spun_63 rfl rfl ?_
      refine A_iflt (pc := 64) 74 dX12_spun_64 (by decide) (fun hb64 => ?_) (fun hb64 => ?_)
      · refine A_iload (pc := 74) (i := 5) dX12_spun_74 rfl ?_
        refine A_ist3 (pc := 76) dX12_spun_76 (Nat.le_of_ble_eq_true rfl) rfl ?_
        refine A_iload (pc := 77) (i := 6) dX12_spun_77 rfl ?_
        refine A_ist4 (pc := 79) dX12_spun_79 (Nat.le_of_ble_eq_true rfl) rfl ?_
        refine A_inc5 (pc := 81) (nI (9 * (k + 1))) dX12_spun_81 (n9_1 k) (Nat.le_of_ble_eq_true rfl) rfl ?_
        refine A_goto (pc := 84) 24 dX12_spun_84 (by decide) ?_
        refine A_heap (iv' := ((tpT sp_u (rt_tick 1 n nl z lk) s sz) k w).2) rfl ?_
        rw [sm2, if_pos hb64, if_pos hb64]
        exact ih (k + 1) _ _ _ _ (hq.c (sp_U.tr (chU.fo (fun w => chU.tick) _ _ _ _))) (by omega)
      · refine A_iload (pc := 67) (i := 6) dX12_spun_67 rfl ?_
        refine A_iload (pc := 69) (i := 4) dX12_spun_69 rfl ?_
        refine A_icmpge (pc := 71) 81 dX12_spun_71 (by decide) (fun hb71 => ?_) (fun hb71 => ?_)
        · refine A_inc5 (pc := 81) (nI (9 * (k + 1))) dX12_spun_81 (n9_1 k) (Nat.le_of_ble_eq_true rfl) rfl ?_
          refine A_goto (pc := 84) 24 dX12_spun_84 (by decide) ?_
          refine A_heap (iv' := ((tpT sp_u (rt_tick 1 n nl z lk) s sz) k w).2) rfl ?_
          rw [sm2, if_neg hb64, if_neg hb64, if_pos (show b ≤ ((tpT sp_u (rt_tick 1 n nl z lk) s sz) k w).1 from hb71), if_pos (show b ≤ ((tpT sp_u (rt_tick 1 n nl z lk) s sz) k w).1 from hb71)]
          exact ih (k + 1) _ _ _ _ (hq.c (sp_U.tr (chU.fo (fun w => chU.tick) _ _ _ _))) (by omega)
        · refine A_iload (pc := 74) (i := 5) dX12_spun_74 rfl ?_
          refine A_ist3 (pc := 76) dX12_spun_76 (Nat.le_of_ble_eq_true rfl) rfl ?_
          refine A_iload (pc := 77) (i := 6) dX12_spun_77 rfl ?_
          refine A_ist4 (pc := 79) dX12_spun_79 (Nat.le_of_ble_eq_true rfl) rfl ?_
          refine A_inc5 (pc := 81) (nI (9 * (k + 1))) dX12_spun_81 (n9_1 k) (Nat.le_of_ble_eq_true rfl) rfl ?_
          refine A_goto (pc := 84) 24 dX12_spun_84 (by decide) ?_
          refine A_heap (iv' := ((tpT sp_u (rt_tick 1 n nl z lk) s sz) k w).2) rfl ?_
          rw [sm2, if_neg hb64, if_neg hb64, if_neg (show ¬ b ≤ ((tpT sp_u (rt_tick 1 n nl z lk) s sz) k w).1 from hb71), if_neg (show ¬ b ≤ ((tpT sp_u (rt_tick 1 n nl z lk) s sz) k w).1 from hb71)]
          exact ih (k + 1) _ _ _ _ (hq.c (sp_U.tr (chU.fo (fun w => chU.tick) _ _ _ _))) (by omega)
noncomputable def d_spun (x : Int32) (sz D n nl z : Nat) (lk : Nat → Nat) (iv : am_iv) : Int32 × am_iv := if fe_r x iv = 0 then ((sm2 (tpT sp_u (rt_tick 1 n nl z lk) x.toNatClampNeg sz) (fun k => nI (9 * k)) D 0 0 (-1) iv).2.1, (sm2 (tpT sp_u (rt_tick 1 n nl z lk) x.toNatClampNeg sz) (fun k => nI (9 * k)) D 0 0 (-1) iv).2.2) else (if fe_r x iv = 1 then -1000000001 else -1000000002, rx_find (if fe_r x iv = 1 then 1 else 2) iv)
set_option maxRecDepth 20000 in
theorem q_spun (l : Launch) {kd : am_kd} {rv : am_rv} {iv : am_iv} (hR : shr kd rv) (x : Int32) (sz D : Nat) (n nl y0 z : Nat) (lk : Nat → Nat) (hD : D = 112) (hz : x.toNatClampNeg < 4 → sz ≤ 40) (hf : x.toNatClampNeg < 4 → fV nl lk y0 z n x.toNatClampNeg sz true iv) : am_Met l mX12_spun (am_rm 50 0 0) [am_P (30, 0, 0), am_I x] kd rv iv (am_ret (some (am_I (d_spun x sz D n nl z lk iv).1)) kd rv (d_spun x sz D n nl z lk iv).2) := by
  refine am_Met.of (by decide) (Nat.le_of_ble_eq_true rfl) rfl ?_
  refine A_aload_n (pc := 0) (i := 0) dX12_spun_0 rfl rfl ?_
  refine A_iload_n (pc := 1) (i := 1) dX12_spun_1 rfl rfl ?_
  refine A_callV1 (pc := 2) cv_X12_270 (r_whyNoFilm l hR x) hR.1 rfl rfl rfl rfl (Nat.le_of_ble_eq_true rfl) ⟨(Nat.le_of_ble_eq_true rfl), (Nat.le_of_ble_eq_true rfl)⟩ ⟨Nat.zero_le _, Nat.zero_le _⟩ dX12_spun_2 ?_
  refine A_top (y := fe_r x iv) rfl ?_
  refine A_ist2 (pc := 5) dX12_spun_5 (Nat.le_of_ble_eq_true rfl) rfl ?_
  refine A_iload_n (pc := 6) (i := 2) dX12_spun_6 rfl rfl ?_
  refine A_ifeq (pc := 7) 16 dX12_spun_7 (by decide) (fun hb7 => ?_) (fun hb7 => ?_)
  · obtain ⟨hx, hx4⟩ := fe_y hb7
    have hz40 := hz hx4
    refine A_iconst (pc := 16) (-1) dX12_spun_16 (by decide) ?_
    refine A_ist3 (pc := 17) dX12_spun_17 (Nat.le_of_ble_eq_true rfl) rfl ?_
    refine A_iconst (pc := 18) (0) dX12_spun_18 (by decide) ?_
    refine A_ist4 (pc := 19) dX12_spun_19 (Nat.le_of_ble_eq_true rfl) rfl ?_
    refine A_iconst (pc := 21) (0) dX12_spun_21 (by decide) ?_
    refine A_ist5 (pc := 22) dX12_spun_22 (Nat.le_of_ble_eq_true rfl) rfl ?_
    rw [show (d_spun x sz D n nl z lk iv) = ((sm2 (tpT sp_u (rt_tick 1 n nl z lk) x.toNatClampNeg sz) (fun k => nI (9 * k)) D 0 0 (-1) iv).2.1, (sm2 (tpT sp_u (rt_tick 1 n nl z lk) x.toNatClampNeg sz) (fun k => nI (9 * k)) D 0 0 (-1) iv).2.2) from by rw [d_spun, if_pos hb7]]
    have h9 := spun_rloop l hR n nl y0 z lk x.toNatClampNeg hx4 sz hz40 (fe_r x iv) D 0 0 (-1) iv none (hf hx4) (by omega)
    rw [← nI_cl hx.1] at h9
    exact h9
  · refine A_aload_n (pc := 10) (i := 0) dX12_spun_10 rfl rfl ?_
    refine A_iload_n (pc := 11) (i := 2) dX12_spun_11 rfl rfl ?_
    refine A_callV1 (pc := 12) cv_X12_65 (r_fnd12 l hR (fe_r12 hb7)) hR.1 rfl rfl rfl rfl (Nat.le_of_ble_eq_true rfl) ⟨(Nat.le_of_ble_eq_true rfl), (Nat.le_of_ble_eq_true rfl)⟩ ⟨Nat.zero_le _, Nat.zero_le _⟩ dX12_spun_12 ?_
    exact A_iretE (pc := 15) dX12_spun_15 rfl (Nat.zero_le _) (Nat.zero_le _) (by rw [d_spun, if_neg hb7]) (by rw [d_spun, if_neg hb7])
theorem call_spun (l : Launch) {kd : am_kd} {rv : am_rv} {iv : am_iv} (h : REL kd rv iv iv) (x : Int32) : CALL l kd rv iv mX11_spun mX12_spun [am_I x] := by
  obtain ⟨n, nl, ln, lk, z0, y0, z1, y1, zt, zw, hX⟩ := h.n
  obtain ⟨sz, hsz⟩ := h.2.1.1.f
  have hA := hX.AH h.1
  have hn8 := hX.1.1.2.2
  have hB := hX.b0 (h.z (i := 1) (by decide))
  have hl := hB.1.laws
  have hq : tQ 1 n nl z1 ln lk (rb_heap 1 0 n z0 z1 zt zw iv) := ⟨y1, _, ah_tR hX (h.z (i := 1) (by decide))⟩
  obtain ⟨D, hD⟩ : ∃ D : Nat, D = 112 := ⟨_, rfl⟩
  have hfq : x.toNatClampNeg < 4 → fQ kd (lw_cp 1 0 rv 6) nl ln lk z0 z1 n x.toNatClampNeg (sz x.toNatClampNeg) true (rb_heap 1 0 n z0 z1 zt zw iv) := (fun hx => by
    have b := hsz _ hx
    have hF0 := film_start hX (h.z (i := 1) (by decide)) b.2.2.1 b.2.2.2.1 b.2.2.2.2
    exact ⟨y0, y1, _, hF0.1, fun _ => hF0.2⟩)
  refine CALL.fs (d2 := 50) h (c_spun x (sz x.toNatClampNeg) D n nl z0 z1 zt zw ln lk rv iv) (d_spun x (sz x.toNatClampNeg) D n nl y1 lk) (p_spun l h.S x n nl z0 z1 zt zw ln lk hA hl (sz x.toNatClampNeg) D hD (fun hx => (hsz _ hx).2.1) hfq) (fun hR h1 eu => ?_) (by decide) (by decide) (fun u hu eu => ?_)
  · have hX := hX.u eu
    have hz := h1.z (i := 1) (by decide)
    have hq : rQ 1 n nl y1 lk (rx_cp (31, 0, 0) (31, 1, 0) _ 300) := ⟨z1, ln, _, ah_tR hX (h.z (i := 1) (by decide))⟩
    exact q_spun l hR x (sz x.toNatClampNeg) D n nl y0 y1 lk hD (fun hx => (hsz _ hx).2.1) (fun hx => by
      have b := hsz _ hx
      have hF0 := film_start hX (h.z (i := 1) (by decide)) b.2.2.1 ((eu _ _ (Or.inr rfl)).trans b.2.2.2.1) (fun k hk => (b.2.2.2.2 k hk).trans (eu _ _ (Or.inr rfl)).symm)
      exact ⟨kd, _, ln, z0, z1, _, hF0.1, fun _ => hF0.2⟩)
  · have hX := hX.u eu
    have hz := hu.z (i := 1) (by decide)
    have hT := ah_tR hX hz
    have hs17 : ∀ s, u (31, 17, 0) s = iv (31, 17, 0) s := fun s => eu _ _ (Or.inr rfl)
    have hs18 : ∀ s, u (31, 18, 0) s = iv (31, 18, 0) s := fun s => eu _ _ (Or.inr rfl)
    have hs19 : ∀ s, u (31, 19, 0) s = iv (31, 19, 0) s := fun s => eu _ _ (Or.inr rfl)
    unfold c_spun d_spun
    rcases fe_cr (x := x) (iv := iv) (u := u) (fun s hs => (hsz s hs).1.trans (hs17 s).symm) (hX.1.1.1.trans hX.1.1.2.1.symm) with ⟨e1, e2⟩ | e12
    · rw [if_pos e1, if_pos e2]
      obtain ⟨hx, hx4, hn0⟩ := fe_x e1
      have hn := film_0 hX hn0
      obtain ⟨b1, b2, b3, b4, b5⟩ := hsz _ hx4
      have hF0 := film_start hX (h.z (i := 1) (by decide)) b3 (show u (31, 18, 0) x.toNatClampNeg = nI (sz x.toNatClampNeg) by rw [hs18]; exact b4) (fun k hk => by rw [hs19]; exact b5 k hk)
      refine SM.of (C := ((sm1 (tpS (sp_w n) (rm_tick 1 n z1 nl ln lk) x.toNatClampNeg (sz x.toNatClampNeg)) (fun k => nI (9 * k)) D 0 40000001 0 (rb_heap 1 0 n z0 z1 zt zw iv)).2.1, (sm1 (tpS (sp_w n) (rm_tick 1 n z1 nl ln lk) x.toNatClampNeg (sz x.toNatClampNeg)) (fun k => nI (9 * k)) D 0 40000001 0 (rb_heap 1 0 n z0 z1 zt zw iv)).2.2)) hu ⟨?_, _, _, (chg.rb.tr (sm1_g (fun k b w => sp_g.tr (chg.ob (fun w => chg.tick) _ _ _ _)) _ _ _ _ _)).T1, (sm2_U (fun k u => sp_U.tr (chU.fo (fun w => chU.tick) _ _ _ _)) _ _ _ _ _).V1, Or.inl ⟨rfl, rfl⟩⟩
      exact sm_all (L := D) (by omega) (fun k b w u hk => spun_st hn b2 k b w u (by omega)) (fun k hk => nI_pos' (by omega)) ⟨hF0.1, hF0.2⟩
    · have n1 : ¬ fe_c x iv = 0 := fun z => by rcases e12 with e | e <;> rw [e.1] at z <;> exact absurd z (by decide)
      have n2 : ¬ fe_r x u = 0 := fun z => by rcases e12 with e | e <;> rw [e.2] at z <;> exact absurd z (by decide)
      rw [if_neg n1, if_neg n2]
      exact fe_err hu e12
set_option maxRecDepth 20000 in
theorem made_loop (l : Launch) {kd : am_kd} {rv : am_rv} (hS : sh kd rv) (n nl z0 z1 : Nat) (ln : Nat → am_N) (lk : Nat → Nat) (s : Nat) (hs : s < 4) (sz : Nat) (hsz : sz ≤ 40) (L : Nat) (hL : L = 2 ^ nl) (hnl : nl ≤ 6) (c2 : Int32) (d : Nat) : ∀ (k : Nat) (b a : Int32) (w : am_iv) (p6 : Option am_V), fQ kd rv nl ln lk z0 z1 n s sz false w → w (2, 0, 0) 4 = nI nl → k + d = L → am_W l mX11_made (am_rm 9 0 0) (am_ret (some (am_I (sm1 (tpS (md_w n) (rm_tick 1 n z1 nl ln lk) s sz) (fun k => nI k) d k b a w).2.1)) kd rv (sm1 (tpS (md_w n) (rm_tick 1 n z1 nl ln lk) s sz) (fun k => nI k) d k b a w).2.2) 37 [some (am_P (1, 0, 0)), some (am_I (nI s)), some (am_I c2), some (am_I b), some (am_I a), some (am_I (nI k)), p6] [] kd rv w 0 0 := by
  have hL6 := p2_64 hnl
  induction d with
  | zero =>
    intro k b a w p6 hq h4 hd
    refine A_iload (pc := 37) (i := 5) dX11_made_37 rfl ?_
    refine A_iconst (pc := 39) (1) dX11_made_39 (by decide) ?_
    refine A_aload_n (pc := 40) (i := 0) dX11_made_40 rfl rfl ?_
    refine A_getr (pc := 41) 0 fl_X11_12_11 hS.k1 rfl (hS.w1 (k := 0) (by decide)) dX11_made_41 ?_
    refine A_geti (pc := 44) 4 fl_X11_98_4 (hS.k2 (by decide)) rfl dX11_made_44 ?_
    refine A_ishl (pc := 47) dX11_made_47 ?_
    refine A_top (y := nI L) (by rw [h4, sh_1 hnl, hL]) ?_
    refine A_icmpge (pc := 48) 103 dX11_made_48 (by decide) (fun hb48 => ?_) (fun hb48 => ?_)
    · refine A_iload (pc := 103) (i := 4) dX11_made_103 rfl ?_
      exact A_iretE (pc := 105) dX11_made_105 rfl (Nat.zero_le _) (Nat.zero_le _) ((rfl)) ((rfl))
    · exact absurd (nI_le (show L ≤ k by omega) (by omega)) hb48
  | succ d ih =>
    intro k b a w p6 hq h4 hd
    obtain ⟨⟨g1, g2, g3⟩, g4, g5, g6, g7⟩ := hq.t
    refine A_iload (pc := 37) (i := 5) dX11_made_37 rfl ?_
    refine A_iconst (pc := 39) (1) dX11_made_39 (by decide) ?_
    refine A_aload_n (pc := 40) (i := 0) dX11_made_40 rfl rfl ?_
    refine A_getr (pc := 41) 0 fl_X11_12_11 hS.k1 rfl (hS.w1 (k := 0) (by decide)) dX11_made_41 ?_
    refine A_geti (pc := 44) 4 fl_X11_98_4 (hS.k2 (by decide)) rfl dX11_made_44 ?_
    refine A_ishl (pc := 47) dX11_made_47 ?_
    refine A_top (y := nI L) (by rw [h4, sh_1 hnl, hL]) ?_
    refine A_icmpge (pc := 48) 103 dX11_made_48 (by decide) (fun hb48 => ?_) (fun hb48 => ?_)
    · exact absurd hb48 (nI_nge (by omega) (by omega))
    · refine A_aload_n (pc := 51) (i := 0) dX11_made_51 rfl rfl ?_
      refine A_getr (pc := 52) 1 fl_X11_16_11 hS.k1 rfl (hS.w1 (k := 1) (by decide)) dX11_made_52 ?_
      refine A_aload_n (pc := 55) (i := 0) dX11_made_55 rfl rfl ?_
      refine A_getr (pc := 56) 0 fl_X11_12_11 hS.k1 rfl (hS.w1 (k := 0) (by decide)) dX11_made_56 ?_
      refine A_callV0 (pc := 59) cv_X11_247 (s_takeRings l hS 1 (by decide) 0 (by decide) (by decide) n g1 g2 g3) (hS.k2 (by decide)) rfl rfl rfl rfl (Nat.le_of_ble_eq_true rfl) ⟨(Nat.le_of_ble_eq_true rfl), (Nat.le_of_ble_eq_true rfl)⟩ ⟨Nat.zero_le _, Nat.zero_le _⟩ dX11_made_59 ?_
      refine A_aload_n (pc := 62) (i := 0) dX11_made_62 rfl rfl ?_
      refine A_getr (pc := 63) 1 fl_X11_16_11 hS.k1 rfl (hS.w1 (k := 1) (by decide)) dX11_made_63 ?_
      refine A_iload (pc := 66) (i := 5) dX11_made_66 rfl ?_
      refine A_puti (pc := 68) 5 fl_X11_132_4 (hS.k2 (by decide)) rfl (by decide +kernel) rfl rfl dX11_made_68 ?_
      refine A_heap (iv' := md_w n k w) rfl ?_
      refine A_aload_n (pc := 71) (i := 0) dX11_made_71 rfl rfl ?_
      refine A_aload_n (pc := 72) (i := 0) dX11_made_72 rfl rfl ?_
      refine A_getr (pc := 73) 5 fl_X11_31_11 hS.k1 rfl hS.w1_5 dX11_made_73 ?_
      refine A_iload_n (pc := 76) (i := 1) dX11_made_76 rfl rfl ?_
      refine A_aaldN (pc := 77) hS.k16 (by decide) (by decide) hs (by decide) (hS.w16 hs) dX11_made_77 ?_
      refine A_iload_n (pc := 78) (i := 3) dX11_made_78 rfl rfl ?_
      refine A_callV1 (pc := 79) cv_X11_259 (s_offBy l hS n nl z1 ln lk g5 s hs sz hsz b (g6 k) ((md_g (17, s, 0) 1 (Or.inl (fun e => by have := e.2.1; simp at this))).trans g4)) hS.k1 rfl rfl rfl rfl (Nat.le_of_ble_eq_true rfl) ⟨(Nat.le_of_ble_eq_true rfl), (Nat.le_of_ble_eq_true rfl)⟩ ⟨Nat.zero_le _, Nat.zero_le _⟩ dX11_made_79 ?_
      refine A_ist6 (pc := 82) dX11_made_82 (Nat.le_of_ble_eq_true rfl) rfl ?_
      refine A_iload (pc := 84) (i := 6) dX11_made_84 rfl ?_
      refine A_iload_n (pc := 86) (i := 3) dX11_made_86 rfl rfl ?_
      refine A_icmpge (pc := 87) 97 dX11_made_87 (by decide) (fun hb87 => ?_) (fun hb87 => ?_)
      · refine A_inc5 (pc := 97) (nI (k + 1)) dX11_made_97 (nI_1 k) (Nat.le_of_ble_eq_true rfl) rfl ?_
        refine A_goto (pc := 100) 37 dX11_made_100 (by decide) ?_
        refine A_heap (iv' := ((tpS (md_w n) (rm_tick 1 n z1 nl ln lk) s sz) k b w).2) rfl ?_
        rw [sm1, if_pos (show b ≤ ((tpS (md_w n) (rm_tick 1 n z1 nl ln lk) s sz) k b w).1 from hb87), if_pos (show b ≤ ((tpS (md_w n) (rm_tick 1 n z1 nl ln lk) s sz) k b w).1 from hb87)]
        exact ih (k + 1) _ _ _ _ (hq.c (md_5.tr (chB.ob (fun w => chB.tick) _ _ _ _).c5) (fun z => by cases z) (md_g.tr (chg.ob (fun w => chg.tick) _ _ _ _))) (((md_g.tr (chg.ob (fun w => chg.tick) _ _ _ _)) (2, 0, 0) 4 (Or.inl (fun e => by have := e.2.2; simp at this))).trans h4) (by omega)
      · refine A_iload (pc := 90) (i := 6) dX11_made_90 rfl ?_
        refine A_ist3 (pc := 92) dX11_made_92 (Nat.le_of_ble_eq_true rfl) rfl ?_
        refine A_iload (pc := 93) (i := 5) dX11_made_93 rfl ?_
        refine A_ist4 (pc := 95) dX11_made_95 (Nat.le_of_ble_eq_true rfl) rfl ?_
        refine A_inc5 (pc := 97) (nI (k + 1)) dX11_made_97 (nI_1 k) (Nat.le_of_ble_eq_true rfl) rfl ?_
        refine A_goto (pc := 100) 37 dX11_made_100 (by decide) ?_
        refine A_heap (iv' := ((tpS (md_w n) (rm_tick 1 n z1 nl ln lk) s sz) k b w).2) rfl ?_
        rw [sm1, if_neg (show ¬ b ≤ ((tpS (md_w n) (rm_tick 1 n z1 nl ln lk) s sz) k b w).1 from hb87), if_neg (show ¬ b ≤ ((tpS (md_w n) (rm_tick 1 n z1 nl ln lk) s sz) k b w).1 from hb87)]
        exact ih (k + 1) _ _ _ _ (hq.c (md_5.tr (chB.ob (fun w => chB.tick) _ _ _ _).c5) (fun z => by cases z) (md_g.tr (chg.ob (fun w => chg.tick) _ _ _ _))) (((md_g.tr (chg.ob (fun w => chg.tick) _ _ _ _)) (2, 0, 0) 4 (Or.inl (fun e => by have := e.2.2; simp at this))).trans h4) (by omega)
noncomputable def c_made (x : Int32) (sz D n nl z0 z1 zt zw : Nat) (ln : Nat → am_N) (lk : Nat → Nat) (rv : am_rv) (iv : am_iv) : Int32 × am_rv × am_iv := if fe_c x iv = 0 then ((sm1 (tpS (md_w n) (rm_tick 1 n z1 nl ln lk) x.toNatClampNeg sz) (fun k => nI k) D 0 40000001 0 (rb_heap 1 0 n z0 z1 zt zw iv)).2.1, (lw_cp 1 0 rv 6), (sm1 (tpS (md_w n) (rm_tick 1 n z1 nl ln lk) x.toNatClampNeg sz) (fun k => nI k) D 0 40000001 0 (rb_heap 1 0 n z0 z1 zt zw iv)).2.2) else (fe_c x iv, rv, er_heap (if fe_c x iv = -1000000001 then 1 else 2) iv)
set_option maxRecDepth 20000 in
theorem p_made (l : Launch) {kd : am_kd} {rv : am_rv} {iv : am_iv} (hS : sh kd rv) (x : Int32) (n nl z0 z1 zt zw : Nat) (ln : Nat → am_N) (lk : Nat → Nat) (hA : AH kd rv n z0 z1 zt zw iv) (hl : rm_laws kd (lw_cp 1 0 rv 6) (rb_heap 1 0 n z0 z1 zt zw iv) 1 nl ln lk) (sz D : Nat) (hD : D = 2 ^ nl) (hnl : nl ≤ 6) (h4 : iv (2, 0, 0) 4 = nI nl) (hz : x.toNatClampNeg < 4 → sz ≤ 40) (hf : x.toNatClampNeg < 4 → fQ kd (lw_cp 1 0 rv 6) nl ln lk z0 z1 n x.toNatClampNeg sz false (rb_heap 1 0 n z0 z1 zt zw iv)) : am_Met l mX11_made (am_rm 9 0 0) [am_P (1, 0, 0), am_I x] kd rv iv (am_ret (some (am_I (c_made x sz D n nl z0 z1 zt zw ln lk rv iv).1)) kd (c_made x sz D n nl z0 z1 zt zw ln lk rv iv).2.1 (c_made x sz D n nl z0 z1 zt zw ln lk rv iv).2.2) := by
  refine am_Met.of (by decide) (Nat.le_of_ble_eq_true rfl) rfl ?_
  refine A_aload_n (pc := 0) (i := 0) dX11_made_0 rfl rfl ?_
  refine A_iload_n (pc := 1) (i := 1) dX11_made_1 rfl rfl ?_
  refine A_callV1 (pc := 2) cv_X11_255 (s_filmError l hS x) hS.k1 rfl rfl rfl rfl (Nat.le_of_ble_eq_true rfl) ⟨(Nat.le_of_ble_eq_true rfl), (Nat.le_of_ble_eq_true rfl)⟩ ⟨Nat.zero_le _, Nat.zero_le _⟩ dX11_made_2 ?_
  refine A_top (y := fe_c x iv) rfl ?_
  refine A_ist2 (pc := 5) dX11_made_5 (Nat.le_of_ble_eq_true rfl) rfl ?_
  refine A_iload_n (pc := 6) (i := 2) dX11_made_6 rfl rfl ?_
  refine A_ifeq (pc := 7) 16 dX11_made_7 (by decide) (fun hb7 => ?_) (fun hb7 => ?_)
  · obtain ⟨hx, hx4, -⟩ := fe_x hb7
    have hz40 := hz hx4
    refine A_aload_n (pc := 16) (i := 0) dX11_made_16 rfl rfl ?_
    refine A_getr (pc := 17) 1 fl_X11_16_11 hS.k1 rfl (hS.w1 (k := 1) (by decide)) dX11_made_17 ?_
    refine A_aload_n (pc := 20) (i := 0) dX11_made_20 rfl rfl ?_
    refine A_getr (pc := 21) 0 fl_X11_12_11 hS.k1 rfl (hS.w1 (k := 0) (by decide)) dX11_made_21 ?_
    refine A_callV0 (pc := 24) cv_X11_220 (s_bec l hS hA) (hS.k2 (by decide)) rfl rfl rfl rfl (Nat.le_of_ble_eq_true rfl) ⟨(Nat.le_of_ble_eq_true rfl), (Nat.le_of_ble_eq_true rfl)⟩ ⟨Nat.zero_le _, Nat.zero_le _⟩ dX11_made_24 ?_
    have hS := lw_cp_sh (i := 1) (o := 0) hS 6
    refine A_ldcw (pc := 27) (List.mem_cons_of_mem _ kc_X11_258) dX11_made_27 ?_
    refine A_ist3 (pc := 30) dX11_made_30 (Nat.le_of_ble_eq_true rfl) rfl ?_
    refine A_iconst (pc := 31) (0) dX11_made_31 (by decide) ?_
    refine A_ist4 (pc := 32) dX11_made_32 (Nat.le_of_ble_eq_true rfl) rfl ?_
    refine A_iconst (pc := 34) (0) dX11_made_34 (by decide) ?_
    refine A_ist5 (pc := 35) dX11_made_35 (Nat.le_of_ble_eq_true rfl) rfl ?_
    rw [c_made, if_pos hb7]
    have h9 := made_loop l hS n nl z0 z1 ln lk x.toNatClampNeg hx4 sz hz40 D hD hnl (fe_c x iv) D 0 40000001 0 (rb_heap 1 0 n z0 z1 zt zw iv) none (hf hx4) ((chg.rb (2, 0, 0) 4 (Or.inl (fun e => by have := e.2.2; simp at this))).trans h4) (Nat.zero_add D)
    rw [← nI_cl hx.1] at h9
    exact h9
  · refine A_aload_n (pc := 10) (i := 0) dX11_made_10 rfl rfl ?_
    refine A_iload_n (pc := 11) (i := 2) dX11_made_11 rfl rfl ?_
    refine A_callV1 (pc := 12) cv_X11_61 (s_err12 l hS (fe_c12 hb7)) hS.k1 rfl rfl rfl rfl (Nat.le_of_ble_eq_true rfl) ⟨(Nat.le_of_ble_eq_true rfl), (Nat.le_of_ble_eq_true rfl)⟩ ⟨Nat.zero_le _, Nat.zero_le _⟩ dX11_made_12 ?_
    rw [c_made, if_neg hb7]
    exact A_iretE (pc := 15) dX11_made_15 rfl (Nat.zero_le _) (Nat.zero_le _) ((rfl)) ((rfl))
set_option maxRecDepth 20000 in
theorem made_rloop (l : Launch) {kd : am_kd} {rv : am_rv} (hR : shr kd rv) (n nl y0 z : Nat) (lk : Nat → Nat) (s : Nat) (hs : s < 4) (sz : Nat) (hsz : sz ≤ 40) (L : Nat) (hL : L = 2 ^ nl) (hnl : nl ≤ 6) (c2 : Int32) (d : Nat) : ∀ (k : Nat) (b a : Int32) (w : am_iv) (p6 : Option am_V), fV nl lk y0 z n s sz false w → w (31, 0, 0) 2 = nI nl → k + d = L → am_W l mX12_made (am_rm 50 0 0) (am_ret (some (am_I (sm2 (tpT md_u (rt_tick 1 n nl z lk) s sz) (fun k => nI k) d k b a w).2.1)) kd rv (sm2 (tpT md_u (rt_tick 1 n nl z lk) s sz) (fun k => nI k) d k b a w).2.2) 24 [some (am_P (30, 0, 0)), some (am_I (nI s)), some (am_I c2), some (am_I a), some (am_I b), some (am_I (nI k)), p6] [] kd rv w 0 0 := by
  have hL6 := p2_64 hnl
  induction d with
  | zero =>
    intro k b a w p6 hq h4 hd
    refine A_iload (pc := 24) (i := 5) dX12_made_24 rfl ?_
    refine A_iconst (pc := 26) (1) dX12_made_26 (by decide) ?_
    refine A_aload_n (pc := 27) (i := 0) dX12_made_27 rfl rfl ?_
    refine A_getr (pc := 28) 0 fl_X12_7_12 hR.1 rfl hR.w0 dX12_made_28 ?_
    refine A_iconst (pc := 31) (2) dX12_made_31 (by decide) ?_
    refine A_ialdN (pc := 32) hR.k0 (show 2 < 300 by decide) (by decide) dX12_made_32 ?_
    refine A_ishl (pc := 33) dX12_made_33 ?_
    refine A_top (y := nI L) (by rw [h4, sh_1 hnl, hL]) ?_
    refine A_icmpge (pc := 34) 91 dX12_made_34 (by decide) (fun hb34 => ?_) (fun hb34 => ?_)
    · refine A_iload_n (pc := 91) (i := 3) dX12_made_91 rfl rfl ?_
      exact A_iretE (pc := 92) dX12_made_92 rfl (Nat.zero_le _) (Nat.zero_le _) ((rfl)) ((rfl))
    · exact absurd (nI_le (show L ≤ k by omega) (by omega)) hb34
  | succ d ih =>
    intro k b a w p6 hq h4 hd
    obtain ⟨g4, g6, g7⟩ := hq.t
    refine A_iload (pc := 24) (i := 5) dX12_made_24 rfl ?_
    refine A_iconst (pc := 26) (1) dX12_made_26 (by decide) ?_
    refine A_aload_n (pc := 27) (i := 0) dX12_made_27 rfl rfl ?_
    refine A_getr (pc := 28) 0 fl_X12_7_12 hR.1 rfl hR.w0 dX12_made_28 ?_
    refine A_iconst (pc := 31) (2) dX12_made_31 (by decide) ?_
    refine A_ialdN (pc := 32) hR.k0 (show 2 < 300 by decide) (by decide) dX12_made_32 ?_
    refine A_ishl (pc := 33) dX12_made_33 ?_
    refine A_top (y := nI L) (by rw [h4, sh_1 hnl, hL]) ?_
    refine A_icmpge (pc := 34) 91 dX12_made_34 (by decide) (fun hb34 => ?_) (fun hb34 => ?_)
    · exact absurd hb34 (nI_nge (by omega) (by omega))
    · refine A_aload_n (pc := 37) (i := 0) dX12_made_37 rfl rfl ?_
      refine A_getr (pc := 38) 0 fl_X12_7_12 hR.1 rfl hR.w0 dX12_made_38 ?_
      refine A_aload_n (pc := 41) (i := 0) dX12_made_41 rfl rfl ?_
      refine A_getr (pc := 42) 1 fl_X12_13_12 hR.1 rfl hR.w1 dX12_made_42 ?_
      refine A_callS0 (pc := 45) cs_X12_240 (r_copies l (31, 0, 0) (31, 1, 0) hR.k0 hR.k1 (by simp)) rfl rfl (Nat.le_of_ble_eq_true rfl) ⟨(Nat.le_of_ble_eq_true rfl), (Nat.le_of_ble_eq_true rfl)⟩ ⟨Nat.zero_le _, Nat.zero_le _⟩ dX12_made_45 ?_
      refine A_aload_n (pc := 48) (i := 0) dX12_made_48 rfl rfl ?_
      refine A_getr (pc := 49) 1 fl_X12_13_12 hR.1 rfl hR.w1 dX12_made_49 ?_
      refine A_iconst (pc := 52) (3) dX12_made_52 (by decide) ?_
      refine A_iload (pc := 53) (i := 5) dX12_made_53 rfl ?_
      refine A_iastN (pc := 55) (j := 3) hR.k1 (by decide) (by decide) dX12_made_55 ?_
      refine A_heap (iv' := md_u k w) rfl ?_
      refine A_aload_n (pc := 56) (i := 0) dX12_made_56 rfl rfl ?_
      refine A_aload_n (pc := 57) (i := 0) dX12_made_57 rfl rfl ?_
      refine A_getr (pc := 58) 1 fl_X12_13_12 hR.1 rfl hR.w1 dX12_made_58 ?_
      refine A_iload_n (pc := 61) (i := 1) dX12_made_61 rfl rfl ?_
      refine A_callV1 (pc := 62) cv_X12_273 (r_offIn l hR 1 (by decide) hR.k1 n nl z lk (fun w => rQ 1 n nl z lk w ∧ w (31, 18, 0) s = nI sz) (fun w h => rQ.ref w h.1) (fun w h => ⟨rQ.tick (by decide) w h.1, (chU.tick (31, 18, 0) s (by simp) (by simp) (by simp) (by simp)).trans h.2⟩) ⟨(g6 k), (md_U (31, 18, 0) s (by simp) (by simp) (by simp) (by simp)).trans g4⟩ s sz hs hsz (fun w h => h.2)) hR.1 rfl rfl rfl rfl (Nat.le_of_ble_eq_true rfl) ⟨(Nat.le_of_ble_eq_true rfl), (Nat.le_of_ble_eq_true rfl)⟩ ⟨Nat.zero_le _, Nat.zero_le _⟩ dX12_made_62 ?_
      refine A_ist6 (pc := 65) dX12_made_65 (Nat.le_of_ble_eq_true rfl) rfl ?_
      refine A_iload_n (pc := 67) (i := 3) dX12_made_67 rfl rfl ?_
      refine A_iflt (pc := 68) 78 dX12_made_68 (by decide) (fun hb68 => ?_) (fun hb68 => ?_)
      · refine A_iload (pc := 78) (i := 5) dX12_made_78 rfl ?_
        refine A_ist3 (pc := 80) dX12_made_80 (Nat.le_of_ble_eq_true rfl) rfl ?_
        refine A_iload (pc := 81) (i := 6) dX12_made_81 rfl ?_
        refine A_ist4 (pc := 83) dX12_made_83 (Nat.le_of_ble_eq_true rfl) rfl ?_
        refine A_inc5 (pc := 85) (nI (k + 1)) dX12_made_85 (nI_1 k) (Nat.le_of_ble_eq_true rfl) rfl ?_
        refine A_goto (pc := 88) 24 dX12_made_88 (by decide) ?_
        refine A_heap (iv' := ((tpT md_u (rt_tick 1 n nl z lk) s sz) k w).2) rfl ?_
        rw [sm2, if_pos hb68, if_pos hb68]
        exact ih (k + 1) _ _ _ _ (hq.c (md_U.tr (chU.fo (fun w => chU.tick) _ _ _ _))) (((md_U.tr (chU.fo (fun w => chU.tick) _ _ _ _)) (31, 0, 0) 2 (by simp) (by simp) (by simp) (by simp)).trans h4) (by omega)
      · refine A_iload (pc := 71) (i := 6) dX12_made_71 rfl ?_
        refine A_iload (pc := 73) (i := 4) dX12_made_73 rfl ?_
        refine A_icmpge (pc := 75) 85 dX12_made_75 (by decide) (fun hb75 => ?_) (fun hb75 => ?_)
        · refine A_inc5 (pc := 85) (nI (k + 1)) dX12_made_85 (nI_1 k) (Nat.le_of_ble_eq_true rfl) rfl ?_
          refine A_goto (pc := 88) 24 dX12_made_88 (by decide) ?_
          refine A_heap (iv' := ((tpT md_u (rt_tick 1 n nl z lk) s sz) k w).2) rfl ?_
          rw [sm2, if_neg hb68, if_neg hb68, if_pos (show b ≤ ((tpT md_u (rt_tick 1 n nl z lk) s sz) k w).1 from hb75), if_pos (show b ≤ ((tpT md_u (rt_tick 1 n nl z lk) s sz) k w).1 from hb75)]
          exact ih (k + 1) _ _ _ _ (hq.c (md_U.tr (chU.fo (fun w => chU.tick) _ _ _ _))) (((md_U.tr (chU.fo (fun w => chU.tick) _ _ _ _)) (31, 0, 0) 2 (by simp) (by simp) (by simp) (by simp)).trans h4) (by omega)
        · refine A_iload (pc := 78) (i := 5) dX12_made_78 rfl ?_
          refine A_ist3 (pc := 80) dX12_made_80 (Nat.le_of_ble_eq_true rfl) rfl ?_
          refine A_iload (pc := 81) (i := 6) dX12_made_81 rfl ?_
          refine A_ist4 (pc := 83) dX12_made_83 (Nat.le_of_ble_eq_true rfl) rfl ?_
          refine A_inc5 (pc := 85) (nI (k + 1)) dX12_made_85 (nI_1 k) (Nat.le_of_ble_eq_true rfl) rfl ?_
          refine A_goto (pc := 88) 24 dX12_made_88 (by decide) ?_
          refine A_heap (iv' := ((tpT md_u (rt_tick 1 n nl z lk) s sz) k w).2) rfl ?_
          rw [sm2, if_neg hb68, if_neg hb68, if_neg (show ¬ b ≤ ((tpT md_u (rt_tick 1 n nl z lk) s sz) k w).1 from hb75), if_neg (show ¬ b ≤ ((tpT md_u (rt_tick 1 n nl z lk) s sz) k w).1 from hb75)]
          exact ih (k + 1) _ _ _ _ (hq.c (md_U.tr (chU.fo (fun w => chU.tick) _ _ _ _))) (((md_U.tr (chU.fo (fun w => chU.tick) _ _ _ _)) (31, 0, 0) 2 (by simp) (by simp) (by simp) (by simp)).trans h4) (by omega)
noncomputable def d_made (x : Int32) (sz D n nl z : Nat) (lk : Nat → Nat) (iv : am_iv) : Int32 × am_iv := if fe_r x iv = 0 then ((sm2 (tpT md_u (rt_tick 1 n nl z lk) x.toNatClampNeg sz) (fun k => nI k) D 0 0 (-1) iv).2.1, (sm2 (tpT md_u (rt_tick 1 n nl z lk) x.toNatClampNeg sz) (fun k => nI k) D 0 0 (-1) iv).2.2) else (if fe_r x iv = 1 then -1000000001 else -1000000002, rx_find (if fe_r x iv = 1 then 1 else 2) iv)
set_option maxRecDepth 20000 in
theorem q_made (l : Launch) {kd : am_kd} {rv : am_rv} {iv : am_iv} (hR : shr kd rv) (x : Int32) (sz D : Nat) (n nl y0 z : Nat) (lk : Nat → Nat) (hD : D = 2 ^ nl) (hnl : nl ≤ 6) (h4 : iv (31, 0, 0) 2 = nI nl) (hz : x.toNatClampNeg < 4 → sz ≤ 40) (hf : x.toNatClampNeg < 4 → fV nl lk y0 z n x.toNatClampNeg sz false iv) : am_Met l mX12_made (am_rm 50 0 0) [am_P (30, 0, 0), am_I x] kd rv iv (am_ret (some (am_I (d_made x sz D n nl z lk iv).1)) kd rv (d_made x sz D n nl z lk iv).2) := by
  refine am_Met.of (by decide) (Nat.le_of_ble_eq_true rfl) rfl ?_
  refine A_aload_n (pc := 0) (i := 0) dX12_made_0 rfl rfl ?_
  refine A_iload_n (pc := 1) (i := 1) dX12_made_1 rfl rfl ?_
  refine A_callV1 (pc := 2) cv_X12_270 (r_whyNoFilm l hR x) hR.1 rfl rfl rfl rfl (Nat.le_of_ble_eq_true rfl) ⟨(Nat.le_of_ble_eq_true rfl), (Nat.le_of_ble_eq_true rfl)⟩ ⟨Nat.zero_le _, Nat.zero_le _⟩ dX12_made_2 ?_
  refine A_top (y := fe_r x iv) rfl ?_
  refine A_ist2 (pc := 5) dX12_made_5 (Nat.le_of_ble_eq_true rfl) rfl ?_
  refine A_iload_n (pc := 6) (i := 2) dX12_made_6 rfl rfl ?_
  refine A_ifeq (pc := 7) 16 dX12_made_7 (by decide) (fun hb7 => ?_) (fun hb7 => ?_)
  · obtain ⟨hx, hx4⟩ := fe_y hb7
    have hz40 := hz hx4
    refine A_iconst (pc := 16) (-1) dX12_made_16 (by decide) ?_
    refine A_ist3 (pc := 17) dX12_made_17 (Nat.le_of_ble_eq_true rfl) rfl ?_
    refine A_iconst (pc := 18) (0) dX12_made_18 (by decide) ?_
    refine A_ist4 (pc := 19) dX12_made_19 (Nat.le_of_ble_eq_true rfl) rfl ?_
    refine A_iconst (pc := 21) (0) dX12_made_21 (by decide) ?_
    refine A_ist5 (pc := 22) dX12_made_22 (Nat.le_of_ble_eq_true rfl) rfl ?_
    rw [show (d_made x sz D n nl z lk iv) = ((sm2 (tpT md_u (rt_tick 1 n nl z lk) x.toNatClampNeg sz) (fun k => nI k) D 0 0 (-1) iv).2.1, (sm2 (tpT md_u (rt_tick 1 n nl z lk) x.toNatClampNeg sz) (fun k => nI k) D 0 0 (-1) iv).2.2) from by rw [d_made, if_pos hb7]]
    have h9 := made_rloop l hR n nl y0 z lk x.toNatClampNeg hx4 sz hz40 D hD hnl (fe_r x iv) D 0 0 (-1) iv none (hf hx4) h4 (Nat.zero_add D)
    rw [← nI_cl hx.1] at h9
    exact h9
  · refine A_aload_n (pc := 10) (i := 0) dX12_made_10 rfl rfl ?_
    refine A_iload_n (pc := 11) (i := 2) dX12_made_11 rfl rfl ?_
    refine A_callV1 (pc := 12) cv_X12_65 (r_fnd12 l hR (fe_r12 hb7)) hR.1 rfl rfl rfl rfl (Nat.le_of_ble_eq_true rfl) ⟨(Nat.le_of_ble_eq_true rfl), (Nat.le_of_ble_eq_true rfl)⟩ ⟨Nat.zero_le _, Nat.zero_le _⟩ dX12_made_12 ?_
    exact A_iretE (pc := 15) dX12_made_15 rfl (Nat.zero_le _) (Nat.zero_le _) (by rw [d_made, if_neg hb7]) (by rw [d_made, if_neg hb7])
theorem call_made (l : Launch) {kd : am_kd} {rv : am_rv} {iv : am_iv} (h : REL kd rv iv iv) (x : Int32) : CALL l kd rv iv mX11_made mX12_made [am_I x] := by
  obtain ⟨n, nl, ln, lk, z0, y0, z1, y1, zt, zw, hX⟩ := h.n
  obtain ⟨sz, hsz⟩ := h.2.1.1.f
  have hA := hX.AH h.1
  have hn8 := hX.1.1.2.2
  have hB := hX.b0 (h.z (i := 1) (by decide))
  have hl := hB.1.laws
  have hq : tQ 1 n nl z1 ln lk (rb_heap 1 0 n z0 z1 zt zw iv) := ⟨y1, _, ah_tR hX (h.z (i := 1) (by decide))⟩
  obtain ⟨D, hD⟩ : ∃ D : Nat, D = 2 ^ nl := ⟨_, rfl⟩
  have hfq : x.toNatClampNeg < 4 → fQ kd (lw_cp 1 0 rv 6) nl ln lk z0 z1 n x.toNatClampNeg (sz x.toNatClampNeg) false (rb_heap 1 0 n z0 z1 zt zw iv) := (fun hx => by
    have b := hsz _ hx
    have hF0 := film_start hX (h.z (i := 1) (by decide)) b.2.2.1 b.2.2.2.1 b.2.2.2.2
    exact ⟨y0, y1, _, hF0.1, fun _ => hF0.2⟩)
  refine CALL.fs (d2 := 50) h (c_made x (sz x.toNatClampNeg) D n nl z0 z1 zt zw ln lk rv iv) (d_made x (sz x.toNatClampNeg) D n nl y1 lk) (p_made l h.S x n nl z0 z1 zt zw ln lk hA hl (sz x.toNatClampNeg) D hD hX.2.1.2.2.1 hX.2.1.1 (fun hx => (hsz _ hx).2.1) hfq) (fun hR h1 eu => ?_) (by decide) (by decide) (fun u hu eu => ?_)
  · have hX := hX.u eu
    have hz := h1.z (i := 1) (by decide)
    have hq : rQ 1 n nl y1 lk (rx_cp (31, 0, 0) (31, 1, 0) _ 300) := ⟨z1, ln, _, ah_tR hX (h.z (i := 1) (by decide))⟩
    exact q_made l hR x (sz x.toNatClampNeg) D n nl y0 y1 lk hD hX.2.1.2.2.1 hX.2.1.2.1 (fun hx => (hsz _ hx).2.1) (fun hx => by
      have b := hsz _ hx
      have hF0 := film_start hX (h.z (i := 1) (by decide)) b.2.2.1 ((eu _ _ (Or.inr rfl)).trans b.2.2.2.1) (fun k hk => (b.2.2.2.2 k hk).trans (eu _ _ (Or.inr rfl)).symm)
      exact ⟨kd, _, ln, z0, z1, _, hF0.1, fun _ => hF0.2⟩)
  · have hX := hX.u eu
    have hz := hu.z (i := 1) (by decide)
    have hT := ah_tR hX hz
    have hs17 : ∀ s, u (31, 17, 0) s = iv (31, 17, 0) s := fun s => eu _ _ (Or.inr rfl)
    have hs18 : ∀ s, u (31, 18, 0) s = iv (31, 18, 0) s := fun s => eu _ _ (Or.inr rfl)
    have hs19 : ∀ s, u (31, 19, 0) s = iv (31, 19, 0) s := fun s => eu _ _ (Or.inr rfl)
    unfold c_made d_made
    rcases fe_cr (x := x) (iv := iv) (u := u) (fun s hs => (hsz s hs).1.trans (hs17 s).symm) (hX.1.1.1.trans hX.1.1.2.1.symm) with ⟨e1, e2⟩ | e12
    · rw [if_pos e1, if_pos e2]
      obtain ⟨hx, hx4, hn0⟩ := fe_x e1
      have hn := film_0 hX hn0
      obtain ⟨b1, b2, b3, b4, b5⟩ := hsz _ hx4
      have hF0 := film_start hX (h.z (i := 1) (by decide)) b3 (show u (31, 18, 0) x.toNatClampNeg = nI (sz x.toNatClampNeg) by rw [hs18]; exact b4) (fun k hk => by rw [hs19]; exact b5 k hk)
      refine SM.of (C := ((sm1 (tpS (md_w n) (rm_tick 1 n z1 nl ln lk) x.toNatClampNeg (sz x.toNatClampNeg)) (fun k => nI k) D 0 40000001 0 (rb_heap 1 0 n z0 z1 zt zw iv)).2.1, (sm1 (tpS (md_w n) (rm_tick 1 n z1 nl ln lk) x.toNatClampNeg (sz x.toNatClampNeg)) (fun k => nI k) D 0 40000001 0 (rb_heap 1 0 n z0 z1 zt zw iv)).2.2)) hu ⟨?_, _, _, (chg.rb.tr (sm1_g (fun k b w => md_g.tr (chg.ob (fun w => chg.tick) _ _ _ _)) _ _ _ _ _)).T1, (sm2_U (fun k u => md_U.tr (chU.fo (fun w => chU.tick) _ _ _ _)) _ _ _ _ _).V1, Or.inl ⟨rfl, rfl⟩⟩
      have h64 := p2_64 hX.2.1.2.2.1
      exact sm_all (by rw [hD]; exact Nat.two_pow_pos nl) (made_st hn b2 D) (fun k hk => nI_pos' (by omega)) hF0.1
    · have n1 : ¬ fe_c x iv = 0 := fun z => by rcases e12 with e | e <;> rw [e.1] at z <;> exact absurd z (by decide)
      have n2 : ¬ fe_r x u = 0 := fun z => by rcases e12 with e | e <;> rw [e.2] at z <;> exact absurd z (by decide)
      rw [if_neg n1, if_neg n2]
      exact fe_err hu e12
