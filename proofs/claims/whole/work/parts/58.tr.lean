/-- room i of the class ticks on as row a of the reference does -/
def tR (i a n nl zc zr : Nat) (ln : Nat → am_N) (lk : Nat → Nat) (w u : am_iv) : Prop :=
  al_pre i a n nl ln (w (10, i, 1)) (fun p => u (31, 0, 0) (200 + p)) (u (31, 13, 0)) w u ∧ (w (2, i, 0) 1 = nI n ∧ n ≤ 8 ∧ w (9, i, 1) 1 = nI zc ∧ zc ≤ 50 ∧ w (2, i, 0) 4 = nI nl ∧ nl ≤ 6) ∧ (u (31, a, 0) 1 = nI n ∧ u (31, a, 0) 2 = nI nl ∧ (∀ j, j < nl → lk j < 7 ∧ u (31, a, 0) (20 + 2 * j) = nI (lk j)) ∧ u (31, 0, 0) 41 = nI zr ∧ zr ≤ 50) ∧ (∀ j, j < nl → (ln j).1 = 22) ∧ tRel 1 zc zr (w (10, i, 1)) (fun p => u (31, 0, 0) (200 + p)) ∧ ∀ r, r < n → w (4, i, r) 0 = nI r
theorem rm_tick_fr {i n z nl : Nat} {ln : Nat → am_N} {lk : Nat → Nat} {w : am_iv} {q : am_N} {k : Nat} (hf : fr q k) (h6 : q.1 ≠ 6) (h2 : ¬ (q = (2, i, 0) ∧ k = 8)) : rm_tick i n z nl ln lk w q k = w q k := by
  unfold rm_tick rm_tick4
  rw [am_ui_n h2, rm_set_o hf.2, rm_gone_o hf.2, rm_go_o hf, rm_save_o h6]
theorem rm_tick_8 {i n z nl : Nat} {ln : Nat → am_N} {lk : Nat → Nat} {w : am_iv} : rm_tick i n z nl ln lk w (2, i, 0) 8 = w (2, i, 0) 8 + 1 := by
  unfold rm_tick
  rw [am_ui_s]
  unfold rm_tick4
  rw [rm_set_o (by simp), rm_gone_o (by simp), rm_go_o ⟨by simp [gb], by simp⟩, rm_save_o (by simp)]
theorem rt_tick_0 {a n nl z : Nat} {lk : Nat → Nat} {w : am_iv} (ha : a < 3) (hn : n ≤ 8) : rt_tick a n nl z lk w (31, a, 0) 0 = w (31, a, 0) 0 + 1 := by
  have f0 : rfr a (31, a, 0) 0 := ⟨fun q => by omega, by simp, by simp; omega⟩
  unfold rt_tick
  rw [am_ui_s]
  unfold rt_tick4
  rw [rt_set_o f0 n hn, rt_gone_o hn f0 n hn, rt_go_o f0 n hn]
  unfold rx_cp
  rw [if_neg (fun q => by have := q.1; simp at this; omega)]
theorem tR.tick {i a n nl zc zr : Nat} {ln : Nat → am_N} {lk : Nat → Nat} {w u : am_iv} (ha : a < 3) (h : tR i a n nl zc zr ln lk w u) : tR i a n nl zc zr ln lk (rm_tick i n zc nl ln lk w) (rt_tick a n nl zr lk u) := by
  obtain ⟨h1, ⟨c1, c2, c3, c4, c5, c6⟩, ⟨r1, r2, r3, r4, r5⟩, h4, h5, h6⟩ := h
  have hp := al_tick (lk := lk) ha c2 c6 h4 c4 (fun x y t => by rw [h5 x y t (u (31, 13, 0))]) h1
  obtain ⟨p1, p2, p3, p4, p5, p6, p7, p8, p9, p10⟩ := hp
  have e10 : rm_tick i n zc nl ln lk w (10, i, 1) = w (10, i, 1) := funext p8
  have e200 : (fun p => rt_tick a n nl zr lk u (31, 0, 0) (200 + p)) = fun p => u (31, 0, 0) (200 + p) := funext p9
  have eu : ∀ k, k < 80 → k ≠ 0 → rt_tick a n nl zr lk u (31, a, 0) k = u (31, a, 0) k := fun k hk h0 => rt_tick_o c2 ⟨fun q => by omega, by simp, by simp; omega⟩ (by simp; omega) (fun q => h0 q.2)
  refine ⟨⟨p1, p2, p3, p4, p5, p6, p7, fun k => rfl, fun p => rfl, fun k hk => rfl⟩, ⟨(rm_tick_2 (by decide)).trans c1, c2, (rm_tick_fr ⟨by simp [gb], by simp⟩ (by simp) (by simp)).trans c3, c4, (rm_tick_2 (by decide)).trans c5, c6⟩, ⟨(eu 1 (by decide) (by decide)).trans r1, (eu 2 (by decide) (by decide)).trans r2, fun j hj => ⟨(r3 j hj).1, (eu (20 + 2 * j) (by omega) (by omega)).trans (r3 j hj).2⟩, (rt_tick_o c2 ⟨fun q => by omega, by simp, by simp⟩ (by simp) (by simp)).trans r4, r5⟩, h4, ?_, fun r hr => (chg.tick _ 0 (Or.inr ⟨Or.inl rfl, rfl⟩)).trans (h6 r hr)⟩
  rw [e10, e200]
  exact h5
theorem tR.cls {i a n nl zc zr : Nat} {ln : Nat → am_N} {lk : Nat → Nat} {w u : am_iv} (h : tR i a n nl zc zr ln lk w u) : tk_q i n zc nl w := by
  obtain ⟨h1, ⟨c1, c2, c3, c4, c5, c6⟩, -, -, -, -⟩ := h
  exact ⟨c1, c2, c3, c4, c5, fun r hr => ⟨(h1.2.2.1 r hr).2.2.2.2.2.2, fun k hk => rok_gap (h1.2.2.1 r hr) (h1.2.2.1 k hk)⟩⟩
theorem tR.rok {i a n nl zc zr : Nat} {ln : Nat → am_N} {lk : Nat → Nat} {w u : am_iv} (h : tR i a n nl zc zr ln lk w u) {r : Nat} (hr : r < n) : rok (rf u (31, a, 0) r) := by
  refine rok_f (h.1.2.2.1 r hr) (fun k h1 h7 => ?_)
  rw [h.1.1 r hr k h1 h7]
  unfold rf
  rw [if_neg (by omega)]
theorem tR.ref {i a n nl zc zr : Nat} {ln : Nat → am_N} {lk : Nat → Nat} {w u : am_iv} (h : tR i a n nl zc zr ln lk w u) : rt_pre u a n nl zr lk := by
  have hr := fun r hr => h.rok (r := r) hr
  obtain ⟨h1, ⟨c1, c2, c3, c4, c5, c6⟩, ⟨r1, r2, r3, r4, r5⟩, -, -, -⟩ := h
  exact ⟨r1, c2, r2, c6, r3, by rw [← h1.2.2.2.2.1]; exact h1.2.2.2.2.2.1, hr, r4, r5⟩
theorem tR.at {i a n nl zc zr : Nat} {ln : Nat → am_N} {lk : Nat → Nat} {w u : am_iv} (h : tR i a n nl zc zr ln lk w u) {r : Nat} (hr : r < n) : a7 (w (4, i, r)) (rf u (31, a, 0) r) := by
  intro k hk
  unfold rf
  by_cases e : k = 0
  · subst e
    rw [if_pos rfl]
    exact h.2.2.2.2.2 r hr
  · rw [if_neg e]
    exact h.1.1 r hr k (by omega) hk
theorem tR.it {i a n nl zc zr : Nat} {ln : Nat → am_N} {lk : Nat → Nat} (ha : a < 3) (N : Nat) : ∀ {w u : am_iv}, tR i a n nl zc zr ln lk w u → tR i a n nl zc zr ln lk (_root_.Jvm.Pilot.CSmokeRingsLaw_law_r5279_9afc0a.it (rm_tick i n zc nl ln lk) N w) (_root_.Jvm.Pilot.CSmokeRingsLaw_law_r5279_9afc0a.it (rt_tick a n nl zr lk) N u) := by
  induction N with
  | zero => intro w u h; exact h
  | succ N ih => intro w u h; exact ih (h.tick ha)
/-! a room becomes another: the values -/
theorem rb_out {i o n z0 z1 zt zw : Nat} {w : am_iv} {q : am_N} {k : Nat} (h : q.1 < 9) : rb_heap i o n z0 z1 zt zw w q k = rb_n i o n w q k := by
  have ne : ∀ a b c : Nat, 9 ≤ a → q ≠ (a, b, c) := fun a b c ha e => by rw [e] at h; simp at h; omega
  unfold rb_heap
  rw [rw_cp_o (ne _ _ _ (by decide)) (ne _ _ _ (by decide)), rw_cp_o (ne _ _ _ (by decide)) (ne _ _ _ (by decide)), tx_cp_o (ne _ _ _ (by decide)) (ne _ _ _ (by decide)), tx_cp_o (ne _ _ _ (by decide)) (ne _ _ _ (by decide))]
theorem tr_2o {i o n : Nat} (hio : o ≠ i) {w : am_iv} {k : Nat} : tr_heap i o n w (2, o, 0) k = w (2, o, 0) k := by
  unfold tr_heap
  rw [tr_cp_o (by simp), am_ui_o (by simp [hio])]
theorem rbv_2 {i o n z0 z1 zt zw : Nat} (hio : o ≠ i) {w : am_iv} {k : Nat} (h4 : 4 ≤ k) (h9 : k ≤ 9) : rb_heap i o n z0 z1 zt zw w (2, i, 0) k = w (2, o, 0) k := by
  rw [rb_out (by simp)]
  unfold rb_n rb_f
  have e : ∀ (v : am_iv) (k : Nat) (x : Int32) (j : Nat), am_ui v (2, i, 0) k x (2, o, 0) j = v (2, o, 0) j := fun v k x j => am_ui_o (by simp [hio])
  simp only [e, tr_2o hio]
  rcases (show k = 4 ∨ k = 5 ∨ k = 6 ∨ k = 7 ∨ k = 8 ∨ k = 9 by omega) with rfl | rfl | rfl | rfl | rfl | rfl <;> simp [am_ui]
theorem rbv_1 {i o n z0 z1 zt zw : Nat} {w : am_iv} : rb_heap i o n z0 z1 zt zw w (2, i, 0) 1 = nI n := by
  rw [rb_out (by simp)]
  unfold rb_n rb_f
  rw [am_ui_n (by simp), am_ui_n (by simp), am_ui_n (by simp), am_ui_n (by simp), am_ui_n (by simp), am_ui_n (by simp)]
  unfold tr_heap
  rw [tr_cp_o (by simp), am_ui_s]
theorem rbv_4 {i o n z0 z1 zt zw : Nat} (hio : o ≠ i) {w : am_iv} {r k : Nat} (hr : r < n) (h1 : 1 ≤ k) (h7 : k ≤ 7) : rb_heap i o n z0 z1 zt zw w (4, i, r) k = w (4, o, r) k := by
  rw [rb_out (by simp)]
  unfold rb_n rb_f
  rw [am_ui_o (by simp), am_ui_o (by simp), am_ui_o (by simp), am_ui_o (by simp), am_ui_o (by simp), am_ui_o (by simp)]
  unfold tr_heap
  rw [tr_cp_v hio h1 h7 n hr, am_ui_o (by simp)]
theorem cpy_v {w : am_iv} {b a : am_N} {s k : Nat} (hk : k < s) : am_cpy w b a 0 0 s a k = w b k := by
  simp [am_cpy, va_cpy, hk]
theorem rbv_9 {i o n z0 z1 zt zw : Nat} {w : am_iv} : rb_heap i o n z0 z1 zt zw w (9, i, 0) 1 = nI z0 ∧ rb_heap i o n z0 z1 zt zw w (9, i, 1) 1 = nI z1 ∧ rb_heap i o n z0 z1 zt zw w (12, i, 0) 1 = nI zt ∧ rb_heap i o n z0 z1 zt zw w (14, i, 0) 1 = nI zw := by
  unfold rb_heap
  refine ⟨?_, ?_, ?_, ?_⟩
  · rw [rw_cp_o (by simp) (by simp), rw_cp_o (by simp) (by simp), tx_cp_o (by simp) (by simp)]
    unfold tx_cp
    rw [am_cpy_o (by simp), am_ui_s]
  · rw [rw_cp_o (by simp) (by simp), rw_cp_o (by simp) (by simp)]
    unfold tx_cp
    rw [am_cpy_o (by simp), am_ui_s]
  · rw [rw_cp_o (by simp) (by simp)]
    unfold rw_cp
    rw [am_cpy_o (by simp), am_ui_s]
  · unfold rw_cp
    rw [am_cpy_o (by simp), am_ui_s]
theorem rbv_10 {i o n z0 z1 zt zw : Nat} (hio : o ≠ i) {w : am_iv} {k : Nat} : (k < z0 → rb_heap i o n z0 z1 zt zw w (10, i, 0) k = w (10, o, 0) k) ∧ (k < z1 → rb_heap i o n z0 z1 zt zw w (10, i, 1) k = w (10, o, 1) k) ∧ (k < zt → rb_heap i o n z0 z1 zt zw w (13, i, 0) k = w (13, o, 0) k) ∧ (k < zw → rb_heap i o n z0 z1 zt zw w (15, i, 0) k = w (15, o, 0) k) := by
  have en : ∀ a b c : Nat, a ≠ 2 → a ≠ 4 → rb_n i o n w (a, b, c) = w (a, b, c) := fun a b c h2 h4 => funext fun k => rb_n_o (by simp [h2]) (by simpa using h4)
  unfold rb_heap
  refine ⟨fun hk => ?_, fun hk => ?_, fun hk => ?_, fun hk => ?_⟩
  · rw [rw_cp_o (by simp) (by simp), rw_cp_o (by simp) (by simp), tx_cp_o (by simp) (by simp)]
    unfold tx_cp
    rw [cpy_v hk, am_ui_o (by simp), en _ _ _ (by decide) (by decide)]
  · rw [rw_cp_o (by simp) (by simp), rw_cp_o (by simp) (by simp)]
    unfold tx_cp
    rw [cpy_v hk, am_ui_o (by simp), am_cpy_o (by simp [hio]), am_ui_o (by simp), en _ _ _ (by decide) (by decide)]
  · rw [rw_cp_o (by simp) (by simp)]
    unfold rw_cp
    rw [cpy_v hk, am_ui_o (by simp), tx_cp_o (by simp) (by simp), tx_cp_o (by simp) (by simp), en _ _ _ (by decide) (by decide)]
  · unfold rw_cp
    rw [cpy_v hk, am_ui_o (by simp), am_cpy_o (by simp), am_ui_o (by simp), tx_cp_o (by simp) (by simp), tx_cp_o (by simp) (by simp), en _ _ _ (by decide) (by decide)]
/-- rR with its numbers -/
def rX (kd : am_kd) (rv : am_rv) (i a n nl : Nat) (ln : Nat → am_N) (lk : Nat → Nat) (z0 y0 z1 y1 zt zw : Nat) (w u : am_iv) : Prop := (rR_n i a n w u ∧ rR_r i a n w u) ∧ rR_l kd rv i a nl ln lk w u ∧ rR_f i a w u ∧ (rR_t i a 0 z0 y0 w u ∧ rR_t i a 1 z1 y1 w u) ∧ rR_p i a zt w u ∧ rR_w i a zw w u
theorem rR.x {kd : am_kd} {rv : am_rv} {i a : Nat} {w u : am_iv} (h : rR kd rv i a w u) : ∃ n nl ln lk z0 y0 z1 y1 zt zw, rX kd rv i a n nl ln lk z0 y0 z1 y1 zt zw w u := by
  obtain ⟨⟨n, h1⟩, ⟨nl, ln, lk, h3⟩, h4, ⟨⟨z0, y0, h5⟩, z1, y1, h6⟩, ⟨zt, h7⟩, zw, h8⟩ := h
  exact ⟨n, nl, ln, lk, z0, y0, z1, y1, zt, zw, h1, h3, h4, ⟨h5, h6⟩, h7, h8⟩
theorem rX.r {kd : am_kd} {rv : am_rv} {i a n nl : Nat} {ln : Nat → am_N} {lk : Nat → Nat} {z0 y0 z1 y1 zt zw : Nat} {w u : am_iv} (h : rX kd rv i a n nl ln lk z0 y0 z1 y1 zt zw w u) : rR kd rv i a w u := ⟨⟨n, h.1⟩, ⟨nl, ln, lk, h.2.1⟩, h.2.2.1, ⟨⟨z0, y0, h.2.2.2.1.1⟩, z1, y1, h.2.2.2.1.2⟩, ⟨zt, h.2.2.2.2.1⟩, zw, h.2.2.2.2.2⟩
theorem rx_cp_v {f t : am_N} {iv : am_iv} {j k : Nat} (hk : k < j) : rx_cp f t iv j t k = iv f k := by
  unfold rx_cp
  rw [if_pos ⟨rfl, hk⟩]
theorem rx_cp_o {f t q : am_N} {iv : am_iv} {j k : Nat} (h : q ≠ t) : rx_cp f t iv j q k = iv q k := by
  unfold rx_cp
  rw [if_neg (fun e => h e.1)]
theorem rX.become {kd : am_kd} {rv : am_rv} {i o a b n nl : Nat} {ln : Nat → am_N} {lk : Nat → Nat} {z0 y0 z1 y1 zt zw : Nat} {w u : am_iv} (hio : o ≠ i) (h : rX kd rv o a n nl ln lk z0 y0 z1 y1 zt zw w u) : rX kd (lw_cp i o rv 6) i b n nl ln lk z0 y0 z1 y1 zt zw (rb_heap i o n z0 z1 zt zw w) (rx_cp (31, a, 0) (31, b, 0) u 300) := by
  obtain ⟨⟨⟨a1, a2, a3⟩, b1, b2⟩, ⟨c1, c2, c3, c4⟩, ⟨d1, ⟨d2, d3, d4⟩, ⟨d5, d6, d7⟩, d8, d9⟩, ⟨⟨e1, e2, e3, e4, e5⟩, f1, f2, f3, f4, f5⟩, ⟨g1, g2, g3, g4⟩, h1, h2, h3, h4⟩ := h
  have cp : ∀ k, k < 300 → rx_cp (31, a, 0) (31, b, 0) u 300 (31, b, 0) k = u (31, a, 0) k := fun k hk => rx_cp_v hk
  have v4 : ∀ r, r < n → ∀ k, 1 ≤ k → k ≤ 7 → rb_heap i o n z0 z1 zt zw w (4, i, r) k = w (4, o, r) k := fun r hr k q1 q7 => rbv_4 hio hr q1 q7
  refine ⟨⟨⟨rbv_1, (cp 1 (by decide)).trans a2, a3⟩, fun r hr k q1 q7 => ?_, fun r hr => rok_f (b2 r hr) (v4 r hr)⟩, ⟨(rbv_2 hio (by decide) (by decide)).trans c1, (cp 2 (by decide)).trans c2, c3, fun j hj => ?_⟩, ⟨?_, ⟨?_, ?_, ?_⟩, ⟨?_, ?_, ?_⟩, ?_, ?_⟩, ⟨⟨rbv_9.1, e2, (cp _ (by decide)).trans e3, e4, ?_⟩, ⟨rbv_9.2.1, f2, (cp _ (by decide)).trans f3, f4, ?_⟩⟩, ⟨rbv_9.2.2.1, (cp 7 (by decide)).trans g2, g3, fun k hk => ?_⟩, ⟨rbv_9.2.2.2, (cp 8 (by decide)).trans h2, h3, fun k hk => ?_⟩⟩
  · rw [v4 r hr k q1 q7, cp _ (by omega)]; exact b1 r hr k q1 q7
  · obtain ⟨⟨l1, l2, l3, l4⟩, l5, l6, l7, l8⟩ := c4 j hj
    have el : ∀ k, rb_heap i o n z0 z1 zt zw w (ln j) k = w (ln j) k := fun k => chg.rb _ k (Or.inl (fun e => by have := e.2.1; omega))
    exact ⟨⟨(lw_cp_v (by omega)).trans l1, l2, l3, l4⟩, by rw [el]; exact l5, by rw [el]; exact l6, by rw [el, cp _ (by omega)]; exact l7, by rw [cp _ (by omega)]; exact l8⟩
  · rw [rbv_2 hio (by decide) (by decide), cp _ (by decide)]; exact d1
  · rw [rbv_2 hio (by decide) (by decide), cp _ (by decide)]; exact d2
  · rw [rbv_2 hio (by decide) (by decide)]; exact d3
  · rw [rbv_2 hio (by decide) (by decide)]; exact d4
  · rw [rbv_2 hio (by decide) (by decide), cp _ (by decide)]; exact d5
  · rw [rbv_2 hio (by decide) (by decide)]; exact d6
  · rw [rbv_2 hio (by decide) (by decide)]; exact d7
  · rw [rbv_2 hio (by decide) (by decide), cp _ (by decide)]; exact d8
  · rw [rbv_2 hio (by decide) (by decide), cp _ (by decide)]; exact d9
  · exact e5.c (fun k hk => (rbv_10 hio).1 hk) (fun p hp => cp _ (by omega))
  · exact f5.c (fun k hk => (rbv_10 hio).2.1 hk) (fun p hp => cp _ (by omega))
  · rw [(rbv_10 hio).2.2.1 hk, cp _ (by omega)]; exact g4 k hk
  · rw [(rbv_10 hio).2.2.2 hk, cp _ (by omega)]; exact h4 k hk
theorem rX.laws {kd : am_kd} {rv : am_rv} {i a n nl : Nat} {ln : Nat → am_N} {lk : Nat → Nat} {z0 y0 z1 y1 zt zw : Nat} {w u : am_iv} (h : rX kd rv i a n nl ln lk z0 y0 z1 y1 zt zw w u) : rm_laws kd rv w i nl ln lk := ⟨h.2.1.1, h.2.1.2.2.1, fun j hj => (h.2.1.2.2.2 j hj).1⟩
/-- a room as it stands ticks like its row: the losses by the texts of row 0 -/
theorem rX.tR {kd : am_kd} {rv : am_rv} {i a n nl : Nat} {ln : Nat → am_N} {lk : Nat → Nat} {z0 y0 z1 y1 zt zw : Nat} {w u : am_iv} (h : rX kd rv i a n nl ln lk z0 y0 z1 y1 zt zw w u) (h0 : ∀ r, r < 8 → w (4, i, r) 0 = nI r ∧ w (6, i, r) 0 = nI r) (ha : ∀ k, k < 300 → u (31, 0, 0) k = u (31, a, 0) k) : tR i a n nl z1 y1 ln lk w u := by
  obtain ⟨⟨⟨a1, a2, a3⟩, b1, b2⟩, ⟨c1, c2, c3, c4⟩, ⟨d1, ⟨d2, d3, d4⟩, ⟨d5, d6, d7⟩, d8, d9⟩, ⟨-, f1, f2, f3, f4, f5⟩, -, -⟩ := h
  refine ⟨⟨b1, fun r hr => (h0 r (by omega)).2, b2, d1, d2, ⟨d3, d4⟩, fun j hj => (c4 j hj).2.2.2.1, fun k => rfl, fun p => rfl, fun k hk => rfl⟩, ⟨a1, a3, f1, f2, c1, c3⟩, ⟨a2, c2, fun j hj => ⟨(c4 j hj).1.2.1, (c4 j hj).2.2.2.2⟩, (ha 41 (by decide)).trans f3, f4⟩, fun j hj => (c4 j hj).1.2.2.2, ?_, fun r hr => (h0 r (by omega)).1⟩
  exact f5.c (fun k hk => rfl) (fun p hp => ha _ (by omega))
