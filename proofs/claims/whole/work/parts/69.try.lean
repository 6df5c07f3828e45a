/-- of the room where things are tried: all but the rings, the time and what is on -/
def bR (kd : am_kd) (rv : am_rv) (nl : Nat) (ln : Nat → am_N) (lk : Nat → Nat) (z0 y0 z1 y1 a : Nat) (w u : am_iv) : Prop := rR_l kd rv 1 a nl ln lk w u ∧ ((w (2, 1, 0) 6 = u (31, a, 0) 4 ∧ -99999 ≤ (w (2, 1, 0) 6).toInt ∧ (w (2, 1, 0) 6).toInt ≤ 99999) ∧ (w (2, 1, 0) 7 = u (31, a, 0) 5 ∧ 1 ≤ (w (2, 1, 0) 7).toInt ∧ (w (2, 1, 0) 7).toInt ≤ 50)) ∧ (rR_t 1 0 0 z0 y0 w u ∧ rR_t 1 0 1 z1 y1 w u) ∧ ∀ r, r < 8 → w (4, 1, r) 0 = nI r ∧ w (6, 1, r) 0 = nI r
def oR (a : Nat) (w u : am_iv) : Prop := w (2, 1, 0) 5 = u (31, a, 0) 3
/-- the places that bR looks at -/
def fB (q : am_N) (k : Nat) : Prop := (q = (2, 1, 0) ∧ 4 ≤ k ∧ k ≤ 7) ∨ q.1 = 22 ∨ (q.1 = 9 ∧ k = 1) ∨ q.1 = 10 ∨ ((q.1 = 4 ∨ q.1 = 6) ∧ k = 0)
def chB (w w' : am_iv) : Prop := ∀ q k, fB q k → w' q k = w q k
theorem chB.rf (w : am_iv) : chB w w := fun _ _ _ => rfl
theorem chB.tr {a b c : am_iv} (h1 : chB a b) (h2 : chB b c) : chB a c := fun q k h => (h2 q k h).trans (h1 q k h)
theorem bR.c {kd : am_kd} {rv : am_rv} {nl : Nat} {ln : Nat → am_N} {lk : Nat → Nat} {z0 y0 z1 y1 : Nat} {a : Nat} {w w' u : am_iv} (h : bR kd rv nl ln lk z0 y0 z1 y1 a w u) (hw : ∀ q k, fB q k → ¬ (q = (2, 1, 0) ∧ k = 5) → w' q k = w q k) : bR kd rv nl ln lk z0 y0 z1 y1 a w' u := by
  obtain ⟨⟨c1, c2, c3, c4⟩, ⟨⟨d1, d2, d3⟩, d4, d5, d6⟩, ⟨⟨e1, e2, e3, e4, e5⟩, f1, f2, f3, f4, f5⟩, h0⟩ := h
  have w4 := hw (2, 1, 0) 4 (Or.inl ⟨rfl, by decide, by decide⟩) (by simp)
  have w6 := hw (2, 1, 0) 6 (Or.inl ⟨rfl, by decide, by decide⟩) (by simp)
  have w7 := hw (2, 1, 0) 7 (Or.inl ⟨rfl, by decide, by decide⟩) (by simp)
  have w9 : ∀ i, w' (9, 1, i) 1 = w (9, 1, i) 1 := fun i => hw _ _ (Or.inr (Or.inr (Or.inl ⟨rfl, rfl⟩))) (by simp)
  have w10 : ∀ i k, w' (10, 1, i) k = w (10, 1, i) k := fun i k => hw _ _ (Or.inr (Or.inr (Or.inr (Or.inl rfl)))) (by simp)
  refine ⟨⟨w4.trans c1, c2, c3, fun j hj => ?_⟩, ⟨⟨w6.trans d1, by rw [w6]; exact d2, by rw [w6]; exact d3⟩, w7.trans d4, by rw [w7]; exact d5, by rw [w7]; exact d6⟩, ⟨⟨(w9 0).trans e1, e2, e3, e4, e5.c (fun k _ => w10 0 k) (fun _ _ => rfl)⟩, (w9 1).trans f1, f2, f3, f4, f5.c (fun k _ => w10 1 k) (fun _ _ => rfl)⟩, fun r hr => ⟨(hw _ _ (Or.inr (Or.inr (Or.inr (Or.inr ⟨Or.inl rfl, rfl⟩)))) (by simp)).trans (h0 r hr).1, (hw _ _ (Or.inr (Or.inr (Or.inr (Or.inr ⟨Or.inr rfl, rfl⟩)))) (by simp)).trans (h0 r hr).2⟩⟩
  obtain ⟨l0, l5, l6, l7, l8⟩ := c4 j hj
  have el : ∀ k, w' (ln j) k = w (ln j) k := fun k => hw _ _ (Or.inr (Or.inl l0.2.2.2)) (fun e => by have := l0.2.2.2; rw [e.1] at this; simp at this)
  exact ⟨l0, by rw [el]; exact l5, by rw [el]; exact l6, by rw [el]; exact l7, l8⟩
theorem bR.cw {kd : am_kd} {rv : am_rv} {nl : Nat} {ln : Nat → am_N} {lk : Nat → Nat} {z0 y0 z1 y1 : Nat} {a : Nat} {w w' u : am_iv} (h : bR kd rv nl ln lk z0 y0 z1 y1 a w u) (hw : chB w w') : bR kd rv nl ln lk z0 y0 z1 y1 a w' u := h.c (fun q k z _ => hw q k z)
theorem oR.cw {a : Nat} {w w' u : am_iv} (h : oR a w u) (hw : chB w w') : oR a w' u := (hw _ _ (Or.inl ⟨rfl, by decide, by decide⟩)).trans h
theorem bR.cu {kd : am_kd} {rv : am_rv} {nl : Nat} {ln : Nat → am_N} {lk : Nat → Nat} {z0 y0 z1 y1 : Nat} {a : Nat} {w u u' : am_iv} (h : bR kd rv nl ln lk z0 y0 z1 y1 a w u) (h1 : ∀ k, 2 ≤ k → k ≠ 3 → k ≠ 8 → k < 80 → u' (31, a, 0) k = u (31, a, 0) k) (h2 : ∀ k, 40 ≤ k → k < 300 → u' (31, 0, 0) k = u (31, 0, 0) k) : bR kd rv nl ln lk z0 y0 z1 y1 a w u' := by
  obtain ⟨⟨c1, c2, c3, c4⟩, ⟨⟨d1, d2, d3⟩, d4, d5, d6⟩, ⟨⟨e1, e2, e3, e4, e5⟩, f1, f2, f3, f4, f5⟩, h0⟩ := h
  refine ⟨⟨c1, (h1 2 (by decide) (by decide) (by decide) (by decide)).trans c2, c3, fun j hj => ?_⟩, ⟨⟨d1.trans (h1 4 (by decide) (by decide) (by decide) (by decide)).symm, d2, d3⟩, d4.trans (h1 5 (by decide) (by decide) (by decide) (by decide)).symm, d5, d6⟩, ⟨⟨e1, e2, (h2 _ (by decide) (by decide)).trans e3, e4, e5.c (fun _ _ => rfl) (fun p hp => h2 _ (by omega) (by omega))⟩, f1, f2, (h2 _ (by decide) (by decide)).trans f3, f4, f5.c (fun _ _ => rfl) (fun p hp => h2 _ (by omega) (by omega))⟩, h0⟩
  obtain ⟨l0, l5, l6, l7, l8⟩ := c4 j hj
  exact ⟨l0, l5, l6, by rw [h1 _ (by omega) (by omega) (by omega) (by omega)]; exact l7, by rw [h1 _ (by omega) (by omega) (by omega) (by omega)]; exact l8⟩
/-- row b becomes row a -/
theorem bR.cp {kd : am_kd} {rv : am_rv} {nl : Nat} {ln : Nat → am_N} {lk : Nat → Nat} {z0 y0 z1 y1 : Nat} {a b : Nat} {w u : am_iv} (hb : b ≠ 0) (h : bR kd rv nl ln lk z0 y0 z1 y1 a w u) : bR kd rv nl ln lk z0 y0 z1 y1 b w (rx_cp (31, a, 0) (31, b, 0) u 300) := by
  have cp : ∀ k, k < 300 → rx_cp (31, a, 0) (31, b, 0) u 300 (31, b, 0) k = u (31, a, 0) k := fun k hk => rx_cp_v hk
  have c0 : ∀ k, rx_cp (31, a, 0) (31, b, 0) u 300 (31, 0, 0) k = u (31, 0, 0) k := fun k => rx_cp_o (by simp; omega)
  obtain ⟨⟨c1, c2, c3, c4⟩, ⟨⟨d1, d2, d3⟩, d4, d5, d6⟩, ⟨⟨e1, e2, e3, e4, e5⟩, f1, f2, f3, f4, f5⟩, h0⟩ := h
  refine ⟨⟨c1, (cp 2 (by decide)).trans c2, c3, fun j hj => ?_⟩, ⟨⟨d1.trans (cp 4 (by decide)).symm, d2, d3⟩, d4.trans (cp 5 (by decide)).symm, d5, d6⟩, ⟨⟨e1, e2, (c0 _).trans e3, e4, e5.c (fun _ _ => rfl) (fun p hp => c0 _)⟩, f1, f2, (c0 _).trans f3, f4, f5.c (fun _ _ => rfl) (fun p hp => c0 _)⟩, h0⟩
  obtain ⟨l0, l5, l6, l7, l8⟩ := c4 j hj
  exact ⟨l0, l5, l6, by rw [cp _ (by omega)]; exact l7, by rw [cp _ (by omega)]; exact l8⟩
theorem oR.cp {a b : Nat} {w u : am_iv} (h : oR a w u) : oR b w (rx_cp (31, a, 0) (31, b, 0) u 300) := h.trans (rx_cp_v (by decide)).symm
theorem rR_n.cp {i a b n : Nat} {w u : am_iv} (h : rR_n i a n w u) : rR_n i b n w (rx_cp (31, a, 0) (31, b, 0) u 300) := ⟨h.1, (rx_cp_v (by decide)).trans h.2.1, h.2.2⟩
theorem rR_r.cp {i a b n : Nat} {w u : am_iv} (hn8 : n ≤ 8) (h : rR_r i a n w u) : rR_r i b n w (rx_cp (31, a, 0) (31, b, 0) u 300) := ⟨fun r hr k q1 q7 => by rw [rx_cp_v (by omega)]; exact h.1 r hr k q1 q7, h.2⟩
theorem bR.laws {kd : am_kd} {rv : am_rv} {nl : Nat} {ln : Nat → am_N} {lk : Nat → Nat} {z0 y0 z1 y1 : Nat} {a : Nat} {w u : am_iv} (h : bR kd rv nl ln lk z0 y0 z1 y1 a w u) : rm_laws kd rv w 1 nl ln lk := ⟨h.1.1, h.1.2.2.1, fun j hj => (h.1.2.2.2 j hj).1⟩
theorem bR.tR {kd : am_kd} {rv : am_rv} {nl : Nat} {ln : Nat → am_N} {lk : Nat → Nat} {z0 y0 z1 y1 : Nat} {b n : Nat} {w u : am_iv} (h : bR kd rv nl ln lk z0 y0 z1 y1 b w u) (ho : oR b w u) (hn : rR_n 1 b n w u) (hr : rR_r 1 b n w u) : tR 1 b n nl z1 y1 ln lk w u := by
  obtain ⟨⟨c1, c2, c3, c4⟩, ⟨⟨d1, d2, d3⟩, -⟩, ⟨-, f1, f2, f3, f4, f5⟩, h0⟩ := h
  obtain ⟨a1, a2, a3⟩ := hn
  obtain ⟨b1, b2⟩ := hr
  exact ⟨⟨b1, fun r hr => (h0 r (by omega)).2, b2, ho, d1, ⟨d2, d3⟩, fun j hj => (c4 j hj).2.2.2.1, fun k => rfl, fun p => rfl, fun k hk => rfl⟩, ⟨a1, a3, f1, f2, c1, c3⟩, ⟨a2, c2, fun j hj => ⟨(c4 j hj).1.2.1, (c4 j hj).2.2.2.2⟩, f3, f4⟩, fun j hj => (c4 j hj).1.2.2.2, f5.c (fun k hk => rfl) (fun p hp => rfl), fun r hr => (h0 r (by omega)).1⟩
theorem rX.b0 {kd : am_kd} {rv : am_rv} {n nl : Nat} {ln : Nat → am_N} {lk : Nat → Nat} {z0 y0 z1 y1 zt zw : Nat} {w u : am_iv} (h : rX kd rv 0 0 n nl ln lk z0 y0 z1 y1 zt zw w u) (h0 : ∀ r, r < 8 → w (4, 1, r) 0 = nI r ∧ w (6, 1, r) 0 = nI r) : bR kd (lw_cp 1 0 rv 6) nl ln lk z0 y0 z1 y1 0 (rb_heap 1 0 n z0 z1 zt zw w) u ∧ oR 0 (rb_heap 1 0 n z0 z1 zt zw w) u ∧ rR_n 1 0 n (rb_heap 1 0 n z0 z1 zt zw w) u ∧ rR_r 1 0 n (rb_heap 1 0 n z0 z1 zt zw w) u := by
  have h1 := rX.become (i := 1) (o := 0) (a := 0) (b := 0) (by decide) h
  have e : rx_cp (31, 0, 0) (31, 0, 0) u 300 = u := by
    funext q k
    unfold rx_cp
    split
    · next e => rw [e.1]
    · rfl
  rw [e] at h1
  obtain ⟨⟨hn, hr⟩, hl, ⟨f1, f2, f3, -, -⟩, ht, -, -⟩ := h1
  exact ⟨⟨hl, ⟨f2, f3⟩, ht, fun r hr => ⟨(chg.rb _ 0 (Or.inr ⟨Or.inl rfl, rfl⟩)).trans (h0 r hr).1, (chg.rb _ 0 (Or.inr ⟨Or.inr rfl, rfl⟩)).trans (h0 r hr).2⟩⟩, f1, hn, hr⟩
/-- the room ahead as it begins, against row 1 -/
theorem ah_tR {kd : am_kd} {rv : am_rv} {n nl : Nat} {ln : Nat → am_N} {lk : Nat → Nat} {z0 y0 z1 y1 zt zw : Nat} {w u : am_iv} (h : rX kd rv 0 0 n nl ln lk z0 y0 z1 y1 zt zw w u) (h0 : ∀ r, r < 8 → w (4, 1, r) 0 = nI r ∧ w (6, 1, r) 0 = nI r) : tR 1 1 n nl z1 y1 ln lk (rb_heap 1 0 n z0 z1 zt zw w) (rx_cp (31, 0, 0) (31, 1, 0) u 300) := by
  obtain ⟨h1, h2, h3, h4⟩ := h.b0 h0
  exact (h1.cp (b := 1) (by decide)).tR h2.cp h3.cp (h4.cp h.1.1.2.2)
/-- what becoming room 0 asks -/
def AH (kd : am_kd) (rv : am_rv) (n z0 z1 zt zw : Nat) (iv : am_iv) : Prop := (iv (2, 0, 0) 1 = nI n ∧ n ≤ 8 ∧ (∀ r, r < n → iv (4, 0, r) 7 = 0 ∨ iv (4, 0, r) 7 = 1) ∧ la_ok kd rv 0) ∧ (iv (9, 0, 0) 1 = nI z0 ∧ z0 ≤ 50 ∧ iv (9, 0, 1) 1 = nI z1 ∧ z1 ≤ 50) ∧ iv (12, 0, 0) 1 = nI zt ∧ zt ≤ 50 ∧ iv (14, 0, 0) 1 = nI zw ∧ zw ≤ 20
theorem rX.AH {kd : am_kd} {rv : am_rv} {n nl : Nat} {ln : Nat → am_N} {lk : Nat → Nat} {z0 y0 z1 y1 zt zw : Nat} {w u : am_iv} (h : rX kd rv 0 0 n nl ln lk z0 y0 z1 y1 zt zw w u) (hk : kR kd rv) : _root_.Jvm.Pilot.CSmokeRingsLaw_law_r5279_9afc0a.AH kd rv n z0 z1 zt zw w := ⟨⟨h.1.1.1, h.1.1.2.2, fun r hr => (h.1.2.2 r hr).2.2.2.2.2.2, hk.2.2.2 0 (by decide)⟩, ⟨h.2.2.2.1.1.1, h.2.2.2.1.1.2.1, h.2.2.2.1.2.1, h.2.2.2.1.2.2.1⟩, h.2.2.2.2.1.1, h.2.2.2.2.1.2.2.1, h.2.2.2.2.2.1, h.2.2.2.2.2.2.2.1⟩
theorem s_bec (l : Launch) {kd : am_kd} {rv : am_rv} {iv : am_iv} (hS : sh kd rv) {n z0 z1 zt zw : Nat} (h : AH kd rv n z0 z1 zt zw iv) : am_Met l mX4_become (am_rm 2 0 0) [am_P (2, 1, 0), am_P (2, 0, 0)] kd rv iv (am_ret none kd (lw_cp 1 0 rv 6) (rb_heap 1 0 n z0 z1 zt zw iv)) := s_rmbecome l hS 1 (by decide) 0 (by decide) (by decide) n h.1.1 h.1.2.1 h.1.2.2.1 h.1.2.2.2 z0 z1 zt zw h.2.1.1 h.2.1.2.1 h.2.1.2.2.1 h.2.1.2.2.2 h.2.2.1 h.2.2.2.1 h.2.2.2.2.1 h.2.2.2.2.2
/-- what is kept while the room ahead ticks -/
def tQ (a n nl z : Nat) (ln : Nat → am_N) (lk : Nat → Nat) (w : am_iv) : Prop := ∃ y u, tR 1 a n nl z y ln lk w u
def rQ (a n nl y : Nat) (lk : Nat → Nat) (u : am_iv) : Prop := ∃ z ln w, tR 1 a n nl z y ln lk w u
theorem tQ.cls {a n nl z : Nat} {ln : Nat → am_N} {lk : Nat → Nat} : ∀ w, tQ a n nl z ln lk w → tk_q 1 n z nl w := fun w h => by
  obtain ⟨y, u, h⟩ := h
  exact h.cls
theorem tQ.tick {a n nl z : Nat} {ln : Nat → am_N} {lk : Nat → Nat} (ha : a < 3) : ∀ w, tQ a n nl z ln lk w → tQ a n nl z ln lk (rm_tick 1 n z nl ln lk w) := fun w h => by
  obtain ⟨y, u, h⟩ := h
  exact ⟨y, _, h.tick ha⟩
theorem rQ.ref {a n nl y : Nat} {lk : Nat → Nat} : ∀ u, rQ a n nl y lk u → rt_pre u a n nl y lk := fun u h => by
  obtain ⟨z, ln, w, h⟩ := h
  exact h.ref
theorem rQ.tick {a n nl y : Nat} {lk : Nat → Nat} (ha : a < 3) : ∀ u, rQ a n nl y lk u → rQ a n nl y lk (rt_tick a n nl y lk u) := fun u h => by
  obtain ⟨z, ln, w, h⟩ := h
  exact ⟨z, ln, _, h.tick ha⟩
theorem s_goA (l : Launch) {kd : am_kd} {rv : am_rv} {iv : am_iv} (hS : sh kd rv) {n nl z0 z1 zt zw : Nat} {ln : Nat → am_N} {lk : Nat → Nat} (h : AH kd rv n z0 z1 zt zw iv) (hl : rm_laws kd (lw_cp 1 0 rv 6) (rb_heap 1 0 n z0 z1 zt zw iv) 1 nl ln lk) (hq : tQ 1 n nl z1 ln lk (rb_heap 1 0 n z0 z1 zt zw iv)) (N : Nat) (hN : N < 2 ^ 31) : am_Met l mX11_goAhead (am_rm 7 0 0) [am_P (1, 0, 0), am_I (nI N)] kd rv iv (am_ret none kd (lw_cp 1 0 rv 6) (it (rm_tick 1 n z1 nl ln lk) N (rb_heap 1 0 n z0 z1 zt zw iv))) := s_goAhead l hS nl ln lk n z1 _ tQ.cls (tQ.tick (by decide)) h.1.1 h.1.2.1 h.1.2.2.1 h.1.2.2.2 z0 zt zw h.2.1.1 h.2.1.2.1 h.2.1.2.2.1 h.2.1.2.2.2 h.2.2.1 h.2.2.2.1 h.2.2.2.2.1 h.2.2.2.2.2 hl hq N hN
theorem ah60 {x : Int32} (h : 0 ≤ x ∧ x ≤ 60) : x.toNatClampNeg ≤ 60 := nI_cl_le (n := 60) h.1 h.2 (by decide)
theorem CALL.fg {l : Launch} {kd : am_kd} {rv : am_rv} {iv : am_iv} {mc mr : am_M} {args : List am_V} {d1 d2 : Nat} (h : REL kd rv iv iv) (C : Int32 × am_rv × am_iv) (R : am_iv → Int32 × am_iv) (hc : am_Met l mc (am_rm d1 0 0) (am_P (1, 0, 0) :: args) kd rv iv (am_ret (some (am_I C.1)) kd C.2.1 C.2.2)) (fc : ∀ q k, uN q → C.2.2 q k = iv q k) (hr : shr kd C.2.1 → REL kd rv iv C.2.2 → (∀ q k, uN q → C.2.2 q k = iv q k) → am_Met l mr (am_rm d2 0 0) (am_P (30, 0, 0) :: args) kd C.2.1 C.2.2 (am_ret (some (am_I (R C.2.2).1)) kd C.2.1 (R C.2.2).2)) (b1 : d1 ≤ 60) (b2 : d2 ≤ 60) (hp : ∀ u, REL kd rv iv u → (∀ q k, uN q → u q k = iv q k) → C.1 = (R u).1 ∧ REL kd C.2.1 C.2.2 (R u).2) (fr : ∀ u q k, cN q → (R u).2 q k = u q k) : CALL l kd rv iv mc mr args := by
  have h1 : REL kd rv iv C.2.2 := h.same (fun _ _ _ => rfl) fc
  obtain ⟨e, h2⟩ := hp _ h1 fc
  exact CALL.of hc (hr h2.R h1 fc) b1 b2 e h2 (fr _)
