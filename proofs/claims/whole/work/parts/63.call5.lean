theorem rR_n.c {i a n : Nat} {w u w' u' : am_iv} (h : rR_n i a n w u) (hw : w' (2, i, 0) 1 = w (2, i, 0) 1) (hu : u' (31, a, 0) 1 = u (31, a, 0) 1) : rR_n i a n w' u' := ⟨hw.trans h.1, hu.trans h.2.1, h.2.2⟩
theorem rR_r.c {i a n : Nat} {w u w' u' : am_iv} (h : rR_r i a n w u) (hn : n ≤ 8) (hw : ∀ r k, w' (4, i, r) k = w (4, i, r) k) (hu : ∀ k, 80 ≤ k → k < 144 → u' (31, a, 0) k = u (31, a, 0) k) : rR_r i a n w' u' := ⟨fun r hr k q1 q7 => by rw [hw, hu _ (by omega) (by omega)]; exact h.1 r hr k q1 q7, fun r hr => rok_f (h.2 r hr) (fun k _ _ => hw r k)⟩
theorem rR_l.c {kd : am_kd} {rv : am_rv} {i a nl : Nat} {ln : Nat → am_N} {lk : Nat → Nat} {w u w' u' : am_iv} (h : rR_l kd rv i a nl ln lk w u) (hw : w' (2, i, 0) 4 = w (2, i, 0) 4) (hl : ∀ q k, q.1 = 22 → w' q k = w q k) (hu : ∀ k, k = 2 ∨ (20 ≤ k ∧ k < 32) → u' (31, a, 0) k = u (31, a, 0) k) : rR_l kd rv i a nl ln lk w' u' := by
  obtain ⟨c1, c2, c3, c4⟩ := h
  refine ⟨hw.trans c1, (hu 2 (Or.inl rfl)).trans c2, c3, fun j hj => ?_⟩
  obtain ⟨l0, l5, l6, l7, l8⟩ := c4 j hj
  have el : ∀ k, w' (ln j) k = w (ln j) k := fun k => hl _ _ l0.2.2.2
  exact ⟨l0, by rw [el]; exact l5, by rw [el]; exact l6, by rw [el, hu _ (by omega)]; exact l7, by rw [hu _ (by omega)]; exact l8⟩
theorem rR_f.c {i a : Nat} {w u w' u' : am_iv} (h : rR_f i a w u) (hw : ∀ k, 5 ≤ k → k ≤ 9 → w' (2, i, 0) k = w (2, i, 0) k) (hu : ∀ k, k = 0 ∨ (3 ≤ k ∧ k ≤ 6) → u' (31, a, 0) k = u (31, a, 0) k) : rR_f i a w' u' := by
  obtain ⟨d1, ⟨d2, d3, d4⟩, ⟨d5, d6, d7⟩, d8, d9⟩ := h
  exact ⟨by rw [hw _ (by decide) (by decide), hu _ (by decide)]; exact d1, ⟨by rw [hw _ (by decide) (by decide), hu _ (by decide)]; exact d2, by rw [hw _ (by decide) (by decide)]; exact d3, by rw [hw _ (by decide) (by decide)]; exact d4⟩, ⟨by rw [hw _ (by decide) (by decide), hu _ (by decide)]; exact d5, by rw [hw _ (by decide) (by decide)]; exact d6, by rw [hw _ (by decide) (by decide)]; exact d7⟩, by rw [hw _ (by decide) (by decide), hu _ (by decide)]; exact d8, by rw [hw _ (by decide) (by decide), hu _ (by decide)]; exact d9⟩
theorem rR_t.c {i a use zc zr : Nat} {w u w' u' : am_iv} (h : rR_t i a use zc zr w u) (h9 : w' (9, i, use) 1 = w (9, i, use) 1) (h10 : ∀ k, w' (10, i, use) k = w (10, i, use) k) (hu : u' (31, a, 0) (40 + use) = u (31, a, 0) (40 + use)) (hb : ∀ p, p < 50 → u' (31, a, 0) (150 + 50 * use + p) = u (31, a, 0) (150 + 50 * use + p)) : rR_t i a use zc zr w' u' := ⟨h9.trans h.1, h.2.1, hu.trans h.2.2.1, h.2.2.2.1, h.2.2.2.2.c (fun k _ => h10 k) (fun p hp => hb p (by have := h.2.2.2.1; omega))⟩
theorem rR_p.c {i a zt : Nat} {w u w' u' : am_iv} (h : rR_p i a zt w u) (h12 : w' (12, i, 0) 1 = w (12, i, 0) 1) (h13 : ∀ k, w' (13, i, 0) k = w (13, i, 0) k) (hu : ∀ k, k = 7 ∨ (250 ≤ k ∧ k < 300) → u' (31, a, 0) k = u (31, a, 0) k) : rR_p i a zt w' u' := ⟨h12.trans h.1, (hu 7 (Or.inl rfl)).trans h.2.1, h.2.2.1, fun k hk => by rw [h13, hu _ (by have := h.2.2.1; omega)]; exact h.2.2.2 k hk⟩
theorem rR_w.c {i a zw : Nat} {w u w' u' : am_iv} (h : rR_w i a zw w u) (h14 : w' (14, i, 0) 1 = w (14, i, 0) 1) (h15 : ∀ k, w' (15, i, 0) k = w (15, i, 0) k) (hu : ∀ k, k = 8 ∨ (50 ≤ k ∧ k < 70) → u' (31, a, 0) k = u (31, a, 0) k) : rR_w i a zw w' u' := ⟨h14.trans h.1, (hu 8 (Or.inl rfl)).trans h.2.1, h.2.2.1, fun k hk => by rw [h15, hu _ (by have := h.2.2.1; omega)]; exact h.2.2.2 k hk⟩
theorem rw_add_o {n a q : am_N} {z s k : Nat} {v : Int32} {iv : am_iv} (h1 : q ≠ a) (h2 : q ≠ n) : rw_add n a z s v iv q k = iv q k := by
  unfold rw_add
  split
  · rw [am_ui_o h2, am_ui_o h1]
  · rfl
theorem chg.add {i : Nat} {w : am_iv} {n a : am_N} {z s : Nat} {v : Int32} (hn : inR i n) (ha : inR i a) (hn4 : n.1 ≠ 4 ∧ n.1 ≠ 6) (ha4 : a.1 ≠ 4 ∧ a.1 ≠ 6) : chg i w (rw_add n a z s v w) := by
  unfold rw_add
  split
  · exact (chg.ui ha (Or.inl ha4)).tr (chg.ui hn (Or.inl hn4))
  · exact chg.rf _ _
theorem call_tell (l : Launch) {kd : am_kd} {rv : am_rv} {iv : am_iv} (h : REL kd rv iv iv) (x : Int32) : CALL l kd rv iv mX11_tell mX12_tell [am_I x] := by
  obtain ⟨n, nl, ln, lk, z0, y0, z1, y1, zt, zw, hX⟩ := h.n
  have hn := hX.1.1.1
  have hn8 := hX.1.1.2.2
  have hl := hX.laws
  refine CALL.ff (d2 := 1) h (c_tell x zw) (d_tell x zw) (p_tell l h.S x zw hX.2.2.2.2.2.1 hX.2.2.2.2.2.2.2.1) (fun q k hq => ?_) (fun h1 eu => ?_) (by decide) (by decide) (fun u hu eu => ?_) (fun u q k hq => ?_)
  · unfold c_tell
    split
    · exact (chg.add (inR14 0 0) (inR15 0 0) ⟨by simp, by simp⟩ ⟨by simp, by simp⟩).u hq
    · exact er_u hq
  · have hX := hX.u eu
    exact q_tell l h1.R x zw hX.2.2.2.2.2.2.1 hX.2.2.2.2.2.2.2.1
  · have hX := hX.u eu
    obtain ⟨⟨a0, b0⟩, l0, f0, ⟨t0, t1⟩, p0, g1, g2, g3, g4⟩ := hX
    unfold c_tell d_tell
    by_cases c : zw < 20
    · rw [if_pos (by rw [g1]; exact nI_lt (b := 20) c (by decide)), if_neg (by rw [g2]; exact fun e => absurd ((nI_lit (c := 20) (by omega) (by decide)).mp e) (by omega))]
      have eW : rw_add (14, 0, 0) (15, 0, 0) 20 zw x iv = am_ui (am_ui iv (15, 0, 0) zw x) (14, 0, 0) 1 (nI (zw + 1)) := by unfold rw_add; rw [if_pos c]
      have e8 : am_ui u (31, 0, 0) (50 + zw) x (31, 0, 0) 8 + 1 = nI (zw + 1) := by rw [am_ui_n (by omega), g2]; exact nI_1 zw
      have ew : ∀ q k, q ≠ (15, 0, 0) → q ≠ (14, 0, 0) → am_ui (am_ui iv (15, 0, 0) zw x) (14, 0, 0) 1 (nI (zw + 1)) q k = iv q k := fun q k h1 h2 => by rw [am_ui_o h2, am_ui_o h1]
      have eu9 : ∀ k, k ≠ 8 → k ≠ 50 + zw → am_ui (am_ui u (31, 0, 0) (50 + zw) x) (31, 0, 0) 8 (nI (zw + 1)) (31, 0, 0) k = u (31, 0, 0) k := fun k h1 h2 => by rw [am_ui_n (by simp [h1]), am_ui_n (by simp [h2])]
      rw [eW, e8]
      dsimp only
      refine ⟨by rw [am_ui_s, am_ui_s], hu.chg0 ((chg.ui (inR15 0 0) (Or.inl ⟨by simp, by simp⟩)).tr (chg.ui (inR14 0 0) (Or.inl ⟨by simp, by simp⟩))) (fun q k z => by rw [am_ui_o (dU_ne z).1, am_ui_o (dU_ne z).1]) ?_⟩
      refine (show rX kd rv 0 0 n nl ln lk z0 y0 z1 y1 zt (zw + 1) _ _ from ⟨⟨a0.c (ew _ _ (by simp) (by simp)) (eu9 1 (by decide) (by omega)), b0.c hn8 (fun r k => ew _ _ (by simp) (by simp)) (fun k _ _ => eu9 k (by omega) (by omega))⟩, l0.c (ew _ _ (by simp) (by simp)) (fun q k hq => ew _ _ (fun e => by subst e; simp at hq) (fun e => by subst e; simp at hq)) (fun k hk => eu9 k (by omega) (by omega)), f0.c (fun k _ _ => ew _ _ (by simp) (by simp)) (fun k hk => eu9 k (by omega) (by omega)), ⟨t0.c (ew _ _ (by simp) (by simp)) (fun k => ew _ _ (by simp) (by simp)) (eu9 _ (by omega) (by omega)) (fun p _ => eu9 _ (by omega) (by omega)), t1.c (ew _ _ (by simp) (by simp)) (fun k => ew _ _ (by simp) (by simp)) (eu9 _ (by omega) (by omega)) (fun p _ => eu9 _ (by omega) (by omega))⟩, p0.c (ew _ _ (by simp) (by simp)) (fun k => ew _ _ (by simp) (by simp)) (fun k hk => eu9 k (by omega) (by omega)), am_ui_s _ _ _ _, am_ui_s _ _ _ _, c, fun k hk => ?_⟩).r
      by_cases e : k = zw
      · subst e
        rw [am_ui_o (by simp), am_ui_s, am_ui_n (by omega), am_ui_s]
      · rw [am_ui_o (by simp), am_ui_n (by simp [e]), eu9 _ (by omega) (by omega)]
        exact g4 k (by omega)
    · have ez : zw = 20 := by omega
      rw [if_neg (by rw [g1, ez]; decide), if_pos (by rw [g2, ez]; rfl)]
      exact ⟨rfl, hu.err 4 (by decide)⟩
  · unfold d_tell
    split
    · exact rx_c hq
    · show am_ui (am_ui u (31, 0, 0) (50 + zw) x) (31, 0, 0) 8 _ q k = u q k
      rw [ui_c hq (by simp), ui_c hq (by simp)]
theorem REL.sh {kd : am_kd} {rv : am_rv} {w u w' u' : am_iv} (h : REL kd rv w u) (hw : ∀ q k, q.1 ≠ 17 → q.1 ≠ 18 → w' q k = w q k) (hu : ∀ q k, q ≠ (31, 17, 0) → q ≠ (31, 18, 0) → q ≠ (31, 19, 0) → q ≠ (31, 20, 0) → u' q k = u q k) (hs : gR_s w' u') : REL kd rv w' u' := by
  obtain ⟨hk, ⟨h1, h2, h3, h4, Q, h8⟩, h5, h6, h7⟩ := h
  have rc : ∀ i a, rR kd rv i a w u → a ≠ 17 → a ≠ 18 → a ≠ 19 → a ≠ 20 → rR kd rv i a w' u' := fun i a hr n1 n2 n3 n4 => hr.congr (fun q k z => hw q k (by unfold dR at z; omega) (by unfold dR at z; omega)) (fun k => hu _ _ (by simp [n1]) (by simp [n2]) (by simp [n3]) (by simp [n4]))
  refine ⟨hk, ⟨hs, ?_, ?_, fun i r hi hr => ?_, Q, fun q hq => ⟨(h8 q hq).1, fun k => ⟨((h8 q hq).2 k).1, (hw _ _ (by simp) (by simp)).trans ((h8 q hq).2 k).2⟩⟩⟩, rc 0 0 h5 (by decide) (by decide) (by decide) (by decide), ?_, fun z => ?_⟩
  · obtain ⟨st, a1, a2, a3, a4⟩ := h2
    exact ⟨st, a1, (hw _ _ (by simp) (by simp)).trans a2, (hu _ _ (by simp) (by simp) (by simp) (by simp)).trans a3, fun k hk => by rw [hw _ _ (by simp) (by simp), hu _ _ (by simp) (by simp) (by simp) (by simp)]; exact a4 k hk⟩
  · intro k hk
    rw [hw _ _ (by simp) (by simp), hu _ _ (by simp) (by simp) (by simp) (by simp)]
    exact h3 k hk
  · rw [hw _ _ (by simp) (by simp), hw _ _ (by simp) (by simp)]
    exact h4 i r hi hr
  · rw [hw _ _ (by simp) (by simp), hu _ _ (by simp) (by simp) (by simp) (by simp)]
    exact h6
  · rw [hw _ _ (by simp) (by simp)] at z
    exact rc 3 4 (h7 z) (by decide) (by decide) (by decide) (by decide)
theorem gR_s.f {w u : am_iv} (h : gR_s w u) : ∃ sz : Nat → Nat, ∀ s, s < 4 → w (17, s, 0) 2 = u (31, 17, 0) s ∧ sz s ≤ 40 ∧ w (17, s, 0) 1 = nI (sz s) ∧ u (31, 18, 0) s = nI (sz s) ∧ ∀ k, k < sz s → w (18, s, 0) k = u (31, 19, 0) (40 * s + k) := by
  have h0 : ∀ s : Nat, ∃ z : Nat, s < 4 → w (17, s, 0) 2 = u (31, 17, 0) s ∧ z ≤ 40 ∧ w (17, s, 0) 1 = nI z ∧ u (31, 18, 0) s = nI z ∧ ∀ k, k < z → w (18, s, 0) k = u (31, 19, 0) (40 * s + k) := fun s => by
    by_cases c : s < 4
    · obtain ⟨a1, z, a2, a3, a4, a5⟩ := h s c
      exact ⟨z, fun _ => ⟨a1, a2, a3, a4, a5⟩⟩
    · exact ⟨0, fun z => absurd z c⟩
  exact ⟨fun s => Classical.choose (h0 s), fun s hs => Classical.choose_spec (h0 s) hs⟩
theorem call_put (l : Launch) {kd : am_kd} {rv : am_rv} {iv : am_iv} (h : REL kd rv iv iv) (x : Int32) (y : Int32) (v : Int32) : CALL l kd rv iv mX11_put mX12_put [am_I x, am_I y, am_I v] := by
  obtain ⟨sz, hsz⟩ := h.2.1.1.f
  refine CALL.ff (d2 := 2) h (c_put x y v) (d_put x y v) (p_put l h.S x y v sz (fun s hs => ⟨(hsz s hs).2.2.1, (hsz s hs).2.1⟩)) (fun q k hq => ?_) (fun h1 eu => ?_) (by decide) (by decide) (fun u hu eu => ?_) (fun u q k hq => ?_)
  · unfold c_put
    repeat' split
    all_goals first
      | exact er_u hq
      | exact ui_u hq (by simp)
      | rfl
  · exact q_put l h1.R x y v sz (fun s hs => ⟨(eu _ _ (Or.inr rfl)).trans (hsz s hs).2.2.2.1, (hsz s hs).2.1⟩)
  · unfold c_put d_put
    by_cases c0 : sr_b (0 ≤ x ∧ x ≤ 3) = 0
    · rw [if_pos c0, if_pos c0]; exact ⟨rfl, hu.err 1 (by decide)⟩
    · rw [if_neg c0, if_neg c0]
      have hx := (sr_b_1 _).mp c0
      have hx4 : x.toNatClampNeg < 4 := Nat.lt_of_le_of_lt (nI_cl_le (n := 3) hx.1 hx.2 (by decide)) (by decide)
      obtain ⟨b1, b2, b3, b4, b5⟩ := hsz _ hx4
      have f17 : u (31, 17, 0) x.toNatClampNeg = iv (31, 17, 0) x.toNatClampNeg := eu _ _ (Or.inr rfl)
      have f18 : u (31, 18, 0) x.toNatClampNeg = iv (31, 18, 0) x.toNatClampNeg := eu _ _ (Or.inr rfl)
      rw [b3, f18, b4, f17, ← b1]
      by_cases cb : iv (17, x.toNatClampNeg, 0) 2 = 0
      · rw [if_neg (fun z => (sr_b_0 _).mp z cb), if_pos cb]; exact ⟨rfl, hu.err 2 (by decide)⟩
      · rw [if_pos ((sr_b_0 _).mpr cb), if_neg cb, ← sr_b_c (has_isk (by omega) y)]
        by_cases c1 : sr_b (0 ≤ y ∧ y < nI (sz x.toNatClampNeg)) = 0
        · rw [if_pos c1, if_pos c1]; exact ⟨rfl, hu.err 1 (by decide)⟩
        · rw [if_neg c1, if_neg c1]
          have hy := (sr_b_1 _).mp c1
          have hyz := nI_cl_lt hy.1 hy.2 (by omega)
          rw [if_pos hy]
          dsimp only
          refine ⟨rfl, hu.sh (fun q k h1 h2 => am_ui_o (fun e => by subst e; simp at h2)) (fun q k _ _ h3 _ => am_ui_o h3) (fun s hs => ?_)⟩
          obtain ⟨d1, d2, d3, d4, d5⟩ := hsz s hs
          have g17 : u (31, 17, 0) s = iv (31, 17, 0) s := eu _ _ (Or.inr rfl)
          have g18 : u (31, 18, 0) s = iv (31, 18, 0) s := eu _ _ (Or.inr rfl)
          have g19 : ∀ k, u (31, 19, 0) k = iv (31, 19, 0) k := fun k => eu _ _ (Or.inr rfl)
          refine ⟨by rw [am_ui_o (by simp), am_ui_o (by simp), g17]; exact d1, sz s, d2, by rw [am_ui_o (by simp)]; exact d3, by rw [am_ui_o (by simp), g18]; exact d4, fun k hk => ?_⟩
          by_cases e : s = x.toNatClampNeg ∧ k = y.toNatClampNeg
          · obtain ⟨e1, e2⟩ := e
            subst e1; subst e2
            rw [am_ui_s, am_ui_s]
          · rw [am_ui_n (fun z => e ⟨by simpa using z.1, z.2⟩), am_ui_n (fun z => e (by omega)), g19]
            exact d5 k hk
  · unfold d_put
    repeat' split
    all_goals first
      | exact rx_c hq
      | exact ui_c hq (by simp)
theorem rw_fill_o {a q : am_N} {z k : Nat} {v : Int32} {iv : am_iv} (h : q ≠ a) : rw_fill a z v iv q k = iv q k := by
  unfold rw_fill
  rw [if_neg (fun e => h e.1)]
theorem rw_fill_v {a : am_N} {z k : Nat} {v : Int32} {iv : am_iv} (h : k < z) : rw_fill a z v iv a k = v := by
  unfold rw_fill
  rw [if_pos ⟨rfl, h⟩]
theorem sh_z_o {j k m : Nat} {w : am_iv} {q : am_N} (h : q ≠ (31, 19, 0) ∨ m < 40 * j ∨ 40 * j + k ≤ m) : sh_z j w k q m = w q m := by
  unfold sh_z
  rw [if_neg (fun e => h.elim (fun z => z e.1) (fun z => by omega))]
theorem sheet_rel {kd : am_kd} {rv : am_rv} {w u : am_iv} (h : REL kd rv w u) (j : Nat) (hj : j < 4) (b : Int32) (s : Nat) (hs : s ≤ 40) (v : Int32) (hv : v = nI s) : REL kd rv (sh_beg j b s w) (sh_z j (am_ui (am_ui u (31, 17, 0) j b) (31, 18, 0) j v) 40) := by
  subst hv
  unfold sh_beg
  refine h.sh (fun q k h1 h2 => ?_) (fun q k h1 h2 h3 _ => by rw [sh_z_o (Or.inl h3), am_ui_o h2, am_ui_o h1]) (fun t ht => ?_)
  · rw [rw_fill_o (fun e => by subst e; simp at h2), am_ui_o (fun e => by subst e; simp at h1), am_ui_o (fun e => by subst e; simp at h1)]
  · obtain ⟨a1, z, a2, a3, a4, a5⟩ := h.2.1.1 t ht
    by_cases e : t = j
    · subst e
      refine ⟨?_, s, hs, ?_, ?_, fun k hk => ?_⟩
      · rw [rw_fill_o (by simp), am_ui_n (by simp), am_ui_s, sh_z_o (Or.inl (by simp)), am_ui_o (by simp), am_ui_s]
      · rw [rw_fill_o (by simp), am_ui_s]
      · rw [sh_z_o (Or.inl (by simp)), am_ui_s]
      · rw [rw_fill_v (by omega)]
        unfold sh_z
        rw [if_pos ⟨rfl, by omega, by omega⟩]
    · refine ⟨?_, z, a2, ?_, ?_, fun k hk => ?_⟩
      · rw [rw_fill_o (by simp), am_ui_o (by simp [e]), am_ui_o (by simp [e]), sh_z_o (Or.inl (by simp)), am_ui_o (by simp), am_ui_n (by simp [e])]; exact a1
      · rw [rw_fill_o (by simp), am_ui_o (by simp [e]), am_ui_o (by simp [e])]; exact a3
      · rw [sh_z_o (Or.inl (by simp)), am_ui_n (by simp [e])]; exact (am_ui_o (by simp)).trans a4
      · rw [rw_fill_o (by simp [e]), am_ui_o (by simp), am_ui_o (by simp), sh_z_o (Or.inr (by omega)), am_ui_o (by simp), am_ui_o (by simp)]; exact a5 k hk
theorem call_sheet (l : Launch) {kd : am_kd} {rv : am_rv} {iv : am_iv} (h : REL kd rv iv iv) (x : Int32) (y : Int32) (z : Int32) : CALL l kd rv iv mX11_sheet mX12_sheet [am_I x, am_I y, am_I z] := by
  refine CALL.ff (d2 := 2) h (c_sheet x y z) (d_sheet x y z) (p_sheet l h.S x y z) (fun q k hq => ?_) (fun h1 eu => ?_) (by decide) (by decide) (fun u hu eu => ?_) (fun u q k hq => ?_)
  · have hb : ∀ j b s, sh_beg j b s iv q k = iv q k := fun j b s => by
      unfold sh_beg
      rw [rw_fill_o (fun e => by subst e; unfold uN at hq; simp at hq), ui_u hq (by simp), ui_u hq (by simp)]
    unfold c_sheet
    repeat' split
    all_goals first
      | exact er_u hq
      | exact hb _ _ _
  · exact q_sheet l h1.R x y z
  · unfold c_sheet d_sheet
    by_cases c0 : sr_b (0 ≤ x ∧ x ≤ 3) = 0
    · rw [if_pos c0, if_pos c0]; exact ⟨rfl, hu.err 1 (by decide)⟩
    · rw [if_neg c0, if_neg c0]
      have hx := (sr_b_1 _).mp c0
      have hx4 : x.toNatClampNeg < 4 := Nat.lt_of_le_of_lt (nI_cl_le (n := 3) hx.1 hx.2 (by decide)) (by decide)
      by_cases g : y = 0 ∨ y = 8 ∨ y = 16 ∨ y = 32
      · rw [if_pos g, if_pos g]
        by_cases y0 : y = 0
        · rw [if_pos y0, if_pos y0]
          exact ⟨rfl, sheet_rel hu _ hx4 y 0 (by decide) 0 rfl⟩
        · rw [if_neg y0, if_neg y0]
          by_cases z0 : 0 ≤ z
          · rw [if_pos z0, if_pos z0]
            by_cases z4 : z ≤ 40
            · rw [if_pos z4, if_pos z4]
              exact ⟨rfl, sheet_rel hu _ hx4 y _ (nI_cl_le (n := 40) z0 z4 (by decide)) z (nI_cl z0)⟩
            · rw [if_neg z4, if_neg z4]; exact ⟨rfl, hu.err 1 (by decide)⟩
          · rw [if_neg z0, if_neg z0]; exact ⟨rfl, hu.err 3 (by decide)⟩
      · rw [if_neg g, if_neg g]; exact ⟨rfl, hu.err 1 (by decide)⟩
  · have hb : ∀ j b (v : Int32), sh_z j (am_ui (am_ui u (31, 17, 0) j b) (31, 18, 0) j v) 40 q k = u q k := fun j b v => by
      rw [sh_z_o (Or.inl (fun e => by subst e; unfold cN at hq; simp at hq)), ui_c hq (by simp), ui_c hq (by simp)]
    unfold d_sheet
    repeat' split
    all_goals first
      | exact rx_c hq
      | exact hb _ _ _
