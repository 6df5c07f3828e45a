theorem call_restore (l : Launch) {kd : am_kd} {rv : am_rv} {iv : am_iv} (h : REL kd rv iv iv) : CALL l kd rv iv mX11_restore mX12_restore [] := by
  by_cases hi : iv (1, 0, 0) 4 = 0
  · have hr := q_restore l (iv := er_heap 2 iv) h.R
    have e5 : er_heap 2 iv (30, 0, 0) 5 = 0 := by rw [er_u (Or.inl rfl), ← h.2.2.2.1]; exact hi
    have e : d_restore (er_heap 2 iv) = (-1000000002, rx_find 2 (er_heap 2 iv)) := by unfold d_restore; rw [if_pos e5]
    rw [e] at hr
    exact CALL.of (p_restore0 l h.S hi) hr (by decide) (by decide) rfl ((h.same (w' := iv) (u' := er_heap 2 iv) (fun _ _ _ => rfl) (fun q k hq => er_u hq)).err 2 (by decide)) (fun q k hq => rx_c hq)
  · obtain ⟨n, nl, ln, lk, z0, y0, z1, y1, zt, zw, hX⟩ := (h.2.2.2.2 hi).x
    have hc := p_restore l h.S hi n z0 z1 zt zw hX.1.1.1 hX.1.1.2.2 (fun r hr => (hX.1.2.2 r hr).2.2.2.2.2.2) (h.1.2.2.2 3 (by decide)) hX.2.2.2.1.1.1 hX.2.2.2.1.1.2.1 hX.2.2.2.1.2.1 hX.2.2.2.1.2.2.1 hX.2.2.2.2.1.1 hX.2.2.2.2.1.2.2.1 hX.2.2.2.2.2.1 hX.2.2.2.2.2.2.2.1
    have hR1 : shr kd (lw_cp 0 3 rv 6) := (h.1.cp (i := 0) (o := 3) (by decide) (by decide)).2.1
    generalize hW : (c_restore n z0 z1 zt zw iv).2 = W at hc
    have eW : W = rb_heap 0 3 n z0 z1 zt zw iv := by rw [← hW]; rfl
    have hr := q_restore l (iv := W) hR1
    have cr : chg 0 iv (rb_heap 0 3 n z0 z1 zt zw iv) := chg.rb
    have eu : ∀ q k, uN q → W q k = iv q k := fun q k hq => by rw [eW]; exact cr.u hq
    have e5 : ¬ W (30, 0, 0) 5 = 0 := by rw [eu _ _ (Or.inl rfl), ← h.2.2.2.1]; exact hi
    have eD : d_restore W = (rx_cp (31, 4, 0) (31, 0, 0) W 300 (31, 0, 0) 0, rx_cp (31, 4, 0) (31, 0, 0) W 300) := by unfold d_restore; rw [if_neg e5]
    rw [eD] at hr
    have hB := rX.become (i := 0) (o := 3) (b := 0) (by decide) (hX.u eu)
    refine CALL.of hc hr (by decide) (by decide) ?_ ?_ (fun q k hq => rx_cp_o (fun e => by subst e; unfold cN at hq; simp at hq))
    · exact hB.2.2.1.2.2.2.1
    · dsimp only
      obtain ⟨hk, ⟨h1, h2, h3, h4, Q, h8⟩, h5, h6, h7⟩ := h
      have wq : ∀ q k, ¬ inR 0 q → W q k = iv q k := fun q k h1 => by rw [eW]; exact cr _ _ (Or.inl h1)
      have uq : ∀ q k, q ≠ (31, 0, 0) → uN q → rx_cp (31, 4, 0) (31, 0, 0) W 300 q k = iv q k := fun q k h1 h3 => by rw [rx_cp_o h1]; exact eu q k h3
      have nR : ∀ a b c : Nat, 16 ≤ a → ¬ inR 0 (a, b, c) := fun a b c ha e => by have := e.2.1; simp at this; omega
      have n1 : ¬ inR 0 (1, 0, 0) := fun e => by have := e.1; simp at this
      refine ⟨hk.cp (by decide) (by decide), ⟨?_, ?_, ?_, fun i r hi hr => ?_, Q, fun q hq => ⟨(h8 q hq).1, fun k => ⟨(lw_cp_o (by simp) 6).trans ((h8 q hq).2 k).1, (wq _ _ (nR _ _ _ (by decide))).trans ((h8 q hq).2 k).2⟩⟩⟩, ?_, ?_, fun z => ?_⟩
      · intro s hs
        obtain ⟨a1, sz, a2, a3, a4, a5⟩ := h1 s hs
        exact ⟨by rw [wq _ _ (nR _ _ _ (by decide)), uq _ _ (by simp) (Or.inr rfl)]; exact a1, sz, a2, by rw [wq _ _ (nR _ _ _ (by decide))]; exact a3, by rw [uq _ _ (by simp) (Or.inr rfl)]; exact a4, fun k hk => by rw [wq _ _ (nR _ _ _ (by decide)), uq _ _ (by simp) (Or.inr rfl)]; exact a5 k hk⟩
      · obtain ⟨st, a1, a2, a3, a4⟩ := h2
        exact ⟨st, a1, (wq _ _ (nR _ _ _ (by decide))).trans a2, (uq _ _ (by simp) (Or.inl rfl)).trans a3, fun k hk => by rw [wq _ _ (nR _ _ _ (by decide)), uq _ _ (by simp) (Or.inr rfl)]; exact a4 k hk⟩
      · intro k hk
        rw [wq _ _ (nR _ _ _ (by decide)), uq _ _ (by simp) (Or.inr rfl)]
        exact h3 k hk
      · have e4 : W (4, i, r) 0 = iv (4, i, r) 0 := by rw [eW]; exact cr _ _ (Or.inr ⟨Or.inl rfl, rfl⟩)
        have e6 : W (6, i, r) 0 = iv (6, i, r) 0 := by rw [eW]; exact cr _ _ (Or.inr ⟨Or.inr rfl, rfl⟩)
        rw [e4, e6]
        exact h4 i r hi hr
      · rw [← eW] at hB
        exact hB.r
      · rw [wq _ _ n1, uq _ _ (by simp) (Or.inl rfl)]
        exact h6
      · rw [wq _ _ n1] at z
        refine ((h7 z).rv (rv' := lw_cp 0 3 rv 6) (fun k => lw_cp_o (by simp) 6)).congr (fun q k z => wq q k (fun e => ?_)) (fun k => uq _ _ (by simp) (Or.inr rfl))
        unfold dR at z; have := e.2.2; have := e.2.1; omega
theorem fb_rng2 (g : Int64) (k : Nat) : 0 ≤ fb g k ∧ fb g k ≤ 255 := by
  unfold fb
  generalize g >>> ((8 * nI k).toInt64 &&& 63) = y
  have e : (y &&& 255).toInt32 = y.toInt32 &&& 255 := by
    rw [show (255 : Int32) = (255 : Int64).toInt32 from rfl]
    exact Int64.toInt32_and y 255
  rw [e]
  obtain ⟨j, hj, e2⟩ := pk_andE y.toInt32 (m := 255) 8 (by decide)
  rw [e2]
  exact ⟨nI_le (a := 0) (by omega) (by omega), nI_le (b := 255) (by omega) (by decide)⟩
theorem fc_o {g : Int64} {z : Nat} {w : am_iv} {q : am_N} {k : Nat} (h1 : q ≠ (13, 0, 0)) (h2 : q ≠ (12, 0, 0)) : ∀ j, fc g z w j q k = w q k := by
  intro j
  induction j with
  | zero => rfl
  | succ j ih => exact (rw_add_o h1 h2).trans ih
theorem fc_v {g : Int64} {z : Nat} {w : am_iv} : ∀ j, z + j ≤ 50 → ∀ k, fc g z w j (13, 0, 0) k = if z ≤ k ∧ k < z + j then fb g (k - z) else w (13, 0, 0) k := by
  intro j
  induction j with
  | zero => intro _ k; rw [if_neg (by omega)]; rfl
  | succ j ih =>
    intro h k
    show rw_add (12, 0, 0) (13, 0, 0) 50 (z + j) (fb g j) (fc g z w j) (13, 0, 0) k = _
    unfold rw_add
    rw [if_pos (by omega), am_ui_o (by simp)]
    by_cases e : k = z + j
    · subst e
      rw [am_ui_s, if_pos ⟨by omega, by omega⟩, show z + j - z = j by omega]
    · rw [am_ui_n (by simp [e]), ih (by omega)]
      by_cases c : z ≤ k ∧ k < z + j
      · rw [if_pos c, if_pos ⟨c.1, by omega⟩]
      · rw [if_neg c, if_neg (fun q => c ⟨q.1, by omega⟩)]
theorem fd_o {g : Int64} {z : Nat} {w : am_iv} {q : am_N} {k : Nat} : ∀ j, (q ≠ (31, 0, 0) ∨ (k ≠ 7 ∧ (k < 250 + z ∨ 250 + z + j ≤ k))) → fd g z w j q k = w q k := by
  intro j
  induction j with
  | zero => intro _; rfl
  | succ j ih =>
    intro h
    show am_ui (am_ui (fd g z w j) (31, 0, 0) (250 + (z + j)) (fb g j)) (31, 0, 0) 7 (nI (z + (j + 1))) q k = _
    rw [am_ui_n (fun e => h.elim (fun q => q e.1) (fun q => q.1 e.2)), am_ui_n (fun e => h.elim (fun q => q e.1) (fun q => by omega))]
    exact ih (h.imp id (fun q => ⟨q.1, by omega⟩))
theorem fd_v {g : Int64} {z : Nat} {w : am_iv} : ∀ j k, z ≤ k → k < z + j → fd g z w j (31, 0, 0) (250 + k) = fb g (k - z) := by
  intro j
  induction j with
  | zero => intro k h1 h2; omega
  | succ j ih =>
    intro k h1 h2
    show am_ui (am_ui (fd g z w j) (31, 0, 0) (250 + (z + j)) (fb g j)) (31, 0, 0) 7 (nI (z + (j + 1))) (31, 0, 0) (250 + k) = _
    rw [am_ui_n (by omega)]
    by_cases e : k = z + j
    · subst e
      rw [am_ui_s, show z + j - z = j by omega]
    · rw [am_ui_n (by omega)]
      exact ih k h1 (by omega)
theorem call_feed (l : Launch) {kd : am_kd} {rv : am_rv} {iv : am_iv} (h : REL kd rv iv iv) (g : Int64) (x : Int32) : CALL l kd rv iv mX11_feed mX12_feed [am_J g, am_I x] := by
  obtain ⟨n, nl, ln, lk, z0, y0, z1, y1, zt, zw, hX⟩ := h.n
  have hn8 := hX.1.1.2.2
  refine CALL.ff (d2 := 2) h (c_feed g x zt) (d_feed g x zt) (p_feed l h.S g x zt hX.2.2.2.2.1.1 hX.2.2.2.2.1.2.2.1) (fun q k hq => ?_) (fun h1 eu => ?_) (by decide) (by decide) (fun u hu eu => ?_) (fun u q k hq => ?_)
  · unfold c_feed
    repeat' split
    · exact er_u hq
    · exact fc_o (fun e => by subst e; unfold uN at hq; simp at hq) (fun e => by subst e; unfold uN at hq; simp at hq) _
    · exact er_u hq
  · have hX := hX.u eu
    exact q_feed l h1.R g x zt hX.2.2.2.2.1.2.1 hX.2.2.2.2.1.2.2.1
  · have hX := hX.u eu
    obtain ⟨⟨a0, b0⟩, l0, f0, ⟨t0, t1⟩, ⟨p1, p2, p3, p4⟩, g0⟩ := hX
    unfold c_feed d_feed
    by_cases c0 : sr_b (1 ≤ x ∧ x ≤ 8) = 0
    · rw [if_pos c0, if_pos c0]; exact ⟨rfl, hu.err 1 (by decide)⟩
    rw [if_neg c0, if_neg c0, p1, p2]
    by_cases c1 : nI zt + x ≤ 50
    · rw [if_pos c1, if_pos c1]
      have hx := (sr_b_1 _).mp c0
      have hx0 : 0 ≤ x := Int32.le_trans (by decide) hx.1
      have hx8 := nI_cl_le (n := 8) hx0 hx.2 (by decide)
      have hzx : zt + x.toNatClampNeg ≤ 50 := by
        have q := c1
        rw [nI_cl hx0, nI_add] at q
        rcases Nat.lt_or_ge 50 (zt + x.toNatClampNeg) with z | z
        · exact absurd q (nI_ge z (by omega))
        · exact z
      have cc : ∀ j, chg 0 iv (fc g zt iv j) := by
        intro j
        induction j with
        | zero => exact chg.rf _ _
        | succ j ih => exact ih.tr (chg.add (inR12 0 0) (inR13 0 0) ⟨by simp, by simp⟩ ⟨by simp, by simp⟩)
      have ew : ∀ q k, q ≠ (13, 0, 0) → q ≠ (12, 0, 0) → fc g zt iv x.toNatClampNeg q k = iv q k := fun q k h1 h2 => fc_o h1 h2 _
      have eu9 : ∀ k, k ≠ 7 → (k < 250 + zt ∨ 300 ≤ k) → fd g zt u x.toNatClampNeg (31, 0, 0) k = u (31, 0, 0) k := fun k h1 h2 => fd_o _ (Or.inr ⟨h1, by omega⟩)
      refine ⟨rfl, hu.chg0 (cc _) (fun q k z => fd_o _ (Or.inl (dU_ne z).1)) ?_⟩
      refine (show rX kd rv 0 0 n nl ln lk z0 y0 z1 y1 (zt + x.toNatClampNeg) zw _ _ from ⟨⟨a0.c (ew _ _ (by simp) (by simp)) (eu9 1 (by decide) (by omega)), b0.c hn8 (fun r k => ew _ _ (by simp) (by simp)) (fun k _ _ => eu9 k (by omega) (by omega))⟩, l0.c (ew _ _ (by simp) (by simp)) (fun q k hq => ew _ _ (fun e => by subst e; simp at hq) (fun e => by subst e; simp at hq)) (fun k hk => eu9 k (by omega) (by omega)), f0.c (fun k _ _ => ew _ _ (by simp) (by simp)) (fun k hk => eu9 k (by omega) (by omega)), ⟨t0.c (ew _ _ (by simp) (by simp)) (fun k => ew _ _ (by simp) (by simp)) (eu9 _ (by omega) (by omega)) (fun p _ => eu9 _ (by omega) (by omega)), t1.c (ew _ _ (by simp) (by simp)) (fun k => ew _ _ (by simp) (by simp)) (eu9 _ (by omega) (by omega)) (fun p _ => eu9 _ (by omega) (by omega))⟩, ⟨fc_1 p1 _ hzx, fd_7 p2 _, hzx, fun k hk => ?_⟩, g0.c (ew _ _ (by simp) (by simp)) (fun k => ew _ _ (by simp) (by simp)) (fun k hk => eu9 k (by omega) (by omega))⟩).r
      rw [fc_v _ hzx]
      by_cases c : zt ≤ k ∧ k < zt + x.toNatClampNeg
      · rw [if_pos c, fd_v _ k c.1 c.2]
        exact ⟨rfl, fb_rng2 g _⟩
      · rw [if_neg c, eu9 _ (by omega) (by omega)]
        exact p4 k (by omega)
    · rw [if_neg c1, if_neg c1]; exact ⟨rfl, hu.err 4 (by decide)⟩
  · unfold d_feed
    repeat' split
    · exact rx_c hq
    · exact fd_o _ (Or.inl (fun e => by subst e; unfold cN at hq; simp at hq))
    · exact rx_c hq
