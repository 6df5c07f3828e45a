/-- from w to w' the reference changed row a, the row that was, names and what it reads with -/
def chU (a : Nat) (w w' : am_iv) : Prop := ∀ q k, q ≠ (31, a, 0) → q ≠ (31, 3, 0) → q ≠ (31, 13, 0) → ¬ (q = (30, 0, 0) ∧ 7 ≤ k ∧ k ≤ 12) → w' q k = w q k
theorem chU.rf (a : Nat) (w : am_iv) : chU a w w := fun _ _ _ _ _ _ => rfl
theorem chU.tr {a : Nat} {x y z : am_iv} (h1 : chU a x y) (h2 : chU a y z) : chU a x z := fun q k n1 n2 n3 n4 => (h2 q k n1 n2 n3 n4).trans (h1 q k n1 n2 n3 n4)
theorem chU.ui {a k : Nat} {w : am_iv} {v : Int32} : chU a w (am_ui w (31, a, 0) k v) := fun q k n1 _ _ _ => am_ui_o n1
theorem chU.gr {a use n : Nat} {x y z : Int32} {w : am_iv} : chU a w (gr_heap use n x y z w) := fun q k _ _ n3 n4 => by
  unfold gr_heap
  split
  · rw [hpw_o n4]
    unfold gr_names
    rw [am_ui_o n3, am_ui_o n3, am_ui_o n3]
  · rfl
theorem chU.tick {a n nl z : Nat} {lk : Nat → Nat} {w : am_iv} : chU a w (rt_tick a n nl z lk w) := by
  have h1 : chU a w (rx_cp (31, a, 0) (31, 3, 0) w (80 + 8 * n)) := fun q k _ n2 _ _ => rx_cp_o n2
  have h2 : ∀ (w : am_iv) (j : Nat), chU a w (rt_go a n nl z lk w j) := by
    intro w j
    induction j with
    | zero => exact chU.rf _ _
    | succ j ih =>
      unfold rt_go
      split
      · refine ih.tr ?_
        unfold rt_on rt_h3
        exact (((chU.ui.tr chU.ui).tr chU.ui).tr chU.gr).tr chU.ui
      · exact ih
  have h3 : ∀ (r : Nat) (e : Nat → Option Nat) (w : am_iv) (d k : Nat), chU a w (rt_due a r e lk w d k) := by
    intro r e w d
    induction d with
    | zero => intro k; exact chU.rf _ _
    | succ d ih =>
      intro k
      unfold rt_due
      split
      · exact ih _
      · unfold rt_eff
        split
        · exact chU.ui.tr chU.ui
        · exact chU.ui
  have h4 : ∀ (w : am_iv) (j : Nat), chU a w (rt_gone a n nl lk w j) := by
    intro w j
    induction j with
    | zero => exact chU.rf _ _
    | succ j ih =>
      unfold rt_gone
      split
      · exact ih.tr (h3 _ _ _ _ _)
      · exact ih
  have h5 : ∀ (w : am_iv) (j : Nat), chU a w (rt_set a w j) := by
    intro w j
    induction j with
    | zero => exact chU.rf _ _
    | succ j ih =>
      have s1 : ∀ w r, chU a w (rt_s1 a r w) := fun w r => by
        unfold rt_s1
        split
        · exact chU.ui
        · exact chU.rf _ _
      have s2 : ∀ w r, chU a w (rt_s2 a r w) := fun w r => by
        unfold rt_s2
        split
        · exact chU.ui
        · exact chU.rf _ _
      exact (ih.tr (s1 _ _)).tr (s2 _ _)
  unfold rt_tick rt_tick4
  exact (((h1.tr (h2 _ n)).tr (h4 _ n)).tr (h5 _ n)).tr chU.ui
theorem chU.itt {a : Nat} {T : am_iv → am_iv} (hT : ∀ w, chU a w (T w)) (N : Nat) : ∀ w, chU a w (it T N w) := by
  induction N with
  | zero => intro w; exact chU.rf _ _
  | succ N ih => intro w; exact (hT w).tr (ih (T w))
theorem chU.cp {f : am_N} {a j : Nat} {w : am_iv} : chU a w (rx_cp f (31, a, 0) w j) := fun q k n1 _ _ _ => rx_cp_o n1
theorem chU.c {a : Nat} {w w' : am_iv} (h : chU a w w') {q : am_N} {k : Nat} (hq : cN q) : w' q k = w q k := h q k (fun e => by subst e; unfold cN at hq; simp at hq) (fun e => by subst e; unfold cN at hq; simp at hq) (fun e => by subst e; unfold cN at hq; simp at hq) (fun e => by have e1 := e.1; subst e1; unfold cN at hq; simp at hq)
theorem chU.d {a : Nat} (ha : a < 3) {w w' : am_iv} (h : chU a w w') {q : am_N} {k : Nat} (z : dU q k ∨ q = (31, 4, 0)) : w' q k = w q k := by
  have n := dU_ne z
  refine h q k ?_ n.2.2.2.1 n.2.2.2.2.1 (fun e => ?_)
  · rcases (show a = 0 ∨ a = 1 ∨ a = 2 by omega) with rfl | rfl | rfl
    · exact n.1
    · exact n.2.1
    · exact n.2.2.1
  · obtain ⟨e1, e2⟩ := e
    subst e1
    unfold dU at z
    simp at z
    omega
theorem chU.d0 {a : Nat} (ha : a = 1 ∨ a = 2) {w w' : am_iv} (h : chU a w w') {q : am_N} {k : Nat} (z : dU q k ∨ q = (31, 4, 0) ∨ q = (31, 0, 0)) : w' q k = w q k := by
  rcases z with z | z | z
  · exact h.d (by omega) (Or.inl z)
  · exact h.d (by omega) (Or.inr z)
  · subst z
    exact h _ _ (by simp; omega) (by simp) (by simp) (by simp)
theorem REL.chgU {kd : am_kd} {rv : am_rv} {w u w' u' : am_iv} (h : REL kd rv w u) (hw : chg 0 w w') (hu : chU 0 u u') (h0 : rR kd rv 0 0 w' u') : REL kd rv w' u' := h.chg0 hw (fun q k z => hu.d (by decide) z) h0
def nm0 (w : am_iv) : Prop := ∀ r, r < 8 → w (4, 0, r) 0 = nI r ∧ w (6, 0, r) 0 = nI r
theorem nm0.chg {w w' : am_iv} (h : nm0 w) (hc : _root_.Jvm.Pilot.CSmokeRingsLaw_law_r5279_9afc0a.chg 0 w w') : nm0 w' := fun r hr => ⟨(hc _ _ (Or.inr ⟨Or.inl rfl, rfl⟩)).trans (h r hr).1, (hc _ _ (Or.inr ⟨Or.inr rfl, rfl⟩)).trans (h r hr).2⟩
theorem rX.tick {kd : am_kd} {rv : am_rv} {n nl : Nat} {ln : Nat → am_N} {lk : Nat → Nat} {z0 y0 z1 y1 zt zw : Nat} {w u : am_iv} (h : rX kd rv 0 0 n nl ln lk z0 y0 z1 y1 zt zw w u) (h0 : nm0 w) : rX kd rv 0 0 n nl ln lk z0 y0 z1 y1 zt zw (rm_tick 0 n z1 nl ln lk w) (rt_tick 0 n nl y1 lk u) := by
  have t := (h.tR h0 (fun _ _ => rfl)).tick (by decide)
  obtain ⟨⟨p1, p2, p3, p4, p5, p6, p7, p8, p9, p10⟩, ⟨c1, c2, c3, c4, c5, c6⟩, ⟨r1, r2, r3, r4, r5⟩, -, -, -⟩ := t
  obtain ⟨f1, ⟨f2, f3, f4⟩, ⟨f5, f6, f7⟩, f8, f9⟩ := h.2.2.1
  have hn8 := h.1.1.2.2
  have eu : ∀ k, k ≠ 0 → (k < 80 ∨ 144 ≤ k) → rt_tick 0 n nl y1 lk u (31, 0, 0) k = u (31, 0, 0) k := fun k n0 n1 => rt_tick_o hn8 ⟨fun q => by omega, by simp, by simp⟩ (by simp) (fun q => n0 q.2)
  refine h.upd ⟨c1, r1, c2⟩ ⟨p1, p3⟩ ⟨p4, ⟨p5, p6.1, p6.2⟩, ⟨?_, ?_, ?_⟩, ?_, ?_⟩ (fun q k z => rm_tick_fr ⟨fun g => ?_, ?_⟩ ?_ ?_) (fun k z => eu k (by unfold kU at z; omega) (by unfold kU at z; omega))
  · rw [rm_tick_2 (by decide), eu _ (by decide) (by decide)]; exact f5
  · rw [rm_tick_2 (by decide)]; exact f6
  · rw [rm_tick_2 (by decide)]; exact f7
  · rw [rm_tick_8, rt_tick_0 (by decide) hn8, f8]
  · rw [rm_tick_2 (by decide), eu _ (by decide) (by decide)]; exact f9
  · unfold kC at z; unfold gb at g
    rcases z with ⟨z, z2⟩ | z
    · subst z; simp at g
    · omega
  · unfold kC at z
    rcases z with ⟨z, z2⟩ | z
    · subst z; simp
    · omega
  · unfold kC at z
    rcases z with ⟨z, z2⟩ | z
    · subst z; simp
    · omega
  · intro e
    obtain ⟨e1, e2⟩ := e
    subst e1; subst e2
    unfold kC at z; simp at z
theorem by_rng (y x : Int32) : -999 ≤ (by_ y x).toInt ∧ (by_ y x).toInt ≤ 999 := by
  have h := held_rng (v := y + ((x.toUInt32 >>> (Int32.toUInt32 8 &&& Int32.toUInt32 31)).toInt32 - (x.toUInt32 >>> (Int32.toUInt32 8 &&& Int32.toUInt32 31)).toInt32 / 7 * 7) - 3) (a := -999) (b := 999) (by decide)
  rw [t_m999, t_999] at h
  exact h
theorem rX.blow {kd : am_kd} {rv : am_rv} {n nl : Nat} {ln : Nat → am_N} {lk : Nat → Nat} {z0 y0 z1 y1 zt zw : Nat} {w u : am_iv} (h : rX kd rv 0 0 n nl ln lk z0 y0 z1 y1 zt zw w u) : ∀ j, j ≤ n → rX kd rv 0 0 n nl ln lk z0 y0 z1 y1 zt zw (bl_heap 0 w j) (br_heap u j) := by
  intro j
  induction j with
  | zero => intro _; exact h
  | succ j ih =>
    intro hj
    have hX := ih (by omega)
    have hn8 := h.1.1.2.2
    have e7 := hX.1.2.1 j (by omega) 7 (by decide) (by decide)
    have b7 := (hX.1.2.2 j (by omega)).2.2.2.2.2.2
    have r7 : rf (br_heap u j) (31, 0, 0) j 7 = bl_heap 0 w j (4, 0, j) 7 := e7.symm
    unfold bl_heap br_heap
    generalize bl_heap 0 w j = B at hX e7 b7 r7
    generalize br_heap u j = R at hX e7 r7
    by_cases c : B (4, 0, j) 7 = 0
    · rw [if_pos c, if_neg (by rw [r7, c]; decide)]
      exact hX
    · have c1 : B (4, 0, j) 7 = 1 := b7.resolve_left c
      rw [if_neg c, if_pos (by rw [r7]; exact c1)]
      obtain ⟨⟨a1, a2, a3⟩, b1, b2⟩ := hX.1
      obtain ⟨f1, ⟨f2, f3, f4⟩, ⟨f5, f6, f7⟩, f8, f9⟩ := hX.2.2.1
      have e6 : br1 R (31, 0, 0) 6 = bz (B (2, 0, 0) 9) := by unfold br1; rw [am_ui_s, f9]
      have e2 : rf (br1 R) (31, 0, 0) j 2 = B (4, 0, j) 2 := by
        unfold rf br1
        rw [if_neg (by decide), am_ui_n (by omega)]
        exact (b1 j (by omega) 2 (by decide) (by decide)).symm
      rw [e6, e2]
      have eB : ∀ q k, ¬ (q = (4, 0, j) ∧ k = 2) → ¬ (q = (2, 0, 0) ∧ k = 9) → am_ui (am_ui B (2, 0, 0) 9 (bz (B (2, 0, 0) 9))) (4, 0, j) 2 (by_ (B (4, 0, j) 2) (bz (B (2, 0, 0) 9))) q k = B q k := fun q k n1 n2 => by rw [am_ui_n n1, am_ui_n n2]
      have eR : ∀ k, k ≠ 79 + 8 * j + 2 → k ≠ 6 → am_ui (br1 R) (31, 0, 0) (79 + 8 * j + 2) (by_ (B (4, 0, j) 2) (bz (B (2, 0, 0) 9))) (31, 0, 0) k = R (31, 0, 0) k := fun k n1 n2 => by
        unfold br1
        rw [am_ui_n (by simp [n1]), am_ui_n (by simp [n2])]
      refine hX.upd ⟨(eB _ _ (by simp) (by simp)).trans a1, (eR 1 (by omega) (by decide)).trans a2, a3⟩ ⟨fun r hr k q1 q7 => ?_, fun r hr => ?_⟩ ⟨?_, ⟨?_, ?_, ?_⟩, ⟨?_, ?_, ?_⟩, ?_, ?_⟩ (fun q k z => eB q k ?_ ?_) (fun k z => eR k (by unfold kU at z; omega) (by unfold kU at z; omega))
      · by_cases e : r = j ∧ k = 2
        · obtain ⟨e1, e3⟩ := e
          subst e1; subst e3
          rw [am_ui_s, am_ui_s]
        · rw [eB _ _ (fun z => e ⟨by simpa using z.1, z.2⟩) (by simp), eR _ (fun z => e (by omega)) (by omega)]
          exact b1 r hr k q1 q7
      · by_cases e : r = j
        · subst e
          obtain ⟨g1, g2, g3, g4, g5, g6, g7⟩ := b2 r hr
          have q : ∀ k, k ≠ 2 → am_ui (am_ui B (2, 0, 0) 9 (bz (B (2, 0, 0) 9))) (4, 0, r) 2 (by_ (B (4, 0, r) 2) (bz (B (2, 0, 0) 9))) (4, 0, r) k = B (4, 0, r) k := fun k hk => eB _ _ (by simp [hk]) (by simp)
          unfold rok
          rw [q 1 (by decide), q 3 (by decide), q 4 (by decide), q 5 (by decide), q 6 (by decide), q 7 (by decide), am_ui_s]
          exact ⟨g1, by_rng _ _, g3, g4, g5, g6, g7⟩
        · exact rok_f (b2 r hr) (fun k _ _ => eB _ _ (by simp [e]) (by simp))
      · rw [eB _ _ (by simp) (by simp), eR _ (by omega) (by decide)]; exact f1
      · rw [eB _ _ (by simp) (by simp), eR _ (by omega) (by decide)]; exact f2
      · rw [eB _ _ (by simp) (by simp)]; exact f3
      · rw [eB _ _ (by simp) (by simp)]; exact f4
      · rw [eB _ _ (by simp) (by simp), eR _ (by omega) (by decide)]; exact f5
      · rw [eB _ _ (by simp) (by simp)]; exact f6
      · rw [eB _ _ (by simp) (by simp)]; exact f7
      · rw [eB _ _ (by simp) (by simp), eR _ (by omega) (by decide)]; exact f8
      · rw [am_ui_o (by simp), am_ui_s, am_ui_n (by omega), e6]
      · intro e; obtain ⟨e1, -⟩ := e; subst e1; unfold kC at z; simp at z
      · intro e; obtain ⟨e1, e2⟩ := e; subst e1; subst e2; unfold kC at z; simp at z
theorem chU.br {w : am_iv} (j : Nat) : chU 0 w (br_heap w j) := by
  induction j with
  | zero => exact chU.rf _ _
  | succ j ih =>
    unfold br_heap
    split
    · refine ih.tr ?_
      unfold br1
      exact chU.ui.tr chU.ui
    · exact ih
theorem rX.ticks_it {kd : am_kd} {rv : am_rv} {n nl : Nat} {ln : Nat → am_N} {lk : Nat → Nat} {z0 y0 z1 y1 zt zw : Nat} (N : Nat) : ∀ {w u : am_iv}, rX kd rv 0 0 n nl ln lk z0 y0 z1 y1 zt zw w u → nm0 w → rX kd rv 0 0 n nl ln lk z0 y0 z1 y1 zt zw (it (rm_tick 0 n z1 nl ln lk) N w) (it (rt_tick 0 n nl y1 lk) N u) := by
  induction N with
  | zero => intro w u h1 h2; exact h1
  | succ N ih => intro w u h1 h2; exact ih (h1.tick h2) (h2.chg chg.tick)
theorem call_ticks (l : Launch) {kd : am_kd} {rv : am_rv} {iv : am_iv} (h : REL kd rv iv iv) (x : Int32) : CALL l kd rv iv mX11_ticks mX12_ticks [am_I x] := by
  obtain ⟨n, nl, ln, lk, z0, y0, z1, y1, zt, zw, hX⟩ := h.n
  have hn := hX.1.1.1
  have hn8 := hX.1.1.2.2
  have hl := hX.laws
  refine CALL.ff (d2 := 44) h (c_ticks x n z1 nl ln lk) (d_ticks x n nl y1 lk) (p_ticks l h.S x nl ln lk n z1 (fun w => ∃ u, rX kd rv 0 0 n nl ln lk z0 y0 z1 y1 zt zw w u ∧ nm0 w) (fun w hq => by obtain ⟨u, h1, h2⟩ := hq; exact (h1.tR h2 (fun _ _ => rfl)).cls) (fun w hq => by obtain ⟨u, h1, h2⟩ := hq; exact ⟨_, h1.tick h2, h2.chg chg.tick⟩) hl ⟨iv, hX, h.z (by decide)⟩) (fun q k hq => ?_) (fun h1 eu => ?_) (by decide) (by decide) (fun u hu eu => ?_) (fun u q k hq => ?_)
  · unfold c_ticks
    repeat' split
    all_goals first
      | exact er_u hq
      | exact (chg.itt (fun w => chg.tick) _ _).u hq
  · exact q_ticks l h1.R x n nl y1 lk (fun u => ∃ w, rX kd rv 0 0 n nl ln lk z0 y0 z1 y1 zt zw w u ∧ nm0 w) (fun u hq => by obtain ⟨w, h1, h2⟩ := hq; exact (h1.tR h2 (fun _ _ => rfl)).ref) (fun u hq => by obtain ⟨w, h1, h2⟩ := hq; exact ⟨_, h1.tick h2, h2.chg chg.tick⟩) ⟨iv, hX.u eu, h.z (by decide)⟩
  · have hX := hX.u eu
    unfold c_ticks d_ticks
    by_cases c0 : sr_b (1 ≤ x ∧ x ≤ 100) = 0
    · rw [if_pos c0, if_pos c0]; exact ⟨rfl, hu.err 1 (by decide)⟩
    rw [if_neg c0, if_neg c0, hX.2.2.1.2.2.2.1]
    by_cases c1 : u (31, 0, 0) 0 + x ≤ 9999
    · rw [if_pos c1, if_pos c1]
      have hI := rX.ticks_it x.toNatClampNeg hX (hu.z (by decide))
      exact ⟨hI.2.2.1.2.2.2.1, hu.chgU (chg.itt (fun w => chg.tick) _ _) (chU.itt (fun w => chU.tick) _ _) hI.r⟩
    · rw [if_neg c1, if_neg c1]; exact ⟨rfl, hu.err 3 (by decide)⟩
  · unfold d_ticks
    repeat' split
    all_goals first
      | exact rx_c hq
      | exact (chU.itt (fun w => chU.tick) _ _).c hq
theorem rX.breeze_it {kd : am_kd} {rv : am_rv} {n nl : Nat} {ln : Nat → am_N} {lk : Nat → Nat} {z0 y0 z1 y1 zt zw : Nat} (N : Nat) : ∀ {w u : am_iv}, rX kd rv 0 0 n nl ln lk z0 y0 z1 y1 zt zw w u → nm0 w → rX kd rv 0 0 n nl ln lk z0 y0 z1 y1 zt zw (it (fun w => bl_heap 0 (rm_tick 0 n z1 nl ln lk w) n) N w) (it (fun w => br_heap (rt_tick 0 n nl y1 lk w) n) N u) := by
  induction N with
  | zero => intro w u h1 h2; exact h1
  | succ N ih => intro w u h1 h2; exact ih ((h1.tick h2).blow n (Nat.le_refl n)) (h2.chg (chg.tick.tr (chg.bl n)))
theorem call_breeze (l : Launch) {kd : am_kd} {rv : am_rv} {iv : am_iv} (h : REL kd rv iv iv) (x : Int32) : CALL l kd rv iv mX11_breeze mX12_breeze [am_I x] := by
  obtain ⟨n, nl, ln, lk, z0, y0, z1, y1, zt, zw, hX⟩ := h.n
  have hn := hX.1.1.1
  have hn8 := hX.1.1.2.2
  have hl := hX.laws
  refine CALL.ff (d2 := 44) h (c_breeze x n z1 nl ln lk) (d_breeze x n nl y1 lk) (p_breeze l h.S x nl ln lk n z1 (fun w => ∃ u, rX kd rv 0 0 n nl ln lk z0 y0 z1 y1 zt zw w u ∧ nm0 w) (fun w hq => by obtain ⟨u, h1, h2⟩ := hq; exact (h1.tR h2 (fun _ _ => rfl)).cls) (fun w hq => by obtain ⟨u, h1, h2⟩ := hq; exact ⟨_, (h1.tick h2).blow n (Nat.le_refl n), h2.chg (chg.tick.tr (chg.bl n))⟩) hl ⟨iv, hX, h.z (by decide)⟩) (fun q k hq => ?_) (fun h1 eu => ?_) (by decide) (by decide) (fun u hu eu => ?_) (fun u q k hq => ?_)
  · unfold c_breeze
    repeat' split
    all_goals first
      | exact er_u hq
      | exact (chg.itt (fun w => (chg.tick.tr (chg.bl n))) _ _).u hq
  · exact q_breeze l h1.R x n nl y1 lk (fun u => ∃ w, rX kd rv 0 0 n nl ln lk z0 y0 z1 y1 zt zw w u ∧ nm0 w) (fun u hq => by obtain ⟨w, h1, h2⟩ := hq; exact (h1.tR h2 (fun _ _ => rfl)).ref) (fun u hq => by obtain ⟨w, h1, h2⟩ := hq; exact ⟨_, (h1.tick h2).blow n (Nat.le_refl n), h2.chg (chg.tick.tr (chg.bl n))⟩) ⟨iv, hX.u eu, h.z (by decide)⟩
  · have hX := hX.u eu
    unfold c_breeze d_breeze
    by_cases c0 : sr_b (1 ≤ x ∧ x ≤ 100) = 0
    · rw [if_pos c0, if_pos c0]; exact ⟨rfl, hu.err 1 (by decide)⟩
    rw [if_neg c0, if_neg c0, hX.2.2.1.2.2.2.1]
    by_cases c1 : u (31, 0, 0) 0 + x ≤ 9999
    · rw [if_pos c1, if_pos c1]
      have hI := rX.breeze_it x.toNatClampNeg hX (hu.z (by decide))
      exact ⟨hI.2.2.1.2.2.2.1, hu.chgU (chg.itt (fun w => (chg.tick.tr (chg.bl n))) _ _) (chU.itt (fun w => (chU.tick.tr (chU.br n))) _ _) hI.r⟩
    · rw [if_neg c1, if_neg c1]; exact ⟨rfl, hu.err 3 (by decide)⟩
  · unfold d_breeze
    repeat' split
    all_goals first
      | exact rx_c hq
      | exact (chU.itt (fun w => (chU.tick.tr (chU.br n))) _ _).c hq
