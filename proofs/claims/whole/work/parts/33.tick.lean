theorem rok_f {f g : Nat → Int32} (h : rok f) (e : ∀ k, 1 ≤ k → k ≤ 7 → g k = f k) : rok g := by
  unfold rok at *
  rw [e 1 (by decide) (by decide), e 2 (by decide) (by decide), e 3 (by decide) (by decide), e 4 (by decide) (by decide), e 5 (by decide) (by decide), e 6 (by decide) (by decide), e 7 (by decide) (by decide)]
  exact h
theorem al_put {i a n nl : Nat} {ln : Nat → am_N} {cd bt nt : Nat → Int32} {w u : am_iv} (ha : a < 3) (hn8 : n ≤ 8) (hl22 : ∀ j, j < nl → (ln j).1 = 22) (h : al_ok i a n nl ln cd bt nt w u) (r : Nat) (hr : r < n) (q : Nat) (hq1 : 1 ≤ q) (hq7 : q ≤ 7) (v : Int32) (hv : rok (am_ui w (4, i, r) q v (4, i, r))) : al_ok i a n nl ln cd bt nt (am_ui w (4, i, r) q v) (am_ui u (31, a, 0) (79 + 8 * r + q) v) := by
  obtain ⟨c1, c2, c3, c4, c5, c6, c7, c8, c9, c10, c11, c12⟩ := h
  have w6 : ∀ x, am_ui w (4, i, r) q v (6, i, x) = w (6, i, x) := fun x => funext fun k => am_ui_o (by simp)
  have u3 : ∀ k, am_ui u (31, a, 0) (79 + 8 * r + q) v (31, 3, 0) k = u (31, 3, 0) k := fun k => am_ui_o (by simp; omega)
  have w2 : ∀ k, am_ui w (4, i, r) q v (2, i, 0) k = w (2, i, 0) k := fun k => am_ui_o (by simp)
  refine ⟨fun x hx k h1 h7 => ?_, fun x hx k hk => ?_, fun x hx => ?_, fun x hx => ?_, ?_, ?_, ?_, ?_, fun j hj => ?_, fun k => ?_, fun p => ?_, fun k hk => ?_⟩
  · by_cases e : x = r ∧ k = q
    · obtain ⟨e1, e2⟩ := e
      subst e1; subst e2
      rw [am_ui_s, am_ui_s]
    · rw [am_ui_n (fun e2 => e (by simp at e2; exact e2)), am_ui_n (fun e2 => e (by omega))]
      exact c1 x hx k h1 h7
  · rw [w6 x]
    have e : rf (am_ui u (31, a, 0) (79 + 8 * r + q) v) (31, 3, 0) x k = rf u (31, 3, 0) x k := by simp only [rf]; rw [u3]
    rw [e]; exact c2 x hx k hk
  · by_cases e : x = r
    · rw [e]; exact hv
    · have : am_ui w (4, i, r) q v (4, i, x) = w (4, i, x) := funext fun k => am_ui_o (by simp [e])
      rw [this]; exact c3 x hx
  · rw [w6 x]; exact c4 x hx
  · rw [w2, am_ui_n (by omega)]; exact c5
  · rw [w2, u3]; exact c6
  · rw [w2, am_ui_n (by omega)]; exact c7
  · rw [w2]; exact c8
  · rw [am_ui_o (fun e => by have := hl22 j hj; rw [e] at this; simp at this), u3]; exact c9 j hj
  · rw [am_ui_o (by simp)]; exact c10 k
  · rw [am_ui_n (by omega)]; exact c11 p
  · rw [am_ui_o (by simp; omega)]; exact c12 k hk
theorem rok_7 {w : am_iv} {n : am_N} (h : rok (w n)) : rok (am_ui w n 7 0 n) := by
  obtain ⟨g1, g2, g3, g4, g5, g6, g7⟩ := h
  refine ⟨?_, ?_, ?_, ?_, ?_, ?_, ?_⟩
  · rw [am_ui_n (by simp)]; exact g1
  · rw [am_ui_n (by simp)]; exact g2
  · rw [am_ui_n (by simp)]; exact g3
  · rw [am_ui_n (by simp)]; exact g4
  · rw [am_ui_n (by simp)]; exact g5
  · rw [am_ui_n (by simp)]; exact g6
  · rw [am_ui_s]; exact Or.inl rfl
theorem rok_4 {w : am_iv} {n : am_N} {v : Int32} (h : rok (w n)) (hv : 0 ≤ v.toInt ∧ v.toInt ≤ 999) : rok (am_ui w n 4 v n) := by
  obtain ⟨g1, g2, g3, g4, g5, g6, g7⟩ := h
  refine ⟨?_, ?_, ?_, ?_, ?_, ?_, ?_⟩
  · rw [am_ui_n (by simp)]; exact g1
  · rw [am_ui_n (by simp)]; exact g2
  · rw [am_ui_n (by simp)]; exact g3
  · rw [am_ui_s]; exact hv
  · rw [am_ui_n (by simp)]; exact g5
  · rw [am_ui_n (by simp)]; exact g6
  · rw [am_ui_n (by simp)]; exact g7
theorem rok_1 {w : am_iv} {n : am_N} {v : Int32} (h : rok (w n)) (hv : -99999 ≤ v.toInt ∧ v.toInt ≤ 99999) : rok (am_ui w n 1 v n) := by
  obtain ⟨g1, g2, g3, g4, g5, g6, g7⟩ := h
  refine ⟨?_, ?_, ?_, ?_, ?_, ?_, ?_⟩
  · rw [am_ui_s]; exact hv
  · rw [am_ui_n (by simp)]; exact g2
  · rw [am_ui_n (by simp)]; exact g3
  · rw [am_ui_n (by simp)]; exact g4
  · rw [am_ui_n (by simp)]; exact g5
  · rw [am_ui_n (by simp)]; exact g6
  · rw [am_ui_n (by simp)]; exact g7
theorem min_held {s : Int32} (h : 0 ≤ s.toInt) : (if 999 < s then (999 : Int32) else s) = sr_held s 0 999 := by
  unfold sr_held
  rw [if_neg (show ¬ s < 0 by rw [fa_lt, t_0]; omega)]
theorem al_eff {i a n nl : Nat} {ln : Nat → am_N} {lk : Nat → Nat} {cd bt nt : Nat → Int32} {w u : am_iv} (ha : a < 3) (hn8 : n ≤ 8) (hl22 : ∀ j, j < nl → (ln j).1 = 22) (h : al_ok i a n nl ln cd bt nt w u) (r k j : Nat) (hr : r < n) (hk : k < n) : al_ok i a n nl ln cd bt nt (rm_eff i r k j lk w) (rt_eff a r k j lk u) := by
  have h7 := al_put ha hn8 hl22 h r hr 7 (by decide) (by decide) 0 (rok_7 (h.2.2.1 r hr))
  have e7 := h7.1 k hk 7 (by decide) (by decide)
  have a1 := h.2.2.1 k hk
  have a2 := h.2.2.1 r hr
  have es : (w (4, i, k) 4 + w (4, i, r) 4).toInt = (w (4, i, k) 4).toInt + (w (4, i, r) 4).toInt := ix_add (by have := a1.2.2.2.1; have := a2.2.2.2.1; omega) (by have := a1.2.2.2.1; have := a2.2.2.2.1; omega)
  have ev : (if 999 < w (4, i, k) 4 + w (4, i, r) 4 then 999 else w (4, i, k) 4 + w (4, i, r) 4) = sr_held (u (31, a, 0) (79 + 8 * k + 4) + u (31, a, 0) (79 + 8 * r + 4)) 0 999 := by
    rw [min_held (by have := a1.2.2.2.1; have := a2.2.2.2.1; omega), h.1 k hk 4 (by decide) (by decide), h.1 r hr 4 (by decide) (by decide)]
  unfold rm_eff rt_eff
  by_cases c : lk j = 2 ∧ ¬ am_ui w (4, i, r) 7 0 (4, i, k) 7 = 0
  · have c' : lk j = 2 ∧ ¬ am_ui u (31, a, 0) (79 + 8 * r + 7) 0 (31, a, 0) (79 + 8 * k + 7) = 0 := ⟨c.1, by rw [← e7]; exact c.2⟩
    rw [ev, if_pos c, if_pos c']
    have hv := held_rng (v := u (31, a, 0) (79 + 8 * k + 4) + u (31, a, 0) (79 + 8 * r + 4)) (a := 0) (b := 999) (by decide)
    rw [t_0, t_999] at hv
    exact al_put ha hn8 hl22 h7 k hk 4 (by decide) (by decide) _ (rok_4 (h7.2.2.1 k hk) hv)
  · rw [if_neg c, if_neg (fun q => c ⟨q.1, by rw [e7]; exact q.2⟩)]
    exact h7
theorem al_due {i a n nl : Nat} {ln : Nat → am_N} {lk : Nat → Nat} {cd bt nt : Nat → Int32} {w u : am_iv} (ha : a < 3) (hn8 : n ≤ 8) (hl22 : ∀ j, j < nl → (ln j).1 = 22) (h : al_ok i a n nl ln cd bt nt w u) (r : Nat) (hr : r < n) (e e' : Nat → Option Nat) (he : ∀ k, k < n → e k = e' k) : ∀ (d k : Nat), k + d ≤ n → al_ok i a n nl ln cd bt nt (rm_due i r e lk w d k) (rt_due a r e' lk u d k) := by
  intro d
  induction d with
  | zero => intro k _; exact h
  | succ d ih =>
    intro k hk
    unfold rm_due rt_due
    rw [← he k (by omega)]
    cases e k with
    | none => exact ih (k + 1) (by omega)
    | some j => exact al_eff ha hn8 hl22 h r k j hr (by omega)
theorem al_gone {i a n nl : Nat} {ln : Nat → am_N} {lk : Nat → Nat} {cd bt nt : Nat → Int32} {w u : am_iv} (ha : a < 3) (hn8 : n ≤ 8) (hl22 : ∀ j, j < nl → (ln j).1 = 22) (h : al_ok i a n nl ln cd bt nt w u) (r : Nat) (hr : r < n) : al_ok i a n nl ln cd bt nt (rm_hD i r n nl ln lk w) (rt_hD a n nl r lk u) := by
  refine al_due ha hn8 hl22 h r hr _ _ (fun k hk => ?_) n 0 (by omega)
  rw [h.2.2.2.2.1]
  exact rm_by_c (h.2.1 r hr) (h.2.1 k hk) h.2.2.2.2.2.2.2.2.1
theorem al_settle {i a n nl : Nat} {ln : Nat → am_N} {cd bt nt : Nat → Int32} {w u : am_iv} (ha : a < 3) (hn8 : n ≤ 8) (hl22 : ∀ j, j < nl → (ln j).1 = 22) (h : al_ok i a n nl ln cd bt nt w u) (r : Nat) (hr : r < n) : al_ok i a n nl ln cd bt nt (if w (4, i, r) 7 = 0 then w else rm_settle (4, i, r) (w (2, i, 0) 6) w) (rt_s2 a r (rt_s1 a r u)) := by
  have e7 := h.1 r hr 7 (by decide) (by decide)
  have e4 := h.1 r hr 4 (by decide) (by decide)
  have e3 := h.1 r hr 3 (by decide) (by decide)
  have e1 := h.1 r hr 1 (by decide) (by decide)
  have ew := h.2.2.2.2.2.2.1
  have g := h.2.2.1 r hr
  by_cases w7 : w (4, i, r) 7 = 0
  · rw [if_pos w7]
    have s1 : rt_s1 a r u = u := by rw [rt_s1, if_neg (fun q => by rw [← e7, w7] at q; exact absurd q.1 (by decide))]
    have s2 : rt_s2 a r u = u := by rw [rt_s2, if_neg (fun q => by rw [← e7, w7] at q; exact absurd q.1 (by decide))]
    rw [s1, s2]; exact h
  · rw [if_neg w7]
    have w71 : w (4, i, r) 7 = 1 := (b01 g.2.2.2.2.2.2).mpr w7
    unfold rm_settle
    by_cases t0 : w (4, i, r) 4 = 0
    · rw [if_pos t0]
      have s1 : rt_s1 a r u = am_ui u (31, a, 0) (79 + 8 * r + 7) 0 := by rw [rt_s1, if_pos ⟨by rw [← e7]; exact w71, by rw [← e4]; exact t0⟩]
      have s2 : rt_s2 a r (am_ui u (31, a, 0) (79 + 8 * r + 7) 0) = am_ui u (31, a, 0) (79 + 8 * r + 7) 0 := by
        rw [rt_s2, if_neg (fun q => by rw [am_ui_s] at q; exact absurd q.1 (by decide))]
      rw [s1, s2]
      exact al_put ha hn8 hl22 h r hr 7 (by decide) (by decide) 0 (rok_7 g)
    · rw [if_neg t0]
      have s1 : rt_s1 a r u = u := by rw [rt_s1, if_neg (fun q => t0 (by rw [e4]; exact q.2))]
      rw [s1]
      by_cases c : w (4, i, r) 3 = 1 ∧ w (2, i, 0) 6 < w (4, i, r) 1
      · rw [if_pos c, rt_s2, if_pos ⟨by rw [← e7]; exact w71, by rw [← e3]; exact c.1, by rw [← e1, ← ew]; exact c.2⟩, ← ew]
        exact al_put ha hn8 hl22 h r hr 1 (by decide) (by decide) _ (rok_1 g h.2.2.2.2.2.2.2.1)
      · rw [if_neg c, rt_s2, if_neg (fun q => c ⟨by rw [e3]; exact q.2.1, by rw [e1, ew]; exact q.2.2⟩)]
        exact h
/-- ahead of a tick, and behind it -/
def al_pre (i a n nl : Nat) (ln : Nat → am_N) (cd bt nt : Nat → Int32) (w u : am_iv) : Prop :=
  (∀ r, r < n → ∀ k, 1 ≤ k → k ≤ 7 → w (4, i, r) k = u (31, a, 0) (79 + 8 * r + k)) ∧ (∀ r, r < n → w (6, i, r) 0 = nI r) ∧ (∀ r, r < n → rok (w (4, i, r))) ∧ w (2, i, 0) 5 = u (31, a, 0) 3 ∧ w (2, i, 0) 6 = u (31, a, 0) 4 ∧ (-99999 ≤ (w (2, i, 0) 6).toInt ∧ (w (2, i, 0) 6).toInt ≤ 99999) ∧ (∀ j, j < nl → w (ln j) 2 = u (31, a, 0) (21 + 2 * j)) ∧ (∀ k, w (10, i, 1) k = cd k) ∧ (∀ p, u (31, 0, 0) (200 + p) = bt p) ∧ (∀ k, 3 ≤ k → u (31, 13, 0) k = nt k)
theorem al_save {i a n nl : Nat} {ln : Nat → am_N} {cd bt nt : Nat → Int32} {w u : am_iv} (ha : a < 3) (hn8 : n ≤ 8) (hnl : nl ≤ 6) (hl22 : ∀ j, j < nl → (ln j).1 = 22) (h : al_pre i a n nl ln cd bt nt w u) : al_ok i a n nl ln cd bt nt (rm_save i w n) (rx_cp (31, a, 0) (31, 3, 0) u (80 + 8 * n)) := by
  obtain ⟨c1, c2, c3, c5, c7, c8, c9, c10, c11, c12⟩ := h
  have s4 : ∀ q k, q.1 ≠ 6 → rm_save i w n q k = w q k := fun q k hq => rm_save_o hq n
  have s60 : ∀ r, rm_save i w n (6, i, r) 0 = w (6, i, r) 0 := fun r => by
    have : ∀ j, rm_save i w j (6, i, r) 0 = w (6, i, r) 0 := fun j => by
      induction j with
      | zero => rfl
      | succ j ih =>
        refine Eq.trans ?_ ih
        simp only [rm_save, rg_cp]
        rw [am_ui_n (by simp), am_ui_n (by simp), am_ui_n (by simp), am_ui_n (by simp), am_ui_n (by simp), am_ui_n (by simp), am_ui_n (by simp)]
    exact this n
  have fa : ∀ q k, q ≠ (31, 3, 0) → rx_cp (31, a, 0) (31, 3, 0) u (80 + 8 * n) q k = u q k := fun q k hq => by
    unfold rx_cp; rw [if_neg (fun e => hq e.1)]
  have f3 : ∀ k, k < 80 + 8 * n → rx_cp (31, a, 0) (31, 3, 0) u (80 + 8 * n) (31, 3, 0) k = u (31, a, 0) k := fun k hk => by
    unfold rx_cp; rw [if_pos ⟨rfl, hk⟩]
  have na : (31, a, 0) ≠ ((31, 3, 0) : am_N) := by simp; omega
  have e6 : ∀ r, r < n → ∀ k, 1 ≤ k → k ≤ 7 → rm_save i w n (6, i, r) k = w (4, i, r) k := fun r hr k h1 h7 => rm_save_v h1 h7 n hr
  refine ⟨fun r hr k h1 h7 => ?_, fun r hr k hk => ?_, fun r hr => ?_, fun r hr => ?_, ?_, ?_, ?_, ?_, fun j hj => ?_, fun k => ?_, fun p => ?_, fun k hk => ?_⟩
  · rw [s4 _ _ (by simp), fa _ _ na]; exact c1 r hr k h1 h7
  · by_cases k0 : k = 0
    · subst k0; rw [s60]; exact c2 r hr
    · rw [e6 r hr k (by omega) hk, c1 r hr k (by omega) hk]
      simp only [rf]
      rw [if_neg k0, f3 _ (by omega)]
  · exact rok_f (c3 r hr) (fun k _ _ => s4 _ _ (by simp))
  · exact rok_f (c3 r hr) (fun k h1 h7 => e6 r hr k h1 h7)
  · rw [s4 _ _ (by simp), fa _ _ na]; exact c5
  · rw [s4 _ _ (by simp), f3 _ (by omega)]; exact c7
  · rw [s4 _ _ (by simp), fa _ _ na]; exact c7
  · rw [s4 _ _ (by simp)]; exact c8
  · rw [s4 _ _ (by rw [hl22 j hj]; decide), f3 _ (by omega)]; exact c9 j hj
  · rw [s4 _ _ (by simp)]; exact c10 k
  · rw [fa _ _ (by simp)]; exact c11 p
  · rw [fa _ _ (by simp)]; exact c12 k hk
/-- the tick: alike ahead of it, alike behind it -/
theorem al_tick {i a n nl zc zr : Nat} {ln : Nat → am_N} {lk : Nat → Nat} {cd bt nt : Nat → Int32} {w u : am_iv} (ha : a < 3) (hn8 : n ≤ 8) (hnl : nl ≤ 6) (hl22 : ∀ j, j < nl → (ln j).1 = 22) (hzc : zc ≤ 50) (hloss : ∀ x y t, sr_held (gv_pure 1 zc x y t cd) 0 999 = sr_held (gr_pure 1 zr x y t bt nt) 0 999) (h : al_pre i a n nl ln cd bt nt w u) : al_pre i a n nl ln cd bt nt (rm_tick i n zc nl ln lk w) (rt_tick a n nl zr lk u) := by
  have h1 := al_save ha hn8 hnl hl22 h
  have h2 : ∀ j, j ≤ n → al_ok i a n nl ln cd bt nt (rm_go i n zc nl ln lk (rm_save i w n) j) (rt_go a n nl zr lk (rx_cp (31, a, 0) (31, 3, 0) u (80 + 8 * n)) j) := by
    intro j
    induction j with
    | zero => intro _; exact h1
    | succ j ih =>
      intro hj
      have h := ih (by omega)
      have e7 := (h.2.1 j (by omega)).at 7
      have g7 := (h.2.2.2.1 j (by omega)).2.2.2.2.2.2
      unfold rm_go rt_go
      by_cases c : rm_go i n zc nl ln lk (rm_save i w n) j (6, i, j) 7 = 0
      · rw [if_pos c, if_neg (by rw [← e7, c]; decide)]; exact h
      · rw [if_neg c, if_pos (by rw [← e7]; exact (b01 g7).mpr c)]
        exact al_go ha hn8 hl22 hzc hloss h j (by omega)
  have h3 : ∀ j, j ≤ n → al_ok i a n nl ln cd bt nt (rm_gone i n nl ln lk (rm_go i n zc nl ln lk (rm_save i w n) n) j) (rt_gone a n nl lk (rt_go a n nl zr lk (rx_cp (31, a, 0) (31, 3, 0) u (80 + 8 * n)) n) j) := by
    intro j
    induction j with
    | zero => intro _; exact h2 n (Nat.le_refl n)
    | succ j ih =>
      intro hj
      have h := ih (by omega)
      have e7 := (h.2.1 j (by omega)).at 7
      have g7 := (h.2.2.2.1 j (by omega)).2.2.2.2.2.2
      unfold rm_gone rt_gone
      by_cases c : rm_gone i n nl ln lk (rm_go i n zc nl ln lk (rm_save i w n) n) j (6, i, j) 7 = 0
      · rw [if_pos c, if_neg (by rw [← e7, c]; decide)]; exact h
      · rw [if_neg c, if_pos (by rw [← e7]; exact (b01 g7).mpr c)]
        exact al_gone ha hn8 hl22 h j (by omega)
  have h4 : ∀ j, j ≤ n → al_ok i a n nl ln cd bt nt (rm_set i (rm_gone i n nl ln lk (rm_go i n zc nl ln lk (rm_save i w n) n) n) j) (rt_set a (rt_gone a n nl lk (rt_go a n nl zr lk (rx_cp (31, a, 0) (31, 3, 0) u (80 + 8 * n)) n) n) j) := by
    intro j
    induction j with
    | zero => intro _; exact h3 n (Nat.le_refl n)
    | succ j ih =>
      intro hj
      exact al_settle ha hn8 hl22 (ih (by omega)) j (by omega)
  have hE := h4 n (Nat.le_refl n)
  have t4 : rm_tick4 i n zc nl ln lk w = rm_set i (rm_gone i n nl ln lk (rm_go i n zc nl ln lk (rm_save i w n) n) n) n := rfl
  have r4 : rt_tick4 a n nl zr lk u = rt_set a (rt_gone a n nl lk (rt_go a n nl zr lk (rx_cp (31, a, 0) (31, 3, 0) u (80 + 8 * n)) n) n) n := rfl
  have k8 : rm_tick4 i n zc nl ln lk w (2, i, 0) 8 = w (2, i, 0) 8 := (rm_set_o (by simp) n).trans ((rm_gone_o (by simp) n).trans ((rm_go_o (fr2 i 8) n).trans (rm_save_o (by simp) n)))
  have f0 : rfr a (31, a, 0) 0 := ⟨fun q => by omega, by simp, by simp; omega⟩
  have r0 : rt_tick4 a n nl zr lk u (31, a, 0) 0 = u (31, a, 0) 0 := (rt_set_o f0 n hn8).trans ((rt_gone_o hn8 f0 n hn8).trans ((rt_go_o f0 n hn8).trans (by unfold rx_cp; rw [if_neg (fun q => by have := q.1; simp at this; omega)])))
  have l21 : ∀ j, j < nl → rt_tick4 a n nl zr lk u (31, a, 0) (21 + 2 * j) = u (31, a, 0) (21 + 2 * j) := fun j hj => by
    have f : rfr a (31, a, 0) (21 + 2 * j) := ⟨fun q => by omega, by simp, by simp; omega⟩
    exact (rt_set_o f n hn8).trans ((rt_gone_o hn8 f n hn8).trans ((rt_go_o f n hn8).trans (by unfold rx_cp; rw [if_neg (fun q => by have := q.1; simp at this; omega)])))
  have l2 : ∀ j, j < nl → rm_tick4 i n zc nl ln lk w (ln j) 2 = w (ln j) 2 := fun j hj => by
    have e := hl22 j hj
    exact (rm_set_o (by rw [e]; decide) n).trans ((rm_gone_o (by rw [e]; decide) n).trans ((rm_go_o ⟨by simp [gb, e], by rw [e]; decide⟩ n).trans (rm_save_o (by rw [e]; decide) n)))
  rw [← t4, ← r4] at hE
  obtain ⟨d1, d2, d3, d4, d5, d6, d7, d8, d9, d10, d11, d12⟩ := hE
  unfold rm_tick rt_tick
  refine ⟨fun r hr k q1 q7 => ?_, fun r hr => ?_, fun r hr => ?_, ?_, ?_, ?_, fun j hj => ?_, fun k => ?_, fun p => ?_, fun k hk => ?_⟩
  · rw [am_ui_o (by simp), am_ui_n (by omega)]; exact d1 r hr k q1 q7
  · rw [am_ui_o (by simp)]; exact (d2 r hr).at 0
  · exact rok_f (d3 r hr) (fun k _ _ => am_ui_o (by simp))
  · rw [am_ui_n (by simp), am_ui_n (by simp)]; exact d5
  · rw [am_ui_n (by simp), am_ui_n (by simp)]; exact d7
  · rw [am_ui_n (by simp)]; exact d8
  · rw [am_ui_o (fun e => by have := hl22 j hj; rw [e] at this; simp at this), am_ui_n (by omega), l21 j hj, l2 j hj]; exact h.2.2.2.2.2.2.1 j hj
  · rw [am_ui_o (by simp)]; exact d10 k
  · rw [am_ui_n (by omega)]; exact d11 p
  · rw [am_ui_o (by simp; omega)]; exact d12 k hk
