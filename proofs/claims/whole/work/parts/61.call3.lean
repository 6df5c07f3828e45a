theorem on1 (a : Int32) : a &&& 1 = 0 ∨ a &&& 1 = 1 := by
  obtain ⟨j, hj, e⟩ := pk_andE a (m := 1) 1 (by decide)
  rcases (show j = 0 ∨ j = 1 by omega) with rfl | rfl
  · exact Or.inl e
  · exact Or.inr e
theorem rbt0 (p : Prop) : rg_bit p = 0 ↔ ¬ p := by
  unfold rg_bit
  by_cases c : p
  · rw [if_pos c]; exact ⟨fun h => absurd h (by decide), fun h => absurd c h⟩
  · rw [if_neg c]; exact ⟨fun _ => c, fun _ => rfl⟩
theorem on_bit (o x : Int32) : (if rg_bit (rm_on o x) = 0 then (0 : Int32) else 1) = o >>> (x &&& 31) &&& 1 := by
  rcases on1 (o >>> (x &&& 31)) with e | e
  · rw [if_pos ((rbt0 _).mpr (fun h => h e)), e]
  · rw [if_neg (show ¬ rg_bit (rm_on o x) = 0 from fun z => (rbt0 _).mp z (fun h => absurd (e.symm.trans h) (by decide))), e]
/-! a ring comes -/
def rgv (x y d t wd tk : Int32) : Nat → Int32 := fun k => if k = 1 then x else if k = 2 then y else if k = 3 then d else if k = 4 then t else if k = 5 then wd else if k = 6 then tk else 1
theorem rm_ring_v {n : am_N} {x y d t wd tk : Int32} {iv : am_iv} {k : Nat} (h1 : 1 ≤ k) (h7 : k ≤ 7) : rm_ring n x y d t wd tk iv n k = rgv x y d t wd tk k := by
  rcases (show k = 1 ∨ k = 2 ∨ k = 3 ∨ k = 4 ∨ k = 5 ∨ k = 6 ∨ k = 7 by omega) with rfl | rfl | rfl | rfl | rfl | rfl | rfl <;> simp [rm_ring, am_ui, rgv]
theorem rm_ring_o {n q : am_N} {x y d t wd tk : Int32} {iv : am_iv} {k : Nat} (h : q ≠ n ∨ k = 0) : rm_ring n x y d t wd tk iv q k = iv q k := by
  have hh : ∀ j, j ≠ 0 → ¬ (q = n ∧ k = j) := fun j hj e => h.elim (fun z => z e.1) (fun z => hj (e.2 ▸ z))
  unfold rm_ring
  rw [am_ui_n (hh 7 (by decide)), am_ui_n (hh 6 (by decide)), am_ui_n (hh 5 (by decide)), am_ui_n (hh 4 (by decide)), am_ui_n (hh 3 (by decide)), am_ui_n (hh 2 (by decide)), am_ui_n (hh 1 (by decide))]
theorem rx_ring7_v {m : am_N} {n : Nat} {x y d t wd tk : Int32} {iv : am_iv} {k : Nat} (h1 : 1 ≤ k) (h7 : k ≤ 7) : rx_ring7 m n x y d t wd tk iv m (79 + 8 * n + k) = rgv x y d t wd tk k := by
  rcases (show k = 1 ∨ k = 2 ∨ k = 3 ∨ k = 4 ∨ k = 5 ∨ k = 6 ∨ k = 7 by omega) with rfl | rfl | rfl | rfl | rfl | rfl | rfl <;> simp [rx_ring7, am_ui, rgv]
theorem rx_ring7_o {m q : am_N} {n : Nat} {x y d t wd tk : Int32} {iv : am_iv} {k : Nat} (h : q ≠ m ∨ k < 80 + 8 * n ∨ 86 + 8 * n < k) : rx_ring7 m n x y d t wd tk iv q k = iv q k := by
  have hh : ∀ j, 1 ≤ j → j ≤ 7 → ¬ (q = m ∧ k = 79 + 8 * n + j) := fun j h1 h7 e => h.elim (fun z => z e.1) (fun z => by omega)
  unfold rx_ring7
  rw [am_ui_n (hh 7 (by decide) (by decide)), am_ui_n (hh 6 (by decide) (by decide)), am_ui_n (hh 5 (by decide) (by decide)), am_ui_n (hh 4 (by decide) (by decide)), am_ui_n (hh 3 (by decide) (by decide)), am_ui_n (hh 2 (by decide) (by decide)), am_ui_n (hh 1 (by decide) (by decide))]
theorem rx_add_o {m q : am_N} {n : Nat} {x y d t wd tk : Int32} {iv : am_iv} {k : Nat} (h : q ≠ m ∨ (k ≠ 1 ∧ (k < 80 + 8 * n ∨ 86 + 8 * n < k))) : rx_add m n x y d t wd tk iv q k = iv q k := by
  unfold rx_add
  rw [am_ui_n (fun e => h.elim (fun z => z e.1) (fun z => z.1 e.2)), rx_ring7_o (h.imp id (fun z => z.2))]
/-- rings of room i and row a when one comes -/
theorem ring_add {i a n : Nat} {w u : am_iv} (hn7 : n < 8) (x y d t wd tk : Int32) (hok : rok (rgv x y d t wd tk)) (hr : rR_r i a n w u) : rR_r i a (n + 1) (am_ui (rm_ring (4, i, n) x y d t wd tk w) (2, i, 0) 1 (nI (n + 1))) (rx_add (31, a, 0) n x y d t wd tk u) := by
  refine ⟨fun r hr1 k q1 q7 => ?_, fun r hr1 => ?_⟩
  · rw [am_ui_o (by simp)]
    by_cases e : r = n
    · subst e
      unfold rx_add
      rw [rm_ring_v q1 q7, am_ui_n (by omega), rx_ring7_v q1 q7]
    · rw [rm_ring_o (Or.inl (by simp [e])), rx_add_o (Or.inr ⟨by omega, by omega⟩)]
      exact hr.1 r (by omega) k q1 q7
  · by_cases e : r = n
    · subst e
      exact rok_f hok (fun k q1 q7 => by rw [am_ui_o (by simp), rm_ring_v q1 q7])
    · exact rok_f (hr.2 r (by omega)) (fun k q1 q7 => by rw [am_ui_o (by simp), rm_ring_o (Or.inl (by simp [e]))])
theorem rX.addr {kd : am_kd} {rv : am_rv} {i a n nl : Nat} {ln : Nat → am_N} {lk : Nat → Nat} {z0 y0 z1 y1 zt zw : Nat} {w u : am_iv} (h : rX kd rv i a n nl ln lk z0 y0 z1 y1 zt zw w u) (hn7 : n < 8) (x y d t wd tk : Int32) (hok : rok (rgv x y d t wd tk)) : rX kd rv i a (n + 1) nl ln lk z0 y0 z1 y1 zt zw (am_ui (rm_ring (4, i, n) x y d t wd tk w) (2, i, 0) 1 (nI (n + 1))) (rx_add (31, a, 0) n x y d t wd tk u) := by
  obtain ⟨d1, ⟨d2, d3, d4⟩, ⟨d5, d6, d7⟩, d8, d9⟩ := h.2.2.1
  have e2 : ∀ k, k ≠ 1 → am_ui (rm_ring (4, i, n) x y d t wd tk w) (2, i, 0) 1 (nI (n + 1)) (2, i, 0) k = w (2, i, 0) k := fun k hk => by rw [am_ui_n (by simp [hk]), rm_ring_o (Or.inl (by simp))]
  have eu : ∀ k, k ≠ 1 → k < 80 ∨ 144 ≤ k → rx_add (31, a, 0) n x y d t wd tk u (31, a, 0) k = u (31, a, 0) k := fun k h1 h2 => rx_add_o (Or.inr ⟨h1, by omega⟩)
  refine h.upd ⟨am_ui_s _ _ _ _, am_ui_s _ _ _ _, hn7⟩ (ring_add hn7 x y d t wd tk hok h.1.2) ⟨?_, ⟨?_, ?_, ?_⟩, ⟨?_, ?_, ?_⟩, ?_, ?_⟩ (fun q k z => ?_) (fun k z => eu k (by unfold kU at z; omega) (by unfold kU at z; omega))
  · rw [e2 _ (by decide), eu _ (by decide) (by decide)]; exact d1
  · rw [e2 _ (by decide), eu _ (by decide) (by decide)]; exact d2
  · rw [e2 _ (by decide)]; exact d3
  · rw [e2 _ (by decide)]; exact d4
  · rw [e2 _ (by decide), eu _ (by decide) (by decide)]; exact d5
  · rw [e2 _ (by decide)]; exact d6
  · rw [e2 _ (by decide)]; exact d7
  · rw [e2 _ (by decide), eu _ (by decide) (by decide)]; exact d8
  · rw [e2 _ (by decide), eu _ (by decide) (by decide)]; exact d9
  · have z1 : ¬ (q = (2, i, 0) ∧ k = 1) := fun e => by
      obtain ⟨e1, e2⟩ := e
      subst e1; subst e2
      unfold kC at z; simp at z
    rw [am_ui_n z1, rm_ring_o (Or.inl (fun e => by subst e; unfold kC at z; simp at z))]
/-- what texts give, and what is written thereby -/
theorem rX.given {kd : am_kd} {rv : am_rv} {n nl : Nat} {ln : Nat → am_N} {lk : Nat → Nat} {z0 y0 z1 y1 zt zw : Nat} {w u : am_iv} (h : rX kd rv 0 0 n nl ln lk z0 y0 z1 y1 zt zw w u) (x y t : Int32) : gv_raw 0 0 z0 x y t w = gr_raw 0 y0 x y t u ∧ gv_raw 0 1 z1 x y t w = gr_raw 1 y1 x y t u := by
  obtain ⟨⟨-, e2, -, -, e5⟩, -, f2, -, -, f5⟩ := h.2.2.2.1
  exact ⟨by rw [gv_raw_p 0 0 z0 e2, gr_raw_p (fun p => rfl) (fun k _ => rfl)]; exact e5 x y t _, by rw [gv_raw_p 0 1 z1 f2, gr_raw_p (fun p => rfl) (fun k _ => rfl)]; exact f5 x y t _⟩
theorem rX.gvr {kd : am_kd} {rv : am_rv} {i n nl : Nat} {ln : Nat → am_N} {lk : Nat → Nat} {z0 y0 z1 y1 zt zw : Nat} {w u : am_iv} (h : rX kd rv i 0 n nl ln lk z0 y0 z1 y1 zt zw w u) (use use' zc zr : Nat) (a b c a' b' c' : Int32) : rX kd rv i 0 n nl ln lk z0 y0 z1 y1 zt zw (gv_heap i use zc a b c w) (gr_heap use' zr a' b' c' u) := by
  obtain ⟨d1, ⟨d2, d3, d4⟩, ⟨d5, d6, d7⟩, d8, d9⟩ := h.2.2.1
  have e2 : ∀ k, gv_heap i use zc a b c w (2, i, 0) k = w (2, i, 0) k := fun k => gv_heap_o (by simp [gb])
  have e4 : ∀ r k, gv_heap i use zc a b c w (4, i, r) k = w (4, i, r) k := fun r k => gv_heap_o (by simp [gb])
  have eu : ∀ k, gr_heap use' zr a' b' c' u (31, 0, 0) k = u (31, 0, 0) k := fun k => gr_heap_o (by simp) (by simp)
  refine h.upd ⟨(e2 1).trans h.1.1.1, (eu 1).trans h.1.1.2.1, h.1.1.2.2⟩ ⟨fun r hr k q1 q7 => by rw [e4, eu]; exact h.1.2.1 r hr k q1 q7, fun r hr => rok_f (h.1.2.2 r hr) (fun k _ _ => e4 r k)⟩ ⟨by rw [e2, eu]; exact d1, ⟨by rw [e2, eu]; exact d2, by rw [e2]; exact d3, by rw [e2]; exact d4⟩, ⟨by rw [e2, eu]; exact d5, by rw [e2]; exact d6, by rw [e2]; exact d7⟩, by rw [e2, eu]; exact d8, by rw [e2, eu]; exact d9⟩ (fun q k z => gv_heap_o (fun g => ?_)) (fun k _ => eu k)
  unfold kC at z
  unfold gb at g
  rcases z with ⟨z, z2⟩ | z
  · subst z; simp at g
  · omega
theorem thick_ok : ∀ m : Nat, m < 51 → 1 ≤ (1 + nI m / 5).toInt ∧ (1 + nI m / 5).toInt ≤ 50 := by decide +kernel
theorem thick_of {x : Int32} (h1 : 1 ≤ x.toInt) (h2 : x.toInt ≤ 50) : 1 ≤ (1 + x / 5).toInt ∧ (1 + x / 5).toInt ≤ 50 := by
  have h0 : 0 ≤ x := by
    apply Int32.le_iff_toInt_le.mpr
    have : (0 : Int32).toInt = 0 := by decide
    omega
  have h5 : x ≤ nI 50 := by
    apply Int32.le_iff_toInt_le.mpr
    have : (nI 50).toInt = 50 := by decide
    omega
  have := nI_cl_le h0 h5 (by decide)
  rw [nI_cl h0]
  exact thick_ok _ (by omega)
theorem stroke_ok {w : am_iv} {i : Nat} {v : Int32} (h1 : 1 ≤ (w (2, i, 0) 7).toInt) (h2 : (w (2, i, 0) 7).toInt ≤ 50) : rok (rgv 0 0 1 (sr_held v 0 999) (w (2, i, 0) 7) (1 + w (2, i, 0) 7 / 5)) := by
  have hh := held_rng (v := v) (a := 0) (b := 999) (by decide)
  rw [t_0, t_999] at hh
  refine ⟨show -99999 ≤ (0 : Int32).toInt ∧ (0 : Int32).toInt ≤ 99999 by decide, show -999 ≤ (0 : Int32).toInt ∧ (0 : Int32).toInt ≤ 999 by decide, Or.inl rfl, hh, ⟨h1, show (w (2, i, 0) 7).toInt ≤ 200 by omega⟩, thick_of h1 h2, Or.inr rfl⟩
theorem call_turn (l : Launch) {kd : am_kd} {rv : am_rv} {iv : am_iv} (h : REL kd rv iv iv) (x : Int32) (y : Int32) : CALL l kd rv iv mX11_turn mX12_turn [am_I x, am_I y] := by
  obtain ⟨n, nl, ln, lk, z0, y0, z1, y1, zt, zw, hX⟩ := h.n
  have hn := hX.1.1.1
  have hn8 := hX.1.1.2.2
  have hl := hX.laws
  refine CALL.ff (d2 := 2) h (c_turn x y nl) (d_turn x y) (p_turn l h.S x y nl ln lk hl) (fun q k hq => ?_) (fun h1 eu => ?_) (by decide) (by decide) (fun u hu eu => ?_) (fun u q k hq => ?_)
  · unfold c_turn
    split
    · exact er_u hq
    · split
      · exact er_u hq
      · exact ui_u hq (by simp)
  · exact q_turn l h1.R x y
  · have hX := hX.u eu
    unfold c_turn d_turn
    rw [← hX.hasl x]
    by_cases c0 : sr_b (0 ≤ x ∧ x < nI nl) = 0
    · rw [if_pos c0, if_pos c0]; exact ⟨rfl, hu.err 1 (by decide)⟩
    · rw [if_neg c0, if_neg c0]
      by_cases c1 : sr_b (0 ≤ y ∧ y ≤ 1) = 0
      · rw [if_pos c1, if_pos c1]; exact ⟨rfl, hu.err 1 (by decide)⟩
      · rw [if_neg c1, if_neg c1]
        obtain ⟨f1, ⟨f2, f3, f4⟩, ⟨f5, f6, f7⟩, f8, f9⟩ := hX.2.2.1
        rw [← f1]
        exact ⟨on_bit _ _, hu.f0 5 3 _ (by decide) (by decide) ⟨by rw [am_ui_s, am_ui_s], ⟨by rw [am_ui_n (by simp), am_ui_n (by simp)]; exact f2, by rw [am_ui_n (by simp)]; exact f3, by rw [am_ui_n (by simp)]; exact f4⟩, ⟨by rw [am_ui_n (by simp), am_ui_n (by simp)]; exact f5, by rw [am_ui_n (by simp)]; exact f6, by rw [am_ui_n (by simp)]; exact f7⟩, by rw [am_ui_n (by simp), am_ui_n (by simp)]; exact f8, by rw [am_ui_n (by simp), am_ui_n (by simp)]; exact f9⟩⟩
  · unfold d_turn
    split
    · exact rx_c hq
    · split
      · exact rx_c hq
      · exact ui_c hq (by simp)
theorem neg_div {x : Int32} {d : Int} {D : Int32} (hD : D.toInt = d) (hd : 2 ≤ d) (hx : x < 0) : (x / D).toInt ≤ 0 ∧ -2147483648 ≤ (x / D).toInt := by
  have h0 := Int32.lt_iff_toInt_lt.mp hx
  rw [t_0] at h0
  have hr := fb_rng x
  have e : (x / D).toInt = -((-x.toInt) / d) := by
    rw [Int32.toInt_div_of_ne_right _ _ (fun e => by rw [e] at hD; have : (-1 : Int32).toInt = -1 := by decide
                                                     omega), hD]
    have : x.toInt = -(-x.toInt) := by omega
    rw [this, Int.neg_tdiv, Int.tdiv_eq_ediv_of_nonneg (by omega)]
    rw [show - - -x.toInt = -x.toInt by omega]
  rw [e]
  have h1 : 0 ≤ -x.toInt / d := Int.ediv_nonneg (by omega) (by omega)
  have h2 : -x.toInt / d ≤ -x.toInt := Int.ediv_le_self _ (by omega)
  omega
theorem ring_x0 {x : Int32} (hx : x < 0) : sr_b (-99999 ≤ x / 2000 - 100000 ∧ x / 2000 - 100000 ≤ 99999) = 0 := by
  rw [sr_b_0]
  intro h
  obtain ⟨a, b⟩ := neg_div (D := 2000) (d := 2000) (by decide) (by decide) hx
  have hr := fb_rng x
  have e : (x / 2000).toInt ≥ -1073742 := by
    have h0 := Int32.lt_iff_toInt_lt.mp hx
    rw [t_0] at h0
    have e : (x / 2000).toInt = -((-x.toInt) / 2000) := by
      rw [Int32.toInt_div_of_ne_right _ _ (by decide), show (2000 : Int32).toInt = 2000 by decide]
      have : x.toInt = -(-x.toInt) := by omega
      rw [this, Int.neg_tdiv, Int.tdiv_eq_ediv_of_nonneg (by omega)]
      rw [show - - -x.toInt = -x.toInt by omega]
    rw [e]
    omega
  have h1 := Int32.le_iff_toInt_le.mp h.1
  rw [ix_sub (by rw [show (100000 : Int32).toInt = 100000 by decide]; omega) (by rw [show (100000 : Int32).toInt = 100000 by decide]; omega), show (100000 : Int32).toInt = 100000 by decide, t_m99999] at h1
  omega
theorem ring_k0 {k : Int32} (hk : k < 0) : sr_b (1 ≤ k / 100 ∧ k / 100 ≤ 200) = 0 := by
  rw [sr_b_0]
  intro h
  obtain ⟨a, b⟩ := neg_div (D := 100) (d := 100) (by decide) (by decide) hk
  have h1 := Int32.le_iff_toInt_le.mp h.1
  rw [t_1] at h1
  omega
theorem t_50 : (50 : Int32).toInt = 50 := by decide
theorem full_c {n : Nat} (hn8 : n ≤ 8) {w u : Int32} (hw : w = nI n) (hu : u = nI n) : sr_b (8 ≤ w) = 0 ↔ ¬ u = 8 := by
  rw [hw, hu, sr_b_0]
  constructor
  · intro h e; exact h (by rw [e]; decide)
  · intro h e
    have : n = 8 := by
      rcases Nat.lt_or_ge n 8 with q | q
      · exact absurd e (nI_ge (b := 8) q (by decide))
      · omega
    exact h (by rw [this]; rfl)
theorem full_n {n : Nat} (hn8 : n ≤ 8) {u : Int32} (hu : u = nI n) (h : ¬ u = 8) : n < 8 := by
  rcases Nat.lt_or_ge n 8 with q | q
  · exact q
  · exact absurd (by rw [hu, show n = 8 by omega]; rfl) h
theorem call_ring (l : Launch) {kd : am_kd} {rv : am_rv} {iv : am_iv} (h : REL kd rv iv iv) (x : Int32) (y : Int32) (t : Int32) (k : Int32) : CALL l kd rv iv mX11_ring mX12_ring [am_I x, am_I y, am_I t, am_I k] := by
  obtain ⟨n, nl, ln, lk, z0, y0, z1, y1, zt, zw, hX⟩ := h.n
  have hn := hX.1.1.1
  have hn8 := hX.1.1.2.2
  have hl := hX.laws
  refine CALL.ff (d2 := 2) h (c_ring x y t k n) (d_ring x y t k n) (p_ring l h.S x y t k n hn hn8) (fun q k hq => ?_) (fun h1 eu => ?_) (by decide) (by decide) (fun u hu eu => ?_) (fun u q k hq => ?_)
  · unfold c_ring
    repeat' split
    all_goals first
      | exact er_u hq
      | exact (chg.ring.tr chg.u2).u hq
  · exact q_ring l h1.R x y t k n (hX.u eu).1.1.2.1 hn8
  · have hX := hX.u eu
    unfold c_ring d_ring
    by_cases hx0 : x < 0
    · rw [if_pos (ring_x0 hx0), if_pos hx0]; exact ⟨rfl, hu.err 1 (by decide)⟩
    · rw [if_neg hx0]
      by_cases c0 : sr_b (-99999 ≤ (x / 2000 - 100000) ∧ (x / 2000 - 100000) ≤ 99999) = 0
      · rw [if_pos c0, if_pos c0]; exact ⟨rfl, hu.err 1 (by decide)⟩
      · rw [if_neg c0, if_neg c0]
        by_cases c1 : sr_b (-999 ≤ (x - x / 2000 * 2000 - 1000) ∧ (x - x / 2000 * 2000 - 1000) ≤ 999) = 0
        · rw [if_pos c1, if_pos c1]; exact ⟨rfl, hu.err 1 (by decide)⟩
        · rw [if_neg c1, if_neg c1]
          by_cases hy : y = 1 ∨ y = -1
          · rw [if_pos hy, if_pos hy]
            by_cases c2 : sr_b (0 ≤ t ∧ t ≤ 999) = 0
            · rw [if_pos c2, if_pos c2]; exact ⟨rfl, hu.err 1 (by decide)⟩
            · rw [if_neg c2, if_neg c2]
              by_cases hk0 : k < 0
              · rw [if_pos (ring_k0 hk0), if_pos hk0]; exact ⟨rfl, hu.err 1 (by decide)⟩
              · rw [if_neg hk0]
                by_cases c3 : sr_b (1 ≤ (k / 100) ∧ (k / 100) ≤ 200) = 0
                · rw [if_pos c3, if_pos c3]; exact ⟨rfl, hu.err 1 (by decide)⟩
                · rw [if_neg c3, if_neg c3]
                  by_cases c4 : sr_b (1 ≤ (k - k / 100 * 100) ∧ (k - k / 100 * 100) ≤ 50) = 0
                  · rw [if_pos c4, if_pos c4]; exact ⟨rfl, hu.err 1 (by decide)⟩
                  · rw [if_neg c4, if_neg c4]
                    have hF := full_c hn8 hX.1.1.1 hX.1.1.2.1
                    by_cases c5 : u (31, 0, 0) 1 = 8
                    · rw [if_neg (fun z => hF.mp z c5), if_pos c5]; exact ⟨rfl, hu.err 4 (by decide)⟩
                    · rw [if_pos (hF.mpr c5), if_neg c5]
                      have b0 := toInt_bd ((sr_b_1 _).mp c0)
                      have b1 := toInt_bd ((sr_b_1 _).mp c1)
                      have b2 := toInt_bd ((sr_b_1 _).mp c2)
                      have b3 := toInt_bd ((sr_b_1 _).mp c3)
                      have b4 := toInt_bd ((sr_b_1 _).mp c4)
                      rw [t_m99999, t_99999] at b0
                      rw [t_m999, t_999] at b1
                      rw [t_0, t_999] at b2
                      rw [t_1, t_200] at b3
                      rw [t_1, t_50] at b4
                      exact ⟨rfl, hu.chg0 (chg.ring.tr chg.u2) (fun q k z => rx_add_o (Or.inl (dU_ne z).1)) (hX.addr (full_n hn8 hX.1.1.2.1 c5) _ _ _ _ _ _ ⟨b0, b1, hy, b2, b3, b4, Or.inr rfl⟩).r⟩
          · rw [if_neg hy, if_neg hy]; exact ⟨rfl, hu.err 1 (by decide)⟩
  · unfold d_ring
    repeat' split
    all_goals first
      | exact rx_c hq
      | exact rx_add_o (Or.inl (fun e => by subst e; unfold cN at hq; simp at hq))
theorem gr_30 {use n : Nat} {a b c : Int32} {u : am_iv} {k : Nat} (h : k = 5 ∨ k = 15) : gr_heap use n a b c u (30, 0, 0) k = u (30, 0, 0) k := by
  unfold gr_heap
  split
  · unfold hp wk_iv gr_names
    rcases h with rfl | rfl <;> simp [am_ui]
  · rfl
theorem call_stroke (l : Launch) {kd : am_kd} {rv : am_rv} {iv : am_iv} (h : REL kd rv iv iv) (x : Int32) (y : Int32) : CALL l kd rv iv mX11_stroke mX12_stroke [am_I x, am_I y] := by
  obtain ⟨n, nl, ln, lk, z0, y0, z1, y1, zt, zw, hX⟩ := h.n
  have hn := hX.1.1.1
  have hn8 := hX.1.1.2.2
  have hl := hX.laws
  refine CALL.ff (d2 := 42) h (c_stroke x y n z0) (d_stroke x y n y0) (p_stroke l h.S x y n hn hn8 z0 hX.2.2.2.1.1.1 hX.2.2.2.1.1.2.1) (fun q k hq => ?_) (fun h1 eu => ?_) (by decide) (by decide) (fun u hu eu => ?_) (fun u q k hq => ?_)
  · unfold c_stroke
    repeat' split
    all_goals first
      | exact er_u hq
      | exact chg.as.u hq
  · exact q_stroke l h1.R x y n (hX.u eu).1.1.2.1 hn8 y0 (hX.u eu).2.2.2.1.1.2.2.1 (hX.u eu).2.2.2.1.1.2.2.2.1
  · have hX := hX.u eu
    unfold c_stroke d_stroke
    by_cases c0 : sr_b (1 ≤ x ∧ x ≤ 400) = 0
    · rw [if_pos c0, if_pos c0]; exact ⟨rfl, hu.err 1 (by decide)⟩
    · rw [if_neg c0, if_neg c0]
      by_cases c1 : sr_b (1 ≤ y ∧ y ≤ 99) = 0
      · rw [if_pos c1, if_pos c1]; exact ⟨rfl, hu.err 1 (by decide)⟩
      · rw [if_neg c1, if_neg c1]
        have hF := full_c hn8 hX.1.1.1 hX.1.1.2.1
        by_cases c5 : u (31, 0, 0) 1 = 8
        · rw [if_neg (fun z => hF.mp z c5), if_pos c5]; exact ⟨rfl, hu.err 4 (by decide)⟩
        · rw [if_pos (hF.mpr c5), if_neg c5]
          obtain ⟨f5, f6, f7⟩ := hX.2.2.1.2.2.1
          refine ⟨rfl, hu.chg0 chg.as (fun q k z => ?_) ?_⟩
          · show rs_heap 0 n y0 x y u q k = u q k
            unfold rs_heap
            rw [rx_add_o (Or.inl (dU_ne z).1)]
            have zz := dU_ne z
            by_cases e30 : q = (30, 0, 0)
            · subst e30
              exact gr_30 (by rcases z with (e | e | e | e | e | ⟨-, e⟩) | e
                              · simp at e
                              · simp at e
                              · simp at e
                              · simp at e
                              · simp at e
                              · exact e
                              · simp at e)
            · exact gr_heap_o e30 zz.2.2.2.2.1
          · have hG := hX.gvr 0 0 z0 y0 x y (iv (2, 0, 0) 7) x y (u (31, 0, 0) 5)
            have hA := hG.addr (full_n hn8 hX.1.1.2.1 c5) 0 0 1 (sr_held (gv_raw 0 0 z0 x y (iv (2, 0, 0) 7) iv) 0 999) (iv (2, 0, 0) 7) (1 + iv (2, 0, 0) 7 / 5) (stroke_ok f6 f7)
            have e1 : rs_heap 0 n y0 x y u = rx_add (31, 0, 0) n 0 0 1 (sr_held (gv_raw 0 0 z0 x y (iv (2, 0, 0) 7) iv) 0 999) (iv (2, 0, 0) 7) (1 + iv (2, 0, 0) 7 / 5) (gr_heap 0 y0 x y (u (31, 0, 0) 5) u) := by
              unfold rs_heap
              rw [(hX.given x y (iv (2, 0, 0) 7)).1, f5]
            rw [e1]
            exact hA.r
  · unfold d_stroke
    repeat' split
    all_goals first
      | exact rx_c hq
      | skip
    show rs_heap 0 n y0 x y u q k = u q k
    unfold rs_heap
    rw [rx_add_o (Or.inl (fun e => by subst e; unfold cN at hq; simp at hq)), gr_heap_o (fun e => by subst e; unfold cN at hq; simp at hq) (fun e => by subst e; unfold cN at hq; simp at hq)]
