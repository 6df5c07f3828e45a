theorem gr_c {use n : Nat} {a b c : Int32} {u : am_iv} {q : am_N} {k : Nat} (hq : cN q) : gr_heap use n a b c u q k = u q k := gr_heap_o (fun e => by subst e; unfold cN at hq; simp at hq) (fun e => by subst e; unfold cN at hq; simp at hq)
theorem gr_U {use n : Nat} {a b c : Int32} {u : am_iv} {q : am_N} {k : Nat} (z : dU q k ∨ q = (31, 4, 0)) : gr_heap use n a b c u q k = u q k := by
  by_cases e30 : q = (30, 0, 0)
  · subst e30
    rcases z with (e | e | e | e | e | ⟨-, e⟩) | e
    · simp at e
    · simp at e
    · simp at e
    · simp at e
    · simp at e
    · exact gr_30 e
    · simp at e
  · exact gr_heap_o e30 (dU_ne z).2.2.2.2.1
theorem trait_alike {f g : Nat → Int32} (h : a7 f g) (b7 : f 7 = 0 ∨ f 7 = 1) {y : Int32} (h0 : 0 ≤ y) (h7 : y ≤ 7) : rg_trait f y = if y = 7 then rg_pace g else g (y.toNatClampNeg + 1) := by
  have hm := nI_cl_le (n := 7) h0 h7 (by decide)
  have e := nI_cl h0
  have hb : (if f 7 = 0 then (0 : Int32) else 1) = g 7 := by
    rw [← h.at 7]
    rcases b7 with z | z
    · rw [if_pos z, z]
    · rw [if_neg (by rw [z]; decide), z]
  generalize y.toNatClampNeg = m at hm e
  subst e
  unfold rg_trait
  rcases (show m = 0 ∨ m = 1 ∨ m = 2 ∨ m = 3 ∨ m = 4 ∨ m = 5 ∨ m = 6 ∨ m = 7 by omega) with rfl | rfl | rfl | rfl | rfl | rfl | rfl | rfl
  · rw [if_pos (show nI 0 = 0 from rfl), if_neg (show ¬ nI 0 = 7 by decide)]
    exact h 1 (by decide)
  · rw [if_neg (show ¬ nI 1 = 0 by decide), if_pos (show nI 1 = 1 from rfl), if_neg (show ¬ nI 1 = 7 by decide)]
    exact h 2 (by decide)
  · rw [if_neg (show ¬ nI 2 = 0 by decide), if_neg (show ¬ nI 2 = 1 by decide), if_pos (show nI 2 = 2 from rfl), if_neg (show ¬ nI 2 = 7 by decide)]
    exact h 3 (by decide)
  · rw [if_neg (show ¬ nI 3 = 0 by decide), if_neg (show ¬ nI 3 = 1 by decide), if_neg (show ¬ nI 3 = 2 by decide), if_pos (show nI 3 = 3 from rfl), if_neg (show ¬ nI 3 = 7 by decide)]
    exact h 4 (by decide)
  · rw [if_neg (show ¬ nI 4 = 0 by decide), if_neg (show ¬ nI 4 = 1 by decide), if_neg (show ¬ nI 4 = 2 by decide), if_neg (show ¬ nI 4 = 3 by decide), if_pos (show nI 4 = 4 from rfl), if_neg (show ¬ nI 4 = 7 by decide)]
    exact h 5 (by decide)
  · rw [if_neg (show ¬ nI 5 = 0 by decide), if_neg (show ¬ nI 5 = 1 by decide), if_neg (show ¬ nI 5 = 2 by decide), if_neg (show ¬ nI 5 = 3 by decide), if_neg (show ¬ nI 5 = 4 by decide), if_pos (show nI 5 = 5 from rfl), if_neg (show ¬ nI 5 = 7 by decide)]
    exact h 6 (by decide)
  · rw [if_neg (show ¬ nI 6 = 0 by decide), if_neg (show ¬ nI 6 = 1 by decide), if_neg (show ¬ nI 6 = 2 by decide), if_neg (show ¬ nI 6 = 3 by decide), if_neg (show ¬ nI 6 = 4 by decide), if_neg (show ¬ nI 6 = 5 by decide), if_pos (show nI 6 = 6 from rfl), if_neg (show ¬ nI 6 = 7 by decide)]
    exact hb
  · rw [if_neg (show ¬ nI 7 = 0 by decide), if_neg (show ¬ nI 7 = 1 by decide), if_neg (show ¬ nI 7 = 2 by decide), if_neg (show ¬ nI 7 = 3 by decide), if_neg (show ¬ nI 7 = 4 by decide), if_neg (show ¬ nI 7 = 5 by decide), if_neg (show ¬ nI 7 = 6 by decide), if_pos (show nI 7 = 7 from rfl)]
    exact rg_pace_c h
theorem call_gives (l : Launch) {kd : am_kd} {rv : am_rv} {iv : am_iv} (h : REL kd rv iv iv) (x : Int32) (a : Int32) (b : Int32) (c : Int32) : CALL l kd rv iv mX11_gives mX12_gives [am_I x, am_I a, am_I b, am_I c] := by
  obtain ⟨n, nl, ln, lk, z0, y0, z1, y1, zt, zw, hX⟩ := h.n
  have hn := hX.1.1.1
  have hn8 := hX.1.1.2.2
  have hl := hX.laws
  have hzf : ∀ u, u < 2 → iv (9, 0, u) 1 = nI ((fun u => if u = 0 then z0 else z1) u) ∧ (fun u => if u = 0 then z0 else z1) u ≤ 50 := by
    intro u hu
    rcases (show u = 0 ∨ u = 1 by omega) with rfl | rfl
    · exact ⟨hX.2.2.2.1.1.1, hX.2.2.2.1.1.2.1⟩
    · exact ⟨hX.2.2.2.1.2.1, hX.2.2.2.1.2.2.1⟩
  refine CALL.ff (d2 := 41) h (c_gives x a b c (fun u => if u = 0 then z0 else z1)) (d_gives x a b c (fun u => if u = 0 then y0 else y1)) (p_gives l h.S x a b c (fun u => if u = 0 then z0 else z1) hzf) (fun q k hq => ?_) (fun h1 eu => ?_) (by decide) (by decide) (fun u hu eu => ?_) (fun u q k hq => ?_)
  · unfold c_gives
    split
    · exact er_u hq
    · exact chg.gv.u hq
  · have hX := hX.u eu
    exact q_gives l h1.R x a b c (fun u => if u = 0 then y0 else y1) (fun u hu => by
      rcases (show u = 0 ∨ u = 1 by omega) with rfl | rfl
      · exact ⟨hX.2.2.2.1.1.2.2.1, hX.2.2.2.1.1.2.2.2.1⟩
      · exact ⟨hX.2.2.2.1.2.2.2.1, hX.2.2.2.1.2.2.2.2.1⟩)
  · have hX := hX.u eu
    unfold c_gives d_gives
    by_cases c0 : sr_b (0 ≤ x ∧ x ≤ 1) = 0
    · rw [if_pos c0, if_pos c0]; exact ⟨rfl, hu.err 1 (by decide)⟩
    · rw [if_neg c0, if_neg c0]
      have hx := (sr_b_1 _).mp c0
      have hx2 : x.toNatClampNeg < 2 := Nat.lt_of_le_of_lt (nI_cl_le (n := 1) hx.1 hx.2 (by decide)) (by decide)
      refine ⟨?_, hu.chg0 chg.gv (fun q k z => gr_U z) (hX.gvr _ _ _ _ _ _ _ _ _ _).r⟩
      rcases (show x.toNatClampNeg = 0 ∨ x.toNatClampNeg = 1 by omega) with e | e
      · simp only [e, if_true]
        rw [(hX.given a b c).1]
      · simp only [e]
        rw [if_neg (by decide), if_neg (by decide), (hX.given a b c).2]
  · unfold d_gives
    split
    · exact rx_c hq
    · exact gr_c hq
theorem call_front (l : Launch) {kd : am_kd} {rv : am_rv} {iv : am_iv} (h : REL kd rv iv iv) : CALL l kd rv iv mX11_front mX12_front [] := by
  obtain ⟨n, nl, ln, lk, z0, y0, z1, y1, zt, zw, hX⟩ := h.n
  have hn := hX.1.1.1
  have hn8 := hX.1.1.2.2
  have hl := hX.laws
  refine CALL.ff (d2 := 3) h (c_front n) (d_front n) (p_front l h.S n hn hn8) (fun q k hq => ?_) (fun h1 eu => ?_) (by decide) (by decide) (fun u hu eu => ?_) (fun u q k hq => ?_)
  · unfold c_front
    split
    · rfl
    · exact er_u hq
  · have hX := hX.u eu
    exact q_front l h1.R n hX.1.1.2.1 hn8 (fun r hr => hX.rokr hr)
  · have hX := hX.u eu
    unfold c_front d_front
    rw [rm_front_c n (by omega) (fun k hk => (hX.at (fun r hr => (hu.z (by decide) r hr).1) hk))]
    split
    · exact ⟨rfl, hu⟩
    · exact ⟨rfl, hu.err 2 (by decide)⟩
  · unfold d_front
    split
    · rfl
    · exact rx_c hq
theorem call_ofRing (l : Launch) {kd : am_kd} {rv : am_rv} {iv : am_iv} (h : REL kd rv iv iv) (x : Int32) (y : Int32) : CALL l kd rv iv mX11_ofRing mX12_ofRing [am_I x, am_I y] := by
  obtain ⟨n, nl, ln, lk, z0, y0, z1, y1, zt, zw, hX⟩ := h.n
  have hn := hX.1.1.1
  have hn8 := hX.1.1.2.2
  have hl := hX.laws
  refine CALL.ff (d2 := 3) h (c_ofRing x y) (d_ofRing x y) (p_ofRing l h.S x y n hn hn8) (fun q k hq => ?_) (fun h1 eu => ?_) (by decide) (by decide) (fun u hu eu => ?_) (fun u q k hq => ?_)
  · unfold c_ofRing
    repeat' split
    all_goals first
      | exact er_u hq
      | rfl
  · have hX := hX.u eu
    exact q_ofRing l h1.R x y n hX.1.1.2.1 hn8 (fun r hr => hX.rokr hr)
  · have hX := hX.u eu
    unfold c_ofRing d_ofRing
    rw [← hX.has x]
    by_cases c0 : sr_b (0 ≤ x ∧ x < iv (2, 0, 0) 1) = 0
    · rw [if_pos c0, if_pos c0]; exact ⟨rfl, hu.err 1 (by decide)⟩
    · rw [if_neg c0, if_neg c0]
      by_cases c1 : sr_b (0 ≤ y ∧ y ≤ 7) = 0
      · rw [if_pos c1, if_pos c1]; exact ⟨rfl, hu.err 1 (by decide)⟩
      · rw [if_neg c1, if_neg c1]
        obtain ⟨hx0, hxn⟩ := hX.idx c0
        have hy := (sr_b_1 _).mp c1
        have e := trait_alike (hX.at (fun r hr => (hu.z (by decide) r hr).1) hxn) (hX.1.2.2 _ hxn).2.2.2.2.2.2 hy.1 hy.2
        by_cases q : y = 7
        · rw [if_pos q] at e ⊢; exact ⟨e, hu⟩
        · rw [if_neg q] at e ⊢; exact ⟨e, hu⟩
  · unfold d_ofRing
    repeat' split
    all_goals first
      | exact rx_c hq
      | rfl
theorem call_pair (l : Launch) {kd : am_kd} {rv : am_rv} {iv : am_iv} (h : REL kd rv iv iv) (x : Int32) (y : Int32) (z : Int32) : CALL l kd rv iv mX11_pair mX12_pair [am_I x, am_I y, am_I z] := by
  obtain ⟨n, nl, ln, lk, z0, y0, z1, y1, zt, zw, hX⟩ := h.n
  have hn := hX.1.1.1
  have hn8 := hX.1.1.2.2
  have hl := hX.laws
  refine CALL.ff (d2 := 3) h (c_pair x y z) (d_pair x y z) (p_pair l h.S x y z n hn hn8) (fun q k hq => ?_) (fun h1 eu => ?_) (by decide) (by decide) (fun u hu eu => ?_) (fun u q k hq => ?_)
  · unfold c_pair
    repeat' split
    all_goals first
      | exact er_u hq
      | rfl
  · have hX := hX.u eu
    exact q_pair l h1.R x y z n hX.1.1.2.1 hn8 (fun r hr => hX.rokr hr)
  · have hX := hX.u eu
    unfold c_pair d_pair
    rw [← hX.has x, ← hX.has y]
    by_cases c0 : sr_b (0 ≤ x ∧ x < iv (2, 0, 0) 1) = 0
    · rw [if_pos c0, if_pos c0]; exact ⟨rfl, hu.err 1 (by decide)⟩
    · rw [if_neg c0, if_neg c0]
      by_cases c1 : sr_b (0 ≤ y ∧ y < iv (2, 0, 0) 1) = 0
      · rw [if_pos c1, if_pos c1]; exact ⟨rfl, hu.err 1 (by decide)⟩
      · rw [if_neg c1, if_neg c1]
        by_cases exy : x = y
        · rw [if_pos exy, if_pos exy]; exact ⟨rfl, hu.err 1 (by decide)⟩
        · rw [if_neg exy, if_neg exy]
          by_cases c3 : sr_b (0 ≤ z ∧ z ≤ 2) = 0
          · rw [if_pos c3, if_pos c3]; exact ⟨rfl, hu.err 1 (by decide)⟩
          · rw [if_neg c3, if_neg c3]
            obtain ⟨-, hxn⟩ := hX.idx c0
            obtain ⟨-, hyn⟩ := hX.idx c1
            have ax := (hX.at (fun r hr => (hu.z (by decide) r hr).1) hxn)
            have ay := (hX.at (fun r hr => (hu.z (by decide) r hr).1) hyn)
            rw [rg_gap_c ax ay, rg_near_c ax ay, rg_behind_c ax ay]
            split
            · exact ⟨rfl, hu⟩
            · split
              · exact ⟨rfl, hu⟩
              · exact ⟨rfl, hu⟩
  · unfold d_pair
    repeat' split
    all_goals first
      | exact rx_c hq
      | rfl
theorem call_ofLaw (l : Launch) {kd : am_kd} {rv : am_rv} {iv : am_iv} (h : REL kd rv iv iv) (x : Int32) (y : Int32) : CALL l kd rv iv mX11_ofLaw mX12_ofLaw [am_I x, am_I y] := by
  obtain ⟨n, nl, ln, lk, z0, y0, z1, y1, zt, zw, hX⟩ := h.n
  have hn := hX.1.1.1
  have hn8 := hX.1.1.2.2
  have hl := hX.laws
  refine CALL.ff (d2 := 2) h (c_ofLaw x y nl ln) (d_ofLaw x y) (p_ofLaw l h.S x y nl ln lk hl) (fun q k hq => ?_) (fun h1 eu => ?_) (by decide) (by decide) (fun u hu eu => ?_) (fun u q k hq => ?_)
  · unfold c_ofLaw
    repeat' split
    all_goals first
      | exact er_u hq
      | rfl
  · exact q_ofLaw l h1.R x y nl lk (hX.u eu).2.1.2.1 (hX.u eu).2.1.2.2.1 (fun j hj => ⟨((hX.u eu).2.1.2.2.2 j hj).1.2.1, ((hX.u eu).2.1.2.2.2 j hj).2.2.2.2⟩)
  · have hX := hX.u eu
    unfold c_ofLaw d_ofLaw
    rw [← hX.hasl x]
    by_cases c0 : sr_b (0 ≤ x ∧ x < nI nl) = 0
    · rw [if_pos c0, if_pos c0]; exact ⟨rfl, hu.err 1 (by decide)⟩
    · rw [if_neg c0, if_neg c0]
      by_cases c1 : sr_b (0 ≤ y ∧ y ≤ 2) = 0
      · rw [if_pos c1, if_pos c1]; exact ⟨rfl, hu.err 1 (by decide)⟩
      · rw [if_neg c1, if_neg c1]
        obtain ⟨hx0, hxl⟩ := rX.idl hX.2.1.2.2.1 c0
        obtain ⟨l0, l5, l6, l7, l8⟩ := hX.2.1.2.2.2 _ hxl
        have hy := (sr_b_1 _).mp c1
        by_cases y2 : y = 2
        · rw [if_pos y2, if_neg (by rw [y2]; decide), if_neg (by rw [y2]; decide)]
          refine ⟨?_, hu⟩
          simp only
          rw [on_bit, hX.2.2.1.1]
        · rw [if_neg y2]
          have hyn := y01 hy.1 hy.2 y2
          have ey := nI_cl hy.1
          rcases (show y.toNatClampNeg = 0 ∨ y.toNatClampNeg = 1 by omega) with e | e
          · rw [e] at ey ⊢
            rw [if_pos (show y = 0 from ey)]
            exact ⟨l5.trans l8.symm, hu⟩
          · rw [e] at ey ⊢
            rw [if_neg (by rw [ey]; decide), if_pos (show y = 1 from ey)]
            exact ⟨l7.trans (by rw [show 21 + 2 * x.toNatClampNeg = 20 + 2 * x.toNatClampNeg + 1 by omega]), hu⟩
  · unfold d_ofLaw
    repeat' split
    all_goals first
      | exact rx_c hq
      | rfl
theorem call_as (l : Launch) {kd : am_kd} {rv : am_rv} {iv : am_iv} (h : REL kd rv iv iv) (x : Int32) (y : Int32) : CALL l kd rv iv mX11_as mX12_as [am_I x, am_I y] := by
  obtain ⟨n, nl, ln, lk, z0, y0, z1, y1, zt, zw, hX⟩ := h.n
  have hn := hX.1.1.1
  have hn8 := hX.1.1.2.2
  have hl := hX.laws
  refine CALL.ff (d2 := 2) h (c_as x y nl ln lk) (d_as x y) (p_as l h.S x y nl ln lk hl) (fun q k hq => ?_) (fun h1 eu => ?_) (by decide) (by decide) (fun u hu eu => ?_) (fun u q k hq => ?_)
  · unfold c_as
    repeat' split
    all_goals first
      | exact er_u hq
      | rfl
  · exact q_as l h1.R x y nl lk (hX.u eu).2.1.2.1 (hX.u eu).2.1.2.2.1 (fun j hj => ⟨((hX.u eu).2.1.2.2.2 j hj).1.2.1, ((hX.u eu).2.1.2.2.2 j hj).2.2.2.2⟩)
  · have hX := hX.u eu
    unfold c_as d_as
    rw [← hX.hasl x]
    by_cases c0 : sr_b (0 ≤ x ∧ x < nI nl) = 0
    · rw [if_pos c0, if_pos c0]; exact ⟨rfl, hu.err 1 (by decide)⟩
    · rw [if_neg c0, if_neg c0]
      by_cases c1 : sr_b (0 ≤ y ∧ y ≤ 6) = 0
      · rw [if_pos c1, if_pos c1]; exact ⟨rfl, hu.err 1 (by decide)⟩
      · rw [if_neg c1, if_neg c1]
        obtain ⟨hx0, hxl⟩ := rX.idl hX.2.1.2.2.1 c0
        obtain ⟨l0, l5, l6, l7, l8⟩ := hX.2.1.2.2.2 _ hxl
        rw [l8]
        split
        · exact ⟨rfl, hu.err 5 (by decide)⟩
        · exact ⟨l7.trans (by rw [show 21 + 2 * x.toNatClampNeg = 20 + 2 * x.toNatClampNeg + 1 by omega]), hu⟩
  · unfold d_as
    repeat' split
    all_goals first
      | exact rx_c hq
      | rfl
theorem call_does (l : Launch) {kd : am_kd} {rv : am_rv} {iv : am_iv} (h : REL kd rv iv iv) (x : Int32) (y : Int32) (z : Int32) (v : Int32) : CALL l kd rv iv mX11_does mX12_does [am_I x, am_I y, am_I z, am_I v] := by
  obtain ⟨n, nl, ln, lk, z0, y0, z1, y1, zt, zw, hX⟩ := h.n
  have hn := hX.1.1.1
  have hn8 := hX.1.1.2.2
  have hl := hX.laws
  refine CALL.ff (d2 := 5) h (c_does x y z v nl ln lk) (d_does x y z v lk) (p_does l h.S x y z v n hn hn8 hX.1.2.2 nl ln lk hl) (fun q k hq => ?_) (fun h1 eu => ?_) (by decide) (by decide) (fun u hu eu => ?_) (fun u q k hq => ?_)
  · unfold c_does
    repeat' split
    all_goals first
      | exact er_u hq
      | rfl
  · exact q_does l h1.R x y z v n (hX.u eu).1.1.2.1 hn8 (fun r hr => (hX.u eu).rokr hr) nl lk (hX.u eu).2.1.2.1 (hX.u eu).2.1.2.2.1 (fun j hj => ⟨((hX.u eu).2.1.2.2.2 j hj).1.2.1, ((hX.u eu).2.1.2.2.2 j hj).2.2.2.2⟩) (by rw [← (hX.u eu).2.2.1.2.1.1]; exact (hX.u eu).2.2.1.2.1.2)
  · have hX := hX.u eu
    unfold c_does d_does
    rw [← hX.hasl x, ← hX.has y, ← hX.has z]
    by_cases c0 : sr_b (0 ≤ x ∧ x < nI nl) = 0
    · rw [if_pos c0, if_pos c0]; exact ⟨rfl, hu.err 1 (by decide)⟩
    · rw [if_neg c0, if_neg c0]
      by_cases c1 : sr_b (0 ≤ y ∧ y < iv (2, 0, 0) 1) = 0
      · rw [if_pos c1, if_pos c1]; exact ⟨rfl, hu.err 1 (by decide)⟩
      · rw [if_neg c1, if_neg c1]
        by_cases c2 : sr_b (0 ≤ v ∧ v ≤ 3) = 0
        · rw [if_pos c2, if_pos c2]; exact ⟨rfl, hu.err 1 (by decide)⟩
        · rw [if_neg c2, if_neg c2]
          obtain ⟨hx0, hxl⟩ := rX.idl hX.2.1.2.2.1 c0
          obtain ⟨l0, l5, l6, l7, l8⟩ := hX.2.1.2.2.2 _ hxl
          obtain ⟨-, hyn⟩ := hX.idx c1
          have hv := (sr_b_1 _).mp c2
          have ay := (hX.at (fun r hr => (hu.z (by decide) r hr).1) hyn)
          have ew := hX.2.2.1.2.1.1
          by_cases v2 : 2 ≤ v
          · rw [if_pos v2]
            by_cases e2 : v = 2
            · rw [if_pos e2, if_pos e2, l7, lw_spreads_c ay, ew]; exact ⟨rfl, hu⟩
            · have e3 := v23 v2 hv.2 e2
              rw [if_neg e2, if_neg e2, if_pos e3, l7, lw_lifts_c ay, ew]; exact ⟨rfl, hu⟩
          · rw [if_neg v2, if_neg (fun e => v2 (by rw [e]; decide)), if_neg (fun e => v2 (by rw [e]; decide))]
            by_cases c4 : sr_b (0 ≤ z ∧ z < iv (2, 0, 0) 1) = 0
            · rw [if_pos c4, if_pos c4]; exact ⟨rfl, hu.err 1 (by decide)⟩
            · rw [if_neg c4, if_neg c4]
              by_cases eyz : y = z
              · rw [if_pos eyz, if_pos eyz.symm]; exact ⟨rfl, hu.err 1 (by decide)⟩
              · rw [if_neg eyz, if_neg (show ¬ z = y from fun e => eyz e.symm)]
                obtain ⟨-, hzn⟩ := hX.idx c4
                have az := (hX.at (fun r hr => (hu.z (by decide) r hr).1) hzn)
                rw [l7, lw_widens_c ay az, lw_ends_c ay az]
                split
                · exact ⟨rfl, hu⟩
                · exact ⟨rfl, hu⟩
  · unfold d_does
    repeat' split
    all_goals first
      | exact rx_c hq
      | rfl
theorem call_count (l : Launch) {kd : am_kd} {rv : am_rv} {iv : am_iv} (h : REL kd rv iv iv) (x : Int32) : CALL l kd rv iv mX11_count mX12_count [am_I x] := by
  obtain ⟨n, nl, ln, lk, z0, y0, z1, y1, zt, zw, hX⟩ := h.n
  have hn := hX.1.1.1
  have hn8 := hX.1.1.2.2
  have hl := hX.laws
  refine CALL.ff (d2 := 3) h (c_count x n) (d_count x n) (p_count l h.S x n hn hn8) (fun q k hq => ?_) (fun h1 eu => ?_) (by decide) (by decide) (fun u hu eu => ?_) (fun u q k hq => ?_)
  · unfold c_count
    repeat' split
    all_goals first
      | exact er_u hq
      | rfl
  · have hX := hX.u eu
    exact q_count l h1.R x n hX.1.1.2.1 hn8 (fun r hr => hX.rokr hr)
  · have hX := hX.u eu
    obtain ⟨st, -, t1, t2, -⟩ := hu.2.1.2.1
    unfold c_count d_count
    by_cases e0 : x = 0
    · rw [if_pos e0, if_pos e0]; exact ⟨hX.2.2.1.2.2.2.1, hu⟩
    rw [if_neg e0, if_neg e0]
    by_cases e1 : x = 1
    · rw [if_pos e1, if_pos e1]; exact ⟨hX.1.1.1.trans hX.1.1.2.1.symm, hu⟩
    rw [if_neg e1, if_neg e1]
    by_cases e2 : x = 2
    · rw [if_pos e2, if_pos e2]; exact ⟨rm_count_c n (fun k hk => (hX.at (fun r hr => (hu.z (by decide) r hr).1) hk)), hu⟩
    rw [if_neg e2, if_neg e2]
    by_cases e3 : x = 3
    · rw [if_pos e3, if_pos e3]; exact ⟨hX.2.1.1.trans hX.2.1.2.1.symm, hu⟩
    rw [if_neg e3, if_neg e3]
    by_cases e4 : x = 4
    · rw [if_pos e4, if_pos e4]; exact ⟨hX.2.2.1.2.2.1.1, hu⟩
    rw [if_neg e4, if_neg e4]
    by_cases e5 : x = 5
    · rw [if_pos e5, if_pos e5]; exact ⟨hX.2.2.2.2.1.1.trans hX.2.2.2.2.1.2.1.symm, hu⟩
    rw [if_neg e5, if_neg e5]
    by_cases e6 : x = 6
    · rw [if_pos e6, if_pos e6]; exact ⟨hX.2.2.2.2.2.1.trans hX.2.2.2.2.2.2.1.symm, hu⟩
    rw [if_neg e6, if_neg e6]
    by_cases e7 : x = 7
    · rw [if_pos e7, if_pos e7]; exact ⟨t1.trans t2.symm, hu⟩
    rw [if_neg e7, if_neg e7]
    by_cases e8 : x = 8
    · rw [if_pos e8, if_pos e8]; exact ⟨hX.2.2.1.2.2.2.2, hu⟩
    rw [if_neg e8, if_neg e8]
    exact ⟨rfl, hu.err 1 (by decide)⟩
  · unfold d_count
    repeat' split
    all_goals first
      | exact rx_c hq
      | rfl
theorem call_trace (l : Launch) {kd : am_kd} {rv : am_rv} {iv : am_iv} (h : REL kd rv iv iv) (x : Int32) : CALL l kd rv iv mX11_trace mX12_trace [am_I x] := by
  refine CALL.ff (d2 := 2) h (c_trace x) (d_trace x) (by obtain ⟨st, t0, t1, t2, t3⟩ := h.2.1.2.1; exact p_trace l h.S x st t1 t0) (fun q k hq => ?_) (fun h1 eu => ?_) (by decide) (by decide) (fun u hu eu => ?_) (fun u q k hq => ?_)
  · unfold c_trace
    repeat' split
    all_goals first
      | exact er_u hq
      | rfl
  · obtain ⟨st, t0, t1, t2, t3⟩ := h1.2.1.2.1
    exact q_trace l h1.R x st t2 t0
  · obtain ⟨st, t0, t1, t2, t3⟩ := hu.2.1.2.1
    unfold c_trace d_trace
    rw [t1, t2, ← sr_b_c (has_isk (by omega) x)]
    by_cases c : sr_b (0 ≤ x ∧ x < nI st) = 0
    · rw [if_pos c, if_pos c]; exact ⟨rfl, hu.err 2 (by decide)⟩
    · rw [if_neg c, if_neg c]
      have hx := (sr_b_1 _).mp c
      exact ⟨t3 _ (nI_cl_lt hx.1 hx.2 (by omega)), hu⟩
  · unfold d_trace
    repeat' split
    all_goals first
      | exact rx_c hq
      | rfl
