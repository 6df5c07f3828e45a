/-- a call on both sides: the same answer, and the relation again -/
def CALL (l : Launch) (kd : am_kd) (rv : am_rv) (iv : am_iv) (mc mr : am_M) (args : List am_V) : Prop := ∃ (a : Int32) (d1 d2 : Nat) (rv1 : am_rv) (iv1 iv2 : am_iv), d1 ≤ 60 ∧ d2 ≤ 60 ∧ am_Met l mc (am_rm d1 0 0) (am_P (1, 0, 0) :: args) kd rv iv (am_ret (some (am_I a)) kd rv1 iv1) ∧ am_Met l mr (am_rm d2 0 0) (am_P (30, 0, 0) :: args) kd rv1 iv1 (am_ret (some (am_I a)) kd rv1 iv2) ∧ REL kd rv1 iv2 iv2
theorem CALL.of {l : Launch} {kd : am_kd} {rv rv1 : am_rv} {iv iv1 iv2 : am_iv} {mc mr : am_M} {args : List am_V} {a a' : Int32} {d1 d2 : Nat} (hc : am_Met l mc (am_rm d1 0 0) (am_P (1, 0, 0) :: args) kd rv iv (am_ret (some (am_I a)) kd rv1 iv1)) (hr : am_Met l mr (am_rm d2 0 0) (am_P (30, 0, 0) :: args) kd rv1 iv1 (am_ret (some (am_I a')) kd rv1 iv2)) (b1 : d1 ≤ 60) (b2 : d2 ≤ 60) (e : a = a') (hrel : REL kd rv1 iv1 iv2) (hf : ∀ q k, cN q → iv2 q k = iv1 q k) : CALL l kd rv iv mc mr args := by
  subst e
  exact ⟨a, d1, d2, rv1, iv1, iv2, b1, b2, hc, hr, hrel.same (fun q k h => hf q k h) (fun _ _ _ => rfl)⟩
/-- with functions of the heaps -/
theorem CALL.ff {l : Launch} {kd : am_kd} {rv : am_rv} {iv : am_iv} {mc mr : am_M} {args : List am_V} {d1 d2 : Nat} (h : REL kd rv iv iv) (C R : am_iv → Int32 × am_iv) (hc : am_Met l mc (am_rm d1 0 0) (am_P (1, 0, 0) :: args) kd rv iv (am_ret (some (am_I (C iv).1)) kd rv (C iv).2)) (fc : ∀ q k, uN q → (C iv).2 q k = iv q k) (hr : REL kd rv iv (C iv).2 → (∀ q k, uN q → (C iv).2 q k = iv q k) → am_Met l mr (am_rm d2 0 0) (am_P (30, 0, 0) :: args) kd rv (C iv).2 (am_ret (some (am_I (R (C iv).2).1)) kd rv (R (C iv).2).2)) (b1 : d1 ≤ 60) (b2 : d2 ≤ 60) (hp : ∀ u, REL kd rv iv u → (∀ q k, uN q → u q k = iv q k) → (C iv).1 = (R u).1 ∧ REL kd rv (C iv).2 (R u).2) (fr : ∀ u q k, cN q → (R u).2 q k = u q k) : CALL l kd rv iv mc mr args := by
  have h1 : REL kd rv iv (C iv).2 := h.same (fun _ _ _ => rfl) fc
  obtain ⟨e, h2⟩ := hp _ h1 fc
  exact CALL.of hc (hr h1 fc) b1 b2 e h2 (fr _)
theorem ui_u {iv : am_iv} {n q : am_N} {k j : Nat} {v : Int32} (hq : uN q) (hn : n.1 ≤ 22) : am_ui iv n k v q j = iv q j := am_ui_o (fun e => by subst e; unfold uN at hq; omega)
theorem ui_c {iv : am_iv} {n q : am_N} {k j : Nat} {v : Int32} (hq : cN q) (hn : 30 ≤ n.1) : am_ui iv n k v q j = iv q j := am_ui_o (fun e => by subst e; unfold cN at hq; omega)
theorem er_u {iv : am_iv} {q : am_N} {k j : Nat} (hq : uN q) : er_heap j iv q k = iv q k := ui_u hq (by simp)
theorem rx_c {iv : am_iv} {q : am_N} {k j : Nat} (hq : cN q) : rx_find j iv q k = iv q k := ui_c hq (by simp)
theorem chg.u {i : Nat} {w w' : am_iv} (h : chg i w w') {q : am_N} {k : Nat} (hq : uN q) : w' q k = w q k := h q k (Or.inl (fun e => by unfold uN at hq; have := e.2.1; omega))
/-- room 0 alone changed in the class -/
theorem REL.chg0 {kd : am_kd} {rv : am_rv} {w u w' u' : am_iv} (h : REL kd rv w u) (hw : chg 0 w w') (hu : ∀ q k, (dU q k ∨ q = (31, 4, 0)) → u' q k = u q k) (h0 : rR kd rv 0 0 w' u') : REL kd rv w' u' := by
  refine h.upd0 (fun q k z => hw q k ?_) hu h0
  rcases z with z | z | z
  · left; intro e; unfold dG at z; have := e.2.1; have := e.1; omega
  · left; intro e; unfold dR at z; have e1 := e.2.2; have e2 := e.2.1; rcases z with z | z <;> omega
  · exact Or.inr z
/-- rooms to try things in changed -/
theorem REL.chgT {kd : am_kd} {rv : am_rv} {w u w' u' : am_iv} {i : Nat} (hi : i = 1 ∨ i = 2) (h : REL kd rv w u) (hw : chg i w w') (hu : ∀ q k, (dU q k ∨ q = (31, 4, 0) ∨ q = (31, 0, 0)) → u' q k = u q k) : REL kd rv w' u' := by
  refine h.congr (fun q k z => hw q k ?_) hu
  rcases z with z | z | z | z
  · left; intro e; unfold dG at z; have := e.2.1; have := e.1; omega
  · left; intro e; unfold dR at z; have e1 := e.2.2; have e2 := e.2.1; rcases z with z | z <;> omega
  · left; intro e; unfold dR at z; have e1 := e.2.2; have e2 := e.2.1; rcases z with z | z <;> omega
  · exact Or.inr z
theorem dU_ne {q : am_N} {k : Nat} (h : dU q k ∨ q = (31, 4, 0)) : q ≠ (31, 0, 0) ∧ q ≠ (31, 1, 0) ∧ q ≠ (31, 2, 0) ∧ q ≠ (31, 3, 0) ∧ q ≠ (31, 13, 0) ∧ q ≠ (31, 20, 0) := by
  rcases h with (e | e | e | e | e | ⟨e, -⟩) | e <;> (subst e; simp)
/-- parts of rX that stay -/
theorem rX.fields {kd : am_kd} {rv : am_rv} {n nl : Nat} {ln : Nat → am_N} {lk : Nat → Nat} {z0 y0 z1 y1 zt zw : Nat} {w u w' u' : am_iv} (h : rX kd rv 0 0 n nl ln lk z0 y0 z1 y1 zt zw w u) (hw : ∀ q k, ¬ (q = (2, 0, 0) ∧ 5 ≤ k) → w' q k = w q k) (hu : ∀ k, k ≠ 0 → k ≠ 3 → k ≠ 4 → k ≠ 5 → k ≠ 6 → u' (31, 0, 0) k = u (31, 0, 0) k) (hf : rR_f 0 0 w' u') : rX kd rv 0 0 n nl ln lk z0 y0 z1 y1 zt zw w' u' := by
  obtain ⟨⟨⟨a1, a2, a3⟩, b1, b2⟩, ⟨c1, c2, c3, c4⟩, -, ⟨⟨e1, e2, e3, e4, e5⟩, f1, f2, f3, f4, f5⟩, ⟨g1, g2, g3, g4⟩, h1, h2, h3, h4⟩ := h
  have q4 : ∀ r k, w' (4, 0, r) k = w (4, 0, r) k := fun r k => hw _ _ (by simp)
  refine ⟨⟨⟨(hw _ _ (by simp)).trans a1, (hu 1 (by decide) (by decide) (by decide) (by decide) (by decide)).trans a2, a3⟩, fun r hr k q1 q7 => by rw [q4, hu _ (by omega) (by omega) (by omega) (by omega) (by omega)]; exact b1 r hr k q1 q7, fun r hr => rok_f (b2 r hr) (fun k _ _ => q4 r k)⟩, ⟨(hw _ _ (by simp)).trans c1, (hu 2 (by decide) (by decide) (by decide) (by decide) (by decide)).trans c2, c3, fun j hj => ?_⟩, hf, ⟨⟨(hw _ _ (by simp)).trans e1, e2, (hu _ (by decide) (by decide) (by decide) (by decide) (by decide)).trans e3, e4, e5.c (fun k _ => hw _ _ (by simp)) (fun p _ => hu _ (by omega) (by omega) (by omega) (by omega) (by omega))⟩, ⟨(hw _ _ (by simp)).trans f1, f2, (hu _ (by decide) (by decide) (by decide) (by decide) (by decide)).trans f3, f4, f5.c (fun k _ => hw _ _ (by simp)) (fun p _ => hu _ (by omega) (by omega) (by omega) (by omega) (by omega))⟩⟩, ⟨(hw _ _ (by simp)).trans g1, (hu 7 (by decide) (by decide) (by decide) (by decide) (by decide)).trans g2, g3, fun k hk => by rw [hw _ _ (by simp), hu _ (by omega) (by omega) (by omega) (by omega) (by omega)]; exact g4 k hk⟩, ⟨(hw _ _ (by simp)).trans h1, (hu 8 (by decide) (by decide) (by decide) (by decide) (by decide)).trans h2, h3, fun k hk => by rw [hw _ _ (by simp), hu _ (by omega) (by omega) (by omega) (by omega) (by omega)]; exact h4 k hk⟩⟩
  obtain ⟨l0, l5, l6, l7, l8⟩ := c4 j hj
  have el : ∀ k, w' (ln j) k = w (ln j) k := fun k => hw _ _ (fun e => by have := l0.2.2.2; rw [e.1] at this; simp at this)
  exact ⟨l0, by rw [el]; exact l5, by rw [el]; exact l6, by rw [el, hu _ (by omega) (by omega) (by omega) (by omega) (by omega)]; exact l7, by rw [hu _ (by omega) (by omega) (by omega) (by omega) (by omega)]; exact l8⟩
theorem toInt_bd {x a b : Int32} (h : a ≤ x ∧ x ≤ b) : a.toInt ≤ x.toInt ∧ x.toInt ≤ b.toInt := ⟨Int32.le_iff_toInt_le.mp h.1, Int32.le_iff_toInt_le.mp h.2⟩
theorem REL.f0 {kd : am_kd} {rv : am_rv} {w u : am_iv} (h : REL kd rv w u) (ci ri : Nat) (x : Int32) (hci : 5 ≤ ci) (hri : ri = 0 ∨ ri = 3 ∨ ri = 4 ∨ ri = 5 ∨ ri = 6) (hf : rR_f 0 0 (am_ui w (2, 0, 0) ci x) (am_ui u (31, 0, 0) ri x)) : REL kd rv (am_ui w (2, 0, 0) ci x) (am_ui u (31, 0, 0) ri x) := by
  obtain ⟨n, nl, ln, lk, z0, y0, z1, y1, zt, zw, hx⟩ := h.2.2.1.x
  exact h.chg0 chg.u2 (fun q k z => am_ui_o (dU_ne z).1) (hx.fields (fun q k e => am_ui_n (fun z => e ⟨z.1, by omega⟩)) (fun k _ _ _ _ _ => am_ui_n (by simp; omega)) hf).r
theorem call_wall (l : Launch) {kd : am_kd} {rv : am_rv} {iv : am_iv} (h : REL kd rv iv iv) (x : Int32) : CALL l kd rv iv mX11_wall mX12_wall [am_I x] := by
  refine CALL.ff h (c_wall x) (d_wall x) (p_wall l h.S x) (fun q k hq => ?_) (fun h1 _ => q_wall l h1.R x) (by decide) (by decide) (fun u hu _ => ?_) (fun u q k hq => ?_)
  · unfold c_wall
    split
    · exact er_u hq
    · exact ui_u hq (by simp)
  · unfold c_wall d_wall
    by_cases c : sr_b (-99999 ≤ x ∧ x ≤ 99999) = 0
    · rw [if_pos c, if_pos c]; exact ⟨rfl, hu.err 1 (by decide)⟩
    · rw [if_neg c, if_neg c]
      obtain ⟨f1, ⟨f2, f3, f4⟩, ⟨f5, f6, f7⟩, f8, f9⟩ := hu.2.2.1.2.2.1
      exact ⟨f2, hu.f0 6 4 x (by decide) (by decide) ⟨(by rw [am_ui_n (by simp), am_ui_n (by simp)]; exact f1), ⟨(by rw [am_ui_s, am_ui_s]), by rw [am_ui_s]; exact (toInt_bd ((sr_b_1 _).mp c)).1, by rw [am_ui_s]; exact (toInt_bd ((sr_b_1 _).mp c)).2⟩, ⟨(by rw [am_ui_n (by simp), am_ui_n (by simp)]; exact f5), (by rw [am_ui_n (by simp)]; exact f6), (by rw [am_ui_n (by simp)]; exact f7)⟩, (by rw [am_ui_n (by simp), am_ui_n (by simp)]; exact f8), (by rw [am_ui_n (by simp), am_ui_n (by simp)]; exact f9)⟩⟩
  · unfold d_wall
    split
    · exact rx_c hq
    · exact ui_c hq (by simp)
theorem call_hole (l : Launch) {kd : am_kd} {rv : am_rv} {iv : am_iv} (h : REL kd rv iv iv) (x : Int32) : CALL l kd rv iv mX11_hole mX12_hole [am_I x] := by
  refine CALL.ff h (c_hole x) (d_hole x) (p_hole l h.S x) (fun q k hq => ?_) (fun h1 _ => q_hole l h1.R x) (by decide) (by decide) (fun u hu _ => ?_) (fun u q k hq => ?_)
  · unfold c_hole
    split
    · exact er_u hq
    · exact ui_u hq (by simp)
  · unfold c_hole d_hole
    by_cases c : sr_b (1 ≤ x ∧ x ≤ 50) = 0
    · rw [if_pos c, if_pos c]; exact ⟨rfl, hu.err 1 (by decide)⟩
    · rw [if_neg c, if_neg c]
      obtain ⟨f1, ⟨f2, f3, f4⟩, ⟨f5, f6, f7⟩, f8, f9⟩ := hu.2.2.1.2.2.1
      exact ⟨f5, hu.f0 7 5 x (by decide) (by decide) ⟨(by rw [am_ui_n (by simp), am_ui_n (by simp)]; exact f1), ⟨(by rw [am_ui_n (by simp), am_ui_n (by simp)]; exact f2), (by rw [am_ui_n (by simp)]; exact f3), (by rw [am_ui_n (by simp)]; exact f4)⟩, ⟨(by rw [am_ui_s, am_ui_s]), by rw [am_ui_s]; exact (toInt_bd ((sr_b_1 _).mp c)).1, by rw [am_ui_s]; exact (toInt_bd ((sr_b_1 _).mp c)).2⟩, (by rw [am_ui_n (by simp), am_ui_n (by simp)]; exact f8), (by rw [am_ui_n (by simp), am_ui_n (by simp)]; exact f9)⟩⟩
  · unfold d_hole
    split
    · exact rx_c hq
    · exact ui_c hq (by simp)
theorem call_seed (l : Launch) {kd : am_kd} {rv : am_rv} {iv : am_iv} (h : REL kd rv iv iv) (x : Int32) : CALL l kd rv iv mX11_seed mX12_seed [am_I x] := by
  refine CALL.ff h (c_seed x) (d_seed x) (p_seed l h.S x) (fun q k hq => ?_) (fun h1 _ => q_seed l h1.R x) (by decide) (by decide) (fun u hu _ => ?_) (fun u q k hq => ?_)
  · unfold c_seed
    exact ui_u hq (by simp)
  · unfold c_seed d_seed
    obtain ⟨f1, ⟨f2, f3, f4⟩, ⟨f5, f6, f7⟩, f8, f9⟩ := hu.2.2.1.2.2.1
    exact ⟨f9, hu.f0 9 6 x (by decide) (by decide) ⟨(by rw [am_ui_n (by simp), am_ui_n (by simp)]; exact f1), ⟨(by rw [am_ui_n (by simp), am_ui_n (by simp)]; exact f2), (by rw [am_ui_n (by simp)]; exact f3), (by rw [am_ui_n (by simp)]; exact f4)⟩, ⟨(by rw [am_ui_n (by simp), am_ui_n (by simp)]; exact f5), (by rw [am_ui_n (by simp)]; exact f6), (by rw [am_ui_n (by simp)]; exact f7)⟩, (by rw [am_ui_n (by simp), am_ui_n (by simp)]; exact f8), (by rw [am_ui_s, am_ui_s])⟩⟩
  · unfold d_seed
    exact ui_c hq (by simp)
theorem REL.n {kd : am_kd} {rv : am_rv} {w u : am_iv} (h : REL kd rv w u) : ∃ n nl ln lk z0 y0 z1 y1 zt zw, rX kd rv 0 0 n nl ln lk z0 y0 z1 y1 zt zw w u := h.2.2.1.x
theorem call_trails (l : Launch) {kd : am_kd} {rv : am_rv} {iv : am_iv} (h : REL kd rv iv iv) (x : Int32) : CALL l kd rv iv mX11_trails mX12_trails [am_I x] := by
  refine CALL.ff h (c_trails x) (d_trails x) (p_trails l h.S x) (fun q k hq => ?_) (fun h1 _ => q_trails l h1.R x) (by decide) (by decide) (fun u hu _ => ?_) (fun u q k hq => ?_)
  · unfold c_trails
    split
    · exact er_u hq
    · rfl
  · unfold c_trails d_trails
    by_cases c : sr_b (1 ≤ x ∧ x ≤ 400) = 0
    · rw [if_pos c, if_pos c]; exact ⟨rfl, hu.err 1 (by decide)⟩
    · rw [if_neg c, if_neg c]
      obtain ⟨f5, f6, f7⟩ := hu.2.2.1.2.2.1.2.2.1
      have b := toInt_bd ((sr_b_1 _).mp c)
      have e1 : (1 : Int32).toInt = 1 := by decide
      have e4 : (400 : Int32).toInt = 400 := by decide
      have em : (4 * iv (2, 0, 0) 7).toInt = 4 * (iv (2, 0, 0) 7).toInt := by
        rw [Int32.toInt_mul, show (4 : Int32).toInt = 4 by decide]
        exact fb_bmod (by omega) (by omega)
      have es : (x - 4 * iv (2, 0, 0) 7).toInt = x.toInt - 4 * (iv (2, 0, 0) 7).toInt := by
        rw [ix_sub (by rw [em]; omega) (by rw [em]; omega), em]
      refine ⟨?_, hu⟩
      simp only
      rw [← f5]
      by_cases g : x ≤ 4 * iv (2, 0, 0) 7
      · rw [if_pos g, if_neg]
        intro z
        have z1 := Int32.lt_iff_toInt_lt.mp z
        have g1 := Int32.le_iff_toInt_le.mp g
        rw [es] at z1
        rw [em] at g1
        have : (0 : Int32).toInt = 0 := by decide
        omega
      · rw [if_neg g, if_pos]
        have g1 := Int32.lt_iff_toInt_lt.mp (Int32.not_le.mp g)
        rw [em] at g1
        apply Int32.lt_iff_toInt_lt.mpr
        rw [es]
        have : (0 : Int32).toInt = 0 := by decide
        omega
  · unfold d_trails
    split
    · exact rx_c hq
    · rfl
theorem call_told (l : Launch) {kd : am_kd} {rv : am_rv} {iv : am_iv} (h : REL kd rv iv iv) (x : Int32) : CALL l kd rv iv mX11_told mX12_told [am_I x] := by
  refine CALL.ff h (c_told x) (d_told x) (p_told l h.S x) (fun q k hq => ?_) (fun h1 _ => q_told l h1.R x) (by decide) (by decide) (fun u hu _ => ?_) (fun u q k hq => ?_)
  · unfold c_told
    split
    · exact er_u hq
    · rfl
  · unfold c_told d_told
    by_cases c : sr_b (1 ≤ x ∧ x ≤ 5) = 0
    · rw [if_pos c, if_pos c]; exact ⟨rfl, hu.err 1 (by decide)⟩
    · rw [if_neg c, if_neg c]
      have hx := (sr_b_1 _).mp c
      exact ⟨hu.2.1.2.2.1 _ (Nat.lt_of_le_of_lt (nI_cl_le (n := 5) (Int32.le_trans (by decide) hx.1) hx.2 (by decide)) (by decide)), hu⟩
  · unfold d_told
    split
    · exact rx_c hq
    · rfl
