theorem am_cpy_v {w : am_iv} {b a : am_N} {x y s k : Nat} : am_cpy w b a x y s a k = if y ≤ k ∧ k < y + s then w b (x + (k - y)) else w a k := by
  unfold am_cpy
  rw [if_pos rfl]
  rfl
theorem move_rel {kd : am_kd} {rv : am_rv} {w u : am_iv} (h : REL kd rv w u) {a b i j m sa sb : Nat} (ha : a < 4) (hb : b < 4) (h1 : i + m ≤ sa) (h2 : j + m ≤ sb) (hsa : w (17, a, 0) 1 = nI sa ∧ sa ≤ 40) (hsb : w (17, b, 0) 1 = nI sb ∧ sb ≤ 40) : REL kd rv (am_cpy w (18, a, 0) (18, b, 0) i j m) (mv_2 (40 * b + j) (mv_1 (40 * a + i) u m) m) := by
  have e1 : ∀ q k, q ≠ (31, 20, 0) → mv_1 (40 * a + i) u m q k = u q k := fun q k hq => by unfold mv_1; rw [if_neg (fun e => hq e.1)]
  refine h.sh (fun q k h1 h2 => am_cpy_o (fun e => by subst e; simp at h2)) (fun q k _ _ h3 h4 => by unfold mv_2; rw [if_neg (fun e => h3 e.1), e1 q k h4]) (fun t ht => ?_)
  obtain ⟨a1, z, a2, a3, a4, a5⟩ := h.2.1.1 t ht
  refine ⟨?_, z, a2, ?_, ?_, fun k hk => ?_⟩
  · rw [am_cpy_o (by simp)]; unfold mv_2; rw [if_neg (by simp), e1 _ _ (by simp)]; exact a1
  · rw [am_cpy_o (by simp)]; exact a3
  · unfold mv_2; rw [if_neg (by simp), e1 _ _ (by simp)]; exact a4
  · by_cases e : t = b
    · subst e
      rw [am_cpy_v]
      unfold mv_2
      by_cases c : j ≤ k ∧ k < j + m
      · rw [if_pos c, if_pos ⟨rfl, by omega, by omega⟩]
        unfold mv_1
        rw [if_pos ⟨rfl, by omega⟩]
        obtain ⟨-, z', b2, b3, b4, b5⟩ := h.2.1.1 a ha
        have ez : z' = sa := (nI_lit (by omega) (by omega)).mp (b3.symm.trans hsa.1)
        rw [b5 _ (by omega)]
        congr 1
        omega
      · rw [if_neg c, if_neg (fun q => c (by omega)), e1 _ _ (by simp)]
        exact a5 k hk
    · rw [am_cpy_o (by simp [e])]
      unfold mv_2
      rw [if_neg (fun q => by have := q.2; omega), e1 _ _ (by simp)]
      exact a5 k hk
theorem call_move (l : Launch) {kd : am_kd} {rv : am_rv} {iv : am_iv} (h : REL kd rv iv iv) (x : Int32) (y : Int32) (z : Int32) (v : Int32) (m : Int32) : CALL l kd rv iv mX11_move mX12_move [am_I x, am_I y, am_I z, am_I v, am_I m] := by
  obtain ⟨sz, hsz⟩ := h.2.1.1.f
  refine CALL.ff (d2 := 2) h (c_move x y z v m) (d_move x y z v m) (p_move l h.S x y z v m sz (fun s hs => ⟨(hsz s hs).2.2.1, (hsz s hs).2.1⟩)) (fun q k hq => ?_) (fun h1 eu => ?_) (by decide) (by decide) (fun u hu eu => ?_) (fun u q k hq => ?_)
  · unfold c_move
    repeat' split
    all_goals first
      | exact er_u hq
      | exact am_cpy_o (fun e => by subst e; unfold uN at hq; simp at hq)
  · exact q_move l h1.R x y z v m sz (fun s hs => ⟨(eu _ _ (Or.inr rfl)).trans (hsz s hs).2.2.2.1, (hsz s hs).2.1⟩)
  · unfold c_move d_move
    by_cases c0 : sr_b (0 ≤ x ∧ x ≤ 3) = 0
    · rw [if_pos c0, if_pos c0]; exact ⟨rfl, hu.err 1 (by decide)⟩
    rw [if_neg c0, if_neg c0]
    by_cases c1 : sr_b (0 ≤ z ∧ z ≤ 3) = 0
    · rw [if_pos c1, if_pos c1]; exact ⟨rfl, hu.err 1 (by decide)⟩
    rw [if_neg c1, if_neg c1]
    have hx := (sr_b_1 _).mp c0
    have hz := (sr_b_1 _).mp c1
    have hx4 : x.toNatClampNeg < 4 := Nat.lt_of_le_of_lt (nI_cl_le (n := 3) hx.1 hx.2 (by decide)) (by decide)
    have hz4 : z.toNatClampNeg < 4 := Nat.lt_of_le_of_lt (nI_cl_le (n := 3) hz.1 hz.2 (by decide)) (by decide)
    obtain ⟨b1, b2, b3, b4, b5⟩ := hsz _ hx4
    obtain ⟨d1, d2, d3, d4, d5⟩ := hsz _ hz4
    have f17 : ∀ k, u (31, 17, 0) k = iv (31, 17, 0) k := fun k => eu _ _ (Or.inr rfl)
    have f18 : ∀ k, u (31, 18, 0) k = iv (31, 18, 0) k := fun k => eu _ _ (Or.inr rfl)
    rw [f17, f17, f18, f18, ← b1, ← d1, b3, d3, b4, d4]
    by_cases cb : iv (17, x.toNatClampNeg, 0) 2 = 0
    · rw [if_neg (fun z => (sr_b_0 _).mp z cb), if_pos cb]; exact ⟨rfl, hu.err 2 (by decide)⟩
    rw [if_pos ((sr_b_0 _).mpr cb), if_neg cb]
    by_cases cd : iv (17, z.toNatClampNeg, 0) 2 = 0
    · rw [if_neg (fun z => (sr_b_0 _).mp z cd), if_pos cd]; exact ⟨rfl, hu.err 2 (by decide)⟩
    rw [if_pos ((sr_b_0 _).mpr cd), if_neg cd]
    by_cases ce : iv (17, x.toNatClampNeg, 0) 2 = iv (17, z.toNatClampNeg, 0) 2
    · rw [if_pos ce, if_pos ce]
      by_cases G : (0 ≤ y ∧ 0 ≤ m ∧ y ≤ nI (sz x.toNatClampNeg) ∧ m ≤ nI (sz x.toNatClampNeg) - y) ∧ (0 ≤ v ∧ 0 ≤ m ∧ v ≤ nI (sz z.toNatClampNeg) ∧ m ≤ nI (sz z.toNatClampNeg) - v)
      · rw [if_neg ((sr_b_1 _).mpr G.1), if_neg ((sr_b_1 _).mpr G.2), if_neg (Int32.not_lt.mpr G.1.2.1), if_neg (Int32.not_lt.mpr G.1.1), if_neg (Int32.not_lt.mpr G.2.1), if_neg (Int32.not_lt.mpr G.1.2.2.2), if_pos G.2.2.2.2]
        exact ⟨rfl, move_rel hu hx4 hz4 (std_ok b2 G.1) (std_ok d2 G.2) ⟨b3, b2⟩ ⟨d3, d2⟩⟩
      · have eC : ∀ g : Int32 × am_iv, (if sr_b (0 ≤ y ∧ 0 ≤ m ∧ y ≤ nI (sz x.toNatClampNeg) ∧ m ≤ nI (sz x.toNatClampNeg) - y) = 0 then (-1000000001, er_heap 1 iv) else if sr_b (0 ≤ v ∧ 0 ≤ m ∧ v ≤ nI (sz z.toNatClampNeg) ∧ m ≤ nI (sz z.toNatClampNeg) - v) = 0 then (-1000000001, er_heap 1 iv) else g) = (-1000000001, er_heap 1 iv) := fun g => by
          by_cases q1 : sr_b (0 ≤ y ∧ 0 ≤ m ∧ y ≤ nI (sz x.toNatClampNeg) ∧ m ≤ nI (sz x.toNatClampNeg) - y) = 0
          · rw [if_pos q1]
          · rw [if_neg q1]
            by_cases q2 : sr_b (0 ≤ v ∧ 0 ≤ m ∧ v ≤ nI (sz z.toNatClampNeg) ∧ m ≤ nI (sz z.toNatClampNeg) - v) = 0
            · rw [if_pos q2]
            · exact absurd ⟨(sr_b_1 _).mp q1, (sr_b_1 _).mp q2⟩ G
        rw [eC]
        by_cases q1 : m < 0
        · rw [if_pos q1]; exact ⟨rfl, hu.err 1 (by decide)⟩
        rw [if_neg q1]
        by_cases q2 : y < 0
        · rw [if_pos q2]; exact ⟨rfl, hu.err 1 (by decide)⟩
        rw [if_neg q2]
        by_cases q3 : v < 0
        · rw [if_pos q3]; exact ⟨rfl, hu.err 1 (by decide)⟩
        rw [if_neg q3]
        by_cases q4 : nI (sz x.toNatClampNeg) - y < m
        · rw [if_pos q4]; exact ⟨rfl, hu.err 1 (by decide)⟩
        rw [if_neg q4]
        by_cases q5 : m ≤ nI (sz z.toNatClampNeg) - v
        · exact absurd ⟨std_ok2 b2 (Int32.not_lt.mp q2) (Int32.not_lt.mp q1) (Int32.not_lt.mp q4), std_ok2 d2 (Int32.not_lt.mp q3) (Int32.not_lt.mp q1) q5⟩ G
        · rw [if_neg q5]; exact ⟨rfl, hu.err 1 (by decide)⟩
    · rw [if_neg ce, if_neg ce]; exact ⟨rfl, hu.err 5 (by decide)⟩
  · have hb : ∀ a b c d : Nat, mv_2 a (mv_1 b u c) d q k = u q k := fun a b c d => by
      unfold mv_2 mv_1
      have n1 : q ≠ (31, 19, 0) := fun e => by subst e; unfold cN at hq; simp at hq
      have n2 : q ≠ (31, 20, 0) := fun e => by subst e; unfold cN at hq; simp at hq
      rw [if_neg (fun e => n1 e.1), if_neg (fun e => n2 e.1)]
    unfold d_move
    repeat' split
    all_goals first
      | exact rx_c hq
      | exact hb _ _ _ _
theorem vo_goes_c {K : Nat} {f g : Nat → Int32} (h1 : f 1 = g 1) (x : Int32) : vo_goes K f x = vo_goes K g x := by unfold vo_goes; rw [h1]
theorem vo_ends_c {K : Nat} {f g : Nat → Int32} (h2 : f 2 = g 2) (x : Int32) : vo_ends K f x = vo_ends K g x := by unfold vo_ends; rw [h2]
theorem vo_m0_c {K : Nat} {f g : Nat → Int32} (h1 : f 1 = g 1) (x : Int32) : vo_m0 K f x = vo_m0 K g x := by unfold vo_m0; rw [vo_goes_c h1]
theorem vo_moves_c {K : Nat} {f g : Nat → Int32} (h1 : f 1 = g 1) (h2 : f 2 = g 2) (x : Int32) : vo_moves K f x = vo_moves K g x := by unfold vo_moves; rw [vo_m0_c h1, vo_ends_c h2, h1]
theorem vo_t0_c {K : Nat} {f g : Nat → Int32} (h1 : f 1 = g 1) (h2 : f 2 = g 2) (x : Int32) : vo_t0 K f x = vo_t0 K g x := by unfold vo_t0; rw [vo_moves_c h1 h2, vo_ends_c h2]
theorem vo_tells_c {K : Nat} {f g : Nat → Int32} (h1 : f 1 = g 1) (h2 : f 2 = g 2) (x : Int32) : vo_tells K f x = vo_tells K g x := by unfold vo_tells; rw [vo_t0_c h1 h2, vo_goes_c h1, vo_moves_c h1 h2]
theorem rwA_o {t ta q : am_N} {z k : Nat} {c : Int32} {iv : am_iv} (h1 : q ≠ ta) (h2 : q ≠ t) : rw_A t ta z c iv q k = iv q k := rw_add_o h1 h2
theorem rwL_o {t ta q : am_N} {z k : Nat} (h1 : q ≠ ta) (h2 : q ≠ t) (cs : List Int32) : ∀ iv : am_iv, rw_L t ta z cs iv q k = iv q k := by
  induction cs with
  | nil => intro iv; rfl
  | cons c cs ih => intro iv; exact (ih _).trans (rwA_o h1 h2)
theorem rrL_o {q : am_N} {k : Nat} (h1 : q ≠ (31, 14, 0)) (h2 : ¬ (q = (30, 0, 0) ∧ k = 15)) (cs : List Int32) : ∀ iv : am_iv, rr_L cs iv q k = iv q k := by
  induction cs with
  | nil => intro iv; rfl
  | cons c cs ih => intro iv; exact (ih _).trans (rr_A_o h1 h2)
theorem tr_rel (cs : List Int32) : ∀ {w u : am_iv}, gR_t w u → gR_t (rw_L (19, 0, 0) (20, 0, 0) 40 cs w) (rr_L cs u) := by
  induction cs with
  | nil => intro w u h; exact h
  | cons c cs ih =>
    intro w u h
    refine ih ?_
    obtain ⟨st, h1, h2, h3, h4⟩ := h
    have e1 : (w (19, 0, 0) 1).toNatClampNeg = st := by rw [h2]; exact nI_clamp (by omega)
    have e2 : (u (30, 0, 0) 15).toNatClampNeg = st := by rw [h3]; exact nI_clamp (by omega)
    have eA : rw_A (19, 0, 0) (20, 0, 0) 40 c w = rw_add (19, 0, 0) (20, 0, 0) 40 st c w := by unfold rw_A; rw [e1]
    have eB : rr_A c u = rr_add st c u := by unfold rr_A; rw [e2]
    show gR_t (rw_A (19, 0, 0) (20, 0, 0) 40 c w) (rr_A c u)
    rw [eA, eB]
    unfold rw_add rr_add
    by_cases q : st < 40
    · rw [if_pos q, if_pos q]
      refine ⟨st + 1, q, am_ui_s _ _ _ _, am_ui_s _ _ _ _, fun k hk => ?_⟩
      rw [am_ui_o (show ((20, 0, 0) : am_N) ≠ (19, 0, 0) by simp), am_ui_o (show ((31, 14, 0) : am_N) ≠ (30, 0, 0) by simp)]
      by_cases e : k = st
      · subst e; rw [am_ui_s, am_ui_s]
      · rw [am_ui_n (by simp [e]), am_ui_n (by simp [e])]
        exact h4 k (by omega)
    · rw [if_neg q, if_neg q]
      exact ⟨st, h1, h2, h3, h4⟩
theorem REL.tr {kd : am_kd} {rv : am_rv} {w u w' u' : am_iv} (h : REL kd rv w u) (hw : ∀ q k, q.1 ≠ 19 → q.1 ≠ 20 → w' q k = w q k) (hu : ∀ q k, q ≠ (31, 14, 0) → ¬ (q = (30, 0, 0) ∧ (k = 15 ∨ k = 16)) → u' q k = u q k) (ht : gR_t w' u') : REL kd rv w' u' := by
  obtain ⟨hk, ⟨h1, h2, h3, h4, Q, h8⟩, h5, h6, h7⟩ := h
  have rc : ∀ i a, rR kd rv i a w u → a ≠ 14 → rR kd rv i a w' u' := fun i a hr n1 => hr.congr (fun q k z => hw q k (by unfold dR at z; omega) (by unfold dR at z; omega)) (fun k => hu _ _ (by simp [n1]) (by simp))
  refine ⟨hk, ⟨?_, ht, ?_, fun i r hi hr => ?_, Q, fun q hq => ⟨(h8 q hq).1, fun k => ⟨((h8 q hq).2 k).1, (hw _ _ (by simp) (by simp)).trans ((h8 q hq).2 k).2⟩⟩⟩, rc 0 0 h5 (by decide), ?_, fun z => ?_⟩
  · intro s hs
    obtain ⟨a1, sz, a2, a3, a4, a5⟩ := h1 s hs
    exact ⟨by rw [hw _ _ (by simp) (by simp), hu _ _ (by simp) (by simp)]; exact a1, sz, a2, by rw [hw _ _ (by simp) (by simp)]; exact a3, by rw [hu _ _ (by simp) (by simp)]; exact a4, fun k hk => by rw [hw _ _ (by simp) (by simp), hu _ _ (by simp) (by simp)]; exact a5 k hk⟩
  · intro k hk
    rw [hw _ _ (by simp) (by simp), hu _ _ (by simp) (by simp)]
    exact h3 k hk
  · rw [hw _ _ (by simp) (by simp), hw _ _ (by simp) (by simp)]
    exact h4 i r hi hr
  · rw [hw _ _ (by simp) (by simp), hu _ _ (by simp) (by simp)]
    exact h6
  · rw [hw _ _ (by simp) (by simp)] at z
    exact rc 3 4 (h7 z) (by decide)
theorem voice_rel {kd : am_kd} {rv : am_rv} {w u : am_iv} (h : REL kd rv w u) (x : Int32) (cs : List Int32) : REL kd rv (rw_L (19, 0, 0) (20, 0, 0) 40 cs (am_ui w (19, 0, 0) 1 0)) (rr_L cs (am_ui (am_ui u (30, 0, 0) 15 0) (30, 0, 0) 16 x)) := by
  refine h.tr (fun q k h1 h2 => ?_) (fun q k h1 h2 => ?_) (tr_rel cs ⟨0, by decide, am_ui_s _ _ _ _, (am_ui_n (by simp)).trans (am_ui_s _ _ _ _), fun k hk => by omega⟩)
  · rw [rwL_o (fun e => by subst e; simp at h2) (fun e => by subst e; simp at h1), am_ui_o (fun e => by subst e; simp at h1)]
  · rw [rrL_o h1 (fun e => h2 ⟨e.1, Or.inl e.2⟩), am_ui_n (fun e => h2 ⟨e.1, Or.inr e.2⟩), am_ui_n (fun e => h2 ⟨e.1, Or.inl e.2⟩)]
theorem call_voice (l : Launch) {kd : am_kd} {rv : am_rv} {iv : am_iv} (h : REL kd rv iv iv) (x : Int32) (y : Int32) (v : Int32) : CALL l kd rv iv mX11_voice mX12_voice [am_I x, am_I y, am_I v] := by
  obtain ⟨n, nl, ln, lk, z0, y0, z1, y1, zt, zw, hX⟩ := h.n
  have hn := hX.1.1.1
  have hn8 := hX.1.1.2.2
  have hl := hX.laws
  refine CALL.ff (d2 := 12) h (c_voice x y v nl ln lk) (d_voice x y v lk) (p_voice l h.S x y v nl ln lk hl) (fun q k hq => ?_) (fun h1 eu => ?_) (by decide) (by decide) (fun u hu eu => ?_) (fun u q k hq => ?_)
  · have hb : ∀ cs, rw_L (19, 0, 0) (20, 0, 0) 40 cs (am_ui iv (19, 0, 0) 1 0) q k = iv q k := fun cs => by
      rw [rwL_o (fun e => by subst e; unfold uN at hq; simp at hq) (fun e => by subst e; unfold uN at hq; simp at hq), ui_u hq (by simp)]
    unfold c_voice
    repeat' split
    all_goals first
      | exact er_u hq
      | exact hb _
  · exact q_voice l h1.R x y v nl lk (hX.u eu).2.1.2.1 (hX.u eu).2.1.2.2.1 (fun j hj => ⟨((hX.u eu).2.1.2.2.2 j hj).1.2.1, ((hX.u eu).2.1.2.2.2 j hj).2.2.2.2⟩)
  · have hX := hX.u eu
    unfold c_voice d_voice
    rw [← hX.hasl x]
    by_cases c0 : sr_b (0 ≤ x ∧ x < nI nl) = 0
    · rw [if_pos c0, if_pos c0]; exact ⟨rfl, hu.err 1 (by decide)⟩
    · rw [if_neg c0, if_neg c0]
      by_cases c1 : sr_b (0 ≤ y ∧ y ≤ 3) = 0
      · rw [if_pos c1, if_pos c1]; exact ⟨rfl, hu.err 1 (by decide)⟩
      · rw [if_neg c1, if_neg c1]
        obtain ⟨hx0, hxl⟩ := rX.idl hX.2.1.2.2.1 c0
        obtain ⟨l0, l5, l6, l7, l8⟩ := hX.2.1.2.2.2 _ hxl
        have h1 : am_ui iv (19, 0, 0) 1 0 (ln x.toNatClampNeg) 1 = (fun k => if k = 1 then am_ui (am_ui u (30, 0, 0) 15 0) (30, 0, 0) 16 x (30, 0, 0) 16 else am_ui (am_ui u (30, 0, 0) 15 0) (30, 0, 0) 16 x (31, 0, 0) (21 + 2 * x.toNatClampNeg)) 1 := by
          rw [am_ui_o (fun e => by have := l0.2.2.2; rw [e] at this; simp at this)]
          show iv (ln x.toNatClampNeg) 1 = am_ui (am_ui u (30, 0, 0) 15 0) (30, 0, 0) 16 x (30, 0, 0) 16
          rw [am_ui_s, l6]
          exact (nI_cl hx0).symm
        have h2 : am_ui iv (19, 0, 0) 1 0 (ln x.toNatClampNeg) 2 = (fun k => if k = 1 then am_ui (am_ui u (30, 0, 0) 15 0) (30, 0, 0) 16 x (30, 0, 0) 16 else am_ui (am_ui u (30, 0, 0) 15 0) (30, 0, 0) 16 x (31, 0, 0) (21 + 2 * x.toNatClampNeg)) 2 := by
          rw [am_ui_o (fun e => by have := l0.2.2.2; rw [e] at this; simp at this)]
          show iv (ln x.toNatClampNeg) 2 = am_ui (am_ui u (30, 0, 0) 15 0) (30, 0, 0) 16 x (31, 0, 0) (21 + 2 * x.toNatClampNeg)
          rw [am_ui_o (by simp), am_ui_o (by simp)]
          exact l7
        rw [vo_goes_c (g := (fun k => if k = 1 then am_ui (am_ui u (30, 0, 0) 15 0) (30, 0, 0) 16 x (30, 0, 0) 16 else am_ui (am_ui u (30, 0, 0) 15 0) (30, 0, 0) 16 x (31, 0, 0) (21 + 2 * x.toNatClampNeg))) h1, vo_moves_c (g := (fun k => if k = 1 then am_ui (am_ui u (30, 0, 0) 15 0) (30, 0, 0) 16 x (30, 0, 0) 16 else am_ui (am_ui u (30, 0, 0) 15 0) (30, 0, 0) 16 x (31, 0, 0) (21 + 2 * x.toNatClampNeg))) h1 h2, vo_ends_c (g := (fun k => if k = 1 then am_ui (am_ui u (30, 0, 0) 15 0) (30, 0, 0) 16 x (30, 0, 0) 16 else am_ui (am_ui u (30, 0, 0) 15 0) (30, 0, 0) 16 x (31, 0, 0) (21 + 2 * x.toNatClampNeg))) h2, vo_tells_c (g := (fun k => if k = 1 then am_ui (am_ui u (30, 0, 0) 15 0) (30, 0, 0) 16 x (30, 0, 0) 16 else am_ui (am_ui u (30, 0, 0) 15 0) (30, 0, 0) 16 x (31, 0, 0) (21 + 2 * x.toNatClampNeg))) h1 h2]
        split
        · exact ⟨rfl, voice_rel hu x _⟩
        · split
          · exact ⟨rfl, voice_rel hu x _⟩
          · split
            · exact ⟨rfl, voice_rel hu x _⟩
            · exact ⟨rfl, voice_rel hu x _⟩
  · have hb : ∀ cs, rr_L cs (am_ui (am_ui u (30, 0, 0) 15 0) (30, 0, 0) 16 x) q k = u q k := fun cs => by
      rw [rrL_o (fun e => by subst e; unfold cN at hq; simp at hq) (fun e => by have e1 := e.1; subst e1; unfold cN at hq; simp at hq), ui_c hq (by simp), ui_c hq (by simp)]
    unfold d_voice
    repeat' split
    all_goals first
      | exact rx_c hq
      | exact hb _
theorem kR.cp {kd : am_kd} {rv : am_rv} (h : kR kd rv) {i o : Nat} (hi : i < 4) (ho : o < 4) : kR kd (lw_cp i o rv 6) := by
  obtain ⟨h1, h2, h3, h4⟩ := h
  refine ⟨lw_cp_sh h1 6, ?_, h3, fun j hj => ?_⟩
  · have e : ∀ k, lw_cp i o rv 6 (30, 0, 0) k = rv (30, 0, 0) k := fun k => lw_cp_o (by simp) 6
    unfold shr
    simp only [e]
    exact h2
  · intro k hk
    by_cases e : j = i
    · subst e
      rw [lw_cp_v hk]
      exact h4 o ho k hk
    · rw [lw_cp_o (by simp [e])]
      exact h4 j hj k hk
theorem rR.rv {kd : am_kd} {rv rv' : am_rv} {i a : Nat} {w u : am_iv} (h : rR kd rv i a w u) (e : ∀ k, rv' (7, i, 0) k = rv (7, i, 0) k) : rR kd rv' i a w u := by
  obtain ⟨h1, ⟨nl, ln, lk, c1, c2, c3, c4⟩, h4⟩ := h
  exact ⟨h1, ⟨nl, ln, lk, c1, c2, c3, fun j hj => ⟨⟨(e j).trans (c4 j hj).1.1, (c4 j hj).1.2⟩, (c4 j hj).2⟩⟩, h4⟩
/-- a room to try things in takes the laws of another -/
theorem REL.cp {kd : am_kd} {rv : am_rv} {w u : am_iv} (h : REL kd rv w u) {i o : Nat} (hi : i = 1 ∨ i = 2) (ho : o < 4) : REL kd (lw_cp i o rv 6) w u := by
  obtain ⟨hk, ⟨h1, h2, h3, h4, Q, h8⟩, h5, h6, h7⟩ := h
  exact ⟨hk.cp (by omega) ho, ⟨h1, h2, h3, h4, Q, fun q hq => ⟨(h8 q hq).1, fun k => ⟨(lw_cp_o (by simp) 6).trans ((h8 q hq).2 k).1, ((h8 q hq).2 k).2⟩⟩⟩, h5.rv (fun k => lw_cp_o (by simp; omega) 6), h6, fun z => (h7 z).rv (fun k => lw_cp_o (by simp; omega) 6)⟩
theorem call_image (l : Launch) {kd : am_kd} {rv : am_rv} {iv : am_iv} (h : REL kd rv iv iv) : CALL l kd rv iv mX11_image mX12_image [] := by
  obtain ⟨n, nl, ln, lk, z0, y0, z1, y1, zt, zw, hX⟩ := h.n
  have hc := p_image l h.S n z0 z1 zt zw hX.1.1.1 hX.1.1.2.2 (fun r hr => (hX.1.2.2 r hr).2.2.2.2.2.2) (h.1.2.2.2 0 (by decide)) hX.2.2.2.1.1.1 hX.2.2.2.1.1.2.1 hX.2.2.2.1.2.1 hX.2.2.2.1.2.2.1 hX.2.2.2.2.1.1 hX.2.2.2.2.1.2.2.1 hX.2.2.2.2.2.1 hX.2.2.2.2.2.2.2.1
  have hR1 : shr kd (lw_cp 3 0 rv 6) := (h.1.cp (i := 3) (o := 0) (by decide) (by decide)).2.1
  generalize hW : (c_image n z0 z1 zt zw iv).2 = W at hc
  have hr := q_image l (iv := W) hR1
  have eW : W = am_ui (rb_heap 3 0 n z0 z1 zt zw iv) (1, 0, 0) 4 (rb_heap 3 0 n z0 z1 zt zw iv (1, 0, 0) 4 + 1) := by rw [← hW]; rfl
  have cr : chg 3 iv (rb_heap 3 0 n z0 z1 zt zw iv) := chg.rb
  have e14 : rb_heap 3 0 n z0 z1 zt zw iv (1, 0, 0) 4 = iv (1, 0, 0) 4 := cr _ _ (Or.inl (fun e => by have := e.1; simp at this))
  have eu : ∀ q k, uN q → W q k = iv q k := fun q k hq => by rw [eW, ui_u hq (by simp)]; exact cr.u hq
  have eV : (d_image W).2 = am_ui (rx_cp (31, 0, 0) (31, 4, 0) W 300) (30, 0, 0) 5 (W (30, 0, 0) 5 + 1) := by
    show am_ui (rx_cp (31, 0, 0) (31, 4, 0) W 300) (30, 0, 0) 5 (rx_cp (31, 0, 0) (31, 4, 0) W 300 (30, 0, 0) 5 + 1) = _
    rw [rx_cp_o (by simp)]
  have e5 : W (30, 0, 0) 5 = iv (30, 0, 0) 5 := eu _ _ (Or.inl rfl)
  refine CALL.of hc hr (by decide) (by decide) ?_ ?_ (fun q k hq => ?_)
  · show am_ui (rb_heap 3 0 n z0 z1 zt zw iv) (1, 0, 0) 4 (rb_heap 3 0 n z0 z1 zt zw iv (1, 0, 0) 4 + 1) (1, 0, 0) 4 = am_ui (rx_cp (31, 0, 0) (31, 4, 0) W 300) (30, 0, 0) 5 (rx_cp (31, 0, 0) (31, 4, 0) W 300 (30, 0, 0) 5 + 1) (30, 0, 0) 5
    rw [am_ui_s, am_ui_s, e14, rx_cp_o (by simp), e5, h.2.2.2.1]
  · rw [eV, eW]
    rw [← eW]
    obtain ⟨hk, ⟨h1, h2, h3, h4, Q, h8⟩, h5, h6, h7⟩ := h
    have wq : ∀ q k, ¬ inR 3 q → q ≠ (1, 0, 0) → W q k = iv q k := fun q k h1 h2 => by rw [eW, am_ui_o h2]; exact cr _ _ (Or.inl h1)
    have uq : ∀ q k, q ≠ (31, 4, 0) → q ≠ (30, 0, 0) → uN q → am_ui (rx_cp (31, 0, 0) (31, 4, 0) W 300) (30, 0, 0) 5 (W (30, 0, 0) 5 + 1) q k = iv q k := fun q k h1 h2 h3 => by rw [am_ui_o h2, rx_cp_o h1]; exact eu q k h3
    have nR : ∀ a b c : Nat, 16 ≤ a → ¬ inR 3 (a, b, c) := fun a b c ha e => by have := e.2.1; simp at this; omega
    refine ⟨hk.cp (by decide) (by decide), ⟨?_, ?_, ?_, fun i r hi hr => ?_, Q, fun q hq => ⟨(h8 q hq).1, fun k => ⟨(lw_cp_o (by simp) 6).trans ((h8 q hq).2 k).1, (wq _ _ (nR _ _ _ (by decide)) (by simp)).trans ((h8 q hq).2 k).2⟩⟩⟩, ?_, ?_, fun z => ?_⟩
    · intro s hs
      obtain ⟨a1, sz, a2, a3, a4, a5⟩ := h1 s hs
      exact ⟨by rw [wq _ _ (nR _ _ _ (by decide)) (by simp), uq _ _ (by simp) (by simp) (Or.inr rfl)]; exact a1, sz, a2, by rw [wq _ _ (nR _ _ _ (by decide)) (by simp)]; exact a3, by rw [uq _ _ (by simp) (by simp) (Or.inr rfl)]; exact a4, fun k hk => by rw [wq _ _ (nR _ _ _ (by decide)) (by simp), uq _ _ (by simp) (by simp) (Or.inr rfl)]; exact a5 k hk⟩
    · obtain ⟨st, a1, a2, a3, a4⟩ := h2
      exact ⟨st, a1, (wq _ _ (nR _ _ _ (by decide)) (by simp)).trans a2, by rw [am_ui_n (by simp), rx_cp_o (by simp), eu _ _ (Or.inl rfl)]; exact a3, fun k hk => by rw [wq _ _ (nR _ _ _ (by decide)) (by simp), uq _ _ (by simp) (by simp) (Or.inr rfl)]; exact a4 k hk⟩
    · intro k hk
      rw [wq _ _ (nR _ _ _ (by decide)) (by simp), uq _ _ (by simp) (by simp) (Or.inr rfl)]
      exact h3 k hk
    · have e4 : W (4, i, r) 0 = iv (4, i, r) 0 := by rw [eW, am_ui_o (by simp)]; exact cr _ _ (Or.inr ⟨Or.inl rfl, rfl⟩)
      have e6 : W (6, i, r) 0 = iv (6, i, r) 0 := by rw [eW, am_ui_o (by simp)]; exact cr _ _ (Or.inr ⟨Or.inr rfl, rfl⟩)
      rw [e4, e6]
      exact h4 i r hi hr
    · refine (h5.rv (rv' := lw_cp 3 0 rv 6) (fun k => lw_cp_o (by simp) 6)).congr (fun q k z => wq q k (fun e => ?_) (fun e => ?_)) (fun k => uq _ _ (by simp) (by simp) (Or.inr rfl))
      · unfold dR at z; have := e.2.2; have := e.2.1; omega
      · subst e; unfold dR at z; simp at z
    · have e1 : W (1, 0, 0) 4 = iv (1, 0, 0) 4 + 1 := by rw [eW, am_ui_s, e14]
      rw [e1, am_ui_s, e5, h6]
    · have hB := rX.become (i := 3) (o := 0) (b := 4) (by decide) (hX.u eu)
      refine hB.r.congr (fun q k z => ?_) (fun k => am_ui_o (by simp))
      rw [eW, am_ui_o (fun e => by subst e; unfold dR at z; simp at z)]
  · rw [eV, ui_c hq (by simp), rx_cp_o (fun e => by subst e; unfold cN at hq; simp at hq)]
