def kC (i : Nat) (q : am_N) (k : Nat) : Prop := (q = (2, i, 0) ∧ k = 4) ∨ q.1 = 22 ∨ (q.1 = 9 ∧ q.2.1 = i ∧ k = 1) ∨ ((q.1 = 10 ∨ q.1 = 12 ∨ q.1 = 13 ∨ q.1 = 14 ∨ q.1 = 15) ∧ q.2.1 = i)
def kU (k : Nat) : Prop := k = 2 ∨ (20 ≤ k ∧ k < 32) ∨ k = 40 ∨ k = 41 ∨ k = 7 ∨ k = 8 ∨ (50 ≤ k ∧ k < 70) ∨ (150 ≤ k ∧ k < 300)
theorem rX.upd {kd : am_kd} {rv : am_rv} {i a n n' nl : Nat} {ln : Nat → am_N} {lk : Nat → Nat} {z0 y0 z1 y1 zt zw : Nat} {w u w' u' : am_iv} (h : rX kd rv i a n nl ln lk z0 y0 z1 y1 zt zw w u) (hn : rR_n i a n' w' u') (hr : rR_r i a n' w' u') (hf : rR_f i a w' u') (hw : ∀ q k, kC i q k → w' q k = w q k) (hu : ∀ k, kU k → u' (31, a, 0) k = u (31, a, 0) k) : rX kd rv i a n' nl ln lk z0 y0 z1 y1 zt zw w' u' := by
  obtain ⟨-, ⟨c1, c2, c3, c4⟩, -, ⟨⟨e1, e2, e3, e4, e5⟩, f1, f2, f3, f4, f5⟩, ⟨g1, g2, g3, g4⟩, h1, h2, h3, h4⟩ := h
  have k10 : ∀ r k, w' (10, i, r) k = w (10, i, r) k := fun r k => hw _ _ (Or.inr (Or.inr (Or.inr ⟨Or.inl rfl, rfl⟩)))
  have k12 : ∀ k, w' (12, i, 0) k = w (12, i, 0) k := fun k => hw _ _ (Or.inr (Or.inr (Or.inr ⟨Or.inr (Or.inl rfl), rfl⟩)))
  have k13 : ∀ k, w' (13, i, 0) k = w (13, i, 0) k := fun k => hw _ _ (Or.inr (Or.inr (Or.inr ⟨Or.inr (Or.inr (Or.inl rfl)), rfl⟩)))
  have k14 : ∀ k, w' (14, i, 0) k = w (14, i, 0) k := fun k => hw _ _ (Or.inr (Or.inr (Or.inr ⟨Or.inr (Or.inr (Or.inr (Or.inl rfl))), rfl⟩)))
  have k15 : ∀ k, w' (15, i, 0) k = w (15, i, 0) k := fun k => hw _ _ (Or.inr (Or.inr (Or.inr ⟨Or.inr (Or.inr (Or.inr (Or.inr rfl))), rfl⟩)))
  have k9 : ∀ r, w' (9, i, r) 1 = w (9, i, r) 1 := fun r => hw _ _ (Or.inr (Or.inr (Or.inl ⟨rfl, rfl, rfl⟩)))
  refine ⟨⟨hn, hr⟩, ⟨(hw _ _ (Or.inl ⟨rfl, rfl⟩)).trans c1, (hu 2 (Or.inl rfl)).trans c2, c3, fun j hj => ?_⟩, hf, ⟨⟨(k9 0).trans e1, e2, (hu 40 (by unfold kU; omega)).trans e3, e4, e5.c (fun k _ => k10 0 k) (fun p hp => hu _ (by unfold kU; omega))⟩, ⟨(k9 1).trans f1, f2, (hu 41 (by unfold kU; omega)).trans f3, f4, f5.c (fun k _ => k10 1 k) (fun p hp => hu _ (by unfold kU; omega))⟩⟩, ⟨(k12 1).trans g1, (hu 7 (by unfold kU; omega)).trans g2, g3, fun k hk => by rw [k13, hu _ (by unfold kU; omega)]; exact g4 k hk⟩, ⟨(k14 1).trans h1, (hu 8 (by unfold kU; omega)).trans h2, h3, fun k hk => by rw [k15, hu _ (by unfold kU; omega)]; exact h4 k hk⟩⟩
  obtain ⟨l0, l5, l6, l7, l8⟩ := c4 j hj
  have el : ∀ k, w' (ln j) k = w (ln j) k := fun k => hw _ _ (Or.inr (Or.inl l0.2.2.2))
  exact ⟨l0, by rw [el]; exact l5, by rw [el]; exact l6, by rw [el, hu _ (by unfold kU; omega)]; exact l7, by rw [hu _ (by unfold kU; omega)]; exact l8⟩
theorem sr_b_c {p q : Prop} [Decidable p] [Decidable q] (h : p ↔ q) : sr_b p = sr_b q := by
  unfold sr_b
  by_cases c : p
  · rw [if_pos c, if_pos (h.mp c)]
  · rw [if_neg c, if_neg (fun z => c (h.mpr z))]
theorem rX.has {kd : am_kd} {rv : am_rv} {i a n nl : Nat} {ln : Nat → am_N} {lk : Nat → Nat} {z0 y0 z1 y1 zt zw : Nat} {w u : am_iv} (h : rX kd rv i a n nl ln lk z0 y0 z1 y1 zt zw w u) (x : Int32) : sr_b (0 ≤ x ∧ x < w (2, i, 0) 1) = sr_b (0 ≤ x ∧ x ≤ u (31, a, 0) 1 - 1) := by
  obtain ⟨⟨a1, a2, a3⟩, -⟩ := h.1
  rw [a1, a2]
  exact sr_b_c (has_is a3 x)
theorem rX.hasl {kd : am_kd} {rv : am_rv} {i a n nl : Nat} {ln : Nat → am_N} {lk : Nat → Nat} {z0 y0 z1 y1 zt zw : Nat} {w u : am_iv} (h : rX kd rv i a n nl ln lk z0 y0 z1 y1 zt zw w u) (x : Int32) : sr_b (0 ≤ x ∧ x < nI nl) = sr_b (0 ≤ x ∧ x ≤ u (31, a, 0) 2 - 1) := by
  obtain ⟨-, a2, a3, -⟩ := h.2.1
  rw [a2]
  exact sr_b_c (has_is (by omega) x)
theorem rX.idx {kd : am_kd} {rv : am_rv} {i a n nl : Nat} {ln : Nat → am_N} {lk : Nat → Nat} {z0 y0 z1 y1 zt zw : Nat} {w u : am_iv} (h : rX kd rv i a n nl ln lk z0 y0 z1 y1 zt zw w u) {x : Int32} (c : ¬ sr_b (0 ≤ x ∧ x < w (2, i, 0) 1) = 0) : 0 ≤ x ∧ x.toNatClampNeg < n := by
  have hx := (sr_b_1 _).mp c
  obtain ⟨⟨a1, a2, a3⟩, -⟩ := h.1
  exact ⟨hx.1, nI_cl_lt hx.1 (a1 ▸ hx.2) (by omega)⟩
theorem rX.idl {nl : Nat} (h6 : nl ≤ 6) {x : Int32} (c : ¬ sr_b (0 ≤ x ∧ x < nI nl) = 0) : 0 ≤ x ∧ x.toNatClampNeg < nl := by
  have hx := (sr_b_1 _).mp c
  exact ⟨hx.1, nI_cl_lt hx.1 hx.2 (by omega)⟩
theorem rX.at {kd : am_kd} {rv : am_rv} {i a n nl : Nat} {ln : Nat → am_N} {lk : Nat → Nat} {z0 y0 z1 y1 zt zw : Nat} {w u : am_iv} (h : rX kd rv i a n nl ln lk z0 y0 z1 y1 zt zw w u) (h0 : ∀ r, r < 8 → w (4, i, r) 0 = nI r) {r : Nat} (hr : r < n) : a7 (w (4, i, r)) (rf u (31, a, 0) r) := by
  intro k hk
  unfold rf
  by_cases e : k = 0
  · subst e
    rw [if_pos rfl]
    exact h0 r (by have := h.1.1.2.2; omega)
  · rw [if_neg e]
    exact h.1.2.1 r hr k (by omega) hk
theorem rX.rokr {kd : am_kd} {rv : am_rv} {i a n nl : Nat} {ln : Nat → am_N} {lk : Nat → Nat} {z0 y0 z1 y1 zt zw : Nat} {w u : am_iv} (h : rX kd rv i a n nl ln lk z0 y0 z1 y1 zt zw w u) {r : Nat} (hr : r < n) : rok (rf u (31, a, 0) r) := by
  refine rok_f (h.1.2.2 r hr) (fun k h1 h7 => ?_)
  rw [h.1.2.1 r hr k h1 h7]
  unfold rf
  rw [if_neg (by omega)]
theorem REL.z {kd : am_kd} {rv : am_rv} {w u : am_iv} (h : REL kd rv w u) {i : Nat} (hi : i < 4) : ∀ r, r < 8 → w (4, i, r) 0 = nI r ∧ w (6, i, r) 0 = nI r := fun r hr => h.2.1.2.2.2.1 i r hi hr
/-- the reference's side may be another heap that agrees -/
theorem rX.u {kd : am_kd} {rv : am_rv} {i a n nl : Nat} {ln : Nat → am_N} {lk : Nat → Nat} {z0 y0 z1 y1 zt zw : Nat} {w u u' : am_iv} (h : rX kd rv i a n nl ln lk z0 y0 z1 y1 zt zw w u) (hu : ∀ q k, uN q → u' q k = u q k) : rX kd rv i a n nl ln lk z0 y0 z1 y1 zt zw w u' := by
  have e : ∀ k, u' (31, a, 0) k = u (31, a, 0) k := fun k => hu _ _ (Or.inr rfl)
  obtain ⟨⟨⟨a1, a2, a3⟩, b1, b2⟩, h3, ⟨d1, ⟨d2, d3, d4⟩, ⟨d5, d6, d7⟩, d8, d9⟩, h5, h6, h7⟩ := h
  exact rX.upd ⟨⟨⟨a1, a2, a3⟩, b1, b2⟩, h3, ⟨d1, ⟨d2, d3, d4⟩, ⟨d5, d6, d7⟩, d8, d9⟩, h5, h6, h7⟩ ⟨a1, (e 1).trans a2, a3⟩ ⟨fun r hr k q1 q7 => by rw [e]; exact b1 r hr k q1 q7, b2⟩ ⟨by rw [e]; exact d1, ⟨by rw [e]; exact d2, d3, d4⟩, ⟨by rw [e]; exact d5, d6, d7⟩, by rw [e]; exact d8, by rw [e]; exact d9⟩ (fun _ _ _ => rfl) (fun k _ => e k)
theorem call_end (l : Launch) {kd : am_kd} {rv : am_rv} {iv : am_iv} (h : REL kd rv iv iv) (x : Int32) : CALL l kd rv iv mX11_end mX12_end [am_I x] := by
  obtain ⟨n, nl, ln, lk, z0, y0, z1, y1, zt, zw, hX⟩ := h.n
  have hn := hX.1.1.1
  have hn8 := hX.1.1.2.2
  have hl := hX.laws
  refine CALL.ff (d2 := 2) h (c_end x) (d_end x) (p_end l h.S x n hn hn8) (fun q k hq => ?_) (fun h1 eu => ?_) (by decide) (by decide) (fun u hu eu => ?_) (fun u q k hq => ?_)
  · unfold c_end
    split
    · exact er_u hq
    · exact ui_u hq (by simp)
  · exact q_end l h1.R x n (hX.u eu).1.1.2.1 hn8
  · have hX := hX.u eu
    unfold c_end d_end
    rw [← hX.has x]
    by_cases c : sr_b (0 ≤ x ∧ x < iv (2, 0, 0) 1) = 0
    · rw [if_pos c, if_pos c]; exact ⟨rfl, hu.err 1 (by decide)⟩
    · rw [if_neg c, if_neg c]
      obtain ⟨hx0, hxn⟩ := hX.idx c
      have e7 := hX.1.2.1 _ hxn 7 (by decide) (by decide)
      have b7 := (hX.1.2.2 _ hxn).2.2.2.2.2.2
      refine ⟨?_, ?_⟩
      · show (if iv (4, 0, x.toNatClampNeg) 7 = 0 then (0 : Int32) else 1) = rf u (31, 0, 0) x.toNatClampNeg 7
        rw [← (hX.at (fun r hr => (hu.z (by decide) r hr).1) hxn).at 7]
        rcases b7 with e | e
        · rw [if_pos e, e]
        · rw [if_neg (by rw [e]; decide), e]
      · have hX2 := hX
        obtain ⟨⟨⟨a1, a2, a3⟩, b1, b2⟩, -, hf, -, -, -⟩ := hX
        refine hu.chg0 (chg.u4 (by decide)) (fun q k z => am_ui_o (dU_ne z).1) (rX.upd hX2 ⟨(am_ui_o (by simp)).trans a1, (am_ui_n (by omega)).trans a2, a3⟩ ⟨fun r hr k q1 q7 => ?_, fun r hr => ?_⟩ ?_ (fun q k z => am_ui_o (fun e => by subst e; unfold kC at z; simp at z)) (fun k z => am_ui_n (fun e => by have e2 := e.2; unfold kU at z; omega))).r
        · by_cases e : r = x.toNatClampNeg ∧ k = 7
          · obtain ⟨e1, e2⟩ := e
            subst e1; subst e2
            rw [am_ui_s, am_ui_s]
          · rw [am_ui_n (fun z => e ⟨by simpa using z.1, z.2⟩), am_ui_n (fun z => e (by omega))]
            exact b1 r hr k q1 q7
        · by_cases e : r = x.toNatClampNeg
          · subst e; exact rok_7 (b2 _ hr)
          · exact rok_f (b2 r hr) (fun k _ _ => am_ui_o (by simp [e]))
        · obtain ⟨d1, ⟨d2, d3, d4⟩, ⟨d5, d6, d7⟩, d8, d9⟩ := hf
          refine ⟨?_, ⟨?_, ?_, ?_⟩, ⟨?_, ?_, ?_⟩, ?_, ?_⟩ <;> (try rw [am_ui_o (by simp)]) <;> (try rw [am_ui_n (by omega)]) <;> assumption
  · unfold d_end
    split
    · exact rx_c hq
    · exact ui_c hq (by simp)
