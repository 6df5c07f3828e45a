/-- a call that makes an object -/
def CALL1 (l : Launch) (kd : am_kd) (rv : am_rv) (iv : am_iv) (mc mr : am_M) (args : List am_V) : Prop := ∃ (a : Int32) (d1 d2 : Nat) (kd1 : am_kd) (rv1 : am_rv) (iv1 iv2 : am_iv), d1 ≤ 60 ∧ d2 ≤ 60 ∧ (∀ n, kd n ≠ none → kd1 n = kd n) ∧ am_Met l mc (am_rm d1 1 3) (am_P (1, 0, 0) :: args) kd rv iv (am_ret (some (am_I a)) kd1 rv1 iv1) ∧ am_Met l mr (am_rm d2 0 0) (am_P (30, 0, 0) :: args) kd1 rv1 iv1 (am_ret (some (am_I a)) kd1 rv1 iv2) ∧ REL kd1 rv1 iv2 iv2
theorem rR.kd {kd kd' : am_kd} {rv rv' : am_rv} {i a : Nat} {w u : am_iv} (h : rR kd rv i a w u) (hk : ∀ n, kd n ≠ none → kd' n = kd n) (e : ∀ k, rv' (7, i, 0) k = rv (7, i, 0) k) : rR kd' rv' i a w u := by
  obtain ⟨h1, ⟨nl, ln, lk, c1, c2, c3, c4⟩, h4⟩ := h
  exact ⟨h1, ⟨nl, ln, lk, c1, c2, c3, fun j hj => ⟨⟨(e j).trans (c4 j hj).1.1, (c4 j hj).1.2.1, (hk _ (by rw [(c4 j hj).1.2.2.1]; exact fun z => by cases z)).trans (c4 j hj).1.2.2.1, (c4 j hj).1.2.2.2⟩, (c4 j hj).2⟩⟩, h4⟩
theorem rX.cg2 {kd : am_kd} {rv : am_rv} {i a n nl : Nat} {ln : Nat → am_N} {lk : Nat → Nat} {z0 y0 z1 y1 zt zw : Nat} {w u w' u' : am_iv} (h : rX kd rv i a n nl ln lk z0 y0 z1 y1 zt zw w u) (hw : ∀ q k, dR i q k → q.1 ≠ 22 → w' q k = w q k) (hl : ∀ j, j < nl → ∀ k, w' (ln j) k = w (ln j) k) (hu : ∀ k, u' (31, a, 0) k = u (31, a, 0) k) : rX kd rv i a n nl ln lk z0 y0 z1 y1 zt zw w' u' := by
  have hn8 := h.1.1.2.2
  obtain ⟨⟨a0, b0⟩, ⟨c1, c2, c3, c4⟩, f0, ⟨t0, t1⟩, p0, g0⟩ := h
  have ew : ∀ (a r k : Nat), (a = 2 ∨ a = 4 ∨ a = 10 ∨ a = 12 ∨ a = 13 ∨ a = 14 ∨ a = 15 ∨ (a = 9 ∧ k = 1)) → w' (a, i, r) k = w (a, i, r) k := fun a r k z => hw _ _ (Or.inr ⟨rfl, z⟩) (by simp; omega)
  refine ⟨⟨a0.c (ew _ _ _ (by decide)) (hu _), b0.c hn8 (fun r k => ew _ _ _ (by omega)) (fun k _ _ => hu k)⟩, ⟨(ew _ _ _ (by decide)).trans c1, (hu 2).trans c2, c3, fun j hj => ?_⟩, f0.c (fun k _ _ => ew _ _ _ (by omega)) (fun k _ => hu k), ⟨t0.c (ew _ _ _ (by decide)) (fun k => ew _ _ _ (by omega)) (hu _) (fun p _ => hu _), t1.c (ew _ _ _ (by decide)) (fun k => ew _ _ _ (by omega)) (hu _) (fun p _ => hu _)⟩, p0.c (ew _ _ _ (by decide)) (fun k => ew _ _ _ (by omega)) (fun k _ => hu k), g0.c (ew _ _ _ (by decide)) (fun k => ew _ _ _ (by omega)) (fun k _ => hu k)⟩
  obtain ⟨l0, l5, l6, l7, l8⟩ := c4 j hj
  exact ⟨l0, by rw [hl j hj]; exact l5, by rw [hl j hj]; exact l6, by rw [hl j hj, hu]; exact l7, by rw [hu]; exact l8⟩
theorem shl_c {n : Nat} (u : Int32) (h : u = nI n) : (1 : Int32) <<< (nI n &&& 31) = 1 <<< (u &&& 31) := by rw [h]
theorem call_law (l : Launch) {kd : am_kd} {rv : am_rv} {iv : am_iv} (h : REL kd rv iv iv) (x y : Int32) : CALL l kd rv iv mX11_law mX12_law [am_I x, am_I y] ∨ CALL1 l kd rv iv mX11_law mX12_law [am_I x, am_I y] := by
  obtain ⟨n, nl, ln, lk, z0, y0, z1, y1, zt, zw, hX⟩ := h.n
  by_cases G : ¬ sr_b (0 ≤ x ∧ x ≤ 6) = 0 ∧ ¬ sr_b (0 ≤ y ∧ y ≤ 99) = 0 ∧ nl < 6
  · right
    obtain ⟨c0, c1, c2⟩ := G
    obtain ⟨Q, h8⟩ := h.2.1.2.2.2.2
    have hq0 := h8 Q (Nat.le_refl Q)
    have hx1 := (sr_b_1 _).mp c0
    have hx7 : x.toNatClampNeg < 7 := Nat.lt_of_le_of_lt (nI_cl_le (n := 6) hx1.1 hx1.2 (by decide)) (by decide)
    have ex := nI_cl hx1.1
    have hc := p_lawG l h.S x y c0 c1 nl hX.2.1.1 c2 (22, Q, 0) hq0.1 rfl (fun k => (hq0.2 k).2) (fun k => (hq0.2 k).1)
    generalize hW : c_lawG (22, Q, 0) x y nl iv = W at hc
    have kq : ∀ m, kd m ≠ none → m ≠ (22, Q, 0) := fun m hm e => hm (by rw [e]; exact hq0.1)
    have kk : ∀ m, kd m ≠ none → am_uk kd (22, Q, 0) (.inl (lw_ci x.toNatClampNeg)) m = kd m := fun m hm => am_uk_o (kq m hm)
    have wq : ∀ q k, q ≠ (22, Q, 0) → ¬ (q = (2, 0, 0) ∧ (k = 4 ∨ k = 5)) → W q k = iv q k := fun q k n1 n2 => by
      rw [← hW]
      unfold c_lawG al_iv mk_iv
      rw [am_ui_n (fun e => n2 ⟨e.1, Or.inl e.2⟩), am_ui_n (fun e => n2 ⟨e.1, Or.inr e.2⟩), am_ui_o n1, am_ui_o n1, am_ui_o n1]
    have w4 : W (2, 0, 0) 4 = nI (nl + 1) := by rw [← hW]; unfold c_lawG al_iv; exact am_ui_s _ _ _ _
    have w5 : W (2, 0, 0) 5 = iv (2, 0, 0) 5 ||| 1 <<< (nI nl &&& 31) := by
      rw [← hW]
      unfold c_lawG al_iv
      rw [am_ui_n (by simp), am_ui_s]
      unfold mk_iv
      rw [am_ui_o (by simp), am_ui_o (by simp), am_ui_o (by simp)]
    have wN : W (22, Q, 0) 0 = x ∧ W (22, Q, 0) 1 = nI nl ∧ W (22, Q, 0) 2 = y := by
      rw [← hW]
      unfold c_lawG al_iv mk_iv
      refine ⟨?_, ?_, ?_⟩ <;> simp [am_ui]
    have eu : ∀ q k, uN q → W q k = iv q k := fun q k hq => wq q k (fun e => by subst e; unfold uN at hq; simp at hq) (fun e => by have e1 := e.1; subst e1; unfold uN at hq; simp at hq)
    have hX2 := hX.u eu
    have hS1 : sh (am_uk kd (22, Q, 0) (.inl (lw_ci x.toNatClampNeg))) (am_ur rv (7, 0, 0) nl (some (22, Q, 0))) := (h.S.uk (by simp) _).ur 0 nl _
    have hR1 : shr (am_uk kd (22, Q, 0) (.inl (lw_ci x.toNatClampNeg))) (am_ur rv (7, 0, 0) nl (some (22, Q, 0))) := by
      have e1 : ∀ a b c : Nat, 30 ≤ a → am_uk kd (22, Q, 0) (.inl (lw_ci x.toNatClampNeg)) (a, b, c) = kd (a, b, c) := fun a b c ha => am_uk_o (fun e => by have := congrArg Prod.fst e; simp at this; omega)
      have e2 : ∀ k, am_ur rv (7, 0, 0) nl (some (22, Q, 0)) (30, 0, 0) k = rv (30, 0, 0) k := fun k => by simp [am_ur]
      have hh := h.R
      unfold shr at hh ⊢
      simp only [e2, e1 30 _ _ (by decide), e1 31 _ _ (by decide)]
      exact hh
    have hr := q_law l (iv := W) hR1 x y nl hX2.2.1.2.1 hX2.2.1.2.2.1
    have eD2 : ¬ W (31, 0, 0) 2 = 6 := by rw [hX2.2.1.2.1]; exact fun e => absurd ((nI_lit (c := 6) (by omega) (by decide)).mp e) (by omega)
    have eD : d_law x y nl W = (nI nl, am_ui (am_ui (am_ui (am_ui W (31, 0, 0) (20 + 2 * nl) x) (31, 0, 0) (21 + 2 * nl) y) (31, 0, 0) 3 (W (31, 0, 0) 3 ||| 1 <<< (nI nl &&& 31))) (31, 0, 0) 2 (nI (nl + 1))) := by
      unfold d_law
      rw [if_neg c0, if_neg c1, if_neg eD2]
      have q3 : am_ui (am_ui W (31, 0, 0) (20 + 2 * nl) x) (31, 0, 0) (21 + 2 * nl) y (31, 0, 0) 3 = W (31, 0, 0) 3 := by rw [am_ui_n (by omega), am_ui_n (by omega)]
      have q2 : am_ui (am_ui W (31, 0, 0) (20 + 2 * nl) x) (31, 0, 0) (21 + 2 * nl) y (31, 0, 0) 2 = nI nl := by rw [am_ui_n (by omega), am_ui_n (by omega)]; exact hX2.2.1.2.1
      rw [q3, q2, am_ui_s, am_ui_n (by simp), q2, nI_1]
      rw [show nI (nl + 1) - 1 = nI nl from nI_p1 nl]
    rw [eD] at hr
    generalize hV : am_ui (am_ui (am_ui (am_ui W (31, 0, 0) (20 + 2 * nl) x) (31, 0, 0) (21 + 2 * nl) y) (31, 0, 0) 3 (W (31, 0, 0) 3 ||| 1 <<< (nI nl &&& 31))) (31, 0, 0) 2 (nI (nl + 1)) = V at hr
    have vq : ∀ q k, q ≠ (31, 0, 0) → V q k = W q k := fun q k n1 => by rw [← hV, am_ui_o n1, am_ui_o n1, am_ui_o n1, am_ui_o n1]
    have vk : ∀ k, k ≠ 2 → k ≠ 3 → k ≠ 20 + 2 * nl → k ≠ 21 + 2 * nl → V (31, 0, 0) k = W (31, 0, 0) k := fun k n1 n2 n3 n4 => by rw [← hV, am_ui_n (by simp [n1]), am_ui_n (by simp [n2]), am_ui_n (by simp [n4]), am_ui_n (by simp [n3])]
    have v2 : V (31, 0, 0) 2 = nI (nl + 1) := by rw [← hV]; exact am_ui_s _ _ _ _
    have v3 : V (31, 0, 0) 3 = W (31, 0, 0) 3 ||| 1 <<< (nI nl &&& 31) := by rw [← hV, am_ui_n (by simp), am_ui_s]
    have v20 : V (31, 0, 0) (20 + 2 * nl) = x := by rw [← hV, am_ui_n (by omega), am_ui_n (by omega), am_ui_n (by omega), am_ui_s]
    have v21 : V (31, 0, 0) (21 + 2 * nl) = y := by rw [← hV, am_ui_n (by omega), am_ui_n (by omega), am_ui_s]
    refine ⟨nI nl, 6, 2, _, _, W, V, by decide, by decide, kk, hc, hr, ?_⟩
    have hrel : REL (am_uk kd (22, Q, 0) (.inl (lw_ci x.toNatClampNeg))) (am_ur rv (7, 0, 0) nl (some (22, Q, 0))) W V := by
      obtain ⟨hk, ⟨h1, h2, h3, h4, -⟩, h5, h6, h7⟩ := h
      have wg : ∀ q k, q.1 ≠ 22 → q.1 ≠ 2 → W q k = iv q k := fun q k n1 n2 => wq q k (fun e => n1 (by rw [e])) (fun e => n2 (by rw [e.1]))
      have vg : ∀ q k, q ≠ (31, 0, 0) → uN q → V q k = iv q k := fun q k n1 n2 => (vq q k n1).trans (eu q k n2)
      refine ⟨⟨hS1, hR1, fun i hi j hj => (am_uk_o (by simp)).trans (hk.2.2.1 i hi j hj), fun i hi j hj => ?_⟩, ⟨?_, ?_, ?_, fun i r hi hr => ?_, Q + 1, fun q hq => ⟨(am_uk_o (by simp; omega)).trans (h8 q (by omega)).1, fun k => ⟨?_, ?_⟩⟩⟩, ?_, ?_, fun z => ?_⟩
      · by_cases e : i = 0 ∧ j = nl
        · right
          refine ⟨(22, Q, 0), x.toNatClampNeg, ?_, hx7, am_uk_s⟩
          rw [e.1, e.2]
          simp [am_ur]
        · have er : am_ur rv (7, 0, 0) nl (some (22, Q, 0)) (7, i, 0) j = rv (7, i, 0) j := by
            simp only [am_ur]
            rw [if_neg (fun z => e ⟨by simpa using z.1, z.2⟩)]
          rw [er]
          rcases hk.2.2.2 i hi j hj with z | ⟨o, K, z1, z2, z3⟩
          · exact Or.inl z
          · exact Or.inr ⟨o, K, z1, z2, (kk o (by rw [z3]; exact fun z => by cases z)).trans z3⟩
      · intro s hs
        obtain ⟨a1, sz, a2, a3, a4, a5⟩ := h1 s hs
        exact ⟨by rw [wg _ _ (by simp) (by simp), vg _ _ (by simp) (Or.inr rfl)]; exact a1, sz, a2, by rw [wg _ _ (by simp) (by simp)]; exact a3, by rw [vg _ _ (by simp) (Or.inr rfl)]; exact a4, fun k hk => by rw [wg _ _ (by simp) (by simp), vg _ _ (by simp) (Or.inr rfl)]; exact a5 k hk⟩
      · obtain ⟨st, a1, a2, a3, a4⟩ := h2
        exact ⟨st, a1, (wg _ _ (by simp) (by simp)).trans a2, (vg _ _ (by simp) (Or.inl rfl)).trans a3, fun k hk => by rw [wg _ _ (by simp) (by simp), vg _ _ (by simp) (Or.inr rfl)]; exact a4 k hk⟩
      · intro k hk
        rw [wg _ _ (by simp) (by simp), vg _ _ (by simp) (Or.inr rfl)]
        exact h3 k hk
      · rw [wg _ _ (by simp) (by simp), wg _ _ (by simp) (by simp)]
        exact h4 i r hi hr
      · simp only [am_ur]
        rw [if_neg (by simp)]
        exact ((h8 q (by omega)).2 k).1
      · rw [wq _ _ (by simp; omega) (by simp)]
        exact ((h8 q (by omega)).2 k).2
      · obtain ⟨⟨a0, b0⟩, ⟨d1, d2, d3, d4⟩, ⟨f1, ⟨f2, f3, f4⟩, ⟨f5, f6, f7⟩, f8, f9⟩, ⟨t0, t1⟩, p0, g0⟩ := hX2
        have e2 : ∀ k, k ≠ 4 → k ≠ 5 → W (2, 0, 0) k = iv (2, 0, 0) k := fun k n1 n2 => wq _ _ (by simp) (by simp [n1, n2])
        refine (show rX _ _ 0 0 n (nl + 1) (fun j => if j = nl then (22, Q, 0) else ln j) (fun j => if j = nl then x.toNatClampNeg else lk j) z0 y0 z1 y1 zt zw W V from ⟨⟨a0.c (e2 1 (by decide) (by decide)) (vk 1 (by decide) (by decide) (by omega) (by omega)), b0.c hX.1.1.2.2 (fun r k => wg _ _ (by simp) (by simp)) (fun k _ _ => vk k (by omega) (by omega) (by omega) (by omega))⟩, ⟨w4, v2, c2, fun j hj => ?_⟩, ⟨?_, ⟨?_, ?_, ?_⟩, ⟨?_, ?_, ?_⟩, ?_, ?_⟩, ⟨t0.c (wg _ _ (by simp) (by simp)) (fun k => wg _ _ (by simp) (by simp)) (vk _ (by decide) (by decide) (by omega) (by omega)) (fun p hp => vk _ (by omega) (by omega) (by omega) (by omega)), t1.c (wg _ _ (by simp) (by simp)) (fun k => wg _ _ (by simp) (by simp)) (vk _ (by decide) (by decide) (by omega) (by omega)) (fun p hp => vk _ (by omega) (by omega) (by omega) (by omega))⟩, p0.c (wg _ _ (by simp) (by simp)) (fun k => wg _ _ (by simp) (by simp)) (fun k hk => vk k (by omega) (by omega) (by omega) (by omega)), g0.c (wg _ _ (by simp) (by simp)) (fun k => wg _ _ (by simp) (by simp)) (fun k hk => vk k (by omega) (by omega) (by omega) (by omega))⟩).r
        · by_cases e : j = nl
          · subst e
            simp only [if_true]
            refine ⟨⟨by simp [am_ur], hx7, am_uk_s, trivial⟩, wN.1.trans ex, wN.2.1, wN.2.2.trans v21.symm, v20.trans ex⟩
          · simp only [e, if_false]
            obtain ⟨m0, m5, m6, m7, m8⟩ := d4 j (by omega)
            have ne : ln j ≠ (22, Q, 0) := kq _ (by rw [m0.2.2.1]; exact fun z => by cases z)
            have el : ∀ k, W (ln j) k = iv (ln j) k := fun k => wq _ _ ne (fun z => by have := m0.2.2.2; rw [z.1] at this; simp at this)
            refine ⟨⟨?_, m0.2.1, (kk _ (by rw [m0.2.2.1]; exact fun z => by cases z)).trans m0.2.2.1, m0.2.2.2⟩, (el 0).trans m5, (el 1).trans m6, ?_, ?_⟩
            · simp only [am_ur]
              rw [if_neg (by simp [e])]
              exact m0.1
            · rw [el, vk _ (by omega) (by omega) (by omega) (by omega)]; exact m7
            · rw [vk _ (by omega) (by omega) (by omega) (by omega)]; exact m8
        · rw [w5, v3, f1]
        · rw [e2 _ (by decide) (by decide), vk _ (by decide) (by decide) (by omega) (by omega)]; exact f2
        · rw [e2 _ (by decide) (by decide)]; exact f3
        · rw [e2 _ (by decide) (by decide)]; exact f4
        · rw [e2 _ (by decide) (by decide), vk _ (by decide) (by decide) (by omega) (by omega)]; exact f5
        · rw [e2 _ (by decide) (by decide)]; exact f6
        · rw [e2 _ (by decide) (by decide)]; exact f7
        · rw [e2 _ (by decide) (by decide), vk _ (by decide) (by decide) (by omega) (by omega)]; exact f8
        · rw [e2 _ (by decide) (by decide), vk _ (by decide) (by decide) (by omega) (by omega)]; exact f9
      · rw [wg _ _ (by simp) (by simp), vg _ _ (by simp) (Or.inl rfl)]
        exact h6
      · rw [wg _ _ (by simp) (by simp)] at z
        obtain ⟨n', nl', ln', lk', z0', y0', z1', y1', zt', zw', hX'⟩ := (h7 z).x
        refine ((hX'.cg2 (w' := W) (u' := V) (fun q k z n22 => wq q k (fun e => n22 (by rw [e])) (fun e1 => by have e2 := e1.1; subst e2; unfold dR at z; simp at z)) (fun j hj k => ?_) (fun k => vg _ _ (by simp) (Or.inr rfl))).r).kd kk (fun k => by simp [am_ur])
        have m0 := (hX'.2.1.2.2.2 j hj).1
        exact wq _ _ (kq _ (by rw [m0.2.2.1]; exact fun z => by cases z)) (fun z => by have := m0.2.2.2; rw [z.1] at this; simp at this)
    exact hrel.same (fun q k hq => vq q k (fun e => by subst e; unfold cN at hq; simp at hq)) (fun _ _ _ => rfl)
  · left
    have hbad : sr_b (0 ≤ x ∧ x ≤ 6) = 0 ∨ sr_b (0 ≤ y ∧ y ≤ 99) = 0 ∨ ¬ iv (2, 0, 0) 4 < 6 := by
      by_cases c0 : sr_b (0 ≤ x ∧ x ≤ 6) = 0
      · exact Or.inl c0
      · by_cases c1 : sr_b (0 ≤ y ∧ y ≤ 99) = 0
        · exact Or.inr (Or.inl c1)
        · refine Or.inr (Or.inr (fun z => G ⟨c0, c1, ?_⟩))
          rw [hX.2.1.1] at z
          exact (nI_ltn (b := 6) (by have := hX.2.1.2.2.1; omega) (by decide)).mp z
    refine CALL.ff (d2 := 2) h (c_lawE x y) (d_law x y nl) (p_lawE l h.S x y hbad) (fun q k hq => ?_) (fun h1 eu => ?_) (by decide) (by decide) (fun u hu eu => ?_) (fun u q k hq => ?_)
    · unfold c_lawE
      repeat' split
      all_goals exact er_u hq
    · have hX := hX.u eu
      exact q_law l h1.R x y nl hX.2.1.2.1 hX.2.1.2.2.1
    · have hX := hX.u eu
      unfold c_lawE d_law
      by_cases c0 : sr_b (0 ≤ x ∧ x ≤ 6) = 0
      · rw [if_pos c0, if_pos c0]; exact ⟨rfl, hu.err 1 (by decide)⟩
      rw [if_neg c0, if_neg c0]
      by_cases c1 : sr_b (0 ≤ y ∧ y ≤ 99) = 0
      · rw [if_pos c1, if_pos c1]; exact ⟨rfl, hu.err 1 (by decide)⟩
      have e6 : nl = 6 := by
        have := hX.2.1.2.2.1
        rcases Nat.lt_or_ge nl 6 with z | z
        · exact absurd ⟨c0, c1, z⟩ G
        · omega
      rw [if_neg c1, if_neg c1, if_pos (by rw [hX.2.1.2.1, e6]; rfl)]
      exact ⟨rfl, hu.err 4 (by decide)⟩
    · unfold d_law
      repeat' split
      all_goals first
        | exact rx_c hq
        | (dsimp only; rw [ui_c hq (by simp), ui_c hq (by simp), ui_c hq (by simp), ui_c hq (by simp)])
