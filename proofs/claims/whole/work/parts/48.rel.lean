/-! The relation: a room of the class against a row of the reference, and what else both keep -/
def tRel (use zc zr : Nat) (cd bt : Nat → Int32) : Prop := ∀ (x y t : Int32) (nt : Nat → Int32), gv_pure use zc x y t cd = gr_pure use zr x y t bt nt
def rR_n (i a n : Nat) (w u : am_iv) : Prop := w (2, i, 0) 1 = nI n ∧ u (31, a, 0) 1 = nI n ∧ n ≤ 8
def rR_r (i a n : Nat) (w u : am_iv) : Prop := (∀ r, r < n → ∀ k, 1 ≤ k → k ≤ 7 → w (4, i, r) k = u (31, a, 0) (79 + 8 * r + k)) ∧ ∀ r, r < n → rok (w (4, i, r))
def rR_l (kd : am_kd) (rv : am_rv) (i a nl : Nat) (ln : Nat → am_N) (lk : Nat → Nat) (w u : am_iv) : Prop := w (2, i, 0) 4 = nI nl ∧ u (31, a, 0) 2 = nI nl ∧ nl ≤ 6 ∧ ∀ j, j < nl → (rv (7, i, 0) j = some (ln j) ∧ lk j < 7 ∧ kd (ln j) = some (.inl (lw_ci (lk j))) ∧ (ln j).1 = 22) ∧ w (ln j) 0 = nI (lk j) ∧ w (ln j) 1 = nI j ∧ w (ln j) 2 = u (31, a, 0) (21 + 2 * j) ∧ u (31, a, 0) (20 + 2 * j) = nI (lk j)
def rR_f (i a : Nat) (w u : am_iv) : Prop := w (2, i, 0) 5 = u (31, a, 0) 3 ∧ (w (2, i, 0) 6 = u (31, a, 0) 4 ∧ -99999 ≤ (w (2, i, 0) 6).toInt ∧ (w (2, i, 0) 6).toInt ≤ 99999) ∧ (w (2, i, 0) 7 = u (31, a, 0) 5 ∧ 1 ≤ (w (2, i, 0) 7).toInt ∧ (w (2, i, 0) 7).toInt ≤ 50) ∧ w (2, i, 0) 8 = u (31, a, 0) 0 ∧ w (2, i, 0) 9 = u (31, a, 0) 6
def rR_t (i a use zc zr : Nat) (w u : am_iv) : Prop := w (9, i, use) 1 = nI zc ∧ zc ≤ 50 ∧ u (31, a, 0) (40 + use) = nI zr ∧ zr ≤ 50 ∧ tRel use zc zr (w (10, i, use)) (fun p => u (31, a, 0) (150 + 50 * use + p))
def rR_p (i a zt : Nat) (w u : am_iv) : Prop := w (12, i, 0) 1 = nI zt ∧ u (31, a, 0) 7 = nI zt ∧ zt ≤ 50 ∧ ∀ k, k < zt → w (13, i, 0) k = u (31, a, 0) (250 + k) ∧ 0 ≤ w (13, i, 0) k ∧ w (13, i, 0) k ≤ 255
def rR_w (i a zw : Nat) (w u : am_iv) : Prop := w (14, i, 0) 1 = nI zw ∧ u (31, a, 0) 8 = nI zw ∧ zw ≤ 20 ∧ ∀ k, k < zw → w (15, i, 0) k = u (31, a, 0) (50 + k)
def rR (kd : am_kd) (rv : am_rv) (i a : Nat) (w u : am_iv) : Prop := (∃ n, rR_n i a n w u ∧ rR_r i a n w u) ∧ (∃ nl ln lk, rR_l kd rv i a nl ln lk w u) ∧ rR_f i a w u ∧ ((∃ zc zr, rR_t i a 0 zc zr w u) ∧ ∃ zc zr, rR_t i a 1 zc zr w u) ∧ (∃ zt, rR_p i a zt w u) ∧ ∃ zw, rR_w i a zw w u
def gR_s (w u : am_iv) : Prop := ∀ s, s < 4 → w (17, s, 0) 2 = u (31, 17, 0) s ∧ ∃ sz, sz ≤ 40 ∧ w (17, s, 0) 1 = nI sz ∧ u (31, 18, 0) s = nI sz ∧ ∀ k, k < sz → w (18, s, 0) k = u (31, 19, 0) (40 * s + k)
def gR_t (w u : am_iv) : Prop := ∃ st, st ≤ 40 ∧ w (19, 0, 0) 1 = nI st ∧ u (30, 0, 0) 15 = nI st ∧ ∀ k, k < st → w (20, 0, 0) k = u (31, 14, 0) k
def gR_e (w u : am_iv) : Prop := ∀ k, k < 6 → w (21, 0, 0) k = u (31, 6, 0) k
def gR_0 (w : am_iv) : Prop := ∀ i r, i < 4 → r < 8 → w (4, i, r) 0 = nI r ∧ w (6, i, r) 0 = nI r
def kR (kd : am_kd) (rv : am_rv) : Prop := sh kd rv ∧ shr kd rv ∧ (∀ i, i < 2 → ∀ j, j < 2 → kd (40, i, j) = some (.inr (9, 0))) ∧ (∀ i, i < 4 → la_ok kd rv i)
def gR_q (kd : am_kd) (rv : am_rv) (w : am_iv) : Prop := ∃ Q, ∀ q, Q ≤ q → kd (22, q, 0) = none ∧ ∀ k, rv (22, q, 0) k = none ∧ w (22, q, 0) k = 0
def REL (kd : am_kd) (rv : am_rv) (w u : am_iv) : Prop := kR kd rv ∧ (gR_s w u ∧ gR_t w u ∧ gR_e w u ∧ gR_0 w ∧ gR_q kd rv w) ∧ rR kd rv 0 0 w u ∧ w (1, 0, 0) 4 = u (30, 0, 0) 5 ∧ (¬ w (1, 0, 0) 4 = 0 → rR kd rv 3 4 w u)
/-- a name of room i -/
def inR (i : Nat) (q : am_N) : Prop := 2 ≤ q.1 ∧ q.1 ≤ 15 ∧ q.2.1 = i
/-- what rR looks at in room i -/
def dR (i : Nat) (q : am_N) (k : Nat) : Prop := q.1 = 22 ∨ (q.2.1 = i ∧ (q.1 = 2 ∨ q.1 = 4 ∨ q.1 = 10 ∨ q.1 = 12 ∨ q.1 = 13 ∨ q.1 = 14 ∨ q.1 = 15 ∨ (q.1 = 9 ∧ k = 1)))
theorem rR.congr {kd : am_kd} {rv : am_rv} {i a : Nat} {w u w' u' : am_iv} (hw : ∀ q k, dR i q k → w' q k = w q k) (hu : ∀ k, u' (31, a, 0) k = u (31, a, 0) k) (h : rR kd rv i a w u) : rR kd rv i a w' u' := by
  obtain ⟨⟨n, h1, h2⟩, ⟨nl, ln, lk, h3⟩, h4, ⟨⟨z0, y0, h5⟩, z1, y1, h6⟩, ⟨zt, h7⟩, zw, h8⟩ := h
  have e2 : ∀ k, w' (2, i, 0) k = w (2, i, 0) k := fun k => hw _ k (Or.inr ⟨rfl, Or.inl rfl⟩)
  have e4 : ∀ r k, w' (4, i, r) k = w (4, i, r) k := fun r k => hw _ k (Or.inr ⟨rfl, Or.inr (Or.inl rfl)⟩)
  have e4f : ∀ r, w' (4, i, r) = w (4, i, r) := fun r => funext (e4 r)
  have e10 : ∀ r, w' (10, i, r) = w (10, i, r) := fun r => funext (fun k => hw _ k (Or.inr ⟨rfl, Or.inr (Or.inr (Or.inl rfl))⟩))
  have e12 : ∀ k, w' (12, i, 0) k = w (12, i, 0) k := fun k => hw _ k (Or.inr ⟨rfl, Or.inr (Or.inr (Or.inr (Or.inl rfl)))⟩)
  have e13 : ∀ k, w' (13, i, 0) k = w (13, i, 0) k := fun k => hw _ k (Or.inr ⟨rfl, Or.inr (Or.inr (Or.inr (Or.inr (Or.inl rfl))))⟩)
  have e14 : ∀ k, w' (14, i, 0) k = w (14, i, 0) k := fun k => hw _ k (Or.inr ⟨rfl, Or.inr (Or.inr (Or.inr (Or.inr (Or.inr (Or.inl rfl)))))⟩)
  have e15 : ∀ k, w' (15, i, 0) k = w (15, i, 0) k := fun k => hw _ k (Or.inr ⟨rfl, Or.inr (Or.inr (Or.inr (Or.inr (Or.inr (Or.inr (Or.inl rfl))))))⟩)
  have e9 : ∀ r, w' (9, i, r) 1 = w (9, i, r) 1 := fun r => hw _ 1 (Or.inr ⟨rfl, Or.inr (Or.inr (Or.inr (Or.inr (Or.inr (Or.inr (Or.inr ⟨rfl, rfl⟩))))))⟩)
  have ef : u' (31, a, 0) = u (31, a, 0) := funext hu
  refine ⟨⟨n, ?_, ?_⟩, ⟨nl, ln, lk, ?_⟩, ?_, ⟨⟨z0, y0, ?_⟩, z1, y1, ?_⟩, ⟨zt, ?_⟩, zw, ?_⟩
  · unfold rR_n; rw [e2, hu]; exact h1
  · unfold rR_r; simp only [e4f, hu]; exact h2
  · obtain ⟨a1, a2, a3, a4⟩ := h3
    refine ⟨by rw [e2]; exact a1, by rw [hu]; exact a2, a3, fun j hj => ?_⟩
    obtain ⟨b1, b2, b3, b4, b5⟩ := a4 j hj
    have el : ∀ k, w' (ln j) k = w (ln j) k := fun k => hw _ k (Or.inl b1.2.2.2)
    exact ⟨b1, by rw [el]; exact b2, by rw [el]; exact b3, by rw [el, hu]; exact b4, by rw [hu]; exact b5⟩
  · unfold rR_f; simp only [e2, hu]; exact h4
  · unfold rR_t; rw [e9, e10, ef]; exact h5
  · unfold rR_t; rw [e9, e10, ef]; exact h6
  · unfold rR_p; simp only [e12, e13, hu]; exact h7
  · unfold rR_w; simp only [e14, e15, hu]; exact h8
/-- what both keep besides the rooms -/
def dG (q : am_N) (k : Nat) : Prop := q.1 = 17 ∨ q.1 = 18 ∨ q.1 = 19 ∨ q.1 = 20 ∨ q.1 = 21 ∨ (q.1 = 1 ∧ k = 4)
def dU (q : am_N) (k : Nat) : Prop := q = (31, 6, 0) ∨ q = (31, 14, 0) ∨ q = (31, 17, 0) ∨ q = (31, 18, 0) ∨ q = (31, 19, 0) ∨ (q = (30, 0, 0) ∧ (k = 5 ∨ k = 15))
theorem gR_s.congr {w u w' u' : am_iv} (hw : ∀ q k, dG q k → w' q k = w q k) (hu : ∀ q k, dU q k → u' q k = u q k) (h : gR_s w u) : gR_s w' u' := by
  intro s hs
  obtain ⟨h1, sz, h2, h3, h4, h5⟩ := h s hs
  exact ⟨by rw [hw _ _ (Or.inl rfl), hu _ _ (Or.inr (Or.inr (Or.inl rfl)))]; exact h1, sz, h2, by rw [hw _ _ (Or.inl rfl)]; exact h3, by rw [hu _ _ (Or.inr (Or.inr (Or.inr (Or.inl rfl))))]; exact h4, fun k hk => by rw [hw _ _ (Or.inr (Or.inl rfl)), hu _ _ (Or.inr (Or.inr (Or.inr (Or.inr (Or.inl rfl)))))]; exact h5 k hk⟩
theorem gR_t.congr {w u w' u' : am_iv} (hw : ∀ q k, dG q k → w' q k = w q k) (hu : ∀ q k, dU q k → u' q k = u q k) (h : gR_t w u) : gR_t w' u' := by
  obtain ⟨st, h1, h2, h3, h4⟩ := h
  exact ⟨st, h1, by rw [hw _ _ (Or.inr (Or.inr (Or.inl rfl)))]; exact h2, by rw [hu _ _ (Or.inr (Or.inr (Or.inr (Or.inr (Or.inr ⟨rfl, Or.inr rfl⟩)))))]; exact h3, fun k hk => by rw [hw _ _ (Or.inr (Or.inr (Or.inr (Or.inl rfl)))), hu _ _ (Or.inr (Or.inl rfl))]; exact h4 k hk⟩
theorem gR_e.congr {w u w' u' : am_iv} (hw : ∀ q k, dG q k → w' q k = w q k) (hu : ∀ q k, dU q k → u' q k = u q k) (h : gR_e w u) : gR_e w' u' := by
  intro k hk
  rw [hw _ _ (Or.inr (Or.inr (Or.inr (Or.inr (Or.inl rfl))))), hu _ _ (Or.inl rfl)]
  exact h k hk
/-- the rest is kept where room 0 alone (and rooms to try things in) changed -/
theorem REL.upd0 {kd : am_kd} {rv : am_rv} {w u w' u' : am_iv} (h : REL kd rv w u) (hw : ∀ q k, (dG q k ∨ dR 3 q k ∨ ((q.1 = 4 ∨ q.1 = 6) ∧ k = 0)) → w' q k = w q k) (hu : ∀ q k, (dU q k ∨ q = (31, 4, 0)) → u' q k = u q k) (h0 : rR kd rv 0 0 w' u') : REL kd rv w' u' := by
  obtain ⟨hk, ⟨h1, h2, h3, h4, Q, h8⟩, -, h6, h7⟩ := h
  have hG := fun q k (z : dG q k) => hw q k (Or.inl z)
  have hU := fun q k (z : dU q k) => hu q k (Or.inl z)
  have e1 : w' (1, 0, 0) 4 = w (1, 0, 0) 4 := hG _ _ (Or.inr (Or.inr (Or.inr (Or.inr (Or.inr ⟨rfl, rfl⟩)))))
  have e2 : u' (30, 0, 0) 5 = u (30, 0, 0) 5 := hU _ _ (Or.inr (Or.inr (Or.inr (Or.inr (Or.inr ⟨rfl, Or.inl rfl⟩)))))
  refine ⟨hk, ⟨h1.congr hG hU, h2.congr hG hU, h3.congr hG hU, fun i r hi hr => ?_, Q, fun q hq => ⟨(h8 q hq).1, fun k => ⟨((h8 q hq).2 k).1, (hw _ _ (Or.inr (Or.inl (Or.inl rfl)))).trans ((h8 q hq).2 k).2⟩⟩⟩, h0, by rw [e1, e2]; exact h6, fun z => ?_⟩
  · rw [hw _ _ (Or.inr (Or.inr ⟨Or.inl rfl, rfl⟩)), hw _ _ (Or.inr (Or.inr ⟨Or.inr rfl, rfl⟩))]
    exact h4 i r hi hr
  · rw [e1] at z
    exact (h7 z).congr (fun q k d => hw q k (Or.inr (Or.inl d))) (fun k => hu _ k (Or.inr rfl))
/-- nothing that is looked at changed -/
theorem REL.congr {kd : am_kd} {rv : am_rv} {w u w' u' : am_iv} (h : REL kd rv w u) (hw : ∀ q k, (dG q k ∨ dR 3 q k ∨ dR 0 q k ∨ ((q.1 = 4 ∨ q.1 = 6) ∧ k = 0)) → w' q k = w q k) (hu : ∀ q k, (dU q k ∨ q = (31, 4, 0) ∨ q = (31, 0, 0)) → u' q k = u q k) : REL kd rv w' u' :=
  h.upd0 (fun q k z => hw q k (z.elim Or.inl (fun z => z.elim (fun z => Or.inr (Or.inl z)) (fun z => Or.inr (Or.inr (Or.inr z)))))) (fun q k z => hu q k (z.elim Or.inl (fun z => Or.inr (Or.inl z)))) (h.2.2.1.congr (fun q k z => hw q k (Or.inr (Or.inr (Or.inl z)))) (fun k => hu _ k (Or.inr (Or.inr rfl))))
/-- an error is counted on both sides -/
theorem REL.err {kd : am_kd} {rv : am_rv} {w u : am_iv} (h : REL kd rv w u) (j : Nat) (hj : j < 6) : REL kd rv (er_heap j w) (rx_find j u) := by
  obtain ⟨hk, ⟨h1, h2, h3, h4, Q, h8⟩, h5, h6, h7⟩ := h
  unfold er_heap rx_find
  refine ⟨hk, ⟨?_, ?_, ?_, ?_, Q, fun q hq => ⟨(h8 q hq).1, fun k => ⟨((h8 q hq).2 k).1, (am_ui_o (by simp)).trans ((h8 q hq).2 k).2⟩⟩⟩, ?_, ?_, ?_⟩
  · intro s hs
    obtain ⟨a1, sz, a2, a3, a4, a5⟩ := h1 s hs
    exact ⟨by rw [am_ui_o (by simp), am_ui_o (by simp)]; exact a1, sz, a2, by rw [am_ui_o (by simp)]; exact a3, by rw [am_ui_o (by simp)]; exact a4, fun k hk => by rw [am_ui_o (by simp), am_ui_o (by simp)]; exact a5 k hk⟩
  · obtain ⟨st, a1, a2, a3, a4⟩ := h2
    exact ⟨st, a1, by rw [am_ui_o (by simp)]; exact a2, by rw [am_ui_o (by simp)]; exact a3, fun k hk => by rw [am_ui_o (by simp), am_ui_o (by simp)]; exact a4 k hk⟩
  · intro k hk
    by_cases e : k = j
    · subst e; rw [am_ui_s, am_ui_s, h3 k hk]
    · rw [am_ui_n (by simp [e]), am_ui_n (by simp [e])]; exact h3 k hk
  · intro i r hi hr
    rw [am_ui_o (by simp), am_ui_o (by simp)]; exact h4 i r hi hr
  · exact h5.congr (fun q k z => am_ui_o (fun e => by subst e; rcases z with z | ⟨-, z⟩ <;> simp at z)) (fun k => am_ui_o (by simp))
  · rw [am_ui_o (by simp), am_ui_o (by simp)]; exact h6
  · rw [am_ui_o (by simp)]
    intro z
    exact (h7 z).congr (fun q k z => am_ui_o (fun e => by subst e; rcases z with z | ⟨-, z⟩ <;> simp at z)) (fun k => am_ui_o (by simp))
theorem REL.S {kd : am_kd} {rv : am_rv} {w u : am_iv} (h : REL kd rv w u) : sh kd rv := h.1.1
theorem REL.R {kd : am_kd} {rv : am_rv} {w u : am_iv} (h : REL kd rv w u) : shr kd rv := h.1.2.1
/-- class side and reference side are told apart by their names -/
def cN (q : am_N) : Prop := q.1 ≤ 22
def uN (q : am_N) : Prop := q.1 = 30 ∨ q.1 = 31
theorem REL.same {kd : am_kd} {rv : am_rv} {w u w' u' : am_iv} (h : REL kd rv w u) (hw : ∀ q k, cN q → w' q k = w q k) (hu : ∀ q k, uN q → u' q k = u q k) : REL kd rv w' u' := by
  refine h.congr (fun q k z => hw q k ?_) (fun q k z => hu q k ?_)
  · unfold cN
    rcases z with z | z | z | z
    · unfold dG at z; omega
    · unfold dR at z; omega
    · unfold dR at z; omega
    · omega
  · unfold uN
    rcases z with z | z | z
    · rcases z with e | e | e | e | e | ⟨e, -⟩ <;> (subst e; simp)
    · subst z; simp
    · subst z; simp
