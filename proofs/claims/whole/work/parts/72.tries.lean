theorem chB.tick {n z nl : Nat} {ln : Nat → am_N} {lk : Nat → Nat} {w : am_iv} : chB w (rm_tick 1 n z nl ln lk w) := fun q k h => by
  rcases h with ⟨e, h4, h7⟩ | e | ⟨e, e1⟩ | e | ⟨e, e1⟩
  · subst e
    exact rm_tick_fr ⟨by simp [gb], by simp⟩ (by simp) (fun z => by omega)
  · exact rm_tick_fr ⟨by unfold gb; omega, by omega⟩ (by omega) (fun z => by rw [z.1] at e; simp at e)
  · exact rm_tick_fr ⟨by unfold gb; omega, by omega⟩ (by omega) (fun z => by rw [z.1] at e; simp at e)
  · exact rm_tick_fr ⟨by unfold gb; omega, by omega⟩ (by omega) (fun z => by rw [z.1] at e; simp at e)
  · exact chg.tick q k (Or.inr ⟨e, e1⟩)
theorem chB.itt {T : am_iv → am_iv} (hT : ∀ w, chB w (T w)) (N : Nat) : ∀ w, chB w (it T N w) := by
  induction N with
  | zero => intro w; exact chB.rf _
  | succ N ih => intro w; exact (hT w).tr (ih (T w))
theorem chB.cff {T : am_iv → am_iv} {F : am_iv → Int32} {e : Int32} (hT : ∀ w, chB w (T w)) (N : Nat) : ∀ c f w, chB w (cf T F e N c f w).2 := by
  induction N with
  | zero => intro c f w; exact chB.rf _
  | succ N ih =>
    intro c f w
    unfold cf
    split
    · exact chB.rf _
    · exact (hT w).tr (ih _ _ _)
theorem chB.gxx {T : am_iv → am_iv} {n : am_N} (hT : ∀ w, chB w (T w)) (N : Nat) : ∀ g w, chB w (gx T n N g w).2 := by
  induction N with
  | zero => intro g w; exact chB.rf _
  | succ N ih =>
    intro g w
    unfold gx
    split
    · exact chB.rf _
    · exact (hT w).tr (ih _ _)
theorem chB.ui {w : am_iv} {n : am_N} {k : Nat} {v : Int32} (h : ¬ fB n k) : chB w (am_ui w n k v) := fun q j hq => am_ui_n (fun e => h (by rw [← e.1, ← e.2]; exact hq))
theorem chB.n {w : am_iv} {v : Int32} : chB w (am_ui w (2, 1, 0) 1 v) := chB.ui (by unfold fB; simp)
theorem chB.r {w : am_iv} {i r k : Nat} {v : Int32} (hk : k ≠ 0) : chB w (am_ui w (4, i, r) k v) := chB.ui (by unfold fB; simp [hk])
theorem chB.ring {i r : Nat} {x y a b c d : Int32} {w : am_iv} : chB w (rm_ring (4, i, r) x y a b c d w) := ((((((chB.r (by decide)).tr (chB.r (by decide))).tr (chB.r (by decide))).tr (chB.r (by decide))).tr (chB.r (by decide))).tr (chB.r (by decide))).tr (chB.r (by decide))
theorem chB.gv {i u z : Nat} {a b c : Int32} {w : am_iv} : chB w (gv_heap i u z a b c w) := fun q k h => gv_heap_o (fun e => by
  unfold gb at e
  rcases h with ⟨h, -, -⟩ | h | h | h | h
  · subst h; simp at e
  all_goals omega)
theorem chB.as {n z : Nat} {a b : Int32} {w : am_iv} : chB w (as_heap 1 n z a b w) := (chB.gv.tr chB.ring).tr chB.n
theorem chB.tr_ {i o n : Nat} (hi : i = 1 ∨ i = 2) {w : am_iv} : chB w (tr_heap i o n w) := fun q k h => by
  rcases h with ⟨e, h4, h7⟩ | e | ⟨e, e1⟩ | e | ⟨e, e1⟩
  · subst e
    unfold tr_heap
    rw [tr_cp_o (by simp), am_ui_n (fun z => by have := z.2; omega)]
  · unfold tr_heap
    rw [tr_cp_o (by omega), am_ui_o (fun z => by rw [z] at e; simp at e)]
  · unfold tr_heap
    rw [tr_cp_o (by omega), am_ui_o (fun z => by rw [z] at e; simp at e)]
  · unfold tr_heap
    rw [tr_cp_o (by omega), am_ui_o (fun z => by rw [z] at e; simp at e)]
  · exact chg.trh q k (Or.inr ⟨e, e1⟩)
theorem chU.add {a n : Nat} {x y d t wd tk : Int32} {u : am_iv} : chU a u (rx_add (31, a, 0) n x y d t wd tk u) := fun q k n1 _ _ _ => rx_add_o (Or.inl n1)
theorem chU.rs {a n z : Nat} {x y : Int32} {u : am_iv} : chU a u (rs_heap a n z x y u) := chU.gr.tr chU.add
/-- rings are being put into the room ahead -/
def yR (kd : am_kd) (rv : am_rv) (nl : Nat) (ln : Nat → am_N) (lk : Nat → Nat) (z0 y0 z1 y1 n : Nat) (w u : am_iv) : Prop := (bR kd rv nl ln lk z0 y0 z1 y1 1 w u ∧ oR 1 w u) ∧ rR_n 1 1 n w u ∧ rR_r 1 1 n w u
theorem yR.tR {kd : am_kd} {rv : am_rv} {nl : Nat} {ln : Nat → am_N} {lk : Nat → Nat} {z0 y0 z1 y1 : Nat} {n : Nat} {w u : am_iv} (h : yR kd rv nl ln lk z0 y0 z1 y1 n w u) : tR 1 1 n nl z1 y1 ln lk w u := h.1.1.tR h.1.2 h.2.1 h.2.2
theorem yR.zero {kd : am_kd} {rv : am_rv} {nl : Nat} {ln : Nat → am_N} {lk : Nat → Nat} {z0 y0 z1 y1 : Nat} {a : Nat} {w u : am_iv} (h : bR kd rv nl ln lk z0 y0 z1 y1 a w u) (ho : oR a w u) : yR kd rv nl ln lk z0 y0 z1 y1 0 (am_ui w (2, 1, 0) 1 0) (am_ui (rx_cp (31, a, 0) (31, 1, 0) u 300) (31, 1, 0) 1 0) := by
  refine ⟨⟨((h.cp (b := 1) (by decide)).cw chB.n).cu (fun k h2 _ _ _ => am_ui_n (by simp; omega)) (fun k _ _ => am_ui_o (by simp)), ?_⟩, ⟨am_ui_s _ _ _ _, am_ui_s _ _ _ _, by decide⟩, fun r hr => absurd hr (by omega), fun r hr => absurd hr (by omega)⟩
  have o1 : oR 1 w (rx_cp (31, a, 0) (31, 1, 0) u 300) := ho.cp
  unfold oR at o1 ⊢
  rw [am_ui_n (by simp), am_ui_n (by simp)]
  exact o1
theorem yR.add {kd : am_kd} {rv : am_rv} {nl : Nat} {ln : Nat → am_N} {lk : Nat → Nat} {z0 y0 z1 y1 : Nat} {n : Nat} {w u : am_iv} (h : yR kd rv nl ln lk z0 y0 z1 y1 n w u) (hn7 : n < 8) (x y d t wd tk : Int32) (hok : rok (rgv x y d t wd tk)) : yR kd rv nl ln lk z0 y0 z1 y1 (n + 1) (am_ui (rm_ring (4, 1, n) x y d t wd tk w) (2, 1, 0) 1 (nI (n + 1))) (rx_add (31, 1, 0) n x y d t wd tk u) := by
  have hw : chB w (am_ui (rm_ring (4, 1, n) x y d t wd tk w) (2, 1, 0) 1 (nI (n + 1))) := chB.ring.tr chB.n
  refine ⟨⟨(h.1.1.cw hw).cu (fun k h2 _ _ h8 => rx_add_o (Or.inr ⟨by omega, by omega⟩)) (fun k _ _ => rx_add_o (Or.inl (by simp))), ?_⟩, ⟨am_ui_s _ _ _ _, ?_, by omega⟩, ring_add hn7 x y d t wd tk hok h.2.2⟩
  · have o2 := h.1.2.cw hw
    unfold oR at o2 ⊢
    rw [rx_add_o (Or.inr ⟨by decide, by omega⟩)]
    exact o2
  · unfold rx_add
    rw [am_ui_s]
theorem bR.given {kd : am_kd} {rv : am_rv} {nl : Nat} {ln : Nat → am_N} {lk : Nat → Nat} {z0 y0 z1 y1 : Nat} {a : Nat} {w u : am_iv} (h : bR kd rv nl ln lk z0 y0 z1 y1 a w u) (x y t : Int32) : gv_raw 1 0 z0 x y t w = gr_raw 0 y0 x y t u := by
  obtain ⟨⟨-, e2, -, -, e5⟩, -⟩ := h.2.2.1
  rw [gv_raw_p 1 0 z0 e2, gr_raw_p (fun p => rfl) (fun k _ => rfl)]
  exact e5 x y t _
theorem yR.gv {kd : am_kd} {rv : am_rv} {nl : Nat} {ln : Nat → am_N} {lk : Nat → Nat} {z0 y0 z1 y1 : Nat} {n : Nat} {w u : am_iv} (h : yR kd rv nl ln lk z0 y0 z1 y1 n w u) (x y t x' y' t' : Int32) : yR kd rv nl ln lk z0 y0 z1 y1 n (gv_heap 1 0 z0 x y t w) (gr_heap 0 y0 x' y' t' u) := by
  have hu : ∀ i k, (i = 0 ∨ i = 1) → gr_heap 0 y0 x' y' t' u (31, i, 0) k = u (31, i, 0) k := fun i k hi => (chU.gr (a := 2) : chU 2 u _) _ _ (by simp; omega) (by simp; omega) (by simp; omega) (by simp)
  refine ⟨⟨(h.1.1.cw chB.gv).cu (fun k _ _ _ _ => hu 1 k (Or.inr rfl)) (fun k _ _ => hu 0 k (Or.inl rfl)), ?_⟩, ⟨?_, (hu 1 1 (Or.inr rfl)).trans h.2.1.2.1, h.2.1.2.2⟩, fun r hr k q1 q7 => ?_, fun r hr => rok_f (h.2.2.2 r hr) (fun k _ _ => gv_heap_o (by simp [gb]))⟩
  · have o2 := h.1.2.cw (chB.gv (i := 1) (u := 0) (z := z0) (a := x) (b := y) (c := t))
    unfold oR at o2 ⊢
    rw [hu 1 3 (Or.inr rfl)]
    exact o2
  · rw [gv_heap_o (by simp [gb])]
    exact h.2.1.1
  · rw [gv_heap_o (by simp [gb]), hu 1 _ (Or.inr rfl)]
    exact h.2.2.1 r hr k q1 q7
theorem yR.stroke {kd : am_kd} {rv : am_rv} {nl : Nat} {ln : Nat → am_N} {lk : Nat → Nat} {z0 y0 z1 y1 : Nat} {n : Nat} {w u : am_iv} (h : yR kd rv nl ln lk z0 y0 z1 y1 n w u) (hn7 : n < 8) (x y : Int32) : yR kd rv nl ln lk z0 y0 z1 y1 (n + 1) (as_heap 1 n z0 x y w) (rs_heap 1 n y0 x y u) := by
  unfold as_heap rs_heap
  have e7 := h.1.1.2.1.2.1
  rw [← e7, ← h.1.1.given]
  exact (h.gv _ _ _ _ _ _).add hn7 _ _ _ _ _ _ (stroke_ok h.1.1.2.1.2.2.1 h.1.1.2.1.2.2.2)
/-- what the class keeps from one try to the next; what the reference keeps -/
def sQ (kd : am_kd) (rv : am_rv) (nl : Nat) (ln : Nat → am_N) (lk : Nat → Nat) (z0 z1 : Nat) (w : am_iv) : Prop := ∃ y0 y1 u, bR kd rv nl ln lk z0 y0 z1 y1 0 w u ∧ oR 0 w u
def vQ (nl : Nat) (lk : Nat → Nat) (y0 y1 : Nat) (u : am_iv) : Prop := ∃ kd rv ln z0 z1 w, bR kd rv nl ln lk z0 y0 z1 y1 0 w u ∧ oR 0 w u
theorem sQ.c {kd : am_kd} {rv : am_rv} {nl : Nat} {ln : Nat → am_N} {lk : Nat → Nat} {z0 z1 : Nat} {w w' : am_iv} (h : sQ kd rv nl ln lk z0 z1 w) (hw : chB w w') : sQ kd rv nl ln lk z0 z1 w' := by
  obtain ⟨y0, y1, u, h1, h2⟩ := h
  exact ⟨y0, y1, u, h1.cw hw, h2.cw hw⟩
theorem sQ.laws {kd : am_kd} {rv : am_rv} {nl : Nat} {ln : Nat → am_N} {lk : Nat → Nat} {z0 z1 : Nat} {w : am_iv} (h : sQ kd rv nl ln lk z0 z1 w) : rm_laws kd rv w 1 nl ln lk := by
  obtain ⟨y0, y1, u, h1, h2⟩ := h
  exact h1.laws
theorem bR.cV {kd : am_kd} {rv : am_rv} {nl : Nat} {ln : Nat → am_N} {lk : Nat → Nat} {z0 y0 z1 y1 : Nat} {w u u' : am_iv} (h : bR kd rv nl ln lk z0 y0 z1 y1 0 w u) (hu : chV u u') : bR kd rv nl ln lk z0 y0 z1 y1 0 w u' := h.cu (fun k _ _ _ _ => hu.r0 k) (fun k _ _ => hu.r0 k)
theorem oR.cV {w u u' : am_iv} (h : oR 0 w u) (hu : chV u u') : oR 0 w u' := h.trans (hu.r0 3).symm
theorem vQ.c {nl : Nat} {lk : Nat → Nat} {y0 y1 : Nat} {u u' : am_iv} (h : vQ nl lk y0 y1 u) (hu : chV u u') : vQ nl lk y0 y1 u' := by
  obtain ⟨kd, rv, ln, z0, z1, w, h1, h2⟩ := h
  exact ⟨kd, rv, ln, z0, z1, w, h1.cV hu, h2.cV hu⟩
