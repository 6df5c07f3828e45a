/-- from w to w' only names of room i changed, and no ring's number -/
def chg (i : Nat) (w w' : am_iv) : Prop := ∀ q k, ¬ inR i q ∨ ((q.1 = 4 ∨ q.1 = 6) ∧ k = 0) → w' q k = w q k
theorem chg.rf (i : Nat) (w : am_iv) : chg i w w := fun _ _ _ => rfl
theorem chg.tr {i : Nat} {a b c : am_iv} (h1 : chg i a b) (h2 : chg i b c) : chg i a c := fun q k h => (h2 q k h).trans (h1 q k h)
theorem chg.ui {i : Nat} {w : am_iv} {n : am_N} {k : Nat} {v : Int32} (hn : inR i n) (hk : n.1 ≠ 4 ∧ n.1 ≠ 6 ∨ k ≠ 0) : chg i w (am_ui w n k v) := by
  intro q j h
  refine am_ui_n (fun e => ?_)
  rcases h with h | h
  · exact h (by rw [e.1]; exact hn)
  · rw [e.1, e.2] at h
    rcases hk with hk | hk
    · rcases h.1 with z | z
      · exact hk.1 z
      · exact hk.2 z
    · exact hk h.2
theorem inR2 (i k : Nat) : inR i (2, i, k) := ⟨by simp, by simp, rfl⟩
theorem inR4 (i k : Nat) : inR i (4, i, k) := ⟨by simp, by simp, rfl⟩
theorem inR6 (i k : Nat) : inR i (6, i, k) := ⟨by simp, by simp, rfl⟩
theorem inR9 (i k : Nat) : inR i (9, i, k) := ⟨by simp, by simp, rfl⟩
theorem inR10 (i k : Nat) : inR i (10, i, k) := ⟨by simp, by simp, rfl⟩
theorem inR11 (i k : Nat) : inR i (11, i, k) := ⟨by simp, by simp, rfl⟩
theorem inR12 (i k : Nat) : inR i (12, i, k) := ⟨by simp, by simp, rfl⟩
theorem inR13 (i k : Nat) : inR i (13, i, k) := ⟨by simp, by simp, rfl⟩
theorem inR14 (i k : Nat) : inR i (14, i, k) := ⟨by simp, by simp, rfl⟩
theorem inR15 (i k : Nat) : inR i (15, i, k) := ⟨by simp, by simp, rfl⟩
theorem chg.u2 {i : Nat} {w : am_iv} {k : Nat} {v : Int32} : chg i w (am_ui w (2, i, 0) k v) := chg.ui (inR2 i 0) (Or.inl ⟨by simp, by simp⟩)
theorem chg.u4 {i r : Nat} {w : am_iv} {k : Nat} {v : Int32} (hk : k ≠ 0) : chg i w (am_ui w (4, i, r) k v) := chg.ui (inR4 i r) (Or.inr hk)
theorem chg.u6 {i r : Nat} {w : am_iv} {k : Nat} {v : Int32} (hk : k ≠ 0) : chg i w (am_ui w (6, i, r) k v) := chg.ui (inR6 i r) (Or.inr hk)
theorem chg.cp6 {i r o s : Nat} {w : am_iv} : chg i w (rg_cp (6, i, r) (4, o, s) w) := ((((((chg.u6 (by decide)).tr (chg.u6 (by decide))).tr (chg.u6 (by decide))).tr (chg.u6 (by decide))).tr (chg.u6 (by decide))).tr (chg.u6 (by decide))).tr (chg.u6 (by decide))
theorem chg.cp4 {i r o s : Nat} {w : am_iv} : chg i w (rg_cp (4, i, r) (4, o, s) w) := ((((((chg.u4 (by decide)).tr (chg.u4 (by decide))).tr (chg.u4 (by decide))).tr (chg.u4 (by decide))).tr (chg.u4 (by decide))).tr (chg.u4 (by decide))).tr (chg.u4 (by decide))
theorem chg.tv {i u : Nat} {a b d : Int32} {w : am_iv} (j : Nat) : chg i w (tv_run (9, i, u) (10, i, u) (11, i, u) a b d w j) := by
  have n9 : ∀ (w : am_iv) (k : Nat) (v : Int32), chg i w (am_ui w (9, i, u) k v) := fun w k v => chg.ui (inR9 i u) (Or.inl ⟨by simp, by simp⟩)
  have n11 : ∀ (w : am_iv) (k : Nat) (v : Int32), chg i w (am_ui w (11, i, u) k v) := fun w k v => chg.ui (inR11 i u) (Or.inl ⟨by simp, by simp⟩)
  have np : ∀ (w : am_iv) (t : Nat) (v : Int32), chg i w (tx_push (9, i, u) (11, i, u) t v w) := fun w t v => by
    unfold tx_push
    split
    · exact (n11 _ _ _).tr (n9 _ _ _)
    · exact chg.rf _ _
  induction j with
  | zero => exact n9 _ _ _
  | succ j ih =>
    refine ih.tr ?_
    show chg i _ (tv_step _ _ _ _ _ _ _ _)
    unfold tv_step
    repeat' split
    all_goals first
      | exact np _ _ _
      | exact n11 _ _ _
      | exact (n9 _ _ _).tr (n11 _ _ _)
      | exact chg.rf _ _
theorem chg.gv {i u z : Nat} {a b c : Int32} {w : am_iv} : chg i w (gv_heap i u z a b c w) := by
  unfold gv_heap
  split
  · exact chg.tv z
  · exact chg.rf _ _
theorem chg.tick {i n z nl : Nat} {ln : Nat → am_N} {lk : Nat → Nat} {w : am_iv} : chg i w (rm_tick i n z nl ln lk w) := by
  have h1 : ∀ j, chg i w (rm_save i w j) := by
    intro j
    induction j with
    | zero => exact chg.rf _ _
    | succ j ih => exact ih.tr chg.cp6
  have h2 : ∀ (w : am_iv) (j : Nat), chg i w (rm_go i n z nl ln lk w j) := by
    intro w j
    induction j with
    | zero => exact chg.rf _ _
    | succ j ih =>
      unfold rm_go
      split
      · exact ih
      · refine ih.tr ?_
        refine chg.tr (b := rm_hA i j z nl ln lk (rm_go i n z nl ln lk w j)) ?_ (chg.u4 (by decide))
        unfold rm_hA rm_adv
        exact ((chg.gv.tr (chg.u4 (by decide))).tr (chg.u4 (by decide))).tr (chg.u4 (by decide))
  have h3 : ∀ (r : Nat) (e : Nat → Option Nat) (w : am_iv) (d k : Nat), chg i w (rm_due i r e lk w d k) := by
    intro r e w d
    induction d with
    | zero => intro k; exact chg.rf _ _
    | succ d ih =>
      intro k
      unfold rm_due
      split
      · exact ih _
      · unfold rm_eff
        split
        · exact (chg.u4 (by decide)).tr (chg.u4 (by decide))
        · exact chg.u4 (by decide)
  have h4 : ∀ (w : am_iv) (j : Nat), chg i w (rm_gone i n nl ln lk w j) := by
    intro w j
    induction j with
    | zero => exact chg.rf _ _
    | succ j ih =>
      unfold rm_gone
      split
      · exact ih
      · exact ih.tr (h3 _ _ _ _ _)
  have h5 : ∀ (w : am_iv) (j : Nat), chg i w (rm_set i w j) := by
    intro w j
    induction j with
    | zero => exact chg.rf _ _
    | succ j ih =>
      unfold rm_set
      split
      · exact ih
      · refine ih.tr ?_
        unfold rm_settle
        split
        · exact chg.u4 (by decide)
        · split
          · exact chg.u4 (by decide)
          · exact chg.rf _ _
  unfold rm_tick rm_tick4
  exact ((((h1 n).tr (h2 _ n)).tr (h4 _ n)).tr (h5 _ n)).tr chg.u2
theorem chg.itt {i : Nat} {T : am_iv → am_iv} (hT : ∀ w, chg i w (T w)) (N : Nat) : ∀ w, chg i w (it T N w) := by
  induction N with
  | zero => intro w; exact chg.rf _ _
  | succ N ih => intro w; exact (hT w).tr (ih (T w))
theorem chg.cff {i : Nat} {T : am_iv → am_iv} {F : am_iv → Int32} {e : Int32} (hT : ∀ w, chg i w (T w)) (N : Nat) : ∀ c f w, chg i w (cf T F e N c f w).2 := by
  induction N with
  | zero => intro c f w; exact chg.rf _ _
  | succ N ih =>
    intro c f w
    unfold cf
    split
    · exact chg.rf _ _
    · exact (hT w).tr (ih _ _ _)
theorem chg.gxx {i : Nat} {T : am_iv → am_iv} {n : am_N} (hT : ∀ w, chg i w (T w)) (N : Nat) : ∀ g w, chg i w (gx T n N g w).2 := by
  induction N with
  | zero => intro g w; exact chg.rf _ _
  | succ N ih =>
    intro g w
    unfold gx
    split
    · exact chg.rf _ _
    · exact (hT w).tr (ih _ _)
theorem chg.bl {i : Nat} {w : am_iv} (j : Nat) : chg i w (bl_heap i w j) := by
  induction j with
  | zero => exact chg.rf _ _
  | succ j ih =>
    unfold bl_heap
    split
    · exact ih
    · exact (ih.tr chg.u2).tr (chg.u4 (by decide))
theorem chg.trh {i o n : Nat} {w : am_iv} : chg i w (tr_heap i o n w) := by
  have h : ∀ (w : am_iv) (j : Nat), chg i w (tr_cp i o w j) := by
    intro w j
    induction j with
    | zero => exact chg.rf _ _
    | succ j ih => exact ih.tr chg.cp4
  exact chg.u2.tr (h _ n)
theorem chg.ring {i r : Nat} {x y a b c d : Int32} {w : am_iv} : chg i w (rm_ring (4, i, r) x y a b c d w) := ((((((chg.u4 (by decide)).tr (chg.u4 (by decide))).tr (chg.u4 (by decide))).tr (chg.u4 (by decide))).tr (chg.u4 (by decide))).tr (chg.u4 (by decide))).tr (chg.u4 (by decide))
theorem chg.as {i n z : Nat} {a b : Int32} {w : am_iv} : chg i w (as_heap i n z a b w) := (chg.gv.tr chg.ring).tr chg.u2
theorem chg.cpy {i : Nat} {w : am_iv} {b a : am_N} {x y s : Nat} (ha : inR i a) (h4 : a.1 ≠ 4) (h6 : a.1 ≠ 6) : chg i w (am_cpy w b a x y s) := fun q k h => am_cpy_o (fun e => by
  rcases h with h | h
  · exact h (by rw [e]; exact ha)
  · rw [e] at h
    rcases h.1 with z | z
    · exact h4 z
    · exact h6 z)
theorem chg.rb {i o n z0 z1 zt zw : Nat} {w : am_iv} : chg i w (rb_heap i o n z0 z1 zt zw w) := by
  unfold rb_heap rw_cp tx_cp rb_n rb_f
  refine chg.tr ?_ (chg.cpy (inR15 i 0) (by simp) (by simp))
  refine chg.tr ?_ (chg.ui (inR14 i 0) (Or.inl ⟨by simp, by simp⟩))
  refine chg.tr ?_ (chg.cpy (inR13 i 0) (by simp) (by simp))
  refine chg.tr ?_ (chg.ui (inR12 i 0) (Or.inl ⟨by simp, by simp⟩))
  refine chg.tr ?_ (chg.cpy (inR10 i 1) (by simp) (by simp))
  refine chg.tr ?_ (chg.ui (inR9 i 1) (Or.inl ⟨by simp, by simp⟩))
  refine chg.tr ?_ (chg.cpy (inR10 i 0) (by simp) (by simp))
  refine chg.tr ?_ (chg.ui (inR9 i 0) (Or.inl ⟨by simp, by simp⟩))
  exact (((((chg.trh.tr chg.u2).tr chg.u2).tr chg.u2).tr chg.u2).tr chg.u2).tr chg.u2
/-! texts: the reference looks at the bytes of the text alone -/
theorem ph_c {t t' : Nat → Int32} {n : Nat} (h : ∀ p, p < n → t p = t' p) (s : ps) : ph t n s = ph t' n s := by
  unfold ph
  by_cases c : s.1 < n
  · rw [if_pos c, if_pos c, h _ c]
  · rw [if_neg c, if_neg c]
theorem pl_c {t t' : Nat → Int32} {n : Nat} (h : ∀ p, p < n → t p = t' p) {f : Int32 → Bool} {U : ps → Int32 × ps} (k : Nat) : ∀ x, pl t n f U k x = pl t' n f U k x := by
  induction k with
  | zero => intro x; rfl
  | succ k ih => intro x; unfold pl; rw [ph_c h]; split <;> first | exact ih _ | rfl
theorem pd_c {t t' : Nat → Int32} {n : Nat} (h : ∀ p, p < n → t p = t' p) {f : Int32} {o : Nat} (k : Nat) : ∀ v p, pd t n f o k v p = pd t' n f o k v p := by
  induction k with
  | zero => intro v p; rfl
  | succ k ih => intro v p; unfold pd; rw [ph_c h]; split <;> first | exact ih _ _ | rfl
theorem pE_c {t t' : Nat → Int32} {n : Nat} (h : ∀ p, p < n → t p = t' p) (U : ps → Int32 × ps) : pE t n U = pE t' n U := by
  have e1 : pP t n U = pP t' n U := funext fun s => pl_c h n _
  have e2 : ∀ U, pS t n U = pS t' n U := fun U => funext fun s => pl_c h n _
  have e3 : ∀ U, pC t n U = pC t' n U := fun U => funext fun s => by unfold pC; rw [ph_c h]
  have e4 : ∀ U, pB t n U = pB t' n U := fun U => funext fun s => pl_c h n _
  have e5 : ∀ U, pO t n U = pO t' n U := fun U => funext fun s => pl_c h n _
  funext s
  show pO t n (pB t n (pC t n (pS t n (pP t n U)))) s = pO t' n (pB t' n (pC t' n (pS t' n (pP t' n U)))) s
  rw [e1, e2, e3, e4, e5]
theorem pU_c {t t' : Nat → Int32} {n : Nat} (h : ∀ p, p < n → t p = t' p) {g : Int32} {nm : Nat → Int32} (D : Nat) : pU t n g nm D = pU t' n g nm D := by
  have el : ∀ s, pleaf t n g nm s = pleaf t' n g nm s := fun s => by
    unfold pleaf pnum
    rw [ph_c h, pd_c h]
  induction D with
  | zero => funext s; unfold pU; rw [ph_c h, el]
  | succ D ih =>
    funext s
    unfold pU pin
    rw [ih, pE_c h]
    simp only [ph_c h, el]
theorem pV_c {t t' : Nat → Int32} {n : Nat} (h : ∀ p, p < n → t p = t' p) (g : Int32) (nm : Nat → Int32) : pV t n g nm = pV t' n g nm := by
  unfold pV pT
  rw [pU_c h, pE_c h]
theorem tRel.c {use zc zr : Nat} {cd bt cd' bt' : Nat → Int32} (h : tRel use zc zr cd bt) (hc : ∀ k, k < zc → cd' k = cd k) (hb : ∀ p, p < zr → bt' p = bt p) : tRel use zc zr cd' bt' := by
  intro x y t nt
  have e1 : gv_pure use zc x y t cd' = gv_pure use zc x y t cd := by
    unfold gv_pure sv_val
    rw [sv_run_c zc hc]
  have e2 : gr_pure use zr x y t bt' nt = gr_pure use zr x y t bt nt := by
    unfold gr_pure
    rw [pV_c hb]
  rw [e1, e2]
  exact h x y t nt
/-- a text that was read -/
theorem tRel_read {u z n : Nat} {cd bt : Nat → Int32} {cs : List Int32} (hu : u < 2) (hn : n < 2 ^ 31) (hl : z = cs.length) (hcd : ∀ i (h : i < cs.length), cd (cs.length - 1 - i) = cs[i]) (hr : (lread u bt n 0 ([], [], 0, 0, 1)).2 = cs) (hf : (lread u bt n 0 ([], [], 0, 0, 1)).1 < 0) : tRel u z n cd bt := by
  intro x y t nt
  have nmf : ∀ q, (if q = 0 then x else if q = 1 then y else if q = 2 then t else nt q) = (fun q => if q = 0 then x else if q = 1 then y else if q = 2 then t else nt q) q := fun q => rfl
  have hg := fun c => pnm_sx hu c
  obtain ⟨a1, a2⟩ := read_alike (u := u) (t := bt) (n := n) (a := x) (b := y) (d := t) (g := if nI u = 0 then 1 else 0) (nm := fun q => if q = 0 then x else if q = 1 then y else if q = 2 then t else nt q) hn hg rfl rfl rfl
  have hv : (pV bt n (if nI u = 0 then 1 else 0) (fun q => if q = 0 then x else if q = 1 then y else if q = 2 then t else nt q)).2.2.1 < 0 := by
    by_cases c : (pV bt n (if nI u = 0 then 1 else 0) (fun q => if q = 0 then x else if q = 1 then y else if q = 2 then t else nt q)).2.2.1 < 0
    · exact c
    · rw [a2 c] at hf
      exact hf
  obtain ⟨-, b2⟩ := a1 hv
  rw [hr] at b2
  have hrun : sv_run x y t cd cs.length = svr x y t cs := svr_run (c := (0, 0, 0)) (iv := fun _ => cd) cs hcd
  have hz : 0 < cs.length := by
    cases cs with
    | nil => simp [svr] at b2
    | cons a r => exact Nat.zero_lt_succ _
  have hn0 : 0 < n := by
    rcases Nat.eq_zero_or_pos n with e | e
    · subst e
      exfalso
      have : lread u bt 0 0 ([], [], 0, 0, 1) = (nI 0, []) := rfl
      rw [this] at hf
      exact absurd hf (by decide)
    · exact e
  unfold gv_pure gr_pure sv_val
  rw [hl, if_pos hz, if_pos hn0, hrun, b2]
  rfl
