/-- a ring may end, and no ring that ended is whole again -/
def le7 (i q : Nat) (w w' : am_iv) : Prop := w' (4, i, q) 7 = 0 ∨ w' (4, i, q) 7 = w (4, i, q) 7
theorem le7.trans {i q : Nat} {a b c : am_iv} (h1 : le7 i q a b) (h2 : le7 i q b c) : le7 i q a c := by
  rcases h2 with h | h
  · exact Or.inl h
  · rcases h1 with g | g
    · exact Or.inl (h.trans g)
    · exact Or.inr (h.trans g)
theorem le7_hAW {i r n z nl : Nat} {ln : Nat → am_N} {lk : Nat → Nat} {w : am_iv} (q : Nat) : le7 i q w (rm_hW i r n nl ln lk (rm_hA i r z nl ln lk w)) := by
  right
  unfold rm_hW
  rw [am_ui_n (by simp)]
  by_cases e : q = r
  · subst e; exact hA_k (by decide) (by decide) (by decide)
  · exact hA_n (by simp [gb]) (by simp [e])
theorem le7_ui {i q : Nat} {w : am_iv} {n : am_N} {k : Nat} {v : Int32} (h : k ≠ 7) : le7 i q w (am_ui w n k v) := Or.inr (am_ui_n (fun e => h e.2.symm))
theorem le7_0 {i q : Nat} {w : am_iv} {n : am_N} : le7 i q w (am_ui w n 7 0) := by
  by_cases e : (4, i, q) = n
  · left; rw [e, am_ui_s]
  · right; exact am_ui_o e
theorem le7_eff {i r k j : Nat} {lk : Nat → Nat} {w : am_iv} (q : Nat) : le7 i q w (rm_eff i r k j lk w) := by
  unfold rm_eff
  split
  · exact le7_0.trans (le7_ui (by decide))
  · exact le7_0
theorem le7_due {i r : Nat} {e : Nat → Option Nat} {lk : Nat → Nat} {w : am_iv} (q : Nat) : ∀ (d j : Nat), le7 i q w (rm_due i r e lk w d j) := by
  intro d
  induction d with
  | zero => intro j; exact Or.inr rfl
  | succ d ih =>
    intro j
    unfold rm_due
    cases e j with
    | none => exact ih (j + 1)
    | some x => exact le7_eff q
theorem le7_settle {i q : Nat} {n : am_N} {v : Int32} {w : am_iv} : le7 i q w (rm_settle n v w) := by
  unfold rm_settle
  split
  · exact le7_0
  · split
    · exact le7_ui (by decide)
    · exact Or.inr rfl
theorem le7_tick {i n z nl : Nat} {ln : Nat → am_N} {lk : Nat → Nat} {w : am_iv} (q : Nat) : le7 i q w (rm_tick i n z nl ln lk w) := by
  have h1 : le7 i q w (rm_save i w n) := Or.inr (rm_save_o (by simp) n)
  have h2 : ∀ j, le7 i q w (rm_go i n z nl ln lk (rm_save i w n) j) := by
    intro j
    induction j with
    | zero => exact h1
    | succ j ih =>
      unfold rm_go
      split
      · exact ih
      · exact ih.trans (le7_hAW q)
  have h3 : ∀ j, le7 i q w (rm_gone i n nl ln lk (rm_go i n z nl ln lk (rm_save i w n) n) j) := by
    intro j
    induction j with
    | zero => exact h2 n
    | succ j ih =>
      unfold rm_gone
      split
      · exact ih
      · exact ih.trans (le7_due q n 0)
  have h4 : ∀ j, le7 i q w (rm_set i (rm_gone i n nl ln lk (rm_go i n z nl ln lk (rm_save i w n) n) n) j) := by
    intro j
    induction j with
    | zero => exact h3 n
    | succ j ih =>
      unfold rm_set
      split
      · exact ih
      · exact ih.trans le7_settle
  exact (h4 n).trans (le7_ui (by decide))
theorem rm_front_neg {F : Nat → Nat → Int32} (n : Nat) (hn : n < 2 ^ 31) : rm_front F n < 0 ↔ ∀ r, r < n → F r 7 = 0 := by
  induction n with
  | zero => exact ⟨fun _ r h => by omega, fun _ => show (-1 : Int32) < 0 by decide⟩
  | succ n ih =>
    have ih := ih (by omega)
    by_cases c : ¬ F n 7 = 0 ∧ (rm_front F n < 0 ∨ F (rm_front F n).toNatClampNeg 1 < F n 1)
    · rw [rm_front, if_pos c]
      constructor
      · intro h; exact absurd h (nI_pos (by omega))
      · intro h; exact absurd (h n (by omega)) c.1
    · rw [rm_front, if_neg c, ih]
      constructor
      · intro h r hr
        by_cases e : r = n
        · subst e
          refine Classical.not_not.mp (fun g => c ⟨g, Or.inl (ih.mpr h)⟩)
        · exact h r (by omega)
      · intro h r hr; exact h r (by omega)
/-- no ring is foremost: none will be -/
theorem front_stays {i n z nl : Nat} {ln : Nat → am_N} {lk : Nat → Nat} {w : am_iv} (hn : n < 2 ^ 31) (h : rm_front (fun r => w (4, i, r)) n < 0) : rm_front (fun r => rm_tick i n z nl ln lk w (4, i, r)) n < 0 := by
  rw [rm_front_neg n hn] at h ⊢
  intro r hr
  rcases le7_tick (i := i) (n := n) (z := z) (nl := nl) (ln := ln) (lk := lk) (w := w) r with g | g
  · exact g
  · exact g.trans (h r hr)
