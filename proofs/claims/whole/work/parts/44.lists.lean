/-- how tightly a sign binds -/
def lk (g : Int32) : Nat := if g = 124 then 1 else if g = 38 then 2 else if g = 60 ∨ g = 61 ∨ g = 62 then 3 else if g = 43 ∨ g = 45 then 4 else if g = 42 ∨ g = 47 ∨ g = 37 then 5 else if g = 33 then 6 else 0
theorem lk_le (g : Int32) : lk g ≤ 6 := by
  unfold lk
  split
  · decide
  · split
    · decide
    · split
      · decide
      · split
        · decide
        · split
          · decide
          · split <;> decide
theorem lk_ok (g : Int32) : tx_rank g = nI (lk g) := by
  unfold tx_rank lk
  split
  · rfl
  · split
    · rfl
    · split
      · rfl
      · split
        · rfl
        · split
          · rfl
          · split <;> rfl
theorem nI_ltn {a b : Nat} (ha : a < 2 ^ 31) (hb : b < 2 ^ 31) : nI a < nI b ↔ a < b := ⟨fun h => by
  rcases Nat.lt_or_ge a b with q | q
  · exact q
  · exact absurd h (nI_nlt q ha), fun h => nI_lt h hb⟩
theorem lk_lt (r : Nat) (hr : r ≤ 6) (g : Int32) : nI r < tx_rank g ↔ r < lk g := by
  rw [lk_ok]
  exact nI_ltn (by omega) (by have := lk_le g; omega)
theorem lk_eq (g h : Int32) : tx_rank g = tx_rank h ↔ lk g = lk h := by
  rw [lk_ok, lk_ok]
  exact nI_lit (by have := lk_le g; omega) (by have := lk_le h; omega)
theorem lk_0 (g : Int32) : tx_rank g = 0 ↔ lk g = 0 := by
  rw [lk_ok]
  exact nI_lit (c := 0) (by have := lk_le g; omega) (by decide)
theorem lk_3 (g : Int32) : tx_rank g = 3 ↔ lk g = 3 := by
  rw [lk_ok]
  exact nI_lit (c := 3) (by have := lk_le g; omega) (by decide)
/-- codes, waiting signs, how many are open, digits, wanting -/
abbrev lt : Type := List Int32 × List Int32 × Int32 × Int32 × Int32
def lo1 (s o : Int32) : Int32 := if s = 33 then o - 1 else o
def lab (rk : Nat) : List Int32 → List Int32 → Int32 → List Int32 × List Int32 × Int32
  | [], cs, o => (cs, [], o)
  | s :: os, cs, o => if rk < lk s then lab rk os (-s :: cs) (lo1 s o) else (cs, s :: os, o)
def lfin (g : Int32) (S : lt) (x : List Int32 × List Int32 × Int32) : Int32 × lt := match x.2.1 with
  | [] => (1, (x.1, [g], x.2.2, 0, 1))
  | s :: os => if lk s = lk g then (if lk g = 3 then (0, S) else (1, (-s :: x.1, g :: os, lo1 s x.2.2, 0, 1))) else (1, (x.1, g :: s :: os, x.2.2, 0, 1))
def lclose (S : lt) (x : List Int32 × List Int32 × Int32) : Int32 × lt := match x.2.1 with
  | [] => (0, S)
  | _ :: os => (1, (x.1, os, x.2.2 - 1, 0, S.2.2.2.2))
def ldig (g : Int32) (S : lt) : Int32 × lt := match S.1 with
  | [] => (0, S)
  | x :: r => if S.2.2.2.1 = 0 ∨ 4 ≤ S.2.2.2.1 then (0, S) else (1, ((x * 10 + g - 48) :: r, S.2.1, S.2.2.1, S.2.2.2.1 + 1, S.2.2.2.2))
def loper (S : lt) (g : Int32) : Int32 × lt :=
  if 48 ≤ g ∧ g ≤ 57 then ldig g S
  else if g = 41 then lclose S (lab 0 S.2.1 S.1 S.2.2.1)
  else if lk g = 0 ∨ g = 33 then (0, S)
  else lfin g S (lab (lk g) S.2.1 S.1 S.2.2.1)
def lopnd (u : Nat) (S : lt) (g : Int32) : Int32 × lt :=
  if g = 33 ∨ g = 40 then ((if S.2.2.1 + 1 ≤ 5 then 1 else 0), (S.1, g :: S.2.1, S.2.2.1 + 1, S.2.2.2.1, S.2.2.2.2))
  else if 48 ≤ g ∧ g ≤ 57 then (1, ((g - 48) :: S.1, S.2.1, S.2.2.1, 1, 0))
  else ((if sx_ix u g < 0 then 0 else 1), ((-1 - sx_ix u g) :: S.1, S.2.1, S.2.2.1, S.2.2.2.1, 0))
def lstep (u : Nat) (S : lt) (g : Int32) : Int32 × lt := if S.2.2.2.2 = 0 then loper S g else lopnd u S g
def lend (S : lt) : List Int32 × List Int32 × Int32 := lab 0 S.2.1 S.1 S.2.2.1
def lread (u : Nat) (bt : Nat → Int32) : Nat → Nat → lt → Int32 × List Int32
  | 0, i, S => ((if S.2.2.2.2 = 0 ∧ (lend S).2.1 = [] then -1 else nI i), (lend S).1)
  | k + 1, i, S => if (lstep u S (bt i)).1 = 0 then (nI i, []) else lread u bt k (i + 1) (lstep u S (bt i)).2
/-- the lists stand in the heap -/
def lh (n c s : am_N) (iv : am_iv) (S : lt) : Prop := iv n 1 = nI S.1.length ∧ iv n 3 = nI S.2.1.length ∧ iv n 4 = S.2.2.1 ∧ iv n 5 = S.2.2.2.1 ∧ iv n 6 = S.2.2.2.2 ∧ sv_ok c iv S.1 ∧ sv_ok s iv S.2.1
theorem sv_ok.same {s : am_N} {iv iv' : am_iv} {st : List Int32} (h : sv_ok s iv st) (e : ∀ k, iv' s k = iv s k) : sv_ok s iv' st := fun i hi => by rw [e]; exact h i hi
theorem sv_ok.tail {s : am_N} {iv : am_iv} {st : List Int32} {x : Int32} (h : sv_ok s iv (x :: st)) : sv_ok s iv st := fun i hi => by
  have := h (i + 1) (by simpa using hi)
  have e : (x :: st).length - 1 - (i + 1) = st.length - 1 - i := by simp; omega
  rw [e] at this
  simpa using this
theorem sv_ok.cons {s : am_N} {iv : am_iv} {st : List Int32} {v : Int32} (h : sv_ok s iv st) : sv_ok s (am_ui iv s st.length v) (v :: st) := by
  intro i hi
  cases i with
  | zero => simp [am_ui]
  | succ i =>
    have h1 : i < st.length := by simpa using hi
    have e1 : (v :: st).length - 1 - (i + 1) = st.length - 1 - i := by simp; omega
    rw [e1, am_ui_n (by omega)]
    simpa using h i h1
theorem sv_ok.hd {s : am_N} {iv : am_iv} {st : List Int32} {x : Int32} (h : sv_ok s iv (x :: st)) : iv s st.length = x := h 0 (Nat.zero_lt_succ _)
section LT
variable {n c s : am_N}
theorem lh.pop (hnc : n ≠ c) (hns : n ≠ s) (hcs : c ≠ s) {iv : am_iv} {cs os : List Int32} {x o dg w : Int32} (h : lh n c s iv (cs, x :: os, o, dg, w)) (hz : cs.length < 50) : lh n c s (tp_pop n c s (os.length + 1) cs.length iv) (-x :: cs, os, lo1 x o, dg, w) := by
  obtain ⟨h1, h2, h3, h4, h5, h6, h7⟩ := h
  have hx : iv s (os.length + 1 - 1) = x := h7.hd
  have e0 : tp_w2 n c s (os.length + 1) cs.length iv = am_ui (am_ui (am_ui iv n 3 (nI os.length)) c cs.length (-x)) n 1 (nI (cs.length + 1)) := by
    unfold tp_w2 tx_app
    rw [if_pos hz, hx]
    rfl
  have hb : lh n c s (tp_w2 n c s (os.length + 1) cs.length iv) (-x :: cs, os, o, dg, w) := by
    rw [e0]
    refine ⟨am_ui_s _ _ _ _, ?_, ?_, ?_, ?_, ?_, ?_⟩
    · rw [am_ui_n (by simp), am_ui_o hnc, am_ui_s]
    · rw [am_ui_n (by simp), am_ui_o hnc, am_ui_n (by simp)]; exact h3
    · rw [am_ui_n (by simp), am_ui_o hnc, am_ui_n (by simp)]; exact h4
    · rw [am_ui_n (by simp), am_ui_o hnc, am_ui_n (by simp)]; exact h5
    · have q : sv_ok c (am_ui iv n 3 (nI os.length)) cs := h6.same (fun k => am_ui_o (fun e => hnc e.symm))
      exact q.cons.same (fun k => am_ui_o (fun e => hnc e.symm))
    · exact h7.tail.same (fun k => by rw [am_ui_o (fun e => hns e.symm), am_ui_o (fun e => hcs e.symm), am_ui_o (fun e => hns e.symm)])
  unfold tp_pop lo1
  rw [hx]
  split
  · obtain ⟨b1, b2, b3, b4, b5, b6, b7⟩ := hb
    refine ⟨?_, ?_, ?_, ?_, ?_, ?_, ?_⟩
    · rw [am_ui_n (by simp)]; exact b1
    · rw [am_ui_n (by simp)]; exact b2
    · rw [am_ui_s, b3]
    · rw [am_ui_n (by simp)]; exact b4
    · rw [am_ui_n (by simp)]; exact b5
    · exact b6.same (fun k => am_ui_o (fun e => hnc e.symm))
    · exact b7.same (fun k => am_ui_o (fun e => hns e.symm))
  · exact hb
theorem lh.ab (hnc : n ≠ c) (hns : n ≠ s) (hcs : c ≠ s) (r : Nat) (hr : r ≤ 6) (os : List Int32) : ∀ {iv : am_iv} {cs : List Int32} {o dg w : Int32}, lh n c s iv (cs, os, o, dg, w) → cs.length + os.length ≤ 50 → lh n c s (tp_ab n c s (nI r) os.length cs.length iv) ((lab r os cs o).1, (lab r os cs o).2.1, (lab r os cs o).2.2, dg, w) ∧ (lab r os cs o).1.length + (lab r os cs o).2.1.length = cs.length + os.length := by
  induction os with
  | nil => intro iv cs o dg w h _; exact ⟨h, rfl⟩
  | cons x os ih =>
    intro iv cs o dg w h hl
    have hl2 : cs.length + (os.length + 1) ≤ 50 := hl
    have hx : iv s os.length = x := h.2.2.2.2.2.2.hd
    show lh n c s (tp_ab n c s (nI r) (os.length + 1) cs.length iv) _ ∧ _
    unfold tp_ab lab
    rw [hx]
    by_cases q : r < lk x
    · rw [if_pos ((lk_lt r hr x).mpr q), if_pos q]
      have hp := lh.pop hnc hns hcs h (by omega)
      have ez : tp_z cs.length = (-x :: cs).length := by unfold tp_z; rw [if_pos (by omega)]; rfl
      rw [ez]
      obtain ⟨a1, a2⟩ := ih hp (by simp only [List.length_cons]; omega)
      exact ⟨a1, by rw [a2]; simp only [List.length_cons]; omega⟩
    · rw [if_neg (fun e => q ((lk_lt r hr x).mp e)), if_neg q]
      exact ⟨h, rfl⟩
theorem lh.u5 (hnc : n ≠ c) (hns : n ≠ s) (hcs : c ≠ s) {iv : am_iv} {cs os : List Int32} {o dg w v : Int32} (h : lh n c s iv (cs, os, o, dg, w)) : lh n c s (am_ui iv n 5 v) (cs, os, o, v, w) := by
  obtain ⟨h1, h2, h3, h4, h5, h6, h7⟩ := h
  exact ⟨(am_ui_n (by simp)).trans h1, (am_ui_n (by simp)).trans h2, (am_ui_n (by simp)).trans h3, am_ui_s _ _ _ _, (am_ui_n (by simp)).trans h5, h6.same (fun k => am_ui_o (fun e => hnc e.symm)), h7.same (fun k => am_ui_o (fun e => hns e.symm))⟩
theorem lh.u6 (hnc : n ≠ c) (hns : n ≠ s) (hcs : c ≠ s) {iv : am_iv} {cs os : List Int32} {o dg w v : Int32} (h : lh n c s iv (cs, os, o, dg, w)) : lh n c s (am_ui iv n 6 v) (cs, os, o, dg, v) := by
  obtain ⟨h1, h2, h3, h4, h5, h6, h7⟩ := h
  exact ⟨(am_ui_n (by simp)).trans h1, (am_ui_n (by simp)).trans h2, (am_ui_n (by simp)).trans h3, (am_ui_n (by simp)).trans h4, am_ui_s _ _ _ _, h6.same (fun k => am_ui_o (fun e => hnc e.symm)), h7.same (fun k => am_ui_o (fun e => hns e.symm))⟩
theorem lh.u4 (hnc : n ≠ c) (hns : n ≠ s) (hcs : c ≠ s) {iv : am_iv} {cs os : List Int32} {o dg w v : Int32} (h : lh n c s iv (cs, os, o, dg, w)) : lh n c s (am_ui iv n 4 v) (cs, os, v, dg, w) := by
  obtain ⟨h1, h2, h3, h4, h5, h6, h7⟩ := h
  exact ⟨(am_ui_n (by simp)).trans h1, (am_ui_n (by simp)).trans h2, am_ui_s _ _ _ _, (am_ui_n (by simp)).trans h4, (am_ui_n (by simp)).trans h5, h6.same (fun k => am_ui_o (fun e => hnc e.symm)), h7.same (fun k => am_ui_o (fun e => hns e.symm))⟩
theorem lh.u3 (hnc : n ≠ c) (hns : n ≠ s) (hcs : c ≠ s) {iv : am_iv} {cs os : List Int32} {x o dg w : Int32} (h : lh n c s iv (cs, x :: os, o, dg, w)) : lh n c s (am_ui iv n 3 (nI os.length)) (cs, os, o, dg, w) := by
  obtain ⟨h1, h2, h3, h4, h5, h6, h7⟩ := h
  exact ⟨(am_ui_n (by simp)).trans h1, am_ui_s _ _ _ _, (am_ui_n (by simp)).trans h3, (am_ui_n (by simp)).trans h4, (am_ui_n (by simp)).trans h5, h6.same (fun k => am_ui_o (fun e => hnc e.symm)), h7.tail.same (fun k => am_ui_o (fun e => hns e.symm))⟩
theorem lh.push (hnc : n ≠ c) (hns : n ≠ s) (hcs : c ≠ s) {iv : am_iv} {cs os : List Int32} {o dg w v : Int32} (h : lh n c s iv (cs, os, o, dg, w)) (hl : os.length < 50) : lh n c s (tx_push n s os.length v iv) (cs, v :: os, o, dg, w) := by
  obtain ⟨h1, h2, h3, h4, h5, h6, h7⟩ := h
  unfold tx_push
  rw [if_pos hl]
  refine ⟨?_, am_ui_s _ _ _ _, ?_, ?_, ?_, ?_, ?_⟩
  · rw [am_ui_n (by simp), am_ui_o hns]; exact h1
  · rw [am_ui_n (by simp), am_ui_o hns]; exact h3
  · rw [am_ui_n (by simp), am_ui_o hns]; exact h4
  · rw [am_ui_n (by simp), am_ui_o hns]; exact h5
  · exact h6.same (fun k => by rw [am_ui_o (fun e => hnc e.symm), am_ui_o hcs])
  · exact h7.cons.same (fun k => am_ui_o (fun e => hns e.symm))
theorem lh.app (hnc : n ≠ c) (hns : n ≠ s) (hcs : c ≠ s) {iv : am_iv} {cs os : List Int32} {o dg w v : Int32} (h : lh n c s iv (cs, os, o, dg, w)) (hl : cs.length < 50) : lh n c s (tx_app n c cs.length v iv) (v :: cs, os, o, dg, w) := by
  obtain ⟨h1, h2, h3, h4, h5, h6, h7⟩ := h
  unfold tx_app
  rw [if_pos hl]
  refine ⟨am_ui_s _ _ _ _, ?_, ?_, ?_, ?_, ?_, ?_⟩
  · rw [am_ui_n (by simp), am_ui_o hnc]; exact h2
  · rw [am_ui_n (by simp), am_ui_o hnc]; exact h3
  · rw [am_ui_n (by simp), am_ui_o hnc]; exact h4
  · rw [am_ui_n (by simp), am_ui_o hnc]; exact h5
  · exact h6.cons.same (fun k => am_ui_o (fun e => hnc e.symm))
  · exact h7.same (fun k => by rw [am_ui_o (fun e => hns e.symm), am_ui_o (fun e => hcs e.symm)])
theorem lh.oper (hnc : n ≠ c) (hns : n ≠ s) (hcs : c ≠ s) {iv : am_iv} {S : lt} (g : Int32) (h : lh n c s iv S) (hl : S.1.length + S.2.1.length < 50) : (tp_oper n c s S.2.1.length S.1.length g iv).1 = (loper S g).1 ∧ ((loper S g).1 ≠ 0 → lh n c s (tp_oper n c s S.2.1.length S.1.length g iv).2 (loper S g).2 ∧ (loper S g).2.1.length + (loper S g).2.2.1.length ≤ S.1.length + S.2.1.length + 1) := by
  obtain ⟨cs, os, o, dg, w⟩ := S
  simp only at hl ⊢
  unfold tp_oper loper
  by_cases hd : 48 ≤ g ∧ g ≤ 57
  · rw [if_pos hd, if_pos hd]
    unfold tp_digit ldig
    cases cs with
    | nil =>
      simp only [List.length_nil]
      rw [if_pos (Or.inr (Or.inr trivial))]
      exact ⟨rfl, fun q => absurd rfl q⟩
    | cons x r =>
      simp only
      have e5 : iv n 5 = dg := h.2.2.2.1
      rw [e5]
      by_cases hg : dg = 0 ∨ 4 ≤ dg
      · rw [if_pos (hg.elim Or.inl (fun q => Or.inr (Or.inl q))), if_pos hg]
        exact ⟨rfl, fun q => absurd rfl q⟩
      · rw [if_neg (fun q => q.elim (fun q => hg (Or.inl q)) (fun q => q.elim (fun q => hg (Or.inr q)) (fun q => by simp at q))), if_neg hg]
        refine ⟨rfl, fun _ => ⟨?_, by simp only [List.length_cons]; omega⟩⟩
        have h5 := lh.u5 hnc hns hcs (v := dg + 1) h
        obtain ⟨b1, b2, b3, b4, b5, b6, b7⟩ := h5
        have hx : iv c r.length = x := h.2.2.2.2.2.1.hd
        simp only [List.length_cons, Nat.add_sub_cancel]
        rw [hx]
        refine ⟨?_, ?_, ?_, ?_, ?_, ?_, ?_⟩
        · rw [am_ui_o hnc]; exact b1
        · rw [am_ui_o hnc]; exact b2
        · rw [am_ui_o hnc]; exact b3
        · rw [am_ui_o hnc]; exact b4
        · rw [am_ui_o hnc]; exact b5
        · exact b6.tail.cons
        · exact b7.same (fun k => am_ui_o (fun e => hcs e.symm))
  · rw [if_neg hd, if_neg hd]
    have h5 := lh.u5 hnc hns hcs (v := 0) h
    by_cases h41 : g = 41
    · rw [if_pos h41, if_pos h41]
      obtain ⟨a1, a2⟩ := lh.ab hnc hns hcs 0 (by decide) os h5 (by omega)
      unfold tp_close lclose
      simp only
      change lh n c s (tp_ab n c s 0 os.length cs.length (am_ui iv n 5 0)) _ at a1
      generalize tp_ab n c s 0 os.length cs.length (am_ui iv n 5 0) = W at a1
      generalize lab 0 os cs o = X at a1 a2
      obtain ⟨cs', os', o'⟩ := X
      cases os' with
      | nil =>
        have e3 : W n 3 = 0 := a1.2.1
        rw [if_pos e3]
        exact ⟨rfl, fun q => absurd rfl q⟩
      | cons y r =>
        have e3 : W n 3 = nI (r.length + 1) := a1.2.1
        have hr : r.length + 1 ≤ 50 := by simp only [List.length_cons] at a2; omega
        rw [if_neg (by rw [e3]; exact fun q => absurd ((nI_lit (a := r.length + 1) (c := 0) (by omega) (by decide)).mp q) (by omega))]
        refine ⟨rfl, fun _ => ⟨?_, by simp only [List.length_cons] at a2 ⊢; omega⟩⟩
        have e4 : W n 4 = o' := a1.2.2.1
        have e9 : W n 3 - 1 = nI r.length := by rw [e3]; exact nI_m1 (by omega)
        simp only
        rw [e9, e4]
        exact lh.u4 hnc hns hcs (lh.u3 hnc hns hcs a1)
    · rw [if_neg h41, if_neg h41]
      by_cases h0 : lk g = 0 ∨ g = 33
      · rw [if_pos (h0.imp (lk_0 g).mpr id), if_pos h0]
        exact ⟨rfl, fun q => absurd rfl q⟩
      · rw [if_neg (fun q => h0 (q.imp (lk_0 g).mp id)), if_neg h0]
        obtain ⟨a1, a2⟩ := lh.ab hnc hns hcs (lk g) (lk_le g) os h5 (by omega)
        unfold lfin
        simp only
        rw [lk_ok g] at *
        generalize tp_ab n c s (nI (lk g)) os.length cs.length (am_ui iv n 5 0) = W at a1
        generalize lab (lk g) os cs o = X at a1 a2
        obtain ⟨cs', os', o'⟩ := X
        simp only at a1 a2
        cases os' with
        | nil =>
          have e3 : W n 3 = 0 := a1.2.1
          rw [if_neg (fun q => q.1 (by rw [e3]; decide))]
          refine ⟨rfl, fun _ => ⟨?_, by simp only [List.length_cons, List.length_nil] at a2 ⊢; omega⟩⟩
          simp only [tp_fin]
          rw [e3]
          exact lh.u6 hnc hns hcs (lh.push hnc hns hcs (os := []) a1 (by decide))
        | cons y r =>
          have e3 : W n 3 = nI (r.length + 1) := a1.2.1
          have hr : cs'.length + (r.length + 1) < 50 := by simp only [List.length_cons] at a2; omega
          have ec : (W n 3).toNatClampNeg = r.length + 1 := by rw [e3]; exact nI_clamp (by omega)
          have e1c : (W n 1).toNatClampNeg = cs'.length := by rw [a1.1]; exact nI_clamp (by simp only; omega)
          have hy : W s r.length = y := a1.2.2.2.2.2.2.hd
          have hpos : ¬ W n 3 ≤ 0 := by rw [e3]; exact fun q => absurd ((nI_le0 (t := r.length + 1) (by omega)).mp q) (by omega)
          simp only [ec, e1c, Nat.add_sub_cancel, hy]
          have eqv : (tx_rank y = nI (lk g)) ↔ lk y = lk g := by rw [← lk_ok g]; exact lk_eq y g
          by_cases hyg : lk y = lk g
          · rw [if_pos ⟨hpos, eqv.mpr hyg⟩, if_pos hyg]
            by_cases h3 : lk g = 3
            · rw [if_pos (by rw [h3]; rfl), if_pos h3]
              exact ⟨rfl, fun q => absurd rfl q⟩
            · rw [if_neg (show ¬ nI (lk g) = 3 from fun q => h3 ((nI_lit (a := lk g) (c := 3) (by have := lk_le g; omega) (by decide)).mp q)), if_neg h3]
              refine ⟨rfl, fun _ => ⟨?_, by simp only [List.length_cons] at a2 ⊢; omega⟩⟩
              have hp := lh.pop hnc hns hcs a1 (by omega)
              simp only [tp_fin]
              have e33 : (tp_pop n c s (r.length + 1) cs'.length W n 3).toNatClampNeg = r.length := by rw [hp.2.1]; exact nI_clamp (by simp only; omega)
              rw [e33]
              exact lh.u6 hnc hns hcs (lh.push hnc hns hcs hp (by omega))
          · rw [if_neg (fun q => hyg (eqv.mp q.2)), if_neg hyg]
            refine ⟨rfl, fun _ => ⟨?_, by simp only [List.length_cons] at a2 ⊢; omega⟩⟩
            simp only [tp_fin, ec]
            exact lh.u6 hnc hns hcs (lh.push hnc hns hcs a1 (by simp only [List.length_cons]; omega))
theorem lh.opnd (hnc : n ≠ c) (hns : n ≠ s) (hcs : c ≠ s) {u : Nat} {iv : am_iv} {S : lt} (g : Int32) (h : lh n c s iv S) (hl : S.1.length + S.2.1.length < 50) : (tp_opnd u n c s S.2.1.length S.1.length g iv).1 = (lopnd u S g).1 ∧ lh n c s (tp_opnd u n c s S.2.1.length S.1.length g iv).2 (lopnd u S g).2 ∧ (lopnd u S g).2.1.length + (lopnd u S g).2.2.1.length ≤ S.1.length + S.2.1.length + 1 := by
  obtain ⟨cs, os, o, dg, w⟩ := S
  simp only at hl ⊢
  unfold tp_opnd lopnd
  have e4 : iv n 4 = o := h.2.2.1
  simp only [e4]
  split
  · exact ⟨rfl, lh.push hnc hns hcs (lh.u4 hnc hns hcs h) (by omega), by simp only [List.length_cons]; omega⟩
  · split
    · exact ⟨rfl, lh.app hnc hns hcs (lh.u5 hnc hns hcs (lh.u6 hnc hns hcs h)) (by omega), by simp only [List.length_cons]; omega⟩
    · exact ⟨rfl, lh.app hnc hns hcs (lh.u6 hnc hns hcs h) (by omega), by simp only [List.length_cons]; omega⟩
theorem lh.step (hnc : n ≠ c) (hns : n ≠ s) (hcs : c ≠ s) {u : Nat} {iv : am_iv} {S : lt} (g : Int32) (h : lh n c s iv S) (hl : S.1.length + S.2.1.length < 50) : (td_step u n c s g iv).1 = (lstep u S g).1 ∧ ((lstep u S g).1 ≠ 0 → lh n c s (td_step u n c s g iv).2 (lstep u S g).2 ∧ (lstep u S g).2.1.length + (lstep u S g).2.2.1.length ≤ S.1.length + S.2.1.length + 1) := by
  have e1 : (iv n 1).toNatClampNeg = S.1.length := by rw [h.1]; exact nI_clamp (by omega)
  have e3 : (iv n 3).toNatClampNeg = S.2.1.length := by rw [h.2.1]; exact nI_clamp (by omega)
  have e6 : iv n 6 = S.2.2.2.2 := h.2.2.2.2.1
  unfold td_step lstep
  rw [e1, e3, e6]
  split
  · exact lh.oper hnc hns hcs g h hl
  · have q := lh.opnd hnc hns hcs (u := u) g h hl
    exact ⟨q.1, fun _ => q.2⟩
theorem lh.read (hnc : n ≠ c) (hns : n ≠ s) (hcs : c ≠ s) {u : Nat} {bt : Nat → Int32} : ∀ (k i : Nat) (iv : am_iv) (S : lt), lh n c s iv S → S.1.length + S.2.1.length + k ≤ 50 → (td_read u n c s bt k i iv).1 = (lread u bt k i S).1 ∧ ((lread u bt k i S).1 < 0 → i + k < 2 ^ 31 → (td_read u n c s bt k i iv).2 n 1 = nI (lread u bt k i S).2.length ∧ sv_ok c (td_read u n c s bt k i iv).2 (lread u bt k i S).2 ∧ (lread u bt k i S).2.length ≤ 50) := by
  intro k
  induction k with
  | zero =>
    intro i iv S h hl
    have e1 : (iv n 1).toNatClampNeg = S.1.length := by rw [h.1]; exact nI_clamp (by omega)
    have e3 : (iv n 3).toNatClampNeg = S.2.1.length := by rw [h.2.1]; exact nI_clamp (by omega)
    obtain ⟨cs, os, o, dg, w⟩ := S
    simp only at hl e1 e3
    obtain ⟨a1, a2⟩ := lh.ab hnc hns hcs 0 (by decide) os h (by omega)
    unfold td_read lread tp_comp lend
    rw [e1, e3]
    change lh n c s (tp_ab n c s 0 os.length cs.length iv) _ at a1
    simp only
    generalize tp_ab n c s 0 os.length cs.length iv = W at a1
    generalize lab 0 os cs o = X at a1 a2
    obtain ⟨cs', os', o'⟩ := X
    simp only at a1 a2 ⊢
    refine ⟨?_, fun _ _ => ⟨a1.1, a1.2.2.2.2.2.1, by omega⟩⟩
    have e6 : W n 6 = w := a1.2.2.2.2.1
    have e33 : W n 3 = nI os'.length := a1.2.1
    have eqv : W n 3 = 0 ↔ os' = [] := by
      rw [e33]
      refine (nI_lit (a := os'.length) (c := 0) (by omega) (by decide)).trans ?_
      exact List.length_eq_zero_iff
    rw [e6]
    by_cases q : w = 0 ∧ os' = []
    · have z : (if w = 0 ∧ W n 3 = 0 then (1 : Int32) else 0) = 1 := if_pos ⟨q.1, eqv.mpr q.2⟩
      rw [z, if_neg (by decide), if_pos q]
    · have z : (if w = 0 ∧ W n 3 = 0 then (1 : Int32) else 0) = 0 := if_neg (fun z => q ⟨z.1, eqv.mp z.2⟩)
      rw [z, if_pos rfl, if_neg q]
  | succ k ih =>
    intro i iv S h hl
    obtain ⟨b1, b2⟩ := lh.step hnc hns hcs (u := u) (bt i) h (by omega)
    unfold td_read lread
    rw [b1]
    by_cases q : (lstep u S (bt i)).1 = 0
    · rw [if_pos q, if_pos q]
      exact ⟨rfl, fun z hi => absurd z (nI_pos (by omega))⟩
    · rw [if_neg q, if_neg q]
      obtain ⟨c1, c2⟩ := b2 q
      obtain ⟨d1, d2⟩ := ih (i + 1) _ _ c1 (by omega)
      exact ⟨d1, fun z hi => d2 z (by omega)⟩
end LT
