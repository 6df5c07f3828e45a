/-- rings that are alike in all that counts -/
def a7 (f g : Nat → Int32) : Prop := ∀ k, k ≤ 7 → f k = g k
theorem a7.at {f g : Nat → Int32} (h : a7 f g) (k : Nat) (hk : k ≤ 7 := by decide) : f k = g k := h k hk
theorem a7.symm {f g : Nat → Int32} (h : a7 f g) : a7 g f := fun k hk => (h k hk).symm
theorem rg_gap_c {f f' g g' : Nat → Int32} (h : a7 f f') (h' : a7 g g') : rg_gap f g = rg_gap f' g' := by
  simp only [rg_gap, h.at 1, h'.at 1]
theorem rg_near_c {f f' g g' : Nat → Int32} (h : a7 f f') (h' : a7 g g') : rg_near f g = rg_near f' g' := by
  simp only [rg_near, h.at 2, h'.at 2, h.at 5, h'.at 5]
theorem rg_behind_c {f f' g g' : Nat → Int32} (h : a7 f f') (h' : a7 g g') : rg_behind f g = rg_behind f' g' := by
  simp only [rg_behind, h.at 3, h'.at 3, h.at 1, h'.at 1, h.at 0, h'.at 0]
theorem rg_pace_c {f f' : Nat → Int32} (h : a7 f f') : rg_pace f = rg_pace f' := by
  simp only [rg_pace, h.at 4, h.at 5, h.at 6]
theorem rg_other_c {f f' g g' : Nat → Int32} (h : a7 f f') (h' : a7 g g') : rg_other f g = rg_other f' g' := by
  simp only [rg_other, h'.at 7, h'.at 0, h.at 0]
theorem lw_pull_c {m : Int32} {f f' g g' : Nat → Int32} (h : a7 f f') (h' : a7 g g') : lw_pull m f g = lw_pull m f' g' := by
  simp only [lw_pull, h'.at 4, rg_gap_c h h']
theorem ite_c {α : Type} {c c' : Prop} {x y x' y' : α} (h : c = c') (hx : x = x') (hy : y = y') : @ite α c (Classical.propDecidable c) x y = @ite α c' (Classical.propDecidable c') x' y' := by
  subst h; subst hx; subst hy; rfl
theorem lw_w0_c {m : Int32} {f f' g g' : Nat → Int32} (h : a7 f f') (h' : a7 g g') : lw_w0 m f g = lw_w0 m f' g' := by
  exact ite_c (by rw [h.at 3, h'.at 3, rg_near_c h h']) (ite_c (rg_behind_c h h') (by rw [lw_pull_c h h']) (lw_pull_c h h')) rfl
theorem lw_widens_c {K : Nat} {m : Int32} {f f' g g' : Nat → Int32} (h : a7 f f') (h' : a7 g g') : lw_widens K m f g = lw_widens K m f' g' := by
  have e := ite_c (show (¬ f 3 = g 3 ∧ rg_near f g) = (¬ f' 3 = g' 3 ∧ rg_near f' g') by rw [h.at 3, h'.at 3, rg_near_c h h']) (lw_pull_c (m := m) h h') (rfl : (0 : Int32) = 0)
  simp only [lw_widens, h.at 6, h'.at 6, rg_gap_c h h', lw_w0_c h h', e]
theorem lw_s5_c {m w : Int32} {f f' : Nat → Int32} (h : a7 f f') : lw_s5 m f w = lw_s5 m f' w := by
  simp only [lw_s5, h.at 1, h.at 4]
theorem lw_spreads_c {K : Nat} {m w : Int32} {f f' : Nat → Int32} (h : a7 f f') : lw_spreads K m f w = lw_spreads K m f' w := by
  simp only [lw_spreads, lw_s5_c h]
theorem lw_lifts_c {K : Nat} {m w : Int32} {f f' : Nat → Int32} (h : a7 f f') : lw_lifts K m f w = lw_lifts K m f' w := by
  simp only [lw_lifts, lw_s5_c h]
theorem lw_ends_c {K : Nat} {m : Int32} {f f' g g' : Nat → Int32} (h : a7 f f') (h' : a7 g g') : lw_ends K m f g = lw_ends K m f' g' := by
  simp only [lw_ends, h.at 5, rg_near_c h h', rg_gap_c h h', rg_behind_c h h']
theorem rm_lift_c {on w : Int32} {lk : Nat → Nat} {lm lm' : Nat → Int32} {g g' : Nat → Int32} (h : a7 g g') (j : Nat) (hm : ∀ q, q < j → lm q = lm' q) : rm_lift on w lk lm g j = rm_lift on w lk lm' g' j := by
  induction j with
  | zero => rfl
  | succ j ih => exact ite_c rfl (by rw [ih (fun q hq => hm q (by omega)), hm j (by omega), lw_lifts_c h]) (ih (fun q hq => hm q (by omega)))
theorem rm_in_c {K : Nat} {m acc : Int32} {g g' : Nat → Int32} {G G' : Nat → Nat → Int32} (h : a7 g g') (n : Nat) (hG : ∀ k, k < n → a7 (G k) (G' k)) : rm_in K m g G acc n = rm_in K m g' G' acc n := by
  induction n with
  | zero => rfl
  | succ n ih => exact ite_c (rg_other_c h (hG n (by omega))) (by rw [ih (fun q hq => hG q (by omega)), lw_widens_c h (hG n (by omega))]) (ih (fun q hq => hG q (by omega)))
theorem rm_wid_c {on w : Int32} {lk : Nat → Nat} {lm lm' : Nat → Int32} {n : Nat} {g g' : Nat → Int32} {G G' : Nat → Nat → Int32} (h : a7 g g') (hG : ∀ k, k < n → a7 (G k) (G' k)) (j : Nat) (hm : ∀ q, q < j → lm q = lm' q) : rm_wid on w lk lm n g G j = rm_wid on w lk lm' n g' G' j := by
  induction j with
  | zero => exact h.at 5
  | succ j ih => exact ite_c rfl (by rw [ih (fun q hq => hm q (by omega)), hm j (by omega), lw_spreads_c h, rm_in_c h n hG]) (ih (fun q hq => hm q (by omega)))
theorem rm_first_c {p q : Nat → Prop} : ∀ (d j : Nat), (∀ k, j ≤ k → k < j + d → p k = q k) → rm_first p d j = rm_first q d j := by
  intro d
  induction d with
  | zero => intro j _; rfl
  | succ d ih =>
    intro j h
    exact ite_c (h j (Nat.le_refl j) (by omega)) rfl (ih (j + 1) (fun k h1 h2 => h k (by omega) (by omega)))
theorem rm_by_c {on : Int32} {nl : Nat} {lk : Nat → Nat} {lm lm' : Nat → Int32} {f f' g g' : Nat → Int32} (h : a7 f f') (h' : a7 g g') (hm : ∀ q, q < nl → lm q = lm' q) : rm_by on nl lk lm f g = rm_by on nl lk lm' f' g' := by
  have e : rm_first (rm_endp on lk lm f g) nl 0 = rm_first (rm_endp on lk lm' f' g') nl 0 := rm_first_c nl 0 (fun k _ h2 => by
    simp only [rm_endp, hm k (by omega), lw_ends_c h h'])
  exact ite_c (rg_other_c h h') e rfl
theorem rm_count_c {F F' : Nat → Nat → Int32} (n : Nat) (h : ∀ k, k < n → a7 (F k) (F' k)) : rm_count F n = rm_count F' n := by
  induction n with
  | zero => rfl
  | succ n ih => simp only [rm_count, ih (fun q hq => h q (by omega)), (h n (by omega)).at 7]
theorem rm_front_c {F F' : Nat → Nat → Int32} (n : Nat) (hn : n < 2 ^ 31) (h : ∀ k, k < n → a7 (F k) (F' k)) : rm_front F n = rm_front F' n := by
  induction n with
  | zero => rfl
  | succ n ih =>
    have e := ih (by omega) (fun q hq => h q (by omega))
    have e1 : rm_front F' n < 0 ∨ F (rm_front F' n).toNatClampNeg 1 = F' (rm_front F' n).toNatClampNeg 1 := by
      rcases rm_front_in F' n with q | ⟨q, hq, eq⟩
      · left; rw [q]; decide
      · right; rw [eq, nI_clamp (by omega)]; exact (h q (by omega)).at 1
    simp only [rm_front, e, (h n (by omega)).at 7, (h n (by omega)).at 1]
    rcases e1 with q | q
    · simp only [q, true_or]
    · simp only [q]
/-! the value of a text by its codes alone -/
def sv_step (a b d : Int32) (code : Int32) (st : List Int32) : List Int32 :=
  if 0 ≤ code then code :: st
  else if -3 ≤ code then (if code = -1 then a else if code = -2 then b else d) :: st
  else match st with
    | [] => []
    | y :: r => if code = -33 then (if y = 0 then 1 else 0) :: r else match r with
      | [] => [y]
      | x :: r2 => tx_res (-code) x y :: r2
def sv_run (a b d : Int32) (c : Nat → Int32) : Nat → List Int32
  | 0 => []
  | j + 1 => sv_step a b d (c j) (sv_run a b d c j)
def sv_val (a b d : Int32) (c : Nat → Int32) (z : Nat) : Int32 := (sv_run a b d c z).headD 0
theorem sv_step_len (a b d code : Int32) (st : List Int32) : (sv_step a b d code st).length ≤ st.length + 1 := by
  unfold sv_step
  split
  · simp
  · split
    · simp
    · split
      · simp
      · split
        · simp
        · split <;> simp
theorem sv_run_len (a b d : Int32) (c : Nat → Int32) (j : Nat) : (sv_run a b d c j).length ≤ j := by
  induction j with
  | zero => exact Nat.le_refl 0
  | succ j ih => exact Nat.le_trans (sv_step_len a b d (c j) _) (by omega)
/-- the stack in the heap, its top first in the list -/
def sv_ok (s : am_N) (iv : am_iv) (st : List Int32) : Prop := ∀ i (h : i < st.length), iv s (st.length - 1 - i) = st[i]
theorem sv_ok.push {n s : am_N} (hns : n ≠ s) {iv : am_iv} {st : List Int32} {v : Int32} (h : sv_ok s iv st) : sv_ok s (am_ui (am_ui iv s st.length v) n 3 (nI (st.length + 1))) (v :: st) := by
  intro i hi
  rw [am_ui_o (fun e => hns e.symm)]
  cases i with
  | zero => simp [am_ui]
  | succ i =>
    have h1 : i < st.length := by simpa using hi
    have e1 : (v :: st).length - 1 - (i + 1) = st.length - 1 - i := by simp; omega
    rw [e1, am_ui_n (by omega)]
    simpa using h i h1
theorem tv_sv {n c s : am_N} (hns : n ≠ s) (a b d : Int32) (iv : am_iv) (j : Nat) (hj : j ≤ 50) : tv_run n c s a b d iv j n 3 = nI (sv_run a b d (iv c) j).length ∧ sv_ok s (tv_run n c s a b d iv j) (sv_run a b d (iv c) j) := by
  induction j with
  | zero => exact ⟨by simp [tv_run, sv_run, am_ui]; rfl, fun i h => by simp [sv_run] at h⟩
  | succ j ih =>
    obtain ⟨h1, h2⟩ := ih (by omega)
    have hl := sv_run_len a b d (iv c) j
    have e1 : tv_run n c s a b d iv (j + 1) = tv_step n s a b d (tv_run n c s a b d iv j n 3).toNatClampNeg (iv c j) (tv_run n c s a b d iv j) := rfl
    have e2 : sv_run a b d (iv c) (j + 1) = sv_step a b d (iv c j) (sv_run a b d (iv c) j) := rfl
    rw [e1, e2, h1, nI_clamp (by omega)]
    generalize tv_run n c s a b d iv j = w at h1 h2
    generalize sv_run a b d (iv c) j = st at h1 h2 hl
    generalize iv c j = code
    unfold tv_step sv_step tx_push
    by_cases c0 : 0 ≤ code
    · rw [if_pos c0, if_pos c0, if_pos (by omega)]
      exact ⟨by simp [am_ui], h2.push hns⟩
    rw [if_neg c0, if_neg c0]
    by_cases c3 : -3 ≤ code
    · rw [if_pos c3, if_pos c3, if_pos (by omega)]
      exact ⟨by simp [am_ui], h2.push hns⟩
    rw [if_neg c3, if_neg c3]
    cases st with
    | nil =>
      rw [if_neg (by simp), if_neg (by simp)]
      exact ⟨h1, h2⟩
    | cons y r =>
      have hy : w s r.length = y := h2 0 (Nat.zero_lt_succ _)
      by_cases c33 : code = -33
      · rw [if_pos ⟨c33, by simp⟩]
        simp only [c33, if_true]
        refine ⟨by rw [am_ui_o hns]; exact h1, ?_⟩
        intro i hi
        cases i with
        | zero => simp [am_ui, hy]
        | succ i =>
          have hi2 : i < r.length := by simpa using hi
          have := h2 (i + 1) (by simpa using hi2)
          rw [am_ui_n (by simp; omega)]
          simpa using this
      · rw [if_neg (fun q => c33 q.1)]
        simp only [c33, if_false]
        cases r with
        | nil =>
          rw [if_neg (by simp)]
          exact ⟨h1, h2⟩
        | cons x r2 =>
          have hx : w s r2.length = x := h2 1 (by simp)
          have hy2 : w s (r2.length + 1) = y := hy
          rw [if_pos (by simp)]
          refine ⟨by rw [am_ui_o hns]; simp [am_ui], ?_⟩
          intro i hi
          cases i with
          | zero => simp [am_ui, hx, hy2]
          | succ i =>
            have hi2 : i < r2.length := by simpa using hi
            have := h2 (i + 2) (by simpa using hi2)
            rw [am_ui_n (by simp; omega), am_ui_o (fun e => hns e.symm)]
            simpa using this
theorem tv_val_sv {n c s : am_N} (hns : n ≠ s) (a b d : Int32) (iv : am_iv) (z : Nat) (hz : z ≤ 50) : tv_val n c s a b d iv z = sv_val a b d (iv c) z := by
  obtain ⟨h1, h2⟩ := tv_sv (c := c) hns a b d iv z hz
  have hl := sv_run_len a b d (iv c) z
  unfold tv_val sv_val
  rw [h1, nI_clamp (by omega)]
  generalize tv_run n c s a b d iv z = w at h1 h2
  generalize sv_run a b d (iv c) z = st at h1 h2 hl
  cases st with
  | nil => rfl
  | cons y r =>
    rw [if_pos (by simp)]
    exact h2 0 (Nat.zero_lt_succ _)
theorem sv_run_c {a b d : Int32} {c c' : Nat → Int32} (z : Nat) (h : ∀ k, k < z → c k = c' k) : sv_run a b d c z = sv_run a b d c' z := by
  induction z with
  | zero => rfl
  | succ z ih => simp only [sv_run, ih (fun k hk => h k (by omega)), h z (by omega)]
/-- what a use gives in the class, by the codes alone -/
def gv_pure (u z : Nat) (a b c : Int32) (code : Nat → Int32) : Int32 := if 0 < z then sv_val a b c code z else if u = 0 then (if a < c * 4 then b * a / 4 else b * c) else a / 50 + b / 100
theorem gv_raw_p (i u z : Nat) (hz : z ≤ 50) (a b c : Int32) (iv : am_iv) : gv_raw i u z a b c iv = gv_pure u z a b c (iv (10, i, u)) := by
  unfold gv_raw gv_pure
  split
  · exact tv_val_sv (by simp) a b c iv z hz
  · rfl
