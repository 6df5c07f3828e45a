/-! A tick of the reference, as the heap goes through it -/
noncomputable def rt_go (a n nl z : Nat) (lk : Nat → Nat) (w : am_iv) : Nat → am_iv
  | 0 => w
  | r + 1 => if rf (rt_go a n nl z lk w r) (31, 3, 0) r 7 = 1 then rt_on (rt_go a n nl z lk w r) a n nl z r lk else rt_go a n nl z lk w r
noncomputable def rt_hD (a n nl r : Nat) (lk : Nat → Nat) (W : am_iv) : am_iv := rt_due a r (fun o => rm_by (W (31, a, 0) 3) nl lk (fun j => W (31, 3, 0) (21 + 2 * j)) (rf W (31, 3, 0) r) (rf W (31, 3, 0) o)) lk W n 0
noncomputable def rt_gone (a n nl : Nat) (lk : Nat → Nat) (w : am_iv) : Nat → am_iv
  | 0 => w
  | r + 1 => if rf (rt_gone a n nl lk w r) (31, 3, 0) r 7 = 1 then rt_hD a n nl r lk (rt_gone a n nl lk w r) else rt_gone a n nl lk w r
def rt_s1 (a r : Nat) (w : am_iv) : am_iv := if w (31, a, 0) (79 + 8 * r + 7) = 1 ∧ w (31, a, 0) (79 + 8 * r + 4) = 0 then am_ui w (31, a, 0) (79 + 8 * r + 7) 0 else w
def rt_s2 (a r : Nat) (w : am_iv) : am_iv := if w (31, a, 0) (79 + 8 * r + 7) = 1 ∧ w (31, a, 0) (79 + 8 * r + 3) = 1 ∧ w (31, a, 0) 4 < w (31, a, 0) (79 + 8 * r + 1) then am_ui w (31, a, 0) (79 + 8 * r + 1) (w (31, a, 0) 4) else w
def rt_set (a : Nat) (w : am_iv) : Nat → am_iv
  | 0 => w
  | r + 1 => rt_s2 a r (rt_s1 a r (rt_set a w r))
noncomputable def rt_tick4 (a n nl z : Nat) (lk : Nat → Nat) (iv : am_iv) : am_iv := rt_set a (rt_gone a n nl lk (rt_go a n nl z lk (rx_cp (31, a, 0) (31, 3, 0) iv (80 + 8 * n)) n) n) n
noncomputable def rt_tick (a n nl z : Nat) (lk : Nat → Nat) (iv : am_iv) : am_iv := am_ui (rt_tick4 a n nl z lk iv) (31, a, 0) 0 (rt_tick4 a n nl z lk iv (31, a, 0) 0 + 1)
def rt_pre (iv : am_iv) (a n nl z : Nat) (lk : Nat → Nat) : Prop := iv (31, a, 0) 1 = nI n ∧ n ≤ 8 ∧ iv (31, a, 0) 2 = nI nl ∧ nl ≤ 6 ∧ (∀ j, j < nl → lk j < 7 ∧ iv (31, a, 0) (20 + 2 * j) = nI (lk j)) ∧ (-99999 ≤ (iv (31, a, 0) 4).toInt ∧ (iv (31, a, 0) 4).toInt ≤ 99999) ∧ (∀ r, r < n → rok (rf iv (31, a, 0) r)) ∧ iv (31, 0, 0) 41 = nI z ∧ z ≤ 50
/-- what a tick leaves -/
def rfr (a : Nat) (q : am_N) (k : Nat) : Prop := ¬ (q = (31, a, 0) ∧ 80 ≤ k ∧ k < 144) ∧ q ≠ (30, 0, 0) ∧ q ≠ (31, 13, 0)
theorem rt_go_o {a n nl z : Nat} {lk : Nat → Nat} {w : am_iv} {q : am_N} {k : Nat} (h : rfr a q k) (r : Nat) (hr : r ≤ 8) : rt_go a n nl z lk w r q k = w q k := by
  induction r with
  | zero => rfl
  | succ r ih =>
    unfold rt_go
    split
    · rw [rt_on_o h.1 (by omega) h.2.1 h.2.2]; exact ih (by omega)
    · exact ih (by omega)
theorem rt_gone_o {a n nl : Nat} {lk : Nat → Nat} {w : am_iv} {q : am_N} {k : Nat} (hn : n ≤ 8) (h : rfr a q k) (r : Nat) (hr : r ≤ 8) : rt_gone a n nl lk w r q k = w q k := by
  induction r with
  | zero => rfl
  | succ r ih =>
    unfold rt_gone
    split
    · exact (rt_due_o h.1 (by omega) n 0 (by omega)).trans (ih (by omega))
    · exact ih (by omega)
theorem rt_s1_o {a r : Nat} {w : am_iv} {q : am_N} {k : Nat} (h : rfr a q k) (hr : r < 8) : rt_s1 a r w q k = w q k := by
  unfold rt_s1
  split
  · exact am_ui_n (fun e => h.1 ⟨e.1, by omega⟩)
  · rfl
theorem rt_s2_o {a r : Nat} {w : am_iv} {q : am_N} {k : Nat} (h : rfr a q k) (hr : r < 8) : rt_s2 a r w q k = w q k := by
  unfold rt_s2
  split
  · exact am_ui_n (fun e => h.1 ⟨e.1, by omega⟩)
  · rfl
theorem rt_set_o {a : Nat} {w : am_iv} {q : am_N} {k : Nat} (h : rfr a q k) (r : Nat) (hr : r ≤ 8) : rt_set a w r q k = w q k := by
  induction r with
  | zero => rfl
  | succ r ih => exact (rt_s2_o h (by omega)).trans ((rt_s1_o h (by omega)).trans (ih (by omega)))
theorem rt_ok.to {iv w : am_iv} {a n nl z : Nat} {lk : Nat → Nat} (ha : a < 3) (h : rt_ok iv a n nl z lk) (e : ∀ q k, rfr a q k → w q k = iv q k) : rt_ok w a n nl z lk := by
  obtain ⟨h1, h2, h3, h4, h5, h6, h7, h8, h9⟩ := h
  have f3 : ∀ k, rfr a (31, 3, 0) k := fun k => ⟨fun q => by simp at q; omega, by simp, by simp⟩
  have fa : ∀ k, k < 80 → rfr a (31, a, 0) k := fun k hk => ⟨fun q => by omega, by simp, by simp; omega⟩
  have f0 : rfr a (31, 0, 0) 41 := ⟨fun q => by omega, by simp, by simp⟩
  refine ⟨(e _ _ (fa 1 (by decide))).trans h1, h2, (e _ _ (fa 2 (by decide))).trans h3, h4, fun j hj => ⟨(h5 j hj).1, (e _ _ (f3 _)).trans (h5 j hj).2.1, (e _ _ (fa _ (by omega))).trans (h5 j hj).2.2⟩, ?_, fun r hr => ?_, (e _ _ f0).trans h8, h9⟩
  · rw [e _ _ (f3 4)]; exact h6
  · have : rf w (31, 3, 0) r = rf iv (31, 3, 0) r := funext fun k => by simp only [rf]; rw [e _ _ (f3 _)]
    rw [this]; exact h7 r hr
theorem rt_pre.cp {iv : am_iv} {a n nl z : Nat} {lk : Nat → Nat} (ha : a < 3) (h : rt_pre iv a n nl z lk) : rt_ok (rx_cp (31, a, 0) (31, 3, 0) iv (80 + 8 * n)) a n nl z lk := by
  obtain ⟨h1, h2, h3, h4, h5, h6, h7, h8, h9⟩ := h
  have fa : ∀ k, rx_cp (31, a, 0) (31, 3, 0) iv (80 + 8 * n) (31, a, 0) k = iv (31, a, 0) k := fun k => by
    unfold rx_cp; rw [if_neg (fun q => by have := q.1; simp at this; omega)]
  have f3 : ∀ k, k < 80 + 8 * n → rx_cp (31, a, 0) (31, 3, 0) iv (80 + 8 * n) (31, 3, 0) k = iv (31, a, 0) k := fun k hk => by
    unfold rx_cp; rw [if_pos ⟨rfl, hk⟩]
  have f0 : rx_cp (31, a, 0) (31, 3, 0) iv (80 + 8 * n) (31, 0, 0) 41 = iv (31, 0, 0) 41 := by
    unfold rx_cp; rw [if_neg (fun q => by have := q.1; simp at this)]
  refine ⟨(fa 1).trans h1, h2, (fa 2).trans h3, h4, fun j hj => ⟨(h5 j hj).1, (f3 _ (by omega)).trans (h5 j hj).2, (fa _).trans (h5 j hj).2⟩, ?_, fun r hr => ?_, f0.trans h8, h9⟩
  · rw [f3 4 (by omega)]; exact h6
  · have e : ∀ k, k ≤ 7 → rf (rx_cp (31, a, 0) (31, 3, 0) iv (80 + 8 * n)) (31, 3, 0) r k = rf iv (31, a, 0) r k := fun k hk => by
      simp only [rf]
      split
      · rfl
      · exact f3 _ (by omega)
    have := h7 r hr
    unfold rok at this ⊢
    rw [e 1 (by decide), e 2 (by decide), e 3 (by decide), e 4 (by decide), e 5 (by decide), e 6 (by decide), e 7 (by decide)]
    exact this
def rb7 (w : am_iv) (a n : Nat) : Prop := ∀ k, k < n → w (31, a, 0) (79 + 8 * k + 7) = 0 ∨ w (31, a, 0) (79 + 8 * k + 7) = 1
theorem rb7_on {w : am_iv} {a n nl z r : Nat} {lk : Nat → Nat} (ha : a < 3) (h : rb7 w a n) : rb7 (rt_on w a n nl z r lk) a n := fun k hk => by
  have e : rt_on w a n nl z r lk (31, a, 0) (79 + 8 * k + 7) = w (31, a, 0) (79 + 8 * k + 7) := by
    unfold rt_on
    rw [am_ui_n (by omega), gr_heap_o (by simp) (by simp; omega)]
    unfold rt_h3
    rw [am_ui_n (by omega), am_ui_n (by omega), am_ui_n (by omega)]
  rw [e]; exact h k hk
theorem rb7_0 {w : am_iv} {a n r : Nat} (h : rb7 w a n) : rb7 (am_ui w (31, a, 0) (79 + 8 * r + 7) 0) a n := fun k hk => by
  by_cases e : k = r
  · rw [e, am_ui_s]; exact Or.inl rfl
  · rw [am_ui_n (by omega)]; exact h k hk
theorem rb7_due {a r n : Nat} {e : Nat → Option Nat} {lk : Nat → Nat} {w : am_iv} (h : rb7 w a n) : ∀ (d j : Nat), rb7 (rt_due a r e lk w d j) a n := by
  intro d
  induction d with
  | zero => intro j; exact h
  | succ d ih =>
    intro j
    unfold rt_due
    cases e j with
    | none => exact ih (j + 1)
    | some x =>
      show rb7 (rt_eff a r j x lk w) a n
      unfold rt_eff
      split
      · intro k hk
        rw [am_ui_n (by omega)]; exact rb7_0 h k hk
      · exact rb7_0 h
theorem rb7_go {a n nl z : Nat} {lk : Nat → Nat} {w : am_iv} (ha : a < 3) (h : rb7 w a n) (r : Nat) : rb7 (rt_go a n nl z lk w r) a n := by
  induction r with
  | zero => exact h
  | succ r ih =>
    unfold rt_go
    split
    · exact rb7_on ha ih
    · exact ih
theorem rb7_gone {a n nl : Nat} {lk : Nat → Nat} {w : am_iv} (h : rb7 w a n) (r : Nat) : rb7 (rt_gone a n nl lk w r) a n := by
  induction r with
  | zero => exact h
  | succ r ih =>
    unfold rt_gone
    split
    · exact rb7_due ih n 0
    · exact ih
set_option maxRecDepth 20000 in
theorem r_goesBy (l : Launch) {kd : am_kd} {rv : am_rv} {iv : am_iv} (hR : shr kd rv) (a : Nat) (ha : a < 3) (hm : kd (31, a, 0) = some (.inr (0, 300))) (n nl z : Nat) (lk : Nat → Nat) (pre : rt_pre iv a n nl z lk) : am_Met l mX12_goesBy (am_rm 41 0 0) [am_P (30, 0, 0), am_P (31, a, 0)] kd rv iv (am_ret none kd rv (rt_tick a n nl z lk iv)) := by
  refine am_Met.of (by decide) (Nat.le_of_ble_eq_true rfl) rfl ?_
  have ok1 := pre.cp ha
  have hn8 := pre.2.1
  have hnn : n < 2 ^ 31 := by omega
  have h80 : 80 + 8 * n < 2 ^ 31 := by omega
  have fa : ∀ k, k < 80 → rfr a (31, a, 0) k := fun k hk => ⟨fun q => by omega, by simp, by simp; omega⟩
  have f3 : ∀ k, rfr a (31, 3, 0) k := fun k => ⟨fun q => by simp at q; omega, by simp, by simp⟩
  have ok2 : ∀ j, j ≤ 8 → rt_ok (rt_go a n nl z lk (rx_cp (31, a, 0) (31, 3, 0) iv (80 + 8 * n)) j) a n nl z lk := fun j hj => ok1.to ha (fun q k h => rt_go_o h j hj)
  have ok3 : ∀ j, j ≤ 8 → rt_ok (rt_gone a n nl lk (rt_go a n nl z lk (rx_cp (31, a, 0) (31, 3, 0) iv (80 + 8 * n)) n) j) a n nl z lk := fun j hj => (ok2 n hn8).to ha (fun q k h => rt_gone_o hn8 h j hj)
  have ok4 : ∀ j, j ≤ 8 → rt_ok (rt_set a (rt_gone a n nl lk (rt_go a n nl z lk (rx_cp (31, a, 0) (31, 3, 0) iv (80 + 8 * n)) n) n) j) a n nl z lk := fun j hj => (ok3 n hn8).to ha (fun q k h => rt_set_o h j hj)
  have b1 : rb7 (rx_cp (31, a, 0) (31, 3, 0) iv (80 + 8 * n)) a n := fun k hk => by
    have e : (rx_cp (31, a, 0) (31, 3, 0) iv (80 + 8 * n)) (31, a, 0) (79 + 8 * k + 7) = iv (31, a, 0) (79 + 8 * k + 7) := by
      unfold rx_cp; rw [if_neg (fun q => by have := q.1; simp at this; omega)]
    rw [e]; exact (pre.2.2.2.2.2.2.1 k hk).2.2.2.2.2.2
  have b2 : ∀ j, rb7 (rt_gone a n nl lk (rt_go a n nl z lk (rx_cp (31, a, 0) (31, 3, 0) iv (80 + 8 * n)) n) j) a n := fun j => rb7_gone (rb7_go ha b1 n) j
  have l4 := am_for (fun j => ∀ y : Option am_V, am_W l mX12_goesBy (am_rm 41 0 0) (am_ret none kd rv (rt_tick a n nl z lk iv)) 96 [some (am_P (30, 0, 0)), some (am_P (31, a, 0)), some (am_I (nI j)), y] [] kd rv (rt_set a (rt_gone a n nl lk (rt_go a n nl z lk (rx_cp (31, a, 0) (31, 3, 0) iv (80 + 8 * n)) n) n) j) 0 0) n (fun y => ?_) (fun j hj ih y => ?_) 0 (Nat.zero_le n)
  have l3 := am_for (fun j => ∀ y : Option am_V, am_W l mX12_goesBy (am_rm 41 0 0) (am_ret none kd rv (rt_tick a n nl z lk iv)) 64 [some (am_P (30, 0, 0)), some (am_P (31, a, 0)), some (am_I (nI j)), y] [] kd rv (rt_gone a n nl lk (rt_go a n nl z lk (rx_cp (31, a, 0) (31, 3, 0) iv (80 + 8 * n)) n) j) 0 0) n (fun y => ?_) (fun j hj ih y => ?_) 0 (Nat.zero_le n)
  have l2 := am_for (fun j => ∀ y : Option am_V, am_W l mX12_goesBy (am_rm 41 0 0) (am_ret none kd rv (rt_tick a n nl z lk iv)) 32 [some (am_P (30, 0, 0)), some (am_P (31, a, 0)), some (am_I (nI j)), y] [] kd rv (rt_go a n nl z lk (rx_cp (31, a, 0) (31, 3, 0) iv (80 + 8 * n)) j) 0 0) n (fun y => ?_) (fun j hj ih y => ?_) 0 (Nat.zero_le n)
  have l1 := am_for (fun j => ∀ y : Option am_V, am_W l mX12_goesBy (am_rm 41 0 0) (am_ret none kd rv (rt_tick a n nl z lk iv)) 2 [some (am_P (30, 0, 0)), some (am_P (31, a, 0)), some (am_I (nI j)), y] [] kd rv (rx_cp (31, a, 0) (31, 3, 0) iv j) 0 0) (80 + 8 * n) (fun y => ?_) (fun j hj ih y => ?_) 0 (Nat.zero_le _)
  · refine A_iconst (pc := 0) (0) dX12_goesBy_0 (by decide) ?_
    refine A_ist2 (pc := 1) dX12_goesBy_1 (Nat.le_of_ble_eq_true rfl) rfl ?_
    rw [rx_cp_0] at l1
    exact l1 _
  · refine A_iload_n (pc := 2) (i := 2) dX12_goesBy_2 rfl rfl ?_
    refine A_bipush (pc := 3) (80) dX12_goesBy_3 (by decide) ?_
    refine A_bipush (pc := 5) (8) dX12_goesBy_5 (by decide) ?_
    refine A_aload_n (pc := 7) (i := 1) dX12_goesBy_7 rfl rfl ?_
    refine A_iconst (pc := 8) (1) dX12_goesBy_8 (by decide) ?_
    refine A_ialdN (pc := 9) (j := 1) hm (by decide) (by decide) dX12_goesBy_9 ?_
    refine A_top (show rx_cp (31, a, 0) (31, 3, 0) iv (80 + 8 * n) (31, a, 0) 1 = nI n from (by unfold rx_cp; rw [if_neg (fun q => by have := q.1; simp at this; omega)]; exact pre.1)) ?_
    refine A_imul (pc := 10) dX12_goesBy_10 ?_
    refine A_iadd (pc := 11) dX12_goesBy_11 ?_
    refine A_top (rx_base n) ?_
    refine A_icmpge (pc := 12) 30 dX12_goesBy_12 (by decide) (fun hb12 => ?_) (fun hb12 => ?_)
    · refine A_iconst (pc := 30) (0) dX12_goesBy_30 (by decide) ?_
      refine A_ist2 (pc := 31) dX12_goesBy_31 (Nat.le_of_ble_eq_true rfl) rfl ?_
      exact l2 _
    · exact absurd (nI_le (Nat.le_refl _) h80) hb12
  · refine A_iload_n (pc := 2) (i := 2) dX12_goesBy_2 rfl rfl ?_
    refine A_bipush (pc := 3) (80) dX12_goesBy_3 (by decide) ?_
    refine A_bipush (pc := 5) (8) dX12_goesBy_5 (by decide) ?_
    refine A_aload_n (pc := 7) (i := 1) dX12_goesBy_7 rfl rfl ?_
    refine A_iconst (pc := 8) (1) dX12_goesBy_8 (by decide) ?_
    refine A_ialdN (pc := 9) (j := 1) hm (by decide) (by decide) dX12_goesBy_9 ?_
    refine A_top (show rx_cp (31, a, 0) (31, 3, 0) iv j (31, a, 0) 1 = nI n from (by unfold rx_cp; rw [if_neg (fun q => by have := q.1; simp at this; omega)]; exact pre.1)) ?_
    refine A_imul (pc := 10) dX12_goesBy_10 ?_
    refine A_iadd (pc := 11) dX12_goesBy_11 ?_
    refine A_top (rx_base n) ?_
    refine A_icmpge (pc := 12) 30 dX12_goesBy_12 (by decide) (fun hb12 => ?_) (fun hb12 => ?_)
    · exact absurd hb12 (nI_ge hj h80)
    · refine A_aload_n (pc := 15) (i := 0) dX12_goesBy_15 rfl rfl ?_
      refine A_getr (pc := 16) 3 fl_X12_19_12 hR.1 rfl hR.w3 dX12_goesBy_16 ?_
      refine A_iload_n (pc := 19) (i := 2) dX12_goesBy_19 rfl rfl ?_
      refine A_aload_n (pc := 20) (i := 1) dX12_goesBy_20 rfl rfl ?_
      refine A_iload_n (pc := 21) (i := 2) dX12_goesBy_21 rfl rfl ?_
      refine A_ialdN (pc := 22) hm (show j < 300 by omega) (by decide) dX12_goesBy_22 ?_
      refine A_iastN (pc := 23) hR.k3 (show j < 300 by omega) (by decide) dX12_goesBy_23 ?_
      refine A_heap (rx_cp_s (by simp; omega) j) ?_
      refine A_inc2 (pc := 24) (nI (j + 1)) dX12_goesBy_24 (nI_1 j) (Nat.le_of_ble_eq_true rfl) rfl ?_
      refine A_goto (pc := 27) 2 dX12_goesBy_27 (by decide) ?_
      exact ih _
  · refine A_iload_n (pc := 32) (i := 2) dX12_goesBy_32 rfl rfl ?_
    refine A_aload_n (pc := 33) (i := 1) dX12_goesBy_33 rfl rfl ?_
    refine A_iconst (pc := 34) (1) dX12_goesBy_34 (by decide) ?_
    refine A_ialdN (pc := 35) (j := 1) hm (by decide) (by decide) dX12_goesBy_35 ?_
    refine A_top (ok2 n hn8).1 ?_
    refine A_icmpge (pc := 36) 62 dX12_goesBy_36 (by decide) (fun hb36 => ?_) (fun hb36 => ?_)
    · refine A_iconst (pc := 62) (0) dX12_goesBy_62 (by decide) ?_
      refine A_ist2 (pc := 63) dX12_goesBy_63 (Nat.le_of_ble_eq_true rfl) rfl ?_
      exact l3 _
    · exact absurd (nI_le (Nat.le_refl n) hnn) hb36
  · refine A_iload_n (pc := 32) (i := 2) dX12_goesBy_32 rfl rfl ?_
    refine A_aload_n (pc := 33) (i := 1) dX12_goesBy_33 rfl rfl ?_
    refine A_iconst (pc := 34) (1) dX12_goesBy_34 (by decide) ?_
    refine A_ialdN (pc := 35) (j := 1) hm (by decide) (by decide) dX12_goesBy_35 ?_
    refine A_top (ok2 j (by omega)).1 ?_
    refine A_icmpge (pc := 36) 62 dX12_goesBy_36 (by decide) (fun hb36 => ?_) (fun hb36 => ?_)
    · exact absurd hb36 (nI_ge hj hnn)
    · refine A_aload_n (pc := 39) (i := 0) dX12_goesBy_39 rfl rfl ?_
      refine A_getr (pc := 40) 3 fl_X12_19_12 hR.1 rfl hR.w3 dX12_goesBy_40 ?_
      refine A_iload_n (pc := 43) (i := 2) dX12_goesBy_43 rfl rfl ?_
      refine A_callS1 (pc := 44) cs_X12_209 (r_isWhole l (31, 3, 0) hR.k3 j (by omega)) rfl rfl (Nat.le_of_ble_eq_true rfl) ⟨(Nat.le_of_ble_eq_true rfl), (Nat.le_of_ble_eq_true rfl)⟩ ⟨Nat.zero_le _, Nat.zero_le _⟩ dX12_goesBy_44 ?_
      refine A_ifeq (pc := 47) 56 dX12_goesBy_47 (by decide) (fun hb47 => ?_) (fun hb47 => ?_)
      · refine A_inc2 (pc := 56) (nI (j + 1)) dX12_goesBy_56 (nI_1 j) (Nat.le_of_ble_eq_true rfl) rfl ?_
        refine A_goto (pc := 59) 32 dX12_goesBy_59 (by decide) ?_
        have ih2 := ih y
        rw [rt_go, if_neg ((sr_b_0 _).mp hb47)] at ih2
        exact ih2
      · refine A_aload_n (pc := 50) (i := 0) dX12_goesBy_50 rfl rfl ?_
        refine A_aload_n (pc := 51) (i := 1) dX12_goesBy_51 rfl rfl ?_
        refine A_iload_n (pc := 52) (i := 2) dX12_goesBy_52 rfl rfl ?_
        refine A_callV0 (pc := 53) cv_X12_217 (r_goesOn l hR a ha hm n nl z lk (ok2 j (by omega)) j hj) hR.1 rfl rfl rfl rfl (Nat.le_of_ble_eq_true rfl) ⟨(Nat.le_of_ble_eq_true rfl), (Nat.le_of_ble_eq_true rfl)⟩ ⟨Nat.zero_le _, Nat.zero_le _⟩ dX12_goesBy_53 ?_
        refine A_inc2 (pc := 56) (nI (j + 1)) dX12_goesBy_56 (nI_1 j) (Nat.le_of_ble_eq_true rfl) rfl ?_
        refine A_goto (pc := 59) 32 dX12_goesBy_59 (by decide) ?_
        have ih2 := ih y
        rw [rt_go, if_pos (Classical.not_not.mp (fun h => hb47 ((sr_b_0 _).mpr h)))] at ih2
        exact ih2
  · refine A_iload_n (pc := 64) (i := 2) dX12_goesBy_64 rfl rfl ?_
    refine A_aload_n (pc := 65) (i := 1) dX12_goesBy_65 rfl rfl ?_
    refine A_iconst (pc := 66) (1) dX12_goesBy_66 (by decide) ?_
    refine A_ialdN (pc := 67) (j := 1) hm (by decide) (by decide) dX12_goesBy_67 ?_
    refine A_top (ok3 n hn8).1 ?_
    refine A_icmpge (pc := 68) 94 dX12_goesBy_68 (by decide) (fun hb68 => ?_) (fun hb68 => ?_)
    · refine A_iconst (pc := 94) (0) dX12_goesBy_94 (by decide) ?_
      refine A_ist2 (pc := 95) dX12_goesBy_95 (Nat.le_of_ble_eq_true rfl) rfl ?_
      exact l4 _
    · exact absurd (nI_le (Nat.le_refl n) hnn) hb68
  · refine A_iload_n (pc := 64) (i := 2) dX12_goesBy_64 rfl rfl ?_
    refine A_aload_n (pc := 65) (i := 1) dX12_goesBy_65 rfl rfl ?_
    refine A_iconst (pc := 66) (1) dX12_goesBy_66 (by decide) ?_
    refine A_ialdN (pc := 67) (j := 1) hm (by decide) (by decide) dX12_goesBy_67 ?_
    refine A_top (ok3 j (by omega)).1 ?_
    refine A_icmpge (pc := 68) 94 dX12_goesBy_68 (by decide) (fun hb68 => ?_) (fun hb68 => ?_)
    · exact absurd hb68 (nI_ge hj hnn)
    · refine A_aload_n (pc := 71) (i := 0) dX12_goesBy_71 rfl rfl ?_
      refine A_getr (pc := 72) 3 fl_X12_19_12 hR.1 rfl hR.w3 dX12_goesBy_72 ?_
      refine A_iload_n (pc := 75) (i := 2) dX12_goesBy_75 rfl rfl ?_
      refine A_callS1 (pc := 76) cs_X12_209 (r_isWhole l (31, 3, 0) hR.k3 j (by omega)) rfl rfl (Nat.le_of_ble_eq_true rfl) ⟨(Nat.le_of_ble_eq_true rfl), (Nat.le_of_ble_eq_true rfl)⟩ ⟨Nat.zero_le _, Nat.zero_le _⟩ dX12_goesBy_76 ?_
      refine A_ifeq (pc := 79) 88 dX12_goesBy_79 (by decide) (fun hb79 => ?_) (fun hb79 => ?_)
      · refine A_inc2 (pc := 88) (nI (j + 1)) dX12_goesBy_88 (nI_1 j) (Nat.le_of_ble_eq_true rfl) rfl ?_
        refine A_goto (pc := 91) 64 dX12_goesBy_91 (by decide) ?_
        have ih2 := ih y
        rw [rt_gone, if_neg ((sr_b_0 _).mp hb79)] at ih2
        exact ih2
      · refine A_aload_n (pc := 82) (i := 0) dX12_goesBy_82 rfl rfl ?_
        refine A_aload_n (pc := 83) (i := 1) dX12_goesBy_83 rfl rfl ?_
        refine A_iload_n (pc := 84) (i := 2) dX12_goesBy_84 rfl rfl ?_
        refine A_callV0 (pc := 85) cv_X12_221 (r_mayEnd l hR a ha hm n nl z lk (ok3 j (by omega)) (b2 j) j hj) hR.1 rfl rfl rfl rfl (Nat.le_of_ble_eq_true rfl) ⟨(Nat.le_of_ble_eq_true rfl), (Nat.le_of_ble_eq_true rfl)⟩ ⟨Nat.zero_le _, Nat.zero_le _⟩ dX12_goesBy_85 ?_
        refine A_inc2 (pc := 88) (nI (j + 1)) dX12_goesBy_88 (nI_1 j) (Nat.le_of_ble_eq_true rfl) rfl ?_
        refine A_goto (pc := 91) 64 dX12_goesBy_91 (by decide) ?_
        have ih2 := ih y
        rw [rt_gone, if_pos (Classical.not_not.mp (fun h => hb79 ((sr_b_0 _).mpr h)))] at ih2
        exact ih2
  · refine A_iload_n (pc := 96) (i := 2) dX12_goesBy_96 rfl rfl ?_
    refine A_aload_n (pc := 97) (i := 1) dX12_goesBy_97 rfl rfl ?_
    refine A_iconst (pc := 98) (1) dX12_goesBy_98 (by decide) ?_
    refine A_ialdN (pc := 99) (j := 1) hm (by decide) (by decide) dX12_goesBy_99 ?_
    refine A_top (ok4 n hn8).1 ?_
    refine A_icmpge (pc := 100) 180 dX12_goesBy_100 (by decide) (fun hb100 => ?_) (fun hb100 => ?_)
    · refine A_aload_n (pc := 180) (i := 1) dX12_goesBy_180 rfl rfl ?_
      refine A_iconst (pc := 181) (0) dX12_goesBy_181 (by decide) ?_
      refine A_dup2 (pc := 182) dX12_goesBy_182 rfl rfl ?_
      refine A_ialdN (pc := 183) (j := 0) hm (by decide) (by decide) dX12_goesBy_183 ?_
      refine A_iconst (pc := 184) (1) dX12_goesBy_184 (by decide) ?_
      refine A_iadd (pc := 185) dX12_goesBy_185 ?_
      refine A_iastN (pc := 186) (j := 0) hm (by decide) (by decide) dX12_goesBy_186 ?_
      exact A_vretE (pc := 187) dX12_goesBy_187 rfl (Nat.zero_le _) (Nat.zero_le _) (rfl)
    · exact absurd (nI_le (Nat.le_refl n) hnn) hb100
  · have fin : am_W l mX12_goesBy (am_rm 41 0 0) (am_ret none kd rv (rt_tick a n nl z lk iv)) 136 [some (am_P (30, 0, 0)), some (am_P (31, a, 0)), some (am_I (nI j)), some (am_I (nI (80 + 8 * j)))] [] kd rv (rt_s1 a j (rt_set a (rt_gone a n nl lk (rt_go a n nl z lk (rx_cp (31, a, 0) (31, 3, 0) iv (80 + 8 * n)) n) n) j)) 0 0 := by
      refine A_aload_n (pc := 136) (i := 1) dX12_goesBy_136 rfl rfl ?_
      refine A_iload_n (pc := 137) (i := 3) dX12_goesBy_137 rfl rfl ?_
      refine A_bipush (pc := 138) (6) dX12_goesBy_138 (by decide) ?_
      refine A_iadd (pc := 140) dX12_goesBy_140 ?_
      refine A_top (rx_at j 6) ?_
      refine A_ialdN (pc := 141) hm (show 79 + 8 * j + (6 + 1) < 300 by omega) (by decide) dX12_goesBy_141 ?_
      refine A_iconst (pc := 142) (1) dX12_goesBy_142 (by decide) ?_
      refine A_icmpne (pc := 143) 174 dX12_goesBy_143 (by decide) (fun hb143 => ?_) (fun hb143 => ?_)
      · refine A_inc2 (pc := 174) (nI (j + 1)) dX12_goesBy_174 (nI_1 j) (Nat.le_of_ble_eq_true rfl) rfl ?_
        refine A_goto (pc := 177) 96 dX12_goesBy_177 (by decide) ?_
        have ih2 := ih (some (am_I (nI (80 + 8 * j))))
        have e4 : rt_set a (rt_gone a n nl lk (rt_go a n nl z lk (rx_cp (31, a, 0) (31, 3, 0) iv (80 + 8 * n)) n) n) (j + 1) = rt_s2 a j (rt_s1 a j (rt_set a (rt_gone a n nl lk (rt_go a n nl z lk (rx_cp (31, a, 0) (31, 3, 0) iv (80 + 8 * n)) n) n) j)) := rfl
        rw [e4, rt_s2, if_neg (fun h => hb143 h.1)] at ih2
        exact ih2
      · refine A_aload_n (pc := 146) (i := 1) dX12_goesBy_146 rfl rfl ?_
        refine A_iload_n (pc := 147) (i := 3) dX12_goesBy_147 rfl rfl ?_
        refine A_iconst (pc := 148) (2) dX12_goesBy_148 (by decide) ?_
        refine A_iadd (pc := 149) dX12_goesBy_149 ?_
        refine A_top (rx_at j 2) ?_
        refine A_ialdN (pc := 150) hm (show 79 + 8 * j + (2 + 1) < 300 by omega) (by decide) dX12_goesBy_150 ?_
        refine A_iconst (pc := 151) (1) dX12_goesBy_151 (by decide) ?_
        refine A_icmpne (pc := 152) 174 dX12_goesBy_152 (by decide) (fun hb152 => ?_) (fun hb152 => ?_)
        · refine A_inc2 (pc := 174) (nI (j + 1)) dX12_goesBy_174 (nI_1 j) (Nat.le_of_ble_eq_true rfl) rfl ?_
          refine A_goto (pc := 177) 96 dX12_goesBy_177 (by decide) ?_
          have ih2 := ih (some (am_I (nI (80 + 8 * j))))
          have e4 : rt_set a (rt_gone a n nl lk (rt_go a n nl z lk (rx_cp (31, a, 0) (31, 3, 0) iv (80 + 8 * n)) n) n) (j + 1) = rt_s2 a j (rt_s1 a j (rt_set a (rt_gone a n nl lk (rt_go a n nl z lk (rx_cp (31, a, 0) (31, 3, 0) iv (80 + 8 * n)) n) n) j)) := rfl
          rw [e4, rt_s2, if_neg (fun h => hb152 h.2.1)] at ih2
          exact ih2
        · refine A_aload_n (pc := 155) (i := 1) dX12_goesBy_155 rfl rfl ?_
          refine A_iload_n (pc := 156) (i := 3) dX12_goesBy_156 rfl rfl ?_
          refine A_iconst (pc := 157) (0) dX12_goesBy_157 (by decide) ?_
          refine A_iadd (pc := 158) dX12_goesBy_158 ?_
          refine A_top (rx_at j 0) ?_
          refine A_ialdN (pc := 159) hm (show 79 + 8 * j + (0 + 1) < 300 by omega) (by decide) dX12_goesBy_159 ?_
          refine A_aload_n (pc := 160) (i := 1) dX12_goesBy_160 rfl rfl ?_
          refine A_iconst (pc := 161) (4) dX12_goesBy_161 (by decide) ?_
          refine A_ialdN (pc := 162) (j := 4) hm (by decide) (by decide) dX12_goesBy_162 ?_
          refine A_icmple (pc := 163) 174 dX12_goesBy_163 (by decide) (fun hb163 => ?_) (fun hb163 => ?_)
          · refine A_inc2 (pc := 174) (nI (j + 1)) dX12_goesBy_174 (nI_1 j) (Nat.le_of_ble_eq_true rfl) rfl ?_
            refine A_goto (pc := 177) 96 dX12_goesBy_177 (by decide) ?_
            have ih2 := ih (some (am_I (nI (80 + 8 * j))))
            have e4 : rt_set a (rt_gone a n nl lk (rt_go a n nl z lk (rx_cp (31, a, 0) (31, 3, 0) iv (80 + 8 * n)) n) n) (j + 1) = rt_s2 a j (rt_s1 a j (rt_set a (rt_gone a n nl lk (rt_go a n nl z lk (rx_cp (31, a, 0) (31, 3, 0) iv (80 + 8 * n)) n) n) j)) := rfl
            rw [e4, rt_s2, if_neg (fun h => absurd h.2.2 (Int32.not_lt.mpr hb163))] at ih2
            exact ih2
          · refine A_aload_n (pc := 166) (i := 1) dX12_goesBy_166 rfl rfl ?_
            refine A_iload_n (pc := 167) (i := 3) dX12_goesBy_167 rfl rfl ?_
            refine A_iconst (pc := 168) (0) dX12_goesBy_168 (by decide) ?_
            refine A_iadd (pc := 169) dX12_goesBy_169 ?_
            refine A_aload_n (pc := 170) (i := 1) dX12_goesBy_170 rfl rfl ?_
            refine A_iconst (pc := 171) (4) dX12_goesBy_171 (by decide) ?_
            refine A_ialdN (pc := 172) (j := 4) hm (by decide) (by decide) dX12_goesBy_172 ?_
            refine A_top2 (rx_at j 0) ?_
            refine A_iastN (pc := 173) hm (show 79 + 8 * j + (0 + 1) < 300 by omega) (by decide) dX12_goesBy_173 ?_
            refine A_inc2 (pc := 174) (nI (j + 1)) dX12_goesBy_174 (nI_1 j) (Nat.le_of_ble_eq_true rfl) rfl ?_
            refine A_goto (pc := 177) 96 dX12_goesBy_177 (by decide) ?_
            have ih2 := ih (some (am_I (nI (80 + 8 * j))))
            have e4 : rt_set a (rt_gone a n nl lk (rt_go a n nl z lk (rx_cp (31, a, 0) (31, 3, 0) iv (80 + 8 * n)) n) n) (j + 1) = rt_s2 a j (rt_s1 a j (rt_set a (rt_gone a n nl lk (rt_go a n nl z lk (rx_cp (31, a, 0) (31, 3, 0) iv (80 + 8 * n)) n) n) j)) := rfl
            rw [e4, rt_s2, if_pos ⟨hb143, hb152, Int32.not_le.mp hb163⟩] at ih2
            exact ih2
    refine A_iload_n (pc := 96) (i := 2) dX12_goesBy_96 rfl rfl ?_
    refine A_aload_n (pc := 97) (i := 1) dX12_goesBy_97 rfl rfl ?_
    refine A_iconst (pc := 98) (1) dX12_goesBy_98 (by decide) ?_
    refine A_ialdN (pc := 99) (j := 1) hm (by decide) (by decide) dX12_goesBy_99 ?_
    refine A_top (ok4 j (by omega)).1 ?_
    refine A_icmpge (pc := 100) 180 dX12_goesBy_100 (by decide) (fun hb100 => ?_) (fun hb100 => ?_)
    · exact absurd hb100 (nI_ge hj hnn)
    · refine A_bipush (pc := 103) (80) dX12_goesBy_103 (by decide) ?_
      refine A_bipush (pc := 105) (8) dX12_goesBy_105 (by decide) ?_
      refine A_iload_n (pc := 107) (i := 2) dX12_goesBy_107 rfl rfl ?_
      refine A_imul (pc := 108) dX12_goesBy_108 ?_
      refine A_iadd (pc := 109) dX12_goesBy_109 ?_
      refine A_top (rx_base j) ?_
      refine A_ist3 (pc := 110) dX12_goesBy_110 (Nat.le_of_ble_eq_true rfl) rfl ?_
      refine A_aload_n (pc := 111) (i := 1) dX12_goesBy_111 rfl rfl ?_
      refine A_iload_n (pc := 112) (i := 3) dX12_goesBy_112 rfl rfl ?_
      refine A_bipush (pc := 113) (6) dX12_goesBy_113 (by decide) ?_
      refine A_iadd (pc := 115) dX12_goesBy_115 ?_
      refine A_top (rx_at j 6) ?_
      refine A_ialdN (pc := 116) hm (show 79 + 8 * j + (6 + 1) < 300 by omega) (by decide) dX12_goesBy_116 ?_
      refine A_iconst (pc := 117) (1) dX12_goesBy_117 (by decide) ?_
      refine A_icmpne (pc := 118) 136 dX12_goesBy_118 (by decide) (fun hb118 => ?_) (fun hb118 => ?_)
      · have e1 : rt_s1 a j (rt_set a (rt_gone a n nl lk (rt_go a n nl z lk (rx_cp (31, a, 0) (31, 3, 0) iv (80 + 8 * n)) n) n) j) = (rt_set a (rt_gone a n nl lk (rt_go a n nl z lk (rx_cp (31, a, 0) (31, 3, 0) iv (80 + 8 * n)) n) n) j) := by rw [rt_s1, if_neg (fun h => hb118 h.1)]
        refine A_heap e1.symm ?_
        exact fin
      · refine A_aload_n (pc := 121) (i := 1) dX12_goesBy_121 rfl rfl ?_
        refine A_iload_n (pc := 122) (i := 3) dX12_goesBy_122 rfl rfl ?_
        refine A_iconst (pc := 123) (3) dX12_goesBy_123 (by decide) ?_
        refine A_iadd (pc := 124) dX12_goesBy_124 ?_
        refine A_top (rx_at j 3) ?_
        refine A_ialdN (pc := 125) hm (show 79 + 8 * j + (3 + 1) < 300 by omega) (by decide) dX12_goesBy_125 ?_
        refine A_ifne (pc := 126) 136 dX12_goesBy_126 (by decide) (fun hb126 => ?_) (fun hb126 => ?_)
        · have e1 : rt_s1 a j (rt_set a (rt_gone a n nl lk (rt_go a n nl z lk (rx_cp (31, a, 0) (31, 3, 0) iv (80 + 8 * n)) n) n) j) = (rt_set a (rt_gone a n nl lk (rt_go a n nl z lk (rx_cp (31, a, 0) (31, 3, 0) iv (80 + 8 * n)) n) n) j) := by rw [rt_s1, if_neg (fun h => hb126 h.2)]
          refine A_heap e1.symm ?_
          exact fin
        · refine A_aload_n (pc := 129) (i := 1) dX12_goesBy_129 rfl rfl ?_
          refine A_iload_n (pc := 130) (i := 3) dX12_goesBy_130 rfl rfl ?_
          refine A_bipush (pc := 131) (6) dX12_goesBy_131 (by decide) ?_
          refine A_iadd (pc := 133) dX12_goesBy_133 ?_
          refine A_iconst (pc := 134) (0) dX12_goesBy_134 (by decide) ?_
          refine A_top2 (rx_at j 6) ?_
          refine A_iastN (pc := 135) hm (show 79 + 8 * j + (6 + 1) < 300 by omega) (by decide) dX12_goesBy_135 ?_
          have e1 : rt_s1 a j (rt_set a (rt_gone a n nl lk (rt_go a n nl z lk (rx_cp (31, a, 0) (31, 3, 0) iv (80 + 8 * n)) n) n) j) = am_ui (rt_set a (rt_gone a n nl lk (rt_go a n nl z lk (rx_cp (31, a, 0) (31, 3, 0) iv (80 + 8 * n)) n) n) j) (31, a, 0) (79 + 8 * j + 7) 0 := by rw [rt_s1, if_pos ⟨hb118, hb126⟩]
          refine A_heap e1.symm ?_
          exact fin
