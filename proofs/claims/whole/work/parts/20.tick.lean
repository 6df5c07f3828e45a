/-! A TICK, as the heap goes through it -/
def rm_save (i : Nat) (iv : am_iv) : Nat → am_iv
  | 0 => iv
  | j + 1 => rg_cp (6, i, j) (4, i, j) (rm_save i iv j)
noncomputable def rm_hA (i r z nl : Nat) (ln : Nat → am_N) (lk : Nat → Nat) (w : am_iv) : am_iv := rm_adv i r z (rm_lift (w (2, i, 0) 5) (w (2, i, 0) 6) lk (fun j => w (ln j) 2) (w (6, i, r)) nl) w
noncomputable def rm_hW (i r n nl : Nat) (ln : Nat → am_N) (lk : Nat → Nat) (w : am_iv) : am_iv := am_ui w (4, i, r) 5 (sr_held (rm_wid (w (2, i, 0) 5) (w (2, i, 0) 6) lk (fun j => w (ln j) 2) n (w (6, i, r)) (fun k => w (6, i, k)) nl) 1 200)
noncomputable def rm_go (i n z nl : Nat) (ln : Nat → am_N) (lk : Nat → Nat) (w : am_iv) : Nat → am_iv
  | 0 => w
  | r + 1 => if rm_go i n z nl ln lk w r (6, i, r) 7 = 0 then rm_go i n z nl ln lk w r else rm_hW i r n nl ln lk (rm_hA i r z nl ln lk (rm_go i n z nl ln lk w r))
noncomputable def rm_hD (i r n nl : Nat) (ln : Nat → am_N) (lk : Nat → Nat) (w : am_iv) : am_iv := rm_due i r (fun k => rm_by (w (2, i, 0) 5) nl lk (fun j => w (ln j) 2) (w (6, i, r)) (w (6, i, k))) lk w n 0
noncomputable def rm_gone (i n nl : Nat) (ln : Nat → am_N) (lk : Nat → Nat) (w : am_iv) : Nat → am_iv
  | 0 => w
  | r + 1 => if rm_gone i n nl ln lk w r (6, i, r) 7 = 0 then rm_gone i n nl ln lk w r else rm_hD i r n nl ln lk (rm_gone i n nl ln lk w r)
def rm_set (i : Nat) (w : am_iv) : Nat → am_iv
  | 0 => w
  | r + 1 => if rm_set i w r (4, i, r) 7 = 0 then rm_set i w r else rm_settle (4, i, r) (rm_set i w r (2, i, 0) 6) (rm_set i w r)
noncomputable def rm_tick4 (i n z nl : Nat) (ln : Nat → am_N) (lk : Nat → Nat) (iv : am_iv) : am_iv := rm_set i (rm_gone i n nl ln lk (rm_go i n z nl ln lk (rm_save i iv n) n) n) n
noncomputable def rm_tick (i n z nl : Nat) (ln : Nat → am_N) (lk : Nat → Nat) (iv : am_iv) : am_iv := am_ui (rm_tick4 i n z nl ln lk iv) (2, i, 0) 8 (rm_tick4 i n z nl ln lk iv (2, i, 0) 8 + 1)
/-- what a tick leaves: all but the rings, what a text works with -/
def fr (n : am_N) (k : Nat) : Prop := ¬ gb n k ∧ n.1 ≠ 4
theorem rg_cp_o {d s n : am_N} {iv : am_iv} {k : Nat} (h : n ≠ d) : rg_cp d s iv n k = iv n k := by simp only [rg_cp, am_ui_o h]
theorem rg_cp_v {d s : am_N} {iv : am_iv} {k : Nat} (h1 : 1 ≤ k) (h2 : k ≤ 7) : rg_cp d s iv d k = iv s k := by
  rcases (show k = 1 ∨ k = 2 ∨ k = 3 ∨ k = 4 ∨ k = 5 ∨ k = 6 ∨ k = 7 by omega) with h | h | h | h | h | h | h <;> subst h <;> simp [rg_cp, am_ui]
theorem rm_save_o {i : Nat} {iv : am_iv} {n : am_N} {k : Nat} (h : n.1 ≠ 6) (j : Nat) : rm_save i iv j n k = iv n k := by
  induction j with
  | zero => rfl
  | succ j ih => exact (rg_cp_o (fun e => h (by rw [e]))).trans ih
theorem rm_save_v {i : Nat} {iv : am_iv} {r k : Nat} (h1 : 1 ≤ k) (h2 : k ≤ 7) (j : Nat) (hr : r < j) : rm_save i iv j (6, i, r) k = iv (4, i, r) k := by
  induction j with
  | zero => omega
  | succ j ih =>
    by_cases e : r = j
    · subst e
      exact (rg_cp_v h1 h2).trans (rm_save_o (by simp) r)
    · exact (rg_cp_o (by simp [e])).trans (ih (by omega))
theorem rm_adv_o {i r z : Nat} {lf : Int32} {iv : am_iv} {n : am_N} {k : Nat} (h : fr n k) : rm_adv i r z lf iv n k = iv n k := by
  have h4 : n ≠ (4, i, r) := fun e => h.2 (by rw [e])
  simp only [rm_adv, am_ui_o h4, gv_heap_o h.1]
theorem rm_hA_o {i r z nl : Nat} {ln : Nat → am_N} {lk : Nat → Nat} {w : am_iv} {n : am_N} {k : Nat} (h : fr n k) : rm_hA i r z nl ln lk w n k = w n k := rm_adv_o h
theorem rm_hW_o {i r n0 nl : Nat} {ln : Nat → am_N} {lk : Nat → Nat} {w : am_iv} {n : am_N} {k : Nat} (h : fr n k) : rm_hW i r n0 nl ln lk w n k = w n k := am_ui_o (fun e => h.2 (by rw [e]))
theorem rm_go_o {i n0 z nl : Nat} {ln : Nat → am_N} {lk : Nat → Nat} {w : am_iv} {n : am_N} {k : Nat} (h : fr n k) (j : Nat) : rm_go i n0 z nl ln lk w j n k = w n k := by
  induction j with
  | zero => rfl
  | succ j ih =>
    unfold rm_go
    split
    · exact ih
    · exact (rm_hW_o h).trans ((rm_hA_o h).trans ih)
theorem rm_eff_o {i r k0 j : Nat} {lk : Nat → Nat} {w : am_iv} {n : am_N} {k : Nat} (h : n.1 ≠ 4) : rm_eff i r k0 j lk w n k = w n k := by
  unfold rm_eff
  split
  · rw [am_ui_o (fun e => h (by rw [e])), am_ui_o (fun e => h (by rw [e]))]
  · rw [am_ui_o (fun e => h (by rw [e]))]
theorem rm_due_o {i r : Nat} {e : Nat → Option Nat} {lk : Nat → Nat} {w : am_iv} {n : am_N} {k : Nat} (h : n.1 ≠ 4) (d j : Nat) : rm_due i r e lk w d j n k = w n k := by
  induction d generalizing j with
  | zero => rfl
  | succ d ih =>
    unfold rm_due
    cases e j with
    | none => exact ih (j + 1)
    | some q => exact rm_eff_o h
theorem rm_gone_o {i n0 nl : Nat} {ln : Nat → am_N} {lk : Nat → Nat} {w : am_iv} {n : am_N} {k : Nat} (h : n.1 ≠ 4) (j : Nat) : rm_gone i n0 nl ln lk w j n k = w n k := by
  induction j with
  | zero => rfl
  | succ j ih =>
    unfold rm_gone
    split
    · exact ih
    · exact (rm_due_o h n0 0).trans ih
theorem rm_settle_o {m n : am_N} {x : Int32} {w : am_iv} {k : Nat} (h : n ≠ m) : rm_settle m x w n k = w n k := by
  unfold rm_settle
  (repeat' split) <;> first | rfl | exact am_ui_o h
theorem rm_set_o {i : Nat} {w : am_iv} {n : am_N} {k : Nat} (h : n.1 ≠ 4) (j : Nat) : rm_set i w j n k = w n k := by
  induction j with
  | zero => rfl
  | succ j ih =>
    unfold rm_set
    split
    · exact ih
    · exact (rm_settle_o (fun e => h (by rw [e]))).trans ih
/-- what a tick asks of the rings -/
def tk_ok (iv : am_iv) (i n : Nat) : Prop := ∀ r, r < n → (iv (4, i, r) 7 = 0 ∨ iv (4, i, r) 7 = 1) ∧ ∀ k, k < n → ¬ rg_gap (iv (4, i, r)) (iv (4, i, k)) + 10 = 0
theorem rm_laws.to {kd : am_kd} {rv : am_rv} {iv w : am_iv} {i nl : Nat} {ln : Nat → am_N} {lk : Nat → Nat} (h : rm_laws kd rv iv i nl ln lk) (e : w (2, i, 0) 4 = iv (2, i, 0) 4) : rm_laws kd rv w i nl ln lk := ⟨e.trans h.1, h.2⟩
theorem fr2 (i k : Nat) : fr (2, i, 0) k := ⟨fun h => by simp [gb] at h, by simp⟩
theorem fr6 (i r k : Nat) : fr (6, i, r) k := ⟨fun h => by simp [gb] at h, by simp⟩
theorem fr91 (i u : Nat) : fr (9, i, u) 1 := ⟨fun h => by simp [gb] at h, by simp⟩
set_option maxRecDepth 20000 in
set_option maxHeartbeats 1000000 in
theorem s_tick (l : Launch) {kd : am_kd} {rv : am_rv} {iv : am_iv} (hS : sh kd rv) (i : Nat) (hi : i < 4) (nl : Nat) (ln : Nat → am_N) (lk : Nat → Nat) (hl : rm_laws kd rv iv i nl ln lk) (n : Nat) (hn : iv (2, i, 0) 1 = nI n) (hn8 : n ≤ 8) (z : Nat) (hz : iv (9, i, 1) 1 = nI z) (hz50 : z ≤ 50) (hk : tk_ok iv i n) : am_Met l mX4_tick (am_rm 6 0 0) [am_P (2, i, 0)] kd rv iv (am_ret none kd rv (rm_tick i n z nl ln lk iv)) := by
  refine am_Met.of (by decide) (Nat.le_of_ble_eq_true rfl) rfl ?_
  have hnn : n < 2 ^ 31 := by omega
  have l4 := am_for (fun j => am_W l mX4_tick (am_rm 6 0 0) (am_ret none kd rv (rm_tick i n z nl ln lk iv)) 126 [some (am_P (2, i, 0)), some (am_I (nI j))] [] kd rv (rm_set i (rm_gone i n nl ln lk (rm_go i n z nl ln lk (rm_save i iv n) n) n) j) 0 0) n ?_ (fun j hj ih => ?_) 0 (Nat.zero_le n)
  have l3 := am_for (fun j => am_W l mX4_tick (am_rm 6 0 0) (am_ret none kd rv (rm_tick i n z nl ln lk iv)) 93 [some (am_P (2, i, 0)), some (am_I (nI j))] [] kd rv (rm_gone i n nl ln lk (rm_go i n z nl ln lk (rm_save i iv n) n) j) 0 0) n ?_ (fun j hj ih => ?_) 0 (Nat.zero_le n)
  have l2 := am_for (fun j => am_W l mX4_tick (am_rm 6 0 0) (am_ret none kd rv (rm_tick i n z nl ln lk iv)) 33 [some (am_P (2, i, 0)), some (am_I (nI j))] [] kd rv (rm_go i n z nl ln lk (rm_save i iv n) j) 0 0) n ?_ (fun j hj ih => ?_) 0 (Nat.zero_le n)
  have l1 := am_for (fun j => am_W l mX4_tick (am_rm 6 0 0) (am_ret none kd rv (rm_tick i n z nl ln lk iv)) 2 [some (am_P (2, i, 0)), some (am_I (nI j))] [] kd rv (rm_save i iv j) 0 0) n ?_ (fun j hj ih => ?_) 0 (Nat.zero_le n)
  · refine A_iconst (pc := 0) (0) dX4_tick_0 (by decide) ?_
    refine A_ist1 (pc := 1) dX4_tick_1 (Nat.le_of_ble_eq_true rfl) rfl ?_
    exact l1
  · refine A_iload_n (pc := 2) (i := 1) dX4_tick_2 rfl rfl ?_
    refine A_aload_n (pc := 3) (i := 0) dX4_tick_3 rfl rfl ?_
    refine A_geti (pc := 4) 1 fl_X4_77_4 (hS.k2 hi) rfl dX4_tick_4 ?_
    refine A_top ((rm_save_o (by simp) _).trans hn) ?_
    refine A_icmpge (pc := 7) 31 dX4_tick_7 (by decide) (fun hb7 => ?_) (fun hb7 => ?_)
    · refine A_iconst (pc := 31) (0) dX4_tick_31 (by decide) ?_
      refine A_ist1 (pc := 32) dX4_tick_32 (Nat.le_of_ble_eq_true rfl) rfl ?_
      exact l2
    · exact absurd (nI_le (Nat.le_refl n) hnn) hb7
  · refine A_iload_n (pc := 2) (i := 1) dX4_tick_2 rfl rfl ?_
    refine A_aload_n (pc := 3) (i := 0) dX4_tick_3 rfl rfl ?_
    refine A_geti (pc := 4) 1 fl_X4_77_4 (hS.k2 hi) rfl dX4_tick_4 ?_
    refine A_top ((rm_save_o (by simp) _).trans hn) ?_
    refine A_icmpge (pc := 7) 31 dX4_tick_7 (by decide) (fun hb7 => ?_) (fun hb7 => ?_)
    · exact absurd hb7 (nI_ge hj hnn)
    · refine A_aload_n (pc := 10) (i := 0) dX4_tick_10 rfl rfl ?_
      refine A_getr (pc := 11) 2 fl_X4_17_4 (hS.k2 hi) rfl (hS.w2_2 hi) dX4_tick_11 ?_
      refine A_iload_n (pc := 14) (i := 1) dX4_tick_14 rfl rfl ?_
      refine A_aaldN (pc := 15) (hS.k5 hi) (by decide) (by decide) (show j < 8 by omega) (by decide) (hS.w5 hi (show j < 8 by omega)) dX4_tick_15 ?_
      refine A_aload_n (pc := 16) (i := 0) dX4_tick_16 rfl rfl ?_
      refine A_getr (pc := 17) 0 fl_X4_11_4 (hS.k2 hi) rfl (hS.w2_0 hi) dX4_tick_17 ?_
      refine A_iload_n (pc := 20) (i := 1) dX4_tick_20 rfl rfl ?_
      refine A_aaldN (pc := 21) (hS.k3 hi) (by decide) (by decide) (show j < 8 by omega) (by decide) (hS.w3 hi (show j < 8 by omega)) dX4_tick_21 ?_
      refine A_callV0 (pc := 22) cv_X4_80 (s_rbecome l (6, i, j) (4, i, j) (hS.k6 hi (show j < 8 by omega)) (hS.k4 hi (show j < 8 by omega)) (by simp) (by rw [rm_save_o (by simp)]; exact (hk j hj).1)) (hS.k6 hi (show j < 8 by omega)) rfl rfl rfl rfl (Nat.le_of_ble_eq_true rfl) ⟨(Nat.le_of_ble_eq_true rfl), (Nat.le_of_ble_eq_true rfl)⟩ ⟨Nat.zero_le _, Nat.zero_le _⟩ dX4_tick_22 ?_
      refine A_inc1 (pc := 25) (nI (j + 1)) dX4_tick_25 (nI_1 j) (Nat.le_of_ble_eq_true rfl) rfl ?_
      refine A_goto (pc := 28) 2 dX4_tick_28 (by decide) ?_
      exact ih
  · refine A_iload_n (pc := 33) (i := 1) dX4_tick_33 rfl rfl ?_
    refine A_aload_n (pc := 34) (i := 0) dX4_tick_34 rfl rfl ?_
    refine A_geti (pc := 35) 1 fl_X4_77_4 (hS.k2 hi) rfl dX4_tick_35 ?_
    refine A_top ((rm_go_o (fr2 i 1) _).trans ((rm_save_o (by simp) _).trans hn)) ?_
    refine A_icmpge (pc := 38) 91 dX4_tick_38 (by decide) (fun hb38 => ?_) (fun hb38 => ?_)
    · refine A_iconst (pc := 91) (0) dX4_tick_91 (by decide) ?_
      refine A_ist1 (pc := 92) dX4_tick_92 (Nat.le_of_ble_eq_true rfl) rfl ?_
      exact l3
    · exact absurd (nI_le (Nat.le_refl n) hnn) hb38
  · have hj8 : j < 8 := by omega
    have e2 : ∀ k, rm_go i n z nl ln lk (rm_save i iv n) j (2, i, 0) k = iv (2, i, 0) k := fun k => (rm_go_o (fr2 i k) j).trans (rm_save_o (by simp) n)
    have e9 : rm_go i n z nl ln lk (rm_save i iv n) j (9, i, 1) 1 = nI z := (rm_go_o (fr91 i 1) j).trans ((rm_save_o (by simp) n).trans hz)
    have e6 : ∀ r k, r < n → 1 ≤ k → k ≤ 7 → rm_go i n z nl ln lk (rm_save i iv n) j (6, i, r) k = iv (4, i, r) k := fun r k h1 h2 h3 => (rm_go_o (fr6 i r k) j).trans (rm_save_v h2 h3 n h1)
    have ih2 := ih
    rw [rm_go] at ih2
    generalize rm_go i n z nl ln lk (rm_save i iv n) j = w at e2 e9 e6 ih2 ⊢
    have hlw : rm_laws kd rv w i nl ln lk := hl.to (e2 4)
    have hla : rm_laws kd rv (rm_hA i j z nl ln lk w) i nl ln lk := hlw.to (rm_hA_o (fr2 i 4))
    have hqa : ∀ k, k < n → ¬ rg_gap (rm_hA i j z nl ln lk w (6, i, j)) (rm_hA i j z nl ln lk w (6, i, k)) + 10 = 0 := fun k hk2 => by
      have e : rg_gap (rm_hA i j z nl ln lk w (6, i, j)) (rm_hA i j z nl ln lk w (6, i, k)) = rg_gap (iv (4, i, j)) (iv (4, i, k)) := by
        simp only [rg_gap, rm_hA_o (fr6 i _ 1), e6 j 1 hj (by decide) (by decide), e6 k 1 hk2 (by decide) (by decide)]
      rw [e]
      exact (hk j hj).2 k hk2
    refine A_iload_n (pc := 33) (i := 1) dX4_tick_33 rfl rfl ?_
    refine A_aload_n (pc := 34) (i := 0) dX4_tick_34 rfl rfl ?_
    refine A_geti (pc := 35) 1 fl_X4_77_4 (hS.k2 hi) rfl dX4_tick_35 ?_
    refine A_top ((e2 1).trans hn) ?_
    refine A_icmpge (pc := 38) 91 dX4_tick_38 (by decide) (fun hb38 => ?_) (fun hb38 => ?_)
    · exact absurd hb38 (nI_ge hj hnn)
    · refine A_aload_n (pc := 41) (i := 0) dX4_tick_41 rfl rfl ?_
      refine A_getr (pc := 42) 2 fl_X4_17_4 (hS.k2 hi) rfl (hS.w2_2 hi) dX4_tick_42 ?_
      refine A_iload_n (pc := 45) (i := 1) dX4_tick_45 rfl rfl ?_
      refine A_aaldN (pc := 46) (hS.k5 hi) (by decide) (by decide) hj8 (by decide) (hS.w5 hi hj8) dX4_tick_46 ?_
      refine A_geti (pc := 47) 7 fl_X4_111_3 (hS.k6 hi hj8) rfl dX4_tick_47 ?_
      refine A_ifeq (pc := 50) 85 dX4_tick_50 (by decide) (fun hb50 => ?_) (fun hb50 => ?_)
      · refine A_inc1 (pc := 85) (nI (j + 1)) dX4_tick_85 (nI_1 j) (Nat.le_of_ble_eq_true rfl) rfl ?_
        refine A_goto (pc := 88) 33 dX4_tick_88 (by decide) ?_
        rw [if_pos hb50] at ih2
        exact ih2
      · refine A_aload_n (pc := 53) (i := 0) dX4_tick_53 rfl rfl ?_
        refine A_aload_n (pc := 54) (i := 0) dX4_tick_54 rfl rfl ?_
        refine A_getr (pc := 55) 0 fl_X4_11_4 (hS.k2 hi) rfl (hS.w2_0 hi) dX4_tick_55 ?_
        refine A_iload_n (pc := 58) (i := 1) dX4_tick_58 rfl rfl ?_
        refine A_aaldN (pc := 59) (hS.k3 hi) (by decide) (by decide) hj8 (by decide) (hS.w3 hi hj8) dX4_tick_59 ?_
        refine A_aload_n (pc := 60) (i := 0) dX4_tick_60 rfl rfl ?_
        refine A_getr (pc := 61) 2 fl_X4_17_4 (hS.k2 hi) rfl (hS.w2_2 hi) dX4_tick_61 ?_
        refine A_iload_n (pc := 64) (i := 1) dX4_tick_64 rfl rfl ?_
        refine A_aaldN (pc := 65) (hS.k5 hi) (by decide) (by decide) hj8 (by decide) (hS.w5 hi hj8) dX4_tick_65 ?_
        refine A_callV0 (pc := 66) cv_X4_147 (s_advance l hS i hi nl ln lk hlw j hj8 z e9 hz50) (hS.k2 hi) rfl rfl rfl rfl (Nat.le_of_ble_eq_true rfl) ⟨(Nat.le_of_ble_eq_true rfl), (Nat.le_of_ble_eq_true rfl)⟩ ⟨Nat.zero_le _, Nat.zero_le _⟩ dX4_tick_66 ?_
        refine A_aload_n (pc := 69) (i := 0) dX4_tick_69 rfl rfl ?_
        refine A_aload_n (pc := 70) (i := 0) dX4_tick_70 rfl rfl ?_
        refine A_getr (pc := 71) 0 fl_X4_11_4 (hS.k2 hi) rfl (hS.w2_0 hi) dX4_tick_71 ?_
        refine A_iload_n (pc := 74) (i := 1) dX4_tick_74 rfl rfl ?_
        refine A_aaldN (pc := 75) (hS.k3 hi) (by decide) (by decide) hj8 (by decide) (hS.w3 hi hj8) dX4_tick_75 ?_
        refine A_aload_n (pc := 76) (i := 0) dX4_tick_76 rfl rfl ?_
        refine A_getr (pc := 77) 2 fl_X4_17_4 (hS.k2 hi) rfl (hS.w2_2 hi) dX4_tick_77 ?_
        refine A_iload_n (pc := 80) (i := 1) dX4_tick_80 rfl rfl ?_
        refine A_aaldN (pc := 81) (hS.k5 hi) (by decide) (by decide) hj8 (by decide) (hS.w5 hi hj8) dX4_tick_81 ?_
        refine A_callV0 (pc := 82) cv_X4_151 (s_widen l hS i hi nl ln lk hla n ((rm_hA_o (fr2 i 1)).trans ((e2 1).trans hn)) hn8 j hj8 hqa) (hS.k2 hi) rfl rfl rfl rfl (Nat.le_of_ble_eq_true rfl) ⟨(Nat.le_of_ble_eq_true rfl), (Nat.le_of_ble_eq_true rfl)⟩ ⟨Nat.zero_le _, Nat.zero_le _⟩ dX4_tick_82 ?_
        refine A_inc1 (pc := 85) (nI (j + 1)) dX4_tick_85 (nI_1 j) (Nat.le_of_ble_eq_true rfl) rfl ?_
        refine A_goto (pc := 88) 33 dX4_tick_88 (by decide) ?_
        rw [if_neg hb50] at ih2
        exact ih2
  · refine A_iload_n (pc := 93) (i := 1) dX4_tick_93 rfl rfl ?_
    refine A_aload_n (pc := 94) (i := 0) dX4_tick_94 rfl rfl ?_
    refine A_geti (pc := 95) 1 fl_X4_77_4 (hS.k2 hi) rfl dX4_tick_95 ?_
    refine A_top ((rm_gone_o (by simp) _).trans ((rm_go_o (fr2 i 1) _).trans ((rm_save_o (by simp) _).trans hn))) ?_
    refine A_icmpge (pc := 98) 124 dX4_tick_98 (by decide) (fun hb98 => ?_) (fun hb98 => ?_)
    · refine A_iconst (pc := 124) (0) dX4_tick_124 (by decide) ?_
      refine A_ist1 (pc := 125) dX4_tick_125 (Nat.le_of_ble_eq_true rfl) rfl ?_
      exact l4
    · exact absurd (nI_le (Nat.le_refl n) hnn) hb98
  · have hj8 : j < 8 := by omega
    have e2 : ∀ k, rm_gone i n nl ln lk (rm_go i n z nl ln lk (rm_save i iv n) n) j (2, i, 0) k = iv (2, i, 0) k := fun k => (rm_gone_o (by simp) j).trans ((rm_go_o (fr2 i k) n).trans (rm_save_o (by simp) n))
    have ih2 := ih
    rw [rm_gone] at ih2
    generalize rm_gone i n nl ln lk (rm_go i n z nl ln lk (rm_save i iv n) n) j = w at e2 ih2 ⊢
    have hlw : rm_laws kd rv w i nl ln lk := hl.to (e2 4)
    refine A_iload_n (pc := 93) (i := 1) dX4_tick_93 rfl rfl ?_
    refine A_aload_n (pc := 94) (i := 0) dX4_tick_94 rfl rfl ?_
    refine A_geti (pc := 95) 1 fl_X4_77_4 (hS.k2 hi) rfl dX4_tick_95 ?_
    refine A_top ((e2 1).trans hn) ?_
    refine A_icmpge (pc := 98) 124 dX4_tick_98 (by decide) (fun hb98 => ?_) (fun hb98 => ?_)
    · exact absurd hb98 (nI_ge hj hnn)
    · refine A_aload_n (pc := 101) (i := 0) dX4_tick_101 rfl rfl ?_
      refine A_getr (pc := 102) 2 fl_X4_17_4 (hS.k2 hi) rfl (hS.w2_2 hi) dX4_tick_102 ?_
      refine A_iload_n (pc := 105) (i := 1) dX4_tick_105 rfl rfl ?_
      refine A_aaldN (pc := 106) (hS.k5 hi) (by decide) (by decide) hj8 (by decide) (hS.w5 hi hj8) dX4_tick_106 ?_
      refine A_geti (pc := 107) 7 fl_X4_111_3 (hS.k6 hi hj8) rfl dX4_tick_107 ?_
      refine A_ifeq (pc := 110) 118 dX4_tick_110 (by decide) (fun hb110 => ?_) (fun hb110 => ?_)
      · refine A_inc1 (pc := 118) (nI (j + 1)) dX4_tick_118 (nI_1 j) (Nat.le_of_ble_eq_true rfl) rfl ?_
        refine A_goto (pc := 121) 93 dX4_tick_121 (by decide) ?_
        rw [if_pos hb110] at ih2
        exact ih2
      · refine A_aload_n (pc := 113) (i := 0) dX4_tick_113 rfl rfl ?_
        refine A_iload_n (pc := 114) (i := 1) dX4_tick_114 rfl rfl ?_
        refine A_callV0 (pc := 115) cv_X4_154 (s_endIfDue l hS i hi nl ln lk hlw n ((e2 1).trans hn) hn8 j hj8) (hS.k2 hi) rfl rfl rfl rfl (Nat.le_of_ble_eq_true rfl) ⟨(Nat.le_of_ble_eq_true rfl), (Nat.le_of_ble_eq_true rfl)⟩ ⟨Nat.zero_le _, Nat.zero_le _⟩ dX4_tick_115 ?_
        refine A_inc1 (pc := 118) (nI (j + 1)) dX4_tick_118 (nI_1 j) (Nat.le_of_ble_eq_true rfl) rfl ?_
        refine A_goto (pc := 121) 93 dX4_tick_121 (by decide) ?_
        rw [if_neg hb110] at ih2
        exact ih2
  · refine A_iload_n (pc := 126) (i := 1) dX4_tick_126 rfl rfl ?_
    refine A_aload_n (pc := 127) (i := 0) dX4_tick_127 rfl rfl ?_
    refine A_geti (pc := 128) 1 fl_X4_77_4 (hS.k2 hi) rfl dX4_tick_128 ?_
    refine A_top ((rm_set_o (by simp) _).trans ((rm_gone_o (by simp) _).trans ((rm_go_o (fr2 i 1) _).trans ((rm_save_o (by simp) _).trans hn)))) ?_
    refine A_icmpge (pc := 131) 162 dX4_tick_131 (by decide) (fun hb131 => ?_) (fun hb131 => ?_)
    · refine A_aload_n (pc := 162) (i := 0) dX4_tick_162 rfl rfl ?_
      refine A_dup (pc := 163) dX4_tick_163 rfl ?_
      refine A_geti (pc := 164) 8 fl_X4_67_4 (hS.k2 hi) rfl dX4_tick_164 ?_
      refine A_iconst (pc := 167) (1) dX4_tick_167 (by decide) ?_
      refine A_iadd (pc := 168) dX4_tick_168 ?_
      refine A_puti (pc := 169) 8 fl_X4_67_4 (hS.k2 hi) rfl (by decide +kernel) rfl rfl dX4_tick_169 ?_
      exact A_vretE (pc := 172) dX4_tick_172 rfl (Nat.zero_le _) (Nat.zero_le _) (rfl)
    · exact absurd (nI_le (Nat.le_refl n) hnn) hb131
  · have hj8 : j < 8 := by omega
    have e2 : ∀ k, rm_set i (rm_gone i n nl ln lk (rm_go i n z nl ln lk (rm_save i iv n) n) n) j (2, i, 0) k = iv (2, i, 0) k := fun k => (rm_set_o (by simp) j).trans ((rm_gone_o (by simp) n).trans ((rm_go_o (fr2 i k) n).trans (rm_save_o (by simp) n)))
    have ih2 := ih
    rw [rm_set] at ih2
    generalize rm_set i (rm_gone i n nl ln lk (rm_go i n z nl ln lk (rm_save i iv n) n) n) j = w at e2 ih2 ⊢
    refine A_iload_n (pc := 126) (i := 1) dX4_tick_126 rfl rfl ?_
    refine A_aload_n (pc := 127) (i := 0) dX4_tick_127 rfl rfl ?_
    refine A_geti (pc := 128) 1 fl_X4_77_4 (hS.k2 hi) rfl dX4_tick_128 ?_
    refine A_top ((e2 1).trans hn) ?_
    refine A_icmpge (pc := 131) 162 dX4_tick_131 (by decide) (fun hb131 => ?_) (fun hb131 => ?_)
    · exact absurd hb131 (nI_ge hj hnn)
    · refine A_aload_n (pc := 134) (i := 0) dX4_tick_134 rfl rfl ?_
      refine A_getr (pc := 135) 0 fl_X4_11_4 (hS.k2 hi) rfl (hS.w2_0 hi) dX4_tick_135 ?_
      refine A_iload_n (pc := 138) (i := 1) dX4_tick_138 rfl rfl ?_
      refine A_aaldN (pc := 139) (hS.k3 hi) (by decide) (by decide) hj8 (by decide) (hS.w3 hi hj8) dX4_tick_139 ?_
      refine A_geti (pc := 140) 7 fl_X4_111_3 (hS.k4 hi hj8) rfl dX4_tick_140 ?_
      refine A_ifeq (pc := 143) 156 dX4_tick_143 (by decide) (fun hb143 => ?_) (fun hb143 => ?_)
      · refine A_inc1 (pc := 156) (nI (j + 1)) dX4_tick_156 (nI_1 j) (Nat.le_of_ble_eq_true rfl) rfl ?_
        refine A_goto (pc := 159) 126 dX4_tick_159 (by decide) ?_
        rw [if_pos hb143] at ih2
        exact ih2
      · refine A_aload_n (pc := 146) (i := 0) dX4_tick_146 rfl rfl ?_
        refine A_aload_n (pc := 147) (i := 0) dX4_tick_147 rfl rfl ?_
        refine A_getr (pc := 148) 0 fl_X4_11_4 (hS.k2 hi) rfl (hS.w2_0 hi) dX4_tick_148 ?_
        refine A_iload_n (pc := 151) (i := 1) dX4_tick_151 rfl rfl ?_
        refine A_aaldN (pc := 152) (hS.k3 hi) (by decide) (by decide) hj8 (by decide) (hS.w3 hi hj8) dX4_tick_152 ?_
        refine A_callV0 (pc := 153) cv_X4_157 (s_settle l hS i hi (4, i, j) (hS.k4 hi hj8)) (hS.k2 hi) rfl rfl rfl rfl (Nat.le_of_ble_eq_true rfl) ⟨(Nat.le_of_ble_eq_true rfl), (Nat.le_of_ble_eq_true rfl)⟩ ⟨Nat.zero_le _, Nat.zero_le _⟩ dX4_tick_153 ?_
        refine A_inc1 (pc := 156) (nI (j + 1)) dX4_tick_156 (nI_1 j) (Nat.le_of_ble_eq_true rfl) rfl ?_
        refine A_goto (pc := 159) 126 dX4_tick_159 (by decide) ?_
        rw [if_neg hb143] at ih2
        exact ih2
