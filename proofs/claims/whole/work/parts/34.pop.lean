theorem nI_i1 (t : Nat) : nI (t + 1) + Int32.ofInt (-1) = nI t := by
  rw [← nI_1, Int32.add_assoc, show (1 : Int32) + Int32.ofInt (-1) = 0 by decide, Int32.add_zero]
/-- what stands on a text's heap: t signs wait, z codes -/
def tq (n : am_N) (t z : Nat) (iv : am_iv) : Prop := iv n 3 = nI t ∧ t ≤ 50 ∧ iv n 1 = nI z ∧ z ≤ 50
def tp_w2 (n c s : am_N) (t z : Nat) (iv : am_iv) : am_iv := tx_app n c z (-(iv s (t - 1))) (am_ui iv n 3 (nI (t - 1)))
def tp_pop (n c s : am_N) (t z : Nat) (iv : am_iv) : am_iv := if iv s (t - 1) = 33 then am_ui (tp_w2 n c s t z iv) n 4 (tp_w2 n c s t z iv n 4 - 1) else tp_w2 n c s t z iv
def tp_z (z : Nat) : Nat := if z < 50 then z + 1 else z
theorem tx_app_o {n c q : am_N} {z k : Nat} {v : Int32} {iv : am_iv} (h1 : q ≠ c) (h2 : ¬ (q = n ∧ k = 1)) : tx_app n c z v iv q k = iv q k := by
  unfold tx_app
  split
  · rw [am_ui_n h2, am_ui_o h1]
  · rfl
theorem tp_w2_o {n c s q : am_N} {t z k : Nat} {iv : am_iv} (h1 : q ≠ c) (h2 : q ≠ n) : tp_w2 n c s t z iv q k = iv q k := by
  unfold tp_w2
  rw [tx_app_o h1 (fun e => h2 e.1), am_ui_o h2]
theorem tp_w2_3 {n c s : am_N} {t z : Nat} {iv : am_iv} (hnc : n ≠ c) : tp_w2 n c s t z iv n 3 = nI (t - 1) := by
  unfold tp_w2
  rw [tx_app_o hnc (by simp), am_ui_s]
theorem tp_w2_1 {n c s : am_N} {t z : Nat} {iv : am_iv} (hz : iv n 1 = nI z) : tp_w2 n c s t z iv n 1 = nI (tp_z z) := by
  unfold tp_w2 tx_app tp_z
  by_cases h : z < 50
  · rw [if_pos h, if_pos h, am_ui_s]
  · rw [if_neg h, if_neg h, am_ui_n (by simp)]; exact hz
theorem tp_z_le {z : Nat} (h : z ≤ 50) : tp_z z ≤ 50 := by unfold tp_z; split <;> omega
theorem tq.pop {n c s : am_N} {t z : Nat} {iv : am_iv} (hnc : n ≠ c) (h : tq n t z iv) : tq n (t - 1) (tp_z z) (tp_pop n c s t z iv) := by
  obtain ⟨h1, h2, h3, h4⟩ := h
  unfold tp_pop
  split
  · exact ⟨by rw [am_ui_n (by simp)]; exact tp_w2_3 hnc, by omega, by rw [am_ui_n (by simp)]; exact tp_w2_1 h3, tp_z_le h4⟩
  · exact ⟨tp_w2_3 hnc, by omega, tp_w2_1 h3, tp_z_le h4⟩
theorem tp_pop_s {n c s : am_N} {t z k : Nat} {iv : am_iv} (hsc : s ≠ c) (hsn : s ≠ n) : tp_pop n c s t z iv s k = iv s k := by
  unfold tp_pop
  split
  · rw [am_ui_o hsn]; exact tp_w2_o hsc hsn
  · exact tp_w2_o hsc hsn
set_option maxRecDepth 20000 in
theorem s_txpop (l : Launch) {kd : am_kd} {rv : am_rv} {iv : am_iv} (n c s : am_N) (ht : tx_ok kd rv n c s) (t z : Nat) (hq : tq n t z iv) (h0 : 0 < t) : am_Met l mX7_pop (am_rm 1 0 0) [am_P n] kd rv iv (am_ret none kd rv (tp_pop n c s t z iv)) := by
  refine am_Met.of (by decide) (Nat.le_of_ble_eq_true rfl) rfl ?_
  refine A_aload_n (pc := 0) (i := 0) dX7_pop_0 rfl rfl ?_
  refine A_geti (pc := 1) 3 fl_X7_28_7 ht.1 rfl dX7_pop_1 ?_
  refine A_top hq.1 ?_
  refine A_ifle (pc := 4) 55 dX7_pop_4 (by decide) (fun hb4 => ?_) (fun hb4 => ?_)
  · exact absurd ((nI_le0 (t := t) (by have := hq.2.1; omega)).mp hb4) (by omega)
  · refine A_aload_n (pc := 7) (i := 0) dX7_pop_7 rfl rfl ?_
    refine A_dup (pc := 8) dX7_pop_8 rfl ?_
    refine A_geti (pc := 9) 3 fl_X7_28_7 ht.1 rfl dX7_pop_9 ?_
    refine A_top hq.1 ?_
    refine A_iconst (pc := 12) (1) dX7_pop_12 (by decide) ?_
    refine A_isub (pc := 13) dX7_pop_13 ?_
    refine A_top (nI_m1 (show 1 ≤ t by omega)) ?_
    refine A_puti (pc := 14) 3 fl_X7_28_7 ht.1 rfl (by decide +kernel) rfl rfl dX7_pop_14 ?_
    refine A_aload_n (pc := 17) (i := 0) dX7_pop_17 rfl rfl ?_
    refine A_aload_n (pc := 18) (i := 0) dX7_pop_18 rfl rfl ?_
    refine A_getr (pc := 19) 2 fl_X7_15_7 ht.1 rfl ht.2.2.1 dX7_pop_19 ?_
    refine A_aload_n (pc := 22) (i := 0) dX7_pop_22 rfl rfl ?_
    refine A_geti (pc := 23) 3 fl_X7_28_7 ht.1 rfl dX7_pop_23 ?_
    refine A_top (am_ui_s _ _ _ _) ?_
    refine A_ialdN (pc := 26) ht.2.2.2.2.1 (show t - 1 < 50 by have := hq.2.1; omega) (by decide) dX7_pop_26 ?_
    refine A_top (am_ui_o (fun e => ht.2.2.2.2.2.2.1 e.symm)) ?_
    refine A_ineg (pc := 27) dX7_pop_27 ?_
    refine A_callV0 (pc := 28) cv_X7_66 (s_txapp l n c s ht z ((am_ui_n (by simp)).trans hq.2.2.1) hq.2.2.2 _) ht.1 rfl rfl rfl rfl (Nat.le_of_ble_eq_true rfl) ⟨(Nat.le_of_ble_eq_true rfl), (Nat.le_of_ble_eq_true rfl)⟩ ⟨Nat.zero_le _, Nat.zero_le _⟩ dX7_pop_28 ?_
    refine A_aload_n (pc := 31) (i := 0) dX7_pop_31 rfl rfl ?_
    refine A_getr (pc := 32) 2 fl_X7_15_7 ht.1 rfl ht.2.2.1 dX7_pop_32 ?_
    refine A_aload_n (pc := 35) (i := 0) dX7_pop_35 rfl rfl ?_
    refine A_geti (pc := 36) 3 fl_X7_28_7 ht.1 rfl dX7_pop_36 ?_
    refine A_top (tp_w2_3 ht.2.2.2.2.2.1) ?_
    refine A_ialdN (pc := 39) ht.2.2.2.2.1 (show t - 1 < 50 by have := hq.2.1; omega) (by decide) dX7_pop_39 ?_
    refine A_top (tp_w2_o (fun e => ht.2.2.2.2.2.2.2 e.symm) (fun e => ht.2.2.2.2.2.2.1 e.symm)) ?_
    refine A_bipush (pc := 40) (33) dX7_pop_40 (by decide) ?_
    refine A_icmpne (pc := 42) 55 dX7_pop_42 (by decide) (fun hb42 => ?_) (fun hb42 => ?_)
    · exact A_vretE (pc := 55) dX7_pop_55 rfl (Nat.zero_le _) (Nat.zero_le _) (by rw [tp_pop, if_neg hb42]; rfl)
    · refine A_aload_n (pc := 45) (i := 0) dX7_pop_45 rfl rfl ?_
      refine A_dup (pc := 46) dX7_pop_46 rfl ?_
      refine A_geti (pc := 47) 4 fl_X7_31_7 ht.1 rfl dX7_pop_47 ?_
      refine A_iconst (pc := 50) (1) dX7_pop_50 (by decide) ?_
      refine A_isub (pc := 51) dX7_pop_51 ?_
      refine A_puti (pc := 52) 4 fl_X7_31_7 ht.1 rfl (by decide +kernel) rfl rfl dX7_pop_52 ?_
      exact A_vretE (pc := 55) dX7_pop_55 rfl (Nat.zero_le _) (Nat.zero_le _) (by rw [tp_pop, if_pos hb42]; rfl)
/-- signs that bind more tightly than rk have been written -/
def tp_ab (n c s : am_N) (rk : Int32) : Nat → Nat → am_iv → am_iv
  | 0, _, iv => iv
  | t + 1, z, iv => if rk < tx_rank (iv s t) then tp_ab n c s rk t (tp_z z) (tp_pop n c s (t + 1) z iv) else iv
set_option maxRecDepth 20000 in
theorem ab_loop (l : Launch) {kd : am_kd} {rv : am_rv} (n c s : am_N) (ht : tx_ok kd rv n c s) (rk : Int32) (t : Nat) : ∀ (z : Nat) (iv : am_iv), tq n t z iv → am_W l mX7_popAbove (am_rm 2 0 0) (am_ret none kd rv (tp_ab n c s rk t z iv)) 5 [some (am_P n), some (am_I rk), some (am_I (nI t))] [] kd rv iv 0 0 := by
  induction t with
  | zero =>
    intro z iv hq
    refine A_iload_n (pc := 5) (i := 2) dX7_popAbove_5 rfl rfl ?_
    refine A_ifle (pc := 6) 34 dX7_popAbove_6 (by decide) (fun hb6 => ?_) (fun hb6 => ?_)
    · exact A_vretE (pc := 34) dX7_popAbove_34 rfl (Nat.zero_le _) (Nat.zero_le _) (rfl)
    · exact absurd (show nI 0 ≤ 0 by decide) hb6
  | succ t ih =>
    intro z iv hq
    have ht50 := hq.2.1
    refine A_iload_n (pc := 5) (i := 2) dX7_popAbove_5 rfl rfl ?_
    refine A_ifle (pc := 6) 34 dX7_popAbove_6 (by decide) (fun hb6 => ?_) (fun hb6 => ?_)
    · exact absurd ((nI_le0 (t := t + 1) (by omega)).mp hb6) (by omega)
    · refine A_aload_n (pc := 9) (i := 0) dX7_popAbove_9 rfl rfl ?_
      refine A_getr (pc := 10) 2 fl_X7_15_7 ht.1 rfl ht.2.2.1 dX7_popAbove_10 ?_
      refine A_iload_n (pc := 13) (i := 2) dX7_popAbove_13 rfl rfl ?_
      refine A_iconst (pc := 14) (1) dX7_popAbove_14 (by decide) ?_
      refine A_isub (pc := 15) dX7_popAbove_15 ?_
      refine A_top (nI_p1 t) ?_
      refine A_ialdN (pc := 16) ht.2.2.2.2.1 (show t < 50 by omega) (by decide) dX7_popAbove_16 ?_
      refine A_callS1 (pc := 17) cs_X7_81 (s_txrank l _) rfl rfl (Nat.le_of_ble_eq_true rfl) ⟨(Nat.le_of_ble_eq_true rfl), (Nat.le_of_ble_eq_true rfl)⟩ ⟨Nat.zero_le _, Nat.zero_le _⟩ dX7_popAbove_17 ?_
      refine A_iload_n (pc := 20) (i := 1) dX7_popAbove_20 rfl rfl ?_
      refine A_icmple (pc := 21) 34 dX7_popAbove_21 (by decide) (fun hb21 => ?_) (fun hb21 => ?_)
      · exact A_vretE (pc := 34) dX7_popAbove_34 rfl (Nat.zero_le _) (Nat.zero_le _) (by rw [tp_ab, if_neg (Int32.not_lt.mpr hb21)])
      · refine A_aload_n (pc := 24) (i := 0) dX7_popAbove_24 rfl rfl ?_
        refine A_callV0 (pc := 25) cv_X7_87 (s_txpop l n c s ht (t + 1) z hq (Nat.succ_pos t)) ht.1 rfl rfl rfl rfl (Nat.le_of_ble_eq_true rfl) ⟨(Nat.le_of_ble_eq_true rfl), (Nat.le_of_ble_eq_true rfl)⟩ ⟨Nat.zero_le _, Nat.zero_le _⟩ dX7_popAbove_25 ?_
        refine A_inc2 (pc := 28) (nI t) dX7_popAbove_28 (nI_i1 t) (Nat.le_of_ble_eq_true rfl) rfl ?_
        refine A_goto (pc := 31) 5 dX7_popAbove_31 (by decide) ?_
        rw [tp_ab, if_pos (Int32.not_le.mp hb21)]
        exact ih (tp_z z) _ (hq.pop ht.2.2.2.2.2.1)
set_option maxRecDepth 20000 in
theorem s_txabove (l : Launch) {kd : am_kd} {rv : am_rv} {iv : am_iv} (n c s : am_N) (ht : tx_ok kd rv n c s) (t z : Nat) (hq : tq n t z iv) (rk : Int32) : am_Met l mX7_popAbove (am_rm 2 0 0) [am_P n, am_I rk] kd rv iv (am_ret none kd rv (tp_ab n c s rk t z iv)) := by
  refine am_Met.of (by decide) (Nat.le_of_ble_eq_true rfl) rfl ?_
  refine A_aload_n (pc := 0) (i := 0) dX7_popAbove_0 rfl rfl ?_
  refine A_geti (pc := 1) 3 fl_X7_28_7 ht.1 rfl dX7_popAbove_1 ?_
  refine A_top hq.1 ?_
  refine A_ist2 (pc := 4) dX7_popAbove_4 (Nat.le_of_ble_eq_true rfl) rfl ?_
  exact ab_loop l n c s ht rk t z iv hq
