/-! LAWS: fields 0 kind, 1 number, 2 m; by kind 0 LAW .. 6 SLANTED -/
def lw_ci (K : Nat) : Nat := match K with
  | 0 => 2 | 1 => 8 | 2 => 1 | 3 => 0 | 4 => 9 | 5 => 10 | _ => 6
def lw_pull (m : Int32) (f g : Nat → Int32) : Int32 := m * g 4 / (rg_gap f g + 10)
noncomputable def lw_w0 (m : Int32) (f g : Nat → Int32) : Int32 := @ite _ (f 3 = g 3 ∧ rg_near f g) (Classical.propDecidable _) (@ite _ (rg_behind f g) (Classical.propDecidable _) (-lw_pull m f g) (lw_pull m f g)) 0
noncomputable def lw_widens (K : Nat) (m : Int32) (f g : Nat → Int32) : Int32 :=
  if K = 5 ∨ K = 6 then 0 else if K = 3 ∨ K = 4 then @ite _ (¬ f 3 = g 3 ∧ rg_near f g) (Classical.propDecidable _) (lw_pull m f g) 0
  else if K = 1 then (if rg_gap f g < f 6 + g 6 then 2 * lw_w0 m f g else lw_w0 m f g) else lw_w0 m f g
def lw_s5 (m : Int32) (f : Nat → Int32) (w : Int32) : Int32 := if sr_abs (w - f 1) < 100 then m * f 4 / (sr_abs (w - f 1) + 10) else 0
def lw_spreads (K : Nat) (m : Int32) (f : Nat → Int32) (w : Int32) : Int32 := if K = 5 then lw_s5 m f w else if K = 6 then lw_s5 m f w / 2 else 0
def lw_lifts (K : Nat) (m : Int32) (f : Nat → Int32) (w : Int32) : Int32 := if K = 6 then lw_s5 m f w / 2 else 0
def lw_ends (K : Nat) (m : Int32) (f g : Nat → Int32) : Prop := if K = 2 then rg_near f g ∧ rg_gap f g ≤ m ∧ rg_behind f g else if K = 4 then 150 ≤ f 5 ∧ rg_near f g else False
theorem sr_abs_ne (y : Int32) : ¬ sr_abs y + 10 = 0 := by
  unfold sr_abs
  intro h
  have h1 := fb_rng y
  split at h
  · rename_i h2
    rw [fa_le] at h2
    have e : y = -10 := by
      have : y + 10 - 10 = 0 - 10 := by rw [h]
      simpa using this
    rw [e] at h2; exact absurd h2 (by decide)
  · rename_i h2
    have e : y = 10 := by
      have h3 : 0 - y + 10 + y = 0 + y := by rw [h]
      have h4 : 0 - y + 10 + y = 10 := by
        rw [fa_eq]; simp [Int32.toInt_add, Int32.toInt_sub, Int32.toInt_neg]
        have e9 : -y.toInt + 10 + y.toInt = 10 := by omega
        rw [e9]; rfl
      rw [h4] at h3; simpa using h3.symm
    rw [e] at h2; exact absurd (by decide) h2
set_option maxRecDepth 20000 in
theorem s_pull_2 (l : Launch) {kd : am_kd} {rv : am_rv} {iv : am_iv} (n : am_N) (hk : kd n = some (.inl 2)) (f g : am_N) (hf : kd f = some (.inl 3)) (hg : kd g = some (.inl 3)) (hq : ¬ rg_gap (iv f) (iv g) + 10 = 0) : am_Met l mX2_pull (am_rm 2 0 0) [am_P n, am_P f, am_P g] kd rv iv (am_ret (some (am_I (lw_pull (iv n 2) (iv f) (iv g)))) kd rv iv) := by
  refine am_Met.of (by decide) (Nat.le_of_ble_eq_true rfl) rfl ?_
  refine A_aload_n (pc := 0) (i := 0) dX2_pull_0 rfl rfl ?_
  refine A_geti (pc := 1) 2 fl_X2_16_2 hk rfl dX2_pull_1 ?_
  refine A_aload_n (pc := 4) (i := 2) dX2_pull_4 rfl rfl ?_
  refine A_geti (pc := 5) 4 fl_X2_19_3 hg rfl dX2_pull_5 ?_
  refine A_imul (pc := 8) dX2_pull_8 ?_
  refine A_aload_n (pc := 9) (i := 1) dX2_pull_9 rfl rfl ?_
  refine A_aload_n (pc := 10) (i := 2) dX2_pull_10 rfl rfl ?_
  refine A_callV1 (pc := 11) cv_X2_24 (s_gap l f g hf hg) hf rfl rfl rfl rfl (Nat.le_of_ble_eq_true rfl) ⟨(Nat.le_of_ble_eq_true rfl), (Nat.le_of_ble_eq_true rfl)⟩ ⟨Nat.zero_le _, Nat.zero_le _⟩ dX2_pull_11 ?_
  refine A_bipush (pc := 14) (10) dX2_pull_14 (by decide) ?_
  refine A_iadd (pc := 16) dX2_pull_16 ?_
  refine A_callN1 (pc := 17) cn_X2_28 (s_quotient l _ _) rfl rfl (Nat.le_of_ble_eq_true rfl) ⟨(Nat.le_of_ble_eq_true rfl), (Nat.le_of_ble_eq_true rfl)⟩ ⟨Nat.zero_le _, Nat.zero_le _⟩ dX2_pull_17 ?_
  exact A_iretE (pc := 20) dX2_pull_20 rfl (Nat.zero_le _) (Nat.zero_le _) (if_neg hq) (rfl)
set_option maxRecDepth 20000 in
theorem s_pull_8 (l : Launch) {kd : am_kd} {rv : am_rv} {iv : am_iv} (n : am_N) (hk : kd n = some (.inl 8)) (f g : am_N) (hf : kd f = some (.inl 3)) (hg : kd g = some (.inl 3)) (hq : ¬ rg_gap (iv f) (iv g) + 10 = 0) : am_Met l mX2_pull (am_rm 2 0 0) [am_P n, am_P f, am_P g] kd rv iv (am_ret (some (am_I (lw_pull (iv n 2) (iv f) (iv g)))) kd rv iv) := by
  refine am_Met.of (by decide) (Nat.le_of_ble_eq_true rfl) rfl ?_
  refine A_aload_n (pc := 0) (i := 0) dX2_pull_0 rfl rfl ?_
  refine A_geti (pc := 1) 2 fl_X2_16_8 hk rfl dX2_pull_1 ?_
  refine A_aload_n (pc := 4) (i := 2) dX2_pull_4 rfl rfl ?_
  refine A_geti (pc := 5) 4 fl_X2_19_3 hg rfl dX2_pull_5 ?_
  refine A_imul (pc := 8) dX2_pull_8 ?_
  refine A_aload_n (pc := 9) (i := 1) dX2_pull_9 rfl rfl ?_
  refine A_aload_n (pc := 10) (i := 2) dX2_pull_10 rfl rfl ?_
  refine A_callV1 (pc := 11) cv_X2_24 (s_gap l f g hf hg) hf rfl rfl rfl rfl (Nat.le_of_ble_eq_true rfl) ⟨(Nat.le_of_ble_eq_true rfl), (Nat.le_of_ble_eq_true rfl)⟩ ⟨Nat.zero_le _, Nat.zero_le _⟩ dX2_pull_11 ?_
  refine A_bipush (pc := 14) (10) dX2_pull_14 (by decide) ?_
  refine A_iadd (pc := 16) dX2_pull_16 ?_
  refine A_callN1 (pc := 17) cn_X2_28 (s_quotient l _ _) rfl rfl (Nat.le_of_ble_eq_true rfl) ⟨(Nat.le_of_ble_eq_true rfl), (Nat.le_of_ble_eq_true rfl)⟩ ⟨Nat.zero_le _, Nat.zero_le _⟩ dX2_pull_17 ?_
  exact A_iretE (pc := 20) dX2_pull_20 rfl (Nat.zero_le _) (Nat.zero_le _) (if_neg hq) (rfl)
set_option maxRecDepth 20000 in
theorem s_pull_1 (l : Launch) {kd : am_kd} {rv : am_rv} {iv : am_iv} (n : am_N) (hk : kd n = some (.inl 1)) (f g : am_N) (hf : kd f = some (.inl 3)) (hg : kd g = some (.inl 3)) (hq : ¬ rg_gap (iv f) (iv g) + 10 = 0) : am_Met l mX2_pull (am_rm 2 0 0) [am_P n, am_P f, am_P g] kd rv iv (am_ret (some (am_I (lw_pull (iv n 2) (iv f) (iv g)))) kd rv iv) := by
  refine am_Met.of (by decide) (Nat.le_of_ble_eq_true rfl) rfl ?_
  refine A_aload_n (pc := 0) (i := 0) dX2_pull_0 rfl rfl ?_
  refine A_geti (pc := 1) 2 fl_X2_16_1 hk rfl dX2_pull_1 ?_
  refine A_aload_n (pc := 4) (i := 2) dX2_pull_4 rfl rfl ?_
  refine A_geti (pc := 5) 4 fl_X2_19_3 hg rfl dX2_pull_5 ?_
  refine A_imul (pc := 8) dX2_pull_8 ?_
  refine A_aload_n (pc := 9) (i := 1) dX2_pull_9 rfl rfl ?_
  refine A_aload_n (pc := 10) (i := 2) dX2_pull_10 rfl rfl ?_
  refine A_callV1 (pc := 11) cv_X2_24 (s_gap l f g hf hg) hf rfl rfl rfl rfl (Nat.le_of_ble_eq_true rfl) ⟨(Nat.le_of_ble_eq_true rfl), (Nat.le_of_ble_eq_true rfl)⟩ ⟨Nat.zero_le _, Nat.zero_le _⟩ dX2_pull_11 ?_
  refine A_bipush (pc := 14) (10) dX2_pull_14 (by decide) ?_
  refine A_iadd (pc := 16) dX2_pull_16 ?_
  refine A_callN1 (pc := 17) cn_X2_28 (s_quotient l _ _) rfl rfl (Nat.le_of_ble_eq_true rfl) ⟨(Nat.le_of_ble_eq_true rfl), (Nat.le_of_ble_eq_true rfl)⟩ ⟨Nat.zero_le _, Nat.zero_le _⟩ dX2_pull_17 ?_
  exact A_iretE (pc := 20) dX2_pull_20 rfl (Nat.zero_le _) (Nat.zero_le _) (if_neg hq) (rfl)
set_option maxRecDepth 20000 in
theorem s_pull_0 (l : Launch) {kd : am_kd} {rv : am_rv} {iv : am_iv} (n : am_N) (hk : kd n = some (.inl 0)) (f g : am_N) (hf : kd f = some (.inl 3)) (hg : kd g = some (.inl 3)) (hq : ¬ rg_gap (iv f) (iv g) + 10 = 0) : am_Met l mX2_pull (am_rm 2 0 0) [am_P n, am_P f, am_P g] kd rv iv (am_ret (some (am_I (lw_pull (iv n 2) (iv f) (iv g)))) kd rv iv) := by
  refine am_Met.of (by decide) (Nat.le_of_ble_eq_true rfl) rfl ?_
  refine A_aload_n (pc := 0) (i := 0) dX2_pull_0 rfl rfl ?_
  refine A_geti (pc := 1) 2 fl_X2_16_0 hk rfl dX2_pull_1 ?_
  refine A_aload_n (pc := 4) (i := 2) dX2_pull_4 rfl rfl ?_
  refine A_geti (pc := 5) 4 fl_X2_19_3 hg rfl dX2_pull_5 ?_
  refine A_imul (pc := 8) dX2_pull_8 ?_
  refine A_aload_n (pc := 9) (i := 1) dX2_pull_9 rfl rfl ?_
  refine A_aload_n (pc := 10) (i := 2) dX2_pull_10 rfl rfl ?_
  refine A_callV1 (pc := 11) cv_X2_24 (s_gap l f g hf hg) hf rfl rfl rfl rfl (Nat.le_of_ble_eq_true rfl) ⟨(Nat.le_of_ble_eq_true rfl), (Nat.le_of_ble_eq_true rfl)⟩ ⟨Nat.zero_le _, Nat.zero_le _⟩ dX2_pull_11 ?_
  refine A_bipush (pc := 14) (10) dX2_pull_14 (by decide) ?_
  refine A_iadd (pc := 16) dX2_pull_16 ?_
  refine A_callN1 (pc := 17) cn_X2_28 (s_quotient l _ _) rfl rfl (Nat.le_of_ble_eq_true rfl) ⟨(Nat.le_of_ble_eq_true rfl), (Nat.le_of_ble_eq_true rfl)⟩ ⟨Nat.zero_le _, Nat.zero_le _⟩ dX2_pull_17 ?_
  exact A_iretE (pc := 20) dX2_pull_20 rfl (Nat.zero_le _) (Nat.zero_le _) (if_neg hq) (rfl)
set_option maxRecDepth 20000 in
theorem s_pull_9 (l : Launch) {kd : am_kd} {rv : am_rv} {iv : am_iv} (n : am_N) (hk : kd n = some (.inl 9)) (f g : am_N) (hf : kd f = some (.inl 3)) (hg : kd g = some (.inl 3)) (hq : ¬ rg_gap (iv f) (iv g) + 10 = 0) : am_Met l mX2_pull (am_rm 2 0 0) [am_P n, am_P f, am_P g] kd rv iv (am_ret (some (am_I (lw_pull (iv n 2) (iv f) (iv g)))) kd rv iv) := by
  refine am_Met.of (by decide) (Nat.le_of_ble_eq_true rfl) rfl ?_
  refine A_aload_n (pc := 0) (i := 0) dX2_pull_0 rfl rfl ?_
  refine A_geti (pc := 1) 2 fl_X2_16_9 hk rfl dX2_pull_1 ?_
  refine A_aload_n (pc := 4) (i := 2) dX2_pull_4 rfl rfl ?_
  refine A_geti (pc := 5) 4 fl_X2_19_3 hg rfl dX2_pull_5 ?_
  refine A_imul (pc := 8) dX2_pull_8 ?_
  refine A_aload_n (pc := 9) (i := 1) dX2_pull_9 rfl rfl ?_
  refine A_aload_n (pc := 10) (i := 2) dX2_pull_10 rfl rfl ?_
  refine A_callV1 (pc := 11) cv_X2_24 (s_gap l f g hf hg) hf rfl rfl rfl rfl (Nat.le_of_ble_eq_true rfl) ⟨(Nat.le_of_ble_eq_true rfl), (Nat.le_of_ble_eq_true rfl)⟩ ⟨Nat.zero_le _, Nat.zero_le _⟩ dX2_pull_11 ?_
  refine A_bipush (pc := 14) (10) dX2_pull_14 (by decide) ?_
  refine A_iadd (pc := 16) dX2_pull_16 ?_
  refine A_callN1 (pc := 17) cn_X2_28 (s_quotient l _ _) rfl rfl (Nat.le_of_ble_eq_true rfl) ⟨(Nat.le_of_ble_eq_true rfl), (Nat.le_of_ble_eq_true rfl)⟩ ⟨Nat.zero_le _, Nat.zero_le _⟩ dX2_pull_17 ?_
  exact A_iretE (pc := 20) dX2_pull_20 rfl (Nat.zero_le _) (Nat.zero_le _) (if_neg hq) (rfl)
set_option maxRecDepth 20000 in
theorem s_pull_10 (l : Launch) {kd : am_kd} {rv : am_rv} {iv : am_iv} (n : am_N) (hk : kd n = some (.inl 10)) (f g : am_N) (hf : kd f = some (.inl 3)) (hg : kd g = some (.inl 3)) (hq : ¬ rg_gap (iv f) (iv g) + 10 = 0) : am_Met l mX2_pull (am_rm 2 0 0) [am_P n, am_P f, am_P g] kd rv iv (am_ret (some (am_I (lw_pull (iv n 2) (iv f) (iv g)))) kd rv iv) := by
  refine am_Met.of (by decide) (Nat.le_of_ble_eq_true rfl) rfl ?_
  refine A_aload_n (pc := 0) (i := 0) dX2_pull_0 rfl rfl ?_
  refine A_geti (pc := 1) 2 fl_X2_16_10 hk rfl dX2_pull_1 ?_
  refine A_aload_n (pc := 4) (i := 2) dX2_pull_4 rfl rfl ?_
  refine A_geti (pc := 5) 4 fl_X2_19_3 hg rfl dX2_pull_5 ?_
  refine A_imul (pc := 8) dX2_pull_8 ?_
  refine A_aload_n (pc := 9) (i := 1) dX2_pull_9 rfl rfl ?_
  refine A_aload_n (pc := 10) (i := 2) dX2_pull_10 rfl rfl ?_
  refine A_callV1 (pc := 11) cv_X2_24 (s_gap l f g hf hg) hf rfl rfl rfl rfl (Nat.le_of_ble_eq_true rfl) ⟨(Nat.le_of_ble_eq_true rfl), (Nat.le_of_ble_eq_true rfl)⟩ ⟨Nat.zero_le _, Nat.zero_le _⟩ dX2_pull_11 ?_
  refine A_bipush (pc := 14) (10) dX2_pull_14 (by decide) ?_
  refine A_iadd (pc := 16) dX2_pull_16 ?_
  refine A_callN1 (pc := 17) cn_X2_28 (s_quotient l _ _) rfl rfl (Nat.le_of_ble_eq_true rfl) ⟨(Nat.le_of_ble_eq_true rfl), (Nat.le_of_ble_eq_true rfl)⟩ ⟨Nat.zero_le _, Nat.zero_le _⟩ dX2_pull_17 ?_
  exact A_iretE (pc := 20) dX2_pull_20 rfl (Nat.zero_le _) (Nat.zero_le _) (if_neg hq) (rfl)
set_option maxRecDepth 20000 in
theorem s_pull_6 (l : Launch) {kd : am_kd} {rv : am_rv} {iv : am_iv} (n : am_N) (hk : kd n = some (.inl 6)) (f g : am_N) (hf : kd f = some (.inl 3)) (hg : kd g = some (.inl 3)) (hq : ¬ rg_gap (iv f) (iv g) + 10 = 0) : am_Met l mX2_pull (am_rm 2 0 0) [am_P n, am_P f, am_P g] kd rv iv (am_ret (some (am_I (lw_pull (iv n 2) (iv f) (iv g)))) kd rv iv) := by
  refine am_Met.of (by decide) (Nat.le_of_ble_eq_true rfl) rfl ?_
  refine A_aload_n (pc := 0) (i := 0) dX2_pull_0 rfl rfl ?_
  refine A_geti (pc := 1) 2 fl_X2_16_6 hk rfl dX2_pull_1 ?_
  refine A_aload_n (pc := 4) (i := 2) dX2_pull_4 rfl rfl ?_
  refine A_geti (pc := 5) 4 fl_X2_19_3 hg rfl dX2_pull_5 ?_
  refine A_imul (pc := 8) dX2_pull_8 ?_
  refine A_aload_n (pc := 9) (i := 1) dX2_pull_9 rfl rfl ?_
  refine A_aload_n (pc := 10) (i := 2) dX2_pull_10 rfl rfl ?_
  refine A_callV1 (pc := 11) cv_X2_24 (s_gap l f g hf hg) hf rfl rfl rfl rfl (Nat.le_of_ble_eq_true rfl) ⟨(Nat.le_of_ble_eq_true rfl), (Nat.le_of_ble_eq_true rfl)⟩ ⟨Nat.zero_le _, Nat.zero_le _⟩ dX2_pull_11 ?_
  refine A_bipush (pc := 14) (10) dX2_pull_14 (by decide) ?_
  refine A_iadd (pc := 16) dX2_pull_16 ?_
  refine A_callN1 (pc := 17) cn_X2_28 (s_quotient l _ _) rfl rfl (Nat.le_of_ble_eq_true rfl) ⟨(Nat.le_of_ble_eq_true rfl), (Nat.le_of_ble_eq_true rfl)⟩ ⟨Nat.zero_le _, Nat.zero_le _⟩ dX2_pull_17 ?_
  exact A_iretE (pc := 20) dX2_pull_20 rfl (Nat.zero_le _) (Nat.zero_le _) (if_neg hq) (rfl)
set_option maxRecDepth 20000 in
theorem s_w0_2 (l : Launch) {kd : am_kd} {rv : am_rv} {iv : am_iv} (n : am_N) (hk : kd n = some (.inl 2)) (f g : am_N) (hf : kd f = some (.inl 3)) (hg : kd g = some (.inl 3)) (hq : ¬ rg_gap (iv f) (iv g) + 10 = 0) : am_Met l mX2_widens (am_rm 3 0 0) [am_P n, am_P f, am_P g] kd rv iv (am_ret (some (am_I (lw_w0 (iv n 2) (iv f) (iv g)))) kd rv iv) := by
  refine am_Met.of (by decide) (Nat.le_of_ble_eq_true rfl) rfl ?_
  refine A_aload_n (pc := 0) (i := 1) dX2_widens_0 rfl rfl ?_
  refine A_geti (pc := 1) 3 fl_X2_34_3 hf rfl dX2_widens_1 ?_
  refine A_aload_n (pc := 4) (i := 2) dX2_widens_4 rfl rfl ?_
  refine A_geti (pc := 5) 3 fl_X2_34_3 hg rfl dX2_widens_5 ?_
  refine A_icmpne (pc := 8) 19 dX2_widens_8 (by decide) (fun hb8 => ?_) (fun hb8 => ?_)
  · refine A_iconst (pc := 19) (0) dX2_widens_19 (by decide) ?_
    exact A_iretE (pc := 20) dX2_widens_20 rfl (Nat.zero_le _) (Nat.zero_le _) (by (try simp only [rg_bit_0, Classical.not_not, not_false_eq_true] at *); simp_all [lw_w0]) (rfl)
  · refine A_aload_n (pc := 11) (i := 1) dX2_widens_11 rfl rfl ?_
    refine A_aload_n (pc := 12) (i := 2) dX2_widens_12 rfl rfl ?_
    refine A_callV1 (pc := 13) cv_X2_37 (s_isNear l f g hf hg) hf rfl rfl rfl rfl (Nat.le_of_ble_eq_true rfl) ⟨(Nat.le_of_ble_eq_true rfl), (Nat.le_of_ble_eq_true rfl)⟩ ⟨Nat.zero_le _, Nat.zero_le _⟩ dX2_widens_13 ?_
    refine A_ifne (pc := 16) 21 dX2_widens_16 (by decide) (fun hb16 => ?_) (fun hb16 => ?_)
    · refine A_aload_n (pc := 21) (i := 0) dX2_widens_21 rfl rfl ?_
      refine A_aload_n (pc := 22) (i := 1) dX2_widens_22 rfl rfl ?_
      refine A_aload_n (pc := 23) (i := 2) dX2_widens_23 rfl rfl ?_
      refine A_callU1 (r := (RX2, TX2, 3)) (pc := 24) cu_X2_41_2 (s_pull_2 l n hk f g hf hg hq) hk rfl rfl rfl (Nat.le_of_ble_eq_true rfl) ⟨(Nat.le_of_ble_eq_true rfl), (Nat.le_of_ble_eq_true rfl)⟩ ⟨Nat.zero_le _, Nat.zero_le _⟩ dX2_widens_24 ?_
      refine A_ist3 (pc := 27) dX2_widens_27 (Nat.le_of_ble_eq_true rfl) rfl ?_
      refine A_aload_n (pc := 28) (i := 1) dX2_widens_28 rfl rfl ?_
      refine A_aload_n (pc := 29) (i := 2) dX2_widens_29 rfl rfl ?_
      refine A_callV1 (pc := 30) cv_X2_45 (s_isBehind l f g hf hg) hf rfl rfl rfl rfl (Nat.le_of_ble_eq_true rfl) ⟨(Nat.le_of_ble_eq_true rfl), (Nat.le_of_ble_eq_true rfl)⟩ ⟨Nat.zero_le _, Nat.zero_le _⟩ dX2_widens_30 ?_
      refine A_ifeq (pc := 33) 41 dX2_widens_33 (by decide) (fun hb33 => ?_) (fun hb33 => ?_)
      · refine A_iload_n (pc := 41) (i := 3) dX2_widens_41 rfl rfl ?_
        exact A_iretE (pc := 42) dX2_widens_42 rfl (Nat.zero_le _) (Nat.zero_le _) (by (try simp only [rg_bit_0, Classical.not_not, not_false_eq_true] at *); simp_all [lw_w0]) (rfl)
      · refine A_iload_n (pc := 36) (i := 3) dX2_widens_36 rfl rfl ?_
        refine A_ineg (pc := 37) dX2_widens_37 ?_
        refine A_goto (pc := 38) 42 dX2_widens_38 (by decide) ?_
        exact A_iretE (pc := 42) dX2_widens_42 rfl (Nat.zero_le _) (Nat.zero_le _) (by (try simp only [rg_bit_0, Classical.not_not, not_false_eq_true] at *); simp_all [lw_w0]) (rfl)
    · refine A_iconst (pc := 19) (0) dX2_widens_19 (by decide) ?_
      exact A_iretE (pc := 20) dX2_widens_20 rfl (Nat.zero_le _) (Nat.zero_le _) (by (try simp only [rg_bit_0, Classical.not_not, not_false_eq_true] at *); simp_all [lw_w0]) (rfl)
set_option maxRecDepth 20000 in
theorem s_w0_1 (l : Launch) {kd : am_kd} {rv : am_rv} {iv : am_iv} (n : am_N) (hk : kd n = some (.inl 1)) (f g : am_N) (hf : kd f = some (.inl 3)) (hg : kd g = some (.inl 3)) (hq : ¬ rg_gap (iv f) (iv g) + 10 = 0) : am_Met l mX2_widens (am_rm 3 0 0) [am_P n, am_P f, am_P g] kd rv iv (am_ret (some (am_I (lw_w0 (iv n 2) (iv f) (iv g)))) kd rv iv) := by
  refine am_Met.of (by decide) (Nat.le_of_ble_eq_true rfl) rfl ?_
  refine A_aload_n (pc := 0) (i := 1) dX2_widens_0 rfl rfl ?_
  refine A_geti (pc := 1) 3 fl_X2_34_3 hf rfl dX2_widens_1 ?_
  refine A_aload_n (pc := 4) (i := 2) dX2_widens_4 rfl rfl ?_
  refine A_geti (pc := 5) 3 fl_X2_34_3 hg rfl dX2_widens_5 ?_
  refine A_icmpne (pc := 8) 19 dX2_widens_8 (by decide) (fun hb8 => ?_) (fun hb8 => ?_)
  · refine A_iconst (pc := 19) (0) dX2_widens_19 (by decide) ?_
    exact A_iretE (pc := 20) dX2_widens_20 rfl (Nat.zero_le _) (Nat.zero_le _) (by (try simp only [rg_bit_0, Classical.not_not, not_false_eq_true] at *); simp_all [lw_w0]) (rfl)
  · refine A_aload_n (pc := 11) (i := 1) dX2_widens_11 rfl rfl ?_
    refine A_aload_n (pc := 12) (i := 2) dX2_widens_12 rfl rfl ?_
    refine A_callV1 (pc := 13) cv_X2_37 (s_isNear l f g hf hg) hf rfl rfl rfl rfl (Nat.le_of_ble_eq_true rfl) ⟨(Nat.le_of_ble_eq_true rfl), (Nat.le_of_ble_eq_true rfl)⟩ ⟨Nat.zero_le _, Nat.zero_le _⟩ dX2_widens_13 ?_
    refine A_ifne (pc := 16) 21 dX2_widens_16 (by decide) (fun hb16 => ?_) (fun hb16 => ?_)
    · refine A_aload_n (pc := 21) (i := 0) dX2_widens_21 rfl rfl ?_
      refine A_aload_n (pc := 22) (i := 1) dX2_widens_22 rfl rfl ?_
      refine A_aload_n (pc := 23) (i := 2) dX2_widens_23 rfl rfl ?_
      refine A_callU1 (r := (RX1, TX1, 3)) (pc := 24) cu_X2_41_1 (s_pull_1 l n hk f g hf hg hq) hk rfl rfl rfl (Nat.le_of_ble_eq_true rfl) ⟨(Nat.le_of_ble_eq_true rfl), (Nat.le_of_ble_eq_true rfl)⟩ ⟨Nat.zero_le _, Nat.zero_le _⟩ dX2_widens_24 ?_
      refine A_ist3 (pc := 27) dX2_widens_27 (Nat.le_of_ble_eq_true rfl) rfl ?_
      refine A_aload_n (pc := 28) (i := 1) dX2_widens_28 rfl rfl ?_
      refine A_aload_n (pc := 29) (i := 2) dX2_widens_29 rfl rfl ?_
      refine A_callV1 (pc := 30) cv_X2_45 (s_isBehind l f g hf hg) hf rfl rfl rfl rfl (Nat.le_of_ble_eq_true rfl) ⟨(Nat.le_of_ble_eq_true rfl), (Nat.le_of_ble_eq_true rfl)⟩ ⟨Nat.zero_le _, Nat.zero_le _⟩ dX2_widens_30 ?_
      refine A_ifeq (pc := 33) 41 dX2_widens_33 (by decide) (fun hb33 => ?_) (fun hb33 => ?_)
      · refine A_iload_n (pc := 41) (i := 3) dX2_widens_41 rfl rfl ?_
        exact A_iretE (pc := 42) dX2_widens_42 rfl (Nat.zero_le _) (Nat.zero_le _) (by (try simp only [rg_bit_0, Classical.not_not, not_false_eq_true] at *); simp_all [lw_w0]) (rfl)
      · refine A_iload_n (pc := 36) (i := 3) dX2_widens_36 rfl rfl ?_
        refine A_ineg (pc := 37) dX2_widens_37 ?_
        refine A_goto (pc := 38) 42 dX2_widens_38 (by decide) ?_
        exact A_iretE (pc := 42) dX2_widens_42 rfl (Nat.zero_le _) (Nat.zero_le _) (by (try simp only [rg_bit_0, Classical.not_not, not_false_eq_true] at *); simp_all [lw_w0]) (rfl)
    · refine A_iconst (pc := 19) (0) dX2_widens_19 (by decide) ?_
      exact A_iretE (pc := 20) dX2_widens_20 rfl (Nat.zero_le _) (Nat.zero_le _) (by (try simp only [rg_bit_0, Classical.not_not, not_false_eq_true] at *); simp_all [lw_w0]) (rfl)
set_option maxRecDepth 20000 in
theorem s_w0_8 (l : Launch) {kd : am_kd} {rv : am_rv} {iv : am_iv} (n : am_N) (hk : kd n = some (.inl 8)) (f g : am_N) (hf : kd f = some (.inl 3)) (hg : kd g = some (.inl 3)) (hq : ¬ rg_gap (iv f) (iv g) + 10 = 0) : am_Met l mX2_widens (am_rm 3 0 0) [am_P n, am_P f, am_P g] kd rv iv (am_ret (some (am_I (lw_w0 (iv n 2) (iv f) (iv g)))) kd rv iv) := by
  refine am_Met.of (by decide) (Nat.le_of_ble_eq_true rfl) rfl ?_
  refine A_aload_n (pc := 0) (i := 1) dX2_widens_0 rfl rfl ?_
  refine A_geti (pc := 1) 3 fl_X2_34_3 hf rfl dX2_widens_1 ?_
  refine A_aload_n (pc := 4) (i := 2) dX2_widens_4 rfl rfl ?_
  refine A_geti (pc := 5) 3 fl_X2_34_3 hg rfl dX2_widens_5 ?_
  refine A_icmpne (pc := 8) 19 dX2_widens_8 (by decide) (fun hb8 => ?_) (fun hb8 => ?_)
  · refine A_iconst (pc := 19) (0) dX2_widens_19 (by decide) ?_
    exact A_iretE (pc := 20) dX2_widens_20 rfl (Nat.zero_le _) (Nat.zero_le _) (by (try simp only [rg_bit_0, Classical.not_not, not_false_eq_true] at *); simp_all [lw_w0]) (rfl)
  · refine A_aload_n (pc := 11) (i := 1) dX2_widens_11 rfl rfl ?_
    refine A_aload_n (pc := 12) (i := 2) dX2_widens_12 rfl rfl ?_
    refine A_callV1 (pc := 13) cv_X2_37 (s_isNear l f g hf hg) hf rfl rfl rfl rfl (Nat.le_of_ble_eq_true rfl) ⟨(Nat.le_of_ble_eq_true rfl), (Nat.le_of_ble_eq_true rfl)⟩ ⟨Nat.zero_le _, Nat.zero_le _⟩ dX2_widens_13 ?_
    refine A_ifne (pc := 16) 21 dX2_widens_16 (by decide) (fun hb16 => ?_) (fun hb16 => ?_)
    · refine A_aload_n (pc := 21) (i := 0) dX2_widens_21 rfl rfl ?_
      refine A_aload_n (pc := 22) (i := 1) dX2_widens_22 rfl rfl ?_
      refine A_aload_n (pc := 23) (i := 2) dX2_widens_23 rfl rfl ?_
      refine A_callU1 (r := (RX8, TX8, 3)) (pc := 24) cu_X2_41_8 (s_pull_8 l n hk f g hf hg hq) hk rfl rfl rfl (Nat.le_of_ble_eq_true rfl) ⟨(Nat.le_of_ble_eq_true rfl), (Nat.le_of_ble_eq_true rfl)⟩ ⟨Nat.zero_le _, Nat.zero_le _⟩ dX2_widens_24 ?_
      refine A_ist3 (pc := 27) dX2_widens_27 (Nat.le_of_ble_eq_true rfl) rfl ?_
      refine A_aload_n (pc := 28) (i := 1) dX2_widens_28 rfl rfl ?_
      refine A_aload_n (pc := 29) (i := 2) dX2_widens_29 rfl rfl ?_
      refine A_callV1 (pc := 30) cv_X2_45 (s_isBehind l f g hf hg) hf rfl rfl rfl rfl (Nat.le_of_ble_eq_true rfl) ⟨(Nat.le_of_ble_eq_true rfl), (Nat.le_of_ble_eq_true rfl)⟩ ⟨Nat.zero_le _, Nat.zero_le _⟩ dX2_widens_30 ?_
      refine A_ifeq (pc := 33) 41 dX2_widens_33 (by decide) (fun hb33 => ?_) (fun hb33 => ?_)
      · refine A_iload_n (pc := 41) (i := 3) dX2_widens_41 rfl rfl ?_
        exact A_iretE (pc := 42) dX2_widens_42 rfl (Nat.zero_le _) (Nat.zero_le _) (by (try simp only [rg_bit_0, Classical.not_not, not_false_eq_true] at *); simp_all [lw_w0]) (rfl)
      · refine A_iload_n (pc := 36) (i := 3) dX2_widens_36 rfl rfl ?_
        refine A_ineg (pc := 37) dX2_widens_37 ?_
        refine A_goto (pc := 38) 42 dX2_widens_38 (by decide) ?_
        exact A_iretE (pc := 42) dX2_widens_42 rfl (Nat.zero_le _) (Nat.zero_le _) (by (try simp only [rg_bit_0, Classical.not_not, not_false_eq_true] at *); simp_all [lw_w0]) (rfl)
    · refine A_iconst (pc := 19) (0) dX2_widens_19 (by decide) ?_
      exact A_iretE (pc := 20) dX2_widens_20 rfl (Nat.zero_le _) (Nat.zero_le _) (by (try simp only [rg_bit_0, Classical.not_not, not_false_eq_true] at *); simp_all [lw_w0]) (rfl)
set_option maxRecDepth 20000 in
theorem s_w1 (l : Launch) {kd : am_kd} {rv : am_rv} {iv : am_iv} (n : am_N) (hk : kd n = some (.inl 8)) (f g : am_N) (hf : kd f = some (.inl 3)) (hg : kd g = some (.inl 3)) (hq : ¬ rg_gap (iv f) (iv g) + 10 = 0) : am_Met l mX8_widens (am_rm 4 0 0) [am_P n, am_P f, am_P g] kd rv iv (am_ret (some (am_I (if rg_gap (iv f) (iv g) < iv f 6 + iv g 6 then 2 * lw_w0 (iv n 2) (iv f) (iv g) else lw_w0 (iv n 2) (iv f) (iv g)))) kd rv iv) := by
  refine am_Met.of (by decide) (Nat.le_of_ble_eq_true rfl) rfl ?_
  refine A_aload_n (pc := 0) (i := 0) dX8_widens_0 rfl rfl ?_
  refine A_aload_n (pc := 1) (i := 1) dX8_widens_1 rfl rfl ?_
  refine A_aload_n (pc := 2) (i := 2) dX8_widens_2 rfl rfl ?_
  refine A_callP1 (pc := 3) cp_X8_9 (s_w0_8 l n hk f g hf hg hq) hk rfl rfl rfl (Nat.le_of_ble_eq_true rfl) ⟨(Nat.le_of_ble_eq_true rfl), (Nat.le_of_ble_eq_true rfl)⟩ ⟨Nat.zero_le _, Nat.zero_le _⟩ dX8_widens_3 ?_
  refine A_ist3 (pc := 6) dX8_widens_6 (Nat.le_of_ble_eq_true rfl) rfl ?_
  refine A_aload_n (pc := 7) (i := 1) dX8_widens_7 rfl rfl ?_
  refine A_aload_n (pc := 8) (i := 2) dX8_widens_8 rfl rfl ?_
  refine A_callV1 (pc := 9) cv_X8_13 (s_gap l f g hf hg) hf rfl rfl rfl rfl (Nat.le_of_ble_eq_true rfl) ⟨(Nat.le_of_ble_eq_true rfl), (Nat.le_of_ble_eq_true rfl)⟩ ⟨Nat.zero_le _, Nat.zero_le _⟩ dX8_widens_9 ?_
  refine A_aload_n (pc := 12) (i := 1) dX8_widens_12 rfl rfl ?_
  refine A_geti (pc := 13) 6 fl_X8_19_3 hf rfl dX8_widens_13 ?_
  refine A_aload_n (pc := 16) (i := 2) dX8_widens_16 rfl rfl ?_
  refine A_geti (pc := 17) 6 fl_X8_19_3 hg rfl dX8_widens_17 ?_
  refine A_iadd (pc := 20) dX8_widens_20 ?_
  refine A_icmpge (pc := 21) 30 dX8_widens_21 (by decide) (fun hb21 => ?_) (fun hb21 => ?_)
  · refine A_iload_n (pc := 30) (i := 3) dX8_widens_30 rfl rfl ?_
    exact A_iretE (pc := 31) dX8_widens_31 rfl (Nat.zero_le _) (Nat.zero_le _) (by (try simp only []); (repeat' split) <;> first | rfl | (exfalso; simp only [fa_lt, fa_le] at *; omega) | (exfalso; simp [fa_lt, fa_le, fa_eq] at *; omega) | (simp_all; done)) (rfl)
  · refine A_iconst (pc := 24) (2) dX8_widens_24 (by decide) ?_
    refine A_iload_n (pc := 25) (i := 3) dX8_widens_25 rfl rfl ?_
    refine A_imul (pc := 26) dX8_widens_26 ?_
    refine A_goto (pc := 27) 31 dX8_widens_27 (by decide) ?_
    exact A_iretE (pc := 31) dX8_widens_31 rfl (Nat.zero_le _) (Nat.zero_le _) (by (try simp only []); (repeat' split) <;> first | rfl | (exfalso; simp only [fa_lt, fa_le] at *; omega) | (exfalso; simp [fa_lt, fa_le, fa_eq] at *; omega) | (simp_all; done)) (rfl)
set_option maxRecDepth 20000 in
theorem s_w3_0 (l : Launch) {kd : am_kd} {rv : am_rv} {iv : am_iv} (n : am_N) (hk : kd n = some (.inl 0)) (f g : am_N) (hf : kd f = some (.inl 3)) (hg : kd g = some (.inl 3)) (hq : ¬ rg_gap (iv f) (iv g) + 10 = 0) : am_Met l mX0_widens (am_rm 3 0 0) [am_P n, am_P f, am_P g] kd rv iv (am_ret (some (am_I (@ite _ (¬ iv f 3 = iv g 3 ∧ rg_near (iv f) (iv g)) (Classical.propDecidable _) (lw_pull (iv n 2) (iv f) (iv g)) 0))) kd rv iv) := by
  refine am_Met.of (by decide) (Nat.le_of_ble_eq_true rfl) rfl ?_
  refine A_aload_n (pc := 0) (i := 1) dX0_widens_0 rfl rfl ?_
  refine A_geti (pc := 1) 3 fl_X0_7_3 hf rfl dX0_widens_1 ?_
  refine A_aload_n (pc := 4) (i := 2) dX0_widens_4 rfl rfl ?_
  refine A_geti (pc := 5) 3 fl_X0_7_3 hg rfl dX0_widens_5 ?_
  refine A_icmpeq (pc := 8) 28 dX0_widens_8 (by decide) (fun hb8 => ?_) (fun hb8 => ?_)
  · refine A_iconst (pc := 28) (0) dX0_widens_28 (by decide) ?_
    exact A_iretE (pc := 29) dX0_widens_29 rfl (Nat.zero_le _) (Nat.zero_le _) (by (try simp only [rg_bit_0, Classical.not_not, not_false_eq_true] at *); simp_all [lw_w0]) (rfl)
  · refine A_aload_n (pc := 11) (i := 1) dX0_widens_11 rfl rfl ?_
    refine A_aload_n (pc := 12) (i := 2) dX0_widens_12 rfl rfl ?_
    refine A_callV1 (pc := 13) cv_X0_13 (s_isNear l f g hf hg) hf rfl rfl rfl rfl (Nat.le_of_ble_eq_true rfl) ⟨(Nat.le_of_ble_eq_true rfl), (Nat.le_of_ble_eq_true rfl)⟩ ⟨Nat.zero_le _, Nat.zero_le _⟩ dX0_widens_13 ?_
    refine A_ifeq (pc := 16) 28 dX0_widens_16 (by decide) (fun hb16 => ?_) (fun hb16 => ?_)
    · refine A_iconst (pc := 28) (0) dX0_widens_28 (by decide) ?_
      exact A_iretE (pc := 29) dX0_widens_29 rfl (Nat.zero_le _) (Nat.zero_le _) (by (try simp only [rg_bit_0, Classical.not_not, not_false_eq_true] at *); simp_all [lw_w0]) (rfl)
    · refine A_aload_n (pc := 19) (i := 0) dX0_widens_19 rfl rfl ?_
      refine A_aload_n (pc := 20) (i := 1) dX0_widens_20 rfl rfl ?_
      refine A_aload_n (pc := 21) (i := 2) dX0_widens_21 rfl rfl ?_
      refine A_callU1 (r := (RX0, TX0, 3)) (pc := 22) cu_X0_17_0 (s_pull_0 l n hk f g hf hg hq) hk rfl rfl rfl (Nat.le_of_ble_eq_true rfl) ⟨(Nat.le_of_ble_eq_true rfl), (Nat.le_of_ble_eq_true rfl)⟩ ⟨Nat.zero_le _, Nat.zero_le _⟩ dX0_widens_22 ?_
      refine A_goto (pc := 25) 29 dX0_widens_25 (by decide) ?_
      exact A_iretE (pc := 29) dX0_widens_29 rfl (Nat.zero_le _) (Nat.zero_le _) (by (try simp only [rg_bit_0, Classical.not_not, not_false_eq_true] at *); simp_all [lw_w0]) (rfl)
set_option maxRecDepth 20000 in
theorem s_w3_9 (l : Launch) {kd : am_kd} {rv : am_rv} {iv : am_iv} (n : am_N) (hk : kd n = some (.inl 9)) (f g : am_N) (hf : kd f = some (.inl 3)) (hg : kd g = some (.inl 3)) (hq : ¬ rg_gap (iv f) (iv g) + 10 = 0) : am_Met l mX0_widens (am_rm 3 0 0) [am_P n, am_P f, am_P g] kd rv iv (am_ret (some (am_I (@ite _ (¬ iv f 3 = iv g 3 ∧ rg_near (iv f) (iv g)) (Classical.propDecidable _) (lw_pull (iv n 2) (iv f) (iv g)) 0))) kd rv iv) := by
  refine am_Met.of (by decide) (Nat.le_of_ble_eq_true rfl) rfl ?_
  refine A_aload_n (pc := 0) (i := 1) dX0_widens_0 rfl rfl ?_
  refine A_geti (pc := 1) 3 fl_X0_7_3 hf rfl dX0_widens_1 ?_
  refine A_aload_n (pc := 4) (i := 2) dX0_widens_4 rfl rfl ?_
  refine A_geti (pc := 5) 3 fl_X0_7_3 hg rfl dX0_widens_5 ?_
  refine A_icmpeq (pc := 8) 28 dX0_widens_8 (by decide) (fun hb8 => ?_) (fun hb8 => ?_)
  · refine A_iconst (pc := 28) (0) dX0_widens_28 (by decide) ?_
    exact A_iretE (pc := 29) dX0_widens_29 rfl (Nat.zero_le _) (Nat.zero_le _) (by (try simp only [rg_bit_0, Classical.not_not, not_false_eq_true] at *); simp_all [lw_w0]) (rfl)
  · refine A_aload_n (pc := 11) (i := 1) dX0_widens_11 rfl rfl ?_
    refine A_aload_n (pc := 12) (i := 2) dX0_widens_12 rfl rfl ?_
    refine A_callV1 (pc := 13) cv_X0_13 (s_isNear l f g hf hg) hf rfl rfl rfl rfl (Nat.le_of_ble_eq_true rfl) ⟨(Nat.le_of_ble_eq_true rfl), (Nat.le_of_ble_eq_true rfl)⟩ ⟨Nat.zero_le _, Nat.zero_le _⟩ dX0_widens_13 ?_
    refine A_ifeq (pc := 16) 28 dX0_widens_16 (by decide) (fun hb16 => ?_) (fun hb16 => ?_)
    · refine A_iconst (pc := 28) (0) dX0_widens_28 (by decide) ?_
      exact A_iretE (pc := 29) dX0_widens_29 rfl (Nat.zero_le _) (Nat.zero_le _) (by (try simp only [rg_bit_0, Classical.not_not, not_false_eq_true] at *); simp_all [lw_w0]) (rfl)
    · refine A_aload_n (pc := 19) (i := 0) dX0_widens_19 rfl rfl ?_
      refine A_aload_n (pc := 20) (i := 1) dX0_widens_20 rfl rfl ?_
      refine A_aload_n (pc := 21) (i := 2) dX0_widens_21 rfl rfl ?_
      refine A_callU1 (r := (RX9, TX9, 3)) (pc := 22) cu_X0_17_9 (s_pull_9 l n hk f g hf hg hq) hk rfl rfl rfl (Nat.le_of_ble_eq_true rfl) ⟨(Nat.le_of_ble_eq_true rfl), (Nat.le_of_ble_eq_true rfl)⟩ ⟨Nat.zero_le _, Nat.zero_le _⟩ dX0_widens_22 ?_
      refine A_goto (pc := 25) 29 dX0_widens_25 (by decide) ?_
      exact A_iretE (pc := 29) dX0_widens_29 rfl (Nat.zero_le _) (Nat.zero_le _) (by (try simp only [rg_bit_0, Classical.not_not, not_false_eq_true] at *); simp_all [lw_w0]) (rfl)
set_option maxRecDepth 20000 in
theorem s_w5_10 (l : Launch) {kd : am_kd} {rv : am_rv} {iv : am_iv} (n : am_N) (hk : kd n = some (.inl 10)) (f g : am_N) : am_Met l mX10_widens (am_rm 0 0 0) [am_P n, am_P f, am_P g] kd rv iv (am_ret (some (am_I 0)) kd rv iv) := by
  refine am_Met.of (by decide) (Nat.le_of_ble_eq_true rfl) rfl ?_
  refine A_iconst (pc := 0) (0) dX10_widens_0 (by decide) ?_
  exact A_iretE (pc := 1) dX10_widens_1 rfl (Nat.zero_le _) (Nat.zero_le _) (rfl) (rfl)
set_option maxRecDepth 20000 in
theorem s_w5_6 (l : Launch) {kd : am_kd} {rv : am_rv} {iv : am_iv} (n : am_N) (hk : kd n = some (.inl 6)) (f g : am_N) : am_Met l mX10_widens (am_rm 0 0 0) [am_P n, am_P f, am_P g] kd rv iv (am_ret (some (am_I 0)) kd rv iv) := by
  refine am_Met.of (by decide) (Nat.le_of_ble_eq_true rfl) rfl ?_
  refine A_iconst (pc := 0) (0) dX10_widens_0 (by decide) ?_
  exact A_iretE (pc := 1) dX10_widens_1 rfl (Nat.zero_le _) (Nat.zero_le _) (rfl) (rfl)
set_option maxRecDepth 20000 in
theorem s_s0_2 (l : Launch) {kd : am_kd} {rv : am_rv} {iv : am_iv} (n : am_N) (hk : kd n = some (.inl 2)) (f : am_N) (hf : kd f = some (.inl 3)) (w : Int32) : am_Met l mX2_spreads (am_rm 0 0 0) [am_P n, am_P f, am_I w] kd rv iv (am_ret (some (am_I 0)) kd rv iv) := by
  refine am_Met.of (by decide) (Nat.le_of_ble_eq_true rfl) rfl ?_
  refine A_iconst (pc := 0) (0) dX2_spreads_0 (by decide) ?_
  exact A_iretE (pc := 1) dX2_spreads_1 rfl (Nat.zero_le _) (Nat.zero_le _) (rfl) (rfl)
set_option maxRecDepth 20000 in
theorem s_s0_1 (l : Launch) {kd : am_kd} {rv : am_rv} {iv : am_iv} (n : am_N) (hk : kd n = some (.inl 1)) (f : am_N) (hf : kd f = some (.inl 3)) (w : Int32) : am_Met l mX2_spreads (am_rm 0 0 0) [am_P n, am_P f, am_I w] kd rv iv (am_ret (some (am_I 0)) kd rv iv) := by
  refine am_Met.of (by decide) (Nat.le_of_ble_eq_true rfl) rfl ?_
  refine A_iconst (pc := 0) (0) dX2_spreads_0 (by decide) ?_
  exact A_iretE (pc := 1) dX2_spreads_1 rfl (Nat.zero_le _) (Nat.zero_le _) (rfl) (rfl)
set_option maxRecDepth 20000 in
theorem s_s0_8 (l : Launch) {kd : am_kd} {rv : am_rv} {iv : am_iv} (n : am_N) (hk : kd n = some (.inl 8)) (f : am_N) (hf : kd f = some (.inl 3)) (w : Int32) : am_Met l mX2_spreads (am_rm 0 0 0) [am_P n, am_P f, am_I w] kd rv iv (am_ret (some (am_I 0)) kd rv iv) := by
  refine am_Met.of (by decide) (Nat.le_of_ble_eq_true rfl) rfl ?_
  refine A_iconst (pc := 0) (0) dX2_spreads_0 (by decide) ?_
  exact A_iretE (pc := 1) dX2_spreads_1 rfl (Nat.zero_le _) (Nat.zero_le _) (rfl) (rfl)
set_option maxRecDepth 20000 in
theorem s_s0_0 (l : Launch) {kd : am_kd} {rv : am_rv} {iv : am_iv} (n : am_N) (hk : kd n = some (.inl 0)) (f : am_N) (hf : kd f = some (.inl 3)) (w : Int32) : am_Met l mX2_spreads (am_rm 0 0 0) [am_P n, am_P f, am_I w] kd rv iv (am_ret (some (am_I 0)) kd rv iv) := by
  refine am_Met.of (by decide) (Nat.le_of_ble_eq_true rfl) rfl ?_
  refine A_iconst (pc := 0) (0) dX2_spreads_0 (by decide) ?_
  exact A_iretE (pc := 1) dX2_spreads_1 rfl (Nat.zero_le _) (Nat.zero_le _) (rfl) (rfl)
set_option maxRecDepth 20000 in
theorem s_s0_9 (l : Launch) {kd : am_kd} {rv : am_rv} {iv : am_iv} (n : am_N) (hk : kd n = some (.inl 9)) (f : am_N) (hf : kd f = some (.inl 3)) (w : Int32) : am_Met l mX2_spreads (am_rm 0 0 0) [am_P n, am_P f, am_I w] kd rv iv (am_ret (some (am_I 0)) kd rv iv) := by
  refine am_Met.of (by decide) (Nat.le_of_ble_eq_true rfl) rfl ?_
  refine A_iconst (pc := 0) (0) dX2_spreads_0 (by decide) ?_
  exact A_iretE (pc := 1) dX2_spreads_1 rfl (Nat.zero_le _) (Nat.zero_le _) (rfl) (rfl)
set_option maxRecDepth 20000 in
theorem s_l0_2 (l : Launch) {kd : am_kd} {rv : am_rv} {iv : am_iv} (n : am_N) (hk : kd n = some (.inl 2)) (f : am_N) (hf : kd f = some (.inl 3)) (w : Int32) : am_Met l mX2_lifts (am_rm 0 0 0) [am_P n, am_P f, am_I w] kd rv iv (am_ret (some (am_I 0)) kd rv iv) := by
  refine am_Met.of (by decide) (Nat.le_of_ble_eq_true rfl) rfl ?_
  refine A_iconst (pc := 0) (0) dX2_lifts_0 (by decide) ?_
  exact A_iretE (pc := 1) dX2_lifts_1 rfl (Nat.zero_le _) (Nat.zero_le _) (rfl) (rfl)
set_option maxRecDepth 20000 in
theorem s_l0_1 (l : Launch) {kd : am_kd} {rv : am_rv} {iv : am_iv} (n : am_N) (hk : kd n = some (.inl 1)) (f : am_N) (hf : kd f = some (.inl 3)) (w : Int32) : am_Met l mX2_lifts (am_rm 0 0 0) [am_P n, am_P f, am_I w] kd rv iv (am_ret (some (am_I 0)) kd rv iv) := by
  refine am_Met.of (by decide) (Nat.le_of_ble_eq_true rfl) rfl ?_
  refine A_iconst (pc := 0) (0) dX2_lifts_0 (by decide) ?_
  exact A_iretE (pc := 1) dX2_lifts_1 rfl (Nat.zero_le _) (Nat.zero_le _) (rfl) (rfl)
set_option maxRecDepth 20000 in
theorem s_l0_8 (l : Launch) {kd : am_kd} {rv : am_rv} {iv : am_iv} (n : am_N) (hk : kd n = some (.inl 8)) (f : am_N) (hf : kd f = some (.inl 3)) (w : Int32) : am_Met l mX2_lifts (am_rm 0 0 0) [am_P n, am_P f, am_I w] kd rv iv (am_ret (some (am_I 0)) kd rv iv) := by
  refine am_Met.of (by decide) (Nat.le_of_ble_eq_true rfl) rfl ?_
  refine A_iconst (pc := 0) (0) dX2_lifts_0 (by decide) ?_
  exact A_iretE (pc := 1) dX2_lifts_1 rfl (Nat.zero_le _) (Nat.zero_le _) (rfl) (rfl)
set_option maxRecDepth 20000 in
theorem s_l0_0 (l : Launch) {kd : am_kd} {rv : am_rv} {iv : am_iv} (n : am_N) (hk : kd n = some (.inl 0)) (f : am_N) (hf : kd f = some (.inl 3)) (w : Int32) : am_Met l mX2_lifts (am_rm 0 0 0) [am_P n, am_P f, am_I w] kd rv iv (am_ret (some (am_I 0)) kd rv iv) := by
  refine am_Met.of (by decide) (Nat.le_of_ble_eq_true rfl) rfl ?_
  refine A_iconst (pc := 0) (0) dX2_lifts_0 (by decide) ?_
  exact A_iretE (pc := 1) dX2_lifts_1 rfl (Nat.zero_le _) (Nat.zero_le _) (rfl) (rfl)
set_option maxRecDepth 20000 in
theorem s_l0_9 (l : Launch) {kd : am_kd} {rv : am_rv} {iv : am_iv} (n : am_N) (hk : kd n = some (.inl 9)) (f : am_N) (hf : kd f = some (.inl 3)) (w : Int32) : am_Met l mX2_lifts (am_rm 0 0 0) [am_P n, am_P f, am_I w] kd rv iv (am_ret (some (am_I 0)) kd rv iv) := by
  refine am_Met.of (by decide) (Nat.le_of_ble_eq_true rfl) rfl ?_
  refine A_iconst (pc := 0) (0) dX2_lifts_0 (by decide) ?_
  exact A_iretE (pc := 1) dX2_lifts_1 rfl (Nat.zero_le _) (Nat.zero_le _) (rfl) (rfl)
set_option maxRecDepth 20000 in
theorem s_l0_10 (l : Launch) {kd : am_kd} {rv : am_rv} {iv : am_iv} (n : am_N) (hk : kd n = some (.inl 10)) (f : am_N) (hf : kd f = some (.inl 3)) (w : Int32) : am_Met l mX2_lifts (am_rm 0 0 0) [am_P n, am_P f, am_I w] kd rv iv (am_ret (some (am_I 0)) kd rv iv) := by
  refine am_Met.of (by decide) (Nat.le_of_ble_eq_true rfl) rfl ?_
  refine A_iconst (pc := 0) (0) dX2_lifts_0 (by decide) ?_
  exact A_iretE (pc := 1) dX2_lifts_1 rfl (Nat.zero_le _) (Nat.zero_le _) (rfl) (rfl)
set_option maxRecDepth 20000 in
theorem s_s5_10 (l : Launch) {kd : am_kd} {rv : am_rv} {iv : am_iv} (n : am_N) (hk : kd n = some (.inl 10)) (f : am_N) (hf : kd f = some (.inl 3)) (w : Int32) : am_Met l mX10_spreads (am_rm 1 0 0) [am_P n, am_P f, am_I w] kd rv iv (am_ret (some (am_I (lw_s5 (iv n 2) (iv f) w))) kd rv iv) := by
  refine am_Met.of (by decide) (Nat.le_of_ble_eq_true rfl) rfl ?_
  refine A_iload_n (pc := 0) (i := 2) dX10_spreads_0 rfl rfl ?_
  refine A_aload_n (pc := 1) (i := 1) dX10_spreads_1 rfl rfl ?_
  refine A_geti (pc := 2) 1 fl_X10_7_3 hf rfl dX10_spreads_2 ?_
  refine A_isub (pc := 5) dX10_spreads_5 ?_
  refine A_mabs (pc := 6) cm_X10_13 (Nat.le_of_ble_eq_true rfl) (Nat.le_of_ble_eq_true rfl) (Nat.zero_le _) (Nat.zero_le _) dX10_spreads_6 ?_
  refine A_ist3 (pc := 9) dX10_spreads_9 (Nat.le_of_ble_eq_true rfl) rfl ?_
  refine A_iload_n (pc := 10) (i := 3) dX10_spreads_10 rfl rfl ?_
  refine A_bipush (pc := 11) (100) dX10_spreads_11 (by decide) ?_
  refine A_icmpge (pc := 13) 35 dX10_spreads_13 (by decide) (fun hb13 => ?_) (fun hb13 => ?_)
  · refine A_iconst (pc := 35) (0) dX10_spreads_35 (by decide) ?_
    exact A_iretE (pc := 36) dX10_spreads_36 rfl (Nat.zero_le _) (Nat.zero_le _) (by first | exact (if_neg (Int32.not_lt.mpr hb13)).symm | exact (if_neg (sr_abs_ne _)).trans (if_pos (Int32.not_le.mp hb13)).symm) (rfl)
  · refine A_aload_n (pc := 16) (i := 0) dX10_spreads_16 rfl rfl ?_
    refine A_geti (pc := 17) 2 fl_X10_19_10 hk rfl dX10_spreads_17 ?_
    refine A_aload_n (pc := 20) (i := 1) dX10_spreads_20 rfl rfl ?_
    refine A_geti (pc := 21) 4 fl_X10_24_3 hf rfl dX10_spreads_21 ?_
    refine A_imul (pc := 24) dX10_spreads_24 ?_
    refine A_iload_n (pc := 25) (i := 3) dX10_spreads_25 rfl rfl ?_
    refine A_bipush (pc := 26) (10) dX10_spreads_26 (by decide) ?_
    refine A_iadd (pc := 28) dX10_spreads_28 ?_
    refine A_callN1 (pc := 29) cn_X10_27 (s_quotient l _ _) rfl rfl (Nat.le_of_ble_eq_true rfl) ⟨(Nat.le_of_ble_eq_true rfl), (Nat.le_of_ble_eq_true rfl)⟩ ⟨Nat.zero_le _, Nat.zero_le _⟩ dX10_spreads_29 ?_
    refine A_goto (pc := 32) 36 dX10_spreads_32 (by decide) ?_
    exact A_iretE (pc := 36) dX10_spreads_36 rfl (Nat.zero_le _) (Nat.zero_le _) (by first | exact (if_neg (Int32.not_lt.mpr hb13)).symm | exact (if_neg (sr_abs_ne _)).trans (if_pos (Int32.not_le.mp hb13)).symm) (rfl)
set_option maxRecDepth 20000 in
theorem s_s5_6 (l : Launch) {kd : am_kd} {rv : am_rv} {iv : am_iv} (n : am_N) (hk : kd n = some (.inl 6)) (f : am_N) (hf : kd f = some (.inl 3)) (w : Int32) : am_Met l mX10_spreads (am_rm 1 0 0) [am_P n, am_P f, am_I w] kd rv iv (am_ret (some (am_I (lw_s5 (iv n 2) (iv f) w))) kd rv iv) := by
  refine am_Met.of (by decide) (Nat.le_of_ble_eq_true rfl) rfl ?_
  refine A_iload_n (pc := 0) (i := 2) dX10_spreads_0 rfl rfl ?_
  refine A_aload_n (pc := 1) (i := 1) dX10_spreads_1 rfl rfl ?_
  refine A_geti (pc := 2) 1 fl_X10_7_3 hf rfl dX10_spreads_2 ?_
  refine A_isub (pc := 5) dX10_spreads_5 ?_
  refine A_mabs (pc := 6) cm_X10_13 (Nat.le_of_ble_eq_true rfl) (Nat.le_of_ble_eq_true rfl) (Nat.zero_le _) (Nat.zero_le _) dX10_spreads_6 ?_
  refine A_ist3 (pc := 9) dX10_spreads_9 (Nat.le_of_ble_eq_true rfl) rfl ?_
  refine A_iload_n (pc := 10) (i := 3) dX10_spreads_10 rfl rfl ?_
  refine A_bipush (pc := 11) (100) dX10_spreads_11 (by decide) ?_
  refine A_icmpge (pc := 13) 35 dX10_spreads_13 (by decide) (fun hb13 => ?_) (fun hb13 => ?_)
  · refine A_iconst (pc := 35) (0) dX10_spreads_35 (by decide) ?_
    exact A_iretE (pc := 36) dX10_spreads_36 rfl (Nat.zero_le _) (Nat.zero_le _) (by first | exact (if_neg (Int32.not_lt.mpr hb13)).symm | exact (if_neg (sr_abs_ne _)).trans (if_pos (Int32.not_le.mp hb13)).symm) (rfl)
  · refine A_aload_n (pc := 16) (i := 0) dX10_spreads_16 rfl rfl ?_
    refine A_geti (pc := 17) 2 fl_X10_19_6 hk rfl dX10_spreads_17 ?_
    refine A_aload_n (pc := 20) (i := 1) dX10_spreads_20 rfl rfl ?_
    refine A_geti (pc := 21) 4 fl_X10_24_3 hf rfl dX10_spreads_21 ?_
    refine A_imul (pc := 24) dX10_spreads_24 ?_
    refine A_iload_n (pc := 25) (i := 3) dX10_spreads_25 rfl rfl ?_
    refine A_bipush (pc := 26) (10) dX10_spreads_26 (by decide) ?_
    refine A_iadd (pc := 28) dX10_spreads_28 ?_
    refine A_callN1 (pc := 29) cn_X10_27 (s_quotient l _ _) rfl rfl (Nat.le_of_ble_eq_true rfl) ⟨(Nat.le_of_ble_eq_true rfl), (Nat.le_of_ble_eq_true rfl)⟩ ⟨Nat.zero_le _, Nat.zero_le _⟩ dX10_spreads_29 ?_
    refine A_goto (pc := 32) 36 dX10_spreads_32 (by decide) ?_
    exact A_iretE (pc := 36) dX10_spreads_36 rfl (Nat.zero_le _) (Nat.zero_le _) (by first | exact (if_neg (Int32.not_lt.mpr hb13)).symm | exact (if_neg (sr_abs_ne _)).trans (if_pos (Int32.not_le.mp hb13)).symm) (rfl)
set_option maxRecDepth 20000 in
theorem s_s6 (l : Launch) {kd : am_kd} {rv : am_rv} {iv : am_iv} (n : am_N) (hk : kd n = some (.inl 6)) (f : am_N) (hf : kd f = some (.inl 3)) (w : Int32) : am_Met l mX6_spreads (am_rm 2 0 0) [am_P n, am_P f, am_I w] kd rv iv (am_ret (some (am_I (lw_s5 (iv n 2) (iv f) w / 2))) kd rv iv) := by
  refine am_Met.of (by decide) (Nat.le_of_ble_eq_true rfl) rfl ?_
  refine A_aload_n (pc := 0) (i := 0) dX6_spreads_0 rfl rfl ?_
  refine A_aload_n (pc := 1) (i := 1) dX6_spreads_1 rfl rfl ?_
  refine A_iload_n (pc := 2) (i := 2) dX6_spreads_2 rfl rfl ?_
  refine A_callP1 (pc := 3) cp_X6_9 (s_s5_6 l n hk f hf w) hk rfl rfl rfl (Nat.le_of_ble_eq_true rfl) ⟨(Nat.le_of_ble_eq_true rfl), (Nat.le_of_ble_eq_true rfl)⟩ ⟨Nat.zero_le _, Nat.zero_le _⟩ dX6_spreads_3 ?_
  refine A_iconst (pc := 6) (2) dX6_spreads_6 (by decide) ?_
  refine A_idiv (pc := 7) dX6_spreads_7 (by decide) ?_
  exact A_iretE (pc := 8) dX6_spreads_8 rfl (Nat.zero_le _) (Nat.zero_le _) (rfl) (rfl)
set_option maxRecDepth 20000 in
theorem s_l6 (l : Launch) {kd : am_kd} {rv : am_rv} {iv : am_iv} (n : am_N) (hk : kd n = some (.inl 6)) (f : am_N) (hf : kd f = some (.inl 3)) (w : Int32) : am_Met l mX6_lifts (am_rm 3 0 0) [am_P n, am_P f, am_I w] kd rv iv (am_ret (some (am_I (lw_s5 (iv n 2) (iv f) w / 2))) kd rv iv) := by
  refine am_Met.of (by decide) (Nat.le_of_ble_eq_true rfl) rfl ?_
  refine A_aload_n (pc := 0) (i := 0) dX6_lifts_0 rfl rfl ?_
  refine A_aload_n (pc := 1) (i := 1) dX6_lifts_1 rfl rfl ?_
  refine A_iload_n (pc := 2) (i := 2) dX6_lifts_2 rfl rfl ?_
  refine A_callV1 (pc := 3) cv_X6_13 (s_s6 l n hk f hf w) hk rfl rfl rfl rfl (Nat.le_of_ble_eq_true rfl) ⟨(Nat.le_of_ble_eq_true rfl), (Nat.le_of_ble_eq_true rfl)⟩ ⟨Nat.zero_le _, Nat.zero_le _⟩ dX6_lifts_3 ?_
  exact A_iretE (pc := 6) dX6_lifts_6 rfl (Nat.zero_le _) (Nat.zero_le _) (rfl) (rfl)
set_option maxRecDepth 20000 in
theorem s_e0_2 (l : Launch) {kd : am_kd} {rv : am_rv} {iv : am_iv} (n : am_N) (hk : kd n = some (.inl 2)) (f g : am_N) (hf : kd f = some (.inl 3)) (hg : kd g = some (.inl 3)) : am_Met l mX2_endsBy (am_rm 0 0 0) [am_P n, am_P f, am_P g] kd rv iv (am_ret (some (am_I (rg_bit False))) kd rv iv) := by
  refine am_Met.of (by decide) (Nat.le_of_ble_eq_true rfl) rfl ?_
  refine A_iconst (pc := 0) (0) dX2_endsBy_0 (by decide) ?_
  exact A_zretE (pc := 1) dX2_endsBy_1 rfl (by first | exact A_zn0 | exact A_zn1 | exact A_znif _) (Nat.zero_le _) (Nat.zero_le _) ((rg_bit_f (fun h => h)).symm) (rfl)
set_option maxRecDepth 20000 in
theorem s_e0_8 (l : Launch) {kd : am_kd} {rv : am_rv} {iv : am_iv} (n : am_N) (hk : kd n = some (.inl 8)) (f g : am_N) (hf : kd f = some (.inl 3)) (hg : kd g = some (.inl 3)) : am_Met l mX2_endsBy (am_rm 0 0 0) [am_P n, am_P f, am_P g] kd rv iv (am_ret (some (am_I (rg_bit False))) kd rv iv) := by
  refine am_Met.of (by decide) (Nat.le_of_ble_eq_true rfl) rfl ?_
  refine A_iconst (pc := 0) (0) dX2_endsBy_0 (by decide) ?_
  exact A_zretE (pc := 1) dX2_endsBy_1 rfl (by first | exact A_zn0 | exact A_zn1 | exact A_znif _) (Nat.zero_le _) (Nat.zero_le _) ((rg_bit_f (fun h => h)).symm) (rfl)
set_option maxRecDepth 20000 in
theorem s_e0_0 (l : Launch) {kd : am_kd} {rv : am_rv} {iv : am_iv} (n : am_N) (hk : kd n = some (.inl 0)) (f g : am_N) (hf : kd f = some (.inl 3)) (hg : kd g = some (.inl 3)) : am_Met l mX2_endsBy (am_rm 0 0 0) [am_P n, am_P f, am_P g] kd rv iv (am_ret (some (am_I (rg_bit False))) kd rv iv) := by
  refine am_Met.of (by decide) (Nat.le_of_ble_eq_true rfl) rfl ?_
  refine A_iconst (pc := 0) (0) dX2_endsBy_0 (by decide) ?_
  exact A_zretE (pc := 1) dX2_endsBy_1 rfl (by first | exact A_zn0 | exact A_zn1 | exact A_znif _) (Nat.zero_le _) (Nat.zero_le _) ((rg_bit_f (fun h => h)).symm) (rfl)
set_option maxRecDepth 20000 in
theorem s_e0_10 (l : Launch) {kd : am_kd} {rv : am_rv} {iv : am_iv} (n : am_N) (hk : kd n = some (.inl 10)) (f g : am_N) (hf : kd f = some (.inl 3)) (hg : kd g = some (.inl 3)) : am_Met l mX2_endsBy (am_rm 0 0 0) [am_P n, am_P f, am_P g] kd rv iv (am_ret (some (am_I (rg_bit False))) kd rv iv) := by
  refine am_Met.of (by decide) (Nat.le_of_ble_eq_true rfl) rfl ?_
  refine A_iconst (pc := 0) (0) dX2_endsBy_0 (by decide) ?_
  exact A_zretE (pc := 1) dX2_endsBy_1 rfl (by first | exact A_zn0 | exact A_zn1 | exact A_znif _) (Nat.zero_le _) (Nat.zero_le _) ((rg_bit_f (fun h => h)).symm) (rfl)
set_option maxRecDepth 20000 in
theorem s_e0_6 (l : Launch) {kd : am_kd} {rv : am_rv} {iv : am_iv} (n : am_N) (hk : kd n = some (.inl 6)) (f g : am_N) (hf : kd f = some (.inl 3)) (hg : kd g = some (.inl 3)) : am_Met l mX2_endsBy (am_rm 0 0 0) [am_P n, am_P f, am_P g] kd rv iv (am_ret (some (am_I (rg_bit False))) kd rv iv) := by
  refine am_Met.of (by decide) (Nat.le_of_ble_eq_true rfl) rfl ?_
  refine A_iconst (pc := 0) (0) dX2_endsBy_0 (by decide) ?_
  exact A_zretE (pc := 1) dX2_endsBy_1 rfl (by first | exact A_zn0 | exact A_zn1 | exact A_znif _) (Nat.zero_le _) (Nat.zero_le _) ((rg_bit_f (fun h => h)).symm) (rfl)
set_option maxRecDepth 20000 in
theorem s_e2 (l : Launch) {kd : am_kd} {rv : am_rv} {iv : am_iv} (n : am_N) (hk : kd n = some (.inl 1)) (f g : am_N) (hf : kd f = some (.inl 3)) (hg : kd g = some (.inl 3)) : am_Met l mX1_endsBy (am_rm 2 0 0) [am_P n, am_P f, am_P g] kd rv iv (am_ret (some (am_I (rg_bit (rg_near (iv f) (iv g) ∧ rg_gap (iv f) (iv g) ≤ iv n 2 ∧ rg_behind (iv f) (iv g))))) kd rv iv) := by
  refine am_Met.of (by decide) (Nat.le_of_ble_eq_true rfl) rfl ?_
  refine A_aload_n (pc := 0) (i := 1) dX1_endsBy_0 rfl rfl ?_
  refine A_aload_n (pc := 1) (i := 2) dX1_endsBy_1 rfl rfl ?_
  refine A_callV1 (pc := 2) cv_X1_9 (s_isNear l f g hf hg) hf rfl rfl rfl rfl (Nat.le_of_ble_eq_true rfl) ⟨(Nat.le_of_ble_eq_true rfl), (Nat.le_of_ble_eq_true rfl)⟩ ⟨Nat.zero_le _, Nat.zero_le _⟩ dX1_endsBy_2 ?_
  refine A_ifeq (pc := 5) 32 dX1_endsBy_5 (by decide) (fun hb5 => ?_) (fun hb5 => ?_)
  · refine A_iconst (pc := 32) (0) dX1_endsBy_32 (by decide) ?_
    exact A_zretE (pc := 33) dX1_endsBy_33 rfl (by first | exact A_zn0 | exact A_zn1 | exact A_znif _) (Nat.zero_le _) (Nat.zero_le _) (by (try simp only [rg_bit_0, Classical.not_not] at *); first | (refine (rg_bit_t ?_).symm; simp_all [fa_le, fa_lt]; done) | (refine (rg_bit_f ?_).symm; simp_all [fa_le, fa_lt]; done) | (refine (rg_bit_f ?_).symm; simp_all [fa_le, fa_lt]; omega)) (rfl)
  · refine A_aload_n (pc := 8) (i := 1) dX1_endsBy_8 rfl rfl ?_
    refine A_aload_n (pc := 9) (i := 2) dX1_endsBy_9 rfl rfl ?_
    refine A_callV1 (pc := 10) cv_X1_15 (s_gap l f g hf hg) hf rfl rfl rfl rfl (Nat.le_of_ble_eq_true rfl) ⟨(Nat.le_of_ble_eq_true rfl), (Nat.le_of_ble_eq_true rfl)⟩ ⟨Nat.zero_le _, Nat.zero_le _⟩ dX1_endsBy_10 ?_
    refine A_aload_n (pc := 13) (i := 0) dX1_endsBy_13 rfl rfl ?_
    refine A_geti (pc := 14) 2 fl_X1_19_1 hk rfl dX1_endsBy_14 ?_
    refine A_icmpgt (pc := 17) 32 dX1_endsBy_17 (by decide) (fun hb17 => ?_) (fun hb17 => ?_)
    · refine A_iconst (pc := 32) (0) dX1_endsBy_32 (by decide) ?_
      exact A_zretE (pc := 33) dX1_endsBy_33 rfl (by first | exact A_zn0 | exact A_zn1 | exact A_znif _) (Nat.zero_le _) (Nat.zero_le _) (by (try simp only [rg_bit_0, Classical.not_not] at *); first | (refine (rg_bit_t ?_).symm; simp_all [fa_le, fa_lt]; done) | (refine (rg_bit_f ?_).symm; simp_all [fa_le, fa_lt]; done) | (refine (rg_bit_f ?_).symm; simp_all [fa_le, fa_lt]; omega)) (rfl)
    · refine A_aload_n (pc := 20) (i := 1) dX1_endsBy_20 rfl rfl ?_
      refine A_aload_n (pc := 21) (i := 2) dX1_endsBy_21 rfl rfl ?_
      refine A_callV1 (pc := 22) cv_X1_25 (s_isBehind l f g hf hg) hf rfl rfl rfl rfl (Nat.le_of_ble_eq_true rfl) ⟨(Nat.le_of_ble_eq_true rfl), (Nat.le_of_ble_eq_true rfl)⟩ ⟨Nat.zero_le _, Nat.zero_le _⟩ dX1_endsBy_22 ?_
      refine A_ifeq (pc := 25) 32 dX1_endsBy_25 (by decide) (fun hb25 => ?_) (fun hb25 => ?_)
      · refine A_iconst (pc := 32) (0) dX1_endsBy_32 (by decide) ?_
        exact A_zretE (pc := 33) dX1_endsBy_33 rfl (by first | exact A_zn0 | exact A_zn1 | exact A_znif _) (Nat.zero_le _) (Nat.zero_le _) (by (try simp only [rg_bit_0, Classical.not_not] at *); first | (refine (rg_bit_t ?_).symm; simp_all [fa_le, fa_lt]; done) | (refine (rg_bit_f ?_).symm; simp_all [fa_le, fa_lt]; done) | (refine (rg_bit_f ?_).symm; simp_all [fa_le, fa_lt]; omega)) (rfl)
      · refine A_iconst (pc := 28) (1) dX1_endsBy_28 (by decide) ?_
        refine A_goto (pc := 29) 33 dX1_endsBy_29 (by decide) ?_
        exact A_zretE (pc := 33) dX1_endsBy_33 rfl (by first | exact A_zn0 | exact A_zn1 | exact A_znif _) (Nat.zero_le _) (Nat.zero_le _) (by (try simp only [rg_bit_0, Classical.not_not] at *); first | (refine (rg_bit_t ?_).symm; simp_all [fa_le, fa_lt]; done) | (refine (rg_bit_f ?_).symm; simp_all [fa_le, fa_lt]; done) | (refine (rg_bit_f ?_).symm; simp_all [fa_le, fa_lt]; omega)) (rfl)
set_option maxRecDepth 20000 in
theorem s_e4 (l : Launch) {kd : am_kd} {rv : am_rv} {iv : am_iv} (n : am_N) (hk : kd n = some (.inl 9)) (f g : am_N) (hf : kd f = some (.inl 3)) (hg : kd g = some (.inl 3)) : am_Met l mX9_endsBy (am_rm 2 0 0) [am_P n, am_P f, am_P g] kd rv iv (am_ret (some (am_I (rg_bit (150 ≤ iv f 5 ∧ rg_near (iv f) (iv g))))) kd rv iv) := by
  refine am_Met.of (by decide) (Nat.le_of_ble_eq_true rfl) rfl ?_
  refine A_aload_n (pc := 0) (i := 1) dX9_endsBy_0 rfl rfl ?_
  refine A_geti (pc := 1) 5 fl_X9_9_3 hf rfl dX9_endsBy_1 ?_
  refine A_sipush (pc := 4) (150) dX9_endsBy_4 (by decide) ?_
  refine A_icmplt (pc := 7) 22 dX9_endsBy_7 (by decide) (fun hb7 => ?_) (fun hb7 => ?_)
  · refine A_iconst (pc := 22) (0) dX9_endsBy_22 (by decide) ?_
    exact A_zretE (pc := 23) dX9_endsBy_23 rfl (by first | exact A_zn0 | exact A_zn1 | exact A_znif _) (Nat.zero_le _) (Nat.zero_le _) (by (try simp only [rg_bit_0, Classical.not_not] at *); first | (refine (rg_bit_t ?_).symm; simp_all [fa_le, fa_lt]; done) | (refine (rg_bit_f ?_).symm; simp_all [fa_le, fa_lt]; done) | (refine (rg_bit_f ?_).symm; simp_all [fa_le, fa_lt]; omega)) (rfl)
  · refine A_aload_n (pc := 10) (i := 1) dX9_endsBy_10 rfl rfl ?_
    refine A_aload_n (pc := 11) (i := 2) dX9_endsBy_11 rfl rfl ?_
    refine A_callV1 (pc := 12) cv_X9_15 (s_isNear l f g hf hg) hf rfl rfl rfl rfl (Nat.le_of_ble_eq_true rfl) ⟨(Nat.le_of_ble_eq_true rfl), (Nat.le_of_ble_eq_true rfl)⟩ ⟨Nat.zero_le _, Nat.zero_le _⟩ dX9_endsBy_12 ?_
    refine A_ifeq (pc := 15) 22 dX9_endsBy_15 (by decide) (fun hb15 => ?_) (fun hb15 => ?_)
    · refine A_iconst (pc := 22) (0) dX9_endsBy_22 (by decide) ?_
      exact A_zretE (pc := 23) dX9_endsBy_23 rfl (by first | exact A_zn0 | exact A_zn1 | exact A_znif _) (Nat.zero_le _) (Nat.zero_le _) (by (try simp only [rg_bit_0, Classical.not_not] at *); first | (refine (rg_bit_t ?_).symm; simp_all [fa_le, fa_lt]; done) | (refine (rg_bit_f ?_).symm; simp_all [fa_le, fa_lt]; done) | (refine (rg_bit_f ?_).symm; simp_all [fa_le, fa_lt]; omega)) (rfl)
    · refine A_iconst (pc := 18) (1) dX9_endsBy_18 (by decide) ?_
      refine A_goto (pc := 19) 23 dX9_endsBy_19 (by decide) ?_
      exact A_zretE (pc := 23) dX9_endsBy_23 rfl (by first | exact A_zn0 | exact A_zn1 | exact A_znif _) (Nat.zero_le _) (Nat.zero_le _) (by (try simp only [rg_bit_0, Classical.not_not] at *); first | (refine (rg_bit_t ?_).symm; simp_all [fa_le, fa_lt]; done) | (refine (rg_bit_f ?_).symm; simp_all [fa_le, fa_lt]; done) | (refine (rg_bit_f ?_).symm; simp_all [fa_le, fa_lt]; omega)) (rfl)
set_option maxRecDepth 20000 in
theorem s_li_2 (l : Launch) {kd : am_kd} {rv : am_rv} {iv : am_iv} (n : am_N) (hk : kd n = some (.inl 2)) (k j m : Int32) : am_Met l mX2_init (am_rm 1 0 0) [am_P n, am_I k, am_I j, am_I m] kd rv iv (am_ret none kd rv (am_ui (am_ui (am_ui iv n 0 k) n 1 j) n 2 m)) := by
  refine am_Met.of (by decide) (Nat.le_of_ble_eq_true rfl) rfl ?_
  refine A_aload_n (pc := 0) (i := 0) dX2_init_0 rfl rfl ?_
  refine A_objInit (pc := 1) co_X2_1 co_inst co_code (Nat.le_of_ble_eq_true rfl) (Nat.le_of_ble_eq_true rfl) dX2_init_1 ?_
  refine A_aload_n (pc := 4) (i := 0) dX2_init_4 rfl rfl ?_
  refine A_iload_n (pc := 5) (i := 1) dX2_init_5 rfl rfl ?_
  refine A_puti (pc := 6) 0 fl_X2_7_2 hk rfl (by decide +kernel) rfl rfl dX2_init_6 ?_
  refine A_aload_n (pc := 9) (i := 0) dX2_init_9 rfl rfl ?_
  refine A_iload_n (pc := 10) (i := 2) dX2_init_10 rfl rfl ?_
  refine A_puti (pc := 11) 1 fl_X2_13_2 hk rfl (by decide +kernel) rfl rfl dX2_init_11 ?_
  refine A_aload_n (pc := 14) (i := 0) dX2_init_14 rfl rfl ?_
  refine A_iload_n (pc := 15) (i := 3) dX2_init_15 rfl rfl ?_
  refine A_puti (pc := 16) 2 fl_X2_16_2 hk rfl (by decide +kernel) rfl rfl dX2_init_16 ?_
  exact A_vretE (pc := 19) dX2_init_19 rfl (Nat.zero_le _) (Nat.zero_le _) (rfl)
set_option maxRecDepth 20000 in
theorem s_li_8 (l : Launch) {kd : am_kd} {rv : am_rv} {iv : am_iv} (n : am_N) (hk : kd n = some (.inl 8)) (k j m : Int32) : am_Met l mX2_init (am_rm 1 0 0) [am_P n, am_I k, am_I j, am_I m] kd rv iv (am_ret none kd rv (am_ui (am_ui (am_ui iv n 0 k) n 1 j) n 2 m)) := by
  refine am_Met.of (by decide) (Nat.le_of_ble_eq_true rfl) rfl ?_
  refine A_aload_n (pc := 0) (i := 0) dX2_init_0 rfl rfl ?_
  refine A_objInit (pc := 1) co_X2_1 co_inst co_code (Nat.le_of_ble_eq_true rfl) (Nat.le_of_ble_eq_true rfl) dX2_init_1 ?_
  refine A_aload_n (pc := 4) (i := 0) dX2_init_4 rfl rfl ?_
  refine A_iload_n (pc := 5) (i := 1) dX2_init_5 rfl rfl ?_
  refine A_puti (pc := 6) 0 fl_X2_7_8 hk rfl (by decide +kernel) rfl rfl dX2_init_6 ?_
  refine A_aload_n (pc := 9) (i := 0) dX2_init_9 rfl rfl ?_
  refine A_iload_n (pc := 10) (i := 2) dX2_init_10 rfl rfl ?_
  refine A_puti (pc := 11) 1 fl_X2_13_8 hk rfl (by decide +kernel) rfl rfl dX2_init_11 ?_
  refine A_aload_n (pc := 14) (i := 0) dX2_init_14 rfl rfl ?_
  refine A_iload_n (pc := 15) (i := 3) dX2_init_15 rfl rfl ?_
  refine A_puti (pc := 16) 2 fl_X2_16_8 hk rfl (by decide +kernel) rfl rfl dX2_init_16 ?_
  exact A_vretE (pc := 19) dX2_init_19 rfl (Nat.zero_le _) (Nat.zero_le _) (rfl)
set_option maxRecDepth 20000 in
theorem s_li_1 (l : Launch) {kd : am_kd} {rv : am_rv} {iv : am_iv} (n : am_N) (hk : kd n = some (.inl 1)) (k j m : Int32) : am_Met l mX2_init (am_rm 1 0 0) [am_P n, am_I k, am_I j, am_I m] kd rv iv (am_ret none kd rv (am_ui (am_ui (am_ui iv n 0 k) n 1 j) n 2 m)) := by
  refine am_Met.of (by decide) (Nat.le_of_ble_eq_true rfl) rfl ?_
  refine A_aload_n (pc := 0) (i := 0) dX2_init_0 rfl rfl ?_
  refine A_objInit (pc := 1) co_X2_1 co_inst co_code (Nat.le_of_ble_eq_true rfl) (Nat.le_of_ble_eq_true rfl) dX2_init_1 ?_
  refine A_aload_n (pc := 4) (i := 0) dX2_init_4 rfl rfl ?_
  refine A_iload_n (pc := 5) (i := 1) dX2_init_5 rfl rfl ?_
  refine A_puti (pc := 6) 0 fl_X2_7_1 hk rfl (by decide +kernel) rfl rfl dX2_init_6 ?_
  refine A_aload_n (pc := 9) (i := 0) dX2_init_9 rfl rfl ?_
  refine A_iload_n (pc := 10) (i := 2) dX2_init_10 rfl rfl ?_
  refine A_puti (pc := 11) 1 fl_X2_13_1 hk rfl (by decide +kernel) rfl rfl dX2_init_11 ?_
  refine A_aload_n (pc := 14) (i := 0) dX2_init_14 rfl rfl ?_
  refine A_iload_n (pc := 15) (i := 3) dX2_init_15 rfl rfl ?_
  refine A_puti (pc := 16) 2 fl_X2_16_1 hk rfl (by decide +kernel) rfl rfl dX2_init_16 ?_
  exact A_vretE (pc := 19) dX2_init_19 rfl (Nat.zero_le _) (Nat.zero_le _) (rfl)
set_option maxRecDepth 20000 in
theorem s_li_0 (l : Launch) {kd : am_kd} {rv : am_rv} {iv : am_iv} (n : am_N) (hk : kd n = some (.inl 0)) (k j m : Int32) : am_Met l mX2_init (am_rm 1 0 0) [am_P n, am_I k, am_I j, am_I m] kd rv iv (am_ret none kd rv (am_ui (am_ui (am_ui iv n 0 k) n 1 j) n 2 m)) := by
  refine am_Met.of (by decide) (Nat.le_of_ble_eq_true rfl) rfl ?_
  refine A_aload_n (pc := 0) (i := 0) dX2_init_0 rfl rfl ?_
  refine A_objInit (pc := 1) co_X2_1 co_inst co_code (Nat.le_of_ble_eq_true rfl) (Nat.le_of_ble_eq_true rfl) dX2_init_1 ?_
  refine A_aload_n (pc := 4) (i := 0) dX2_init_4 rfl rfl ?_
  refine A_iload_n (pc := 5) (i := 1) dX2_init_5 rfl rfl ?_
  refine A_puti (pc := 6) 0 fl_X2_7_0 hk rfl (by decide +kernel) rfl rfl dX2_init_6 ?_
  refine A_aload_n (pc := 9) (i := 0) dX2_init_9 rfl rfl ?_
  refine A_iload_n (pc := 10) (i := 2) dX2_init_10 rfl rfl ?_
  refine A_puti (pc := 11) 1 fl_X2_13_0 hk rfl (by decide +kernel) rfl rfl dX2_init_11 ?_
  refine A_aload_n (pc := 14) (i := 0) dX2_init_14 rfl rfl ?_
  refine A_iload_n (pc := 15) (i := 3) dX2_init_15 rfl rfl ?_
  refine A_puti (pc := 16) 2 fl_X2_16_0 hk rfl (by decide +kernel) rfl rfl dX2_init_16 ?_
  exact A_vretE (pc := 19) dX2_init_19 rfl (Nat.zero_le _) (Nat.zero_le _) (rfl)
set_option maxRecDepth 20000 in
theorem s_li_9 (l : Launch) {kd : am_kd} {rv : am_rv} {iv : am_iv} (n : am_N) (hk : kd n = some (.inl 9)) (k j m : Int32) : am_Met l mX2_init (am_rm 1 0 0) [am_P n, am_I k, am_I j, am_I m] kd rv iv (am_ret none kd rv (am_ui (am_ui (am_ui iv n 0 k) n 1 j) n 2 m)) := by
  refine am_Met.of (by decide) (Nat.le_of_ble_eq_true rfl) rfl ?_
  refine A_aload_n (pc := 0) (i := 0) dX2_init_0 rfl rfl ?_
  refine A_objInit (pc := 1) co_X2_1 co_inst co_code (Nat.le_of_ble_eq_true rfl) (Nat.le_of_ble_eq_true rfl) dX2_init_1 ?_
  refine A_aload_n (pc := 4) (i := 0) dX2_init_4 rfl rfl ?_
  refine A_iload_n (pc := 5) (i := 1) dX2_init_5 rfl rfl ?_
  refine A_puti (pc := 6) 0 fl_X2_7_9 hk rfl (by decide +kernel) rfl rfl dX2_init_6 ?_
  refine A_aload_n (pc := 9) (i := 0) dX2_init_9 rfl rfl ?_
  refine A_iload_n (pc := 10) (i := 2) dX2_init_10 rfl rfl ?_
  refine A_puti (pc := 11) 1 fl_X2_13_9 hk rfl (by decide +kernel) rfl rfl dX2_init_11 ?_
  refine A_aload_n (pc := 14) (i := 0) dX2_init_14 rfl rfl ?_
  refine A_iload_n (pc := 15) (i := 3) dX2_init_15 rfl rfl ?_
  refine A_puti (pc := 16) 2 fl_X2_16_9 hk rfl (by decide +kernel) rfl rfl dX2_init_16 ?_
  exact A_vretE (pc := 19) dX2_init_19 rfl (Nat.zero_le _) (Nat.zero_le _) (rfl)
set_option maxRecDepth 20000 in
theorem s_li_10 (l : Launch) {kd : am_kd} {rv : am_rv} {iv : am_iv} (n : am_N) (hk : kd n = some (.inl 10)) (k j m : Int32) : am_Met l mX2_init (am_rm 1 0 0) [am_P n, am_I k, am_I j, am_I m] kd rv iv (am_ret none kd rv (am_ui (am_ui (am_ui iv n 0 k) n 1 j) n 2 m)) := by
  refine am_Met.of (by decide) (Nat.le_of_ble_eq_true rfl) rfl ?_
  refine A_aload_n (pc := 0) (i := 0) dX2_init_0 rfl rfl ?_
  refine A_objInit (pc := 1) co_X2_1 co_inst co_code (Nat.le_of_ble_eq_true rfl) (Nat.le_of_ble_eq_true rfl) dX2_init_1 ?_
  refine A_aload_n (pc := 4) (i := 0) dX2_init_4 rfl rfl ?_
  refine A_iload_n (pc := 5) (i := 1) dX2_init_5 rfl rfl ?_
  refine A_puti (pc := 6) 0 fl_X2_7_10 hk rfl (by decide +kernel) rfl rfl dX2_init_6 ?_
  refine A_aload_n (pc := 9) (i := 0) dX2_init_9 rfl rfl ?_
  refine A_iload_n (pc := 10) (i := 2) dX2_init_10 rfl rfl ?_
  refine A_puti (pc := 11) 1 fl_X2_13_10 hk rfl (by decide +kernel) rfl rfl dX2_init_11 ?_
  refine A_aload_n (pc := 14) (i := 0) dX2_init_14 rfl rfl ?_
  refine A_iload_n (pc := 15) (i := 3) dX2_init_15 rfl rfl ?_
  refine A_puti (pc := 16) 2 fl_X2_16_10 hk rfl (by decide +kernel) rfl rfl dX2_init_16 ?_
  exact A_vretE (pc := 19) dX2_init_19 rfl (Nat.zero_le _) (Nat.zero_le _) (rfl)
set_option maxRecDepth 20000 in
theorem s_li_6 (l : Launch) {kd : am_kd} {rv : am_rv} {iv : am_iv} (n : am_N) (hk : kd n = some (.inl 6)) (k j m : Int32) : am_Met l mX2_init (am_rm 1 0 0) [am_P n, am_I k, am_I j, am_I m] kd rv iv (am_ret none kd rv (am_ui (am_ui (am_ui iv n 0 k) n 1 j) n 2 m)) := by
  refine am_Met.of (by decide) (Nat.le_of_ble_eq_true rfl) rfl ?_
  refine A_aload_n (pc := 0) (i := 0) dX2_init_0 rfl rfl ?_
  refine A_objInit (pc := 1) co_X2_1 co_inst co_code (Nat.le_of_ble_eq_true rfl) (Nat.le_of_ble_eq_true rfl) dX2_init_1 ?_
  refine A_aload_n (pc := 4) (i := 0) dX2_init_4 rfl rfl ?_
  refine A_iload_n (pc := 5) (i := 1) dX2_init_5 rfl rfl ?_
  refine A_puti (pc := 6) 0 fl_X2_7_6 hk rfl (by decide +kernel) rfl rfl dX2_init_6 ?_
  refine A_aload_n (pc := 9) (i := 0) dX2_init_9 rfl rfl ?_
  refine A_iload_n (pc := 10) (i := 2) dX2_init_10 rfl rfl ?_
  refine A_puti (pc := 11) 1 fl_X2_13_6 hk rfl (by decide +kernel) rfl rfl dX2_init_11 ?_
  refine A_aload_n (pc := 14) (i := 0) dX2_init_14 rfl rfl ?_
  refine A_iload_n (pc := 15) (i := 3) dX2_init_15 rfl rfl ?_
  refine A_puti (pc := 16) 2 fl_X2_16_6 hk rfl (by decide +kernel) rfl rfl dX2_init_16 ?_
  exact A_vretE (pc := 19) dX2_init_19 rfl (Nat.zero_le _) (Nat.zero_le _) (rfl)
/-! voices: the answer, and the numbers of the bodies as they began -/
def rw_ok (t : am_N) (z : Nat) (iv : am_iv) : Prop := ∃ s, s ≤ z ∧ iv t 1 = nI s
def rw_A (t ta : am_N) (z : Nat) (v : Int32) (iv : am_iv) : am_iv := rw_add t ta z (iv t 1).toNatClampNeg v iv
def rw_L (t ta : am_N) (z : Nat) (cs : List Int32) (iv : am_iv) : am_iv := cs.foldl (fun iv c => rw_A t ta z c iv) iv
def tr_ok (kd : am_kd) (rv : am_rv) (t ta : am_N) (z : Nat) : Prop := kd t = some (.inl 5) ∧ rv t 0 = some ta ∧ kd ta = some (.inr (0, z)) ∧ t ≠ ta ∧ z < 2 ^ 31
theorem rw_A_ok {kd : am_kd} {rv : am_rv} {iv : am_iv} {t ta : am_N} {z : Nat} {v : Int32} (ht : tr_ok kd rv t ta z) (h : rw_ok t z iv) : rw_ok t z (rw_A t ta z v iv) := by
  obtain ⟨s, h1, h2⟩ := h
  have h3 := ht.2.2.2.2
  unfold rw_A
  rw [h2, nI_clamp (by omega)]
  unfold rw_add
  by_cases hs : s < z
  · rw [if_pos hs]; exact ⟨s + 1, hs, by simp [am_ui]⟩
  · rw [if_neg hs]; exact ⟨s, h1, h2⟩
theorem rw_L_ok {kd : am_kd} {rv : am_rv} {t ta : am_N} {z : Nat} (ht : tr_ok kd rv t ta z) {cs : List Int32} {iv : am_iv} (h : rw_ok t z iv) : rw_ok t z (rw_L t ta z cs iv) := by
  induction cs generalizing iv with
  | nil => exact h
  | cons c cs ih => exact ih (rw_A_ok ht h)
theorem rw_A_n {t ta n : am_N} (h1 : n ≠ t) (h2 : n ≠ ta) {z : Nat} {v : Int32} {iv : am_iv} : rw_A t ta z v iv n = iv n := by
  funext k
  unfold rw_A rw_add
  split
  · rw [am_ui_o h1, am_ui_o h2]
  · rfl
theorem rw_L_n {t ta n : am_N} (h1 : n ≠ t) (h2 : n ≠ ta) {z : Nat} {cs : List Int32} {iv : am_iv} : rw_L t ta z cs iv n = iv n := by
  induction cs generalizing iv with
  | nil => rfl
  | cons c cs ih => exact (ih (iv := rw_A t ta z c iv)).trans (rw_A_n h1 h2)
theorem rw_L_app (t ta : am_N) (z : Nat) (a b : List Int32) (iv : am_iv) : rw_L t ta z (a ++ b) iv = rw_L t ta z b (rw_L t ta z a iv) := List.foldl_append
theorem rw_L_c (t ta : am_N) (z : Nat) (c : Int32) (b : List Int32) (iv : am_iv) : rw_L t ta z (c :: b) iv = rw_L t ta z b (rw_L t ta z [c] iv) := rfl
theorem s_tradd (l : Launch) {kd : am_kd} {rv : am_rv} {iv : am_iv} (t ta : am_N) {z : Nat} (ht : tr_ok kd rv t ta z) (hs : rw_ok t z iv) (v : Int32) : am_Met l mX5_add (am_rm 0 0 0) [am_P t, am_I v] kd rv iv (am_ret none kd rv (rw_L t ta z [v] iv)) := by
  obtain ⟨s, h1, h2⟩ := hs
  have h := s_rwadd l t ta z s ht.1 ht.2.1 ht.2.2.1 ht.2.2.2.2 h2 h1 ht.2.2.2.1 v
  have e : rw_L t ta z [v] iv = rw_add t ta z s v iv := by
    show rw_A t ta z v iv = _
    rw [rw_A, h2, nI_clamp (by have := ht.2.2.2.2; omega)]
  rw [e]
  exact h
def vo_goes (K : Nat) (f : Nat → Int32) (x : Int32) : Int32 × List Int32 := if K = 2 then ((x + f 1) * 3, [30, 10]) else if K = 4 then (x + 1 + f 1, [50, 10]) else (x + f 1, [10])
def vo_m0 (K : Nat) (f : Nat → Int32) (x : Int32) : Int32 × List Int32 := ((vo_goes K f x).1 * 2, 11 :: (vo_goes K f x).2)
def vo_ends (K : Nat) (f : Nat → Int32) (x : Int32) : Int32 × List Int32 := if K = 3 ∨ K = 4 then (-(x - f 2), [40, 12]) else if K = 6 then (x - f 2 + f 2, [70, 12]) else (x - f 2, [12])
def vo_moves (K : Nat) (f : Nat → Int32) (x : Int32) : Int32 × List Int32 := if K = 1 then ((vo_m0 K f x).1 - (vo_ends K f 1).1, 20 :: ((vo_m0 K f x).2 ++ (vo_ends K f 1).2)) else if K = 5 ∨ K = 6 then ((vo_m0 K f x).1 ^^^ f 1, 60 :: (vo_m0 K f x).2) else vo_m0 K f x
def vo_t0 (K : Nat) (f : Nat → Int32) (x : Int32) : Int32 × List Int32 := ((vo_moves K f x).1 ^^^ (vo_ends K f x).1, 13 :: ((vo_moves K f x).2 ++ (vo_ends K f x).2))
def vo_tells (K : Nat) (f : Nat → Int32) (x : Int32) : Int32 × List Int32 := if K = 4 then ((vo_t0 K f x).1 - (vo_goes K f 2).1, 51 :: ((vo_t0 K f x).2 ++ (vo_goes K f 2).2)) else if K = 6 then ((vo_moves K f x).1 - (vo_t0 K f x).1, 71 :: ((vo_moves K f x).2 ++ (vo_t0 K f x).2)) else vo_t0 K f x
set_option maxRecDepth 20000 in
theorem s_g0_2 (l : Launch) {kd : am_kd} {rv : am_rv} {iv : am_iv} (n : am_N) (hk : kd n = some (.inl 2)) (t ta : am_N) (ht : tr_ok kd rv t ta 40) (h1 : n ≠ t) (h2 : n ≠ ta) (hs : rw_ok t 40 iv) (x : Int32) : am_Met l mX2_goes (am_rm 1 0 0) [am_P n, am_I x, am_P t] kd rv iv (am_ret (some (am_I ((x + iv n 1, [10])).1)) kd rv (rw_L t ta 40 ((x + iv n 1, [10])).2 iv)) := by
  refine am_Met.of (by decide) (Nat.le_of_ble_eq_true rfl) rfl ?_
  refine A_aload_n (pc := 0) (i := 2) dX2_goes_0 rfl rfl ?_
  refine A_bipush (pc := 1) (10) dX2_goes_1 (by decide) ?_
  refine A_callV0 (pc := 3) cv_X2_48 (s_tradd l t ta ht hs (10)) ht.1 rfl rfl rfl rfl (Nat.le_of_ble_eq_true rfl) ⟨(Nat.le_of_ble_eq_true rfl), (Nat.le_of_ble_eq_true rfl)⟩ ⟨Nat.zero_le _, Nat.zero_le _⟩ dX2_goes_3 ?_
  refine A_iload_n (pc := 6) (i := 1) dX2_goes_6 rfl rfl ?_
  refine A_aload_n (pc := 7) (i := 0) dX2_goes_7 rfl rfl ?_
  refine A_geti (pc := 8) 1 fl_X2_13_2 hk rfl dX2_goes_8 ?_
  refine A_iadd (pc := 11) dX2_goes_11 ?_
  exact A_iretE (pc := 12) dX2_goes_12 rfl (Nat.zero_le _) (Nat.zero_le _) (by (try simp only [rw_L_n h1 h2]); (try simp [vo_goes, vo_m0, vo_ends, vo_moves, vo_t0, vo_tells])) (by (try simp only [rw_L_n h1 h2]); (try simp only [vo_goes, vo_m0, vo_ends, vo_moves, vo_t0, vo_tells]); (try simp); (try simp only [rw_L_c t ta 40 _ (_ :: _), rw_L_app]))
set_option maxRecDepth 20000 in
theorem s_g0_8 (l : Launch) {kd : am_kd} {rv : am_rv} {iv : am_iv} (n : am_N) (hk : kd n = some (.inl 8)) (t ta : am_N) (ht : tr_ok kd rv t ta 40) (h1 : n ≠ t) (h2 : n ≠ ta) (hs : rw_ok t 40 iv) (x : Int32) : am_Met l mX2_goes (am_rm 1 0 0) [am_P n, am_I x, am_P t] kd rv iv (am_ret (some (am_I ((x + iv n 1, [10])).1)) kd rv (rw_L t ta 40 ((x + iv n 1, [10])).2 iv)) := by
  refine am_Met.of (by decide) (Nat.le_of_ble_eq_true rfl) rfl ?_
  refine A_aload_n (pc := 0) (i := 2) dX2_goes_0 rfl rfl ?_
  refine A_bipush (pc := 1) (10) dX2_goes_1 (by decide) ?_
  refine A_callV0 (pc := 3) cv_X2_48 (s_tradd l t ta ht hs (10)) ht.1 rfl rfl rfl rfl (Nat.le_of_ble_eq_true rfl) ⟨(Nat.le_of_ble_eq_true rfl), (Nat.le_of_ble_eq_true rfl)⟩ ⟨Nat.zero_le _, Nat.zero_le _⟩ dX2_goes_3 ?_
  refine A_iload_n (pc := 6) (i := 1) dX2_goes_6 rfl rfl ?_
  refine A_aload_n (pc := 7) (i := 0) dX2_goes_7 rfl rfl ?_
  refine A_geti (pc := 8) 1 fl_X2_13_8 hk rfl dX2_goes_8 ?_
  refine A_iadd (pc := 11) dX2_goes_11 ?_
  exact A_iretE (pc := 12) dX2_goes_12 rfl (Nat.zero_le _) (Nat.zero_le _) (by (try simp only [rw_L_n h1 h2]); (try simp [vo_goes, vo_m0, vo_ends, vo_moves, vo_t0, vo_tells])) (by (try simp only [rw_L_n h1 h2]); (try simp only [vo_goes, vo_m0, vo_ends, vo_moves, vo_t0, vo_tells]); (try simp); (try simp only [rw_L_c t ta 40 _ (_ :: _), rw_L_app]))
set_option maxRecDepth 20000 in
theorem s_g0_1 (l : Launch) {kd : am_kd} {rv : am_rv} {iv : am_iv} (n : am_N) (hk : kd n = some (.inl 1)) (t ta : am_N) (ht : tr_ok kd rv t ta 40) (h1 : n ≠ t) (h2 : n ≠ ta) (hs : rw_ok t 40 iv) (x : Int32) : am_Met l mX2_goes (am_rm 1 0 0) [am_P n, am_I x, am_P t] kd rv iv (am_ret (some (am_I ((x + iv n 1, [10])).1)) kd rv (rw_L t ta 40 ((x + iv n 1, [10])).2 iv)) := by
  refine am_Met.of (by decide) (Nat.le_of_ble_eq_true rfl) rfl ?_
  refine A_aload_n (pc := 0) (i := 2) dX2_goes_0 rfl rfl ?_
  refine A_bipush (pc := 1) (10) dX2_goes_1 (by decide) ?_
  refine A_callV0 (pc := 3) cv_X2_48 (s_tradd l t ta ht hs (10)) ht.1 rfl rfl rfl rfl (Nat.le_of_ble_eq_true rfl) ⟨(Nat.le_of_ble_eq_true rfl), (Nat.le_of_ble_eq_true rfl)⟩ ⟨Nat.zero_le _, Nat.zero_le _⟩ dX2_goes_3 ?_
  refine A_iload_n (pc := 6) (i := 1) dX2_goes_6 rfl rfl ?_
  refine A_aload_n (pc := 7) (i := 0) dX2_goes_7 rfl rfl ?_
  refine A_geti (pc := 8) 1 fl_X2_13_1 hk rfl dX2_goes_8 ?_
  refine A_iadd (pc := 11) dX2_goes_11 ?_
  exact A_iretE (pc := 12) dX2_goes_12 rfl (Nat.zero_le _) (Nat.zero_le _) (by (try simp only [rw_L_n h1 h2]); (try simp [vo_goes, vo_m0, vo_ends, vo_moves, vo_t0, vo_tells])) (by (try simp only [rw_L_n h1 h2]); (try simp only [vo_goes, vo_m0, vo_ends, vo_moves, vo_t0, vo_tells]); (try simp); (try simp only [rw_L_c t ta 40 _ (_ :: _), rw_L_app]))
set_option maxRecDepth 20000 in
theorem s_g0_0 (l : Launch) {kd : am_kd} {rv : am_rv} {iv : am_iv} (n : am_N) (hk : kd n = some (.inl 0)) (t ta : am_N) (ht : tr_ok kd rv t ta 40) (h1 : n ≠ t) (h2 : n ≠ ta) (hs : rw_ok t 40 iv) (x : Int32) : am_Met l mX2_goes (am_rm 1 0 0) [am_P n, am_I x, am_P t] kd rv iv (am_ret (some (am_I ((x + iv n 1, [10])).1)) kd rv (rw_L t ta 40 ((x + iv n 1, [10])).2 iv)) := by
  refine am_Met.of (by decide) (Nat.le_of_ble_eq_true rfl) rfl ?_
  refine A_aload_n (pc := 0) (i := 2) dX2_goes_0 rfl rfl ?_
  refine A_bipush (pc := 1) (10) dX2_goes_1 (by decide) ?_
  refine A_callV0 (pc := 3) cv_X2_48 (s_tradd l t ta ht hs (10)) ht.1 rfl rfl rfl rfl (Nat.le_of_ble_eq_true rfl) ⟨(Nat.le_of_ble_eq_true rfl), (Nat.le_of_ble_eq_true rfl)⟩ ⟨Nat.zero_le _, Nat.zero_le _⟩ dX2_goes_3 ?_
  refine A_iload_n (pc := 6) (i := 1) dX2_goes_6 rfl rfl ?_
  refine A_aload_n (pc := 7) (i := 0) dX2_goes_7 rfl rfl ?_
  refine A_geti (pc := 8) 1 fl_X2_13_0 hk rfl dX2_goes_8 ?_
  refine A_iadd (pc := 11) dX2_goes_11 ?_
  exact A_iretE (pc := 12) dX2_goes_12 rfl (Nat.zero_le _) (Nat.zero_le _) (by (try simp only [rw_L_n h1 h2]); (try simp [vo_goes, vo_m0, vo_ends, vo_moves, vo_t0, vo_tells])) (by (try simp only [rw_L_n h1 h2]); (try simp only [vo_goes, vo_m0, vo_ends, vo_moves, vo_t0, vo_tells]); (try simp); (try simp only [rw_L_c t ta 40 _ (_ :: _), rw_L_app]))
set_option maxRecDepth 20000 in
theorem s_g0_9 (l : Launch) {kd : am_kd} {rv : am_rv} {iv : am_iv} (n : am_N) (hk : kd n = some (.inl 9)) (t ta : am_N) (ht : tr_ok kd rv t ta 40) (h1 : n ≠ t) (h2 : n ≠ ta) (hs : rw_ok t 40 iv) (x : Int32) : am_Met l mX2_goes (am_rm 1 0 0) [am_P n, am_I x, am_P t] kd rv iv (am_ret (some (am_I ((x + iv n 1, [10])).1)) kd rv (rw_L t ta 40 ((x + iv n 1, [10])).2 iv)) := by
  refine am_Met.of (by decide) (Nat.le_of_ble_eq_true rfl) rfl ?_
  refine A_aload_n (pc := 0) (i := 2) dX2_goes_0 rfl rfl ?_
  refine A_bipush (pc := 1) (10) dX2_goes_1 (by decide) ?_
  refine A_callV0 (pc := 3) cv_X2_48 (s_tradd l t ta ht hs (10)) ht.1 rfl rfl rfl rfl (Nat.le_of_ble_eq_true rfl) ⟨(Nat.le_of_ble_eq_true rfl), (Nat.le_of_ble_eq_true rfl)⟩ ⟨Nat.zero_le _, Nat.zero_le _⟩ dX2_goes_3 ?_
  refine A_iload_n (pc := 6) (i := 1) dX2_goes_6 rfl rfl ?_
  refine A_aload_n (pc := 7) (i := 0) dX2_goes_7 rfl rfl ?_
  refine A_geti (pc := 8) 1 fl_X2_13_9 hk rfl dX2_goes_8 ?_
  refine A_iadd (pc := 11) dX2_goes_11 ?_
  exact A_iretE (pc := 12) dX2_goes_12 rfl (Nat.zero_le _) (Nat.zero_le _) (by (try simp only [rw_L_n h1 h2]); (try simp [vo_goes, vo_m0, vo_ends, vo_moves, vo_t0, vo_tells])) (by (try simp only [rw_L_n h1 h2]); (try simp only [vo_goes, vo_m0, vo_ends, vo_moves, vo_t0, vo_tells]); (try simp); (try simp only [rw_L_c t ta 40 _ (_ :: _), rw_L_app]))
set_option maxRecDepth 20000 in
theorem s_g0_10 (l : Launch) {kd : am_kd} {rv : am_rv} {iv : am_iv} (n : am_N) (hk : kd n = some (.inl 10)) (t ta : am_N) (ht : tr_ok kd rv t ta 40) (h1 : n ≠ t) (h2 : n ≠ ta) (hs : rw_ok t 40 iv) (x : Int32) : am_Met l mX2_goes (am_rm 1 0 0) [am_P n, am_I x, am_P t] kd rv iv (am_ret (some (am_I ((x + iv n 1, [10])).1)) kd rv (rw_L t ta 40 ((x + iv n 1, [10])).2 iv)) := by
  refine am_Met.of (by decide) (Nat.le_of_ble_eq_true rfl) rfl ?_
  refine A_aload_n (pc := 0) (i := 2) dX2_goes_0 rfl rfl ?_
  refine A_bipush (pc := 1) (10) dX2_goes_1 (by decide) ?_
  refine A_callV0 (pc := 3) cv_X2_48 (s_tradd l t ta ht hs (10)) ht.1 rfl rfl rfl rfl (Nat.le_of_ble_eq_true rfl) ⟨(Nat.le_of_ble_eq_true rfl), (Nat.le_of_ble_eq_true rfl)⟩ ⟨Nat.zero_le _, Nat.zero_le _⟩ dX2_goes_3 ?_
  refine A_iload_n (pc := 6) (i := 1) dX2_goes_6 rfl rfl ?_
  refine A_aload_n (pc := 7) (i := 0) dX2_goes_7 rfl rfl ?_
  refine A_geti (pc := 8) 1 fl_X2_13_10 hk rfl dX2_goes_8 ?_
  refine A_iadd (pc := 11) dX2_goes_11 ?_
  exact A_iretE (pc := 12) dX2_goes_12 rfl (Nat.zero_le _) (Nat.zero_le _) (by (try simp only [rw_L_n h1 h2]); (try simp [vo_goes, vo_m0, vo_ends, vo_moves, vo_t0, vo_tells])) (by (try simp only [rw_L_n h1 h2]); (try simp only [vo_goes, vo_m0, vo_ends, vo_moves, vo_t0, vo_tells]); (try simp); (try simp only [rw_L_c t ta 40 _ (_ :: _), rw_L_app]))
set_option maxRecDepth 20000 in
theorem s_g0_6 (l : Launch) {kd : am_kd} {rv : am_rv} {iv : am_iv} (n : am_N) (hk : kd n = some (.inl 6)) (t ta : am_N) (ht : tr_ok kd rv t ta 40) (h1 : n ≠ t) (h2 : n ≠ ta) (hs : rw_ok t 40 iv) (x : Int32) : am_Met l mX2_goes (am_rm 1 0 0) [am_P n, am_I x, am_P t] kd rv iv (am_ret (some (am_I ((x + iv n 1, [10])).1)) kd rv (rw_L t ta 40 ((x + iv n 1, [10])).2 iv)) := by
  refine am_Met.of (by decide) (Nat.le_of_ble_eq_true rfl) rfl ?_
  refine A_aload_n (pc := 0) (i := 2) dX2_goes_0 rfl rfl ?_
  refine A_bipush (pc := 1) (10) dX2_goes_1 (by decide) ?_
  refine A_callV0 (pc := 3) cv_X2_48 (s_tradd l t ta ht hs (10)) ht.1 rfl rfl rfl rfl (Nat.le_of_ble_eq_true rfl) ⟨(Nat.le_of_ble_eq_true rfl), (Nat.le_of_ble_eq_true rfl)⟩ ⟨Nat.zero_le _, Nat.zero_le _⟩ dX2_goes_3 ?_
  refine A_iload_n (pc := 6) (i := 1) dX2_goes_6 rfl rfl ?_
  refine A_aload_n (pc := 7) (i := 0) dX2_goes_7 rfl rfl ?_
  refine A_geti (pc := 8) 1 fl_X2_13_6 hk rfl dX2_goes_8 ?_
  refine A_iadd (pc := 11) dX2_goes_11 ?_
  exact A_iretE (pc := 12) dX2_goes_12 rfl (Nat.zero_le _) (Nat.zero_le _) (by (try simp only [rw_L_n h1 h2]); (try simp [vo_goes, vo_m0, vo_ends, vo_moves, vo_t0, vo_tells])) (by (try simp only [rw_L_n h1 h2]); (try simp only [vo_goes, vo_m0, vo_ends, vo_moves, vo_t0, vo_tells]); (try simp); (try simp only [rw_L_c t ta 40 _ (_ :: _), rw_L_app]))
set_option maxRecDepth 20000 in
theorem s_g2 (l : Launch) {kd : am_kd} {rv : am_rv} {iv : am_iv} (n : am_N) (hk : kd n = some (.inl 1)) (t ta : am_N) (ht : tr_ok kd rv t ta 40) (h1 : n ≠ t) (h2 : n ≠ ta) (hs : rw_ok t 40 iv) (x : Int32) : am_Met l mX1_goes (am_rm 2 0 0) [am_P n, am_I x, am_P t] kd rv iv (am_ret (some (am_I (vo_goes 2 (iv n) x).1)) kd rv (rw_L t ta 40 (vo_goes 2 (iv n) x).2 iv)) := by
  refine am_Met.of (by decide) (Nat.le_of_ble_eq_true rfl) rfl ?_
  refine A_aload_n (pc := 0) (i := 2) dX1_goes_0 rfl rfl ?_
  refine A_bipush (pc := 1) (30) dX1_goes_1 (by decide) ?_
  refine A_callV0 (pc := 3) cv_X1_28 (s_tradd l t ta ht hs (30)) ht.1 rfl rfl rfl rfl (Nat.le_of_ble_eq_true rfl) ⟨(Nat.le_of_ble_eq_true rfl), (Nat.le_of_ble_eq_true rfl)⟩ ⟨Nat.zero_le _, Nat.zero_le _⟩ dX1_goes_3 ?_
  refine A_aload_n (pc := 6) (i := 0) dX1_goes_6 rfl rfl ?_
  refine A_iload_n (pc := 7) (i := 1) dX1_goes_7 rfl rfl ?_
  refine A_aload_n (pc := 8) (i := 2) dX1_goes_8 rfl rfl ?_
  refine A_callP1 (pc := 9) cp_X1_34 (s_g0_1 l n hk t ta ht h1 h2 (rw_L_ok ht hs) _) hk rfl rfl rfl (Nat.le_of_ble_eq_true rfl) ⟨(Nat.le_of_ble_eq_true rfl), (Nat.le_of_ble_eq_true rfl)⟩ ⟨Nat.zero_le _, Nat.zero_le _⟩ dX1_goes_9 ?_
  refine A_iconst (pc := 12) (3) dX1_goes_12 (by decide) ?_
  refine A_imul (pc := 13) dX1_goes_13 ?_
  exact A_iretE (pc := 14) dX1_goes_14 rfl (Nat.zero_le _) (Nat.zero_le _) (by (try simp only [rw_L_n h1 h2]); (try simp [vo_goes, vo_m0, vo_ends, vo_moves, vo_t0, vo_tells])) (by (try simp only [rw_L_n h1 h2]); (try simp only [vo_goes, vo_m0, vo_ends, vo_moves, vo_t0, vo_tells]); (try simp); (try simp only [rw_L_c t ta 40 _ (_ :: _), rw_L_app]))
set_option maxRecDepth 20000 in
theorem s_g4 (l : Launch) {kd : am_kd} {rv : am_rv} {iv : am_iv} (n : am_N) (hk : kd n = some (.inl 9)) (t ta : am_N) (ht : tr_ok kd rv t ta 40) (h1 : n ≠ t) (h2 : n ≠ ta) (hs : rw_ok t 40 iv) (x : Int32) : am_Met l mX9_goes (am_rm 2 0 0) [am_P n, am_I x, am_P t] kd rv iv (am_ret (some (am_I (vo_goes 4 (iv n) x).1)) kd rv (rw_L t ta 40 (vo_goes 4 (iv n) x).2 iv)) := by
  refine am_Met.of (by decide) (Nat.le_of_ble_eq_true rfl) rfl ?_
  refine A_aload_n (pc := 0) (i := 2) dX9_goes_0 rfl rfl ?_
  refine A_bipush (pc := 1) (50) dX9_goes_1 (by decide) ?_
  refine A_callV0 (pc := 3) cv_X9_19 (s_tradd l t ta ht hs (50)) ht.1 rfl rfl rfl rfl (Nat.le_of_ble_eq_true rfl) ⟨(Nat.le_of_ble_eq_true rfl), (Nat.le_of_ble_eq_true rfl)⟩ ⟨Nat.zero_le _, Nat.zero_le _⟩ dX9_goes_3 ?_
  refine A_aload_n (pc := 6) (i := 0) dX9_goes_6 rfl rfl ?_
  refine A_iload_n (pc := 7) (i := 1) dX9_goes_7 rfl rfl ?_
  refine A_iconst (pc := 8) (1) dX9_goes_8 (by decide) ?_
  refine A_iadd (pc := 9) dX9_goes_9 ?_
  refine A_aload_n (pc := 10) (i := 2) dX9_goes_10 rfl rfl ?_
  refine A_callQ1 (pc := 11) cq_X9_25 (s_g0_9 l n hk t ta ht h1 h2 (rw_L_ok ht hs) _) hk rfl rfl rfl (Nat.le_of_ble_eq_true rfl) ⟨(Nat.le_of_ble_eq_true rfl), (Nat.le_of_ble_eq_true rfl)⟩ ⟨Nat.zero_le _, Nat.zero_le _⟩ dX9_goes_11 ?_
  exact A_iretE (pc := 14) dX9_goes_14 rfl (Nat.zero_le _) (Nat.zero_le _) (by (try simp only [rw_L_n h1 h2]); (try simp [vo_goes, vo_m0, vo_ends, vo_moves, vo_t0, vo_tells])) (by (try simp only [rw_L_n h1 h2]); (try simp only [vo_goes, vo_m0, vo_ends, vo_moves, vo_t0, vo_tells]); (try simp); (try simp only [rw_L_c t ta 40 _ (_ :: _), rw_L_app]))
theorem s_vg_2 (l : Launch) {kd : am_kd} {rv : am_rv} {iv : am_iv} (n : am_N) (hk : kd n = some (.inl 2)) (t ta : am_N) (ht : tr_ok kd rv t ta 40) (h1 : n ≠ t) (h2 : n ≠ ta) (hs : rw_ok t 40 iv) (x : Int32) : am_Met l mX2_goes (am_rm 1 0 0) [am_P n, am_I x, am_P t] kd rv iv (am_ret (some (am_I (vo_goes 0 (iv n) x).1)) kd rv (rw_L t ta 40 (vo_goes 0 (iv n) x).2 iv)) := s_g0_2 l n hk t ta ht h1 h2 hs x
theorem s_vg_8 (l : Launch) {kd : am_kd} {rv : am_rv} {iv : am_iv} (n : am_N) (hk : kd n = some (.inl 8)) (t ta : am_N) (ht : tr_ok kd rv t ta 40) (h1 : n ≠ t) (h2 : n ≠ ta) (hs : rw_ok t 40 iv) (x : Int32) : am_Met l mX2_goes (am_rm 1 0 0) [am_P n, am_I x, am_P t] kd rv iv (am_ret (some (am_I (vo_goes 1 (iv n) x).1)) kd rv (rw_L t ta 40 (vo_goes 1 (iv n) x).2 iv)) := s_g0_8 l n hk t ta ht h1 h2 hs x
theorem s_vg_0 (l : Launch) {kd : am_kd} {rv : am_rv} {iv : am_iv} (n : am_N) (hk : kd n = some (.inl 0)) (t ta : am_N) (ht : tr_ok kd rv t ta 40) (h1 : n ≠ t) (h2 : n ≠ ta) (hs : rw_ok t 40 iv) (x : Int32) : am_Met l mX2_goes (am_rm 1 0 0) [am_P n, am_I x, am_P t] kd rv iv (am_ret (some (am_I (vo_goes 3 (iv n) x).1)) kd rv (rw_L t ta 40 (vo_goes 3 (iv n) x).2 iv)) := s_g0_0 l n hk t ta ht h1 h2 hs x
theorem s_vg_10 (l : Launch) {kd : am_kd} {rv : am_rv} {iv : am_iv} (n : am_N) (hk : kd n = some (.inl 10)) (t ta : am_N) (ht : tr_ok kd rv t ta 40) (h1 : n ≠ t) (h2 : n ≠ ta) (hs : rw_ok t 40 iv) (x : Int32) : am_Met l mX2_goes (am_rm 1 0 0) [am_P n, am_I x, am_P t] kd rv iv (am_ret (some (am_I (vo_goes 5 (iv n) x).1)) kd rv (rw_L t ta 40 (vo_goes 5 (iv n) x).2 iv)) := s_g0_10 l n hk t ta ht h1 h2 hs x
theorem s_vg_6 (l : Launch) {kd : am_kd} {rv : am_rv} {iv : am_iv} (n : am_N) (hk : kd n = some (.inl 6)) (t ta : am_N) (ht : tr_ok kd rv t ta 40) (h1 : n ≠ t) (h2 : n ≠ ta) (hs : rw_ok t 40 iv) (x : Int32) : am_Met l mX2_goes (am_rm 1 0 0) [am_P n, am_I x, am_P t] kd rv iv (am_ret (some (am_I (vo_goes 6 (iv n) x).1)) kd rv (rw_L t ta 40 (vo_goes 6 (iv n) x).2 iv)) := s_g0_6 l n hk t ta ht h1 h2 hs x
set_option maxRecDepth 20000 in
theorem s_n0_2 (l : Launch) {kd : am_kd} {rv : am_rv} {iv : am_iv} (n : am_N) (hk : kd n = some (.inl 2)) (t ta : am_N) (ht : tr_ok kd rv t ta 40) (h1 : n ≠ t) (h2 : n ≠ ta) (hs : rw_ok t 40 iv) (x : Int32) : am_Met l mX2_ends (am_rm 1 0 0) [am_P n, am_I x, am_P t] kd rv iv (am_ret (some (am_I ((x - iv n 2, [12])).1)) kd rv (rw_L t ta 40 ((x - iv n 2, [12])).2 iv)) := by
  refine am_Met.of (by decide) (Nat.le_of_ble_eq_true rfl) rfl ?_
  refine A_aload_n (pc := 0) (i := 2) dX2_ends_0 rfl rfl ?_
  refine A_bipush (pc := 1) (12) dX2_ends_1 (by decide) ?_
  refine A_callV0 (pc := 3) cv_X2_48 (s_tradd l t ta ht hs (12)) ht.1 rfl rfl rfl rfl (Nat.le_of_ble_eq_true rfl) ⟨(Nat.le_of_ble_eq_true rfl), (Nat.le_of_ble_eq_true rfl)⟩ ⟨Nat.zero_le _, Nat.zero_le _⟩ dX2_ends_3 ?_
  refine A_iload_n (pc := 6) (i := 1) dX2_ends_6 rfl rfl ?_
  refine A_aload_n (pc := 7) (i := 0) dX2_ends_7 rfl rfl ?_
  refine A_geti (pc := 8) 2 fl_X2_16_2 hk rfl dX2_ends_8 ?_
  refine A_isub (pc := 11) dX2_ends_11 ?_
  exact A_iretE (pc := 12) dX2_ends_12 rfl (Nat.zero_le _) (Nat.zero_le _) (by (try simp only [rw_L_n h1 h2]); (try simp [vo_goes, vo_m0, vo_ends, vo_moves, vo_t0, vo_tells])) (by (try simp only [rw_L_n h1 h2]); (try simp only [vo_goes, vo_m0, vo_ends, vo_moves, vo_t0, vo_tells]); (try simp); (try simp only [rw_L_c t ta 40 _ (_ :: _), rw_L_app]))
set_option maxRecDepth 20000 in
theorem s_n0_8 (l : Launch) {kd : am_kd} {rv : am_rv} {iv : am_iv} (n : am_N) (hk : kd n = some (.inl 8)) (t ta : am_N) (ht : tr_ok kd rv t ta 40) (h1 : n ≠ t) (h2 : n ≠ ta) (hs : rw_ok t 40 iv) (x : Int32) : am_Met l mX2_ends (am_rm 1 0 0) [am_P n, am_I x, am_P t] kd rv iv (am_ret (some (am_I ((x - iv n 2, [12])).1)) kd rv (rw_L t ta 40 ((x - iv n 2, [12])).2 iv)) := by
  refine am_Met.of (by decide) (Nat.le_of_ble_eq_true rfl) rfl ?_
  refine A_aload_n (pc := 0) (i := 2) dX2_ends_0 rfl rfl ?_
  refine A_bipush (pc := 1) (12) dX2_ends_1 (by decide) ?_
  refine A_callV0 (pc := 3) cv_X2_48 (s_tradd l t ta ht hs (12)) ht.1 rfl rfl rfl rfl (Nat.le_of_ble_eq_true rfl) ⟨(Nat.le_of_ble_eq_true rfl), (Nat.le_of_ble_eq_true rfl)⟩ ⟨Nat.zero_le _, Nat.zero_le _⟩ dX2_ends_3 ?_
  refine A_iload_n (pc := 6) (i := 1) dX2_ends_6 rfl rfl ?_
  refine A_aload_n (pc := 7) (i := 0) dX2_ends_7 rfl rfl ?_
  refine A_geti (pc := 8) 2 fl_X2_16_8 hk rfl dX2_ends_8 ?_
  refine A_isub (pc := 11) dX2_ends_11 ?_
  exact A_iretE (pc := 12) dX2_ends_12 rfl (Nat.zero_le _) (Nat.zero_le _) (by (try simp only [rw_L_n h1 h2]); (try simp [vo_goes, vo_m0, vo_ends, vo_moves, vo_t0, vo_tells])) (by (try simp only [rw_L_n h1 h2]); (try simp only [vo_goes, vo_m0, vo_ends, vo_moves, vo_t0, vo_tells]); (try simp); (try simp only [rw_L_c t ta 40 _ (_ :: _), rw_L_app]))
set_option maxRecDepth 20000 in
theorem s_n0_1 (l : Launch) {kd : am_kd} {rv : am_rv} {iv : am_iv} (n : am_N) (hk : kd n = some (.inl 1)) (t ta : am_N) (ht : tr_ok kd rv t ta 40) (h1 : n ≠ t) (h2 : n ≠ ta) (hs : rw_ok t 40 iv) (x : Int32) : am_Met l mX2_ends (am_rm 1 0 0) [am_P n, am_I x, am_P t] kd rv iv (am_ret (some (am_I ((x - iv n 2, [12])).1)) kd rv (rw_L t ta 40 ((x - iv n 2, [12])).2 iv)) := by
  refine am_Met.of (by decide) (Nat.le_of_ble_eq_true rfl) rfl ?_
  refine A_aload_n (pc := 0) (i := 2) dX2_ends_0 rfl rfl ?_
  refine A_bipush (pc := 1) (12) dX2_ends_1 (by decide) ?_
  refine A_callV0 (pc := 3) cv_X2_48 (s_tradd l t ta ht hs (12)) ht.1 rfl rfl rfl rfl (Nat.le_of_ble_eq_true rfl) ⟨(Nat.le_of_ble_eq_true rfl), (Nat.le_of_ble_eq_true rfl)⟩ ⟨Nat.zero_le _, Nat.zero_le _⟩ dX2_ends_3 ?_
  refine A_iload_n (pc := 6) (i := 1) dX2_ends_6 rfl rfl ?_
  refine A_aload_n (pc := 7) (i := 0) dX2_ends_7 rfl rfl ?_
  refine A_geti (pc := 8) 2 fl_X2_16_1 hk rfl dX2_ends_8 ?_
  refine A_isub (pc := 11) dX2_ends_11 ?_
  exact A_iretE (pc := 12) dX2_ends_12 rfl (Nat.zero_le _) (Nat.zero_le _) (by (try simp only [rw_L_n h1 h2]); (try simp [vo_goes, vo_m0, vo_ends, vo_moves, vo_t0, vo_tells])) (by (try simp only [rw_L_n h1 h2]); (try simp only [vo_goes, vo_m0, vo_ends, vo_moves, vo_t0, vo_tells]); (try simp); (try simp only [rw_L_c t ta 40 _ (_ :: _), rw_L_app]))
set_option maxRecDepth 20000 in
theorem s_n0_0 (l : Launch) {kd : am_kd} {rv : am_rv} {iv : am_iv} (n : am_N) (hk : kd n = some (.inl 0)) (t ta : am_N) (ht : tr_ok kd rv t ta 40) (h1 : n ≠ t) (h2 : n ≠ ta) (hs : rw_ok t 40 iv) (x : Int32) : am_Met l mX2_ends (am_rm 1 0 0) [am_P n, am_I x, am_P t] kd rv iv (am_ret (some (am_I ((x - iv n 2, [12])).1)) kd rv (rw_L t ta 40 ((x - iv n 2, [12])).2 iv)) := by
  refine am_Met.of (by decide) (Nat.le_of_ble_eq_true rfl) rfl ?_
  refine A_aload_n (pc := 0) (i := 2) dX2_ends_0 rfl rfl ?_
  refine A_bipush (pc := 1) (12) dX2_ends_1 (by decide) ?_
  refine A_callV0 (pc := 3) cv_X2_48 (s_tradd l t ta ht hs (12)) ht.1 rfl rfl rfl rfl (Nat.le_of_ble_eq_true rfl) ⟨(Nat.le_of_ble_eq_true rfl), (Nat.le_of_ble_eq_true rfl)⟩ ⟨Nat.zero_le _, Nat.zero_le _⟩ dX2_ends_3 ?_
  refine A_iload_n (pc := 6) (i := 1) dX2_ends_6 rfl rfl ?_
  refine A_aload_n (pc := 7) (i := 0) dX2_ends_7 rfl rfl ?_
  refine A_geti (pc := 8) 2 fl_X2_16_0 hk rfl dX2_ends_8 ?_
  refine A_isub (pc := 11) dX2_ends_11 ?_
  exact A_iretE (pc := 12) dX2_ends_12 rfl (Nat.zero_le _) (Nat.zero_le _) (by (try simp only [rw_L_n h1 h2]); (try simp [vo_goes, vo_m0, vo_ends, vo_moves, vo_t0, vo_tells])) (by (try simp only [rw_L_n h1 h2]); (try simp only [vo_goes, vo_m0, vo_ends, vo_moves, vo_t0, vo_tells]); (try simp); (try simp only [rw_L_c t ta 40 _ (_ :: _), rw_L_app]))
set_option maxRecDepth 20000 in
theorem s_n0_9 (l : Launch) {kd : am_kd} {rv : am_rv} {iv : am_iv} (n : am_N) (hk : kd n = some (.inl 9)) (t ta : am_N) (ht : tr_ok kd rv t ta 40) (h1 : n ≠ t) (h2 : n ≠ ta) (hs : rw_ok t 40 iv) (x : Int32) : am_Met l mX2_ends (am_rm 1 0 0) [am_P n, am_I x, am_P t] kd rv iv (am_ret (some (am_I ((x - iv n 2, [12])).1)) kd rv (rw_L t ta 40 ((x - iv n 2, [12])).2 iv)) := by
  refine am_Met.of (by decide) (Nat.le_of_ble_eq_true rfl) rfl ?_
  refine A_aload_n (pc := 0) (i := 2) dX2_ends_0 rfl rfl ?_
  refine A_bipush (pc := 1) (12) dX2_ends_1 (by decide) ?_
  refine A_callV0 (pc := 3) cv_X2_48 (s_tradd l t ta ht hs (12)) ht.1 rfl rfl rfl rfl (Nat.le_of_ble_eq_true rfl) ⟨(Nat.le_of_ble_eq_true rfl), (Nat.le_of_ble_eq_true rfl)⟩ ⟨Nat.zero_le _, Nat.zero_le _⟩ dX2_ends_3 ?_
  refine A_iload_n (pc := 6) (i := 1) dX2_ends_6 rfl rfl ?_
  refine A_aload_n (pc := 7) (i := 0) dX2_ends_7 rfl rfl ?_
  refine A_geti (pc := 8) 2 fl_X2_16_9 hk rfl dX2_ends_8 ?_
  refine A_isub (pc := 11) dX2_ends_11 ?_
  exact A_iretE (pc := 12) dX2_ends_12 rfl (Nat.zero_le _) (Nat.zero_le _) (by (try simp only [rw_L_n h1 h2]); (try simp [vo_goes, vo_m0, vo_ends, vo_moves, vo_t0, vo_tells])) (by (try simp only [rw_L_n h1 h2]); (try simp only [vo_goes, vo_m0, vo_ends, vo_moves, vo_t0, vo_tells]); (try simp); (try simp only [rw_L_c t ta 40 _ (_ :: _), rw_L_app]))
set_option maxRecDepth 20000 in
theorem s_n0_10 (l : Launch) {kd : am_kd} {rv : am_rv} {iv : am_iv} (n : am_N) (hk : kd n = some (.inl 10)) (t ta : am_N) (ht : tr_ok kd rv t ta 40) (h1 : n ≠ t) (h2 : n ≠ ta) (hs : rw_ok t 40 iv) (x : Int32) : am_Met l mX2_ends (am_rm 1 0 0) [am_P n, am_I x, am_P t] kd rv iv (am_ret (some (am_I ((x - iv n 2, [12])).1)) kd rv (rw_L t ta 40 ((x - iv n 2, [12])).2 iv)) := by
  refine am_Met.of (by decide) (Nat.le_of_ble_eq_true rfl) rfl ?_
  refine A_aload_n (pc := 0) (i := 2) dX2_ends_0 rfl rfl ?_
  refine A_bipush (pc := 1) (12) dX2_ends_1 (by decide) ?_
  refine A_callV0 (pc := 3) cv_X2_48 (s_tradd l t ta ht hs (12)) ht.1 rfl rfl rfl rfl (Nat.le_of_ble_eq_true rfl) ⟨(Nat.le_of_ble_eq_true rfl), (Nat.le_of_ble_eq_true rfl)⟩ ⟨Nat.zero_le _, Nat.zero_le _⟩ dX2_ends_3 ?_
  refine A_iload_n (pc := 6) (i := 1) dX2_ends_6 rfl rfl ?_
  refine A_aload_n (pc := 7) (i := 0) dX2_ends_7 rfl rfl ?_
  refine A_geti (pc := 8) 2 fl_X2_16_10 hk rfl dX2_ends_8 ?_
  refine A_isub (pc := 11) dX2_ends_11 ?_
  exact A_iretE (pc := 12) dX2_ends_12 rfl (Nat.zero_le _) (Nat.zero_le _) (by (try simp only [rw_L_n h1 h2]); (try simp [vo_goes, vo_m0, vo_ends, vo_moves, vo_t0, vo_tells])) (by (try simp only [rw_L_n h1 h2]); (try simp only [vo_goes, vo_m0, vo_ends, vo_moves, vo_t0, vo_tells]); (try simp); (try simp only [rw_L_c t ta 40 _ (_ :: _), rw_L_app]))
set_option maxRecDepth 20000 in
theorem s_n0_6 (l : Launch) {kd : am_kd} {rv : am_rv} {iv : am_iv} (n : am_N) (hk : kd n = some (.inl 6)) (t ta : am_N) (ht : tr_ok kd rv t ta 40) (h1 : n ≠ t) (h2 : n ≠ ta) (hs : rw_ok t 40 iv) (x : Int32) : am_Met l mX2_ends (am_rm 1 0 0) [am_P n, am_I x, am_P t] kd rv iv (am_ret (some (am_I ((x - iv n 2, [12])).1)) kd rv (rw_L t ta 40 ((x - iv n 2, [12])).2 iv)) := by
  refine am_Met.of (by decide) (Nat.le_of_ble_eq_true rfl) rfl ?_
  refine A_aload_n (pc := 0) (i := 2) dX2_ends_0 rfl rfl ?_
  refine A_bipush (pc := 1) (12) dX2_ends_1 (by decide) ?_
  refine A_callV0 (pc := 3) cv_X2_48 (s_tradd l t ta ht hs (12)) ht.1 rfl rfl rfl rfl (Nat.le_of_ble_eq_true rfl) ⟨(Nat.le_of_ble_eq_true rfl), (Nat.le_of_ble_eq_true rfl)⟩ ⟨Nat.zero_le _, Nat.zero_le _⟩ dX2_ends_3 ?_
  refine A_iload_n (pc := 6) (i := 1) dX2_ends_6 rfl rfl ?_
  refine A_aload_n (pc := 7) (i := 0) dX2_ends_7 rfl rfl ?_
  refine A_geti (pc := 8) 2 fl_X2_16_6 hk rfl dX2_ends_8 ?_
  refine A_isub (pc := 11) dX2_ends_11 ?_
  exact A_iretE (pc := 12) dX2_ends_12 rfl (Nat.zero_le _) (Nat.zero_le _) (by (try simp only [rw_L_n h1 h2]); (try simp [vo_goes, vo_m0, vo_ends, vo_moves, vo_t0, vo_tells])) (by (try simp only [rw_L_n h1 h2]); (try simp only [vo_goes, vo_m0, vo_ends, vo_moves, vo_t0, vo_tells]); (try simp); (try simp only [rw_L_c t ta 40 _ (_ :: _), rw_L_app]))
set_option maxRecDepth 20000 in
theorem s_n3_0 (l : Launch) {kd : am_kd} {rv : am_rv} {iv : am_iv} (n : am_N) (hk : kd n = some (.inl 0)) (t ta : am_N) (ht : tr_ok kd rv t ta 40) (h1 : n ≠ t) (h2 : n ≠ ta) (hs : rw_ok t 40 iv) (x : Int32) : am_Met l mX0_ends (am_rm 2 0 0) [am_P n, am_I x, am_P t] kd rv iv (am_ret (some (am_I (vo_ends 3 (iv n) x).1)) kd rv (rw_L t ta 40 (vo_ends 3 (iv n) x).2 iv)) := by
  refine am_Met.of (by decide) (Nat.le_of_ble_eq_true rfl) rfl ?_
  refine A_aload_n (pc := 0) (i := 2) dX0_ends_0 rfl rfl ?_
  refine A_bipush (pc := 1) (40) dX0_ends_1 (by decide) ?_
  refine A_callV0 (pc := 3) cv_X0_23 (s_tradd l t ta ht hs (40)) ht.1 rfl rfl rfl rfl (Nat.le_of_ble_eq_true rfl) ⟨(Nat.le_of_ble_eq_true rfl), (Nat.le_of_ble_eq_true rfl)⟩ ⟨Nat.zero_le _, Nat.zero_le _⟩ dX0_ends_3 ?_
  refine A_aload_n (pc := 6) (i := 0) dX0_ends_6 rfl rfl ?_
  refine A_iload_n (pc := 7) (i := 1) dX0_ends_7 rfl rfl ?_
  refine A_aload_n (pc := 8) (i := 2) dX0_ends_8 rfl rfl ?_
  refine A_callP1 (pc := 9) cp_X0_29 (s_n0_0 l n hk t ta ht h1 h2 (rw_L_ok ht hs) _) hk rfl rfl rfl (Nat.le_of_ble_eq_true rfl) ⟨(Nat.le_of_ble_eq_true rfl), (Nat.le_of_ble_eq_true rfl)⟩ ⟨Nat.zero_le _, Nat.zero_le _⟩ dX0_ends_9 ?_
  refine A_ineg (pc := 12) dX0_ends_12 ?_
  exact A_iretE (pc := 13) dX0_ends_13 rfl (Nat.zero_le _) (Nat.zero_le _) (by (try simp only [rw_L_n h1 h2]); (try simp [vo_goes, vo_m0, vo_ends, vo_moves, vo_t0, vo_tells])) (by (try simp only [rw_L_n h1 h2]); (try simp only [vo_goes, vo_m0, vo_ends, vo_moves, vo_t0, vo_tells]); (try simp); (try simp only [rw_L_c t ta 40 _ (_ :: _), rw_L_app]))
set_option maxRecDepth 20000 in
theorem s_n3_9 (l : Launch) {kd : am_kd} {rv : am_rv} {iv : am_iv} (n : am_N) (hk : kd n = some (.inl 9)) (t ta : am_N) (ht : tr_ok kd rv t ta 40) (h1 : n ≠ t) (h2 : n ≠ ta) (hs : rw_ok t 40 iv) (x : Int32) : am_Met l mX0_ends (am_rm 2 0 0) [am_P n, am_I x, am_P t] kd rv iv (am_ret (some (am_I (vo_ends 4 (iv n) x).1)) kd rv (rw_L t ta 40 (vo_ends 4 (iv n) x).2 iv)) := by
  refine am_Met.of (by decide) (Nat.le_of_ble_eq_true rfl) rfl ?_
  refine A_aload_n (pc := 0) (i := 2) dX0_ends_0 rfl rfl ?_
  refine A_bipush (pc := 1) (40) dX0_ends_1 (by decide) ?_
  refine A_callV0 (pc := 3) cv_X0_23 (s_tradd l t ta ht hs (40)) ht.1 rfl rfl rfl rfl (Nat.le_of_ble_eq_true rfl) ⟨(Nat.le_of_ble_eq_true rfl), (Nat.le_of_ble_eq_true rfl)⟩ ⟨Nat.zero_le _, Nat.zero_le _⟩ dX0_ends_3 ?_
  refine A_aload_n (pc := 6) (i := 0) dX0_ends_6 rfl rfl ?_
  refine A_iload_n (pc := 7) (i := 1) dX0_ends_7 rfl rfl ?_
  refine A_aload_n (pc := 8) (i := 2) dX0_ends_8 rfl rfl ?_
  refine A_callP1 (pc := 9) cp_X0_29 (s_n0_9 l n hk t ta ht h1 h2 (rw_L_ok ht hs) _) hk rfl rfl rfl (Nat.le_of_ble_eq_true rfl) ⟨(Nat.le_of_ble_eq_true rfl), (Nat.le_of_ble_eq_true rfl)⟩ ⟨Nat.zero_le _, Nat.zero_le _⟩ dX0_ends_9 ?_
  refine A_ineg (pc := 12) dX0_ends_12 ?_
  exact A_iretE (pc := 13) dX0_ends_13 rfl (Nat.zero_le _) (Nat.zero_le _) (by (try simp only [rw_L_n h1 h2]); (try simp [vo_goes, vo_m0, vo_ends, vo_moves, vo_t0, vo_tells])) (by (try simp only [rw_L_n h1 h2]); (try simp only [vo_goes, vo_m0, vo_ends, vo_moves, vo_t0, vo_tells]); (try simp); (try simp only [rw_L_c t ta 40 _ (_ :: _), rw_L_app]))
set_option maxRecDepth 20000 in
theorem s_n6 (l : Launch) {kd : am_kd} {rv : am_rv} {iv : am_iv} (n : am_N) (hk : kd n = some (.inl 6)) (t ta : am_N) (ht : tr_ok kd rv t ta 40) (h1 : n ≠ t) (h2 : n ≠ ta) (hs : rw_ok t 40 iv) (x : Int32) : am_Met l mX6_ends (am_rm 2 0 0) [am_P n, am_I x, am_P t] kd rv iv (am_ret (some (am_I (vo_ends 6 (iv n) x).1)) kd rv (rw_L t ta 40 (vo_ends 6 (iv n) x).2 iv)) := by
  refine am_Met.of (by decide) (Nat.le_of_ble_eq_true rfl) rfl ?_
  refine A_aload_n (pc := 0) (i := 2) dX6_ends_0 rfl rfl ?_
  refine A_bipush (pc := 1) (70) dX6_ends_1 (by decide) ?_
  refine A_callV0 (pc := 3) cv_X6_16 (s_tradd l t ta ht hs (70)) ht.1 rfl rfl rfl rfl (Nat.le_of_ble_eq_true rfl) ⟨(Nat.le_of_ble_eq_true rfl), (Nat.le_of_ble_eq_true rfl)⟩ ⟨Nat.zero_le _, Nat.zero_le _⟩ dX6_ends_3 ?_
  refine A_aload_n (pc := 6) (i := 0) dX6_ends_6 rfl rfl ?_
  refine A_iload_n (pc := 7) (i := 1) dX6_ends_7 rfl rfl ?_
  refine A_aload_n (pc := 8) (i := 2) dX6_ends_8 rfl rfl ?_
  refine A_callQ1 (pc := 9) cq_X6_22 (s_n0_6 l n hk t ta ht h1 h2 (rw_L_ok ht hs) _) hk rfl rfl rfl (Nat.le_of_ble_eq_true rfl) ⟨(Nat.le_of_ble_eq_true rfl), (Nat.le_of_ble_eq_true rfl)⟩ ⟨Nat.zero_le _, Nat.zero_le _⟩ dX6_ends_9 ?_
  refine A_aload_n (pc := 12) (i := 0) dX6_ends_12 rfl rfl ?_
  refine A_geti (pc := 13) 2 fl_X6_26_6 hk rfl dX6_ends_13 ?_
  refine A_iadd (pc := 16) dX6_ends_16 ?_
  exact A_iretE (pc := 17) dX6_ends_17 rfl (Nat.zero_le _) (Nat.zero_le _) (by (try simp only [rw_L_n h1 h2]); (try simp [vo_goes, vo_m0, vo_ends, vo_moves, vo_t0, vo_tells])) (by (try simp only [rw_L_n h1 h2]); (try simp only [vo_goes, vo_m0, vo_ends, vo_moves, vo_t0, vo_tells]); (try simp); (try simp only [rw_L_c t ta 40 _ (_ :: _), rw_L_app]))
theorem s_vn_2 (l : Launch) {kd : am_kd} {rv : am_rv} {iv : am_iv} (n : am_N) (hk : kd n = some (.inl 2)) (t ta : am_N) (ht : tr_ok kd rv t ta 40) (h1 : n ≠ t) (h2 : n ≠ ta) (hs : rw_ok t 40 iv) (x : Int32) : am_Met l mX2_ends (am_rm 1 0 0) [am_P n, am_I x, am_P t] kd rv iv (am_ret (some (am_I (vo_ends 0 (iv n) x).1)) kd rv (rw_L t ta 40 (vo_ends 0 (iv n) x).2 iv)) := s_n0_2 l n hk t ta ht h1 h2 hs x
theorem s_vn_8 (l : Launch) {kd : am_kd} {rv : am_rv} {iv : am_iv} (n : am_N) (hk : kd n = some (.inl 8)) (t ta : am_N) (ht : tr_ok kd rv t ta 40) (h1 : n ≠ t) (h2 : n ≠ ta) (hs : rw_ok t 40 iv) (x : Int32) : am_Met l mX2_ends (am_rm 1 0 0) [am_P n, am_I x, am_P t] kd rv iv (am_ret (some (am_I (vo_ends 1 (iv n) x).1)) kd rv (rw_L t ta 40 (vo_ends 1 (iv n) x).2 iv)) := s_n0_8 l n hk t ta ht h1 h2 hs x
theorem s_vn_1 (l : Launch) {kd : am_kd} {rv : am_rv} {iv : am_iv} (n : am_N) (hk : kd n = some (.inl 1)) (t ta : am_N) (ht : tr_ok kd rv t ta 40) (h1 : n ≠ t) (h2 : n ≠ ta) (hs : rw_ok t 40 iv) (x : Int32) : am_Met l mX2_ends (am_rm 1 0 0) [am_P n, am_I x, am_P t] kd rv iv (am_ret (some (am_I (vo_ends 2 (iv n) x).1)) kd rv (rw_L t ta 40 (vo_ends 2 (iv n) x).2 iv)) := s_n0_1 l n hk t ta ht h1 h2 hs x
theorem s_vn_10 (l : Launch) {kd : am_kd} {rv : am_rv} {iv : am_iv} (n : am_N) (hk : kd n = some (.inl 10)) (t ta : am_N) (ht : tr_ok kd rv t ta 40) (h1 : n ≠ t) (h2 : n ≠ ta) (hs : rw_ok t 40 iv) (x : Int32) : am_Met l mX2_ends (am_rm 1 0 0) [am_P n, am_I x, am_P t] kd rv iv (am_ret (some (am_I (vo_ends 5 (iv n) x).1)) kd rv (rw_L t ta 40 (vo_ends 5 (iv n) x).2 iv)) := s_n0_10 l n hk t ta ht h1 h2 hs x
set_option maxRecDepth 20000 in
theorem s_m0_2 (l : Launch) {kd : am_kd} {rv : am_rv} {iv : am_iv} (n : am_N) (hk : kd n = some (.inl 2)) (t ta : am_N) (ht : tr_ok kd rv t ta 40) (h1 : n ≠ t) (h2 : n ≠ ta) (hs : rw_ok t 40 iv) (x : Int32) : am_Met l mX2_moves (am_rm 3 0 0) [am_P n, am_I x, am_P t] kd rv iv (am_ret (some (am_I (vo_m0 0 (iv n) x).1)) kd rv (rw_L t ta 40 (vo_m0 0 (iv n) x).2 iv)) := by
  refine am_Met.of (by decide) (Nat.le_of_ble_eq_true rfl) rfl ?_
  refine A_aload_n (pc := 0) (i := 2) dX2_moves_0 rfl rfl ?_
  refine A_bipush (pc := 1) (11) dX2_moves_1 (by decide) ?_
  refine A_callV0 (pc := 3) cv_X2_48 (s_tradd l t ta ht hs (11)) ht.1 rfl rfl rfl rfl (Nat.le_of_ble_eq_true rfl) ⟨(Nat.le_of_ble_eq_true rfl), (Nat.le_of_ble_eq_true rfl)⟩ ⟨Nat.zero_le _, Nat.zero_le _⟩ dX2_moves_3 ?_
  refine A_aload_n (pc := 6) (i := 0) dX2_moves_6 rfl rfl ?_
  refine A_iload_n (pc := 7) (i := 1) dX2_moves_7 rfl rfl ?_
  refine A_aload_n (pc := 8) (i := 2) dX2_moves_8 rfl rfl ?_
  refine A_callU1 (r := (RX2, TX2, 3)) (pc := 9) cu_X2_54_2 (s_vg_2 l n hk t ta ht h1 h2 (rw_L_ok ht hs) _) hk rfl rfl rfl (Nat.le_of_ble_eq_true rfl) ⟨(Nat.le_of_ble_eq_true rfl), (Nat.le_of_ble_eq_true rfl)⟩ ⟨Nat.zero_le _, Nat.zero_le _⟩ dX2_moves_9 ?_
  refine A_iconst (pc := 12) (2) dX2_moves_12 (by decide) ?_
  refine A_imul (pc := 13) dX2_moves_13 ?_
  exact A_iretE (pc := 14) dX2_moves_14 rfl (Nat.zero_le _) (Nat.zero_le _) (by (try simp only [rw_L_n h1 h2]); (try simp [vo_goes, vo_m0, vo_ends, vo_moves, vo_t0, vo_tells])) (by (try simp only [rw_L_n h1 h2]); (try simp only [vo_goes, vo_m0, vo_ends, vo_moves, vo_t0, vo_tells]); (try simp); (try simp only [rw_L_c t ta 40 _ (_ :: _), rw_L_app]))
set_option maxRecDepth 20000 in
theorem s_m0_8 (l : Launch) {kd : am_kd} {rv : am_rv} {iv : am_iv} (n : am_N) (hk : kd n = some (.inl 8)) (t ta : am_N) (ht : tr_ok kd rv t ta 40) (h1 : n ≠ t) (h2 : n ≠ ta) (hs : rw_ok t 40 iv) (x : Int32) : am_Met l mX2_moves (am_rm 3 0 0) [am_P n, am_I x, am_P t] kd rv iv (am_ret (some (am_I (vo_m0 1 (iv n) x).1)) kd rv (rw_L t ta 40 (vo_m0 1 (iv n) x).2 iv)) := by
  refine am_Met.of (by decide) (Nat.le_of_ble_eq_true rfl) rfl ?_
  refine A_aload_n (pc := 0) (i := 2) dX2_moves_0 rfl rfl ?_
  refine A_bipush (pc := 1) (11) dX2_moves_1 (by decide) ?_
  refine A_callV0 (pc := 3) cv_X2_48 (s_tradd l t ta ht hs (11)) ht.1 rfl rfl rfl rfl (Nat.le_of_ble_eq_true rfl) ⟨(Nat.le_of_ble_eq_true rfl), (Nat.le_of_ble_eq_true rfl)⟩ ⟨Nat.zero_le _, Nat.zero_le _⟩ dX2_moves_3 ?_
  refine A_aload_n (pc := 6) (i := 0) dX2_moves_6 rfl rfl ?_
  refine A_iload_n (pc := 7) (i := 1) dX2_moves_7 rfl rfl ?_
  refine A_aload_n (pc := 8) (i := 2) dX2_moves_8 rfl rfl ?_
  refine A_callU1 (r := (RX8, TX8, 3)) (pc := 9) cu_X2_54_8 (s_vg_8 l n hk t ta ht h1 h2 (rw_L_ok ht hs) _) hk rfl rfl rfl (Nat.le_of_ble_eq_true rfl) ⟨(Nat.le_of_ble_eq_true rfl), (Nat.le_of_ble_eq_true rfl)⟩ ⟨Nat.zero_le _, Nat.zero_le _⟩ dX2_moves_9 ?_
  refine A_iconst (pc := 12) (2) dX2_moves_12 (by decide) ?_
  refine A_imul (pc := 13) dX2_moves_13 ?_
  exact A_iretE (pc := 14) dX2_moves_14 rfl (Nat.zero_le _) (Nat.zero_le _) (by (try simp only [rw_L_n h1 h2]); (try simp [vo_goes, vo_m0, vo_ends, vo_moves, vo_t0, vo_tells])) (by (try simp only [rw_L_n h1 h2]); (try simp only [vo_goes, vo_m0, vo_ends, vo_moves, vo_t0, vo_tells]); (try simp); (try simp only [rw_L_c t ta 40 _ (_ :: _), rw_L_app]))
set_option maxRecDepth 20000 in
theorem s_m0_1 (l : Launch) {kd : am_kd} {rv : am_rv} {iv : am_iv} (n : am_N) (hk : kd n = some (.inl 1)) (t ta : am_N) (ht : tr_ok kd rv t ta 40) (h1 : n ≠ t) (h2 : n ≠ ta) (hs : rw_ok t 40 iv) (x : Int32) : am_Met l mX2_moves (am_rm 3 0 0) [am_P n, am_I x, am_P t] kd rv iv (am_ret (some (am_I (vo_m0 2 (iv n) x).1)) kd rv (rw_L t ta 40 (vo_m0 2 (iv n) x).2 iv)) := by
  refine am_Met.of (by decide) (Nat.le_of_ble_eq_true rfl) rfl ?_
  refine A_aload_n (pc := 0) (i := 2) dX2_moves_0 rfl rfl ?_
  refine A_bipush (pc := 1) (11) dX2_moves_1 (by decide) ?_
  refine A_callV0 (pc := 3) cv_X2_48 (s_tradd l t ta ht hs (11)) ht.1 rfl rfl rfl rfl (Nat.le_of_ble_eq_true rfl) ⟨(Nat.le_of_ble_eq_true rfl), (Nat.le_of_ble_eq_true rfl)⟩ ⟨Nat.zero_le _, Nat.zero_le _⟩ dX2_moves_3 ?_
  refine A_aload_n (pc := 6) (i := 0) dX2_moves_6 rfl rfl ?_
  refine A_iload_n (pc := 7) (i := 1) dX2_moves_7 rfl rfl ?_
  refine A_aload_n (pc := 8) (i := 2) dX2_moves_8 rfl rfl ?_
  refine A_callU1 (r := (RX1, TX1, 3)) (pc := 9) cu_X2_54_1 (s_g2 l n hk t ta ht h1 h2 (rw_L_ok ht hs) _) hk rfl rfl rfl (Nat.le_of_ble_eq_true rfl) ⟨(Nat.le_of_ble_eq_true rfl), (Nat.le_of_ble_eq_true rfl)⟩ ⟨Nat.zero_le _, Nat.zero_le _⟩ dX2_moves_9 ?_
  refine A_iconst (pc := 12) (2) dX2_moves_12 (by decide) ?_
  refine A_imul (pc := 13) dX2_moves_13 ?_
  exact A_iretE (pc := 14) dX2_moves_14 rfl (Nat.zero_le _) (Nat.zero_le _) (by (try simp only [rw_L_n h1 h2]); (try simp [vo_goes, vo_m0, vo_ends, vo_moves, vo_t0, vo_tells])) (by (try simp only [rw_L_n h1 h2]); (try simp only [vo_goes, vo_m0, vo_ends, vo_moves, vo_t0, vo_tells]); (try simp); (try simp only [rw_L_c t ta 40 _ (_ :: _), rw_L_app]))
set_option maxRecDepth 20000 in
theorem s_m0_0 (l : Launch) {kd : am_kd} {rv : am_rv} {iv : am_iv} (n : am_N) (hk : kd n = some (.inl 0)) (t ta : am_N) (ht : tr_ok kd rv t ta 40) (h1 : n ≠ t) (h2 : n ≠ ta) (hs : rw_ok t 40 iv) (x : Int32) : am_Met l mX2_moves (am_rm 3 0 0) [am_P n, am_I x, am_P t] kd rv iv (am_ret (some (am_I (vo_m0 3 (iv n) x).1)) kd rv (rw_L t ta 40 (vo_m0 3 (iv n) x).2 iv)) := by
  refine am_Met.of (by decide) (Nat.le_of_ble_eq_true rfl) rfl ?_
  refine A_aload_n (pc := 0) (i := 2) dX2_moves_0 rfl rfl ?_
  refine A_bipush (pc := 1) (11) dX2_moves_1 (by decide) ?_
  refine A_callV0 (pc := 3) cv_X2_48 (s_tradd l t ta ht hs (11)) ht.1 rfl rfl rfl rfl (Nat.le_of_ble_eq_true rfl) ⟨(Nat.le_of_ble_eq_true rfl), (Nat.le_of_ble_eq_true rfl)⟩ ⟨Nat.zero_le _, Nat.zero_le _⟩ dX2_moves_3 ?_
  refine A_aload_n (pc := 6) (i := 0) dX2_moves_6 rfl rfl ?_
  refine A_iload_n (pc := 7) (i := 1) dX2_moves_7 rfl rfl ?_
  refine A_aload_n (pc := 8) (i := 2) dX2_moves_8 rfl rfl ?_
  refine A_callU1 (r := (RX0, TX0, 3)) (pc := 9) cu_X2_54_0 (s_vg_0 l n hk t ta ht h1 h2 (rw_L_ok ht hs) _) hk rfl rfl rfl (Nat.le_of_ble_eq_true rfl) ⟨(Nat.le_of_ble_eq_true rfl), (Nat.le_of_ble_eq_true rfl)⟩ ⟨Nat.zero_le _, Nat.zero_le _⟩ dX2_moves_9 ?_
  refine A_iconst (pc := 12) (2) dX2_moves_12 (by decide) ?_
  refine A_imul (pc := 13) dX2_moves_13 ?_
  exact A_iretE (pc := 14) dX2_moves_14 rfl (Nat.zero_le _) (Nat.zero_le _) (by (try simp only [rw_L_n h1 h2]); (try simp [vo_goes, vo_m0, vo_ends, vo_moves, vo_t0, vo_tells])) (by (try simp only [rw_L_n h1 h2]); (try simp only [vo_goes, vo_m0, vo_ends, vo_moves, vo_t0, vo_tells]); (try simp); (try simp only [rw_L_c t ta 40 _ (_ :: _), rw_L_app]))
set_option maxRecDepth 20000 in
theorem s_m0_9 (l : Launch) {kd : am_kd} {rv : am_rv} {iv : am_iv} (n : am_N) (hk : kd n = some (.inl 9)) (t ta : am_N) (ht : tr_ok kd rv t ta 40) (h1 : n ≠ t) (h2 : n ≠ ta) (hs : rw_ok t 40 iv) (x : Int32) : am_Met l mX2_moves (am_rm 3 0 0) [am_P n, am_I x, am_P t] kd rv iv (am_ret (some (am_I (vo_m0 4 (iv n) x).1)) kd rv (rw_L t ta 40 (vo_m0 4 (iv n) x).2 iv)) := by
  refine am_Met.of (by decide) (Nat.le_of_ble_eq_true rfl) rfl ?_
  refine A_aload_n (pc := 0) (i := 2) dX2_moves_0 rfl rfl ?_
  refine A_bipush (pc := 1) (11) dX2_moves_1 (by decide) ?_
  refine A_callV0 (pc := 3) cv_X2_48 (s_tradd l t ta ht hs (11)) ht.1 rfl rfl rfl rfl (Nat.le_of_ble_eq_true rfl) ⟨(Nat.le_of_ble_eq_true rfl), (Nat.le_of_ble_eq_true rfl)⟩ ⟨Nat.zero_le _, Nat.zero_le _⟩ dX2_moves_3 ?_
  refine A_aload_n (pc := 6) (i := 0) dX2_moves_6 rfl rfl ?_
  refine A_iload_n (pc := 7) (i := 1) dX2_moves_7 rfl rfl ?_
  refine A_aload_n (pc := 8) (i := 2) dX2_moves_8 rfl rfl ?_
  refine A_callU1 (r := (RX9, TX9, 3)) (pc := 9) cu_X2_54_9 (s_g4 l n hk t ta ht h1 h2 (rw_L_ok ht hs) _) hk rfl rfl rfl (Nat.le_of_ble_eq_true rfl) ⟨(Nat.le_of_ble_eq_true rfl), (Nat.le_of_ble_eq_true rfl)⟩ ⟨Nat.zero_le _, Nat.zero_le _⟩ dX2_moves_9 ?_
  refine A_iconst (pc := 12) (2) dX2_moves_12 (by decide) ?_
  refine A_imul (pc := 13) dX2_moves_13 ?_
  exact A_iretE (pc := 14) dX2_moves_14 rfl (Nat.zero_le _) (Nat.zero_le _) (by (try simp only [rw_L_n h1 h2]); (try simp [vo_goes, vo_m0, vo_ends, vo_moves, vo_t0, vo_tells])) (by (try simp only [rw_L_n h1 h2]); (try simp only [vo_goes, vo_m0, vo_ends, vo_moves, vo_t0, vo_tells]); (try simp); (try simp only [rw_L_c t ta 40 _ (_ :: _), rw_L_app]))
set_option maxRecDepth 20000 in
theorem s_m0_10 (l : Launch) {kd : am_kd} {rv : am_rv} {iv : am_iv} (n : am_N) (hk : kd n = some (.inl 10)) (t ta : am_N) (ht : tr_ok kd rv t ta 40) (h1 : n ≠ t) (h2 : n ≠ ta) (hs : rw_ok t 40 iv) (x : Int32) : am_Met l mX2_moves (am_rm 3 0 0) [am_P n, am_I x, am_P t] kd rv iv (am_ret (some (am_I (vo_m0 5 (iv n) x).1)) kd rv (rw_L t ta 40 (vo_m0 5 (iv n) x).2 iv)) := by
  refine am_Met.of (by decide) (Nat.le_of_ble_eq_true rfl) rfl ?_
  refine A_aload_n (pc := 0) (i := 2) dX2_moves_0 rfl rfl ?_
  refine A_bipush (pc := 1) (11) dX2_moves_1 (by decide) ?_
  refine A_callV0 (pc := 3) cv_X2_48 (s_tradd l t ta ht hs (11)) ht.1 rfl rfl rfl rfl (Nat.le_of_ble_eq_true rfl) ⟨(Nat.le_of_ble_eq_true rfl), (Nat.le_of_ble_eq_true rfl)⟩ ⟨Nat.zero_le _, Nat.zero_le _⟩ dX2_moves_3 ?_
  refine A_aload_n (pc := 6) (i := 0) dX2_moves_6 rfl rfl ?_
  refine A_iload_n (pc := 7) (i := 1) dX2_moves_7 rfl rfl ?_
  refine A_aload_n (pc := 8) (i := 2) dX2_moves_8 rfl rfl ?_
  refine A_callU1 (r := (RX10, TX10, 3)) (pc := 9) cu_X2_54_10 (s_vg_10 l n hk t ta ht h1 h2 (rw_L_ok ht hs) _) hk rfl rfl rfl (Nat.le_of_ble_eq_true rfl) ⟨(Nat.le_of_ble_eq_true rfl), (Nat.le_of_ble_eq_true rfl)⟩ ⟨Nat.zero_le _, Nat.zero_le _⟩ dX2_moves_9 ?_
  refine A_iconst (pc := 12) (2) dX2_moves_12 (by decide) ?_
  refine A_imul (pc := 13) dX2_moves_13 ?_
  exact A_iretE (pc := 14) dX2_moves_14 rfl (Nat.zero_le _) (Nat.zero_le _) (by (try simp only [rw_L_n h1 h2]); (try simp [vo_goes, vo_m0, vo_ends, vo_moves, vo_t0, vo_tells])) (by (try simp only [rw_L_n h1 h2]); (try simp only [vo_goes, vo_m0, vo_ends, vo_moves, vo_t0, vo_tells]); (try simp); (try simp only [rw_L_c t ta 40 _ (_ :: _), rw_L_app]))
set_option maxRecDepth 20000 in
theorem s_m0_6 (l : Launch) {kd : am_kd} {rv : am_rv} {iv : am_iv} (n : am_N) (hk : kd n = some (.inl 6)) (t ta : am_N) (ht : tr_ok kd rv t ta 40) (h1 : n ≠ t) (h2 : n ≠ ta) (hs : rw_ok t 40 iv) (x : Int32) : am_Met l mX2_moves (am_rm 3 0 0) [am_P n, am_I x, am_P t] kd rv iv (am_ret (some (am_I (vo_m0 6 (iv n) x).1)) kd rv (rw_L t ta 40 (vo_m0 6 (iv n) x).2 iv)) := by
  refine am_Met.of (by decide) (Nat.le_of_ble_eq_true rfl) rfl ?_
  refine A_aload_n (pc := 0) (i := 2) dX2_moves_0 rfl rfl ?_
  refine A_bipush (pc := 1) (11) dX2_moves_1 (by decide) ?_
  refine A_callV0 (pc := 3) cv_X2_48 (s_tradd l t ta ht hs (11)) ht.1 rfl rfl rfl rfl (Nat.le_of_ble_eq_true rfl) ⟨(Nat.le_of_ble_eq_true rfl), (Nat.le_of_ble_eq_true rfl)⟩ ⟨Nat.zero_le _, Nat.zero_le _⟩ dX2_moves_3 ?_
  refine A_aload_n (pc := 6) (i := 0) dX2_moves_6 rfl rfl ?_
  refine A_iload_n (pc := 7) (i := 1) dX2_moves_7 rfl rfl ?_
  refine A_aload_n (pc := 8) (i := 2) dX2_moves_8 rfl rfl ?_
  refine A_callU1 (r := (RX6, TX6, 3)) (pc := 9) cu_X2_54_6 (s_vg_6 l n hk t ta ht h1 h2 (rw_L_ok ht hs) _) hk rfl rfl rfl (Nat.le_of_ble_eq_true rfl) ⟨(Nat.le_of_ble_eq_true rfl), (Nat.le_of_ble_eq_true rfl)⟩ ⟨Nat.zero_le _, Nat.zero_le _⟩ dX2_moves_9 ?_
  refine A_iconst (pc := 12) (2) dX2_moves_12 (by decide) ?_
  refine A_imul (pc := 13) dX2_moves_13 ?_
  exact A_iretE (pc := 14) dX2_moves_14 rfl (Nat.zero_le _) (Nat.zero_le _) (by (try simp only [rw_L_n h1 h2]); (try simp [vo_goes, vo_m0, vo_ends, vo_moves, vo_t0, vo_tells])) (by (try simp only [rw_L_n h1 h2]); (try simp only [vo_goes, vo_m0, vo_ends, vo_moves, vo_t0, vo_tells]); (try simp); (try simp only [rw_L_c t ta 40 _ (_ :: _), rw_L_app]))
set_option maxRecDepth 20000 in
theorem s_m1 (l : Launch) {kd : am_kd} {rv : am_rv} {iv : am_iv} (n : am_N) (hk : kd n = some (.inl 8)) (t ta : am_N) (ht : tr_ok kd rv t ta 40) (h1 : n ≠ t) (h2 : n ≠ ta) (hs : rw_ok t 40 iv) (x : Int32) : am_Met l mX8_moves (am_rm 4 0 0) [am_P n, am_I x, am_P t] kd rv iv (am_ret (some (am_I (vo_moves 1 (iv n) x).1)) kd rv (rw_L t ta 40 (vo_moves 1 (iv n) x).2 iv)) := by
  refine am_Met.of (by decide) (Nat.le_of_ble_eq_true rfl) rfl ?_
  refine A_aload_n (pc := 0) (i := 2) dX8_moves_0 rfl rfl ?_
  refine A_bipush (pc := 1) (20) dX8_moves_1 (by decide) ?_
  refine A_callV0 (pc := 3) cv_X8_23 (s_tradd l t ta ht hs (20)) ht.1 rfl rfl rfl rfl (Nat.le_of_ble_eq_true rfl) ⟨(Nat.le_of_ble_eq_true rfl), (Nat.le_of_ble_eq_true rfl)⟩ ⟨Nat.zero_le _, Nat.zero_le _⟩ dX8_moves_3 ?_
  refine A_aload_n (pc := 6) (i := 0) dX8_moves_6 rfl rfl ?_
  refine A_iload_n (pc := 7) (i := 1) dX8_moves_7 rfl rfl ?_
  refine A_aload_n (pc := 8) (i := 2) dX8_moves_8 rfl rfl ?_
  refine A_callP1 (pc := 9) cp_X8_29 (s_m0_8 l n hk t ta ht h1 h2 (rw_L_ok ht hs) _) hk rfl rfl rfl (Nat.le_of_ble_eq_true rfl) ⟨(Nat.le_of_ble_eq_true rfl), (Nat.le_of_ble_eq_true rfl)⟩ ⟨Nat.zero_le _, Nat.zero_le _⟩ dX8_moves_9 ?_
  refine A_aload_n (pc := 12) (i := 0) dX8_moves_12 rfl rfl ?_
  refine A_iconst (pc := 13) (1) dX8_moves_13 (by decide) ?_
  refine A_aload_n (pc := 14) (i := 2) dX8_moves_14 rfl rfl ?_
  refine A_callU1 (r := (RX8, TX8, 3)) (pc := 15) cu_X8_33_8 (s_vn_8 l n hk t ta ht h1 h2 (rw_L_ok ht (rw_L_ok ht hs)) _) hk rfl rfl rfl (Nat.le_of_ble_eq_true rfl) ⟨(Nat.le_of_ble_eq_true rfl), (Nat.le_of_ble_eq_true rfl)⟩ ⟨Nat.zero_le _, Nat.zero_le _⟩ dX8_moves_15 ?_
  refine A_isub (pc := 18) dX8_moves_18 ?_
  exact A_iretE (pc := 19) dX8_moves_19 rfl (Nat.zero_le _) (Nat.zero_le _) (by (try simp only [rw_L_n h1 h2]); (try simp [vo_goes, vo_m0, vo_ends, vo_moves, vo_t0, vo_tells])) (by (try simp only [rw_L_n h1 h2]); (try simp only [vo_goes, vo_m0, vo_ends, vo_moves, vo_t0, vo_tells]); (try simp); (try simp only [rw_L_c t ta 40 _ (_ :: _), rw_L_app]))
set_option maxRecDepth 20000 in
theorem s_m5_10 (l : Launch) {kd : am_kd} {rv : am_rv} {iv : am_iv} (n : am_N) (hk : kd n = some (.inl 10)) (t ta : am_N) (ht : tr_ok kd rv t ta 40) (h1 : n ≠ t) (h2 : n ≠ ta) (hs : rw_ok t 40 iv) (x : Int32) : am_Met l mX10_moves (am_rm 4 0 0) [am_P n, am_I x, am_P t] kd rv iv (am_ret (some (am_I (vo_moves 5 (iv n) x).1)) kd rv (rw_L t ta 40 (vo_moves 5 (iv n) x).2 iv)) := by
  refine am_Met.of (by decide) (Nat.le_of_ble_eq_true rfl) rfl ?_
  refine A_aload_n (pc := 0) (i := 2) dX10_moves_0 rfl rfl ?_
  refine A_bipush (pc := 1) (60) dX10_moves_1 (by decide) ?_
  refine A_callV0 (pc := 3) cv_X10_33 (s_tradd l t ta ht hs (60)) ht.1 rfl rfl rfl rfl (Nat.le_of_ble_eq_true rfl) ⟨(Nat.le_of_ble_eq_true rfl), (Nat.le_of_ble_eq_true rfl)⟩ ⟨Nat.zero_le _, Nat.zero_le _⟩ dX10_moves_3 ?_
  refine A_aload_n (pc := 6) (i := 0) dX10_moves_6 rfl rfl ?_
  refine A_iload_n (pc := 7) (i := 1) dX10_moves_7 rfl rfl ?_
  refine A_aload_n (pc := 8) (i := 2) dX10_moves_8 rfl rfl ?_
  refine A_callP1 (pc := 9) cp_X10_39 (s_m0_10 l n hk t ta ht h1 h2 (rw_L_ok ht hs) _) hk rfl rfl rfl (Nat.le_of_ble_eq_true rfl) ⟨(Nat.le_of_ble_eq_true rfl), (Nat.le_of_ble_eq_true rfl)⟩ ⟨Nat.zero_le _, Nat.zero_le _⟩ dX10_moves_9 ?_
  refine A_aload_n (pc := 12) (i := 0) dX10_moves_12 rfl rfl ?_
  refine A_geti (pc := 13) 1 fl_X10_43_10 hk rfl dX10_moves_13 ?_
  refine A_ixor (pc := 16) dX10_moves_16 ?_
  exact A_iretE (pc := 17) dX10_moves_17 rfl (Nat.zero_le _) (Nat.zero_le _) (by (try simp only [rw_L_n h1 h2]); (try simp [vo_goes, vo_m0, vo_ends, vo_moves, vo_t0, vo_tells])) (by (try simp only [rw_L_n h1 h2]); (try simp only [vo_goes, vo_m0, vo_ends, vo_moves, vo_t0, vo_tells]); (try simp); (try simp only [rw_L_c t ta 40 _ (_ :: _), rw_L_app]))
set_option maxRecDepth 20000 in
theorem s_m5_6 (l : Launch) {kd : am_kd} {rv : am_rv} {iv : am_iv} (n : am_N) (hk : kd n = some (.inl 6)) (t ta : am_N) (ht : tr_ok kd rv t ta 40) (h1 : n ≠ t) (h2 : n ≠ ta) (hs : rw_ok t 40 iv) (x : Int32) : am_Met l mX10_moves (am_rm 4 0 0) [am_P n, am_I x, am_P t] kd rv iv (am_ret (some (am_I (vo_moves 6 (iv n) x).1)) kd rv (rw_L t ta 40 (vo_moves 6 (iv n) x).2 iv)) := by
  refine am_Met.of (by decide) (Nat.le_of_ble_eq_true rfl) rfl ?_
  refine A_aload_n (pc := 0) (i := 2) dX10_moves_0 rfl rfl ?_
  refine A_bipush (pc := 1) (60) dX10_moves_1 (by decide) ?_
  refine A_callV0 (pc := 3) cv_X10_33 (s_tradd l t ta ht hs (60)) ht.1 rfl rfl rfl rfl (Nat.le_of_ble_eq_true rfl) ⟨(Nat.le_of_ble_eq_true rfl), (Nat.le_of_ble_eq_true rfl)⟩ ⟨Nat.zero_le _, Nat.zero_le _⟩ dX10_moves_3 ?_
  refine A_aload_n (pc := 6) (i := 0) dX10_moves_6 rfl rfl ?_
  refine A_iload_n (pc := 7) (i := 1) dX10_moves_7 rfl rfl ?_
  refine A_aload_n (pc := 8) (i := 2) dX10_moves_8 rfl rfl ?_
  refine A_callP1 (pc := 9) cp_X10_39 (s_m0_6 l n hk t ta ht h1 h2 (rw_L_ok ht hs) _) hk rfl rfl rfl (Nat.le_of_ble_eq_true rfl) ⟨(Nat.le_of_ble_eq_true rfl), (Nat.le_of_ble_eq_true rfl)⟩ ⟨Nat.zero_le _, Nat.zero_le _⟩ dX10_moves_9 ?_
  refine A_aload_n (pc := 12) (i := 0) dX10_moves_12 rfl rfl ?_
  refine A_geti (pc := 13) 1 fl_X10_43_6 hk rfl dX10_moves_13 ?_
  refine A_ixor (pc := 16) dX10_moves_16 ?_
  exact A_iretE (pc := 17) dX10_moves_17 rfl (Nat.zero_le _) (Nat.zero_le _) (by (try simp only [rw_L_n h1 h2]); (try simp [vo_goes, vo_m0, vo_ends, vo_moves, vo_t0, vo_tells])) (by (try simp only [rw_L_n h1 h2]); (try simp only [vo_goes, vo_m0, vo_ends, vo_moves, vo_t0, vo_tells]); (try simp); (try simp only [rw_L_c t ta 40 _ (_ :: _), rw_L_app]))
theorem s_vm_2 (l : Launch) {kd : am_kd} {rv : am_rv} {iv : am_iv} (n : am_N) (hk : kd n = some (.inl 2)) (t ta : am_N) (ht : tr_ok kd rv t ta 40) (h1 : n ≠ t) (h2 : n ≠ ta) (hs : rw_ok t 40 iv) (x : Int32) : am_Met l mX2_moves (am_rm 3 0 0) [am_P n, am_I x, am_P t] kd rv iv (am_ret (some (am_I (vo_moves 0 (iv n) x).1)) kd rv (rw_L t ta 40 (vo_moves 0 (iv n) x).2 iv)) := s_m0_2 l n hk t ta ht h1 h2 hs x
theorem s_vm_1 (l : Launch) {kd : am_kd} {rv : am_rv} {iv : am_iv} (n : am_N) (hk : kd n = some (.inl 1)) (t ta : am_N) (ht : tr_ok kd rv t ta 40) (h1 : n ≠ t) (h2 : n ≠ ta) (hs : rw_ok t 40 iv) (x : Int32) : am_Met l mX2_moves (am_rm 3 0 0) [am_P n, am_I x, am_P t] kd rv iv (am_ret (some (am_I (vo_moves 2 (iv n) x).1)) kd rv (rw_L t ta 40 (vo_moves 2 (iv n) x).2 iv)) := s_m0_1 l n hk t ta ht h1 h2 hs x
theorem s_vm_0 (l : Launch) {kd : am_kd} {rv : am_rv} {iv : am_iv} (n : am_N) (hk : kd n = some (.inl 0)) (t ta : am_N) (ht : tr_ok kd rv t ta 40) (h1 : n ≠ t) (h2 : n ≠ ta) (hs : rw_ok t 40 iv) (x : Int32) : am_Met l mX2_moves (am_rm 3 0 0) [am_P n, am_I x, am_P t] kd rv iv (am_ret (some (am_I (vo_moves 3 (iv n) x).1)) kd rv (rw_L t ta 40 (vo_moves 3 (iv n) x).2 iv)) := s_m0_0 l n hk t ta ht h1 h2 hs x
theorem s_vm_9 (l : Launch) {kd : am_kd} {rv : am_rv} {iv : am_iv} (n : am_N) (hk : kd n = some (.inl 9)) (t ta : am_N) (ht : tr_ok kd rv t ta 40) (h1 : n ≠ t) (h2 : n ≠ ta) (hs : rw_ok t 40 iv) (x : Int32) : am_Met l mX2_moves (am_rm 3 0 0) [am_P n, am_I x, am_P t] kd rv iv (am_ret (some (am_I (vo_moves 4 (iv n) x).1)) kd rv (rw_L t ta 40 (vo_moves 4 (iv n) x).2 iv)) := s_m0_9 l n hk t ta ht h1 h2 hs x
set_option maxRecDepth 20000 in
theorem s_t0_2 (l : Launch) {kd : am_kd} {rv : am_rv} {iv : am_iv} (n : am_N) (hk : kd n = some (.inl 2)) (t ta : am_N) (ht : tr_ok kd rv t ta 40) (h1 : n ≠ t) (h2 : n ≠ ta) (hs : rw_ok t 40 iv) (x : Int32) : am_Met l mX2_tells (am_rm 5 0 0) [am_P n, am_I x, am_P t] kd rv iv (am_ret (some (am_I (vo_t0 0 (iv n) x).1)) kd rv (rw_L t ta 40 (vo_t0 0 (iv n) x).2 iv)) := by
  refine am_Met.of (by decide) (Nat.le_of_ble_eq_true rfl) rfl ?_
  refine A_aload_n (pc := 0) (i := 2) dX2_tells_0 rfl rfl ?_
  refine A_bipush (pc := 1) (13) dX2_tells_1 (by decide) ?_
  refine A_callV0 (pc := 3) cv_X2_48 (s_tradd l t ta ht hs (13)) ht.1 rfl rfl rfl rfl (Nat.le_of_ble_eq_true rfl) ⟨(Nat.le_of_ble_eq_true rfl), (Nat.le_of_ble_eq_true rfl)⟩ ⟨Nat.zero_le _, Nat.zero_le _⟩ dX2_tells_3 ?_
  refine A_aload_n (pc := 6) (i := 0) dX2_tells_6 rfl rfl ?_
  refine A_iload_n (pc := 7) (i := 1) dX2_tells_7 rfl rfl ?_
  refine A_aload_n (pc := 8) (i := 2) dX2_tells_8 rfl rfl ?_
  refine A_callU1 (r := (RX2, TX2, 3)) (pc := 9) cu_X2_58_2 (s_vm_2 l n hk t ta ht h1 h2 (rw_L_ok ht hs) _) hk rfl rfl rfl (Nat.le_of_ble_eq_true rfl) ⟨(Nat.le_of_ble_eq_true rfl), (Nat.le_of_ble_eq_true rfl)⟩ ⟨Nat.zero_le _, Nat.zero_le _⟩ dX2_tells_9 ?_
  refine A_aload_n (pc := 12) (i := 0) dX2_tells_12 rfl rfl ?_
  refine A_iload_n (pc := 13) (i := 1) dX2_tells_13 rfl rfl ?_
  refine A_aload_n (pc := 14) (i := 2) dX2_tells_14 rfl rfl ?_
  refine A_callU1 (r := (RX2, TX2, 3)) (pc := 15) cu_X2_61_2 (s_vn_2 l n hk t ta ht h1 h2 (rw_L_ok ht (rw_L_ok ht hs)) _) hk rfl rfl rfl (Nat.le_of_ble_eq_true rfl) ⟨(Nat.le_of_ble_eq_true rfl), (Nat.le_of_ble_eq_true rfl)⟩ ⟨Nat.zero_le _, Nat.zero_le _⟩ dX2_tells_15 ?_
  refine A_ixor (pc := 18) dX2_tells_18 ?_
  exact A_iretE (pc := 19) dX2_tells_19 rfl (Nat.zero_le _) (Nat.zero_le _) (by (try simp only [rw_L_n h1 h2]); (try simp [vo_goes, vo_m0, vo_ends, vo_moves, vo_t0, vo_tells])) (by (try simp only [rw_L_n h1 h2]); (try simp only [vo_goes, vo_m0, vo_ends, vo_moves, vo_t0, vo_tells]); (try simp); (try simp only [rw_L_c t ta 40 _ (_ :: _), rw_L_app]))
set_option maxRecDepth 20000 in
theorem s_t0_8 (l : Launch) {kd : am_kd} {rv : am_rv} {iv : am_iv} (n : am_N) (hk : kd n = some (.inl 8)) (t ta : am_N) (ht : tr_ok kd rv t ta 40) (h1 : n ≠ t) (h2 : n ≠ ta) (hs : rw_ok t 40 iv) (x : Int32) : am_Met l mX2_tells (am_rm 5 0 0) [am_P n, am_I x, am_P t] kd rv iv (am_ret (some (am_I (vo_t0 1 (iv n) x).1)) kd rv (rw_L t ta 40 (vo_t0 1 (iv n) x).2 iv)) := by
  refine am_Met.of (by decide) (Nat.le_of_ble_eq_true rfl) rfl ?_
  refine A_aload_n (pc := 0) (i := 2) dX2_tells_0 rfl rfl ?_
  refine A_bipush (pc := 1) (13) dX2_tells_1 (by decide) ?_
  refine A_callV0 (pc := 3) cv_X2_48 (s_tradd l t ta ht hs (13)) ht.1 rfl rfl rfl rfl (Nat.le_of_ble_eq_true rfl) ⟨(Nat.le_of_ble_eq_true rfl), (Nat.le_of_ble_eq_true rfl)⟩ ⟨Nat.zero_le _, Nat.zero_le _⟩ dX2_tells_3 ?_
  refine A_aload_n (pc := 6) (i := 0) dX2_tells_6 rfl rfl ?_
  refine A_iload_n (pc := 7) (i := 1) dX2_tells_7 rfl rfl ?_
  refine A_aload_n (pc := 8) (i := 2) dX2_tells_8 rfl rfl ?_
  refine A_callU1 (r := (RX8, TX8, 3)) (pc := 9) cu_X2_58_8 (s_m1 l n hk t ta ht h1 h2 (rw_L_ok ht hs) _) hk rfl rfl rfl (Nat.le_of_ble_eq_true rfl) ⟨(Nat.le_of_ble_eq_true rfl), (Nat.le_of_ble_eq_true rfl)⟩ ⟨Nat.zero_le _, Nat.zero_le _⟩ dX2_tells_9 ?_
  refine A_aload_n (pc := 12) (i := 0) dX2_tells_12 rfl rfl ?_
  refine A_iload_n (pc := 13) (i := 1) dX2_tells_13 rfl rfl ?_
  refine A_aload_n (pc := 14) (i := 2) dX2_tells_14 rfl rfl ?_
  refine A_callU1 (r := (RX8, TX8, 3)) (pc := 15) cu_X2_61_8 (s_vn_8 l n hk t ta ht h1 h2 (rw_L_ok ht (rw_L_ok ht hs)) _) hk rfl rfl rfl (Nat.le_of_ble_eq_true rfl) ⟨(Nat.le_of_ble_eq_true rfl), (Nat.le_of_ble_eq_true rfl)⟩ ⟨Nat.zero_le _, Nat.zero_le _⟩ dX2_tells_15 ?_
  refine A_ixor (pc := 18) dX2_tells_18 ?_
  exact A_iretE (pc := 19) dX2_tells_19 rfl (Nat.zero_le _) (Nat.zero_le _) (by (try simp only [rw_L_n h1 h2]); (try simp [vo_goes, vo_m0, vo_ends, vo_moves, vo_t0, vo_tells])) (by (try simp only [rw_L_n h1 h2]); (try simp only [vo_goes, vo_m0, vo_ends, vo_moves, vo_t0, vo_tells]); (try simp); (try simp only [rw_L_c t ta 40 _ (_ :: _), rw_L_app]))
set_option maxRecDepth 20000 in
theorem s_t0_1 (l : Launch) {kd : am_kd} {rv : am_rv} {iv : am_iv} (n : am_N) (hk : kd n = some (.inl 1)) (t ta : am_N) (ht : tr_ok kd rv t ta 40) (h1 : n ≠ t) (h2 : n ≠ ta) (hs : rw_ok t 40 iv) (x : Int32) : am_Met l mX2_tells (am_rm 5 0 0) [am_P n, am_I x, am_P t] kd rv iv (am_ret (some (am_I (vo_t0 2 (iv n) x).1)) kd rv (rw_L t ta 40 (vo_t0 2 (iv n) x).2 iv)) := by
  refine am_Met.of (by decide) (Nat.le_of_ble_eq_true rfl) rfl ?_
  refine A_aload_n (pc := 0) (i := 2) dX2_tells_0 rfl rfl ?_
  refine A_bipush (pc := 1) (13) dX2_tells_1 (by decide) ?_
  refine A_callV0 (pc := 3) cv_X2_48 (s_tradd l t ta ht hs (13)) ht.1 rfl rfl rfl rfl (Nat.le_of_ble_eq_true rfl) ⟨(Nat.le_of_ble_eq_true rfl), (Nat.le_of_ble_eq_true rfl)⟩ ⟨Nat.zero_le _, Nat.zero_le _⟩ dX2_tells_3 ?_
  refine A_aload_n (pc := 6) (i := 0) dX2_tells_6 rfl rfl ?_
  refine A_iload_n (pc := 7) (i := 1) dX2_tells_7 rfl rfl ?_
  refine A_aload_n (pc := 8) (i := 2) dX2_tells_8 rfl rfl ?_
  refine A_callU1 (r := (RX1, TX1, 3)) (pc := 9) cu_X2_58_1 (s_vm_1 l n hk t ta ht h1 h2 (rw_L_ok ht hs) _) hk rfl rfl rfl (Nat.le_of_ble_eq_true rfl) ⟨(Nat.le_of_ble_eq_true rfl), (Nat.le_of_ble_eq_true rfl)⟩ ⟨Nat.zero_le _, Nat.zero_le _⟩ dX2_tells_9 ?_
  refine A_aload_n (pc := 12) (i := 0) dX2_tells_12 rfl rfl ?_
  refine A_iload_n (pc := 13) (i := 1) dX2_tells_13 rfl rfl ?_
  refine A_aload_n (pc := 14) (i := 2) dX2_tells_14 rfl rfl ?_
  refine A_callU1 (r := (RX1, TX1, 3)) (pc := 15) cu_X2_61_1 (s_vn_1 l n hk t ta ht h1 h2 (rw_L_ok ht (rw_L_ok ht hs)) _) hk rfl rfl rfl (Nat.le_of_ble_eq_true rfl) ⟨(Nat.le_of_ble_eq_true rfl), (Nat.le_of_ble_eq_true rfl)⟩ ⟨Nat.zero_le _, Nat.zero_le _⟩ dX2_tells_15 ?_
  refine A_ixor (pc := 18) dX2_tells_18 ?_
  exact A_iretE (pc := 19) dX2_tells_19 rfl (Nat.zero_le _) (Nat.zero_le _) (by (try simp only [rw_L_n h1 h2]); (try simp [vo_goes, vo_m0, vo_ends, vo_moves, vo_t0, vo_tells])) (by (try simp only [rw_L_n h1 h2]); (try simp only [vo_goes, vo_m0, vo_ends, vo_moves, vo_t0, vo_tells]); (try simp); (try simp only [rw_L_c t ta 40 _ (_ :: _), rw_L_app]))
set_option maxRecDepth 20000 in
theorem s_t0_0 (l : Launch) {kd : am_kd} {rv : am_rv} {iv : am_iv} (n : am_N) (hk : kd n = some (.inl 0)) (t ta : am_N) (ht : tr_ok kd rv t ta 40) (h1 : n ≠ t) (h2 : n ≠ ta) (hs : rw_ok t 40 iv) (x : Int32) : am_Met l mX2_tells (am_rm 5 0 0) [am_P n, am_I x, am_P t] kd rv iv (am_ret (some (am_I (vo_t0 3 (iv n) x).1)) kd rv (rw_L t ta 40 (vo_t0 3 (iv n) x).2 iv)) := by
  refine am_Met.of (by decide) (Nat.le_of_ble_eq_true rfl) rfl ?_
  refine A_aload_n (pc := 0) (i := 2) dX2_tells_0 rfl rfl ?_
  refine A_bipush (pc := 1) (13) dX2_tells_1 (by decide) ?_
  refine A_callV0 (pc := 3) cv_X2_48 (s_tradd l t ta ht hs (13)) ht.1 rfl rfl rfl rfl (Nat.le_of_ble_eq_true rfl) ⟨(Nat.le_of_ble_eq_true rfl), (Nat.le_of_ble_eq_true rfl)⟩ ⟨Nat.zero_le _, Nat.zero_le _⟩ dX2_tells_3 ?_
  refine A_aload_n (pc := 6) (i := 0) dX2_tells_6 rfl rfl ?_
  refine A_iload_n (pc := 7) (i := 1) dX2_tells_7 rfl rfl ?_
  refine A_aload_n (pc := 8) (i := 2) dX2_tells_8 rfl rfl ?_
  refine A_callU1 (r := (RX0, TX0, 3)) (pc := 9) cu_X2_58_0 (s_vm_0 l n hk t ta ht h1 h2 (rw_L_ok ht hs) _) hk rfl rfl rfl (Nat.le_of_ble_eq_true rfl) ⟨(Nat.le_of_ble_eq_true rfl), (Nat.le_of_ble_eq_true rfl)⟩ ⟨Nat.zero_le _, Nat.zero_le _⟩ dX2_tells_9 ?_
  refine A_aload_n (pc := 12) (i := 0) dX2_tells_12 rfl rfl ?_
  refine A_iload_n (pc := 13) (i := 1) dX2_tells_13 rfl rfl ?_
  refine A_aload_n (pc := 14) (i := 2) dX2_tells_14 rfl rfl ?_
  refine A_callU1 (r := (RX0, TX0, 3)) (pc := 15) cu_X2_61_0 (s_n3_0 l n hk t ta ht h1 h2 (rw_L_ok ht (rw_L_ok ht hs)) _) hk rfl rfl rfl (Nat.le_of_ble_eq_true rfl) ⟨(Nat.le_of_ble_eq_true rfl), (Nat.le_of_ble_eq_true rfl)⟩ ⟨Nat.zero_le _, Nat.zero_le _⟩ dX2_tells_15 ?_
  refine A_ixor (pc := 18) dX2_tells_18 ?_
  exact A_iretE (pc := 19) dX2_tells_19 rfl (Nat.zero_le _) (Nat.zero_le _) (by (try simp only [rw_L_n h1 h2]); (try simp [vo_goes, vo_m0, vo_ends, vo_moves, vo_t0, vo_tells])) (by (try simp only [rw_L_n h1 h2]); (try simp only [vo_goes, vo_m0, vo_ends, vo_moves, vo_t0, vo_tells]); (try simp); (try simp only [rw_L_c t ta 40 _ (_ :: _), rw_L_app]))
set_option maxRecDepth 20000 in
theorem s_t0_9 (l : Launch) {kd : am_kd} {rv : am_rv} {iv : am_iv} (n : am_N) (hk : kd n = some (.inl 9)) (t ta : am_N) (ht : tr_ok kd rv t ta 40) (h1 : n ≠ t) (h2 : n ≠ ta) (hs : rw_ok t 40 iv) (x : Int32) : am_Met l mX2_tells (am_rm 5 0 0) [am_P n, am_I x, am_P t] kd rv iv (am_ret (some (am_I (vo_t0 4 (iv n) x).1)) kd rv (rw_L t ta 40 (vo_t0 4 (iv n) x).2 iv)) := by
  refine am_Met.of (by decide) (Nat.le_of_ble_eq_true rfl) rfl ?_
  refine A_aload_n (pc := 0) (i := 2) dX2_tells_0 rfl rfl ?_
  refine A_bipush (pc := 1) (13) dX2_tells_1 (by decide) ?_
  refine A_callV0 (pc := 3) cv_X2_48 (s_tradd l t ta ht hs (13)) ht.1 rfl rfl rfl rfl (Nat.le_of_ble_eq_true rfl) ⟨(Nat.le_of_ble_eq_true rfl), (Nat.le_of_ble_eq_true rfl)⟩ ⟨Nat.zero_le _, Nat.zero_le _⟩ dX2_tells_3 ?_
  refine A_aload_n (pc := 6) (i := 0) dX2_tells_6 rfl rfl ?_
  refine A_iload_n (pc := 7) (i := 1) dX2_tells_7 rfl rfl ?_
  refine A_aload_n (pc := 8) (i := 2) dX2_tells_8 rfl rfl ?_
  refine A_callU1 (r := (RX9, TX9, 3)) (pc := 9) cu_X2_58_9 (s_vm_9 l n hk t ta ht h1 h2 (rw_L_ok ht hs) _) hk rfl rfl rfl (Nat.le_of_ble_eq_true rfl) ⟨(Nat.le_of_ble_eq_true rfl), (Nat.le_of_ble_eq_true rfl)⟩ ⟨Nat.zero_le _, Nat.zero_le _⟩ dX2_tells_9 ?_
  refine A_aload_n (pc := 12) (i := 0) dX2_tells_12 rfl rfl ?_
  refine A_iload_n (pc := 13) (i := 1) dX2_tells_13 rfl rfl ?_
  refine A_aload_n (pc := 14) (i := 2) dX2_tells_14 rfl rfl ?_
  refine A_callU1 (r := (RX9, TX9, 3)) (pc := 15) cu_X2_61_9 (s_n3_9 l n hk t ta ht h1 h2 (rw_L_ok ht (rw_L_ok ht hs)) _) hk rfl rfl rfl (Nat.le_of_ble_eq_true rfl) ⟨(Nat.le_of_ble_eq_true rfl), (Nat.le_of_ble_eq_true rfl)⟩ ⟨Nat.zero_le _, Nat.zero_le _⟩ dX2_tells_15 ?_
  refine A_ixor (pc := 18) dX2_tells_18 ?_
  exact A_iretE (pc := 19) dX2_tells_19 rfl (Nat.zero_le _) (Nat.zero_le _) (by (try simp only [rw_L_n h1 h2]); (try simp [vo_goes, vo_m0, vo_ends, vo_moves, vo_t0, vo_tells])) (by (try simp only [rw_L_n h1 h2]); (try simp only [vo_goes, vo_m0, vo_ends, vo_moves, vo_t0, vo_tells]); (try simp); (try simp only [rw_L_c t ta 40 _ (_ :: _), rw_L_app]))
set_option maxRecDepth 20000 in
theorem s_t0_10 (l : Launch) {kd : am_kd} {rv : am_rv} {iv : am_iv} (n : am_N) (hk : kd n = some (.inl 10)) (t ta : am_N) (ht : tr_ok kd rv t ta 40) (h1 : n ≠ t) (h2 : n ≠ ta) (hs : rw_ok t 40 iv) (x : Int32) : am_Met l mX2_tells (am_rm 5 0 0) [am_P n, am_I x, am_P t] kd rv iv (am_ret (some (am_I (vo_t0 5 (iv n) x).1)) kd rv (rw_L t ta 40 (vo_t0 5 (iv n) x).2 iv)) := by
  refine am_Met.of (by decide) (Nat.le_of_ble_eq_true rfl) rfl ?_
  refine A_aload_n (pc := 0) (i := 2) dX2_tells_0 rfl rfl ?_
  refine A_bipush (pc := 1) (13) dX2_tells_1 (by decide) ?_
  refine A_callV0 (pc := 3) cv_X2_48 (s_tradd l t ta ht hs (13)) ht.1 rfl rfl rfl rfl (Nat.le_of_ble_eq_true rfl) ⟨(Nat.le_of_ble_eq_true rfl), (Nat.le_of_ble_eq_true rfl)⟩ ⟨Nat.zero_le _, Nat.zero_le _⟩ dX2_tells_3 ?_
  refine A_aload_n (pc := 6) (i := 0) dX2_tells_6 rfl rfl ?_
  refine A_iload_n (pc := 7) (i := 1) dX2_tells_7 rfl rfl ?_
  refine A_aload_n (pc := 8) (i := 2) dX2_tells_8 rfl rfl ?_
  refine A_callU1 (r := (RX10, TX10, 3)) (pc := 9) cu_X2_58_10 (s_m5_10 l n hk t ta ht h1 h2 (rw_L_ok ht hs) _) hk rfl rfl rfl (Nat.le_of_ble_eq_true rfl) ⟨(Nat.le_of_ble_eq_true rfl), (Nat.le_of_ble_eq_true rfl)⟩ ⟨Nat.zero_le _, Nat.zero_le _⟩ dX2_tells_9 ?_
  refine A_aload_n (pc := 12) (i := 0) dX2_tells_12 rfl rfl ?_
  refine A_iload_n (pc := 13) (i := 1) dX2_tells_13 rfl rfl ?_
  refine A_aload_n (pc := 14) (i := 2) dX2_tells_14 rfl rfl ?_
  refine A_callU1 (r := (RX10, TX10, 3)) (pc := 15) cu_X2_61_10 (s_vn_10 l n hk t ta ht h1 h2 (rw_L_ok ht (rw_L_ok ht hs)) _) hk rfl rfl rfl (Nat.le_of_ble_eq_true rfl) ⟨(Nat.le_of_ble_eq_true rfl), (Nat.le_of_ble_eq_true rfl)⟩ ⟨Nat.zero_le _, Nat.zero_le _⟩ dX2_tells_15 ?_
  refine A_ixor (pc := 18) dX2_tells_18 ?_
  exact A_iretE (pc := 19) dX2_tells_19 rfl (Nat.zero_le _) (Nat.zero_le _) (by (try simp only [rw_L_n h1 h2]); (try simp [vo_goes, vo_m0, vo_ends, vo_moves, vo_t0, vo_tells])) (by (try simp only [rw_L_n h1 h2]); (try simp only [vo_goes, vo_m0, vo_ends, vo_moves, vo_t0, vo_tells]); (try simp); (try simp only [rw_L_c t ta 40 _ (_ :: _), rw_L_app]))
set_option maxRecDepth 20000 in
theorem s_t0_6 (l : Launch) {kd : am_kd} {rv : am_rv} {iv : am_iv} (n : am_N) (hk : kd n = some (.inl 6)) (t ta : am_N) (ht : tr_ok kd rv t ta 40) (h1 : n ≠ t) (h2 : n ≠ ta) (hs : rw_ok t 40 iv) (x : Int32) : am_Met l mX2_tells (am_rm 5 0 0) [am_P n, am_I x, am_P t] kd rv iv (am_ret (some (am_I (vo_t0 6 (iv n) x).1)) kd rv (rw_L t ta 40 (vo_t0 6 (iv n) x).2 iv)) := by
  refine am_Met.of (by decide) (Nat.le_of_ble_eq_true rfl) rfl ?_
  refine A_aload_n (pc := 0) (i := 2) dX2_tells_0 rfl rfl ?_
  refine A_bipush (pc := 1) (13) dX2_tells_1 (by decide) ?_
  refine A_callV0 (pc := 3) cv_X2_48 (s_tradd l t ta ht hs (13)) ht.1 rfl rfl rfl rfl (Nat.le_of_ble_eq_true rfl) ⟨(Nat.le_of_ble_eq_true rfl), (Nat.le_of_ble_eq_true rfl)⟩ ⟨Nat.zero_le _, Nat.zero_le _⟩ dX2_tells_3 ?_
  refine A_aload_n (pc := 6) (i := 0) dX2_tells_6 rfl rfl ?_
  refine A_iload_n (pc := 7) (i := 1) dX2_tells_7 rfl rfl ?_
  refine A_aload_n (pc := 8) (i := 2) dX2_tells_8 rfl rfl ?_
  refine A_callU1 (r := (RX6, TX6, 3)) (pc := 9) cu_X2_58_6 (s_m5_6 l n hk t ta ht h1 h2 (rw_L_ok ht hs) _) hk rfl rfl rfl (Nat.le_of_ble_eq_true rfl) ⟨(Nat.le_of_ble_eq_true rfl), (Nat.le_of_ble_eq_true rfl)⟩ ⟨Nat.zero_le _, Nat.zero_le _⟩ dX2_tells_9 ?_
  refine A_aload_n (pc := 12) (i := 0) dX2_tells_12 rfl rfl ?_
  refine A_iload_n (pc := 13) (i := 1) dX2_tells_13 rfl rfl ?_
  refine A_aload_n (pc := 14) (i := 2) dX2_tells_14 rfl rfl ?_
  refine A_callU1 (r := (RX6, TX6, 3)) (pc := 15) cu_X2_61_6 (s_n6 l n hk t ta ht h1 h2 (rw_L_ok ht (rw_L_ok ht hs)) _) hk rfl rfl rfl (Nat.le_of_ble_eq_true rfl) ⟨(Nat.le_of_ble_eq_true rfl), (Nat.le_of_ble_eq_true rfl)⟩ ⟨Nat.zero_le _, Nat.zero_le _⟩ dX2_tells_15 ?_
  refine A_ixor (pc := 18) dX2_tells_18 ?_
  exact A_iretE (pc := 19) dX2_tells_19 rfl (Nat.zero_le _) (Nat.zero_le _) (by (try simp only [rw_L_n h1 h2]); (try simp [vo_goes, vo_m0, vo_ends, vo_moves, vo_t0, vo_tells])) (by (try simp only [rw_L_n h1 h2]); (try simp only [vo_goes, vo_m0, vo_ends, vo_moves, vo_t0, vo_tells]); (try simp); (try simp only [rw_L_c t ta 40 _ (_ :: _), rw_L_app]))
set_option maxRecDepth 20000 in
theorem s_t4 (l : Launch) {kd : am_kd} {rv : am_rv} {iv : am_iv} (n : am_N) (hk : kd n = some (.inl 9)) (t ta : am_N) (ht : tr_ok kd rv t ta 40) (h1 : n ≠ t) (h2 : n ≠ ta) (hs : rw_ok t 40 iv) (x : Int32) : am_Met l mX9_tells (am_rm 6 0 0) [am_P n, am_I x, am_P t] kd rv iv (am_ret (some (am_I (vo_tells 4 (iv n) x).1)) kd rv (rw_L t ta 40 (vo_tells 4 (iv n) x).2 iv)) := by
  refine am_Met.of (by decide) (Nat.le_of_ble_eq_true rfl) rfl ?_
  refine A_aload_n (pc := 0) (i := 2) dX9_tells_0 rfl rfl ?_
  refine A_bipush (pc := 1) (51) dX9_tells_1 (by decide) ?_
  refine A_callV0 (pc := 3) cv_X9_19 (s_tradd l t ta ht hs (51)) ht.1 rfl rfl rfl rfl (Nat.le_of_ble_eq_true rfl) ⟨(Nat.le_of_ble_eq_true rfl), (Nat.le_of_ble_eq_true rfl)⟩ ⟨Nat.zero_le _, Nat.zero_le _⟩ dX9_tells_3 ?_
  refine A_aload_n (pc := 6) (i := 0) dX9_tells_6 rfl rfl ?_
  refine A_iload_n (pc := 7) (i := 1) dX9_tells_7 rfl rfl ?_
  refine A_aload_n (pc := 8) (i := 2) dX9_tells_8 rfl rfl ?_
  refine A_callQ1 (pc := 9) cq_X9_29 (s_t0_9 l n hk t ta ht h1 h2 (rw_L_ok ht hs) _) hk rfl rfl rfl (Nat.le_of_ble_eq_true rfl) ⟨(Nat.le_of_ble_eq_true rfl), (Nat.le_of_ble_eq_true rfl)⟩ ⟨Nat.zero_le _, Nat.zero_le _⟩ dX9_tells_9 ?_
  refine A_aload_n (pc := 12) (i := 0) dX9_tells_12 rfl rfl ?_
  refine A_iconst (pc := 13) (2) dX9_tells_13 (by decide) ?_
  refine A_aload_n (pc := 14) (i := 2) dX9_tells_14 rfl rfl ?_
  refine A_callV1 (pc := 15) cv_X9_32 (s_g4 l n hk t ta ht h1 h2 (rw_L_ok ht (rw_L_ok ht hs)) _) hk rfl rfl rfl rfl (Nat.le_of_ble_eq_true rfl) ⟨(Nat.le_of_ble_eq_true rfl), (Nat.le_of_ble_eq_true rfl)⟩ ⟨Nat.zero_le _, Nat.zero_le _⟩ dX9_tells_15 ?_
  refine A_isub (pc := 18) dX9_tells_18 ?_
  exact A_iretE (pc := 19) dX9_tells_19 rfl (Nat.zero_le _) (Nat.zero_le _) (by (try simp only [rw_L_n h1 h2]); (try simp [vo_goes, vo_m0, vo_ends, vo_moves, vo_t0, vo_tells])) (by (try simp only [rw_L_n h1 h2]); (try simp only [vo_goes, vo_m0, vo_ends, vo_moves, vo_t0, vo_tells]); (try simp); (try simp only [rw_L_c t ta 40 _ (_ :: _), rw_L_app]))
set_option maxRecDepth 20000 in
theorem s_t6 (l : Launch) {kd : am_kd} {rv : am_rv} {iv : am_iv} (n : am_N) (hk : kd n = some (.inl 6)) (t ta : am_N) (ht : tr_ok kd rv t ta 40) (h1 : n ≠ t) (h2 : n ≠ ta) (hs : rw_ok t 40 iv) (x : Int32) : am_Met l mX6_tells (am_rm 6 0 0) [am_P n, am_I x, am_P t] kd rv iv (am_ret (some (am_I (vo_tells 6 (iv n) x).1)) kd rv (rw_L t ta 40 (vo_tells 6 (iv n) x).2 iv)) := by
  refine am_Met.of (by decide) (Nat.le_of_ble_eq_true rfl) rfl ?_
  refine A_aload_n (pc := 0) (i := 2) dX6_tells_0 rfl rfl ?_
  refine A_bipush (pc := 1) (71) dX6_tells_1 (by decide) ?_
  refine A_callV0 (pc := 3) cv_X6_16 (s_tradd l t ta ht hs (71)) ht.1 rfl rfl rfl rfl (Nat.le_of_ble_eq_true rfl) ⟨(Nat.le_of_ble_eq_true rfl), (Nat.le_of_ble_eq_true rfl)⟩ ⟨Nat.zero_le _, Nat.zero_le _⟩ dX6_tells_3 ?_
  refine A_aload_n (pc := 6) (i := 0) dX6_tells_6 rfl rfl ?_
  refine A_iload_n (pc := 7) (i := 1) dX6_tells_7 rfl rfl ?_
  refine A_aload_n (pc := 8) (i := 2) dX6_tells_8 rfl rfl ?_
  refine A_callU1 (r := (RX6, TX6, 3)) (pc := 9) cu_X6_30_6 (s_m5_6 l n hk t ta ht h1 h2 (rw_L_ok ht hs) _) hk rfl rfl rfl (Nat.le_of_ble_eq_true rfl) ⟨(Nat.le_of_ble_eq_true rfl), (Nat.le_of_ble_eq_true rfl)⟩ ⟨Nat.zero_le _, Nat.zero_le _⟩ dX6_tells_9 ?_
  refine A_aload_n (pc := 12) (i := 0) dX6_tells_12 rfl rfl ?_
  refine A_iload_n (pc := 13) (i := 1) dX6_tells_13 rfl rfl ?_
  refine A_aload_n (pc := 14) (i := 2) dX6_tells_14 rfl rfl ?_
  refine A_callQ1 (pc := 15) cq_X6_33 (s_t0_6 l n hk t ta ht h1 h2 (rw_L_ok ht (rw_L_ok ht hs)) _) hk rfl rfl rfl (Nat.le_of_ble_eq_true rfl) ⟨(Nat.le_of_ble_eq_true rfl), (Nat.le_of_ble_eq_true rfl)⟩ ⟨Nat.zero_le _, Nat.zero_le _⟩ dX6_tells_15 ?_
  refine A_isub (pc := 18) dX6_tells_18 ?_
  exact A_iretE (pc := 19) dX6_tells_19 rfl (Nat.zero_le _) (Nat.zero_le _) (by (try simp only [rw_L_n h1 h2]); (try simp [vo_goes, vo_m0, vo_ends, vo_moves, vo_t0, vo_tells])) (by (try simp only [rw_L_n h1 h2]); (try simp only [vo_goes, vo_m0, vo_ends, vo_moves, vo_t0, vo_tells]); (try simp); (try simp only [rw_L_c t ta 40 _ (_ :: _), rw_L_app]))
theorem s_vt_2 (l : Launch) {kd : am_kd} {rv : am_rv} {iv : am_iv} (n : am_N) (hk : kd n = some (.inl 2)) (t ta : am_N) (ht : tr_ok kd rv t ta 40) (h1 : n ≠ t) (h2 : n ≠ ta) (hs : rw_ok t 40 iv) (x : Int32) : am_Met l mX2_tells (am_rm 5 0 0) [am_P n, am_I x, am_P t] kd rv iv (am_ret (some (am_I (vo_tells 0 (iv n) x).1)) kd rv (rw_L t ta 40 (vo_tells 0 (iv n) x).2 iv)) := s_t0_2 l n hk t ta ht h1 h2 hs x
theorem s_vt_8 (l : Launch) {kd : am_kd} {rv : am_rv} {iv : am_iv} (n : am_N) (hk : kd n = some (.inl 8)) (t ta : am_N) (ht : tr_ok kd rv t ta 40) (h1 : n ≠ t) (h2 : n ≠ ta) (hs : rw_ok t 40 iv) (x : Int32) : am_Met l mX2_tells (am_rm 5 0 0) [am_P n, am_I x, am_P t] kd rv iv (am_ret (some (am_I (vo_tells 1 (iv n) x).1)) kd rv (rw_L t ta 40 (vo_tells 1 (iv n) x).2 iv)) := s_t0_8 l n hk t ta ht h1 h2 hs x
theorem s_vt_1 (l : Launch) {kd : am_kd} {rv : am_rv} {iv : am_iv} (n : am_N) (hk : kd n = some (.inl 1)) (t ta : am_N) (ht : tr_ok kd rv t ta 40) (h1 : n ≠ t) (h2 : n ≠ ta) (hs : rw_ok t 40 iv) (x : Int32) : am_Met l mX2_tells (am_rm 5 0 0) [am_P n, am_I x, am_P t] kd rv iv (am_ret (some (am_I (vo_tells 2 (iv n) x).1)) kd rv (rw_L t ta 40 (vo_tells 2 (iv n) x).2 iv)) := s_t0_1 l n hk t ta ht h1 h2 hs x
theorem s_vt_0 (l : Launch) {kd : am_kd} {rv : am_rv} {iv : am_iv} (n : am_N) (hk : kd n = some (.inl 0)) (t ta : am_N) (ht : tr_ok kd rv t ta 40) (h1 : n ≠ t) (h2 : n ≠ ta) (hs : rw_ok t 40 iv) (x : Int32) : am_Met l mX2_tells (am_rm 5 0 0) [am_P n, am_I x, am_P t] kd rv iv (am_ret (some (am_I (vo_tells 3 (iv n) x).1)) kd rv (rw_L t ta 40 (vo_tells 3 (iv n) x).2 iv)) := s_t0_0 l n hk t ta ht h1 h2 hs x
theorem s_vt_10 (l : Launch) {kd : am_kd} {rv : am_rv} {iv : am_iv} (n : am_N) (hk : kd n = some (.inl 10)) (t ta : am_N) (ht : tr_ok kd rv t ta 40) (h1 : n ≠ t) (h2 : n ≠ ta) (hs : rw_ok t 40 iv) (x : Int32) : am_Met l mX2_tells (am_rm 5 0 0) [am_P n, am_I x, am_P t] kd rv iv (am_ret (some (am_I (vo_tells 5 (iv n) x).1)) kd rv (rw_L t ta 40 (vo_tells 5 (iv n) x).2 iv)) := s_t0_10 l n hk t ta ht h1 h2 hs x
