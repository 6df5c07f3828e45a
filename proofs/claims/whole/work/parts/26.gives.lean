theorem r_eitherx (l : Launch) {kd : am_kd} {rv : am_rv} {iv : am_iv} (hR : shr kd rv) (b n : Nat) (h7 : iv (30, 0, 0) 7 = nI b) (h9 : iv (30, 0, 0) 9 = nI n) (hbn : b + n ≤ 300) (U : ps → Int32 × ps) (hG : pG n U) (e d : Nat) (hd : 1 ≤ d) (hU : ∀ s : ps, s.1 ≤ n → e ≤ s.2.2 → s.2.2 ≤ 5 → am_Met l mX12_unit (am_rm d 0 0) [am_P (30, 0, 0)] kd rv (hp iv s) (am_ret (some (am_I (U s).1)) kd rv (hp iv (U s).2))) : ∀ s : ps, s.1 ≤ n → e ≤ s.2.2 → s.2.2 ≤ 5 → am_Met l mX12_either (am_rm (d + 5) 0 0) [am_P (30, 0, 0)] kd rv (hp iv s) (am_ret (some (am_I ((pE (fun p => iv (31, 0, 0) (b + p)) n U) s).1)) kd rv (hp iv ((pE (fun p => iv (31, 0, 0) (b + p)) n U) s).2)) :=
  r_either l hR b n h7 h9 hbn _ (pB_G (pC_G (pS_G (pP_G hG)))) e (d + 4) (by omega) (r_both l hR b n h7 h9 hbn _ (pC_G (pS_G (pP_G hG))) e (d + 3) (by omega) (r_compared l hR b n h7 h9 hbn _ (pS_G (pP_G hG)) e (d + 2) (by omega) (r_sum l hR b n h7 h9 hbn _ (pP_G hG) e (d + 1) (by omega) (r_product l hR b n h7 h9 hbn U hG e d hd hU))))
theorem r_unit (l : Launch) {kd : am_kd} {rv : am_rv} {iv : am_iv} (hR : shr kd rv) (b n : Nat) (h7 : iv (30, 0, 0) 7 = nI b) (h9 : iv (30, 0, 0) 9 = nI n) (hbn : b + n ≤ 300) (D : Nat) : ∀ s : ps, s.1 ≤ n → 5 - D ≤ s.2.2 → s.2.2 ≤ 5 → am_Met l mX12_unit (am_rm (6 * D + 2) 0 0) [am_P (30, 0, 0)] kd rv (hp iv s) (am_ret (some (am_I ((pU (fun p => iv (31, 0, 0) (b + p)) n (iv (30, 0, 0) 12) (fun q => iv (31, 13, 0) q) D) s).1)) kd rv (hp iv ((pU (fun p => iv (31, 0, 0) (b + p)) n (iv (30, 0, 0) 12) (fun q => iv (31, 13, 0) q) D) s).2)) := by
  induction D with
  | zero =>
    intro s h1 h2 h3
    have e5 : s.2.2 = 5 := by omega
    have h := r_unitx l hR b n h7 h9 hbn (fun s => (0, s)) (fun s h1 h2 => ⟨Nat.le_refl _, h1, Nat.le_refl _, h2⟩) 5 1 0 (Nat.le_refl 1) (Nat.zero_le 1) (fun s _ h2 h3 => by omega) (fun s _ h2 h3 => by omega) s h1 (by omega) h3
    have e : pUx (fun p => iv (31, 0, 0) (b + p)) n (iv (30, 0, 0) 12) (fun q => iv (31, 13, 0) q) (fun s => (0, s)) s = pU (fun p => iv (31, 0, 0) (b + p)) n (iv (30, 0, 0) 12) (fun q => iv (31, 13, 0) q) 0 s := by
      unfold pUx pU
      rw [if_pos e5]
    rw [e] at h
    exact h
  | succ D ih =>
    intro s h1 h2 h3
    have hE := r_eitherx l hR b n h7 h9 hbn _ (pU_G D) (5 - D) (6 * D + 2) (by omega) ih
    have h := r_unitx l hR b n h7 h9 hbn _ (pU_G (t := (fun p => iv (31, 0, 0) (b + p))) (n := n) (g := (iv (30, 0, 0) 12)) (nm := (fun q => iv (31, 13, 0) q)) D) (5 - (D + 1)) (6 * D + 2 + 5) (6 * D + 2) (by omega) (by omega) (fun s q1 q2 q3 => hE s q1 (by omega) q3) (fun s q1 q2 q3 => ih s q1 (by omega) q3) s h1 h2 h3
    exact h
/-- what a whole text gives, and where the reader stands then -/
def pT (t : Nat → Int32) (n : Nat) (g : Int32) (nm : Nat → Int32) : Int32 × ps := pE t n (pU t n g nm 5) (0, -1, 0)
def pV (t : Nat → Int32) (n : Nat) (g : Int32) (nm : Nat → Int32) : Int32 × ps := if (pT t n g nm).2.2.1 < 0 ∧ (pT t n g nm).2.1 < n then (0, pw (pT t n g nm).2) else pT t n g nm
theorem r_eitherT (l : Launch) {kd : am_kd} {rv : am_rv} {iv : am_iv} (hR : shr kd rv) (b n : Nat) (h7 : iv (30, 0, 0) 7 = nI b) (h9 : iv (30, 0, 0) 9 = nI n) (hbn : b + n ≤ 300) : am_Met l mX12_either (am_rm 37 0 0) [am_P (30, 0, 0)] kd rv (hp iv (0, -1, 0)) (am_ret (some (am_I (pT (fun p => iv (31, 0, 0) (b + p)) n (iv (30, 0, 0) 12) (fun q => iv (31, 13, 0) q)).1)) kd rv (hp iv (pT (fun p => iv (31, 0, 0) (b + p)) n (iv (30, 0, 0) 12) (fun q => iv (31, 13, 0) q)).2)) :=
  r_eitherx l hR b n h7 h9 hbn _ (pU_G 5) 0 32 (by omega) (r_unit l hR b n h7 h9 hbn 5) (0, -1, 0) (Nat.zero_le n) (Nat.le_refl 0) (Nat.zero_le 5)
def wk_iv (b n : Nat) (g : Int32) (iv : am_iv) : am_iv := am_ui (am_ui (am_ui iv (30, 0, 0) 7 (nI b)) (30, 0, 0) 9 (nI n)) (30, 0, 0) 12 g
theorem wk_hp (b n : Nat) (g : Int32) (iv : am_iv) : am_ui (am_ui (am_ui (am_ui (am_ui (am_ui iv (30, 0, 0) 7 (nI b)) (30, 0, 0) 8 0) (30, 0, 0) 9 (nI n)) (30, 0, 0) 10 (-1)) (30, 0, 0) 11 0) (30, 0, 0) 12 g = hp (wk_iv b n g iv) (0, -1, 0) := by
  funext m k
  simp only [am_ui, hp, wk_iv]
  by_cases e : m = (30, 0, 0)
  · subst e
    by_cases k8 : k = 8
    · subst k8; simp; rfl
    · by_cases k10 : k = 10
      · subst k10; simp
      · by_cases k11 : k = 11
        · subst k11; simp; rfl
        · simp [k8, k10, k11]
  · simp [e]
set_option maxRecDepth 20000 in
theorem r_worked (l : Launch) {kd : am_kd} {rv : am_rv} {iv : am_iv} (hR : shr kd rv) (b n : Nat) (hbn : b + n ≤ 300) (use : Int32) : am_Met l mX12_worked (am_rm 38 0 0) [am_P (30, 0, 0), am_I (nI b), am_I (nI n), am_I use] kd rv iv (am_ret (some (am_I (pV (fun p => iv (31, 0, 0) (b + p)) n (if use = 0 then 1 else 0) (fun q => iv (31, 13, 0) q)).1)) kd rv (hp (wk_iv b n (if use = 0 then 1 else 0) iv) (pV (fun p => iv (31, 0, 0) (b + p)) n (if use = 0 then 1 else 0) (fun q => iv (31, 13, 0) q)).2)) := by
  refine am_Met.of (by decide) (Nat.le_of_ble_eq_true rfl) rfl ?_
  refine A_aload_n (pc := 0) (i := 0) dX12_worked_0 rfl rfl ?_
  refine A_iload_n (pc := 1) (i := 1) dX12_worked_1 rfl rfl ?_
  refine A_puti (pc := 2) 7 fl_X12_140_12 hR.1 rfl (by decide +kernel) rfl rfl dX12_worked_2 ?_
  refine A_aload_n (pc := 5) (i := 0) dX12_worked_5 rfl rfl ?_
  refine A_iconst (pc := 6) (0) dX12_worked_6 (by decide) ?_
  refine A_puti (pc := 7) 8 fl_X12_130_12 hR.1 rfl (by decide +kernel) rfl rfl dX12_worked_7 ?_
  refine A_aload_n (pc := 10) (i := 0) dX12_worked_10 rfl rfl ?_
  refine A_iload_n (pc := 11) (i := 2) dX12_worked_11 rfl rfl ?_
  refine A_puti (pc := 12) 9 fl_X12_134_12 hR.1 rfl (by decide +kernel) rfl rfl dX12_worked_12 ?_
  refine A_aload_n (pc := 15) (i := 0) dX12_worked_15 rfl rfl ?_
  refine A_iconst (pc := 16) (-1) dX12_worked_16 (by decide) ?_
  refine A_puti (pc := 17) 10 fl_X12_137_12 hR.1 rfl (by decide +kernel) rfl rfl dX12_worked_17 ?_
  refine A_aload_n (pc := 20) (i := 0) dX12_worked_20 rfl rfl ?_
  refine A_iconst (pc := 21) (0) dX12_worked_21 (by decide) ?_
  refine A_puti (pc := 22) 11 fl_X12_169_12 hR.1 rfl (by decide +kernel) rfl rfl dX12_worked_22 ?_
  refine A_aload_n (pc := 25) (i := 0) dX12_worked_25 rfl rfl ?_
  refine A_iload_n (pc := 26) (i := 3) dX12_worked_26 rfl rfl ?_
  refine A_ifne (pc := 27) 34 dX12_worked_27 (by decide) (fun hb27 => ?_) (fun hb27 => ?_)
  · refine A_iconst (pc := 34) (0) dX12_worked_34 (by decide) ?_
    refine A_puti (pc := 35) 12 fl_X12_147_12 hR.1 rfl (by decide +kernel) (by first | exact A_zn0 | exact A_zn1) rfl dX12_worked_35 ?_
    refine A_heap (wk_hp b n 0 iv) ?_
    have eg : (if use = 0 then (1 : Int32) else 0) = 0 := if_neg hb27
    rw [eg]
    have hE := r_eitherT l (iv := wk_iv b n 0 iv) hR b n (by simp [wk_iv, am_ui]) (by simp [wk_iv, am_ui]) hbn
    have e12 : wk_iv b n 0 iv (30, 0, 0) 12 = 0 := by simp [wk_iv, am_ui]
    have e0 : ∀ k, wk_iv b n 0 iv (31, 0, 0) k = iv (31, 0, 0) k := fun k => by simp [wk_iv, am_ui]
    have e13 : ∀ k, wk_iv b n 0 iv (31, 13, 0) k = iv (31, 13, 0) k := fun k => by simp [wk_iv, am_ui]
    simp only [e12, e0, e13] at hE
    have hV : pV (fun p => iv (31, 0, 0) (b + p)) n 0 (fun q => iv (31, 13, 0) q) = if (pT (fun p => iv (31, 0, 0) (b + p)) n 0 (fun q => iv (31, 13, 0) q)).2.2.1 < 0 ∧ (pT (fun p => iv (31, 0, 0) (b + p)) n 0 (fun q => iv (31, 13, 0) q)).2.1 < n then (0, pw (pT (fun p => iv (31, 0, 0) (b + p)) n 0 (fun q => iv (31, 13, 0) q)).2) else pT (fun p => iv (31, 0, 0) (b + p)) n 0 (fun q => iv (31, 13, 0) q) := rfl
    have gT : pg n (0, -1, 0) (pT (fun p => iv (31, 0, 0) (b + p)) n 0 (fun q => iv (31, 13, 0) q)).2 := pE_G (pU_G 5) (0, -1, 0) (Nat.zero_le n) (Nat.zero_le 5)
    generalize pT (fun p => iv (31, 0, 0) (b + p)) n 0 (fun q => iv (31, 13, 0) q) = x at hE hV gT
    rw [hV]
    refine A_aload_n (pc := 38) (i := 0) dX12_worked_38 rfl rfl ?_
    refine A_callV1 (pc := 39) cv_X12_175 (hE) hR.1 rfl rfl rfl rfl (Nat.le_of_ble_eq_true rfl) ⟨(Nat.le_of_ble_eq_true rfl), (Nat.le_of_ble_eq_true rfl)⟩ ⟨Nat.zero_le _, Nat.zero_le _⟩ dX12_worked_39 ?_
    refine A_ist4 (pc := 42) dX12_worked_42 (Nat.le_of_ble_eq_true rfl) rfl ?_
    refine A_aload_n (pc := 44) (i := 0) dX12_worked_44 rfl rfl ?_
    refine A_geti (pc := 45) 10 fl_X12_137_12 hR.1 rfl dX12_worked_45 ?_
    refine A_top hp_r10 ?_
    refine A_ifge (pc := 48) 67 dX12_worked_48 (by decide) (fun hb48 => ?_) (fun hb48 => ?_)
    · refine A_iload (pc := 67) (i := 4) dX12_worked_67 rfl ?_
      exact A_iretE (pc := 69) dX12_worked_69 rfl (Nat.zero_le _) (Nat.zero_le _) (by rw [if_neg (fun h => absurd h.1 (Int32.not_lt.mpr hb48))]) (by rw [if_neg (fun h => absurd h.1 (Int32.not_lt.mpr hb48))])
    · refine A_aload_n (pc := 51) (i := 0) dX12_worked_51 rfl rfl ?_
      refine A_geti (pc := 52) 8 fl_X12_130_12 hR.1 rfl dX12_worked_52 ?_
      refine A_top hp_r8 ?_
      refine A_aload_n (pc := 55) (i := 0) dX12_worked_55 rfl rfl ?_
      refine A_geti (pc := 56) 9 fl_X12_134_12 hR.1 rfl dX12_worked_56 ?_
      refine A_top (y := nI n) (by rw [hp_k (by decide) (by decide) (by decide)]; simp [wk_iv, am_ui]) ?_
      refine A_icmpge (pc := 59) 67 dX12_worked_59 (by decide) (fun hb59 => ?_) (fun hb59 => ?_)
      · refine A_iload (pc := 67) (i := 4) dX12_worked_67 rfl ?_
        exact A_iretE (pc := 69) dX12_worked_69 rfl (Nat.zero_le _) (Nat.zero_le _) (by rw [if_neg (fun h => nI_ge h.2 (by omega) hb59)]) (by rw [if_neg (fun h => nI_ge h.2 (by omega) hb59)])
      · refine A_aload_n (pc := 62) (i := 0) dX12_worked_62 rfl rfl ?_
        refine A_callV1 (pc := 63) cv_X12_172 (r_wrong l hR x.2) hR.1 rfl rfl rfl rfl (Nat.le_of_ble_eq_true rfl) ⟨(Nat.le_of_ble_eq_true rfl), (Nat.le_of_ble_eq_true rfl)⟩ ⟨Nat.zero_le _, Nat.zero_le _⟩ dX12_worked_63 ?_
        exact A_iretE (pc := 66) dX12_worked_66 rfl (Nat.zero_le _) (Nat.zero_le _) (by rw [if_pos ⟨Int32.not_le.mp hb48, nI_dec hb59 gT.2.1 (by omega)⟩]) (by rw [if_pos ⟨Int32.not_le.mp hb48, nI_dec hb59 gT.2.1 (by omega)⟩])
  · refine A_iconst (pc := 30) (1) dX12_worked_30 (by decide) ?_
    refine A_goto (pc := 31) 35 dX12_worked_31 (by decide) ?_
    refine A_puti (pc := 35) 12 fl_X12_147_12 hR.1 rfl (by decide +kernel) (by first | exact A_zn0 | exact A_zn1) rfl dX12_worked_35 ?_
    refine A_heap (wk_hp b n 1 iv) ?_
    have eg : (if use = 0 then (1 : Int32) else 0) = 1 := if_pos hb27
    rw [eg]
    have hE := r_eitherT l (iv := wk_iv b n 1 iv) hR b n (by simp [wk_iv, am_ui]) (by simp [wk_iv, am_ui]) hbn
    have e12 : wk_iv b n 1 iv (30, 0, 0) 12 = 1 := by simp [wk_iv, am_ui]
    have e0 : ∀ k, wk_iv b n 1 iv (31, 0, 0) k = iv (31, 0, 0) k := fun k => by simp [wk_iv, am_ui]
    have e13 : ∀ k, wk_iv b n 1 iv (31, 13, 0) k = iv (31, 13, 0) k := fun k => by simp [wk_iv, am_ui]
    simp only [e12, e0, e13] at hE
    have hV : pV (fun p => iv (31, 0, 0) (b + p)) n 1 (fun q => iv (31, 13, 0) q) = if (pT (fun p => iv (31, 0, 0) (b + p)) n 1 (fun q => iv (31, 13, 0) q)).2.2.1 < 0 ∧ (pT (fun p => iv (31, 0, 0) (b + p)) n 1 (fun q => iv (31, 13, 0) q)).2.1 < n then (0, pw (pT (fun p => iv (31, 0, 0) (b + p)) n 1 (fun q => iv (31, 13, 0) q)).2) else pT (fun p => iv (31, 0, 0) (b + p)) n 1 (fun q => iv (31, 13, 0) q) := rfl
    have gT : pg n (0, -1, 0) (pT (fun p => iv (31, 0, 0) (b + p)) n 1 (fun q => iv (31, 13, 0) q)).2 := pE_G (pU_G 5) (0, -1, 0) (Nat.zero_le n) (Nat.zero_le 5)
    generalize pT (fun p => iv (31, 0, 0) (b + p)) n 1 (fun q => iv (31, 13, 0) q) = x at hE hV gT
    rw [hV]
    refine A_aload_n (pc := 38) (i := 0) dX12_worked_38 rfl rfl ?_
    refine A_callV1 (pc := 39) cv_X12_175 (hE) hR.1 rfl rfl rfl rfl (Nat.le_of_ble_eq_true rfl) ⟨(Nat.le_of_ble_eq_true rfl), (Nat.le_of_ble_eq_true rfl)⟩ ⟨Nat.zero_le _, Nat.zero_le _⟩ dX12_worked_39 ?_
    refine A_ist4 (pc := 42) dX12_worked_42 (Nat.le_of_ble_eq_true rfl) rfl ?_
    refine A_aload_n (pc := 44) (i := 0) dX12_worked_44 rfl rfl ?_
    refine A_geti (pc := 45) 10 fl_X12_137_12 hR.1 rfl dX12_worked_45 ?_
    refine A_top hp_r10 ?_
    refine A_ifge (pc := 48) 67 dX12_worked_48 (by decide) (fun hb48 => ?_) (fun hb48 => ?_)
    · refine A_iload (pc := 67) (i := 4) dX12_worked_67 rfl ?_
      exact A_iretE (pc := 69) dX12_worked_69 rfl (Nat.zero_le _) (Nat.zero_le _) (by rw [if_neg (fun h => absurd h.1 (Int32.not_lt.mpr hb48))]) (by rw [if_neg (fun h => absurd h.1 (Int32.not_lt.mpr hb48))])
    · refine A_aload_n (pc := 51) (i := 0) dX12_worked_51 rfl rfl ?_
      refine A_geti (pc := 52) 8 fl_X12_130_12 hR.1 rfl dX12_worked_52 ?_
      refine A_top hp_r8 ?_
      refine A_aload_n (pc := 55) (i := 0) dX12_worked_55 rfl rfl ?_
      refine A_geti (pc := 56) 9 fl_X12_134_12 hR.1 rfl dX12_worked_56 ?_
      refine A_top (y := nI n) (by rw [hp_k (by decide) (by decide) (by decide)]; simp [wk_iv, am_ui]) ?_
      refine A_icmpge (pc := 59) 67 dX12_worked_59 (by decide) (fun hb59 => ?_) (fun hb59 => ?_)
      · refine A_iload (pc := 67) (i := 4) dX12_worked_67 rfl ?_
        exact A_iretE (pc := 69) dX12_worked_69 rfl (Nat.zero_le _) (Nat.zero_le _) (by rw [if_neg (fun h => nI_ge h.2 (by omega) hb59)]) (by rw [if_neg (fun h => nI_ge h.2 (by omega) hb59)])
      · refine A_aload_n (pc := 62) (i := 0) dX12_worked_62 rfl rfl ?_
        refine A_callV1 (pc := 63) cv_X12_172 (r_wrong l hR x.2) hR.1 rfl rfl rfl rfl (Nat.le_of_ble_eq_true rfl) ⟨(Nat.le_of_ble_eq_true rfl), (Nat.le_of_ble_eq_true rfl)⟩ ⟨Nat.zero_le _, Nat.zero_le _⟩ dX12_worked_63 ?_
        exact A_iretE (pc := 66) dX12_worked_66 rfl (Nat.zero_le _) (Nat.zero_le _) (by rw [if_pos ⟨Int32.not_le.mp hb48, nI_dec hb59 gT.2.1 (by omega)⟩]) (by rw [if_pos ⟨Int32.not_le.mp hb48, nI_dec hb59 gT.2.1 (by omega)⟩])
def nm3 (a b c : Int32) : Nat → Int32 := fun q => if q = 0 then a else if q = 1 then b else c
def gr_names (a b c : Int32) (iv : am_iv) : am_iv := am_ui (am_ui (am_ui iv (31, 13, 0) 0 a) (31, 13, 0) 1 b) (31, 13, 0) 2 c
/-- what the reference gives for a use, the heap then -/
def gr_raw (u n : Nat) (a b c : Int32) (iv : am_iv) : Int32 := if 0 < n then (pV (fun p => iv (31, 0, 0) (150 + 50 * u + p)) n (if nI u = 0 then 1 else 0) (fun q => gr_names a b c iv (31, 13, 0) q)).1 else if u = 0 then (if a < c * 4 then b * a / 4 else b * c) else a / 50 + b / 100
def gr_heap (u n : Nat) (a b c : Int32) (iv : am_iv) : am_iv := if 0 < n then hp (wk_iv (150 + 50 * u) n (if nI u = 0 then 1 else 0) (gr_names a b c iv)) (pV (fun p => iv (31, 0, 0) (150 + 50 * u + p)) n (if nI u = 0 then 1 else 0) (fun q => gr_names a b c iv (31, 13, 0) q)).2 else iv
theorem rx_tx (u : Nat) : (40 : Int32) + nI u = nI (40 + u) := mI_add 40 u
theorem rx_by (u : Nat) : (150 : Int32) + 50 * nI u = nI (150 + 50 * u) := by
  show nI 150 + nI 50 * nI u = _
  rw [mI_mul, mI_add]
set_option maxRecDepth 20000 in
theorem r_givesOf (l : Launch) {kd : am_kd} {rv : am_rv} {iv : am_iv} (hR : shr kd rv) (u : Nat) (hu : u < 2) (n : Nat) (hn : iv (31, 0, 0) (40 + u) = nI n) (hn50 : n ≤ 50) (a b c : Int32) : am_Met l mX12_givesOf (am_rm 39 0 0) [am_P (30, 0, 0), am_I (nI u), am_I a, am_I b, am_I c] kd rv iv (am_ret (some (am_I (sr_held (gr_raw u n a b c iv) 0 999))) kd rv (gr_heap u n a b c iv)) := by
  refine am_Met.of (by decide) (Nat.le_of_ble_eq_true rfl) rfl ?_
  refine A_aload_n (pc := 0) (i := 0) dX12_givesOf_0 rfl rfl ?_
  refine A_getr (pc := 1) 0 fl_X12_7_12 hR.1 rfl hR.w0 dX12_givesOf_1 ?_
  refine A_bipush (pc := 4) (40) dX12_givesOf_4 (by decide) ?_
  refine A_iload_n (pc := 6) (i := 1) dX12_givesOf_6 rfl rfl ?_
  refine A_iadd (pc := 7) dX12_givesOf_7 ?_
  refine A_top (rx_tx u) ?_
  refine A_ialdN (pc := 8) hR.k0 (show 40 + u < 300 by omega) (by decide) dX12_givesOf_8 ?_
  refine A_top hn ?_
  refine A_ifle (pc := 9) 65 dX12_givesOf_9 (by decide) (fun hb9 => ?_) (fun hb9 => ?_)
  · have hn0 : ¬ 0 < n := by have := (nI_le0 (t := n) (by omega)).mp hb9; omega
    refine A_iload_n (pc := 65) (i := 1) dX12_givesOf_65 rfl rfl ?_
    refine A_iconst (pc := 66) (1) dX12_givesOf_66 (by decide) ?_
    refine A_icmpne (pc := 67) 88 dX12_givesOf_67 (by decide) (fun hb67 => ?_) (fun hb67 => ?_)
    · have hu0 : u = 0 := by
        rcases (show u = 0 ∨ u = 1 by omega) with h | h
        · exact h
        · exact absurd (show nI u = 1 by rw [h]; rfl) hb67
      refine A_iload_n (pc := 88) (i := 2) dX12_givesOf_88 rfl rfl ?_
      refine A_iload (pc := 89) (i := 4) dX12_givesOf_89 rfl ?_
      refine A_iconst (pc := 91) (4) dX12_givesOf_91 (by decide) ?_
      refine A_imul (pc := 92) dX12_givesOf_92 ?_
      refine A_icmpge (pc := 93) 105 dX12_givesOf_93 (by decide) (fun hb93 => ?_) (fun hb93 => ?_)
      · refine A_iload_n (pc := 105) (i := 3) dX12_givesOf_105 rfl rfl ?_
        refine A_iload (pc := 106) (i := 4) dX12_givesOf_106 rfl ?_
        refine A_imul (pc := 108) dX12_givesOf_108 ?_
        refine A_i2l (pc := 109) dX12_givesOf_109 ?_
        refine A_iconst (pc := 110) (0) dX12_givesOf_110 (by decide) ?_
        refine A_sipush (pc := 111) (999) dX12_givesOf_111 (by decide) ?_
        refine A_callS1 (pc := 114) cs_X12_193 (r_held l _ 0 999) rfl rfl (Nat.le_of_ble_eq_true rfl) ⟨(Nat.le_of_ble_eq_true rfl), (Nat.le_of_ble_eq_true rfl)⟩ ⟨Nat.zero_le _, Nat.zero_le _⟩ dX12_givesOf_114 ?_
        exact A_iretE (pc := 117) dX12_givesOf_117 rfl (Nat.zero_le _) (Nat.zero_le _) (by rw [gr_raw, if_neg hn0, if_pos hu0, if_neg (Int32.not_lt.mpr hb93)]) (by rw [gr_heap, if_neg hn0])
      · refine A_iload_n (pc := 96) (i := 3) dX12_givesOf_96 rfl rfl ?_
        refine A_iload_n (pc := 97) (i := 2) dX12_givesOf_97 rfl rfl ?_
        refine A_imul (pc := 98) dX12_givesOf_98 ?_
        refine A_iconst (pc := 99) (4) dX12_givesOf_99 (by decide) ?_
        refine A_idiv (pc := 100) dX12_givesOf_100 (by decide) ?_
        refine A_i2l (pc := 101) dX12_givesOf_101 ?_
        refine A_goto (pc := 102) 110 dX12_givesOf_102 (by decide) ?_
        refine A_iconst (pc := 110) (0) dX12_givesOf_110 (by decide) ?_
        refine A_sipush (pc := 111) (999) dX12_givesOf_111 (by decide) ?_
        refine A_callS1 (pc := 114) cs_X12_193 (r_held l _ 0 999) rfl rfl (Nat.le_of_ble_eq_true rfl) ⟨(Nat.le_of_ble_eq_true rfl), (Nat.le_of_ble_eq_true rfl)⟩ ⟨Nat.zero_le _, Nat.zero_le _⟩ dX12_givesOf_114 ?_
        exact A_iretE (pc := 117) dX12_givesOf_117 rfl (Nat.zero_le _) (Nat.zero_le _) (by rw [gr_raw, if_neg hn0, if_pos hu0, if_pos (Int32.not_le.mp hb93)]) (by rw [gr_heap, if_neg hn0])
    · have hu1 : ¬ u = 0 := by intro h; rw [h] at hb67; exact absurd hb67 (by decide)
      refine A_iload_n (pc := 70) (i := 2) dX12_givesOf_70 rfl rfl ?_
      refine A_bipush (pc := 71) (50) dX12_givesOf_71 (by decide) ?_
      refine A_idiv (pc := 73) dX12_givesOf_73 (by decide) ?_
      refine A_iload_n (pc := 74) (i := 3) dX12_givesOf_74 rfl rfl ?_
      refine A_bipush (pc := 75) (100) dX12_givesOf_75 (by decide) ?_
      refine A_idiv (pc := 77) dX12_givesOf_77 (by decide) ?_
      refine A_iadd (pc := 78) dX12_givesOf_78 ?_
      refine A_i2l (pc := 79) dX12_givesOf_79 ?_
      refine A_iconst (pc := 80) (0) dX12_givesOf_80 (by decide) ?_
      refine A_sipush (pc := 81) (999) dX12_givesOf_81 (by decide) ?_
      refine A_callS1 (pc := 84) cs_X12_193 (r_held l _ 0 999) rfl rfl (Nat.le_of_ble_eq_true rfl) ⟨(Nat.le_of_ble_eq_true rfl), (Nat.le_of_ble_eq_true rfl)⟩ ⟨Nat.zero_le _, Nat.zero_le _⟩ dX12_givesOf_84 ?_
      exact A_iretE (pc := 87) dX12_givesOf_87 rfl (Nat.zero_le _) (Nat.zero_le _) (by rw [gr_raw, if_neg hn0, if_neg hu1]) (by rw [gr_heap, if_neg hn0])
  · have hn0 : 0 < n := by
      rcases Nat.eq_zero_or_pos n with h | h
      · exact absurd (show nI n ≤ 0 by rw [h]; decide) hb9
      · exact h
    refine A_aload_n (pc := 12) (i := 0) dX12_givesOf_12 rfl rfl ?_
    refine A_getr (pc := 13) 13 fl_X12_28_12 hR.1 rfl hR.w13 dX12_givesOf_13 ?_
    refine A_iconst (pc := 16) (0) dX12_givesOf_16 (by decide) ?_
    refine A_iload_n (pc := 17) (i := 2) dX12_givesOf_17 rfl rfl ?_
    refine A_iastN (pc := 18) (j := 0) hR.k13 (by decide) (by decide) dX12_givesOf_18 ?_
    refine A_aload_n (pc := 19) (i := 0) dX12_givesOf_19 rfl rfl ?_
    refine A_getr (pc := 20) 13 fl_X12_28_12 hR.1 rfl hR.w13 dX12_givesOf_20 ?_
    refine A_iconst (pc := 23) (1) dX12_givesOf_23 (by decide) ?_
    refine A_iload_n (pc := 24) (i := 3) dX12_givesOf_24 rfl rfl ?_
    refine A_iastN (pc := 25) (j := 1) hR.k13 (by decide) (by decide) dX12_givesOf_25 ?_
    refine A_aload_n (pc := 26) (i := 0) dX12_givesOf_26 rfl rfl ?_
    refine A_getr (pc := 27) 13 fl_X12_28_12 hR.1 rfl hR.w13 dX12_givesOf_27 ?_
    refine A_iconst (pc := 30) (2) dX12_givesOf_30 (by decide) ?_
    refine A_iload (pc := 31) (i := 4) dX12_givesOf_31 rfl ?_
    refine A_iastN (pc := 33) (j := 2) hR.k13 (by decide) (by decide) dX12_givesOf_33 ?_
    refine A_aload_n (pc := 34) (i := 0) dX12_givesOf_34 rfl rfl ?_
    refine A_sipush (pc := 35) (150) dX12_givesOf_35 (by decide) ?_
    refine A_bipush (pc := 38) (50) dX12_givesOf_38 (by decide) ?_
    refine A_iload_n (pc := 40) (i := 1) dX12_givesOf_40 rfl rfl ?_
    refine A_imul (pc := 41) dX12_givesOf_41 ?_
    refine A_iadd (pc := 42) dX12_givesOf_42 ?_
    refine A_top (rx_by u) ?_
    refine A_aload_n (pc := 43) (i := 0) dX12_givesOf_43 rfl rfl ?_
    refine A_getr (pc := 44) 0 fl_X12_7_12 hR.1 rfl hR.w0 dX12_givesOf_44 ?_
    refine A_bipush (pc := 47) (40) dX12_givesOf_47 (by decide) ?_
    refine A_iload_n (pc := 49) (i := 1) dX12_givesOf_49 rfl rfl ?_
    refine A_iadd (pc := 50) dX12_givesOf_50 ?_
    refine A_top (rx_tx u) ?_
    refine A_ialdN (pc := 51) hR.k0 (show 40 + u < 300 by omega) (by decide) dX12_givesOf_51 ?_
    refine A_top (show gr_names a b c iv (31, 0, 0) (40 + u) = nI n from (by simp [gr_names, am_ui]; exact hn)) ?_
    refine A_iload_n (pc := 52) (i := 1) dX12_givesOf_52 rfl rfl ?_
    refine A_callV1 (pc := 53) cv_X12_189 (r_worked l (iv := gr_names a b c iv) hR (150 + 50 * u) n (by omega) (nI u)) hR.1 rfl rfl rfl rfl (Nat.le_of_ble_eq_true rfl) ⟨(Nat.le_of_ble_eq_true rfl), (Nat.le_of_ble_eq_true rfl)⟩ ⟨Nat.zero_le _, Nat.zero_le _⟩ dX12_givesOf_53 ?_
    refine A_i2l (pc := 56) dX12_givesOf_56 ?_
    refine A_iconst (pc := 57) (0) dX12_givesOf_57 (by decide) ?_
    refine A_sipush (pc := 58) (999) dX12_givesOf_58 (by decide) ?_
    refine A_callS1 (pc := 61) cs_X12_193 (r_held l _ 0 999) rfl rfl (Nat.le_of_ble_eq_true rfl) ⟨(Nat.le_of_ble_eq_true rfl), (Nat.le_of_ble_eq_true rfl)⟩ ⟨Nat.zero_le _, Nat.zero_le _⟩ dX12_givesOf_61 ?_
    exact A_iretE (pc := 64) dX12_givesOf_64 rfl (Nat.zero_le _) (Nat.zero_le _) (by rw [gr_raw, if_pos hn0]; rfl) (by rw [gr_heap, if_pos hn0]; rfl)
