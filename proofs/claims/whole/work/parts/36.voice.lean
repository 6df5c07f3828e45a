def rr_A (v : Int32) (iv : am_iv) : am_iv := rr_add (iv (30, 0, 0) 15).toNatClampNeg v iv
def rr_L (cs : List Int32) (iv : am_iv) : am_iv := cs.foldl (fun iv c => rr_A c iv) iv
def rr_ok (iv : am_iv) : Prop := ∃ s, s ≤ 40 ∧ iv (30, 0, 0) 15 = nI s
theorem rr_A_ok {iv : am_iv} {v : Int32} (h : rr_ok iv) : rr_ok (rr_A v iv) := by
  obtain ⟨s, h1, h2⟩ := h
  unfold rr_A
  rw [h2, nI_clamp (by omega)]
  unfold rr_add
  by_cases hs : s < 40
  · rw [if_pos hs]; exact ⟨s + 1, hs, by simp [am_ui]⟩
  · rw [if_neg hs]; exact ⟨s, h1, h2⟩
theorem rr_A_o {n : am_N} {k : Nat} {v : Int32} {iv : am_iv} (h1 : n ≠ (31, 14, 0)) (h2 : ¬ (n = (30, 0, 0) ∧ k = 15)) : rr_A v iv n k = iv n k := by
  unfold rr_A rr_add
  split
  · rw [am_ui_n h2, am_ui_o h1]
  · rfl
theorem rr_A_16 {v : Int32} {iv : am_iv} : rr_A v iv (30, 0, 0) 16 = iv (30, 0, 0) 16 := rr_A_o (by simp) (by simp)
theorem rr_A_0 {v : Int32} {iv : am_iv} {k : Nat} : rr_A v iv (31, 0, 0) k = iv (31, 0, 0) k := rr_A_o (by simp) (by simp)
theorem r_rr (l : Launch) {kd : am_kd} {rv : am_rv} {iv : am_iv} (hR : shr kd rv) (h : rr_ok iv) (v : Int32) : am_Met l mX12_ran (am_rm 0 0 0) [am_P (30, 0, 0), am_I v] kd rv iv (am_ret none kd rv (rr_A v iv)) := by
  obtain ⟨s, h1, h2⟩ := h
  have e : rr_A v iv = rr_add s v iv := by rw [rr_A, h2, nI_clamp (by omega)]
  rw [e]
  exact r_ran l hR s h2 h1 v
set_option maxRecDepth 20000 in
theorem r_goes0 (l : Launch) {kd : am_kd} {rv : am_rv} {iv : am_iv} (hR : shr kd rv) (ok : rr_ok iv) (q : Nat) (hw : iv (30, 0, 0) 16 = nI q) (hq6 : q < 6) (x : Int32) : am_Met l mX12_goes (am_rm 1 0 0) [am_P (30, 0, 0), am_I 0, am_I x] kd rv iv (am_ret (some (am_I (vo_goes 0 (fun k => if k = 1 then iv (30, 0, 0) 16 else iv (31, 0, 0) (21 + 2 * q)) x).1)) kd rv (rr_L (vo_goes 0 (fun k => if k = 1 then iv (30, 0, 0) 16 else iv (31, 0, 0) (21 + 2 * q)) x).2 iv)) := by
  refine am_Met.of (by decide) (Nat.le_of_ble_eq_true rfl) rfl ?_
  refine A_iload_n (pc := 0) (i := 1) dX12_goes_0 rfl rfl ?_
  refine A_tableIn (pc := 1) (off := 35) 36 dX12_goes_1 (by decide) (by decide) (by decide) (by decide) ?_
  refine A_aload_n (pc := 36) (i := 0) dX12_goes_36 rfl rfl ?_
  refine A_bipush (pc := 37) (10) dX12_goes_37 (by decide) ?_
  refine A_callV0 (pc := 39) cv_X12_284 (r_rr l hR ok 10) hR.1 rfl rfl rfl rfl (Nat.le_of_ble_eq_true rfl) ⟨(Nat.le_of_ble_eq_true rfl), (Nat.le_of_ble_eq_true rfl)⟩ ⟨Nat.zero_le _, Nat.zero_le _⟩ dX12_goes_39 ?_
  refine A_iload_n (pc := 42) (i := 2) dX12_goes_42 rfl rfl ?_
  refine A_aload_n (pc := 43) (i := 0) dX12_goes_43 rfl rfl ?_
  refine A_geti (pc := 44) 16 fl_X12_281_12 hR.1 rfl dX12_goes_44 ?_
  refine A_iadd (pc := 47) dX12_goes_47 ?_
  exact A_iretE (pc := 48) dX12_goes_48 rfl (Nat.zero_le _) (Nat.zero_le _) (by simp [vo_goes, rr_A_16]) (by simp [vo_goes, rr_L])
set_option maxRecDepth 20000 in
theorem r_goes1 (l : Launch) {kd : am_kd} {rv : am_rv} {iv : am_iv} (hR : shr kd rv) (ok : rr_ok iv) (q : Nat) (hw : iv (30, 0, 0) 16 = nI q) (hq6 : q < 6) (x : Int32) : am_Met l mX12_goes (am_rm 2 0 0) [am_P (30, 0, 0), am_I 1, am_I x] kd rv iv (am_ret (some (am_I (vo_goes 1 (fun k => if k = 1 then iv (30, 0, 0) 16 else iv (31, 0, 0) (21 + 2 * q)) x).1)) kd rv (rr_L (vo_goes 1 (fun k => if k = 1 then iv (30, 0, 0) 16 else iv (31, 0, 0) (21 + 2 * q)) x).2 iv)) := by
  refine am_Met.of (by decide) (Nat.le_of_ble_eq_true rfl) rfl ?_
  refine A_iload_n (pc := 0) (i := 1) dX12_goes_0 rfl rfl ?_
  refine A_tableIn (pc := 1) (off := 84) 85 dX12_goes_1 (by decide) (by decide) (by decide) (by decide) ?_
  refine A_aload_n (pc := 85) (i := 0) dX12_goes_85 rfl rfl ?_
  refine A_iload_n (pc := 86) (i := 1) dX12_goes_86 rfl rfl ?_
  refine A_callS1 (pc := 87) cs_X12_287 (r_above l 1) rfl rfl (Nat.le_of_ble_eq_true rfl) ⟨(Nat.le_of_ble_eq_true rfl), (Nat.le_of_ble_eq_true rfl)⟩ ⟨Nat.zero_le _, Nat.zero_le _⟩ dX12_goes_87 ?_
  refine A_top (show (if (1 : Int32) = 4 then (3 : Int32) else if (1 : Int32) = 6 then 5 else 0) = 0 by decide) ?_
  refine A_iload_n (pc := 90) (i := 2) dX12_goes_90 rfl rfl ?_
  refine A_callV1 (pc := 91) cv_X12_290 (r_goes0 l hR ok q hw hq6 x) hR.1 rfl rfl rfl rfl (Nat.le_of_ble_eq_true rfl) ⟨(Nat.le_of_ble_eq_true rfl), (Nat.le_of_ble_eq_true rfl)⟩ ⟨Nat.zero_le _, Nat.zero_le _⟩ dX12_goes_91 ?_
  exact A_iretE (pc := 94) dX12_goes_94 rfl (Nat.zero_le _) (Nat.zero_le _) (by simp [vo_goes, rr_A_16]) (by simp [vo_goes, rr_L])
set_option maxRecDepth 20000 in
theorem r_goes2 (l : Launch) {kd : am_kd} {rv : am_rv} {iv : am_iv} (hR : shr kd rv) (ok : rr_ok iv) (q : Nat) (hw : iv (30, 0, 0) 16 = nI q) (hq6 : q < 6) (x : Int32) : am_Met l mX12_goes (am_rm 2 0 0) [am_P (30, 0, 0), am_I 2, am_I x] kd rv iv (am_ret (some (am_I (vo_goes 2 (fun k => if k = 1 then iv (30, 0, 0) 16 else iv (31, 0, 0) (21 + 2 * q)) x).1)) kd rv (rr_L (vo_goes 2 (fun k => if k = 1 then iv (30, 0, 0) 16 else iv (31, 0, 0) (21 + 2 * q)) x).2 iv)) := by
  refine am_Met.of (by decide) (Nat.le_of_ble_eq_true rfl) rfl ?_
  refine A_iload_n (pc := 0) (i := 1) dX12_goes_0 rfl rfl ?_
  refine A_tableIn (pc := 1) (off := 48) 49 dX12_goes_1 (by decide) (by decide) (by decide) (by decide) ?_
  refine A_aload_n (pc := 49) (i := 0) dX12_goes_49 rfl rfl ?_
  refine A_bipush (pc := 50) (30) dX12_goes_50 (by decide) ?_
  refine A_callV0 (pc := 52) cv_X12_284 (r_rr l hR ok 30) hR.1 rfl rfl rfl rfl (Nat.le_of_ble_eq_true rfl) ⟨(Nat.le_of_ble_eq_true rfl), (Nat.le_of_ble_eq_true rfl)⟩ ⟨Nat.zero_le _, Nat.zero_le _⟩ dX12_goes_52 ?_
  refine A_aload_n (pc := 55) (i := 0) dX12_goes_55 rfl rfl ?_
  refine A_iconst (pc := 56) (2) dX12_goes_56 (by decide) ?_
  refine A_callS1 (pc := 57) cs_X12_287 (r_above l 2) rfl rfl (Nat.le_of_ble_eq_true rfl) ⟨(Nat.le_of_ble_eq_true rfl), (Nat.le_of_ble_eq_true rfl)⟩ ⟨Nat.zero_le _, Nat.zero_le _⟩ dX12_goes_57 ?_
  refine A_top (show (if (2 : Int32) = 4 then (3 : Int32) else if (2 : Int32) = 6 then 5 else 0) = 0 by decide) ?_
  refine A_iload_n (pc := 60) (i := 2) dX12_goes_60 rfl rfl ?_
  refine A_callV1 (pc := 61) cv_X12_290 (r_goes0 l hR (rr_A_ok ok) q (rr_A_16.trans hw) hq6 x) hR.1 rfl rfl rfl rfl (Nat.le_of_ble_eq_true rfl) ⟨(Nat.le_of_ble_eq_true rfl), (Nat.le_of_ble_eq_true rfl)⟩ ⟨Nat.zero_le _, Nat.zero_le _⟩ dX12_goes_61 ?_
  refine A_iconst (pc := 64) (3) dX12_goes_64 (by decide) ?_
  refine A_imul (pc := 65) dX12_goes_65 ?_
  exact A_iretE (pc := 66) dX12_goes_66 rfl (Nat.zero_le _) (Nat.zero_le _) (by simp [vo_goes, rr_A_16]) (by simp [vo_goes, rr_L])
set_option maxRecDepth 20000 in
theorem r_goes3 (l : Launch) {kd : am_kd} {rv : am_rv} {iv : am_iv} (hR : shr kd rv) (ok : rr_ok iv) (q : Nat) (hw : iv (30, 0, 0) 16 = nI q) (hq6 : q < 6) (x : Int32) : am_Met l mX12_goes (am_rm 2 0 0) [am_P (30, 0, 0), am_I 3, am_I x] kd rv iv (am_ret (some (am_I (vo_goes 3 (fun k => if k = 1 then iv (30, 0, 0) 16 else iv (31, 0, 0) (21 + 2 * q)) x).1)) kd rv (rr_L (vo_goes 3 (fun k => if k = 1 then iv (30, 0, 0) 16 else iv (31, 0, 0) (21 + 2 * q)) x).2 iv)) := by
  refine am_Met.of (by decide) (Nat.le_of_ble_eq_true rfl) rfl ?_
  refine A_iload_n (pc := 0) (i := 1) dX12_goes_0 rfl rfl ?_
  refine A_tableIn (pc := 1) (off := 84) 85 dX12_goes_1 (by decide) (by decide) (by decide) (by decide) ?_
  refine A_aload_n (pc := 85) (i := 0) dX12_goes_85 rfl rfl ?_
  refine A_iload_n (pc := 86) (i := 1) dX12_goes_86 rfl rfl ?_
  refine A_callS1 (pc := 87) cs_X12_287 (r_above l 3) rfl rfl (Nat.le_of_ble_eq_true rfl) ⟨(Nat.le_of_ble_eq_true rfl), (Nat.le_of_ble_eq_true rfl)⟩ ⟨Nat.zero_le _, Nat.zero_le _⟩ dX12_goes_87 ?_
  refine A_top (show (if (3 : Int32) = 4 then (3 : Int32) else if (3 : Int32) = 6 then 5 else 0) = 0 by decide) ?_
  refine A_iload_n (pc := 90) (i := 2) dX12_goes_90 rfl rfl ?_
  refine A_callV1 (pc := 91) cv_X12_290 (r_goes0 l hR ok q hw hq6 x) hR.1 rfl rfl rfl rfl (Nat.le_of_ble_eq_true rfl) ⟨(Nat.le_of_ble_eq_true rfl), (Nat.le_of_ble_eq_true rfl)⟩ ⟨Nat.zero_le _, Nat.zero_le _⟩ dX12_goes_91 ?_
  exact A_iretE (pc := 94) dX12_goes_94 rfl (Nat.zero_le _) (Nat.zero_le _) (by simp [vo_goes, rr_A_16]) (by simp [vo_goes, rr_L])
set_option maxRecDepth 20000 in
theorem r_goes5 (l : Launch) {kd : am_kd} {rv : am_rv} {iv : am_iv} (hR : shr kd rv) (ok : rr_ok iv) (q : Nat) (hw : iv (30, 0, 0) 16 = nI q) (hq6 : q < 6) (x : Int32) : am_Met l mX12_goes (am_rm 2 0 0) [am_P (30, 0, 0), am_I 5, am_I x] kd rv iv (am_ret (some (am_I (vo_goes 5 (fun k => if k = 1 then iv (30, 0, 0) 16 else iv (31, 0, 0) (21 + 2 * q)) x).1)) kd rv (rr_L (vo_goes 5 (fun k => if k = 1 then iv (30, 0, 0) 16 else iv (31, 0, 0) (21 + 2 * q)) x).2 iv)) := by
  refine am_Met.of (by decide) (Nat.le_of_ble_eq_true rfl) rfl ?_
  refine A_iload_n (pc := 0) (i := 1) dX12_goes_0 rfl rfl ?_
  refine A_tableOut (pc := 1) 85 dX12_goes_1 (by decide) (by decide) ?_
  refine A_aload_n (pc := 85) (i := 0) dX12_goes_85 rfl rfl ?_
  refine A_iload_n (pc := 86) (i := 1) dX12_goes_86 rfl rfl ?_
  refine A_callS1 (pc := 87) cs_X12_287 (r_above l 5) rfl rfl (Nat.le_of_ble_eq_true rfl) ⟨(Nat.le_of_ble_eq_true rfl), (Nat.le_of_ble_eq_true rfl)⟩ ⟨Nat.zero_le _, Nat.zero_le _⟩ dX12_goes_87 ?_
  refine A_top (show (if (5 : Int32) = 4 then (3 : Int32) else if (5 : Int32) = 6 then 5 else 0) = 0 by decide) ?_
  refine A_iload_n (pc := 90) (i := 2) dX12_goes_90 rfl rfl ?_
  refine A_callV1 (pc := 91) cv_X12_290 (r_goes0 l hR ok q hw hq6 x) hR.1 rfl rfl rfl rfl (Nat.le_of_ble_eq_true rfl) ⟨(Nat.le_of_ble_eq_true rfl), (Nat.le_of_ble_eq_true rfl)⟩ ⟨Nat.zero_le _, Nat.zero_le _⟩ dX12_goes_91 ?_
  exact A_iretE (pc := 94) dX12_goes_94 rfl (Nat.zero_le _) (Nat.zero_le _) (by simp [vo_goes, rr_A_16]) (by simp [vo_goes, rr_L])
set_option maxRecDepth 20000 in
theorem r_goes4 (l : Launch) {kd : am_kd} {rv : am_rv} {iv : am_iv} (hR : shr kd rv) (ok : rr_ok iv) (q : Nat) (hw : iv (30, 0, 0) 16 = nI q) (hq6 : q < 6) (x : Int32) : am_Met l mX12_goes (am_rm 3 0 0) [am_P (30, 0, 0), am_I 4, am_I x] kd rv iv (am_ret (some (am_I (vo_goes 4 (fun k => if k = 1 then iv (30, 0, 0) 16 else iv (31, 0, 0) (21 + 2 * q)) x).1)) kd rv (rr_L (vo_goes 4 (fun k => if k = 1 then iv (30, 0, 0) 16 else iv (31, 0, 0) (21 + 2 * q)) x).2 iv)) := by
  refine am_Met.of (by decide) (Nat.le_of_ble_eq_true rfl) rfl ?_
  refine A_iload_n (pc := 0) (i := 1) dX12_goes_0 rfl rfl ?_
  refine A_tableIn (pc := 1) (off := 66) 67 dX12_goes_1 (by decide) (by decide) (by decide) (by decide) ?_
  refine A_aload_n (pc := 67) (i := 0) dX12_goes_67 rfl rfl ?_
  refine A_bipush (pc := 68) (50) dX12_goes_68 (by decide) ?_
  refine A_callV0 (pc := 70) cv_X12_284 (r_rr l hR ok 50) hR.1 rfl rfl rfl rfl (Nat.le_of_ble_eq_true rfl) ⟨(Nat.le_of_ble_eq_true rfl), (Nat.le_of_ble_eq_true rfl)⟩ ⟨Nat.zero_le _, Nat.zero_le _⟩ dX12_goes_70 ?_
  refine A_aload_n (pc := 73) (i := 0) dX12_goes_73 rfl rfl ?_
  refine A_iconst (pc := 74) (4) dX12_goes_74 (by decide) ?_
  refine A_callS1 (pc := 75) cs_X12_287 (r_above l 4) rfl rfl (Nat.le_of_ble_eq_true rfl) ⟨(Nat.le_of_ble_eq_true rfl), (Nat.le_of_ble_eq_true rfl)⟩ ⟨Nat.zero_le _, Nat.zero_le _⟩ dX12_goes_75 ?_
  refine A_top (show (if (4 : Int32) = 4 then (3 : Int32) else if (4 : Int32) = 6 then 5 else 0) = 3 by decide) ?_
  refine A_iload_n (pc := 78) (i := 2) dX12_goes_78 rfl rfl ?_
  refine A_iconst (pc := 79) (1) dX12_goes_79 (by decide) ?_
  refine A_iadd (pc := 80) dX12_goes_80 ?_
  refine A_callV1 (pc := 81) cv_X12_290 (r_goes3 l hR (rr_A_ok ok) q (rr_A_16.trans hw) hq6 (x + 1)) hR.1 rfl rfl rfl rfl (Nat.le_of_ble_eq_true rfl) ⟨(Nat.le_of_ble_eq_true rfl), (Nat.le_of_ble_eq_true rfl)⟩ ⟨Nat.zero_le _, Nat.zero_le _⟩ dX12_goes_81 ?_
  exact A_iretE (pc := 84) dX12_goes_84 rfl (Nat.zero_le _) (Nat.zero_le _) (by simp [vo_goes, rr_A_16]) (by simp [vo_goes, rr_L])
set_option maxRecDepth 20000 in
theorem r_goes6 (l : Launch) {kd : am_kd} {rv : am_rv} {iv : am_iv} (hR : shr kd rv) (ok : rr_ok iv) (q : Nat) (hw : iv (30, 0, 0) 16 = nI q) (hq6 : q < 6) (x : Int32) : am_Met l mX12_goes (am_rm 3 0 0) [am_P (30, 0, 0), am_I 6, am_I x] kd rv iv (am_ret (some (am_I (vo_goes 6 (fun k => if k = 1 then iv (30, 0, 0) 16 else iv (31, 0, 0) (21 + 2 * q)) x).1)) kd rv (rr_L (vo_goes 6 (fun k => if k = 1 then iv (30, 0, 0) 16 else iv (31, 0, 0) (21 + 2 * q)) x).2 iv)) := by
  refine am_Met.of (by decide) (Nat.le_of_ble_eq_true rfl) rfl ?_
  refine A_iload_n (pc := 0) (i := 1) dX12_goes_0 rfl rfl ?_
  refine A_tableOut (pc := 1) 85 dX12_goes_1 (by decide) (by decide) ?_
  refine A_aload_n (pc := 85) (i := 0) dX12_goes_85 rfl rfl ?_
  refine A_iload_n (pc := 86) (i := 1) dX12_goes_86 rfl rfl ?_
  refine A_callS1 (pc := 87) cs_X12_287 (r_above l 6) rfl rfl (Nat.le_of_ble_eq_true rfl) ⟨(Nat.le_of_ble_eq_true rfl), (Nat.le_of_ble_eq_true rfl)⟩ ⟨Nat.zero_le _, Nat.zero_le _⟩ dX12_goes_87 ?_
  refine A_top (show (if (6 : Int32) = 4 then (3 : Int32) else if (6 : Int32) = 6 then 5 else 0) = 5 by decide) ?_
  refine A_iload_n (pc := 90) (i := 2) dX12_goes_90 rfl rfl ?_
  refine A_callV1 (pc := 91) cv_X12_290 (r_goes5 l hR ok q hw hq6 x) hR.1 rfl rfl rfl rfl (Nat.le_of_ble_eq_true rfl) ⟨(Nat.le_of_ble_eq_true rfl), (Nat.le_of_ble_eq_true rfl)⟩ ⟨Nat.zero_le _, Nat.zero_le _⟩ dX12_goes_91 ?_
  exact A_iretE (pc := 94) dX12_goes_94 rfl (Nat.zero_le _) (Nat.zero_le _) (by simp [vo_goes, rr_A_16]) (by simp [vo_goes, rr_L])
theorem rr_L_ok {cs : List Int32} {iv : am_iv} (h : rr_ok iv) : rr_ok (rr_L cs iv) := by
  induction cs generalizing iv with
  | nil => exact h
  | cons c cs ih => exact ih (rr_A_ok h)
theorem rr_L_16 {cs : List Int32} {iv : am_iv} : rr_L cs iv (30, 0, 0) 16 = iv (30, 0, 0) 16 := by
  induction cs generalizing iv with
  | nil => rfl
  | cons c cs ih => exact ih.trans rr_A_16
theorem rr_L_0 {cs : List Int32} {iv : am_iv} {k : Nat} : rr_L cs iv (31, 0, 0) k = iv (31, 0, 0) k := by
  induction cs generalizing iv with
  | nil => rfl
  | cons c cs ih => exact ih.trans rr_A_0
theorem rr_L_c (c : Int32) (cs : List Int32) (iv : am_iv) : rr_L (c :: cs) iv = rr_L cs (rr_A c iv) := rfl
theorem rr_L_n (iv : am_iv) : rr_L [] iv = iv := rfl
theorem rr_L_a (cs ds : List Int32) (iv : am_iv) : rr_L (cs ++ ds) iv = rr_L ds (rr_L cs iv) := List.foldl_append
set_option maxRecDepth 20000 in
theorem r_ends0 (l : Launch) {kd : am_kd} {rv : am_rv} {iv : am_iv} (hR : shr kd rv) (ok : rr_ok iv) (q : Nat) (hw : iv (30, 0, 0) 16 = nI q) (hq6 : q < 6) (x : Int32) : am_Met l mX12_ends (am_rm 1 0 0) [am_P (30, 0, 0), am_I 0, am_I x] kd rv iv (am_ret (some (am_I (vo_ends 0 (fun k => if k = 1 then iv (30, 0, 0) 16 else iv (31, 0, 0) (21 + 2 * q)) x).1)) kd rv (rr_L (vo_ends 0 (fun k => if k = 1 then iv (30, 0, 0) 16 else iv (31, 0, 0) (21 + 2 * q)) x).2 iv)) := by
  refine am_Met.of (by decide) (Nat.le_of_ble_eq_true rfl) rfl ?_
  refine A_iload_n (pc := 0) (i := 1) dX12_ends_0 rfl rfl ?_
  refine A_lookup (pc := 1) (off := 35) 36 dX12_ends_1 (by decide) (by decide) (by decide) ?_
  refine A_aload_n (pc := 36) (i := 0) dX12_ends_36 rfl rfl ?_
  refine A_bipush (pc := 37) (12) dX12_ends_37 (by decide) ?_
  refine A_callV0 (pc := 39) cv_X12_284 (r_rr l hR ok 12) hR.1 rfl rfl rfl rfl (Nat.le_of_ble_eq_true rfl) ⟨(Nat.le_of_ble_eq_true rfl), (Nat.le_of_ble_eq_true rfl)⟩ ⟨Nat.zero_le _, Nat.zero_le _⟩ dX12_ends_39 ?_
  refine A_iload_n (pc := 42) (i := 2) dX12_ends_42 rfl rfl ?_
  refine A_aload_n (pc := 43) (i := 0) dX12_ends_43 rfl rfl ?_
  refine A_callV1 (pc := 44) cv_X12_302 (r_toldM l hR q (rr_A_16.trans hw) hq6) hR.1 rfl rfl rfl rfl (Nat.le_of_ble_eq_true rfl) ⟨(Nat.le_of_ble_eq_true rfl), (Nat.le_of_ble_eq_true rfl)⟩ ⟨Nat.zero_le _, Nat.zero_le _⟩ dX12_ends_44 ?_
  refine A_isub (pc := 47) dX12_ends_47 ?_
  exact A_iretE (pc := 48) dX12_ends_48 rfl (Nat.zero_le _) (Nat.zero_le _) (by simp [vo_goes, vo_ends, vo_m0, vo_moves, vo_t0, vo_tells, rr_A_16, rr_A_0, rr_L_16, rr_L_0, rr_L_c, rr_L_n, rr_L_a]) (by simp [vo_goes, vo_ends, vo_m0, vo_moves, vo_t0, vo_tells, rr_A_16, rr_A_0, rr_L_16, rr_L_0, rr_L_c, rr_L_n, rr_L_a])
set_option maxRecDepth 20000 in
theorem r_ends1 (l : Launch) {kd : am_kd} {rv : am_rv} {iv : am_iv} (hR : shr kd rv) (ok : rr_ok iv) (q : Nat) (hw : iv (30, 0, 0) 16 = nI q) (hq6 : q < 6) (x : Int32) : am_Met l mX12_ends (am_rm 2 0 0) [am_P (30, 0, 0), am_I 1, am_I x] kd rv iv (am_ret (some (am_I (vo_ends 1 (fun k => if k = 1 then iv (30, 0, 0) 16 else iv (31, 0, 0) (21 + 2 * q)) x).1)) kd rv (rr_L (vo_ends 1 (fun k => if k = 1 then iv (30, 0, 0) 16 else iv (31, 0, 0) (21 + 2 * q)) x).2 iv)) := by
  refine am_Met.of (by decide) (Nat.le_of_ble_eq_true rfl) rfl ?_
  refine A_iload_n (pc := 0) (i := 1) dX12_ends_0 rfl rfl ?_
  refine A_lookup (pc := 1) (off := 87) 88 dX12_ends_1 (by decide) (by decide) (by decide) ?_
  refine A_aload_n (pc := 88) (i := 0) dX12_ends_88 rfl rfl ?_
  refine A_iload_n (pc := 89) (i := 1) dX12_ends_89 rfl rfl ?_
  refine A_callS1 (pc := 90) cs_X12_287 (r_above l 1) rfl rfl (Nat.le_of_ble_eq_true rfl) ⟨(Nat.le_of_ble_eq_true rfl), (Nat.le_of_ble_eq_true rfl)⟩ ⟨Nat.zero_le _, Nat.zero_le _⟩ dX12_ends_90 ?_
  refine A_top (show (if (1 : Int32) = 4 then (3 : Int32) else if (1 : Int32) = 6 then 5 else 0) = 0 by decide) ?_
  refine A_iload_n (pc := 93) (i := 2) dX12_ends_93 rfl rfl ?_
  refine A_callV1 (pc := 94) cv_X12_299 (r_ends0 l hR ok q hw hq6 x) hR.1 rfl rfl rfl rfl (Nat.le_of_ble_eq_true rfl) ⟨(Nat.le_of_ble_eq_true rfl), (Nat.le_of_ble_eq_true rfl)⟩ ⟨Nat.zero_le _, Nat.zero_le _⟩ dX12_ends_94 ?_
  exact A_iretE (pc := 97) dX12_ends_97 rfl (Nat.zero_le _) (Nat.zero_le _) (by simp [vo_goes, vo_ends, vo_m0, vo_moves, vo_t0, vo_tells, rr_A_16, rr_A_0, rr_L_16, rr_L_0, rr_L_c, rr_L_n, rr_L_a]) (by simp [vo_goes, vo_ends, vo_m0, vo_moves, vo_t0, vo_tells, rr_A_16, rr_A_0, rr_L_16, rr_L_0, rr_L_c, rr_L_n, rr_L_a])
set_option maxRecDepth 20000 in
theorem r_ends2 (l : Launch) {kd : am_kd} {rv : am_rv} {iv : am_iv} (hR : shr kd rv) (ok : rr_ok iv) (q : Nat) (hw : iv (30, 0, 0) 16 = nI q) (hq6 : q < 6) (x : Int32) : am_Met l mX12_ends (am_rm 2 0 0) [am_P (30, 0, 0), am_I 2, am_I x] kd rv iv (am_ret (some (am_I (vo_ends 2 (fun k => if k = 1 then iv (30, 0, 0) 16 else iv (31, 0, 0) (21 + 2 * q)) x).1)) kd rv (rr_L (vo_ends 2 (fun k => if k = 1 then iv (30, 0, 0) 16 else iv (31, 0, 0) (21 + 2 * q)) x).2 iv)) := by
  refine am_Met.of (by decide) (Nat.le_of_ble_eq_true rfl) rfl ?_
  refine A_iload_n (pc := 0) (i := 1) dX12_ends_0 rfl rfl ?_
  refine A_lookup (pc := 1) (off := 87) 88 dX12_ends_1 (by decide) (by decide) (by decide) ?_
  refine A_aload_n (pc := 88) (i := 0) dX12_ends_88 rfl rfl ?_
  refine A_iload_n (pc := 89) (i := 1) dX12_ends_89 rfl rfl ?_
  refine A_callS1 (pc := 90) cs_X12_287 (r_above l 2) rfl rfl (Nat.le_of_ble_eq_true rfl) ⟨(Nat.le_of_ble_eq_true rfl), (Nat.le_of_ble_eq_true rfl)⟩ ⟨Nat.zero_le _, Nat.zero_le _⟩ dX12_ends_90 ?_
  refine A_top (show (if (2 : Int32) = 4 then (3 : Int32) else if (2 : Int32) = 6 then 5 else 0) = 0 by decide) ?_
  refine A_iload_n (pc := 93) (i := 2) dX12_ends_93 rfl rfl ?_
  refine A_callV1 (pc := 94) cv_X12_299 (r_ends0 l hR ok q hw hq6 x) hR.1 rfl rfl rfl rfl (Nat.le_of_ble_eq_true rfl) ⟨(Nat.le_of_ble_eq_true rfl), (Nat.le_of_ble_eq_true rfl)⟩ ⟨Nat.zero_le _, Nat.zero_le _⟩ dX12_ends_94 ?_
  exact A_iretE (pc := 97) dX12_ends_97 rfl (Nat.zero_le _) (Nat.zero_le _) (by simp [vo_goes, vo_ends, vo_m0, vo_moves, vo_t0, vo_tells, rr_A_16, rr_A_0, rr_L_16, rr_L_0, rr_L_c, rr_L_n, rr_L_a]) (by simp [vo_goes, vo_ends, vo_m0, vo_moves, vo_t0, vo_tells, rr_A_16, rr_A_0, rr_L_16, rr_L_0, rr_L_c, rr_L_n, rr_L_a])
set_option maxRecDepth 20000 in
theorem r_ends3 (l : Launch) {kd : am_kd} {rv : am_rv} {iv : am_iv} (hR : shr kd rv) (ok : rr_ok iv) (q : Nat) (hw : iv (30, 0, 0) 16 = nI q) (hq6 : q < 6) (x : Int32) : am_Met l mX12_ends (am_rm 2 0 0) [am_P (30, 0, 0), am_I 3, am_I x] kd rv iv (am_ret (some (am_I (vo_ends 3 (fun k => if k = 1 then iv (30, 0, 0) 16 else iv (31, 0, 0) (21 + 2 * q)) x).1)) kd rv (rr_L (vo_ends 3 (fun k => if k = 1 then iv (30, 0, 0) 16 else iv (31, 0, 0) (21 + 2 * q)) x).2 iv)) := by
  refine am_Met.of (by decide) (Nat.le_of_ble_eq_true rfl) rfl ?_
  refine A_iload_n (pc := 0) (i := 1) dX12_ends_0 rfl rfl ?_
  refine A_lookup (pc := 1) (off := 48) 49 dX12_ends_1 (by decide) (by decide) (by decide) ?_
  refine A_aload_n (pc := 49) (i := 0) dX12_ends_49 rfl rfl ?_
  refine A_bipush (pc := 50) (40) dX12_ends_50 (by decide) ?_
  refine A_callV0 (pc := 52) cv_X12_284 (r_rr l hR ok 40) hR.1 rfl rfl rfl rfl (Nat.le_of_ble_eq_true rfl) ⟨(Nat.le_of_ble_eq_true rfl), (Nat.le_of_ble_eq_true rfl)⟩ ⟨Nat.zero_le _, Nat.zero_le _⟩ dX12_ends_52 ?_
  refine A_aload_n (pc := 55) (i := 0) dX12_ends_55 rfl rfl ?_
  refine A_iconst (pc := 56) (3) dX12_ends_56 (by decide) ?_
  refine A_callS1 (pc := 57) cs_X12_287 (r_above l 3) rfl rfl (Nat.le_of_ble_eq_true rfl) ⟨(Nat.le_of_ble_eq_true rfl), (Nat.le_of_ble_eq_true rfl)⟩ ⟨Nat.zero_le _, Nat.zero_le _⟩ dX12_ends_57 ?_
  refine A_top (show (if (3 : Int32) = 4 then (3 : Int32) else if (3 : Int32) = 6 then 5 else 0) = 0 by decide) ?_
  refine A_iload_n (pc := 60) (i := 2) dX12_ends_60 rfl rfl ?_
  refine A_callV1 (pc := 61) cv_X12_299 (r_ends0 l hR (rr_A_ok ok) q (rr_A_16.trans hw) hq6 x) hR.1 rfl rfl rfl rfl (Nat.le_of_ble_eq_true rfl) ⟨(Nat.le_of_ble_eq_true rfl), (Nat.le_of_ble_eq_true rfl)⟩ ⟨Nat.zero_le _, Nat.zero_le _⟩ dX12_ends_61 ?_
  refine A_ineg (pc := 64) dX12_ends_64 ?_
  exact A_iretE (pc := 65) dX12_ends_65 rfl (Nat.zero_le _) (Nat.zero_le _) (by simp [vo_goes, vo_ends, vo_m0, vo_moves, vo_t0, vo_tells, rr_A_16, rr_A_0, rr_L_16, rr_L_0, rr_L_c, rr_L_n, rr_L_a]) (by simp [vo_goes, vo_ends, vo_m0, vo_moves, vo_t0, vo_tells, rr_A_16, rr_A_0, rr_L_16, rr_L_0, rr_L_c, rr_L_n, rr_L_a])
set_option maxRecDepth 20000 in
theorem r_ends5 (l : Launch) {kd : am_kd} {rv : am_rv} {iv : am_iv} (hR : shr kd rv) (ok : rr_ok iv) (q : Nat) (hw : iv (30, 0, 0) 16 = nI q) (hq6 : q < 6) (x : Int32) : am_Met l mX12_ends (am_rm 2 0 0) [am_P (30, 0, 0), am_I 5, am_I x] kd rv iv (am_ret (some (am_I (vo_ends 5 (fun k => if k = 1 then iv (30, 0, 0) 16 else iv (31, 0, 0) (21 + 2 * q)) x).1)) kd rv (rr_L (vo_ends 5 (fun k => if k = 1 then iv (30, 0, 0) 16 else iv (31, 0, 0) (21 + 2 * q)) x).2 iv)) := by
  refine am_Met.of (by decide) (Nat.le_of_ble_eq_true rfl) rfl ?_
  refine A_iload_n (pc := 0) (i := 1) dX12_ends_0 rfl rfl ?_
  refine A_lookup (pc := 1) (off := 87) 88 dX12_ends_1 (by decide) (by decide) (by decide) ?_
  refine A_aload_n (pc := 88) (i := 0) dX12_ends_88 rfl rfl ?_
  refine A_iload_n (pc := 89) (i := 1) dX12_ends_89 rfl rfl ?_
  refine A_callS1 (pc := 90) cs_X12_287 (r_above l 5) rfl rfl (Nat.le_of_ble_eq_true rfl) ⟨(Nat.le_of_ble_eq_true rfl), (Nat.le_of_ble_eq_true rfl)⟩ ⟨Nat.zero_le _, Nat.zero_le _⟩ dX12_ends_90 ?_
  refine A_top (show (if (5 : Int32) = 4 then (3 : Int32) else if (5 : Int32) = 6 then 5 else 0) = 0 by decide) ?_
  refine A_iload_n (pc := 93) (i := 2) dX12_ends_93 rfl rfl ?_
  refine A_callV1 (pc := 94) cv_X12_299 (r_ends0 l hR ok q hw hq6 x) hR.1 rfl rfl rfl rfl (Nat.le_of_ble_eq_true rfl) ⟨(Nat.le_of_ble_eq_true rfl), (Nat.le_of_ble_eq_true rfl)⟩ ⟨Nat.zero_le _, Nat.zero_le _⟩ dX12_ends_94 ?_
  exact A_iretE (pc := 97) dX12_ends_97 rfl (Nat.zero_le _) (Nat.zero_le _) (by simp [vo_goes, vo_ends, vo_m0, vo_moves, vo_t0, vo_tells, rr_A_16, rr_A_0, rr_L_16, rr_L_0, rr_L_c, rr_L_n, rr_L_a]) (by simp [vo_goes, vo_ends, vo_m0, vo_moves, vo_t0, vo_tells, rr_A_16, rr_A_0, rr_L_16, rr_L_0, rr_L_c, rr_L_n, rr_L_a])
set_option maxRecDepth 20000 in
theorem r_ends4 (l : Launch) {kd : am_kd} {rv : am_rv} {iv : am_iv} (hR : shr kd rv) (ok : rr_ok iv) (q : Nat) (hw : iv (30, 0, 0) 16 = nI q) (hq6 : q < 6) (x : Int32) : am_Met l mX12_ends (am_rm 3 0 0) [am_P (30, 0, 0), am_I 4, am_I x] kd rv iv (am_ret (some (am_I (vo_ends 4 (fun k => if k = 1 then iv (30, 0, 0) 16 else iv (31, 0, 0) (21 + 2 * q)) x).1)) kd rv (rr_L (vo_ends 4 (fun k => if k = 1 then iv (30, 0, 0) 16 else iv (31, 0, 0) (21 + 2 * q)) x).2 iv)) := by
  refine am_Met.of (by decide) (Nat.le_of_ble_eq_true rfl) rfl ?_
  refine A_iload_n (pc := 0) (i := 1) dX12_ends_0 rfl rfl ?_
  refine A_lookup (pc := 1) (off := 87) 88 dX12_ends_1 (by decide) (by decide) (by decide) ?_
  refine A_aload_n (pc := 88) (i := 0) dX12_ends_88 rfl rfl ?_
  refine A_iload_n (pc := 89) (i := 1) dX12_ends_89 rfl rfl ?_
  refine A_callS1 (pc := 90) cs_X12_287 (r_above l 4) rfl rfl (Nat.le_of_ble_eq_true rfl) ⟨(Nat.le_of_ble_eq_true rfl), (Nat.le_of_ble_eq_true rfl)⟩ ⟨Nat.zero_le _, Nat.zero_le _⟩ dX12_ends_90 ?_
  refine A_top (show (if (4 : Int32) = 4 then (3 : Int32) else if (4 : Int32) = 6 then 5 else 0) = 3 by decide) ?_
  refine A_iload_n (pc := 93) (i := 2) dX12_ends_93 rfl rfl ?_
  refine A_callV1 (pc := 94) cv_X12_299 (r_ends3 l hR ok q hw hq6 x) hR.1 rfl rfl rfl rfl (Nat.le_of_ble_eq_true rfl) ⟨(Nat.le_of_ble_eq_true rfl), (Nat.le_of_ble_eq_true rfl)⟩ ⟨Nat.zero_le _, Nat.zero_le _⟩ dX12_ends_94 ?_
  exact A_iretE (pc := 97) dX12_ends_97 rfl (Nat.zero_le _) (Nat.zero_le _) (by simp [vo_goes, vo_ends, vo_m0, vo_moves, vo_t0, vo_tells, rr_A_16, rr_A_0, rr_L_16, rr_L_0, rr_L_c, rr_L_n, rr_L_a]) (by simp [vo_goes, vo_ends, vo_m0, vo_moves, vo_t0, vo_tells, rr_A_16, rr_A_0, rr_L_16, rr_L_0, rr_L_c, rr_L_n, rr_L_a])
set_option maxRecDepth 20000 in
theorem r_ends6 (l : Launch) {kd : am_kd} {rv : am_rv} {iv : am_iv} (hR : shr kd rv) (ok : rr_ok iv) (q : Nat) (hw : iv (30, 0, 0) 16 = nI q) (hq6 : q < 6) (x : Int32) : am_Met l mX12_ends (am_rm 3 0 0) [am_P (30, 0, 0), am_I 6, am_I x] kd rv iv (am_ret (some (am_I (vo_ends 6 (fun k => if k = 1 then iv (30, 0, 0) 16 else iv (31, 0, 0) (21 + 2 * q)) x).1)) kd rv (rr_L (vo_ends 6 (fun k => if k = 1 then iv (30, 0, 0) 16 else iv (31, 0, 0) (21 + 2 * q)) x).2 iv)) := by
  refine am_Met.of (by decide) (Nat.le_of_ble_eq_true rfl) rfl ?_
  refine A_iload_n (pc := 0) (i := 1) dX12_ends_0 rfl rfl ?_
  refine A_lookup (pc := 1) (off := 65) 66 dX12_ends_1 (by decide) (by decide) (by decide) ?_
  refine A_aload_n (pc := 66) (i := 0) dX12_ends_66 rfl rfl ?_
  refine A_bipush (pc := 67) (70) dX12_ends_67 (by decide) ?_
  refine A_callV0 (pc := 69) cv_X12_284 (r_rr l hR ok 70) hR.1 rfl rfl rfl rfl (Nat.le_of_ble_eq_true rfl) ⟨(Nat.le_of_ble_eq_true rfl), (Nat.le_of_ble_eq_true rfl)⟩ ⟨Nat.zero_le _, Nat.zero_le _⟩ dX12_ends_69 ?_
  refine A_aload_n (pc := 72) (i := 0) dX12_ends_72 rfl rfl ?_
  refine A_bipush (pc := 73) (6) dX12_ends_73 (by decide) ?_
  refine A_callS1 (pc := 75) cs_X12_287 (r_above l 6) rfl rfl (Nat.le_of_ble_eq_true rfl) ⟨(Nat.le_of_ble_eq_true rfl), (Nat.le_of_ble_eq_true rfl)⟩ ⟨Nat.zero_le _, Nat.zero_le _⟩ dX12_ends_75 ?_
  refine A_top (show (if (6 : Int32) = 4 then (3 : Int32) else if (6 : Int32) = 6 then 5 else 0) = 5 by decide) ?_
  refine A_iload_n (pc := 78) (i := 2) dX12_ends_78 rfl rfl ?_
  refine A_callV1 (pc := 79) cv_X12_299 (r_ends5 l hR (rr_A_ok ok) q (rr_A_16.trans hw) hq6 x) hR.1 rfl rfl rfl rfl (Nat.le_of_ble_eq_true rfl) ⟨(Nat.le_of_ble_eq_true rfl), (Nat.le_of_ble_eq_true rfl)⟩ ⟨Nat.zero_le _, Nat.zero_le _⟩ dX12_ends_79 ?_
  refine A_aload_n (pc := 82) (i := 0) dX12_ends_82 rfl rfl ?_
  refine A_callV1 (pc := 83) cv_X12_302 (r_toldM l hR q (rr_L_16.trans (rr_A_16.trans hw)) hq6) hR.1 rfl rfl rfl rfl (Nat.le_of_ble_eq_true rfl) ⟨(Nat.le_of_ble_eq_true rfl), (Nat.le_of_ble_eq_true rfl)⟩ ⟨Nat.zero_le _, Nat.zero_le _⟩ dX12_ends_83 ?_
  refine A_iadd (pc := 86) dX12_ends_86 ?_
  exact A_iretE (pc := 87) dX12_ends_87 rfl (Nat.zero_le _) (Nat.zero_le _) (by simp [vo_goes, vo_ends, vo_m0, vo_moves, vo_t0, vo_tells, rr_A_16, rr_A_0, rr_L_16, rr_L_0, rr_L_c, rr_L_n, rr_L_a]) (by simp [vo_goes, vo_ends, vo_m0, vo_moves, vo_t0, vo_tells, rr_A_16, rr_A_0, rr_L_16, rr_L_0, rr_L_c, rr_L_n, rr_L_a])
set_option maxRecDepth 20000 in
theorem r_m0_0 (l : Launch) {kd : am_kd} {rv : am_rv} {iv : am_iv} (hR : shr kd rv) (ok : rr_ok iv) (q : Nat) (hw : iv (30, 0, 0) 16 = nI q) (hq6 : q < 6) (eK : iv (31, 0, 0) (20 + 2 * q) = 0) (x : Int32) : am_Met l mX12_moves (am_rm 5 0 0) [am_P (30, 0, 0), am_I 0, am_I x] kd rv iv (am_ret (some (am_I (vo_m0 0 (fun k => if k = 1 then iv (30, 0, 0) 16 else iv (31, 0, 0) (21 + 2 * q)) x).1)) kd rv (rr_L (vo_m0 0 (fun k => if k = 1 then iv (30, 0, 0) 16 else iv (31, 0, 0) (21 + 2 * q)) x).2 iv)) := by
  refine am_Met.of (by decide) (Nat.le_of_ble_eq_true rfl) rfl ?_
  refine A_iload_n (pc := 0) (i := 1) dX12_moves_0 rfl rfl ?_
  refine A_lookup (pc := 1) (off := 35) 36 dX12_moves_1 (by decide) (by decide) (by decide) ?_
  refine A_aload_n (pc := 36) (i := 0) dX12_moves_36 rfl rfl ?_
  refine A_bipush (pc := 37) (11) dX12_moves_37 (by decide) ?_
  refine A_callV0 (pc := 39) cv_X12_284 (r_rr l hR ok 11) hR.1 rfl rfl rfl rfl (Nat.le_of_ble_eq_true rfl) ⟨(Nat.le_of_ble_eq_true rfl), (Nat.le_of_ble_eq_true rfl)⟩ ⟨Nat.zero_le _, Nat.zero_le _⟩ dX12_moves_39 ?_
  refine A_aload_n (pc := 42) (i := 0) dX12_moves_42 rfl rfl ?_
  refine A_aload_n (pc := 43) (i := 0) dX12_moves_43 rfl rfl ?_
  refine A_callV1 (pc := 44) cv_X12_293 (r_own l hR q (rr_A_16.trans hw) hq6) hR.1 rfl rfl rfl rfl (Nat.le_of_ble_eq_true rfl) ⟨(Nat.le_of_ble_eq_true rfl), (Nat.le_of_ble_eq_true rfl)⟩ ⟨Nat.zero_le _, Nat.zero_le _⟩ dX12_moves_44 ?_
  refine A_top (y := 0) (rr_A_0.trans eK) ?_
  refine A_iload_n (pc := 47) (i := 2) dX12_moves_47 rfl rfl ?_
  refine A_callV1 (pc := 48) cv_X12_290 (r_goes0 l hR (rr_A_ok ok) q (rr_A_16.trans hw) hq6 x) hR.1 rfl rfl rfl rfl (Nat.le_of_ble_eq_true rfl) ⟨(Nat.le_of_ble_eq_true rfl), (Nat.le_of_ble_eq_true rfl)⟩ ⟨Nat.zero_le _, Nat.zero_le _⟩ dX12_moves_48 ?_
  refine A_iconst (pc := 51) (2) dX12_moves_51 (by decide) ?_
  refine A_imul (pc := 52) dX12_moves_52 ?_
  exact A_iretE (pc := 53) dX12_moves_53 rfl (Nat.zero_le _) (Nat.zero_le _) (by simp [vo_goes, vo_ends, vo_m0, vo_moves, vo_t0, vo_tells, rr_A_16, rr_A_0, rr_L_16, rr_L_0, rr_L_c, rr_L_n, rr_L_a]) (by simp [vo_goes, vo_ends, vo_m0, vo_moves, vo_t0, vo_tells, rr_A_16, rr_A_0, rr_L_16, rr_L_0, rr_L_c, rr_L_n, rr_L_a])
theorem r_moves0 (l : Launch) {kd : am_kd} {rv : am_rv} {iv : am_iv} (hR : shr kd rv) (ok : rr_ok iv) (q : Nat) (hw : iv (30, 0, 0) 16 = nI q) (hq6 : q < 6) (eK : iv (31, 0, 0) (20 + 2 * q) = 0) (x : Int32) : am_Met l mX12_moves (am_rm 5 0 0) [am_P (30, 0, 0), am_I 0, am_I x] kd rv iv (am_ret (some (am_I (vo_moves 0 (fun k => if k = 1 then iv (30, 0, 0) 16 else iv (31, 0, 0) (21 + 2 * q)) x).1)) kd rv (rr_L (vo_moves 0 (fun k => if k = 1 then iv (30, 0, 0) 16 else iv (31, 0, 0) (21 + 2 * q)) x).2 iv)) := r_m0_0 l hR ok q hw hq6 eK x
set_option maxRecDepth 20000 in
theorem r_m0_1 (l : Launch) {kd : am_kd} {rv : am_rv} {iv : am_iv} (hR : shr kd rv) (ok : rr_ok iv) (q : Nat) (hw : iv (30, 0, 0) 16 = nI q) (hq6 : q < 6) (eK : iv (31, 0, 0) (20 + 2 * q) = 1) (x : Int32) : am_Met l mX12_moves (am_rm 5 0 0) [am_P (30, 0, 0), am_I 0, am_I x] kd rv iv (am_ret (some (am_I (vo_m0 1 (fun k => if k = 1 then iv (30, 0, 0) 16 else iv (31, 0, 0) (21 + 2 * q)) x).1)) kd rv (rr_L (vo_m0 1 (fun k => if k = 1 then iv (30, 0, 0) 16 else iv (31, 0, 0) (21 + 2 * q)) x).2 iv)) := by
  refine am_Met.of (by decide) (Nat.le_of_ble_eq_true rfl) rfl ?_
  refine A_iload_n (pc := 0) (i := 1) dX12_moves_0 rfl rfl ?_
  refine A_lookup (pc := 1) (off := 35) 36 dX12_moves_1 (by decide) (by decide) (by decide) ?_
  refine A_aload_n (pc := 36) (i := 0) dX12_moves_36 rfl rfl ?_
  refine A_bipush (pc := 37) (11) dX12_moves_37 (by decide) ?_
  refine A_callV0 (pc := 39) cv_X12_284 (r_rr l hR ok 11) hR.1 rfl rfl rfl rfl (Nat.le_of_ble_eq_true rfl) ⟨(Nat.le_of_ble_eq_true rfl), (Nat.le_of_ble_eq_true rfl)⟩ ⟨Nat.zero_le _, Nat.zero_le _⟩ dX12_moves_39 ?_
  refine A_aload_n (pc := 42) (i := 0) dX12_moves_42 rfl rfl ?_
  refine A_aload_n (pc := 43) (i := 0) dX12_moves_43 rfl rfl ?_
  refine A_callV1 (pc := 44) cv_X12_293 (r_own l hR q (rr_A_16.trans hw) hq6) hR.1 rfl rfl rfl rfl (Nat.le_of_ble_eq_true rfl) ⟨(Nat.le_of_ble_eq_true rfl), (Nat.le_of_ble_eq_true rfl)⟩ ⟨Nat.zero_le _, Nat.zero_le _⟩ dX12_moves_44 ?_
  refine A_top (y := 1) (rr_A_0.trans eK) ?_
  refine A_iload_n (pc := 47) (i := 2) dX12_moves_47 rfl rfl ?_
  refine A_callV1 (pc := 48) cv_X12_290 (r_goes1 l hR (rr_A_ok ok) q (rr_A_16.trans hw) hq6 x) hR.1 rfl rfl rfl rfl (Nat.le_of_ble_eq_true rfl) ⟨(Nat.le_of_ble_eq_true rfl), (Nat.le_of_ble_eq_true rfl)⟩ ⟨Nat.zero_le _, Nat.zero_le _⟩ dX12_moves_48 ?_
  refine A_iconst (pc := 51) (2) dX12_moves_51 (by decide) ?_
  refine A_imul (pc := 52) dX12_moves_52 ?_
  exact A_iretE (pc := 53) dX12_moves_53 rfl (Nat.zero_le _) (Nat.zero_le _) (by simp [vo_goes, vo_ends, vo_m0, vo_moves, vo_t0, vo_tells, rr_A_16, rr_A_0, rr_L_16, rr_L_0, rr_L_c, rr_L_n, rr_L_a]) (by simp [vo_goes, vo_ends, vo_m0, vo_moves, vo_t0, vo_tells, rr_A_16, rr_A_0, rr_L_16, rr_L_0, rr_L_c, rr_L_n, rr_L_a])
set_option maxRecDepth 20000 in
theorem r_moves1 (l : Launch) {kd : am_kd} {rv : am_rv} {iv : am_iv} (hR : shr kd rv) (ok : rr_ok iv) (q : Nat) (hw : iv (30, 0, 0) 16 = nI q) (hq6 : q < 6) (eK : iv (31, 0, 0) (20 + 2 * q) = 1) (x : Int32) : am_Met l mX12_moves (am_rm 6 0 0) [am_P (30, 0, 0), am_I 1, am_I x] kd rv iv (am_ret (some (am_I (vo_moves 1 (fun k => if k = 1 then iv (30, 0, 0) 16 else iv (31, 0, 0) (21 + 2 * q)) x).1)) kd rv (rr_L (vo_moves 1 (fun k => if k = 1 then iv (30, 0, 0) 16 else iv (31, 0, 0) (21 + 2 * q)) x).2 iv)) := by
  refine am_Met.of (by decide) (Nat.le_of_ble_eq_true rfl) rfl ?_
  refine A_iload_n (pc := 0) (i := 1) dX12_moves_0 rfl rfl ?_
  refine A_lookup (pc := 1) (off := 53) 54 dX12_moves_1 (by decide) (by decide) (by decide) ?_
  refine A_aload_n (pc := 54) (i := 0) dX12_moves_54 rfl rfl ?_
  refine A_bipush (pc := 55) (20) dX12_moves_55 (by decide) ?_
  refine A_callV0 (pc := 57) cv_X12_284 (r_rr l hR ok 20) hR.1 rfl rfl rfl rfl (Nat.le_of_ble_eq_true rfl) ⟨(Nat.le_of_ble_eq_true rfl), (Nat.le_of_ble_eq_true rfl)⟩ ⟨Nat.zero_le _, Nat.zero_le _⟩ dX12_moves_57 ?_
  refine A_aload_n (pc := 60) (i := 0) dX12_moves_60 rfl rfl ?_
  refine A_iconst (pc := 61) (1) dX12_moves_61 (by decide) ?_
  refine A_callS1 (pc := 62) cs_X12_287 (r_above l 1) rfl rfl (Nat.le_of_ble_eq_true rfl) ⟨(Nat.le_of_ble_eq_true rfl), (Nat.le_of_ble_eq_true rfl)⟩ ⟨Nat.zero_le _, Nat.zero_le _⟩ dX12_moves_62 ?_
  refine A_top (show (if (1 : Int32) = 4 then (3 : Int32) else if (1 : Int32) = 6 then 5 else 0) = 0 by decide) ?_
  refine A_iload_n (pc := 65) (i := 2) dX12_moves_65 rfl rfl ?_
  refine A_callV1 (pc := 66) cv_X12_296 (r_m0_1 l hR (rr_A_ok ok) q (rr_A_16.trans hw) hq6 (rr_A_0.trans eK) x) hR.1 rfl rfl rfl rfl (Nat.le_of_ble_eq_true rfl) ⟨(Nat.le_of_ble_eq_true rfl), (Nat.le_of_ble_eq_true rfl)⟩ ⟨Nat.zero_le _, Nat.zero_le _⟩ dX12_moves_66 ?_
  refine A_ist3 (pc := 69) dX12_moves_69 (Nat.le_of_ble_eq_true rfl) rfl ?_
  refine A_iload_n (pc := 70) (i := 3) dX12_moves_70 rfl rfl ?_
  refine A_aload_n (pc := 71) (i := 0) dX12_moves_71 rfl rfl ?_
  refine A_aload_n (pc := 72) (i := 0) dX12_moves_72 rfl rfl ?_
  refine A_callV1 (pc := 73) cv_X12_293 (r_own l hR q (rr_L_16.trans (rr_A_16.trans hw)) hq6) hR.1 rfl rfl rfl rfl (Nat.le_of_ble_eq_true rfl) ⟨(Nat.le_of_ble_eq_true rfl), (Nat.le_of_ble_eq_true rfl)⟩ ⟨Nat.zero_le _, Nat.zero_le _⟩ dX12_moves_73 ?_
  refine A_top (y := 1) (rr_L_0.trans (rr_A_0.trans eK)) ?_
  refine A_iconst (pc := 76) (1) dX12_moves_76 (by decide) ?_
  refine A_callV1 (pc := 77) cv_X12_299 (r_ends1 l hR (rr_L_ok (rr_A_ok ok)) q (rr_L_16.trans (rr_A_16.trans hw)) hq6 1) hR.1 rfl rfl rfl rfl (Nat.le_of_ble_eq_true rfl) ⟨(Nat.le_of_ble_eq_true rfl), (Nat.le_of_ble_eq_true rfl)⟩ ⟨Nat.zero_le _, Nat.zero_le _⟩ dX12_moves_77 ?_
  refine A_isub (pc := 80) dX12_moves_80 ?_
  exact A_iretE (pc := 81) dX12_moves_81 rfl (Nat.zero_le _) (Nat.zero_le _) (by simp [vo_goes, vo_ends, vo_m0, vo_moves, vo_t0, vo_tells, rr_A_16, rr_A_0, rr_L_16, rr_L_0, rr_L_c, rr_L_n, rr_L_a]) (by simp [vo_goes, vo_ends, vo_m0, vo_moves, vo_t0, vo_tells, rr_A_16, rr_A_0, rr_L_16, rr_L_0, rr_L_c, rr_L_n, rr_L_a])
set_option maxRecDepth 20000 in
theorem r_m0_2 (l : Launch) {kd : am_kd} {rv : am_rv} {iv : am_iv} (hR : shr kd rv) (ok : rr_ok iv) (q : Nat) (hw : iv (30, 0, 0) 16 = nI q) (hq6 : q < 6) (eK : iv (31, 0, 0) (20 + 2 * q) = 2) (x : Int32) : am_Met l mX12_moves (am_rm 5 0 0) [am_P (30, 0, 0), am_I 0, am_I x] kd rv iv (am_ret (some (am_I (vo_m0 2 (fun k => if k = 1 then iv (30, 0, 0) 16 else iv (31, 0, 0) (21 + 2 * q)) x).1)) kd rv (rr_L (vo_m0 2 (fun k => if k = 1 then iv (30, 0, 0) 16 else iv (31, 0, 0) (21 + 2 * q)) x).2 iv)) := by
  refine am_Met.of (by decide) (Nat.le_of_ble_eq_true rfl) rfl ?_
  refine A_iload_n (pc := 0) (i := 1) dX12_moves_0 rfl rfl ?_
  refine A_lookup (pc := 1) (off := 35) 36 dX12_moves_1 (by decide) (by decide) (by decide) ?_
  refine A_aload_n (pc := 36) (i := 0) dX12_moves_36 rfl rfl ?_
  refine A_bipush (pc := 37) (11) dX12_moves_37 (by decide) ?_
  refine A_callV0 (pc := 39) cv_X12_284 (r_rr l hR ok 11) hR.1 rfl rfl rfl rfl (Nat.le_of_ble_eq_true rfl) ⟨(Nat.le_of_ble_eq_true rfl), (Nat.le_of_ble_eq_true rfl)⟩ ⟨Nat.zero_le _, Nat.zero_le _⟩ dX12_moves_39 ?_
  refine A_aload_n (pc := 42) (i := 0) dX12_moves_42 rfl rfl ?_
  refine A_aload_n (pc := 43) (i := 0) dX12_moves_43 rfl rfl ?_
  refine A_callV1 (pc := 44) cv_X12_293 (r_own l hR q (rr_A_16.trans hw) hq6) hR.1 rfl rfl rfl rfl (Nat.le_of_ble_eq_true rfl) ⟨(Nat.le_of_ble_eq_true rfl), (Nat.le_of_ble_eq_true rfl)⟩ ⟨Nat.zero_le _, Nat.zero_le _⟩ dX12_moves_44 ?_
  refine A_top (y := 2) (rr_A_0.trans eK) ?_
  refine A_iload_n (pc := 47) (i := 2) dX12_moves_47 rfl rfl ?_
  refine A_callV1 (pc := 48) cv_X12_290 (r_goes2 l hR (rr_A_ok ok) q (rr_A_16.trans hw) hq6 x) hR.1 rfl rfl rfl rfl (Nat.le_of_ble_eq_true rfl) ⟨(Nat.le_of_ble_eq_true rfl), (Nat.le_of_ble_eq_true rfl)⟩ ⟨Nat.zero_le _, Nat.zero_le _⟩ dX12_moves_48 ?_
  refine A_iconst (pc := 51) (2) dX12_moves_51 (by decide) ?_
  refine A_imul (pc := 52) dX12_moves_52 ?_
  exact A_iretE (pc := 53) dX12_moves_53 rfl (Nat.zero_le _) (Nat.zero_le _) (by simp [vo_goes, vo_ends, vo_m0, vo_moves, vo_t0, vo_tells, rr_A_16, rr_A_0, rr_L_16, rr_L_0, rr_L_c, rr_L_n, rr_L_a]) (by simp [vo_goes, vo_ends, vo_m0, vo_moves, vo_t0, vo_tells, rr_A_16, rr_A_0, rr_L_16, rr_L_0, rr_L_c, rr_L_n, rr_L_a])
set_option maxRecDepth 20000 in
theorem r_moves2 (l : Launch) {kd : am_kd} {rv : am_rv} {iv : am_iv} (hR : shr kd rv) (ok : rr_ok iv) (q : Nat) (hw : iv (30, 0, 0) 16 = nI q) (hq6 : q < 6) (eK : iv (31, 0, 0) (20 + 2 * q) = 2) (x : Int32) : am_Met l mX12_moves (am_rm 7 0 0) [am_P (30, 0, 0), am_I 2, am_I x] kd rv iv (am_ret (some (am_I (vo_moves 2 (fun k => if k = 1 then iv (30, 0, 0) 16 else iv (31, 0, 0) (21 + 2 * q)) x).1)) kd rv (rr_L (vo_moves 2 (fun k => if k = 1 then iv (30, 0, 0) 16 else iv (31, 0, 0) (21 + 2 * q)) x).2 iv)) := by
  refine am_Met.of (by decide) (Nat.le_of_ble_eq_true rfl) rfl ?_
  refine A_iload_n (pc := 0) (i := 1) dX12_moves_0 rfl rfl ?_
  refine A_lookup (pc := 1) (off := 102) 103 dX12_moves_1 (by decide) (by decide) (by decide) ?_
  refine A_aload_n (pc := 103) (i := 0) dX12_moves_103 rfl rfl ?_
  refine A_iload_n (pc := 104) (i := 1) dX12_moves_104 rfl rfl ?_
  refine A_callS1 (pc := 105) cs_X12_287 (r_above l 2) rfl rfl (Nat.le_of_ble_eq_true rfl) ⟨(Nat.le_of_ble_eq_true rfl), (Nat.le_of_ble_eq_true rfl)⟩ ⟨Nat.zero_le _, Nat.zero_le _⟩ dX12_moves_105 ?_
  refine A_top (show (if (2 : Int32) = 4 then (3 : Int32) else if (2 : Int32) = 6 then 5 else 0) = 0 by decide) ?_
  refine A_iload_n (pc := 108) (i := 2) dX12_moves_108 rfl rfl ?_
  refine A_callV1 (pc := 109) cv_X12_296 (r_m0_2 l hR ok q hw hq6 eK x) hR.1 rfl rfl rfl rfl (Nat.le_of_ble_eq_true rfl) ⟨(Nat.le_of_ble_eq_true rfl), (Nat.le_of_ble_eq_true rfl)⟩ ⟨Nat.zero_le _, Nat.zero_le _⟩ dX12_moves_109 ?_
  exact A_iretE (pc := 112) dX12_moves_112 rfl (Nat.zero_le _) (Nat.zero_le _) (by simp [vo_goes, vo_ends, vo_m0, vo_moves, vo_t0, vo_tells, rr_A_16, rr_A_0, rr_L_16, rr_L_0, rr_L_c, rr_L_n, rr_L_a]) (by simp [vo_goes, vo_ends, vo_m0, vo_moves, vo_t0, vo_tells, rr_A_16, rr_A_0, rr_L_16, rr_L_0, rr_L_c, rr_L_n, rr_L_a])
set_option maxRecDepth 20000 in
theorem r_m0_3 (l : Launch) {kd : am_kd} {rv : am_rv} {iv : am_iv} (hR : shr kd rv) (ok : rr_ok iv) (q : Nat) (hw : iv (30, 0, 0) 16 = nI q) (hq6 : q < 6) (eK : iv (31, 0, 0) (20 + 2 * q) = 3) (x : Int32) : am_Met l mX12_moves (am_rm 5 0 0) [am_P (30, 0, 0), am_I 0, am_I x] kd rv iv (am_ret (some (am_I (vo_m0 3 (fun k => if k = 1 then iv (30, 0, 0) 16 else iv (31, 0, 0) (21 + 2 * q)) x).1)) kd rv (rr_L (vo_m0 3 (fun k => if k = 1 then iv (30, 0, 0) 16 else iv (31, 0, 0) (21 + 2 * q)) x).2 iv)) := by
  refine am_Met.of (by decide) (Nat.le_of_ble_eq_true rfl) rfl ?_
  refine A_iload_n (pc := 0) (i := 1) dX12_moves_0 rfl rfl ?_
  refine A_lookup (pc := 1) (off := 35) 36 dX12_moves_1 (by decide) (by decide) (by decide) ?_
  refine A_aload_n (pc := 36) (i := 0) dX12_moves_36 rfl rfl ?_
  refine A_bipush (pc := 37) (11) dX12_moves_37 (by decide) ?_
  refine A_callV0 (pc := 39) cv_X12_284 (r_rr l hR ok 11) hR.1 rfl rfl rfl rfl (Nat.le_of_ble_eq_true rfl) ⟨(Nat.le_of_ble_eq_true rfl), (Nat.le_of_ble_eq_true rfl)⟩ ⟨Nat.zero_le _, Nat.zero_le _⟩ dX12_moves_39 ?_
  refine A_aload_n (pc := 42) (i := 0) dX12_moves_42 rfl rfl ?_
  refine A_aload_n (pc := 43) (i := 0) dX12_moves_43 rfl rfl ?_
  refine A_callV1 (pc := 44) cv_X12_293 (r_own l hR q (rr_A_16.trans hw) hq6) hR.1 rfl rfl rfl rfl (Nat.le_of_ble_eq_true rfl) ⟨(Nat.le_of_ble_eq_true rfl), (Nat.le_of_ble_eq_true rfl)⟩ ⟨Nat.zero_le _, Nat.zero_le _⟩ dX12_moves_44 ?_
  refine A_top (y := 3) (rr_A_0.trans eK) ?_
  refine A_iload_n (pc := 47) (i := 2) dX12_moves_47 rfl rfl ?_
  refine A_callV1 (pc := 48) cv_X12_290 (r_goes3 l hR (rr_A_ok ok) q (rr_A_16.trans hw) hq6 x) hR.1 rfl rfl rfl rfl (Nat.le_of_ble_eq_true rfl) ⟨(Nat.le_of_ble_eq_true rfl), (Nat.le_of_ble_eq_true rfl)⟩ ⟨Nat.zero_le _, Nat.zero_le _⟩ dX12_moves_48 ?_
  refine A_iconst (pc := 51) (2) dX12_moves_51 (by decide) ?_
  refine A_imul (pc := 52) dX12_moves_52 ?_
  exact A_iretE (pc := 53) dX12_moves_53 rfl (Nat.zero_le _) (Nat.zero_le _) (by simp [vo_goes, vo_ends, vo_m0, vo_moves, vo_t0, vo_tells, rr_A_16, rr_A_0, rr_L_16, rr_L_0, rr_L_c, rr_L_n, rr_L_a]) (by simp [vo_goes, vo_ends, vo_m0, vo_moves, vo_t0, vo_tells, rr_A_16, rr_A_0, rr_L_16, rr_L_0, rr_L_c, rr_L_n, rr_L_a])
set_option maxRecDepth 20000 in
theorem r_moves3 (l : Launch) {kd : am_kd} {rv : am_rv} {iv : am_iv} (hR : shr kd rv) (ok : rr_ok iv) (q : Nat) (hw : iv (30, 0, 0) 16 = nI q) (hq6 : q < 6) (eK : iv (31, 0, 0) (20 + 2 * q) = 3) (x : Int32) : am_Met l mX12_moves (am_rm 7 0 0) [am_P (30, 0, 0), am_I 3, am_I x] kd rv iv (am_ret (some (am_I (vo_moves 3 (fun k => if k = 1 then iv (30, 0, 0) 16 else iv (31, 0, 0) (21 + 2 * q)) x).1)) kd rv (rr_L (vo_moves 3 (fun k => if k = 1 then iv (30, 0, 0) 16 else iv (31, 0, 0) (21 + 2 * q)) x).2 iv)) := by
  refine am_Met.of (by decide) (Nat.le_of_ble_eq_true rfl) rfl ?_
  refine A_iload_n (pc := 0) (i := 1) dX12_moves_0 rfl rfl ?_
  refine A_lookup (pc := 1) (off := 102) 103 dX12_moves_1 (by decide) (by decide) (by decide) ?_
  refine A_aload_n (pc := 103) (i := 0) dX12_moves_103 rfl rfl ?_
  refine A_iload_n (pc := 104) (i := 1) dX12_moves_104 rfl rfl ?_
  refine A_callS1 (pc := 105) cs_X12_287 (r_above l 3) rfl rfl (Nat.le_of_ble_eq_true rfl) ⟨(Nat.le_of_ble_eq_true rfl), (Nat.le_of_ble_eq_true rfl)⟩ ⟨Nat.zero_le _, Nat.zero_le _⟩ dX12_moves_105 ?_
  refine A_top (show (if (3 : Int32) = 4 then (3 : Int32) else if (3 : Int32) = 6 then 5 else 0) = 0 by decide) ?_
  refine A_iload_n (pc := 108) (i := 2) dX12_moves_108 rfl rfl ?_
  refine A_callV1 (pc := 109) cv_X12_296 (r_m0_3 l hR ok q hw hq6 eK x) hR.1 rfl rfl rfl rfl (Nat.le_of_ble_eq_true rfl) ⟨(Nat.le_of_ble_eq_true rfl), (Nat.le_of_ble_eq_true rfl)⟩ ⟨Nat.zero_le _, Nat.zero_le _⟩ dX12_moves_109 ?_
  exact A_iretE (pc := 112) dX12_moves_112 rfl (Nat.zero_le _) (Nat.zero_le _) (by simp [vo_goes, vo_ends, vo_m0, vo_moves, vo_t0, vo_tells, rr_A_16, rr_A_0, rr_L_16, rr_L_0, rr_L_c, rr_L_n, rr_L_a]) (by simp [vo_goes, vo_ends, vo_m0, vo_moves, vo_t0, vo_tells, rr_A_16, rr_A_0, rr_L_16, rr_L_0, rr_L_c, rr_L_n, rr_L_a])
set_option maxRecDepth 20000 in
theorem r_m0_4 (l : Launch) {kd : am_kd} {rv : am_rv} {iv : am_iv} (hR : shr kd rv) (ok : rr_ok iv) (q : Nat) (hw : iv (30, 0, 0) 16 = nI q) (hq6 : q < 6) (eK : iv (31, 0, 0) (20 + 2 * q) = 4) (x : Int32) : am_Met l mX12_moves (am_rm 5 0 0) [am_P (30, 0, 0), am_I 0, am_I x] kd rv iv (am_ret (some (am_I (vo_m0 4 (fun k => if k = 1 then iv (30, 0, 0) 16 else iv (31, 0, 0) (21 + 2 * q)) x).1)) kd rv (rr_L (vo_m0 4 (fun k => if k = 1 then iv (30, 0, 0) 16 else iv (31, 0, 0) (21 + 2 * q)) x).2 iv)) := by
  refine am_Met.of (by decide) (Nat.le_of_ble_eq_true rfl) rfl ?_
  refine A_iload_n (pc := 0) (i := 1) dX12_moves_0 rfl rfl ?_
  refine A_lookup (pc := 1) (off := 35) 36 dX12_moves_1 (by decide) (by decide) (by decide) ?_
  refine A_aload_n (pc := 36) (i := 0) dX12_moves_36 rfl rfl ?_
  refine A_bipush (pc := 37) (11) dX12_moves_37 (by decide) ?_
  refine A_callV0 (pc := 39) cv_X12_284 (r_rr l hR ok 11) hR.1 rfl rfl rfl rfl (Nat.le_of_ble_eq_true rfl) ⟨(Nat.le_of_ble_eq_true rfl), (Nat.le_of_ble_eq_true rfl)⟩ ⟨Nat.zero_le _, Nat.zero_le _⟩ dX12_moves_39 ?_
  refine A_aload_n (pc := 42) (i := 0) dX12_moves_42 rfl rfl ?_
  refine A_aload_n (pc := 43) (i := 0) dX12_moves_43 rfl rfl ?_
  refine A_callV1 (pc := 44) cv_X12_293 (r_own l hR q (rr_A_16.trans hw) hq6) hR.1 rfl rfl rfl rfl (Nat.le_of_ble_eq_true rfl) ⟨(Nat.le_of_ble_eq_true rfl), (Nat.le_of_ble_eq_true rfl)⟩ ⟨Nat.zero_le _, Nat.zero_le _⟩ dX12_moves_44 ?_
  refine A_top (y := 4) (rr_A_0.trans eK) ?_
  refine A_iload_n (pc := 47) (i := 2) dX12_moves_47 rfl rfl ?_
  refine A_callV1 (pc := 48) cv_X12_290 (r_goes4 l hR (rr_A_ok ok) q (rr_A_16.trans hw) hq6 x) hR.1 rfl rfl rfl rfl (Nat.le_of_ble_eq_true rfl) ⟨(Nat.le_of_ble_eq_true rfl), (Nat.le_of_ble_eq_true rfl)⟩ ⟨Nat.zero_le _, Nat.zero_le _⟩ dX12_moves_48 ?_
  refine A_iconst (pc := 51) (2) dX12_moves_51 (by decide) ?_
  refine A_imul (pc := 52) dX12_moves_52 ?_
  exact A_iretE (pc := 53) dX12_moves_53 rfl (Nat.zero_le _) (Nat.zero_le _) (by simp [vo_goes, vo_ends, vo_m0, vo_moves, vo_t0, vo_tells, rr_A_16, rr_A_0, rr_L_16, rr_L_0, rr_L_c, rr_L_n, rr_L_a]) (by simp [vo_goes, vo_ends, vo_m0, vo_moves, vo_t0, vo_tells, rr_A_16, rr_A_0, rr_L_16, rr_L_0, rr_L_c, rr_L_n, rr_L_a])
set_option maxRecDepth 20000 in
theorem r_m3_4 (l : Launch) {kd : am_kd} {rv : am_rv} {iv : am_iv} (hR : shr kd rv) (ok : rr_ok iv) (q : Nat) (hw : iv (30, 0, 0) 16 = nI q) (hq6 : q < 6) (eK : iv (31, 0, 0) (20 + 2 * q) = 4) (x : Int32) : am_Met l mX12_moves (am_rm 6 0 0) [am_P (30, 0, 0), am_I 3, am_I x] kd rv iv (am_ret (some (am_I (vo_moves 4 (fun k => if k = 1 then iv (30, 0, 0) 16 else iv (31, 0, 0) (21 + 2 * q)) x).1)) kd rv (rr_L (vo_moves 4 (fun k => if k = 1 then iv (30, 0, 0) 16 else iv (31, 0, 0) (21 + 2 * q)) x).2 iv)) := by
  refine am_Met.of (by decide) (Nat.le_of_ble_eq_true rfl) rfl ?_
  refine A_iload_n (pc := 0) (i := 1) dX12_moves_0 rfl rfl ?_
  refine A_lookup (pc := 1) (off := 102) 103 dX12_moves_1 (by decide) (by decide) (by decide) ?_
  refine A_aload_n (pc := 103) (i := 0) dX12_moves_103 rfl rfl ?_
  refine A_iload_n (pc := 104) (i := 1) dX12_moves_104 rfl rfl ?_
  refine A_callS1 (pc := 105) cs_X12_287 (r_above l 3) rfl rfl (Nat.le_of_ble_eq_true rfl) ⟨(Nat.le_of_ble_eq_true rfl), (Nat.le_of_ble_eq_true rfl)⟩ ⟨Nat.zero_le _, Nat.zero_le _⟩ dX12_moves_105 ?_
  refine A_top (show (if (3 : Int32) = 4 then (3 : Int32) else if (3 : Int32) = 6 then 5 else 0) = 0 by decide) ?_
  refine A_iload_n (pc := 108) (i := 2) dX12_moves_108 rfl rfl ?_
  refine A_callV1 (pc := 109) cv_X12_296 (r_m0_4 l hR ok q hw hq6 eK x) hR.1 rfl rfl rfl rfl (Nat.le_of_ble_eq_true rfl) ⟨(Nat.le_of_ble_eq_true rfl), (Nat.le_of_ble_eq_true rfl)⟩ ⟨Nat.zero_le _, Nat.zero_le _⟩ dX12_moves_109 ?_
  exact A_iretE (pc := 112) dX12_moves_112 rfl (Nat.zero_le _) (Nat.zero_le _) (by simp [vo_goes, vo_ends, vo_m0, vo_moves, vo_t0, vo_tells, rr_A_16, rr_A_0, rr_L_16, rr_L_0, rr_L_c, rr_L_n, rr_L_a]) (by simp [vo_goes, vo_ends, vo_m0, vo_moves, vo_t0, vo_tells, rr_A_16, rr_A_0, rr_L_16, rr_L_0, rr_L_c, rr_L_n, rr_L_a])
set_option maxRecDepth 20000 in
theorem r_moves4 (l : Launch) {kd : am_kd} {rv : am_rv} {iv : am_iv} (hR : shr kd rv) (ok : rr_ok iv) (q : Nat) (hw : iv (30, 0, 0) 16 = nI q) (hq6 : q < 6) (eK : iv (31, 0, 0) (20 + 2 * q) = 4) (x : Int32) : am_Met l mX12_moves (am_rm 7 0 0) [am_P (30, 0, 0), am_I 4, am_I x] kd rv iv (am_ret (some (am_I (vo_moves 4 (fun k => if k = 1 then iv (30, 0, 0) 16 else iv (31, 0, 0) (21 + 2 * q)) x).1)) kd rv (rr_L (vo_moves 4 (fun k => if k = 1 then iv (30, 0, 0) 16 else iv (31, 0, 0) (21 + 2 * q)) x).2 iv)) := by
  refine am_Met.of (by decide) (Nat.le_of_ble_eq_true rfl) rfl ?_
  refine A_iload_n (pc := 0) (i := 1) dX12_moves_0 rfl rfl ?_
  refine A_lookup (pc := 1) (off := 102) 103 dX12_moves_1 (by decide) (by decide) (by decide) ?_
  refine A_aload_n (pc := 103) (i := 0) dX12_moves_103 rfl rfl ?_
  refine A_iload_n (pc := 104) (i := 1) dX12_moves_104 rfl rfl ?_
  refine A_callS1 (pc := 105) cs_X12_287 (r_above l 4) rfl rfl (Nat.le_of_ble_eq_true rfl) ⟨(Nat.le_of_ble_eq_true rfl), (Nat.le_of_ble_eq_true rfl)⟩ ⟨Nat.zero_le _, Nat.zero_le _⟩ dX12_moves_105 ?_
  refine A_top (show (if (4 : Int32) = 4 then (3 : Int32) else if (4 : Int32) = 6 then 5 else 0) = 3 by decide) ?_
  refine A_iload_n (pc := 108) (i := 2) dX12_moves_108 rfl rfl ?_
  refine A_callV1 (pc := 109) cv_X12_296 (r_m3_4 l hR ok q hw hq6 eK x) hR.1 rfl rfl rfl rfl (Nat.le_of_ble_eq_true rfl) ⟨(Nat.le_of_ble_eq_true rfl), (Nat.le_of_ble_eq_true rfl)⟩ ⟨Nat.zero_le _, Nat.zero_le _⟩ dX12_moves_109 ?_
  exact A_iretE (pc := 112) dX12_moves_112 rfl (Nat.zero_le _) (Nat.zero_le _) (by simp [vo_goes, vo_ends, vo_m0, vo_moves, vo_t0, vo_tells, rr_A_16, rr_A_0, rr_L_16, rr_L_0, rr_L_c, rr_L_n, rr_L_a]) (by simp [vo_goes, vo_ends, vo_m0, vo_moves, vo_t0, vo_tells, rr_A_16, rr_A_0, rr_L_16, rr_L_0, rr_L_c, rr_L_n, rr_L_a])
set_option maxRecDepth 20000 in
theorem r_m0_5 (l : Launch) {kd : am_kd} {rv : am_rv} {iv : am_iv} (hR : shr kd rv) (ok : rr_ok iv) (q : Nat) (hw : iv (30, 0, 0) 16 = nI q) (hq6 : q < 6) (eK : iv (31, 0, 0) (20 + 2 * q) = 5) (x : Int32) : am_Met l mX12_moves (am_rm 5 0 0) [am_P (30, 0, 0), am_I 0, am_I x] kd rv iv (am_ret (some (am_I (vo_m0 5 (fun k => if k = 1 then iv (30, 0, 0) 16 else iv (31, 0, 0) (21 + 2 * q)) x).1)) kd rv (rr_L (vo_m0 5 (fun k => if k = 1 then iv (30, 0, 0) 16 else iv (31, 0, 0) (21 + 2 * q)) x).2 iv)) := by
  refine am_Met.of (by decide) (Nat.le_of_ble_eq_true rfl) rfl ?_
  refine A_iload_n (pc := 0) (i := 1) dX12_moves_0 rfl rfl ?_
  refine A_lookup (pc := 1) (off := 35) 36 dX12_moves_1 (by decide) (by decide) (by decide) ?_
  refine A_aload_n (pc := 36) (i := 0) dX12_moves_36 rfl rfl ?_
  refine A_bipush (pc := 37) (11) dX12_moves_37 (by decide) ?_
  refine A_callV0 (pc := 39) cv_X12_284 (r_rr l hR ok 11) hR.1 rfl rfl rfl rfl (Nat.le_of_ble_eq_true rfl) ⟨(Nat.le_of_ble_eq_true rfl), (Nat.le_of_ble_eq_true rfl)⟩ ⟨Nat.zero_le _, Nat.zero_le _⟩ dX12_moves_39 ?_
  refine A_aload_n (pc := 42) (i := 0) dX12_moves_42 rfl rfl ?_
  refine A_aload_n (pc := 43) (i := 0) dX12_moves_43 rfl rfl ?_
  refine A_callV1 (pc := 44) cv_X12_293 (r_own l hR q (rr_A_16.trans hw) hq6) hR.1 rfl rfl rfl rfl (Nat.le_of_ble_eq_true rfl) ⟨(Nat.le_of_ble_eq_true rfl), (Nat.le_of_ble_eq_true rfl)⟩ ⟨Nat.zero_le _, Nat.zero_le _⟩ dX12_moves_44 ?_
  refine A_top (y := 5) (rr_A_0.trans eK) ?_
  refine A_iload_n (pc := 47) (i := 2) dX12_moves_47 rfl rfl ?_
  refine A_callV1 (pc := 48) cv_X12_290 (r_goes5 l hR (rr_A_ok ok) q (rr_A_16.trans hw) hq6 x) hR.1 rfl rfl rfl rfl (Nat.le_of_ble_eq_true rfl) ⟨(Nat.le_of_ble_eq_true rfl), (Nat.le_of_ble_eq_true rfl)⟩ ⟨Nat.zero_le _, Nat.zero_le _⟩ dX12_moves_48 ?_
  refine A_iconst (pc := 51) (2) dX12_moves_51 (by decide) ?_
  refine A_imul (pc := 52) dX12_moves_52 ?_
  exact A_iretE (pc := 53) dX12_moves_53 rfl (Nat.zero_le _) (Nat.zero_le _) (by simp [vo_goes, vo_ends, vo_m0, vo_moves, vo_t0, vo_tells, rr_A_16, rr_A_0, rr_L_16, rr_L_0, rr_L_c, rr_L_n, rr_L_a]) (by simp [vo_goes, vo_ends, vo_m0, vo_moves, vo_t0, vo_tells, rr_A_16, rr_A_0, rr_L_16, rr_L_0, rr_L_c, rr_L_n, rr_L_a])
set_option maxRecDepth 20000 in
theorem r_moves5 (l : Launch) {kd : am_kd} {rv : am_rv} {iv : am_iv} (hR : shr kd rv) (ok : rr_ok iv) (q : Nat) (hw : iv (30, 0, 0) 16 = nI q) (hq6 : q < 6) (eK : iv (31, 0, 0) (20 + 2 * q) = 5) (x : Int32) : am_Met l mX12_moves (am_rm 6 0 0) [am_P (30, 0, 0), am_I 5, am_I x] kd rv iv (am_ret (some (am_I (vo_moves 5 (fun k => if k = 1 then iv (30, 0, 0) 16 else iv (31, 0, 0) (21 + 2 * q)) x).1)) kd rv (rr_L (vo_moves 5 (fun k => if k = 1 then iv (30, 0, 0) 16 else iv (31, 0, 0) (21 + 2 * q)) x).2 iv)) := by
  refine am_Met.of (by decide) (Nat.le_of_ble_eq_true rfl) rfl ?_
  refine A_iload_n (pc := 0) (i := 1) dX12_moves_0 rfl rfl ?_
  refine A_lookup (pc := 1) (off := 81) 82 dX12_moves_1 (by decide) (by decide) (by decide) ?_
  refine A_aload_n (pc := 82) (i := 0) dX12_moves_82 rfl rfl ?_
  refine A_bipush (pc := 83) (60) dX12_moves_83 (by decide) ?_
  refine A_callV0 (pc := 85) cv_X12_284 (r_rr l hR ok 60) hR.1 rfl rfl rfl rfl (Nat.le_of_ble_eq_true rfl) ⟨(Nat.le_of_ble_eq_true rfl), (Nat.le_of_ble_eq_true rfl)⟩ ⟨Nat.zero_le _, Nat.zero_le _⟩ dX12_moves_85 ?_
  refine A_aload_n (pc := 88) (i := 0) dX12_moves_88 rfl rfl ?_
  refine A_iconst (pc := 89) (5) dX12_moves_89 (by decide) ?_
  refine A_callS1 (pc := 90) cs_X12_287 (r_above l 5) rfl rfl (Nat.le_of_ble_eq_true rfl) ⟨(Nat.le_of_ble_eq_true rfl), (Nat.le_of_ble_eq_true rfl)⟩ ⟨Nat.zero_le _, Nat.zero_le _⟩ dX12_moves_90 ?_
  refine A_top (show (if (5 : Int32) = 4 then (3 : Int32) else if (5 : Int32) = 6 then 5 else 0) = 0 by decide) ?_
  refine A_iload_n (pc := 93) (i := 2) dX12_moves_93 rfl rfl ?_
  refine A_callV1 (pc := 94) cv_X12_296 (r_m0_5 l hR (rr_A_ok ok) q (rr_A_16.trans hw) hq6 (rr_A_0.trans eK) x) hR.1 rfl rfl rfl rfl (Nat.le_of_ble_eq_true rfl) ⟨(Nat.le_of_ble_eq_true rfl), (Nat.le_of_ble_eq_true rfl)⟩ ⟨Nat.zero_le _, Nat.zero_le _⟩ dX12_moves_94 ?_
  refine A_aload_n (pc := 97) (i := 0) dX12_moves_97 rfl rfl ?_
  refine A_geti (pc := 98) 16 fl_X12_281_12 hR.1 rfl dX12_moves_98 ?_
  refine A_ixor (pc := 101) dX12_moves_101 ?_
  exact A_iretE (pc := 102) dX12_moves_102 rfl (Nat.zero_le _) (Nat.zero_le _) (by simp [vo_goes, vo_ends, vo_m0, vo_moves, vo_t0, vo_tells, rr_A_16, rr_A_0, rr_L_16, rr_L_0, rr_L_c, rr_L_n, rr_L_a]) (by simp [vo_goes, vo_ends, vo_m0, vo_moves, vo_t0, vo_tells, rr_A_16, rr_A_0, rr_L_16, rr_L_0, rr_L_c, rr_L_n, rr_L_a])
set_option maxRecDepth 20000 in
theorem r_m0_6 (l : Launch) {kd : am_kd} {rv : am_rv} {iv : am_iv} (hR : shr kd rv) (ok : rr_ok iv) (q : Nat) (hw : iv (30, 0, 0) 16 = nI q) (hq6 : q < 6) (eK : iv (31, 0, 0) (20 + 2 * q) = 6) (x : Int32) : am_Met l mX12_moves (am_rm 5 0 0) [am_P (30, 0, 0), am_I 0, am_I x] kd rv iv (am_ret (some (am_I (vo_m0 6 (fun k => if k = 1 then iv (30, 0, 0) 16 else iv (31, 0, 0) (21 + 2 * q)) x).1)) kd rv (rr_L (vo_m0 6 (fun k => if k = 1 then iv (30, 0, 0) 16 else iv (31, 0, 0) (21 + 2 * q)) x).2 iv)) := by
  refine am_Met.of (by decide) (Nat.le_of_ble_eq_true rfl) rfl ?_
  refine A_iload_n (pc := 0) (i := 1) dX12_moves_0 rfl rfl ?_
  refine A_lookup (pc := 1) (off := 35) 36 dX12_moves_1 (by decide) (by decide) (by decide) ?_
  refine A_aload_n (pc := 36) (i := 0) dX12_moves_36 rfl rfl ?_
  refine A_bipush (pc := 37) (11) dX12_moves_37 (by decide) ?_
  refine A_callV0 (pc := 39) cv_X12_284 (r_rr l hR ok 11) hR.1 rfl rfl rfl rfl (Nat.le_of_ble_eq_true rfl) ⟨(Nat.le_of_ble_eq_true rfl), (Nat.le_of_ble_eq_true rfl)⟩ ⟨Nat.zero_le _, Nat.zero_le _⟩ dX12_moves_39 ?_
  refine A_aload_n (pc := 42) (i := 0) dX12_moves_42 rfl rfl ?_
  refine A_aload_n (pc := 43) (i := 0) dX12_moves_43 rfl rfl ?_
  refine A_callV1 (pc := 44) cv_X12_293 (r_own l hR q (rr_A_16.trans hw) hq6) hR.1 rfl rfl rfl rfl (Nat.le_of_ble_eq_true rfl) ⟨(Nat.le_of_ble_eq_true rfl), (Nat.le_of_ble_eq_true rfl)⟩ ⟨Nat.zero_le _, Nat.zero_le _⟩ dX12_moves_44 ?_
  refine A_top (y := 6) (rr_A_0.trans eK) ?_
  refine A_iload_n (pc := 47) (i := 2) dX12_moves_47 rfl rfl ?_
  refine A_callV1 (pc := 48) cv_X12_290 (r_goes6 l hR (rr_A_ok ok) q (rr_A_16.trans hw) hq6 x) hR.1 rfl rfl rfl rfl (Nat.le_of_ble_eq_true rfl) ⟨(Nat.le_of_ble_eq_true rfl), (Nat.le_of_ble_eq_true rfl)⟩ ⟨Nat.zero_le _, Nat.zero_le _⟩ dX12_moves_48 ?_
  refine A_iconst (pc := 51) (2) dX12_moves_51 (by decide) ?_
  refine A_imul (pc := 52) dX12_moves_52 ?_
  exact A_iretE (pc := 53) dX12_moves_53 rfl (Nat.zero_le _) (Nat.zero_le _) (by simp [vo_goes, vo_ends, vo_m0, vo_moves, vo_t0, vo_tells, rr_A_16, rr_A_0, rr_L_16, rr_L_0, rr_L_c, rr_L_n, rr_L_a]) (by simp [vo_goes, vo_ends, vo_m0, vo_moves, vo_t0, vo_tells, rr_A_16, rr_A_0, rr_L_16, rr_L_0, rr_L_c, rr_L_n, rr_L_a])
set_option maxRecDepth 20000 in
theorem r_m5_6 (l : Launch) {kd : am_kd} {rv : am_rv} {iv : am_iv} (hR : shr kd rv) (ok : rr_ok iv) (q : Nat) (hw : iv (30, 0, 0) 16 = nI q) (hq6 : q < 6) (eK : iv (31, 0, 0) (20 + 2 * q) = 6) (x : Int32) : am_Met l mX12_moves (am_rm 6 0 0) [am_P (30, 0, 0), am_I 5, am_I x] kd rv iv (am_ret (some (am_I (vo_moves 6 (fun k => if k = 1 then iv (30, 0, 0) 16 else iv (31, 0, 0) (21 + 2 * q)) x).1)) kd rv (rr_L (vo_moves 6 (fun k => if k = 1 then iv (30, 0, 0) 16 else iv (31, 0, 0) (21 + 2 * q)) x).2 iv)) := by
  refine am_Met.of (by decide) (Nat.le_of_ble_eq_true rfl) rfl ?_
  refine A_iload_n (pc := 0) (i := 1) dX12_moves_0 rfl rfl ?_
  refine A_lookup (pc := 1) (off := 81) 82 dX12_moves_1 (by decide) (by decide) (by decide) ?_
  refine A_aload_n (pc := 82) (i := 0) dX12_moves_82 rfl rfl ?_
  refine A_bipush (pc := 83) (60) dX12_moves_83 (by decide) ?_
  refine A_callV0 (pc := 85) cv_X12_284 (r_rr l hR ok 60) hR.1 rfl rfl rfl rfl (Nat.le_of_ble_eq_true rfl) ⟨(Nat.le_of_ble_eq_true rfl), (Nat.le_of_ble_eq_true rfl)⟩ ⟨Nat.zero_le _, Nat.zero_le _⟩ dX12_moves_85 ?_
  refine A_aload_n (pc := 88) (i := 0) dX12_moves_88 rfl rfl ?_
  refine A_iconst (pc := 89) (5) dX12_moves_89 (by decide) ?_
  refine A_callS1 (pc := 90) cs_X12_287 (r_above l 5) rfl rfl (Nat.le_of_ble_eq_true rfl) ⟨(Nat.le_of_ble_eq_true rfl), (Nat.le_of_ble_eq_true rfl)⟩ ⟨Nat.zero_le _, Nat.zero_le _⟩ dX12_moves_90 ?_
  refine A_top (show (if (5 : Int32) = 4 then (3 : Int32) else if (5 : Int32) = 6 then 5 else 0) = 0 by decide) ?_
  refine A_iload_n (pc := 93) (i := 2) dX12_moves_93 rfl rfl ?_
  refine A_callV1 (pc := 94) cv_X12_296 (r_m0_6 l hR (rr_A_ok ok) q (rr_A_16.trans hw) hq6 (rr_A_0.trans eK) x) hR.1 rfl rfl rfl rfl (Nat.le_of_ble_eq_true rfl) ⟨(Nat.le_of_ble_eq_true rfl), (Nat.le_of_ble_eq_true rfl)⟩ ⟨Nat.zero_le _, Nat.zero_le _⟩ dX12_moves_94 ?_
  refine A_aload_n (pc := 97) (i := 0) dX12_moves_97 rfl rfl ?_
  refine A_geti (pc := 98) 16 fl_X12_281_12 hR.1 rfl dX12_moves_98 ?_
  refine A_ixor (pc := 101) dX12_moves_101 ?_
  exact A_iretE (pc := 102) dX12_moves_102 rfl (Nat.zero_le _) (Nat.zero_le _) (by simp [vo_goes, vo_ends, vo_m0, vo_moves, vo_t0, vo_tells, rr_A_16, rr_A_0, rr_L_16, rr_L_0, rr_L_c, rr_L_n, rr_L_a]) (by simp [vo_goes, vo_ends, vo_m0, vo_moves, vo_t0, vo_tells, rr_A_16, rr_A_0, rr_L_16, rr_L_0, rr_L_c, rr_L_n, rr_L_a])
set_option maxRecDepth 20000 in
theorem r_moves6 (l : Launch) {kd : am_kd} {rv : am_rv} {iv : am_iv} (hR : shr kd rv) (ok : rr_ok iv) (q : Nat) (hw : iv (30, 0, 0) 16 = nI q) (hq6 : q < 6) (eK : iv (31, 0, 0) (20 + 2 * q) = 6) (x : Int32) : am_Met l mX12_moves (am_rm 7 0 0) [am_P (30, 0, 0), am_I 6, am_I x] kd rv iv (am_ret (some (am_I (vo_moves 6 (fun k => if k = 1 then iv (30, 0, 0) 16 else iv (31, 0, 0) (21 + 2 * q)) x).1)) kd rv (rr_L (vo_moves 6 (fun k => if k = 1 then iv (30, 0, 0) 16 else iv (31, 0, 0) (21 + 2 * q)) x).2 iv)) := by
  refine am_Met.of (by decide) (Nat.le_of_ble_eq_true rfl) rfl ?_
  refine A_iload_n (pc := 0) (i := 1) dX12_moves_0 rfl rfl ?_
  refine A_lookup (pc := 1) (off := 102) 103 dX12_moves_1 (by decide) (by decide) (by decide) ?_
  refine A_aload_n (pc := 103) (i := 0) dX12_moves_103 rfl rfl ?_
  refine A_iload_n (pc := 104) (i := 1) dX12_moves_104 rfl rfl ?_
  refine A_callS1 (pc := 105) cs_X12_287 (r_above l 6) rfl rfl (Nat.le_of_ble_eq_true rfl) ⟨(Nat.le_of_ble_eq_true rfl), (Nat.le_of_ble_eq_true rfl)⟩ ⟨Nat.zero_le _, Nat.zero_le _⟩ dX12_moves_105 ?_
  refine A_top (show (if (6 : Int32) = 4 then (3 : Int32) else if (6 : Int32) = 6 then 5 else 0) = 5 by decide) ?_
  refine A_iload_n (pc := 108) (i := 2) dX12_moves_108 rfl rfl ?_
  refine A_callV1 (pc := 109) cv_X12_296 (r_m5_6 l hR ok q hw hq6 eK x) hR.1 rfl rfl rfl rfl (Nat.le_of_ble_eq_true rfl) ⟨(Nat.le_of_ble_eq_true rfl), (Nat.le_of_ble_eq_true rfl)⟩ ⟨Nat.zero_le _, Nat.zero_le _⟩ dX12_moves_109 ?_
  exact A_iretE (pc := 112) dX12_moves_112 rfl (Nat.zero_le _) (Nat.zero_le _) (by simp [vo_goes, vo_ends, vo_m0, vo_moves, vo_t0, vo_tells, rr_A_16, rr_A_0, rr_L_16, rr_L_0, rr_L_c, rr_L_n, rr_L_a]) (by simp [vo_goes, vo_ends, vo_m0, vo_moves, vo_t0, vo_tells, rr_A_16, rr_A_0, rr_L_16, rr_L_0, rr_L_c, rr_L_n, rr_L_a])
set_option maxRecDepth 20000 in
theorem r_t0_0 (l : Launch) {kd : am_kd} {rv : am_rv} {iv : am_iv} (hR : shr kd rv) (ok : rr_ok iv) (q : Nat) (hw : iv (30, 0, 0) 16 = nI q) (hq6 : q < 6) (eK : iv (31, 0, 0) (20 + 2 * q) = 0) (x : Int32) : am_Met l mX12_tells (am_rm 8 0 0) [am_P (30, 0, 0), am_I 0, am_I x] kd rv iv (am_ret (some (am_I (vo_t0 0 (fun k => if k = 1 then iv (30, 0, 0) 16 else iv (31, 0, 0) (21 + 2 * q)) x).1)) kd rv (rr_L (vo_t0 0 (fun k => if k = 1 then iv (30, 0, 0) 16 else iv (31, 0, 0) (21 + 2 * q)) x).2 iv)) := by
  refine am_Met.of (by decide) (Nat.le_of_ble_eq_true rfl) rfl ?_
  refine A_iload_n (pc := 0) (i := 1) dX12_tells_0 rfl rfl ?_
  refine A_lookup (pc := 1) (off := 35) 36 dX12_tells_1 (by decide) (by decide) (by decide) ?_
  refine A_aload_n (pc := 36) (i := 0) dX12_tells_36 rfl rfl ?_
  refine A_bipush (pc := 37) (13) dX12_tells_37 (by decide) ?_
  refine A_callV0 (pc := 39) cv_X12_284 (r_rr l hR ok 13) hR.1 rfl rfl rfl rfl (Nat.le_of_ble_eq_true rfl) ⟨(Nat.le_of_ble_eq_true rfl), (Nat.le_of_ble_eq_true rfl)⟩ ⟨Nat.zero_le _, Nat.zero_le _⟩ dX12_tells_39 ?_
  refine A_aload_n (pc := 42) (i := 0) dX12_tells_42 rfl rfl ?_
  refine A_aload_n (pc := 43) (i := 0) dX12_tells_43 rfl rfl ?_
  refine A_callV1 (pc := 44) cv_X12_293 (r_own l hR q (rr_A_16.trans hw) hq6) hR.1 rfl rfl rfl rfl (Nat.le_of_ble_eq_true rfl) ⟨(Nat.le_of_ble_eq_true rfl), (Nat.le_of_ble_eq_true rfl)⟩ ⟨Nat.zero_le _, Nat.zero_le _⟩ dX12_tells_44 ?_
  refine A_top (y := 0) (rr_A_0.trans eK) ?_
  refine A_iload_n (pc := 47) (i := 2) dX12_tells_47 rfl rfl ?_
  refine A_callV1 (pc := 48) cv_X12_296 (r_moves0 l hR (rr_A_ok ok) q (rr_A_16.trans hw) hq6 (rr_A_0.trans eK) x) hR.1 rfl rfl rfl rfl (Nat.le_of_ble_eq_true rfl) ⟨(Nat.le_of_ble_eq_true rfl), (Nat.le_of_ble_eq_true rfl)⟩ ⟨Nat.zero_le _, Nat.zero_le _⟩ dX12_tells_48 ?_
  refine A_ist3 (pc := 51) dX12_tells_51 (Nat.le_of_ble_eq_true rfl) rfl ?_
  refine A_iload_n (pc := 52) (i := 3) dX12_tells_52 rfl rfl ?_
  refine A_aload_n (pc := 53) (i := 0) dX12_tells_53 rfl rfl ?_
  refine A_aload_n (pc := 54) (i := 0) dX12_tells_54 rfl rfl ?_
  refine A_callV1 (pc := 55) cv_X12_293 (r_own l hR q (rr_L_16.trans (rr_A_16.trans hw)) hq6) hR.1 rfl rfl rfl rfl (Nat.le_of_ble_eq_true rfl) ⟨(Nat.le_of_ble_eq_true rfl), (Nat.le_of_ble_eq_true rfl)⟩ ⟨Nat.zero_le _, Nat.zero_le _⟩ dX12_tells_55 ?_
  refine A_top (y := 0) (rr_L_0.trans (rr_A_0.trans eK)) ?_
  refine A_iload_n (pc := 58) (i := 2) dX12_tells_58 rfl rfl ?_
  refine A_callV1 (pc := 59) cv_X12_299 (r_ends0 l hR (rr_L_ok (rr_A_ok ok)) q (rr_L_16.trans (rr_A_16.trans hw)) hq6 x) hR.1 rfl rfl rfl rfl (Nat.le_of_ble_eq_true rfl) ⟨(Nat.le_of_ble_eq_true rfl), (Nat.le_of_ble_eq_true rfl)⟩ ⟨Nat.zero_le _, Nat.zero_le _⟩ dX12_tells_59 ?_
  refine A_ixor (pc := 62) dX12_tells_62 ?_
  exact A_iretE (pc := 63) dX12_tells_63 rfl (Nat.zero_le _) (Nat.zero_le _) (by simp [vo_goes, vo_ends, vo_m0, vo_moves, vo_t0, vo_tells, rr_A_16, rr_A_0, rr_L_16, rr_L_0, rr_L_c, rr_L_n, rr_L_a]) (by simp [vo_goes, vo_ends, vo_m0, vo_moves, vo_t0, vo_tells, rr_A_16, rr_A_0, rr_L_16, rr_L_0, rr_L_c, rr_L_n, rr_L_a])
theorem r_tells0 (l : Launch) {kd : am_kd} {rv : am_rv} {iv : am_iv} (hR : shr kd rv) (ok : rr_ok iv) (q : Nat) (hw : iv (30, 0, 0) 16 = nI q) (hq6 : q < 6) (eK : iv (31, 0, 0) (20 + 2 * q) = 0) (x : Int32) : am_Met l mX12_tells (am_rm 8 0 0) [am_P (30, 0, 0), am_I 0, am_I x] kd rv iv (am_ret (some (am_I (vo_tells 0 (fun k => if k = 1 then iv (30, 0, 0) 16 else iv (31, 0, 0) (21 + 2 * q)) x).1)) kd rv (rr_L (vo_tells 0 (fun k => if k = 1 then iv (30, 0, 0) 16 else iv (31, 0, 0) (21 + 2 * q)) x).2 iv)) := r_t0_0 l hR ok q hw hq6 eK x
set_option maxRecDepth 20000 in
theorem r_t0_1 (l : Launch) {kd : am_kd} {rv : am_rv} {iv : am_iv} (hR : shr kd rv) (ok : rr_ok iv) (q : Nat) (hw : iv (30, 0, 0) 16 = nI q) (hq6 : q < 6) (eK : iv (31, 0, 0) (20 + 2 * q) = 1) (x : Int32) : am_Met l mX12_tells (am_rm 8 0 0) [am_P (30, 0, 0), am_I 0, am_I x] kd rv iv (am_ret (some (am_I (vo_t0 1 (fun k => if k = 1 then iv (30, 0, 0) 16 else iv (31, 0, 0) (21 + 2 * q)) x).1)) kd rv (rr_L (vo_t0 1 (fun k => if k = 1 then iv (30, 0, 0) 16 else iv (31, 0, 0) (21 + 2 * q)) x).2 iv)) := by
  refine am_Met.of (by decide) (Nat.le_of_ble_eq_true rfl) rfl ?_
  refine A_iload_n (pc := 0) (i := 1) dX12_tells_0 rfl rfl ?_
  refine A_lookup (pc := 1) (off := 35) 36 dX12_tells_1 (by decide) (by decide) (by decide) ?_
  refine A_aload_n (pc := 36) (i := 0) dX12_tells_36 rfl rfl ?_
  refine A_bipush (pc := 37) (13) dX12_tells_37 (by decide) ?_
  refine A_callV0 (pc := 39) cv_X12_284 (r_rr l hR ok 13) hR.1 rfl rfl rfl rfl (Nat.le_of_ble_eq_true rfl) ⟨(Nat.le_of_ble_eq_true rfl), (Nat.le_of_ble_eq_true rfl)⟩ ⟨Nat.zero_le _, Nat.zero_le _⟩ dX12_tells_39 ?_
  refine A_aload_n (pc := 42) (i := 0) dX12_tells_42 rfl rfl ?_
  refine A_aload_n (pc := 43) (i := 0) dX12_tells_43 rfl rfl ?_
  refine A_callV1 (pc := 44) cv_X12_293 (r_own l hR q (rr_A_16.trans hw) hq6) hR.1 rfl rfl rfl rfl (Nat.le_of_ble_eq_true rfl) ⟨(Nat.le_of_ble_eq_true rfl), (Nat.le_of_ble_eq_true rfl)⟩ ⟨Nat.zero_le _, Nat.zero_le _⟩ dX12_tells_44 ?_
  refine A_top (y := 1) (rr_A_0.trans eK) ?_
  refine A_iload_n (pc := 47) (i := 2) dX12_tells_47 rfl rfl ?_
  refine A_callV1 (pc := 48) cv_X12_296 (r_moves1 l hR (rr_A_ok ok) q (rr_A_16.trans hw) hq6 (rr_A_0.trans eK) x) hR.1 rfl rfl rfl rfl (Nat.le_of_ble_eq_true rfl) ⟨(Nat.le_of_ble_eq_true rfl), (Nat.le_of_ble_eq_true rfl)⟩ ⟨Nat.zero_le _, Nat.zero_le _⟩ dX12_tells_48 ?_
  refine A_ist3 (pc := 51) dX12_tells_51 (Nat.le_of_ble_eq_true rfl) rfl ?_
  refine A_iload_n (pc := 52) (i := 3) dX12_tells_52 rfl rfl ?_
  refine A_aload_n (pc := 53) (i := 0) dX12_tells_53 rfl rfl ?_
  refine A_aload_n (pc := 54) (i := 0) dX12_tells_54 rfl rfl ?_
  refine A_callV1 (pc := 55) cv_X12_293 (r_own l hR q (rr_L_16.trans (rr_A_16.trans hw)) hq6) hR.1 rfl rfl rfl rfl (Nat.le_of_ble_eq_true rfl) ⟨(Nat.le_of_ble_eq_true rfl), (Nat.le_of_ble_eq_true rfl)⟩ ⟨Nat.zero_le _, Nat.zero_le _⟩ dX12_tells_55 ?_
  refine A_top (y := 1) (rr_L_0.trans (rr_A_0.trans eK)) ?_
  refine A_iload_n (pc := 58) (i := 2) dX12_tells_58 rfl rfl ?_
  refine A_callV1 (pc := 59) cv_X12_299 (r_ends1 l hR (rr_L_ok (rr_A_ok ok)) q (rr_L_16.trans (rr_A_16.trans hw)) hq6 x) hR.1 rfl rfl rfl rfl (Nat.le_of_ble_eq_true rfl) ⟨(Nat.le_of_ble_eq_true rfl), (Nat.le_of_ble_eq_true rfl)⟩ ⟨Nat.zero_le _, Nat.zero_le _⟩ dX12_tells_59 ?_
  refine A_ixor (pc := 62) dX12_tells_62 ?_
  exact A_iretE (pc := 63) dX12_tells_63 rfl (Nat.zero_le _) (Nat.zero_le _) (by simp [vo_goes, vo_ends, vo_m0, vo_moves, vo_t0, vo_tells, rr_A_16, rr_A_0, rr_L_16, rr_L_0, rr_L_c, rr_L_n, rr_L_a]) (by simp [vo_goes, vo_ends, vo_m0, vo_moves, vo_t0, vo_tells, rr_A_16, rr_A_0, rr_L_16, rr_L_0, rr_L_c, rr_L_n, rr_L_a])
set_option maxRecDepth 20000 in
theorem r_tells1 (l : Launch) {kd : am_kd} {rv : am_rv} {iv : am_iv} (hR : shr kd rv) (ok : rr_ok iv) (q : Nat) (hw : iv (30, 0, 0) 16 = nI q) (hq6 : q < 6) (eK : iv (31, 0, 0) (20 + 2 * q) = 1) (x : Int32) : am_Met l mX12_tells (am_rm 9 0 0) [am_P (30, 0, 0), am_I 1, am_I x] kd rv iv (am_ret (some (am_I (vo_tells 1 (fun k => if k = 1 then iv (30, 0, 0) 16 else iv (31, 0, 0) (21 + 2 * q)) x).1)) kd rv (rr_L (vo_tells 1 (fun k => if k = 1 then iv (30, 0, 0) 16 else iv (31, 0, 0) (21 + 2 * q)) x).2 iv)) := by
  refine am_Met.of (by decide) (Nat.le_of_ble_eq_true rfl) rfl ?_
  refine A_iload_n (pc := 0) (i := 1) dX12_tells_0 rfl rfl ?_
  refine A_lookup (pc := 1) (off := 120) 121 dX12_tells_1 (by decide) (by decide) (by decide) ?_
  refine A_aload_n (pc := 121) (i := 0) dX12_tells_121 rfl rfl ?_
  refine A_iload_n (pc := 122) (i := 1) dX12_tells_122 rfl rfl ?_
  refine A_callS1 (pc := 123) cs_X12_287 (r_above l 1) rfl rfl (Nat.le_of_ble_eq_true rfl) ⟨(Nat.le_of_ble_eq_true rfl), (Nat.le_of_ble_eq_true rfl)⟩ ⟨Nat.zero_le _, Nat.zero_le _⟩ dX12_tells_123 ?_
  refine A_top (show (if (1 : Int32) = 4 then (3 : Int32) else if (1 : Int32) = 6 then 5 else 0) = 0 by decide) ?_
  refine A_iload_n (pc := 126) (i := 2) dX12_tells_126 rfl rfl ?_
  refine A_callV1 (pc := 127) cv_X12_305 (r_t0_1 l hR ok q hw hq6 eK x) hR.1 rfl rfl rfl rfl (Nat.le_of_ble_eq_true rfl) ⟨(Nat.le_of_ble_eq_true rfl), (Nat.le_of_ble_eq_true rfl)⟩ ⟨Nat.zero_le _, Nat.zero_le _⟩ dX12_tells_127 ?_
  exact A_iretE (pc := 130) dX12_tells_130 rfl (Nat.zero_le _) (Nat.zero_le _) (by simp [vo_goes, vo_ends, vo_m0, vo_moves, vo_t0, vo_tells, rr_A_16, rr_A_0, rr_L_16, rr_L_0, rr_L_c, rr_L_n, rr_L_a]) (by simp [vo_goes, vo_ends, vo_m0, vo_moves, vo_t0, vo_tells, rr_A_16, rr_A_0, rr_L_16, rr_L_0, rr_L_c, rr_L_n, rr_L_a])
set_option maxRecDepth 20000 in
theorem r_t0_2 (l : Launch) {kd : am_kd} {rv : am_rv} {iv : am_iv} (hR : shr kd rv) (ok : rr_ok iv) (q : Nat) (hw : iv (30, 0, 0) 16 = nI q) (hq6 : q < 6) (eK : iv (31, 0, 0) (20 + 2 * q) = 2) (x : Int32) : am_Met l mX12_tells (am_rm 8 0 0) [am_P (30, 0, 0), am_I 0, am_I x] kd rv iv (am_ret (some (am_I (vo_t0 2 (fun k => if k = 1 then iv (30, 0, 0) 16 else iv (31, 0, 0) (21 + 2 * q)) x).1)) kd rv (rr_L (vo_t0 2 (fun k => if k = 1 then iv (30, 0, 0) 16 else iv (31, 0, 0) (21 + 2 * q)) x).2 iv)) := by
  refine am_Met.of (by decide) (Nat.le_of_ble_eq_true rfl) rfl ?_
  refine A_iload_n (pc := 0) (i := 1) dX12_tells_0 rfl rfl ?_
  refine A_lookup (pc := 1) (off := 35) 36 dX12_tells_1 (by decide) (by decide) (by decide) ?_
  refine A_aload_n (pc := 36) (i := 0) dX12_tells_36 rfl rfl ?_
  refine A_bipush (pc := 37) (13) dX12_tells_37 (by decide) ?_
  refine A_callV0 (pc := 39) cv_X12_284 (r_rr l hR ok 13) hR.1 rfl rfl rfl rfl (Nat.le_of_ble_eq_true rfl) ⟨(Nat.le_of_ble_eq_true rfl), (Nat.le_of_ble_eq_true rfl)⟩ ⟨Nat.zero_le _, Nat.zero_le _⟩ dX12_tells_39 ?_
  refine A_aload_n (pc := 42) (i := 0) dX12_tells_42 rfl rfl ?_
  refine A_aload_n (pc := 43) (i := 0) dX12_tells_43 rfl rfl ?_
  refine A_callV1 (pc := 44) cv_X12_293 (r_own l hR q (rr_A_16.trans hw) hq6) hR.1 rfl rfl rfl rfl (Nat.le_of_ble_eq_true rfl) ⟨(Nat.le_of_ble_eq_true rfl), (Nat.le_of_ble_eq_true rfl)⟩ ⟨Nat.zero_le _, Nat.zero_le _⟩ dX12_tells_44 ?_
  refine A_top (y := 2) (rr_A_0.trans eK) ?_
  refine A_iload_n (pc := 47) (i := 2) dX12_tells_47 rfl rfl ?_
  refine A_callV1 (pc := 48) cv_X12_296 (r_moves2 l hR (rr_A_ok ok) q (rr_A_16.trans hw) hq6 (rr_A_0.trans eK) x) hR.1 rfl rfl rfl rfl (Nat.le_of_ble_eq_true rfl) ⟨(Nat.le_of_ble_eq_true rfl), (Nat.le_of_ble_eq_true rfl)⟩ ⟨Nat.zero_le _, Nat.zero_le _⟩ dX12_tells_48 ?_
  refine A_ist3 (pc := 51) dX12_tells_51 (Nat.le_of_ble_eq_true rfl) rfl ?_
  refine A_iload_n (pc := 52) (i := 3) dX12_tells_52 rfl rfl ?_
  refine A_aload_n (pc := 53) (i := 0) dX12_tells_53 rfl rfl ?_
  refine A_aload_n (pc := 54) (i := 0) dX12_tells_54 rfl rfl ?_
  refine A_callV1 (pc := 55) cv_X12_293 (r_own l hR q (rr_L_16.trans (rr_A_16.trans hw)) hq6) hR.1 rfl rfl rfl rfl (Nat.le_of_ble_eq_true rfl) ⟨(Nat.le_of_ble_eq_true rfl), (Nat.le_of_ble_eq_true rfl)⟩ ⟨Nat.zero_le _, Nat.zero_le _⟩ dX12_tells_55 ?_
  refine A_top (y := 2) (rr_L_0.trans (rr_A_0.trans eK)) ?_
  refine A_iload_n (pc := 58) (i := 2) dX12_tells_58 rfl rfl ?_
  refine A_callV1 (pc := 59) cv_X12_299 (r_ends2 l hR (rr_L_ok (rr_A_ok ok)) q (rr_L_16.trans (rr_A_16.trans hw)) hq6 x) hR.1 rfl rfl rfl rfl (Nat.le_of_ble_eq_true rfl) ⟨(Nat.le_of_ble_eq_true rfl), (Nat.le_of_ble_eq_true rfl)⟩ ⟨Nat.zero_le _, Nat.zero_le _⟩ dX12_tells_59 ?_
  refine A_ixor (pc := 62) dX12_tells_62 ?_
  exact A_iretE (pc := 63) dX12_tells_63 rfl (Nat.zero_le _) (Nat.zero_le _) (by simp [vo_goes, vo_ends, vo_m0, vo_moves, vo_t0, vo_tells, rr_A_16, rr_A_0, rr_L_16, rr_L_0, rr_L_c, rr_L_n, rr_L_a]) (by simp [vo_goes, vo_ends, vo_m0, vo_moves, vo_t0, vo_tells, rr_A_16, rr_A_0, rr_L_16, rr_L_0, rr_L_c, rr_L_n, rr_L_a])
set_option maxRecDepth 20000 in
theorem r_tells2 (l : Launch) {kd : am_kd} {rv : am_rv} {iv : am_iv} (hR : shr kd rv) (ok : rr_ok iv) (q : Nat) (hw : iv (30, 0, 0) 16 = nI q) (hq6 : q < 6) (eK : iv (31, 0, 0) (20 + 2 * q) = 2) (x : Int32) : am_Met l mX12_tells (am_rm 9 0 0) [am_P (30, 0, 0), am_I 2, am_I x] kd rv iv (am_ret (some (am_I (vo_tells 2 (fun k => if k = 1 then iv (30, 0, 0) 16 else iv (31, 0, 0) (21 + 2 * q)) x).1)) kd rv (rr_L (vo_tells 2 (fun k => if k = 1 then iv (30, 0, 0) 16 else iv (31, 0, 0) (21 + 2 * q)) x).2 iv)) := by
  refine am_Met.of (by decide) (Nat.le_of_ble_eq_true rfl) rfl ?_
  refine A_iload_n (pc := 0) (i := 1) dX12_tells_0 rfl rfl ?_
  refine A_lookup (pc := 1) (off := 120) 121 dX12_tells_1 (by decide) (by decide) (by decide) ?_
  refine A_aload_n (pc := 121) (i := 0) dX12_tells_121 rfl rfl ?_
  refine A_iload_n (pc := 122) (i := 1) dX12_tells_122 rfl rfl ?_
  refine A_callS1 (pc := 123) cs_X12_287 (r_above l 2) rfl rfl (Nat.le_of_ble_eq_true rfl) ⟨(Nat.le_of_ble_eq_true rfl), (Nat.le_of_ble_eq_true rfl)⟩ ⟨Nat.zero_le _, Nat.zero_le _⟩ dX12_tells_123 ?_
  refine A_top (show (if (2 : Int32) = 4 then (3 : Int32) else if (2 : Int32) = 6 then 5 else 0) = 0 by decide) ?_
  refine A_iload_n (pc := 126) (i := 2) dX12_tells_126 rfl rfl ?_
  refine A_callV1 (pc := 127) cv_X12_305 (r_t0_2 l hR ok q hw hq6 eK x) hR.1 rfl rfl rfl rfl (Nat.le_of_ble_eq_true rfl) ⟨(Nat.le_of_ble_eq_true rfl), (Nat.le_of_ble_eq_true rfl)⟩ ⟨Nat.zero_le _, Nat.zero_le _⟩ dX12_tells_127 ?_
  exact A_iretE (pc := 130) dX12_tells_130 rfl (Nat.zero_le _) (Nat.zero_le _) (by simp [vo_goes, vo_ends, vo_m0, vo_moves, vo_t0, vo_tells, rr_A_16, rr_A_0, rr_L_16, rr_L_0, rr_L_c, rr_L_n, rr_L_a]) (by simp [vo_goes, vo_ends, vo_m0, vo_moves, vo_t0, vo_tells, rr_A_16, rr_A_0, rr_L_16, rr_L_0, rr_L_c, rr_L_n, rr_L_a])
set_option maxRecDepth 20000 in
theorem r_t0_3 (l : Launch) {kd : am_kd} {rv : am_rv} {iv : am_iv} (hR : shr kd rv) (ok : rr_ok iv) (q : Nat) (hw : iv (30, 0, 0) 16 = nI q) (hq6 : q < 6) (eK : iv (31, 0, 0) (20 + 2 * q) = 3) (x : Int32) : am_Met l mX12_tells (am_rm 8 0 0) [am_P (30, 0, 0), am_I 0, am_I x] kd rv iv (am_ret (some (am_I (vo_t0 3 (fun k => if k = 1 then iv (30, 0, 0) 16 else iv (31, 0, 0) (21 + 2 * q)) x).1)) kd rv (rr_L (vo_t0 3 (fun k => if k = 1 then iv (30, 0, 0) 16 else iv (31, 0, 0) (21 + 2 * q)) x).2 iv)) := by
  refine am_Met.of (by decide) (Nat.le_of_ble_eq_true rfl) rfl ?_
  refine A_iload_n (pc := 0) (i := 1) dX12_tells_0 rfl rfl ?_
  refine A_lookup (pc := 1) (off := 35) 36 dX12_tells_1 (by decide) (by decide) (by decide) ?_
  refine A_aload_n (pc := 36) (i := 0) dX12_tells_36 rfl rfl ?_
  refine A_bipush (pc := 37) (13) dX12_tells_37 (by decide) ?_
  refine A_callV0 (pc := 39) cv_X12_284 (r_rr l hR ok 13) hR.1 rfl rfl rfl rfl (Nat.le_of_ble_eq_true rfl) ⟨(Nat.le_of_ble_eq_true rfl), (Nat.le_of_ble_eq_true rfl)⟩ ⟨Nat.zero_le _, Nat.zero_le _⟩ dX12_tells_39 ?_
  refine A_aload_n (pc := 42) (i := 0) dX12_tells_42 rfl rfl ?_
  refine A_aload_n (pc := 43) (i := 0) dX12_tells_43 rfl rfl ?_
  refine A_callV1 (pc := 44) cv_X12_293 (r_own l hR q (rr_A_16.trans hw) hq6) hR.1 rfl rfl rfl rfl (Nat.le_of_ble_eq_true rfl) ⟨(Nat.le_of_ble_eq_true rfl), (Nat.le_of_ble_eq_true rfl)⟩ ⟨Nat.zero_le _, Nat.zero_le _⟩ dX12_tells_44 ?_
  refine A_top (y := 3) (rr_A_0.trans eK) ?_
  refine A_iload_n (pc := 47) (i := 2) dX12_tells_47 rfl rfl ?_
  refine A_callV1 (pc := 48) cv_X12_296 (r_moves3 l hR (rr_A_ok ok) q (rr_A_16.trans hw) hq6 (rr_A_0.trans eK) x) hR.1 rfl rfl rfl rfl (Nat.le_of_ble_eq_true rfl) ⟨(Nat.le_of_ble_eq_true rfl), (Nat.le_of_ble_eq_true rfl)⟩ ⟨Nat.zero_le _, Nat.zero_le _⟩ dX12_tells_48 ?_
  refine A_ist3 (pc := 51) dX12_tells_51 (Nat.le_of_ble_eq_true rfl) rfl ?_
  refine A_iload_n (pc := 52) (i := 3) dX12_tells_52 rfl rfl ?_
  refine A_aload_n (pc := 53) (i := 0) dX12_tells_53 rfl rfl ?_
  refine A_aload_n (pc := 54) (i := 0) dX12_tells_54 rfl rfl ?_
  refine A_callV1 (pc := 55) cv_X12_293 (r_own l hR q (rr_L_16.trans (rr_A_16.trans hw)) hq6) hR.1 rfl rfl rfl rfl (Nat.le_of_ble_eq_true rfl) ⟨(Nat.le_of_ble_eq_true rfl), (Nat.le_of_ble_eq_true rfl)⟩ ⟨Nat.zero_le _, Nat.zero_le _⟩ dX12_tells_55 ?_
  refine A_top (y := 3) (rr_L_0.trans (rr_A_0.trans eK)) ?_
  refine A_iload_n (pc := 58) (i := 2) dX12_tells_58 rfl rfl ?_
  refine A_callV1 (pc := 59) cv_X12_299 (r_ends3 l hR (rr_L_ok (rr_A_ok ok)) q (rr_L_16.trans (rr_A_16.trans hw)) hq6 x) hR.1 rfl rfl rfl rfl (Nat.le_of_ble_eq_true rfl) ⟨(Nat.le_of_ble_eq_true rfl), (Nat.le_of_ble_eq_true rfl)⟩ ⟨Nat.zero_le _, Nat.zero_le _⟩ dX12_tells_59 ?_
  refine A_ixor (pc := 62) dX12_tells_62 ?_
  exact A_iretE (pc := 63) dX12_tells_63 rfl (Nat.zero_le _) (Nat.zero_le _) (by simp [vo_goes, vo_ends, vo_m0, vo_moves, vo_t0, vo_tells, rr_A_16, rr_A_0, rr_L_16, rr_L_0, rr_L_c, rr_L_n, rr_L_a]) (by simp [vo_goes, vo_ends, vo_m0, vo_moves, vo_t0, vo_tells, rr_A_16, rr_A_0, rr_L_16, rr_L_0, rr_L_c, rr_L_n, rr_L_a])
set_option maxRecDepth 20000 in
theorem r_tells3 (l : Launch) {kd : am_kd} {rv : am_rv} {iv : am_iv} (hR : shr kd rv) (ok : rr_ok iv) (q : Nat) (hw : iv (30, 0, 0) 16 = nI q) (hq6 : q < 6) (eK : iv (31, 0, 0) (20 + 2 * q) = 3) (x : Int32) : am_Met l mX12_tells (am_rm 9 0 0) [am_P (30, 0, 0), am_I 3, am_I x] kd rv iv (am_ret (some (am_I (vo_tells 3 (fun k => if k = 1 then iv (30, 0, 0) 16 else iv (31, 0, 0) (21 + 2 * q)) x).1)) kd rv (rr_L (vo_tells 3 (fun k => if k = 1 then iv (30, 0, 0) 16 else iv (31, 0, 0) (21 + 2 * q)) x).2 iv)) := by
  refine am_Met.of (by decide) (Nat.le_of_ble_eq_true rfl) rfl ?_
  refine A_iload_n (pc := 0) (i := 1) dX12_tells_0 rfl rfl ?_
  refine A_lookup (pc := 1) (off := 120) 121 dX12_tells_1 (by decide) (by decide) (by decide) ?_
  refine A_aload_n (pc := 121) (i := 0) dX12_tells_121 rfl rfl ?_
  refine A_iload_n (pc := 122) (i := 1) dX12_tells_122 rfl rfl ?_
  refine A_callS1 (pc := 123) cs_X12_287 (r_above l 3) rfl rfl (Nat.le_of_ble_eq_true rfl) ⟨(Nat.le_of_ble_eq_true rfl), (Nat.le_of_ble_eq_true rfl)⟩ ⟨Nat.zero_le _, Nat.zero_le _⟩ dX12_tells_123 ?_
  refine A_top (show (if (3 : Int32) = 4 then (3 : Int32) else if (3 : Int32) = 6 then 5 else 0) = 0 by decide) ?_
  refine A_iload_n (pc := 126) (i := 2) dX12_tells_126 rfl rfl ?_
  refine A_callV1 (pc := 127) cv_X12_305 (r_t0_3 l hR ok q hw hq6 eK x) hR.1 rfl rfl rfl rfl (Nat.le_of_ble_eq_true rfl) ⟨(Nat.le_of_ble_eq_true rfl), (Nat.le_of_ble_eq_true rfl)⟩ ⟨Nat.zero_le _, Nat.zero_le _⟩ dX12_tells_127 ?_
  exact A_iretE (pc := 130) dX12_tells_130 rfl (Nat.zero_le _) (Nat.zero_le _) (by simp [vo_goes, vo_ends, vo_m0, vo_moves, vo_t0, vo_tells, rr_A_16, rr_A_0, rr_L_16, rr_L_0, rr_L_c, rr_L_n, rr_L_a]) (by simp [vo_goes, vo_ends, vo_m0, vo_moves, vo_t0, vo_tells, rr_A_16, rr_A_0, rr_L_16, rr_L_0, rr_L_c, rr_L_n, rr_L_a])
set_option maxRecDepth 20000 in
theorem r_t0_4 (l : Launch) {kd : am_kd} {rv : am_rv} {iv : am_iv} (hR : shr kd rv) (ok : rr_ok iv) (q : Nat) (hw : iv (30, 0, 0) 16 = nI q) (hq6 : q < 6) (eK : iv (31, 0, 0) (20 + 2 * q) = 4) (x : Int32) : am_Met l mX12_tells (am_rm 8 0 0) [am_P (30, 0, 0), am_I 0, am_I x] kd rv iv (am_ret (some (am_I (vo_t0 4 (fun k => if k = 1 then iv (30, 0, 0) 16 else iv (31, 0, 0) (21 + 2 * q)) x).1)) kd rv (rr_L (vo_t0 4 (fun k => if k = 1 then iv (30, 0, 0) 16 else iv (31, 0, 0) (21 + 2 * q)) x).2 iv)) := by
  refine am_Met.of (by decide) (Nat.le_of_ble_eq_true rfl) rfl ?_
  refine A_iload_n (pc := 0) (i := 1) dX12_tells_0 rfl rfl ?_
  refine A_lookup (pc := 1) (off := 35) 36 dX12_tells_1 (by decide) (by decide) (by decide) ?_
  refine A_aload_n (pc := 36) (i := 0) dX12_tells_36 rfl rfl ?_
  refine A_bipush (pc := 37) (13) dX12_tells_37 (by decide) ?_
  refine A_callV0 (pc := 39) cv_X12_284 (r_rr l hR ok 13) hR.1 rfl rfl rfl rfl (Nat.le_of_ble_eq_true rfl) ⟨(Nat.le_of_ble_eq_true rfl), (Nat.le_of_ble_eq_true rfl)⟩ ⟨Nat.zero_le _, Nat.zero_le _⟩ dX12_tells_39 ?_
  refine A_aload_n (pc := 42) (i := 0) dX12_tells_42 rfl rfl ?_
  refine A_aload_n (pc := 43) (i := 0) dX12_tells_43 rfl rfl ?_
  refine A_callV1 (pc := 44) cv_X12_293 (r_own l hR q (rr_A_16.trans hw) hq6) hR.1 rfl rfl rfl rfl (Nat.le_of_ble_eq_true rfl) ⟨(Nat.le_of_ble_eq_true rfl), (Nat.le_of_ble_eq_true rfl)⟩ ⟨Nat.zero_le _, Nat.zero_le _⟩ dX12_tells_44 ?_
  refine A_top (y := 4) (rr_A_0.trans eK) ?_
  refine A_iload_n (pc := 47) (i := 2) dX12_tells_47 rfl rfl ?_
  refine A_callV1 (pc := 48) cv_X12_296 (r_moves4 l hR (rr_A_ok ok) q (rr_A_16.trans hw) hq6 (rr_A_0.trans eK) x) hR.1 rfl rfl rfl rfl (Nat.le_of_ble_eq_true rfl) ⟨(Nat.le_of_ble_eq_true rfl), (Nat.le_of_ble_eq_true rfl)⟩ ⟨Nat.zero_le _, Nat.zero_le _⟩ dX12_tells_48 ?_
  refine A_ist3 (pc := 51) dX12_tells_51 (Nat.le_of_ble_eq_true rfl) rfl ?_
  refine A_iload_n (pc := 52) (i := 3) dX12_tells_52 rfl rfl ?_
  refine A_aload_n (pc := 53) (i := 0) dX12_tells_53 rfl rfl ?_
  refine A_aload_n (pc := 54) (i := 0) dX12_tells_54 rfl rfl ?_
  refine A_callV1 (pc := 55) cv_X12_293 (r_own l hR q (rr_L_16.trans (rr_A_16.trans hw)) hq6) hR.1 rfl rfl rfl rfl (Nat.le_of_ble_eq_true rfl) ⟨(Nat.le_of_ble_eq_true rfl), (Nat.le_of_ble_eq_true rfl)⟩ ⟨Nat.zero_le _, Nat.zero_le _⟩ dX12_tells_55 ?_
  refine A_top (y := 4) (rr_L_0.trans (rr_A_0.trans eK)) ?_
  refine A_iload_n (pc := 58) (i := 2) dX12_tells_58 rfl rfl ?_
  refine A_callV1 (pc := 59) cv_X12_299 (r_ends4 l hR (rr_L_ok (rr_A_ok ok)) q (rr_L_16.trans (rr_A_16.trans hw)) hq6 x) hR.1 rfl rfl rfl rfl (Nat.le_of_ble_eq_true rfl) ⟨(Nat.le_of_ble_eq_true rfl), (Nat.le_of_ble_eq_true rfl)⟩ ⟨Nat.zero_le _, Nat.zero_le _⟩ dX12_tells_59 ?_
  refine A_ixor (pc := 62) dX12_tells_62 ?_
  exact A_iretE (pc := 63) dX12_tells_63 rfl (Nat.zero_le _) (Nat.zero_le _) (by simp [vo_goes, vo_ends, vo_m0, vo_moves, vo_t0, vo_tells, rr_A_16, rr_A_0, rr_L_16, rr_L_0, rr_L_c, rr_L_n, rr_L_a]) (by simp [vo_goes, vo_ends, vo_m0, vo_moves, vo_t0, vo_tells, rr_A_16, rr_A_0, rr_L_16, rr_L_0, rr_L_c, rr_L_n, rr_L_a])
set_option maxRecDepth 20000 in
theorem r_t3_4 (l : Launch) {kd : am_kd} {rv : am_rv} {iv : am_iv} (hR : shr kd rv) (ok : rr_ok iv) (q : Nat) (hw : iv (30, 0, 0) 16 = nI q) (hq6 : q < 6) (eK : iv (31, 0, 0) (20 + 2 * q) = 4) (x : Int32) : am_Met l mX12_tells (am_rm 9 0 0) [am_P (30, 0, 0), am_I 3, am_I x] kd rv iv (am_ret (some (am_I (vo_t0 4 (fun k => if k = 1 then iv (30, 0, 0) 16 else iv (31, 0, 0) (21 + 2 * q)) x).1)) kd rv (rr_L (vo_t0 4 (fun k => if k = 1 then iv (30, 0, 0) 16 else iv (31, 0, 0) (21 + 2 * q)) x).2 iv)) := by
  refine am_Met.of (by decide) (Nat.le_of_ble_eq_true rfl) rfl ?_
  refine A_iload_n (pc := 0) (i := 1) dX12_tells_0 rfl rfl ?_
  refine A_lookup (pc := 1) (off := 120) 121 dX12_tells_1 (by decide) (by decide) (by decide) ?_
  refine A_aload_n (pc := 121) (i := 0) dX12_tells_121 rfl rfl ?_
  refine A_iload_n (pc := 122) (i := 1) dX12_tells_122 rfl rfl ?_
  refine A_callS1 (pc := 123) cs_X12_287 (r_above l 3) rfl rfl (Nat.le_of_ble_eq_true rfl) ⟨(Nat.le_of_ble_eq_true rfl), (Nat.le_of_ble_eq_true rfl)⟩ ⟨Nat.zero_le _, Nat.zero_le _⟩ dX12_tells_123 ?_
  refine A_top (show (if (3 : Int32) = 4 then (3 : Int32) else if (3 : Int32) = 6 then 5 else 0) = 0 by decide) ?_
  refine A_iload_n (pc := 126) (i := 2) dX12_tells_126 rfl rfl ?_
  refine A_callV1 (pc := 127) cv_X12_305 (r_t0_4 l hR ok q hw hq6 eK x) hR.1 rfl rfl rfl rfl (Nat.le_of_ble_eq_true rfl) ⟨(Nat.le_of_ble_eq_true rfl), (Nat.le_of_ble_eq_true rfl)⟩ ⟨Nat.zero_le _, Nat.zero_le _⟩ dX12_tells_127 ?_
  exact A_iretE (pc := 130) dX12_tells_130 rfl (Nat.zero_le _) (Nat.zero_le _) (by simp [vo_goes, vo_ends, vo_m0, vo_moves, vo_t0, vo_tells, rr_A_16, rr_A_0, rr_L_16, rr_L_0, rr_L_c, rr_L_n, rr_L_a]) (by simp [vo_goes, vo_ends, vo_m0, vo_moves, vo_t0, vo_tells, rr_A_16, rr_A_0, rr_L_16, rr_L_0, rr_L_c, rr_L_n, rr_L_a])
set_option maxRecDepth 20000 in
theorem r_tells4 (l : Launch) {kd : am_kd} {rv : am_rv} {iv : am_iv} (hR : shr kd rv) (ok : rr_ok iv) (q : Nat) (hw : iv (30, 0, 0) 16 = nI q) (hq6 : q < 6) (eK : iv (31, 0, 0) (20 + 2 * q) = 4) (x : Int32) : am_Met l mX12_tells (am_rm 10 0 0) [am_P (30, 0, 0), am_I 4, am_I x] kd rv iv (am_ret (some (am_I (vo_tells 4 (fun k => if k = 1 then iv (30, 0, 0) 16 else iv (31, 0, 0) (21 + 2 * q)) x).1)) kd rv (rr_L (vo_tells 4 (fun k => if k = 1 then iv (30, 0, 0) 16 else iv (31, 0, 0) (21 + 2 * q)) x).2 iv)) := by
  refine am_Met.of (by decide) (Nat.le_of_ble_eq_true rfl) rfl ?_
  refine A_iload_n (pc := 0) (i := 1) dX12_tells_0 rfl rfl ?_
  refine A_lookup (pc := 1) (off := 63) 64 dX12_tells_1 (by decide) (by decide) (by decide) ?_
  refine A_aload_n (pc := 64) (i := 0) dX12_tells_64 rfl rfl ?_
  refine A_bipush (pc := 65) (51) dX12_tells_65 (by decide) ?_
  refine A_callV0 (pc := 67) cv_X12_284 (r_rr l hR ok 51) hR.1 rfl rfl rfl rfl (Nat.le_of_ble_eq_true rfl) ⟨(Nat.le_of_ble_eq_true rfl), (Nat.le_of_ble_eq_true rfl)⟩ ⟨Nat.zero_le _, Nat.zero_le _⟩ dX12_tells_67 ?_
  refine A_aload_n (pc := 70) (i := 0) dX12_tells_70 rfl rfl ?_
  refine A_iconst (pc := 71) (4) dX12_tells_71 (by decide) ?_
  refine A_callS1 (pc := 72) cs_X12_287 (r_above l 4) rfl rfl (Nat.le_of_ble_eq_true rfl) ⟨(Nat.le_of_ble_eq_true rfl), (Nat.le_of_ble_eq_true rfl)⟩ ⟨Nat.zero_le _, Nat.zero_le _⟩ dX12_tells_72 ?_
  refine A_top (show (if (4 : Int32) = 4 then (3 : Int32) else if (4 : Int32) = 6 then 5 else 0) = 3 by decide) ?_
  refine A_iload_n (pc := 75) (i := 2) dX12_tells_75 rfl rfl ?_
  refine A_callV1 (pc := 76) cv_X12_305 (r_t3_4 l hR (rr_A_ok ok) q (rr_A_16.trans hw) hq6 (rr_A_0.trans eK) x) hR.1 rfl rfl rfl rfl (Nat.le_of_ble_eq_true rfl) ⟨(Nat.le_of_ble_eq_true rfl), (Nat.le_of_ble_eq_true rfl)⟩ ⟨Nat.zero_le _, Nat.zero_le _⟩ dX12_tells_76 ?_
  refine A_ist3 (pc := 79) dX12_tells_79 (Nat.le_of_ble_eq_true rfl) rfl ?_
  refine A_iload_n (pc := 80) (i := 3) dX12_tells_80 rfl rfl ?_
  refine A_aload_n (pc := 81) (i := 0) dX12_tells_81 rfl rfl ?_
  refine A_aload_n (pc := 82) (i := 0) dX12_tells_82 rfl rfl ?_
  refine A_callV1 (pc := 83) cv_X12_293 (r_own l hR q (rr_L_16.trans (rr_A_16.trans hw)) hq6) hR.1 rfl rfl rfl rfl (Nat.le_of_ble_eq_true rfl) ⟨(Nat.le_of_ble_eq_true rfl), (Nat.le_of_ble_eq_true rfl)⟩ ⟨Nat.zero_le _, Nat.zero_le _⟩ dX12_tells_83 ?_
  refine A_top (y := 4) (rr_L_0.trans (rr_A_0.trans eK)) ?_
  refine A_iconst (pc := 86) (2) dX12_tells_86 (by decide) ?_
  refine A_callV1 (pc := 87) cv_X12_290 (r_goes4 l hR (rr_L_ok (rr_A_ok ok)) q (rr_L_16.trans (rr_A_16.trans hw)) hq6 2) hR.1 rfl rfl rfl rfl (Nat.le_of_ble_eq_true rfl) ⟨(Nat.le_of_ble_eq_true rfl), (Nat.le_of_ble_eq_true rfl)⟩ ⟨Nat.zero_le _, Nat.zero_le _⟩ dX12_tells_87 ?_
  refine A_isub (pc := 90) dX12_tells_90 ?_
  exact A_iretE (pc := 91) dX12_tells_91 rfl (Nat.zero_le _) (Nat.zero_le _) (by simp [vo_goes, vo_ends, vo_m0, vo_moves, vo_t0, vo_tells, rr_A_16, rr_A_0, rr_L_16, rr_L_0, rr_L_c, rr_L_n, rr_L_a]) (by simp [vo_goes, vo_ends, vo_m0, vo_moves, vo_t0, vo_tells, rr_A_16, rr_A_0, rr_L_16, rr_L_0, rr_L_c, rr_L_n, rr_L_a])
set_option maxRecDepth 20000 in
theorem r_t0_5 (l : Launch) {kd : am_kd} {rv : am_rv} {iv : am_iv} (hR : shr kd rv) (ok : rr_ok iv) (q : Nat) (hw : iv (30, 0, 0) 16 = nI q) (hq6 : q < 6) (eK : iv (31, 0, 0) (20 + 2 * q) = 5) (x : Int32) : am_Met l mX12_tells (am_rm 8 0 0) [am_P (30, 0, 0), am_I 0, am_I x] kd rv iv (am_ret (some (am_I (vo_t0 5 (fun k => if k = 1 then iv (30, 0, 0) 16 else iv (31, 0, 0) (21 + 2 * q)) x).1)) kd rv (rr_L (vo_t0 5 (fun k => if k = 1 then iv (30, 0, 0) 16 else iv (31, 0, 0) (21 + 2 * q)) x).2 iv)) := by
  refine am_Met.of (by decide) (Nat.le_of_ble_eq_true rfl) rfl ?_
  refine A_iload_n (pc := 0) (i := 1) dX12_tells_0 rfl rfl ?_
  refine A_lookup (pc := 1) (off := 35) 36 dX12_tells_1 (by decide) (by decide) (by decide) ?_
  refine A_aload_n (pc := 36) (i := 0) dX12_tells_36 rfl rfl ?_
  refine A_bipush (pc := 37) (13) dX12_tells_37 (by decide) ?_
  refine A_callV0 (pc := 39) cv_X12_284 (r_rr l hR ok 13) hR.1 rfl rfl rfl rfl (Nat.le_of_ble_eq_true rfl) ⟨(Nat.le_of_ble_eq_true rfl), (Nat.le_of_ble_eq_true rfl)⟩ ⟨Nat.zero_le _, Nat.zero_le _⟩ dX12_tells_39 ?_
  refine A_aload_n (pc := 42) (i := 0) dX12_tells_42 rfl rfl ?_
  refine A_aload_n (pc := 43) (i := 0) dX12_tells_43 rfl rfl ?_
  refine A_callV1 (pc := 44) cv_X12_293 (r_own l hR q (rr_A_16.trans hw) hq6) hR.1 rfl rfl rfl rfl (Nat.le_of_ble_eq_true rfl) ⟨(Nat.le_of_ble_eq_true rfl), (Nat.le_of_ble_eq_true rfl)⟩ ⟨Nat.zero_le _, Nat.zero_le _⟩ dX12_tells_44 ?_
  refine A_top (y := 5) (rr_A_0.trans eK) ?_
  refine A_iload_n (pc := 47) (i := 2) dX12_tells_47 rfl rfl ?_
  refine A_callV1 (pc := 48) cv_X12_296 (r_moves5 l hR (rr_A_ok ok) q (rr_A_16.trans hw) hq6 (rr_A_0.trans eK) x) hR.1 rfl rfl rfl rfl (Nat.le_of_ble_eq_true rfl) ⟨(Nat.le_of_ble_eq_true rfl), (Nat.le_of_ble_eq_true rfl)⟩ ⟨Nat.zero_le _, Nat.zero_le _⟩ dX12_tells_48 ?_
  refine A_ist3 (pc := 51) dX12_tells_51 (Nat.le_of_ble_eq_true rfl) rfl ?_
  refine A_iload_n (pc := 52) (i := 3) dX12_tells_52 rfl rfl ?_
  refine A_aload_n (pc := 53) (i := 0) dX12_tells_53 rfl rfl ?_
  refine A_aload_n (pc := 54) (i := 0) dX12_tells_54 rfl rfl ?_
  refine A_callV1 (pc := 55) cv_X12_293 (r_own l hR q (rr_L_16.trans (rr_A_16.trans hw)) hq6) hR.1 rfl rfl rfl rfl (Nat.le_of_ble_eq_true rfl) ⟨(Nat.le_of_ble_eq_true rfl), (Nat.le_of_ble_eq_true rfl)⟩ ⟨Nat.zero_le _, Nat.zero_le _⟩ dX12_tells_55 ?_
  refine A_top (y := 5) (rr_L_0.trans (rr_A_0.trans eK)) ?_
  refine A_iload_n (pc := 58) (i := 2) dX12_tells_58 rfl rfl ?_
  refine A_callV1 (pc := 59) cv_X12_299 (r_ends5 l hR (rr_L_ok (rr_A_ok ok)) q (rr_L_16.trans (rr_A_16.trans hw)) hq6 x) hR.1 rfl rfl rfl rfl (Nat.le_of_ble_eq_true rfl) ⟨(Nat.le_of_ble_eq_true rfl), (Nat.le_of_ble_eq_true rfl)⟩ ⟨Nat.zero_le _, Nat.zero_le _⟩ dX12_tells_59 ?_
  refine A_ixor (pc := 62) dX12_tells_62 ?_
  exact A_iretE (pc := 63) dX12_tells_63 rfl (Nat.zero_le _) (Nat.zero_le _) (by simp [vo_goes, vo_ends, vo_m0, vo_moves, vo_t0, vo_tells, rr_A_16, rr_A_0, rr_L_16, rr_L_0, rr_L_c, rr_L_n, rr_L_a]) (by simp [vo_goes, vo_ends, vo_m0, vo_moves, vo_t0, vo_tells, rr_A_16, rr_A_0, rr_L_16, rr_L_0, rr_L_c, rr_L_n, rr_L_a])
set_option maxRecDepth 20000 in
theorem r_tells5 (l : Launch) {kd : am_kd} {rv : am_rv} {iv : am_iv} (hR : shr kd rv) (ok : rr_ok iv) (q : Nat) (hw : iv (30, 0, 0) 16 = nI q) (hq6 : q < 6) (eK : iv (31, 0, 0) (20 + 2 * q) = 5) (x : Int32) : am_Met l mX12_tells (am_rm 9 0 0) [am_P (30, 0, 0), am_I 5, am_I x] kd rv iv (am_ret (some (am_I (vo_tells 5 (fun k => if k = 1 then iv (30, 0, 0) 16 else iv (31, 0, 0) (21 + 2 * q)) x).1)) kd rv (rr_L (vo_tells 5 (fun k => if k = 1 then iv (30, 0, 0) 16 else iv (31, 0, 0) (21 + 2 * q)) x).2 iv)) := by
  refine am_Met.of (by decide) (Nat.le_of_ble_eq_true rfl) rfl ?_
  refine A_iload_n (pc := 0) (i := 1) dX12_tells_0 rfl rfl ?_
  refine A_lookup (pc := 1) (off := 120) 121 dX12_tells_1 (by decide) (by decide) (by decide) ?_
  refine A_aload_n (pc := 121) (i := 0) dX12_tells_121 rfl rfl ?_
  refine A_iload_n (pc := 122) (i := 1) dX12_tells_122 rfl rfl ?_
  refine A_callS1 (pc := 123) cs_X12_287 (r_above l 5) rfl rfl (Nat.le_of_ble_eq_true rfl) ⟨(Nat.le_of_ble_eq_true rfl), (Nat.le_of_ble_eq_true rfl)⟩ ⟨Nat.zero_le _, Nat.zero_le _⟩ dX12_tells_123 ?_
  refine A_top (show (if (5 : Int32) = 4 then (3 : Int32) else if (5 : Int32) = 6 then 5 else 0) = 0 by decide) ?_
  refine A_iload_n (pc := 126) (i := 2) dX12_tells_126 rfl rfl ?_
  refine A_callV1 (pc := 127) cv_X12_305 (r_t0_5 l hR ok q hw hq6 eK x) hR.1 rfl rfl rfl rfl (Nat.le_of_ble_eq_true rfl) ⟨(Nat.le_of_ble_eq_true rfl), (Nat.le_of_ble_eq_true rfl)⟩ ⟨Nat.zero_le _, Nat.zero_le _⟩ dX12_tells_127 ?_
  exact A_iretE (pc := 130) dX12_tells_130 rfl (Nat.zero_le _) (Nat.zero_le _) (by simp [vo_goes, vo_ends, vo_m0, vo_moves, vo_t0, vo_tells, rr_A_16, rr_A_0, rr_L_16, rr_L_0, rr_L_c, rr_L_n, rr_L_a]) (by simp [vo_goes, vo_ends, vo_m0, vo_moves, vo_t0, vo_tells, rr_A_16, rr_A_0, rr_L_16, rr_L_0, rr_L_c, rr_L_n, rr_L_a])
set_option maxRecDepth 20000 in
theorem r_t0_6 (l : Launch) {kd : am_kd} {rv : am_rv} {iv : am_iv} (hR : shr kd rv) (ok : rr_ok iv) (q : Nat) (hw : iv (30, 0, 0) 16 = nI q) (hq6 : q < 6) (eK : iv (31, 0, 0) (20 + 2 * q) = 6) (x : Int32) : am_Met l mX12_tells (am_rm 8 0 0) [am_P (30, 0, 0), am_I 0, am_I x] kd rv iv (am_ret (some (am_I (vo_t0 6 (fun k => if k = 1 then iv (30, 0, 0) 16 else iv (31, 0, 0) (21 + 2 * q)) x).1)) kd rv (rr_L (vo_t0 6 (fun k => if k = 1 then iv (30, 0, 0) 16 else iv (31, 0, 0) (21 + 2 * q)) x).2 iv)) := by
  refine am_Met.of (by decide) (Nat.le_of_ble_eq_true rfl) rfl ?_
  refine A_iload_n (pc := 0) (i := 1) dX12_tells_0 rfl rfl ?_
  refine A_lookup (pc := 1) (off := 35) 36 dX12_tells_1 (by decide) (by decide) (by decide) ?_
  refine A_aload_n (pc := 36) (i := 0) dX12_tells_36 rfl rfl ?_
  refine A_bipush (pc := 37) (13) dX12_tells_37 (by decide) ?_
  refine A_callV0 (pc := 39) cv_X12_284 (r_rr l hR ok 13) hR.1 rfl rfl rfl rfl (Nat.le_of_ble_eq_true rfl) ⟨(Nat.le_of_ble_eq_true rfl), (Nat.le_of_ble_eq_true rfl)⟩ ⟨Nat.zero_le _, Nat.zero_le _⟩ dX12_tells_39 ?_
  refine A_aload_n (pc := 42) (i := 0) dX12_tells_42 rfl rfl ?_
  refine A_aload_n (pc := 43) (i := 0) dX12_tells_43 rfl rfl ?_
  refine A_callV1 (pc := 44) cv_X12_293 (r_own l hR q (rr_A_16.trans hw) hq6) hR.1 rfl rfl rfl rfl (Nat.le_of_ble_eq_true rfl) ⟨(Nat.le_of_ble_eq_true rfl), (Nat.le_of_ble_eq_true rfl)⟩ ⟨Nat.zero_le _, Nat.zero_le _⟩ dX12_tells_44 ?_
  refine A_top (y := 6) (rr_A_0.trans eK) ?_
  refine A_iload_n (pc := 47) (i := 2) dX12_tells_47 rfl rfl ?_
  refine A_callV1 (pc := 48) cv_X12_296 (r_moves6 l hR (rr_A_ok ok) q (rr_A_16.trans hw) hq6 (rr_A_0.trans eK) x) hR.1 rfl rfl rfl rfl (Nat.le_of_ble_eq_true rfl) ⟨(Nat.le_of_ble_eq_true rfl), (Nat.le_of_ble_eq_true rfl)⟩ ⟨Nat.zero_le _, Nat.zero_le _⟩ dX12_tells_48 ?_
  refine A_ist3 (pc := 51) dX12_tells_51 (Nat.le_of_ble_eq_true rfl) rfl ?_
  refine A_iload_n (pc := 52) (i := 3) dX12_tells_52 rfl rfl ?_
  refine A_aload_n (pc := 53) (i := 0) dX12_tells_53 rfl rfl ?_
  refine A_aload_n (pc := 54) (i := 0) dX12_tells_54 rfl rfl ?_
  refine A_callV1 (pc := 55) cv_X12_293 (r_own l hR q (rr_L_16.trans (rr_A_16.trans hw)) hq6) hR.1 rfl rfl rfl rfl (Nat.le_of_ble_eq_true rfl) ⟨(Nat.le_of_ble_eq_true rfl), (Nat.le_of_ble_eq_true rfl)⟩ ⟨Nat.zero_le _, Nat.zero_le _⟩ dX12_tells_55 ?_
  refine A_top (y := 6) (rr_L_0.trans (rr_A_0.trans eK)) ?_
  refine A_iload_n (pc := 58) (i := 2) dX12_tells_58 rfl rfl ?_
  refine A_callV1 (pc := 59) cv_X12_299 (r_ends6 l hR (rr_L_ok (rr_A_ok ok)) q (rr_L_16.trans (rr_A_16.trans hw)) hq6 x) hR.1 rfl rfl rfl rfl (Nat.le_of_ble_eq_true rfl) ⟨(Nat.le_of_ble_eq_true rfl), (Nat.le_of_ble_eq_true rfl)⟩ ⟨Nat.zero_le _, Nat.zero_le _⟩ dX12_tells_59 ?_
  refine A_ixor (pc := 62) dX12_tells_62 ?_
  exact A_iretE (pc := 63) dX12_tells_63 rfl (Nat.zero_le _) (Nat.zero_le _) (by simp [vo_goes, vo_ends, vo_m0, vo_moves, vo_t0, vo_tells, rr_A_16, rr_A_0, rr_L_16, rr_L_0, rr_L_c, rr_L_n, rr_L_a]) (by simp [vo_goes, vo_ends, vo_m0, vo_moves, vo_t0, vo_tells, rr_A_16, rr_A_0, rr_L_16, rr_L_0, rr_L_c, rr_L_n, rr_L_a])
set_option maxRecDepth 20000 in
theorem r_t5_6 (l : Launch) {kd : am_kd} {rv : am_rv} {iv : am_iv} (hR : shr kd rv) (ok : rr_ok iv) (q : Nat) (hw : iv (30, 0, 0) 16 = nI q) (hq6 : q < 6) (eK : iv (31, 0, 0) (20 + 2 * q) = 6) (x : Int32) : am_Met l mX12_tells (am_rm 9 0 0) [am_P (30, 0, 0), am_I 5, am_I x] kd rv iv (am_ret (some (am_I (vo_t0 6 (fun k => if k = 1 then iv (30, 0, 0) 16 else iv (31, 0, 0) (21 + 2 * q)) x).1)) kd rv (rr_L (vo_t0 6 (fun k => if k = 1 then iv (30, 0, 0) 16 else iv (31, 0, 0) (21 + 2 * q)) x).2 iv)) := by
  refine am_Met.of (by decide) (Nat.le_of_ble_eq_true rfl) rfl ?_
  refine A_iload_n (pc := 0) (i := 1) dX12_tells_0 rfl rfl ?_
  refine A_lookup (pc := 1) (off := 120) 121 dX12_tells_1 (by decide) (by decide) (by decide) ?_
  refine A_aload_n (pc := 121) (i := 0) dX12_tells_121 rfl rfl ?_
  refine A_iload_n (pc := 122) (i := 1) dX12_tells_122 rfl rfl ?_
  refine A_callS1 (pc := 123) cs_X12_287 (r_above l 5) rfl rfl (Nat.le_of_ble_eq_true rfl) ⟨(Nat.le_of_ble_eq_true rfl), (Nat.le_of_ble_eq_true rfl)⟩ ⟨Nat.zero_le _, Nat.zero_le _⟩ dX12_tells_123 ?_
  refine A_top (show (if (5 : Int32) = 4 then (3 : Int32) else if (5 : Int32) = 6 then 5 else 0) = 0 by decide) ?_
  refine A_iload_n (pc := 126) (i := 2) dX12_tells_126 rfl rfl ?_
  refine A_callV1 (pc := 127) cv_X12_305 (r_t0_6 l hR ok q hw hq6 eK x) hR.1 rfl rfl rfl rfl (Nat.le_of_ble_eq_true rfl) ⟨(Nat.le_of_ble_eq_true rfl), (Nat.le_of_ble_eq_true rfl)⟩ ⟨Nat.zero_le _, Nat.zero_le _⟩ dX12_tells_127 ?_
  exact A_iretE (pc := 130) dX12_tells_130 rfl (Nat.zero_le _) (Nat.zero_le _) (by simp [vo_goes, vo_ends, vo_m0, vo_moves, vo_t0, vo_tells, rr_A_16, rr_A_0, rr_L_16, rr_L_0, rr_L_c, rr_L_n, rr_L_a]) (by simp [vo_goes, vo_ends, vo_m0, vo_moves, vo_t0, vo_tells, rr_A_16, rr_A_0, rr_L_16, rr_L_0, rr_L_c, rr_L_n, rr_L_a])
set_option maxRecDepth 20000 in
theorem r_tells6 (l : Launch) {kd : am_kd} {rv : am_rv} {iv : am_iv} (hR : shr kd rv) (ok : rr_ok iv) (q : Nat) (hw : iv (30, 0, 0) 16 = nI q) (hq6 : q < 6) (eK : iv (31, 0, 0) (20 + 2 * q) = 6) (x : Int32) : am_Met l mX12_tells (am_rm 10 0 0) [am_P (30, 0, 0), am_I 6, am_I x] kd rv iv (am_ret (some (am_I (vo_tells 6 (fun k => if k = 1 then iv (30, 0, 0) 16 else iv (31, 0, 0) (21 + 2 * q)) x).1)) kd rv (rr_L (vo_tells 6 (fun k => if k = 1 then iv (30, 0, 0) 16 else iv (31, 0, 0) (21 + 2 * q)) x).2 iv)) := by
  refine am_Met.of (by decide) (Nat.le_of_ble_eq_true rfl) rfl ?_
  refine A_iload_n (pc := 0) (i := 1) dX12_tells_0 rfl rfl ?_
  refine A_lookup (pc := 1) (off := 91) 92 dX12_tells_1 (by decide) (by decide) (by decide) ?_
  refine A_aload_n (pc := 92) (i := 0) dX12_tells_92 rfl rfl ?_
  refine A_bipush (pc := 93) (71) dX12_tells_93 (by decide) ?_
  refine A_callV0 (pc := 95) cv_X12_284 (r_rr l hR ok 71) hR.1 rfl rfl rfl rfl (Nat.le_of_ble_eq_true rfl) ⟨(Nat.le_of_ble_eq_true rfl), (Nat.le_of_ble_eq_true rfl)⟩ ⟨Nat.zero_le _, Nat.zero_le _⟩ dX12_tells_95 ?_
  refine A_aload_n (pc := 98) (i := 0) dX12_tells_98 rfl rfl ?_
  refine A_aload_n (pc := 99) (i := 0) dX12_tells_99 rfl rfl ?_
  refine A_callV1 (pc := 100) cv_X12_293 (r_own l hR q (rr_A_16.trans hw) hq6) hR.1 rfl rfl rfl rfl (Nat.le_of_ble_eq_true rfl) ⟨(Nat.le_of_ble_eq_true rfl), (Nat.le_of_ble_eq_true rfl)⟩ ⟨Nat.zero_le _, Nat.zero_le _⟩ dX12_tells_100 ?_
  refine A_top (y := 6) (rr_A_0.trans eK) ?_
  refine A_iload_n (pc := 103) (i := 2) dX12_tells_103 rfl rfl ?_
  refine A_callV1 (pc := 104) cv_X12_296 (r_moves6 l hR (rr_A_ok ok) q (rr_A_16.trans hw) hq6 (rr_A_0.trans eK) x) hR.1 rfl rfl rfl rfl (Nat.le_of_ble_eq_true rfl) ⟨(Nat.le_of_ble_eq_true rfl), (Nat.le_of_ble_eq_true rfl)⟩ ⟨Nat.zero_le _, Nat.zero_le _⟩ dX12_tells_104 ?_
  refine A_ist3 (pc := 107) dX12_tells_107 (Nat.le_of_ble_eq_true rfl) rfl ?_
  refine A_iload_n (pc := 108) (i := 3) dX12_tells_108 rfl rfl ?_
  refine A_aload_n (pc := 109) (i := 0) dX12_tells_109 rfl rfl ?_
  refine A_bipush (pc := 110) (6) dX12_tells_110 (by decide) ?_
  refine A_callS1 (pc := 112) cs_X12_287 (r_above l 6) rfl rfl (Nat.le_of_ble_eq_true rfl) ⟨(Nat.le_of_ble_eq_true rfl), (Nat.le_of_ble_eq_true rfl)⟩ ⟨Nat.zero_le _, Nat.zero_le _⟩ dX12_tells_112 ?_
  refine A_top (show (if (6 : Int32) = 4 then (3 : Int32) else if (6 : Int32) = 6 then 5 else 0) = 5 by decide) ?_
  refine A_iload_n (pc := 115) (i := 2) dX12_tells_115 rfl rfl ?_
  refine A_callV1 (pc := 116) cv_X12_305 (r_t5_6 l hR (rr_L_ok (rr_A_ok ok)) q (rr_L_16.trans (rr_A_16.trans hw)) hq6 (rr_L_0.trans (rr_A_0.trans eK)) x) hR.1 rfl rfl rfl rfl (Nat.le_of_ble_eq_true rfl) ⟨(Nat.le_of_ble_eq_true rfl), (Nat.le_of_ble_eq_true rfl)⟩ ⟨Nat.zero_le _, Nat.zero_le _⟩ dX12_tells_116 ?_
  refine A_isub (pc := 119) dX12_tells_119 ?_
  exact A_iretE (pc := 120) dX12_tells_120 rfl (Nat.zero_le _) (Nat.zero_le _) (by simp [vo_goes, vo_ends, vo_m0, vo_moves, vo_t0, vo_tells, rr_A_16, rr_A_0, rr_L_16, rr_L_0, rr_L_c, rr_L_n, rr_L_a]) (by simp [vo_goes, vo_ends, vo_m0, vo_moves, vo_t0, vo_tells, rr_A_16, rr_A_0, rr_L_16, rr_L_0, rr_L_c, rr_L_n, rr_L_a])
