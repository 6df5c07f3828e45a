def rr_A (v : Int32) (iv : am_iv) : am_iv := rr_add (iv (30, 0, 0) 15).toNatClampNeg v iv
def rr_L (cs : List Int32) (iv : am_iv) : am_iv := cs.foldl (fun iv c => rr_A c iv) iv
def rr_ok (iv : am_iv) : Prop := ∃ s, s ≤ 40 ∧ iv (30, 0, 0) 15 = nI s
theorem rr_A_ok {iv : am_iv} {v : Int32} (h : rr_ok iv) : rr_ok (rr_A v iv) := by
  obtain ⟨s, h1, h2⟩ := h
  unfold rr_A
  rw [h2, nI_clamp (by omega)]
  unfold rr_add
  by_cases hs : s < 40
  · rw [if_pos hs]; exact ⟨s + 1, hs, by simp [am_ui]⟩
  · rw [if_neg hs]; exact ⟨s, h1, h2⟩
theorem rr_A_o {n : am_N} {k : Nat} {v : Int32} {iv : am_iv} (h1 : n ≠ (31, 14, 0)) (h2 : ¬ (n = (30, 0, 0) ∧ k = 15)) : rr_A v iv n k = iv n k := by
  unfold rr_A rr_add
  split
  · rw [am_ui_n h2, am_ui_o h1]
  · rfl
theorem rr_A_16 {v : Int32} {iv : am_iv} : rr_A v iv (30, 0, 0) 16 = iv (30, 0, 0) 16 := rr_A_o (by simp) (by simp)
theorem rr_A_0 {v : Int32} {iv : am_iv} {k : Nat} : rr_A v iv (31, 0, 0) k = iv (31, 0, 0) k := rr_A_o (by simp) (by simp)
theorem r_rr (l : Launch) {kd : am_kd} {rv : am_rv} {iv : am_iv} (hR : shr kd rv) (h : rr_ok iv) (v : Int32) : am_Met l mX12_ran (am_rm 0 0 0) [am_P (30, 0, 0), am_I v] kd rv iv (am_ret none kd rv (rr_A v iv)) := by
  obtain ⟨s, h1, h2⟩ := h
  have e : rr_A v iv = rr_add s v iv := by rw [rr_A, h2, nI_clamp (by omega)]
  rw [e]
  exact r_ran l hR s h2 h1 v
set_option maxRecDepth 20000 in
theorem r_goes0 (l : Launch) {kd : am_kd} {rv : am_rv} {iv : am_iv} (hR : shr kd rv) (ok : rr_ok iv) (q : Nat) (hw : iv (30, 0, 0) 16 = nI q) (hq6 : q < 6) (x : Int32) : am_Met l mX12_goes (am_rm 1 0 0) [am_P (30, 0, 0), am_I 0, am_I x] kd rv iv (am_ret (some (am_I (vo_goes 0 (fun k => if k = 1 then iv (30, 0, 0) 16 else iv (31, 0, 0) (21 + 2 * q)) x).1)) kd rv (rr_L (vo_goes 0 (fun k => if k = 1 then iv (30, 0, 0) 16 else iv (31, 0, 0) (21 + 2 * q)) x).2 iv)) := by
  refine am_Met.of (by decide) (Nat.le_of_ble_eq_true rfl) rfl ?_
  refine A_iload_n (pc := 0) (i := 1) dX12_goes_0 rfl rfl ?_
  refine A_tableIn (pc := 1) (off := 35) 36 dX12_goes_1 (by decide) (by decide) (by decide) (by decide) ?_
  refine A_aload_n (pc := 36) (i := 0) dX12_goes_36 rfl rfl ?_
  refine A_bipush (pc := 37) (10) dX12_goes_37 (by decide) ?_
  refine A_callV0 (pc := 39) cv_X12_284 (r_rr l hR ok 10) hR.1 rfl rfl rfl rfl (Nat.le_of_ble_eq_true rfl) ⟨(Nat.le_of_ble_eq_true rfl), (Nat.le_of_ble_eq_true rfl)⟩ ⟨Nat.zero_le _, Nat.zero_le _⟩ dX12_goes_39 ?_
  refine A_iload_n (pc := 42) (i := 2) dX12_goes_42 rfl rfl ?_
  refine A_aload_n (pc := 43) (i := 0) dX12_goes_43 rfl rfl ?_
  refine A_geti (pc := 44) 16 fl_X12_281_12 hR.1 rfl dX12_goes_44 ?_
  refine A_iadd (pc := 47) dX12_goes_47 ?_
  exact A_iretE (pc := 48) dX12_goes_48 rfl (Nat.zero_le _) (Nat.zero_le _) (by simp [vo_goes, rr_A_16]) (by simp [vo_goes, rr_L])
set_option maxRecDepth 20000 in
theorem r_goes1 (l : Launch) {kd : am_kd} {rv : am_rv} {iv : am_iv} (hR : shr kd rv) (ok : rr_ok iv) (q : Nat) (hw : iv (30, 0, 0) 16 = nI q) (hq6 : q < 6) (x : Int32) : am_Met l mX12_goes (am_rm 2 0 0) [am_P (30, 0, 0), am_I 1, am_I x] kd rv iv (am_ret (some (am_I (vo_goes 1 (fun k => if k = 1 then iv (30, 0, 0) 16 else iv (31, 0, 0) (21 + 2 * q)) x).1)) kd rv (rr_L (vo_goes 1 (fun k => if k = 1 then iv (30, 0, 0) 16 else iv (31, 0, 0) (21 + 2 * q)) x).2 iv)) := by
  refine am_Met.of (by decide) (Nat.le_of_ble_eq_true rfl) rfl ?_
  refine A_iload_n (pc := 0) (i := 1) dX12_goes_0 rfl rfl ?_
  refine A_tableIn (pc := 1) (off := 84) 85 dX12_goes_1 (by decide) (by decide) (by decide) (by decide) ?_
  refine A_aload_n (pc := 85) (i := 0) dX12_goes_85 rfl rfl ?_
  refine A_iload_n (pc := 86) (i := 1) dX12_goes_86 rfl rfl ?_
  refine A_callS1 (pc := 87) cs_X12_287 (r_above l 1) rfl rfl (Nat.le_of_ble_eq_true rfl) ⟨(Nat.le_of_ble_eq_true rfl), (Nat.le_of_ble_eq_true rfl)⟩ ⟨Nat.zero_le _, Nat.zero_le _⟩ dX12_goes_87 ?_
  refine A_top (show (if (1 : Int32) = 4 then (3 : Int32) else if (1 : Int32) = 6 then 5 else 0) = 0 by decide) ?_
  refine A_iload_n (pc := 90) (i := 2) dX12_goes_90 rfl rfl ?_
  refine A_callV1 (pc := 91) cv_X12_290 (r_goes0 l hR ok q hw hq6 x) hR.1 rfl rfl rfl rfl (Nat.le_of_ble_eq_true rfl) ⟨(Nat.le_of_ble_eq_true rfl), (Nat.le_of_ble_eq_true rfl)⟩ ⟨Nat.zero_le _, Nat.zero_le _⟩ dX12_goes_91 ?_
  exact A_iretE (pc := 94) dX12_goes_94 rfl (Nat.zero_le _) (Nat.zero_le _) (by simp [vo_goes, rr_A_16]) (by simp [vo_goes, rr_L])
set_option maxRecDepth 20000 in
theorem r_goes2 (l : Launch) {kd : am_kd} {rv : am_rv} {iv : am_iv} (hR : shr kd rv) (ok : rr_ok iv) (q : Nat) (hw : iv (30, 0, 0) 16 = nI q) (hq6 : q < 6) (x : Int32) : am_Met l mX12_goes (am_rm 2 0 0) [am_P (30, 0, 0), am_I 2, am_I x] kd rv iv (am_ret (some (am_I (vo_goes 2 (fun k => if k = 1 then iv (30, 0, 0) 16 else iv (31, 0, 0) (21 + 2 * q)) x).1)) kd rv (rr_L (vo_goes 2 (fun k => if k = 1 then iv (30, 0, 0) 16 else iv (31, 0, 0) (21 + 2 * q)) x).2 iv)) := by
  refine am_Met.of (by decide) (Nat.le_of_ble_eq_true rfl) rfl ?_
  refine A_iload_n (pc := 0) (i := 1) dX12_goes_0 rfl rfl ?_
  refine A_tableIn (pc := 1) (off := 48) 49 dX12_goes_1 (by decide) (by decide) (by decide) (by decide) ?_
  refine A_aload_n (pc := 49) (i := 0) dX12_goes_49 rfl rfl ?_
  refine A_bipush (pc := 50) (30) dX12_goes_50 (by decide) ?_
  refine A_callV0 (pc := 52) cv_X12_284 (r_rr l hR ok 30) hR.1 rfl rfl rfl rfl (Nat.le_of_ble_eq_true rfl) ⟨(Nat.le_of_ble_eq_true rfl), (Nat.le_of_ble_eq_true rfl)⟩ ⟨Nat.zero_le _, Nat.zero_le _⟩ dX12_goes_52 ?_
  refine A_aload_n (pc := 55) (i := 0) dX12_goes_55 rfl rfl ?_
  refine A_iconst (pc := 56) (2) dX12_goes_56 (by decide) ?_
  refine A_callS1 (pc := 57) cs_X12_287 (r_above l 2) rfl rfl (Nat.le_of_ble_eq_true rfl) ⟨(Nat.le_of_ble_eq_true rfl), (Nat.le_of_ble_eq_true rfl)⟩ ⟨Nat.zero_le _, Nat.zero_le _⟩ dX12_goes_57 ?_
  refine A_top (show (if (2 : Int32) = 4 then (3 : Int32) else if (2 : Int32) = 6 then 5 else 0) = 0 by decide) ?_
  refine A_iload_n (pc := 60) (i := 2) dX12_goes_60 rfl rfl ?_
  refine A_callV1 (pc := 61) cv_X12_290 (r_goes0 l hR (rr_A_ok ok) q (rr_A_16.trans hw) hq6 x) hR.1 rfl rfl rfl rfl (Nat.le_of_ble_eq_true rfl) ⟨(Nat.le_of_ble_eq_true rfl), (Nat.le_of_ble_eq_true rfl)⟩ ⟨Nat.zero_le _, Nat.zero_le _⟩ dX12_goes_61 ?_
  refine A_iconst (pc := 64) (3) dX12_goes_64 (by decide) ?_
  refine A_imul (pc := 65) dX12_goes_65 ?_
  exact A_iretE (pc := 66) dX12_goes_66 rfl (Nat.zero_le _) (Nat.zero_le _) (by simp [vo_goes, rr_A_16]) (by simp [vo_goes, rr_L])
set_option maxRecDepth 20000 in
theorem r_goes3 (l : Launch) {kd : am_kd} {rv : am_rv} {iv : am_iv} (hR : shr kd rv) (ok : rr_ok iv) (q : Nat) (hw : iv (30, 0, 0) 16 = nI q) (hq6 : q < 6) (x : Int32) : am_Met l mX12_goes (am_rm 2 0 0) [am_P (30, 0, 0), am_I 3, am_I x] kd rv iv (am_ret (some (am_I (vo_goes 3 (fun k => if k = 1 then iv (30, 0, 0) 16 else iv (31, 0, 0) (21 + 2 * q)) x).1)) kd rv (rr_L (vo_goes 3 (fun k => if k = 1 then iv (30, 0, 0) 16 else iv (31, 0, 0) (21 + 2 * q)) x).2 iv)) := by
  refine am_Met.of (by decide) (Nat.le_of_ble_eq_true rfl) rfl ?_
  refine A_iload_n (pc := 0) (i := 1) dX12_goes_0 rfl rfl ?_
  refine A_tableIn (pc := 1) (off := 84) 85 dX12_goes_1 (by decide) (by decide) (by decide) (by decide) ?_
  refine A_aload_n (pc := 85) (i := 0) dX12_goes_85 rfl rfl ?_
  refine A_iload_n (pc := 86) (i := 1) dX12_goes_86 rfl rfl ?_
  refine A_callS1 (pc := 87) cs_X12_287 (r_above l 3) rfl rfl (Nat.le_of_ble_eq_true rfl) ⟨(Nat.le_of_ble_eq_true rfl), (Nat.le_of_ble_eq_true rfl)⟩ ⟨Nat.zero_le _, Nat.zero_le _⟩ dX12_goes_87 ?_
  refine A_top (show (if (3 : Int32) = 4 then (3 : Int32) else if (3 : Int32) = 6 then 5 else 0) = 0 by decide) ?_
  refine A_iload_n (pc := 90) (i := 2) dX12_goes_90 rfl rfl ?_
  refine A_callV1 (pc := 91) cv_X12_290 (r_goes0 l hR ok q hw hq6 x) hR.1 rfl rfl rfl rfl (Nat.le_of_ble_eq_true rfl) ⟨(Nat.le_of_ble_eq_true rfl), (Nat.le_of_ble_eq_true rfl)⟩ ⟨Nat.zero_le _, Nat.zero_le _⟩ dX12_goes_91 ?_
  exact A_iretE (pc := 94) dX12_goes_94 rfl (Nat.zero_le _) (Nat.zero_le _) (by simp [vo_goes, rr_A_16]) (by simp [vo_goes, rr_L])
set_option maxRecDepth 20000 in
theorem r_goes5 (l : Launch) {kd : am_kd} {rv : am_rv} {iv : am_iv} (hR : shr kd rv) (ok : rr_ok iv) (q : Nat) (hw : iv (30, 0, 0) 16 = nI q) (hq6 : q < 6) (x : Int32) : am_Met l mX12_goes (am_rm 2 0 0) [am_P (30, 0, 0), am_I 5, am_I x] kd rv iv (am_ret (some (am_I (vo_goes 5 (fun k => if k = 1 then iv (30, 0, 0) 16 else iv (31, 0, 0) (21 + 2 * q)) x).1)) kd rv (rr_L (vo_goes 5 (fun k => if k = 1 then iv (30, 0, 0) 16 else iv (31, 0, 0) (21 + 2 * q)) x).2 iv)) := by
  refine am_Met.of (by decide) (Nat.le_of_ble_eq_true rfl) rfl ?_
  refine A_iload_n (pc := 0) (i := 1) dX12_goes_0 rfl rfl ?_
  refine A_tableOut (pc := 1) 85 dX12_goes_1 (by decide) (by decide) ?_
  refine A_aload_n (pc := 85) (i := 0) dX12_goes_85 rfl rfl ?_
  refine A_iload_n (pc := 86) (i := 1) dX12_goes_86 rfl rfl ?_
  refine A_callS1 (pc := 87) cs_X12_287 (r_above l 5) rfl rfl (Nat.le_of_ble_eq_true rfl) ⟨(Nat.le_of_ble_eq_true rfl), (Nat.le_of_ble_eq_true rfl)⟩ ⟨Nat.zero_le _, Nat.zero_le _⟩ dX12_goes_87 ?_
  refine A_top (show (if (5 : Int32) = 4 then (3 : Int32) else if (5 : Int32) = 6 then 5 else 0) = 0 by decide) ?_
  refine A_iload_n (pc := 90) (i := 2) dX12_goes_90 rfl rfl ?_
  refine A_callV1 (pc := 91) cv_X12_290 (r_goes0 l hR ok q hw hq6 x) hR.1 rfl rfl rfl rfl (Nat.le_of_ble_eq_true rfl) ⟨(Nat.le_of_ble_eq_true rfl), (Nat.le_of_ble_eq_true rfl)⟩ ⟨Nat.zero_le _, Nat.zero_le _⟩ dX12_goes_91 ?_
  exact A_iretE (pc := 94) dX12_goes_94 rfl (Nat.zero_le _) (Nat.zero_le _) (by simp [vo_goes, rr_A_16]) (by simp [vo_goes, rr_L])
set_option maxRecDepth 20000 in
theorem r_goes4 (l : Launch) {kd : am_kd} {rv : am_rv} {iv : am_iv} (hR : shr kd rv) (ok : rr_ok iv) (q : Nat) (hw : iv (30, 0, 0) 16 = nI q) (hq6 : q < 6) (x : Int32) : am_Met l mX12_goes (am_rm 3 0 0) [am_P (30, 0, 0), am_I 4, am_I x] kd rv iv (am_ret (some (am_I (vo_goes 4 (fun k => if k = 1 then iv (30, 0, 0) 16 else iv (31, 0, 0) (21 + 2 * q)) x).1)) kd rv (rr_L (vo_goes 4 (fun k => if k = 1 then iv (30, 0, 0) 16 else iv (31, 0, 0) (21 + 2 * q)) x).2 iv)) := by
  refine am_Met.of (by decide) (Nat.le_of_ble_eq_true rfl) rfl ?_
  refine A_iload_n (pc := 0) (i := 1) dX12_goes_0 rfl rfl ?_
  refine A_tableIn (pc := 1) (off := 66) 67 dX12_goes_1 (by decide) (by decide) (by decide) (by decide) ?_
  refine A_aload_n (pc := 67) (i := 0) dX12_goes_67 rfl rfl ?_
  refine A_bipush (pc := 68) (50) dX12_goes_68 (by decide) ?_
  refine A_callV0 (pc := 70) cv_X12_284 (r_rr l hR ok 50) hR.1 rfl rfl rfl rfl (Nat.le_of_ble_eq_true rfl) ⟨(Nat.le_of_ble_eq_true rfl), (Nat.le_of_ble_eq_true rfl)⟩ ⟨Nat.zero_le _, Nat.zero_le _⟩ dX12_goes_70 ?_
  refine A_aload_n (pc := 73) (i := 0) dX12_goes_73 rfl rfl ?_
  refine A_iconst (pc := 74) (4) dX12_goes_74 (by decide) ?_
  refine A_callS1 (pc := 75) cs_X12_287 (r_above l 4) rfl rfl (Nat.le_of_ble_eq_true rfl) ⟨(Nat.le_of_ble_eq_true rfl), (Nat.le_of_ble_eq_true rfl)⟩ ⟨Nat.zero_le _, Nat.zero_le _⟩ dX12_goes_75 ?_
  refine A_top (show (if (4 : Int32) = 4 then (3 : Int32) else if (4 : Int32) = 6 then 5 else 0) = 3 by decide) ?_
  refine A_iload_n (pc := 78) (i := 2) dX12_goes_78 rfl rfl ?_
  refine A_iconst (pc := 79) (1) dX12_goes_79 (by decide) ?_
  refine A_iadd (pc := 80) dX12_goes_80 ?_
  refine A_callV1 (pc := 81) cv_X12_290 (r_goes3 l hR (rr_A_ok ok) q (rr_A_16.trans hw) hq6 (x + 1)) hR.1 rfl rfl rfl rfl (Nat.le_of_ble_eq_true rfl) ⟨(Nat.le_of_ble_eq_true rfl), (Nat.le_of_ble_eq_true rfl)⟩ ⟨Nat.zero_le _, Nat.zero_le _⟩ dX12_goes_81 ?_
  exact A_iretE (pc := 84) dX12_goes_84 rfl (Nat.zero_le _) (Nat.zero_le _) (by simp [vo_goes, rr_A_16]) (by simp [vo_goes, rr_L])
set_option maxRecDepth 20000 in
theorem r_goes6 (l : Launch) {kd : am_kd} {rv : am_rv} {iv : am_iv} (hR : shr kd rv) (ok : rr_ok iv) (q : Nat) (hw : iv (30, 0, 0) 16 = nI q) (hq6 : q < 6) (x : Int32) : am_Met l mX12_goes (am_rm 3 0 0) [am_P (30, 0, 0), am_I 6, am_I x] kd rv iv (am_ret (some (am_I (vo_goes 6 (fun k => if k = 1 then iv (30, 0, 0) 16 else iv (31, 0, 0) (21 + 2 * q)) x).1)) kd rv (rr_L (vo_goes 6 (fun k => if k = 1 then iv (30, 0, 0) 16 else iv (31, 0, 0) (21 + 2 * q)) x).2 iv)) := by
  refine am_Met.of (by decide) (Nat.le_of_ble_eq_true rfl) rfl ?_
  refine A_iload_n (pc := 0) (i := 1) dX12_goes_0 rfl rfl ?_
  refine A_tableOut (pc := 1) 85 dX12_goes_1 (by decide) (by decide) ?_
  refine A_aload_n (pc := 85) (i := 0) dX12_goes_85 rfl rfl ?_
  refine A_iload_n (pc := 86) (i := 1) dX12_goes_86 rfl rfl ?_
  refine A_callS1 (pc := 87) cs_X12_287 (r_above l 6) rfl rfl (Nat.le_of_ble_eq_true rfl) ⟨(Nat.le_of_ble_eq_true rfl), (Nat.le_of_ble_eq_true rfl)⟩ ⟨Nat.zero_le _, Nat.zero_le _⟩ dX12_goes_87 ?_
  refine A_top (show (if (6 : Int32) = 4 then (3 : Int32) else if (6 : Int32) = 6 then 5 else 0) = 5 by decide) ?_
  refine A_iload_n (pc := 90) (i := 2) dX12_goes_90 rfl rfl ?_
  refine A_callV1 (pc := 91) cv_X12_290 (r_goes5 l hR ok q hw hq6 x) hR.1 rfl rfl rfl rfl (Nat.le_of_ble_eq_true rfl) ⟨(Nat.le_of_ble_eq_true rfl), (Nat.le_of_ble_eq_true rfl)⟩ ⟨Nat.zero_le _, Nat.zero_le _⟩ dX12_goes_91 ?_
  exact A_iretE (pc := 94) dX12_goes_94 rfl (Nat.zero_le _) (Nat.zero_le _) (by simp [vo_goes, rr_A_16]) (by simp [vo_goes, rr_L])
