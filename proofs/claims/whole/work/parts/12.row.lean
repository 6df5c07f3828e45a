def rg_trait (f : Nat → Int32) (w : Int32) : Int32 := if w = 0 then f 1 else if w = 1 then f 2 else if w = 2 then f 3 else if w = 3 then f 4 else if w = 4 then f 5 else if w = 5 then f 6 else if w = 6 then (if f 7 = 0 then 0 else 1) else rg_pace f
set_option maxRecDepth 20000 in
theorem s_trait (l : Launch) {kd : am_kd} {rv : am_rv} {iv : am_iv} (n : am_N) (hk : kd n = some (.inl 3)) (w : Int32) : am_Met l mX3_trait (am_rm 2 0 0) [am_P n, am_I w] kd rv iv (am_ret (some (am_I (rg_trait (iv n) w))) kd rv iv) := by
  refine am_Met.of (by decide) (Nat.le_of_ble_eq_true rfl) rfl ?_
  refine A_iload_n (pc := 0) (i := 1) dX3_trait_0 rfl rfl ?_
  by_cases hs1_0 : w = (0)
  · refine A_tableIn (pc := 1) (off := 43) 44 dX3_trait_1 (by rw [hs1_0]; decide) (by rw [hs1_0]; decide) (by rw [hs1_0]; decide) (by decide) ?_
    refine A_aload_n (pc := 44) (i := 0) dX3_trait_44 rfl rfl ?_
    refine A_geti (pc := 45) 1 fl_X3_22_3 hk rfl dX3_trait_45 ?_
    exact A_iretE (pc := 48) dX3_trait_48 rfl (Nat.zero_le _) (Nat.zero_le _) (by simp_all [rg_trait]) (rfl)
  by_cases hs1_1 : w = (1)
  · refine A_tableIn (pc := 1) (off := 48) 49 dX3_trait_1 (by rw [hs1_1]; decide) (by rw [hs1_1]; decide) (by rw [hs1_1]; decide) (by decide) ?_
    refine A_aload_n (pc := 49) (i := 0) dX3_trait_49 rfl rfl ?_
    refine A_geti (pc := 50) 2 fl_X3_25_3 hk rfl dX3_trait_50 ?_
    exact A_iretE (pc := 53) dX3_trait_53 rfl (Nat.zero_le _) (Nat.zero_le _) (by simp_all [rg_trait]) (rfl)
  by_cases hs1_2 : w = (2)
  · refine A_tableIn (pc := 1) (off := 53) 54 dX3_trait_1 (by rw [hs1_2]; decide) (by rw [hs1_2]; decide) (by rw [hs1_2]; decide) (by decide) ?_
    refine A_aload_n (pc := 54) (i := 0) dX3_trait_54 rfl rfl ?_
    refine A_geti (pc := 55) 3 fl_X3_13_3 hk rfl dX3_trait_55 ?_
    exact A_iretE (pc := 58) dX3_trait_58 rfl (Nat.zero_le _) (Nat.zero_le _) (by simp_all [rg_trait]) (rfl)
  by_cases hs1_3 : w = (3)
  · refine A_tableIn (pc := 1) (off := 58) 59 dX3_trait_1 (by rw [hs1_3]; decide) (by rw [hs1_3]; decide) (by rw [hs1_3]; decide) (by decide) ?_
    refine A_aload_n (pc := 59) (i := 0) dX3_trait_59 rfl rfl ?_
    refine A_geti (pc := 60) 4 fl_X3_28_3 hk rfl dX3_trait_60 ?_
    exact A_iretE (pc := 63) dX3_trait_63 rfl (Nat.zero_le _) (Nat.zero_le _) (by simp_all [rg_trait]) (rfl)
  by_cases hs1_4 : w = (4)
  · refine A_tableIn (pc := 1) (off := 63) 64 dX3_trait_1 (by rw [hs1_4]; decide) (by rw [hs1_4]; decide) (by rw [hs1_4]; decide) (by decide) ?_
    refine A_aload_n (pc := 64) (i := 0) dX3_trait_64 rfl rfl ?_
    refine A_geti (pc := 65) 5 fl_X3_16_3 hk rfl dX3_trait_65 ?_
    exact A_iretE (pc := 68) dX3_trait_68 rfl (Nat.zero_le _) (Nat.zero_le _) (by simp_all [rg_trait]) (rfl)
  by_cases hs1_5 : w = (5)
  · refine A_tableIn (pc := 1) (off := 68) 69 dX3_trait_1 (by rw [hs1_5]; decide) (by rw [hs1_5]; decide) (by rw [hs1_5]; decide) (by decide) ?_
    refine A_aload_n (pc := 69) (i := 0) dX3_trait_69 rfl rfl ?_
    refine A_geti (pc := 70) 6 fl_X3_19_3 hk rfl dX3_trait_70 ?_
    exact A_iretE (pc := 73) dX3_trait_73 rfl (Nat.zero_le _) (Nat.zero_le _) (by simp_all [rg_trait]) (rfl)
  by_cases hs1_6 : w = (6)
  · refine A_tableIn (pc := 1) (off := 73) 74 dX3_trait_1 (by rw [hs1_6]; decide) (by rw [hs1_6]; decide) (by rw [hs1_6]; decide) (by decide) ?_
    refine A_aload_n (pc := 74) (i := 0) dX3_trait_74 rfl rfl ?_
    refine A_geti (pc := 75) 7 fl_X3_31_3 hk rfl dX3_trait_75 ?_
    refine A_callN1 (pc := 78) cn_X3_41 (s_asBit l _) rfl rfl (Nat.le_of_ble_eq_true rfl) ⟨(Nat.le_of_ble_eq_true rfl), (Nat.le_of_ble_eq_true rfl)⟩ ⟨Nat.zero_le _, Nat.zero_le _⟩ dX3_trait_78 ?_
    exact A_iretE (pc := 81) dX3_trait_81 rfl (Nat.zero_le _) (Nat.zero_le _) (by simp_all [rg_trait]) (rfl)
  refine A_tableOut (pc := 1) 82 dX3_trait_1 (by have := lv_neT hs1_0 (show ((0 : Int32)).toInt = (0) by decide); have := lv_neT hs1_1 (show ((1 : Int32)).toInt = (1) by decide); have := lv_neT hs1_2 (show ((2 : Int32)).toInt = (2) by decide); have := lv_neT hs1_3 (show ((3 : Int32)).toInt = (3) by decide); have := lv_neT hs1_4 (show ((4 : Int32)).toInt = (4) by decide); have := lv_neT hs1_5 (show ((5 : Int32)).toInt = (5) by decide); have := lv_neT hs1_6 (show ((6 : Int32)).toInt = (6) by decide); omega) (by decide) ?_
  refine A_aload_n (pc := 82) (i := 0) dX3_trait_82 rfl rfl ?_
  refine A_callV1 (pc := 83) cv_X3_45 (s_pace l n hk) hk rfl rfl rfl rfl (Nat.le_of_ble_eq_true rfl) ⟨(Nat.le_of_ble_eq_true rfl), (Nat.le_of_ble_eq_true rfl)⟩ ⟨Nat.zero_le _, Nat.zero_le _⟩ dX3_trait_83 ?_
  exact A_iretE (pc := 86) dX3_trait_86 rfl (Nat.zero_le _) (Nat.zero_le _) (by simp_all [rg_trait]) (rfl)
/-! Row: 0 numbers, 1 size, 2 bits -/
def rw_nar (b v : Int32) : Int32 := if b = 8 then v.toInt8.toInt32 else if b = 16 then v.toInt16.toInt32 else v
def rw_cp (n a b : am_N) (s : Nat) (iv : am_iv) : am_iv := am_cpy (am_ui iv n 1 (nI s)) b a 0 0 s
def rw_add (n a : am_N) (z s : Nat) (v : Int32) (iv : am_iv) : am_iv := if s < z then am_ui (am_ui iv a s v) n 1 (nI (s + 1)) else iv
def rw_fill (a : am_N) (z : Nat) (v : Int32) (iv : am_iv) : am_iv := fun n k => if n = a ∧ k < z then v else iv n k
theorem nI_neg {s : Nat} (h : s < 2 ^ 31) : ¬ nI s < 0 := nI_pos h
set_option maxRecDepth 20000 in
theorem s_rwbecome (l : Launch) {kd : am_kd} {rv : am_rv} {iv : am_iv} (n a : am_N) (o b : am_N) (z s : Nat) (hk : kd n = some (.inl 5)) (hr : rv n 0 = some a) (ha : kd a = some (.inr (0, z))) (hz : z < 2 ^ 31) (hk2 : kd o = some (.inl 5)) (hr2 : rv o 0 = some b) (hb : kd b = some (.inr (0, z))) (hs : iv o 1 = nI s) (hsz : s ≤ z) (hno : o ≠ n) : am_Met l mX5_become (am_rm 1 0 0) [am_P n, am_P o] kd rv iv (am_ret none kd rv (rw_cp n a b s iv)) := by
  refine am_Met.of (by decide) (Nat.le_of_ble_eq_true rfl) rfl ?_
  refine A_aload_n (pc := 0) (i := 0) dX5_become_0 rfl rfl ?_
  refine A_aload_n (pc := 1) (i := 1) dX5_become_1 rfl rfl ?_
  refine A_geti (pc := 2) 1 fl_X5_13_5 hk2 rfl dX5_become_2 ?_
  refine A_aload_n (pc := 5) (i := 0) dX5_become_5 rfl rfl ?_
  refine A_getr (pc := 6) 0 fl_X5_7_5 hk rfl hr dX5_become_6 ?_
  refine A_alen (pc := 9) ha (Nat.le_of_ble_eq_true rfl) dX5_become_9 ?_
  refine A_mmin (pc := 10) cm_X5_17 (Nat.le_of_ble_eq_true rfl) (Nat.le_of_ble_eq_true rfl) (Nat.zero_le _) (Nat.zero_le _) dX5_become_10 ?_
  refine A_top (y := nI s) (by rw [hs, if_neg (nI_nlt hsz hz)]) ?_
  refine A_puti (pc := 13) 1 fl_X5_13_5 hk rfl (by decide +kernel) rfl rfl dX5_become_13 ?_
  refine A_aload_n (pc := 16) (i := 1) dX5_become_16 rfl rfl ?_
  refine A_getr (pc := 17) 0 fl_X5_7_5 hk2 rfl hr2 dX5_become_17 ?_
  refine A_iconst (pc := 20) (0) dX5_become_20 (by decide) ?_
  refine A_aload_n (pc := 21) (i := 0) dX5_become_21 rfl rfl ?_
  refine A_getr (pc := 22) 0 fl_X5_7_5 hk rfl hr dX5_become_22 ?_
  refine A_iconst (pc := 25) (0) dX5_become_25 (by decide) ?_
  refine A_aload_n (pc := 26) (i := 0) dX5_become_26 rfl rfl ?_
  refine A_geti (pc := 27) 1 fl_X5_13_5 hk rfl dX5_become_27 ?_
  refine A_top (y := nI s) (by simp [am_ui]) ?_
  refine A_copy (pc := 30) cc_X5_23 hb ha (by decide) (by decide) (nI_neg (by omega)) (by rw [nI_clamp (by omega)]; simpa using hsz) (by rw [nI_clamp (by omega)]; simpa using hsz) (Nat.le_of_ble_eq_true rfl) (Nat.le_of_ble_eq_true rfl) dX5_become_30 ?_
  refine A_heap (iv' := rw_cp n a b s iv) (by rw [nI_clamp (by omega)]; rfl) ?_
  exact A_vretE (pc := 33) dX5_become_33 rfl (Nat.zero_le _) (Nat.zero_le _) (rfl)
set_option maxRecDepth 20000 in
theorem s_rwadd (l : Launch) {kd : am_kd} {rv : am_rv} {iv : am_iv} (n a : am_N) (z s : Nat) (hk : kd n = some (.inl 5)) (hr : rv n 0 = some a) (ha : kd a = some (.inr (0, z))) (hz : z < 2 ^ 31) (hs : iv n 1 = nI s) (hsz : s ≤ z) (hna : n ≠ a) (v : Int32) : am_Met l mX5_add (am_rm 0 0 0) [am_P n, am_I v] kd rv iv (am_ret none kd rv (rw_add n a z s v iv)) := by
  refine am_Met.of (by decide) (Nat.le_of_ble_eq_true rfl) rfl ?_
  refine A_aload_n (pc := 0) (i := 0) dX5_add_0 rfl rfl ?_
  refine A_geti (pc := 1) 1 fl_X5_13_5 hk rfl dX5_add_1 ?_
  refine A_aload_n (pc := 4) (i := 0) dX5_add_4 rfl rfl ?_
  refine A_getr (pc := 5) 0 fl_X5_7_5 hk rfl hr dX5_add_5 ?_
  refine A_alen (pc := 8) ha (Nat.le_of_ble_eq_true rfl) dX5_add_8 ?_
  refine A_top2 hs ?_
  refine A_icmpge (pc := 9) 32 dX5_add_9 (by decide) (fun hb9 => ?_) (fun hb9 => ?_)
  · exact A_vretE (pc := 32) dX5_add_32 rfl (Nat.zero_le _) (Nat.zero_le _) (by first | (rw [rw_add, if_pos hlt]; done) | (rw [rw_add, if_neg (fun h => nI_ge h hz hb9)]; done))
  · have hlt : s < z := by
      rcases Nat.lt_or_ge s z with h | h
      · exact h
      · exact absurd (nI_le h (by omega)) hb9
    refine A_aload_n (pc := 12) (i := 0) dX5_add_12 rfl rfl ?_
    refine A_getr (pc := 13) 0 fl_X5_7_5 hk rfl hr dX5_add_13 ?_
    refine A_aload_n (pc := 16) (i := 0) dX5_add_16 rfl rfl ?_
    refine A_geti (pc := 17) 1 fl_X5_13_5 hk rfl dX5_add_17 ?_
    refine A_iload_n (pc := 20) (i := 1) dX5_add_20 rfl rfl ?_
    refine A_top2 hs ?_
    refine A_iastN (pc := 21) ha hlt hz dX5_add_21 ?_
    refine A_aload_n (pc := 22) (i := 0) dX5_add_22 rfl rfl ?_
    refine A_dup (pc := 23) dX5_add_23 rfl ?_
    refine A_geti (pc := 24) 1 fl_X5_13_5 hk rfl dX5_add_24 ?_
    refine A_iconst (pc := 27) (1) dX5_add_27 (by decide) ?_
    refine A_top2 (y := nI s) (by rw [am_ui_o hna]; exact hs) ?_
    refine A_iadd (pc := 28) dX5_add_28 ?_
    refine A_top (nI_1 s) ?_
    refine A_puti (pc := 29) 1 fl_X5_13_5 hk rfl (by decide +kernel) rfl rfl dX5_add_29 ?_
    exact A_vretE (pc := 32) dX5_add_32 rfl (Nat.zero_le _) (Nat.zero_le _) (by first | (rw [rw_add, if_pos hlt]; done) | (rw [rw_add, if_neg (fun h => nI_ge h hz hb9)]; done))
set_option maxRecDepth 20000 in
theorem s_rwhas (l : Launch) {kd : am_kd} {rv : am_rv} {iv : am_iv} (n : am_N) (hk : kd n = some (.inl 5)) (i : Int32) : am_Met l mX5_has (am_rm 0 0 0) [am_P n, am_I i] kd rv iv (am_ret (some (am_I (sr_b (0 ≤ i ∧ i < iv n 1)))) kd rv iv) := by
  refine am_Met.of (by decide) (Nat.le_of_ble_eq_true rfl) rfl ?_
  refine A_iload_n (pc := 0) (i := 1) dX5_has_0 rfl rfl ?_
  refine A_iflt (pc := 1) 16 dX5_has_1 (by decide) (fun hb1 => ?_) (fun hb1 => ?_)
  · refine A_iconst (pc := 16) (0) dX5_has_16 (by decide) ?_
    exact A_zretE (pc := 17) dX5_has_17 rfl (by first | exact A_zn0 | exact A_zn1 | exact A_znif _) (Nat.zero_le _) (Nat.zero_le _) (by (try simp only [sr_b]); (repeat' split) <;> first | rfl | (exfalso; simp only [fa_lt, fa_le] at *; omega) | (exfalso; simp [fa_lt, fa_le, fa_eq] at *; omega) | (simp_all; done)) (rfl)
  · refine A_iload_n (pc := 4) (i := 1) dX5_has_4 rfl rfl ?_
    refine A_aload_n (pc := 5) (i := 0) dX5_has_5 rfl rfl ?_
    refine A_geti (pc := 6) 1 fl_X5_13_5 hk rfl dX5_has_6 ?_
    refine A_icmpge (pc := 9) 16 dX5_has_9 (by decide) (fun hb9 => ?_) (fun hb9 => ?_)
    · refine A_iconst (pc := 16) (0) dX5_has_16 (by decide) ?_
      exact A_zretE (pc := 17) dX5_has_17 rfl (by first | exact A_zn0 | exact A_zn1 | exact A_znif _) (Nat.zero_le _) (Nat.zero_le _) (by (try simp only [sr_b]); (repeat' split) <;> first | rfl | (exfalso; simp only [fa_lt, fa_le] at *; omega) | (exfalso; simp [fa_lt, fa_le, fa_eq] at *; omega) | (simp_all; done)) (rfl)
    · refine A_iconst (pc := 12) (1) dX5_has_12 (by decide) ?_
      refine A_goto (pc := 13) 17 dX5_has_13 (by decide) ?_
      exact A_zretE (pc := 17) dX5_has_17 rfl (by first | exact A_zn0 | exact A_zn1 | exact A_znif _) (Nat.zero_le _) (Nat.zero_le _) (by (try simp only [sr_b]); (repeat' split) <;> first | rfl | (exfalso; simp only [fa_lt, fa_le] at *; omega) | (exfalso; simp [fa_lt, fa_le, fa_eq] at *; omega) | (simp_all; done)) (rfl)
set_option maxRecDepth 20000 in
theorem s_rwstands (l : Launch) {kd : am_kd} {rv : am_rv} {iv : am_iv} (n : am_N) (hk : kd n = some (.inl 5)) (i k : Int32) : am_Met l mX5_stands (am_rm 0 0 0) [am_P n, am_I i, am_I k] kd rv iv (am_ret (some (am_I (sr_b (0 ≤ i ∧ 0 ≤ k ∧ i ≤ iv n 1 ∧ k ≤ iv n 1 - i)))) kd rv iv) := by
  refine am_Met.of (by decide) (Nat.le_of_ble_eq_true rfl) rfl ?_
  refine A_iload_n (pc := 0) (i := 1) dX5_stands_0 rfl rfl ?_
  refine A_iflt (pc := 1) 30 dX5_stands_1 (by decide) (fun hb1 => ?_) (fun hb1 => ?_)
  · refine A_iconst (pc := 30) (0) dX5_stands_30 (by decide) ?_
    exact A_zretE (pc := 31) dX5_stands_31 rfl (by first | exact A_zn0 | exact A_zn1 | exact A_znif _) (Nat.zero_le _) (Nat.zero_le _) (by (try simp only [sr_b]); (repeat' split) <;> first | rfl | (exfalso; simp only [fa_lt, fa_le] at *; omega) | (exfalso; simp [fa_lt, fa_le, fa_eq] at *; omega) | (simp_all; done)) (rfl)
  · refine A_iload_n (pc := 4) (i := 2) dX5_stands_4 rfl rfl ?_
    refine A_iflt (pc := 5) 30 dX5_stands_5 (by decide) (fun hb5 => ?_) (fun hb5 => ?_)
    · refine A_iconst (pc := 30) (0) dX5_stands_30 (by decide) ?_
      exact A_zretE (pc := 31) dX5_stands_31 rfl (by first | exact A_zn0 | exact A_zn1 | exact A_znif _) (Nat.zero_le _) (Nat.zero_le _) (by (try simp only [sr_b]); (repeat' split) <;> first | rfl | (exfalso; simp only [fa_lt, fa_le] at *; omega) | (exfalso; simp [fa_lt, fa_le, fa_eq] at *; omega) | (simp_all; done)) (rfl)
    · refine A_iload_n (pc := 8) (i := 1) dX5_stands_8 rfl rfl ?_
      refine A_aload_n (pc := 9) (i := 0) dX5_stands_9 rfl rfl ?_
      refine A_geti (pc := 10) 1 fl_X5_13_5 hk rfl dX5_stands_10 ?_
      refine A_icmpgt (pc := 13) 30 dX5_stands_13 (by decide) (fun hb13 => ?_) (fun hb13 => ?_)
      · refine A_iconst (pc := 30) (0) dX5_stands_30 (by decide) ?_
        exact A_zretE (pc := 31) dX5_stands_31 rfl (by first | exact A_zn0 | exact A_zn1 | exact A_znif _) (Nat.zero_le _) (Nat.zero_le _) (by (try simp only [sr_b]); (repeat' split) <;> first | rfl | (exfalso; simp only [fa_lt, fa_le] at *; omega) | (exfalso; simp [fa_lt, fa_le, fa_eq] at *; omega) | (simp_all; done)) (rfl)
      · refine A_iload_n (pc := 16) (i := 2) dX5_stands_16 rfl rfl ?_
        refine A_aload_n (pc := 17) (i := 0) dX5_stands_17 rfl rfl ?_
        refine A_geti (pc := 18) 1 fl_X5_13_5 hk rfl dX5_stands_18 ?_
        refine A_iload_n (pc := 21) (i := 1) dX5_stands_21 rfl rfl ?_
        refine A_isub (pc := 22) dX5_stands_22 ?_
        refine A_icmpgt (pc := 23) 30 dX5_stands_23 (by decide) (fun hb23 => ?_) (fun hb23 => ?_)
        · refine A_iconst (pc := 30) (0) dX5_stands_30 (by decide) ?_
          exact A_zretE (pc := 31) dX5_stands_31 rfl (by first | exact A_zn0 | exact A_zn1 | exact A_znif _) (Nat.zero_le _) (Nat.zero_le _) (by (try simp only [sr_b]); (repeat' split) <;> first | rfl | (exfalso; simp only [fa_lt, fa_le] at *; omega) | (exfalso; simp [fa_lt, fa_le, fa_eq] at *; omega) | (simp_all; done)) (rfl)
        · refine A_iconst (pc := 26) (1) dX5_stands_26 (by decide) ?_
          refine A_goto (pc := 27) 31 dX5_stands_27 (by decide) ?_
          exact A_zretE (pc := 31) dX5_stands_31 rfl (by first | exact A_zn0 | exact A_zn1 | exact A_znif _) (Nat.zero_le _) (Nat.zero_le _) (by (try simp only [sr_b]); (repeat' split) <;> first | rfl | (exfalso; simp only [fa_lt, fa_le] at *; omega) | (exfalso; simp [fa_lt, fa_le, fa_eq] at *; omega) | (simp_all; done)) (rfl)
set_option maxRecDepth 20000 in
theorem s_rwwrite (l : Launch) {kd : am_kd} {rv : am_rv} {iv : am_iv} (n a : am_N) (z s : Nat) (hk : kd n = some (.inl 5)) (hr : rv n 0 = some a) (ha : kd a = some (.inr (0, z))) (hz : z < 2 ^ 31) (hs : iv n 1 = nI s) (hsz : s ≤ z) (i v : Int32) : am_Met l mX5_write (am_rm 1 0 0) [am_P n, am_I i, am_I v] kd rv iv (am_ret none kd rv (if 0 ≤ i ∧ i < iv n 1 then am_ui iv a i.toNatClampNeg (rw_nar (iv n 2) v) else iv)) := by
  refine am_Met.of (by decide) (Nat.le_of_ble_eq_true rfl) rfl ?_
  refine A_aload_n (pc := 0) (i := 0) dX5_write_0 rfl rfl ?_
  refine A_iload_n (pc := 1) (i := 1) dX5_write_1 rfl rfl ?_
  refine A_callV1 (pc := 2) cv_X5_38 (s_rwhas l n hk i) hk rfl rfl rfl rfl (Nat.le_of_ble_eq_true rfl) ⟨(Nat.le_of_ble_eq_true rfl), (Nat.le_of_ble_eq_true rfl)⟩ ⟨Nat.zero_le _, Nat.zero_le _⟩ dX5_write_2 ?_
  refine A_ifeq (pc := 5) 43 dX5_write_5 (by decide) (fun hb5 => ?_) (fun hb5 => ?_)
  · exact A_vretE (pc := 43) dX5_write_43 rfl (Nat.zero_le _) (Nat.zero_le _) (by first | (rw [sr_b_0] at hb5; rw [if_neg hb5]; done) | (rw [if_pos hb5]; simp_all [rw_nar]; done))
  · rw [sr_b_0, Classical.not_not] at hb5
    have hin : vp_in i z := by
      rw [vp_in_iff]
      have h1 := hb5.1
      have h2 := hb5.2
      rw [hs] at h2
      simp only [fa_lt, fa_le] at h1 h2
      rw [nI_toInt (by omega)] at h2
      simp at h1
      omega
    refine A_aload_n (pc := 8) (i := 0) dX5_write_8 rfl rfl ?_
    refine A_getr (pc := 9) 0 fl_X5_7_5 hk rfl hr dX5_write_9 ?_
    refine A_iload_n (pc := 12) (i := 1) dX5_write_12 rfl rfl ?_
    refine A_aload_n (pc := 13) (i := 0) dX5_write_13 rfl rfl ?_
    refine A_geti (pc := 14) 2 fl_X5_29_5 hk rfl dX5_write_14 ?_
    refine A_bipush (pc := 17) (8) dX5_write_17 (by decide) ?_
    refine A_icmpne (pc := 19) 27 dX5_write_19 (by decide) (fun hb19 => ?_) (fun hb19 => ?_)
    · refine A_aload_n (pc := 27) (i := 0) dX5_write_27 rfl rfl ?_
      refine A_geti (pc := 28) 2 fl_X5_29_5 hk rfl dX5_write_28 ?_
      refine A_bipush (pc := 31) (16) dX5_write_31 (by decide) ?_
      refine A_icmpne (pc := 33) 41 dX5_write_33 (by decide) (fun hb33 => ?_) (fun hb33 => ?_)
      · refine A_iload_n (pc := 41) (i := 2) dX5_write_41 rfl rfl ?_
        refine A_iast (pc := 42) ha hin dX5_write_42 ?_
        exact A_vretE (pc := 43) dX5_write_43 rfl (Nat.zero_le _) (Nat.zero_le _) (by first | (rw [sr_b_0] at hb5; rw [if_neg hb5]; done) | (rw [if_pos hb5]; simp_all [rw_nar]; done))
      · refine A_iload_n (pc := 36) (i := 2) dX5_write_36 rfl rfl ?_
        refine A_i2s (pc := 37) dX5_write_37 ?_
        refine A_goto (pc := 38) 42 dX5_write_38 (by decide) ?_
        refine A_iast (pc := 42) ha hin dX5_write_42 ?_
        exact A_vretE (pc := 43) dX5_write_43 rfl (Nat.zero_le _) (Nat.zero_le _) (by first | (rw [sr_b_0] at hb5; rw [if_neg hb5]; done) | (rw [if_pos hb5]; simp_all [rw_nar]; done))
    · refine A_iload_n (pc := 22) (i := 2) dX5_write_22 rfl rfl ?_
      refine A_i2b (pc := 23) dX5_write_23 ?_
      refine A_goto (pc := 24) 42 dX5_write_24 (by decide) ?_
      refine A_iast (pc := 42) ha hin dX5_write_42 ?_
      exact A_vretE (pc := 43) dX5_write_43 rfl (Nat.zero_le _) (Nat.zero_le _) (by first | (rw [sr_b_0] at hb5; rw [if_neg hb5]; done) | (rw [if_pos hb5]; simp_all [rw_nar]; done))
set_option maxRecDepth 20000 in
theorem s_fill (l : Launch) {kd : am_kd} {rv : am_rv} {iv : am_iv} (a : am_N) (z : Nat) (ha : kd a = some (.inr (0, z))) (hz : z < 2 ^ 31) (v : Int32) : am_Met l mJ7_fill_53178 (am_rm 0 0 0) [am_P a, am_I v] kd rv iv (am_ret none kd rv (rw_fill a z v iv)) := by
  refine am_Met.of (by decide) (Nat.le_of_ble_eq_true rfl) rfl ?_
  have loop : ∀ j, j ≤ z → am_W l mJ7_fill_53178 (am_rm 0 0 0) (am_ret none kd rv (rw_fill a z v iv)) 5 [some (am_P a), some (am_I v), some (am_I (nI j)), some (am_I (nI z))] [] kd rv (rw_fill a j v iv) 0 0 := by
    refine am_for _ z ?_ (fun j hj ih => ?_)
    · refine A_iload_n (pc := 5) (i := 2) dJ7_fill_53178_5 rfl rfl ?_
      refine A_iload_n (pc := 6) (i := 3) dJ7_fill_53178_6 rfl rfl ?_
      refine A_icmpge (pc := 7) 20 dJ7_fill_53178_7 (by decide) (fun hb7 => ?_) (fun hb7 => ?_)
      · exact A_vretE (pc := 20) dJ7_fill_53178_20 rfl (Nat.zero_le _) (Nat.zero_le _) (rfl)
      · exact absurd (nI_le (Nat.le_refl z) hz) hb7
    · refine A_iload_n (pc := 5) (i := 2) dJ7_fill_53178_5 rfl rfl ?_
      refine A_iload_n (pc := 6) (i := 3) dJ7_fill_53178_6 rfl rfl ?_
      refine A_icmpge (pc := 7) 20 dJ7_fill_53178_7 (by decide) (fun hb7 => ?_) (fun hb7 => ?_)
      · exact absurd hb7 (nI_ge hj hz)
      · refine A_aload_n (pc := 10) (i := 0) dJ7_fill_53178_10 rfl rfl ?_
        refine A_iload_n (pc := 11) (i := 2) dJ7_fill_53178_11 rfl rfl ?_
        refine A_iload_n (pc := 12) (i := 1) dJ7_fill_53178_12 rfl rfl ?_
        refine A_iastN (pc := 13) ha hj hz dJ7_fill_53178_13 ?_
        refine A_inc2 (pc := 14) (nI (j + 1)) dJ7_fill_53178_14 (nI_1 j) (Nat.le_of_ble_eq_true rfl) rfl ?_
        refine A_goto (pc := 17) 5 dJ7_fill_53178_17 (by decide) ?_
        refine A_heap ?_ ih
        funext n k
        simp only [am_ui, rw_fill]
        by_cases h1 : n = a
        · subst h1
          by_cases h2 : k = j
          · subst h2; simp
          · by_cases h3 : k < j
            · simp [h3, Nat.lt_succ_of_lt h3]
            · have h4 : ¬ k < j + 1 := by omega
              simp [h2, h3, h4]
        · simp [h1]
  refine A_iconst (pc := 0) (0) dJ7_fill_53178_0 (by decide) ?_
  refine A_ist2 (pc := 1) dJ7_fill_53178_1 (Nat.le_of_ble_eq_true rfl) rfl ?_
  refine A_aload_n (pc := 2) (i := 0) dJ7_fill_53178_2 rfl rfl ?_
  refine A_alen (pc := 3) ha (Nat.le_of_ble_eq_true rfl) dJ7_fill_53178_3 ?_
  refine A_ist3 (pc := 4) dJ7_fill_53178_4 (Nat.le_of_ble_eq_true rfl) rfl ?_
  refine A_heap ?_ (loop 0 (Nat.zero_le _))
  funext n k
  simp [rw_fill]
set_option maxRecDepth 20000 in
theorem s_rwbegin (l : Launch) {kd : am_kd} {rv : am_rv} {iv : am_iv} (n a : am_N) (z s : Nat) (hk : kd n = some (.inl 5)) (hr : rv n 0 = some a) (ha : kd a = some (.inr (0, z))) (hz : z < 2 ^ 31) (b : Int32) (hsz : s ≤ z) : am_Met l mX5_begin (am_rm 1 0 0) [am_P n, am_I b, am_I (nI s)] kd rv iv (am_ret none kd rv (rw_fill a z 0 (am_ui (am_ui iv n 2 b) n 1 (nI s)))) := by
  refine am_Met.of (by decide) (Nat.le_of_ble_eq_true rfl) rfl ?_
  refine A_aload_n (pc := 0) (i := 0) dX5_begin_0 rfl rfl ?_
  refine A_iload_n (pc := 1) (i := 1) dX5_begin_1 rfl rfl ?_
  refine A_puti (pc := 2) 2 fl_X5_29_5 hk rfl (by decide +kernel) rfl rfl dX5_begin_2 ?_
  refine A_aload_n (pc := 5) (i := 0) dX5_begin_5 rfl rfl ?_
  refine A_iload_n (pc := 6) (i := 2) dX5_begin_6 rfl rfl ?_
  refine A_aload_n (pc := 7) (i := 0) dX5_begin_7 rfl rfl ?_
  refine A_getr (pc := 8) 0 fl_X5_7_5 hk rfl hr dX5_begin_8 ?_
  refine A_alen (pc := 11) ha (Nat.le_of_ble_eq_true rfl) dX5_begin_11 ?_
  refine A_mmin (pc := 12) cm_X5_17 (Nat.le_of_ble_eq_true rfl) (Nat.le_of_ble_eq_true rfl) (Nat.zero_le _) (Nat.zero_le _) dX5_begin_12 ?_
  refine A_top (y := nI s) (by rw [if_neg (nI_nlt hsz hz)]) ?_
  refine A_puti (pc := 15) 1 fl_X5_13_5 hk rfl (by decide +kernel) rfl rfl dX5_begin_15 ?_
  refine A_aload_n (pc := 18) (i := 0) dX5_begin_18 rfl rfl ?_
  refine A_getr (pc := 19) 0 fl_X5_7_5 hk rfl hr dX5_begin_19 ?_
  refine A_iconst (pc := 22) (0) dX5_begin_22 (by decide) ?_
  refine A_callS0 (pc := 23) cs_X5_32 (s_fill l a z ha hz 0) rfl rfl (Nat.le_of_ble_eq_true rfl) ⟨(Nat.le_of_ble_eq_true rfl), (Nat.le_of_ble_eq_true rfl)⟩ ⟨Nat.zero_le _, Nat.zero_le _⟩ dX5_begin_23 ?_
  exact A_vretE (pc := 26) dX5_begin_26 rfl (Nat.zero_le _) (Nat.zero_le _) (rfl)
