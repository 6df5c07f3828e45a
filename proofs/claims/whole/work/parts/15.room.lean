/-! Room: 1 ringCount, 4 lawCount, 5 on, 6 wall, 7 hole, 8 now, 9 z -/
theorem nI_dec {j n : Nat} (hj : ¬ nI n ≤ nI j) (h : j ≤ n) (hn : n < 2 ^ 31) : j < n := by
  rcases Nat.lt_or_ge j n with q | q
  · exact q
  · exact absurd (nI_le q (by omega)) hj
def rm_on (on : Int32) (j : Int32) : Prop := ¬ (on >>> (j &&& 31)) &&& 1 = 0
def rm_ring (n : am_N) (x y w t wd tk : Int32) (iv : am_iv) : am_iv := am_ui (am_ui (am_ui (am_ui (am_ui (am_ui (am_ui iv n 1 x) n 2 y) n 3 w) n 4 t) n 5 wd) n 6 tk) n 7 1
set_option maxRecDepth 20000 in
theorem s_isFull (l : Launch) {kd : am_kd} {rv : am_rv} {iv : am_iv} (hS : sh kd rv) (i : Nat) (hi : i < 4) : am_Met l mX4_isFull (am_rm 0 0 0) [am_P (2, i, 0)] kd rv iv (am_ret (some (am_I (sr_b (8 ≤ iv (2, i, 0) 1)))) kd rv iv) := by
  refine am_Met.of (by decide) (Nat.le_of_ble_eq_true rfl) rfl ?_
  refine A_aload_n (pc := 0) (i := 0) dX4_isFull_0 rfl rfl ?_
  refine A_geti (pc := 1) 1 fl_X4_77_4 (hS.k2 hi) rfl dX4_isFull_1 ?_
  refine A_bipush (pc := 4) (8) dX4_isFull_4 (by decide) ?_
  refine A_icmplt (pc := 6) 13 dX4_isFull_6 (by decide) (fun hb6 => ?_) (fun hb6 => ?_)
  · refine A_iconst (pc := 13) (0) dX4_isFull_13 (by decide) ?_
    exact A_zretE (pc := 14) dX4_isFull_14 rfl (by first | exact A_zn0 | exact A_zn1 | exact A_znif _) (Nat.zero_le _) (Nat.zero_le _) (by (try simp only [sr_b]); (repeat' split) <;> first | rfl | (exfalso; simp only [fa_lt, fa_le] at *; omega) | (exfalso; simp [fa_lt, fa_le, fa_eq] at *; omega) | (simp_all; done)) (rfl)
  · refine A_iconst (pc := 9) (1) dX4_isFull_9 (by decide) ?_
    refine A_goto (pc := 10) 14 dX4_isFull_10 (by decide) ?_
    exact A_zretE (pc := 14) dX4_isFull_14 rfl (by first | exact A_zn0 | exact A_zn1 | exact A_znif _) (Nat.zero_le _) (Nat.zero_le _) (by (try simp only [sr_b]); (repeat' split) <;> first | rfl | (exfalso; simp only [fa_lt, fa_le] at *; omega) | (exfalso; simp [fa_lt, fa_le, fa_eq] at *; omega) | (simp_all; done)) (rfl)
set_option maxRecDepth 20000 in
theorem s_hasRing (l : Launch) {kd : am_kd} {rv : am_rv} {iv : am_iv} (hS : sh kd rv) (i : Nat) (hi : i < 4) (r : Int32) : am_Met l mX4_hasRing (am_rm 0 0 0) [am_P (2, i, 0), am_I r] kd rv iv (am_ret (some (am_I (sr_b (0 ≤ r ∧ r < iv (2, i, 0) 1)))) kd rv iv) := by
  refine am_Met.of (by decide) (Nat.le_of_ble_eq_true rfl) rfl ?_
  refine A_iload_n (pc := 0) (i := 1) dX4_hasRing_0 rfl rfl ?_
  refine A_iflt (pc := 1) 16 dX4_hasRing_1 (by decide) (fun hb1 => ?_) (fun hb1 => ?_)
  · refine A_iconst (pc := 16) (0) dX4_hasRing_16 (by decide) ?_
    exact A_zretE (pc := 17) dX4_hasRing_17 rfl (by first | exact A_zn0 | exact A_zn1 | exact A_znif _) (Nat.zero_le _) (Nat.zero_le _) (by (try simp only [sr_b]); (repeat' split) <;> first | rfl | (exfalso; simp only [fa_lt, fa_le] at *; omega) | (exfalso; simp [fa_lt, fa_le, fa_eq] at *; omega) | (simp_all; done)) (rfl)
  · refine A_iload_n (pc := 4) (i := 1) dX4_hasRing_4 rfl rfl ?_
    refine A_aload_n (pc := 5) (i := 0) dX4_hasRing_5 rfl rfl ?_
    refine A_geti (pc := 6) 1 fl_X4_77_4 (hS.k2 hi) rfl dX4_hasRing_6 ?_
    refine A_icmpge (pc := 9) 16 dX4_hasRing_9 (by decide) (fun hb9 => ?_) (fun hb9 => ?_)
    · refine A_iconst (pc := 16) (0) dX4_hasRing_16 (by decide) ?_
      exact A_zretE (pc := 17) dX4_hasRing_17 rfl (by first | exact A_zn0 | exact A_zn1 | exact A_znif _) (Nat.zero_le _) (Nat.zero_le _) (by (try simp only [sr_b]); (repeat' split) <;> first | rfl | (exfalso; simp only [fa_lt, fa_le] at *; omega) | (exfalso; simp [fa_lt, fa_le, fa_eq] at *; omega) | (simp_all; done)) (rfl)
    · refine A_iconst (pc := 12) (1) dX4_hasRing_12 (by decide) ?_
      refine A_goto (pc := 13) 17 dX4_hasRing_13 (by decide) ?_
      exact A_zretE (pc := 17) dX4_hasRing_17 rfl (by first | exact A_zn0 | exact A_zn1 | exact A_znif _) (Nat.zero_le _) (Nat.zero_le _) (by (try simp only [sr_b]); (repeat' split) <;> first | rfl | (exfalso; simp only [fa_lt, fa_le] at *; omega) | (exfalso; simp [fa_lt, fa_le, fa_eq] at *; omega) | (simp_all; done)) (rfl)
set_option maxRecDepth 20000 in
theorem s_isOn (l : Launch) {kd : am_kd} {rv : am_rv} {iv : am_iv} (hS : sh kd rv) (i : Nat) (hi : i < 4) (j : Int32) : am_Met l mX4_isOn (am_rm 0 0 0) [am_P (2, i, 0), am_I j] kd rv iv (am_ret (some (am_I (rg_bit (rm_on (iv (2, i, 0) 5) j)))) kd rv iv) := by
  refine am_Met.of (by decide) (Nat.le_of_ble_eq_true rfl) rfl ?_
  refine A_aload_n (pc := 0) (i := 0) dX4_isOn_0 rfl rfl ?_
  refine A_geti (pc := 1) 5 fl_X4_64_4 (hS.k2 hi) rfl dX4_isOn_1 ?_
  refine A_iload_n (pc := 4) (i := 1) dX4_isOn_4 rfl rfl ?_
  refine A_ishr (pc := 5) dX4_isOn_5 ?_
  refine A_iconst (pc := 6) (1) dX4_isOn_6 (by decide) ?_
  refine A_iand (pc := 7) dX4_isOn_7 ?_
  refine A_ifeq (pc := 8) 15 dX4_isOn_8 (by decide) (fun hb8 => ?_) (fun hb8 => ?_)
  · refine A_iconst (pc := 15) (0) dX4_isOn_15 (by decide) ?_
    exact A_zretE (pc := 16) dX4_isOn_16 rfl (by first | exact A_zn0 | exact A_zn1 | exact A_znif _) (Nat.zero_le _) (Nat.zero_le _) (by first | exact (rg_bit_t hb8).symm | exact (rg_bit_f (Classical.not_not.mpr hb8)).symm) (rfl)
  · refine A_iconst (pc := 11) (1) dX4_isOn_11 (by decide) ?_
    refine A_goto (pc := 12) 16 dX4_isOn_12 (by decide) ?_
    exact A_zretE (pc := 16) dX4_isOn_16 rfl (by first | exact A_zn0 | exact A_zn1 | exact A_znif _) (Nat.zero_le _) (Nat.zero_le _) (by first | exact (rg_bit_t hb8).symm | exact (rg_bit_f (Classical.not_not.mpr hb8)).symm) (rfl)
set_option maxRecDepth 20000 in
theorem s_trailing (l : Launch) {kd : am_kd} {rv : am_rv} {iv : am_iv} (hS : sh kd rv) (i : Nat) (hi : i < 4) (x : Int32) : am_Met l mX4_trailing (am_rm 1 0 0) [am_P (2, i, 0), am_I x] kd rv iv (am_ret (some (am_I (if 0 < x - 4 * iv (2, i, 0) 7 then x - 4 * iv (2, i, 0) 7 else 0))) kd rv iv) := by
  refine am_Met.of (by decide) (Nat.le_of_ble_eq_true rfl) rfl ?_
  refine A_iconst (pc := 0) (0) dX4_trailing_0 (by decide) ?_
  refine A_iload_n (pc := 1) (i := 1) dX4_trailing_1 rfl rfl ?_
  refine A_iconst (pc := 2) (4) dX4_trailing_2 (by decide) ?_
  refine A_aload_n (pc := 3) (i := 0) dX4_trailing_3 rfl rfl ?_
  refine A_geti (pc := 4) 7 fl_X4_34_4 (hS.k2 hi) rfl dX4_trailing_4 ?_
  refine A_imul (pc := 7) dX4_trailing_7 ?_
  refine A_isub (pc := 8) dX4_trailing_8 ?_
  refine A_mmax (pc := 9) cm_X4_123 (Nat.le_of_ble_eq_true rfl) (Nat.le_of_ble_eq_true rfl) (Nat.zero_le _) (Nat.zero_le _) dX4_trailing_9 ?_
  exact A_iretE (pc := 12) dX4_trailing_12 rfl (Nat.zero_le _) (Nat.zero_le _) (rfl) (rfl)
/-- the laws of a room: how many, which objects, of which kinds -/
def rm_laws (kd : am_kd) (rv : am_rv) (iv : am_iv) (i nl : Nat) (ln : Nat → am_N) (lk : Nat → Nat) : Prop := iv (2, i, 0) 4 = nI nl ∧ nl ≤ 6 ∧ ∀ j, j < nl → rv (7, i, 0) j = some (ln j) ∧ lk j < 7 ∧ kd (ln j) = some (.inl (lw_ci (lk j))) ∧ (ln j).1 = 22
theorem nI_idx {x : Int32} {n : Nat} (h0 : 0 ≤ x) (h : x < nI n) (hn : n < 2 ^ 31) : ∃ j, j < n ∧ x = nI j := by
  refine vp_in_of ?_ hn
  rw [vp_in_iff]
  simp only [fa_lt, fa_le] at h0 h
  rw [nI_toInt hn] at h
  exact ⟨by simpa using h0, h⟩
set_option maxRecDepth 20000 in
theorem s_hasLaw (l : Launch) {kd : am_kd} {rv : am_rv} {iv : am_iv} (hS : sh kd rv) (i : Nat) (hi : i < 4) (nl : Nat) (ln : Nat → am_N) (lk : Nat → Nat) (hl : rm_laws kd rv iv i nl ln lk) (x : Int32) : am_Met l mX4_hasLaw (am_rm 0 0 0) [am_P (2, i, 0), am_I x] kd rv iv (am_ret (some (am_I (sr_b (0 ≤ x ∧ x < nI nl)))) kd rv iv) := by
  refine am_Met.of (by decide) (Nat.le_of_ble_eq_true rfl) rfl ?_
  refine A_iload_n (pc := 0) (i := 1) dX4_hasLaw_0 rfl rfl ?_
  refine A_iflt (pc := 1) 25 dX4_hasLaw_1 (by decide) (fun hb1 => ?_) (fun hb1 => ?_)
  · refine A_iconst (pc := 25) (0) dX4_hasLaw_25 (by decide) ?_
    exact A_zretE (pc := 26) dX4_hasLaw_26 rfl (by first | exact A_zn0 | exact A_zn1 | exact A_znif _) (Nat.zero_le _) (Nat.zero_le _) (by (try simp only [sr_b]); (repeat' split) <;> first | rfl | (exfalso; simp only [fa_lt, fa_le] at *; omega) | (exfalso; simp [fa_lt, fa_le, fa_eq] at *; omega) | (simp_all; done)) (rfl)
  · refine A_iload_n (pc := 4) (i := 1) dX4_hasLaw_4 rfl rfl ?_
    refine A_aload_n (pc := 5) (i := 0) dX4_hasLaw_5 rfl rfl ?_
    refine A_geti (pc := 6) 4 fl_X4_61_4 (hS.k2 hi) rfl dX4_hasLaw_6 ?_
    refine A_top hl.1 ?_
    refine A_icmpge (pc := 9) 25 dX4_hasLaw_9 (by decide) (fun hb9 => ?_) (fun hb9 => ?_)
    · refine A_iconst (pc := 25) (0) dX4_hasLaw_25 (by decide) ?_
      exact A_zretE (pc := 26) dX4_hasLaw_26 rfl (by first | exact A_zn0 | exact A_zn1 | exact A_znif _) (Nat.zero_le _) (Nat.zero_le _) (by (try simp only [sr_b]); (repeat' split) <;> first | rfl | (exfalso; simp only [fa_lt, fa_le] at *; omega) | (exfalso; simp [fa_lt, fa_le, fa_eq] at *; omega) | (simp_all; done)) (rfl)
    · obtain ⟨j, hj, ej⟩ := nI_idx (Int32.not_lt.mp hb1) (Int32.not_le.mp hb9) (by have := hl.2.1; omega)
      have hj6 : j < 6 := by have := hl.2.1; omega
      refine A_aload_n (pc := 12) (i := 0) dX4_hasLaw_12 rfl rfl ?_
      refine A_getr (pc := 13) 3 fl_X4_25_4 (hS.k2 hi) rfl (hS.w2_3 hi) dX4_hasLaw_13 ?_
      refine A_iload_n (pc := 16) (i := 1) dX4_hasLaw_16 rfl rfl ?_
      refine A_top ej ?_
      refine A_aaldN (pc := 17) (hS.k7 hi) (by decide) (by decide) hj6 (by decide) (hl.2.2 j hj).1 dX4_hasLaw_17 ?_
      refine A_ifnullP (pc := 18) dX4_hasLaw_18 ?_
      refine A_iconst (pc := 21) (1) dX4_hasLaw_21 (by decide) ?_
      refine A_goto (pc := 22) 26 dX4_hasLaw_22 (by decide) ?_
      exact A_zretE (pc := 26) dX4_hasLaw_26 rfl (by first | exact A_zn0 | exact A_zn1 | exact A_znif _) (Nat.zero_le _) (Nat.zero_le _) (by (try simp only [sr_b]); (repeat' split) <;> first | rfl | (exfalso; simp only [fa_lt, fa_le] at *; omega) | (exfalso; simp [fa_lt, fa_le, fa_eq] at *; omega) | (simp_all; done)) (rfl)
set_option maxRecDepth 20000 in
theorem s_lawOn (l : Launch) {kd : am_kd} {rv : am_rv} {iv : am_iv} (hS : sh kd rv) (i : Nat) (hi : i < 4) (nl : Nat) (ln : Nat → am_N) (lk : Nat → Nat) (hl : rm_laws kd rv iv i nl ln lk) (j : Nat) (hj : j < nl) : am_Met l mX4_lawOn (am_rm 1 0 0) [am_P (2, i, 0), am_I (nI j)] kd rv iv (am_ret (some (@ite _ (rm_on (iv (2, i, 0) 5) (nI j)) (Classical.propDecidable _) (am_P (ln j)) am_0)) kd rv iv) := by
  refine am_Met.of (by decide) (Nat.le_of_ble_eq_true rfl) rfl ?_
  have hj6 : j < 6 := by have := hl.2.1; omega
  refine A_aload_n (pc := 0) (i := 0) dX4_lawOn_0 rfl rfl ?_
  refine A_iload_n (pc := 1) (i := 1) dX4_lawOn_1 rfl rfl ?_
  refine A_callV1 (pc := 2) cv_X4_83 (s_isOn l hS i hi _) (hS.k2 hi) rfl rfl rfl rfl (Nat.le_of_ble_eq_true rfl) ⟨(Nat.le_of_ble_eq_true rfl), (Nat.le_of_ble_eq_true rfl)⟩ ⟨Nat.zero_le _, Nat.zero_le _⟩ dX4_lawOn_2 ?_
  refine A_ifeq (pc := 5) 17 dX4_lawOn_5 (by decide) (fun hb5 => ?_) (fun hb5 => ?_)
  · refine A_null (pc := 17) dX4_lawOn_17 ?_
    refine A_aret (o := none) (pc := 18) dX4_lawOn_18 rfl (Nat.zero_le _) (Nat.zero_le _) ⟨?_, rfl, rfl, rfl⟩
    rw [rg_bit_0] at hb5
    simp [hb5, am_rf]
  · refine A_aload_n (pc := 8) (i := 0) dX4_lawOn_8 rfl rfl ?_
    refine A_getr (pc := 9) 3 fl_X4_25_4 (hS.k2 hi) rfl (hS.w2_3 hi) dX4_lawOn_9 ?_
    refine A_iload_n (pc := 12) (i := 1) dX4_lawOn_12 rfl rfl ?_
    refine A_aaldN (pc := 13) (hS.k7 hi) (by decide) (by decide) hj6 (by decide) (hl.2.2 j hj).1 dX4_lawOn_13 ?_
    refine A_goto (pc := 14) 18 dX4_lawOn_14 (by decide) ?_
    refine A_aret (o := some (ln j)) (pc := 18) dX4_lawOn_18 rfl (Nat.zero_le _) (Nat.zero_le _) ⟨?_, rfl, rfl, rfl⟩
    rw [rg_bit_0] at hb5
    simp [hb5, am_rf]
set_option maxRecDepth 20000 in
theorem s_addRing (l : Launch) {kd : am_kd} {rv : am_rv} {iv : am_iv} (hS : sh kd rv) (i : Nat) (hi : i < 4) (n : Nat) (hn : iv (2, i, 0) 1 = nI n) (hn7 : n < 8) (x y w t wd tk : Int32) : am_Met l mX4_addRing (am_rm 1 0 0) [am_P (2, i, 0), am_I x, am_I y, am_I w, am_I t, am_I wd, am_I tk] kd rv iv (am_ret (some (am_I (nI n))) kd rv (am_ui (rm_ring (4, i, n) x y w t wd tk iv) (2, i, 0) 1 (nI (n + 1)))) := by
  refine am_Met.of (by decide) (Nat.le_of_ble_eq_true rfl) rfl ?_
  refine A_aload_n (pc := 0) (i := 0) dX4_addRing_0 rfl rfl ?_
  refine A_geti (pc := 1) 1 fl_X4_77_4 (hS.k2 hi) rfl dX4_addRing_1 ?_
  refine A_bipush (pc := 4) (7) dX4_addRing_4 (by decide) ?_
  refine A_mmin (pc := 6) cm_X4_87 (Nat.le_of_ble_eq_true rfl) (Nat.le_of_ble_eq_true rfl) (Nat.zero_le _) (Nat.zero_le _) dX4_addRing_6 ?_
  refine A_top (y := nI n) (by rw [hn, if_neg]; rw [fa_lt, nI_toInt (by omega)]; simp; omega) ?_
  refine A_ist7 (pc := 9) dX4_addRing_9 (Nat.le_of_ble_eq_true rfl) rfl ?_
  refine A_aload_n (pc := 11) (i := 0) dX4_addRing_11 rfl rfl ?_
  refine A_getr (pc := 12) 0 fl_X4_11_4 (hS.k2 hi) rfl (hS.w2_0 hi) dX4_addRing_12 ?_
  refine A_iload (pc := 15) (i := 7) dX4_addRing_15 rfl ?_
  refine A_aaldN (pc := 17) (hS.k3 hi) (by decide) (by decide) hn7 (by decide) (hS.w3 hi hn7) dX4_addRing_17 ?_
  refine A_ast8 (pc := 18) dX4_addRing_18 (Nat.le_of_ble_eq_true rfl) rfl ?_
  refine A_aload (pc := 20) (i := 8) dX4_addRing_20 rfl ?_
  refine A_iload_n (pc := 22) (i := 1) dX4_addRing_22 rfl rfl ?_
  refine A_puti (pc := 23) 1 fl_X4_93_3 (hS.k4 hi hn7) rfl (by decide +kernel) rfl rfl dX4_addRing_23 ?_
  refine A_aload (pc := 26) (i := 8) dX4_addRing_26 rfl ?_
  refine A_iload_n (pc := 28) (i := 2) dX4_addRing_28 rfl rfl ?_
  refine A_puti (pc := 29) 2 fl_X4_96_3 (hS.k4 hi hn7) rfl (by decide +kernel) rfl rfl dX4_addRing_29 ?_
  refine A_aload (pc := 32) (i := 8) dX4_addRing_32 rfl ?_
  refine A_iload_n (pc := 34) (i := 3) dX4_addRing_34 rfl rfl ?_
  refine A_puti (pc := 35) 3 fl_X4_99_3 (hS.k4 hi hn7) rfl (by decide +kernel) rfl rfl dX4_addRing_35 ?_
  refine A_aload (pc := 38) (i := 8) dX4_addRing_38 rfl ?_
  refine A_iload (pc := 40) (i := 4) dX4_addRing_40 rfl ?_
  refine A_puti (pc := 42) 4 fl_X4_102_3 (hS.k4 hi hn7) rfl (by decide +kernel) rfl rfl dX4_addRing_42 ?_
  refine A_aload (pc := 45) (i := 8) dX4_addRing_45 rfl ?_
  refine A_iload (pc := 47) (i := 5) dX4_addRing_47 rfl ?_
  refine A_puti (pc := 49) 5 fl_X4_105_3 (hS.k4 hi hn7) rfl (by decide +kernel) rfl rfl dX4_addRing_49 ?_
  refine A_aload (pc := 52) (i := 8) dX4_addRing_52 rfl ?_
  refine A_iload (pc := 54) (i := 6) dX4_addRing_54 rfl ?_
  refine A_puti (pc := 56) 6 fl_X4_108_3 (hS.k4 hi hn7) rfl (by decide +kernel) rfl rfl dX4_addRing_56 ?_
  refine A_aload (pc := 59) (i := 8) dX4_addRing_59 rfl ?_
  refine A_iconst (pc := 61) (1) dX4_addRing_61 (by decide) ?_
  refine A_puti (pc := 62) 7 fl_X4_111_3 (hS.k4 hi hn7) rfl (by decide +kernel) A_zn1 rfl dX4_addRing_62 ?_
  refine A_aload_n (pc := 65) (i := 0) dX4_addRing_65 rfl rfl ?_
  refine A_iload (pc := 66) (i := 7) dX4_addRing_66 rfl ?_
  refine A_iconst (pc := 68) (1) dX4_addRing_68 (by decide) ?_
  refine A_iadd (pc := 69) dX4_addRing_69 ?_
  refine A_top (nI_1 n) ?_
  refine A_puti (pc := 70) 1 fl_X4_77_4 (hS.k2 hi) rfl (by decide +kernel) rfl rfl dX4_addRing_70 ?_
  refine A_iload (pc := 73) (i := 7) dX4_addRing_73 rfl ?_
  exact A_iretE (pc := 75) dX4_addRing_75 rfl (Nat.zero_le _) (Nat.zero_le _) (rfl) (rfl)
def rg_other (f g : Nat → Int32) : Prop := ¬ g 7 = 0 ∧ ¬ g 0 = f 0
set_option maxRecDepth 20000 in
theorem s_isOther (l : Launch) {kd : am_kd} {rv : am_rv} {iv : am_iv} (f g : am_N) (hf : kd f = some (.inl 3)) (hg : kd g = some (.inl 3)) : am_Met l mX4_isOther (am_rm 0 0 0) [am_P f, am_P g] kd rv iv (am_ret (some (am_I (rg_bit (rg_other (iv f) (iv g))))) kd rv iv) := by
  refine am_Met.of (by decide) (Nat.le_of_ble_eq_true rfl) rfl ?_
  refine A_aload_n (pc := 0) (i := 1) dX4_isOther_0 rfl rfl ?_
  refine A_geti (pc := 1) 7 fl_X4_111_3 hg rfl dX4_isOther_1 ?_
  refine A_ifeq (pc := 4) 22 dX4_isOther_4 (by decide) (fun hb4 => ?_) (fun hb4 => ?_)
  · refine A_iconst (pc := 22) (0) dX4_isOther_22 (by decide) ?_
    exact A_zretE (pc := 23) dX4_isOther_23 rfl (by first | exact A_zn0 | exact A_zn1 | exact A_znif _) (Nat.zero_le _) (Nat.zero_le _) (by first | (refine (rg_bit_t ?_).symm; simp_all [rg_other]; done) | (refine (rg_bit_f ?_).symm; simp_all [rg_other]; done)) (rfl)
  · refine A_aload_n (pc := 7) (i := 1) dX4_isOther_7 rfl rfl ?_
    refine A_geti (pc := 8) 0 fl_X4_184_3 hg rfl dX4_isOther_8 ?_
    refine A_aload_n (pc := 11) (i := 0) dX4_isOther_11 rfl rfl ?_
    refine A_geti (pc := 12) 0 fl_X4_184_3 hf rfl dX4_isOther_12 ?_
    refine A_icmpeq (pc := 15) 22 dX4_isOther_15 (by decide) (fun hb15 => ?_) (fun hb15 => ?_)
    · refine A_iconst (pc := 22) (0) dX4_isOther_22 (by decide) ?_
      exact A_zretE (pc := 23) dX4_isOther_23 rfl (by first | exact A_zn0 | exact A_zn1 | exact A_znif _) (Nat.zero_le _) (Nat.zero_le _) (by first | (refine (rg_bit_t ?_).symm; simp_all [rg_other]; done) | (refine (rg_bit_f ?_).symm; simp_all [rg_other]; done)) (rfl)
    · refine A_iconst (pc := 18) (1) dX4_isOther_18 (by decide) ?_
      refine A_goto (pc := 19) 23 dX4_isOther_19 (by decide) ?_
      exact A_zretE (pc := 23) dX4_isOther_23 rfl (by first | exact A_zn0 | exact A_zn1 | exact A_znif _) (Nat.zero_le _) (Nat.zero_le _) (by first | (refine (rg_bit_t ?_).symm; simp_all [rg_other]; done) | (refine (rg_bit_f ?_).symm; simp_all [rg_other]; done)) (rfl)
def rm_settle (n : am_N) (w : Int32) (iv : am_iv) : am_iv := if iv n 4 = 0 then am_ui iv n 7 0 else if iv n 3 = 1 ∧ w < iv n 1 then am_ui iv n 1 w else iv
set_option maxRecDepth 20000 in
theorem s_settle (l : Launch) {kd : am_kd} {rv : am_rv} {iv : am_iv} (hS : sh kd rv) (i : Nat) (hi : i < 4) (f : am_N) (hf : kd f = some (.inl 3)) : am_Met l mX4_settle (am_rm 0 0 0) [am_P (2, i, 0), am_P f] kd rv iv (am_ret none kd rv (rm_settle f (iv (2, i, 0) 6) iv)) := by
  refine am_Met.of (by decide) (Nat.le_of_ble_eq_true rfl) rfl ?_
  refine A_aload_n (pc := 0) (i := 1) dX4_settle_0 rfl rfl ?_
  refine A_geti (pc := 1) 4 fl_X4_102_3 hf rfl dX4_settle_1 ?_
  refine A_ifne (pc := 4) 15 dX4_settle_4 (by decide) (fun hb4 => ?_) (fun hb4 => ?_)
  · refine A_aload_n (pc := 15) (i := 1) dX4_settle_15 rfl rfl ?_
    refine A_geti (pc := 16) 3 fl_X4_99_3 hf rfl dX4_settle_16 ?_
    refine A_iconst (pc := 19) (1) dX4_settle_19 (by decide) ?_
    refine A_icmpne (pc := 20) 42 dX4_settle_20 (by decide) (fun hb20 => ?_) (fun hb20 => ?_)
    · exact A_vretE (pc := 42) dX4_settle_42 rfl (Nat.zero_le _) (Nat.zero_le _) (by simp only [rm_settle]; (repeat' split) <;> first | rfl | (exfalso; simp_all [fa_lt, fa_le]; done) | (exfalso; simp_all [fa_lt, fa_le]; omega))
    · refine A_aload_n (pc := 23) (i := 1) dX4_settle_23 rfl rfl ?_
      refine A_geti (pc := 24) 1 fl_X4_93_3 hf rfl dX4_settle_24 ?_
      refine A_aload_n (pc := 27) (i := 0) dX4_settle_27 rfl rfl ?_
      refine A_geti (pc := 28) 6 fl_X4_30_4 (hS.k2 hi) rfl dX4_settle_28 ?_
      refine A_icmple (pc := 31) 42 dX4_settle_31 (by decide) (fun hb31 => ?_) (fun hb31 => ?_)
      · exact A_vretE (pc := 42) dX4_settle_42 rfl (Nat.zero_le _) (Nat.zero_le _) (by simp only [rm_settle]; (repeat' split) <;> first | rfl | (exfalso; simp_all [fa_lt, fa_le]; done) | (exfalso; simp_all [fa_lt, fa_le]; omega))
      · refine A_aload_n (pc := 34) (i := 1) dX4_settle_34 rfl rfl ?_
        refine A_aload_n (pc := 35) (i := 0) dX4_settle_35 rfl rfl ?_
        refine A_geti (pc := 36) 6 fl_X4_30_4 (hS.k2 hi) rfl dX4_settle_36 ?_
        refine A_puti (pc := 39) 1 fl_X4_93_3 hf rfl (by decide +kernel) rfl rfl dX4_settle_39 ?_
        exact A_vretE (pc := 42) dX4_settle_42 rfl (Nat.zero_le _) (Nat.zero_le _) (by simp only [rm_settle]; (repeat' split) <;> first | rfl | (exfalso; simp_all [fa_lt, fa_le]; done) | (exfalso; simp_all [fa_lt, fa_le]; omega))
  · refine A_aload_n (pc := 7) (i := 1) dX4_settle_7 rfl rfl ?_
    refine A_iconst (pc := 8) (0) dX4_settle_8 (by decide) ?_
    refine A_puti (pc := 9) 7 fl_X4_111_3 hf rfl (by decide +kernel) A_zn0 rfl dX4_settle_9 ?_
    refine A_goto (pc := 12) 42 dX4_settle_12 (by decide) ?_
    exact A_vretE (pc := 42) dX4_settle_42 rfl (Nat.zero_le _) (Nat.zero_le _) (by simp only [rm_settle]; (repeat' split) <;> first | rfl | (exfalso; simp_all [fa_lt, fa_le]; done) | (exfalso; simp_all [fa_lt, fa_le]; omega))
/-- FRONT of the first j rings, or -1 -/
def rm_front (F : Nat → Nat → Int32) : Nat → Int32
  | 0 => -1
  | j + 1 => if ¬ F j 7 = 0 ∧ (rm_front F j < 0 ∨ F (rm_front F j).toNatClampNeg 1 < F j 1) then nI j else rm_front F j
def rm_count (F : Nat → Nat → Int32) : Nat → Int32
  | 0 => 0
  | j + 1 => rm_count F j + (if F j 7 = 0 then 0 else 1)
theorem rm_front_in (F : Nat → Nat → Int32) (j : Nat) : rm_front F j = -1 ∨ ∃ q, q < j ∧ rm_front F j = nI q := by
  induction j with
  | zero => exact Or.inl rfl
  | succ j ih =>
    unfold rm_front
    split
    · exact Or.inr ⟨j, Nat.lt_succ_self j, rfl⟩
    · rcases ih with h | ⟨q, h1, h2⟩
      · exact Or.inl h
      · exact Or.inr ⟨q, Nat.lt_succ_of_lt h1, h2⟩
set_option maxRecDepth 20000 in
theorem s_wholeCount (l : Launch) {kd : am_kd} {rv : am_rv} {iv : am_iv} (hS : sh kd rv) (i : Nat) (hi : i < 4) (n : Nat) (hn : iv (2, i, 0) 1 = nI n) (hn8 : n ≤ 8) : am_Met l mX4_wholeCount (am_rm 1 0 0) [am_P (2, i, 0)] kd rv iv (am_ret (some (am_I (rm_count (fun r => iv (4, i, r)) n))) kd rv iv) := by
  refine am_Met.of (by decide) (Nat.le_of_ble_eq_true rfl) rfl ?_
  have loop := am_for (fun j => am_W l mX4_wholeCount (am_rm 1 0 0) (am_ret (some (am_I (rm_count (fun r => iv (4, i, r)) n))) kd rv iv) 4 [some (am_P (2, i, 0)), some (am_I (rm_count (fun r => iv (4, i, r)) j)), some (am_I (nI j))] [] kd rv iv 0 0) n ?_ (fun j hj ih => ?_) 0 (Nat.zero_le n)
  · refine A_iconst (pc := 0) (0) dX4_wholeCount_0 (by decide) ?_
    refine A_ist1 (pc := 1) dX4_wholeCount_1 (Nat.le_of_ble_eq_true rfl) rfl ?_
    refine A_iconst (pc := 2) (0) dX4_wholeCount_2 (by decide) ?_
    refine A_ist2 (pc := 3) dX4_wholeCount_3 (Nat.le_of_ble_eq_true rfl) rfl ?_
    exact loop
  · refine A_iload_n (pc := 4) (i := 2) dX4_wholeCount_4 rfl rfl ?_
    refine A_aload_n (pc := 5) (i := 0) dX4_wholeCount_5 rfl rfl ?_
    refine A_geti (pc := 6) 1 fl_X4_77_4 (hS.k2 hi) rfl dX4_wholeCount_6 ?_
    refine A_top hn ?_
    refine A_icmpge (pc := 9) 33 dX4_wholeCount_9 (by decide) (fun hb9 => ?_) (fun hb9 => ?_)
    · refine A_iload_n (pc := 33) (i := 1) dX4_wholeCount_33 rfl rfl ?_
      exact A_iretE (pc := 34) dX4_wholeCount_34 rfl (Nat.zero_le _) (Nat.zero_le _) (rfl) (rfl)
    · exact absurd (nI_le (Nat.le_refl n) (by omega)) hb9
  · refine A_iload_n (pc := 4) (i := 2) dX4_wholeCount_4 rfl rfl ?_
    refine A_aload_n (pc := 5) (i := 0) dX4_wholeCount_5 rfl rfl ?_
    refine A_geti (pc := 6) 1 fl_X4_77_4 (hS.k2 hi) rfl dX4_wholeCount_6 ?_
    refine A_top hn ?_
    refine A_icmpge (pc := 9) 33 dX4_wholeCount_9 (by decide) (fun hb9 => ?_) (fun hb9 => ?_)
    · exact absurd hb9 (nI_ge hj (by omega))
    · refine A_iload_n (pc := 12) (i := 1) dX4_wholeCount_12 rfl rfl ?_
      refine A_aload_n (pc := 13) (i := 0) dX4_wholeCount_13 rfl rfl ?_
      refine A_getr (pc := 14) 0 fl_X4_11_4 (hS.k2 hi) rfl (hS.w2_0 hi) dX4_wholeCount_14 ?_
      refine A_iload_n (pc := 17) (i := 2) dX4_wholeCount_17 rfl rfl ?_
      refine A_aaldN (pc := 18) (hS.k3 hi) (by decide) (by decide) (show j < 8 by omega) (by decide) (hS.w3 hi (show j < 8 by omega)) dX4_wholeCount_18 ?_
      refine A_geti (pc := 19) 7 fl_X4_111_3 (hS.k4 hi (show j < 8 by omega)) rfl dX4_wholeCount_19 ?_
      refine A_callN1 (pc := 22) cn_X4_136 (s_asBit l _) rfl rfl (Nat.le_of_ble_eq_true rfl) ⟨(Nat.le_of_ble_eq_true rfl), (Nat.le_of_ble_eq_true rfl)⟩ ⟨Nat.zero_le _, Nat.zero_le _⟩ dX4_wholeCount_22 ?_
      refine A_iadd (pc := 25) dX4_wholeCount_25 ?_
      refine A_ist1 (pc := 26) dX4_wholeCount_26 (Nat.le_of_ble_eq_true rfl) rfl ?_
      refine A_inc2 (pc := 27) (nI (j + 1)) dX4_wholeCount_27 (nI_1 j) (Nat.le_of_ble_eq_true rfl) rfl ?_
      refine A_goto (pc := 30) 4 dX4_wholeCount_30 (by decide) ?_
      exact ih
set_option maxRecDepth 20000 in
theorem s_foremost (l : Launch) {kd : am_kd} {rv : am_rv} {iv : am_iv} (hS : sh kd rv) (i : Nat) (hi : i < 4) (n : Nat) (hn : iv (2, i, 0) 1 = nI n) (hn8 : n ≤ 8) : am_Met l mX4_foremost (am_rm 0 0 0) [am_P (2, i, 0)] kd rv iv (am_ret (some (am_I (rm_front (fun r => iv (4, i, r)) n))) kd rv iv) := by
  refine am_Met.of (by decide) (Nat.le_of_ble_eq_true rfl) rfl ?_
  have loop := am_for (fun j => am_W l mX4_foremost (am_rm 0 0 0) (am_ret (some (am_I (rm_front (fun r => iv (4, i, r)) n))) kd rv iv) 4 [some (am_P (2, i, 0)), some (am_I (rm_front (fun r => iv (4, i, r)) j)), some (am_I (nI j))] [] kd rv iv 0 0) n ?_ (fun j hj ih => ?_) 0 (Nat.zero_le n)
  · refine A_iconst (pc := 0) (-1) dX4_foremost_0 (by decide) ?_
    refine A_ist1 (pc := 1) dX4_foremost_1 (Nat.le_of_ble_eq_true rfl) rfl ?_
    refine A_iconst (pc := 2) (0) dX4_foremost_2 (by decide) ?_
    refine A_ist2 (pc := 3) dX4_foremost_3 (Nat.le_of_ble_eq_true rfl) rfl ?_
    exact loop
  · refine A_iload_n (pc := 4) (i := 2) dX4_foremost_4 rfl rfl ?_
    refine A_aload_n (pc := 5) (i := 0) dX4_foremost_5 rfl rfl ?_
    refine A_geti (pc := 6) 1 fl_X4_77_4 (hS.k2 hi) rfl dX4_foremost_6 ?_
    refine A_top hn ?_
    refine A_icmpge (pc := 9) 57 dX4_foremost_9 (by decide) (fun hb9 => ?_) (fun hb9 => ?_)
    · refine A_iload_n (pc := 57) (i := 1) dX4_foremost_57 rfl rfl ?_
      exact A_iretE (pc := 58) dX4_foremost_58 rfl (Nat.zero_le _) (Nat.zero_le _) (rfl) (rfl)
    · exact absurd (nI_le (Nat.le_refl n) (by omega)) hb9
  · refine A_iload_n (pc := 4) (i := 2) dX4_foremost_4 rfl rfl ?_
    refine A_aload_n (pc := 5) (i := 0) dX4_foremost_5 rfl rfl ?_
    refine A_geti (pc := 6) 1 fl_X4_77_4 (hS.k2 hi) rfl dX4_foremost_6 ?_
    refine A_top hn ?_
    refine A_icmpge (pc := 9) 57 dX4_foremost_9 (by decide) (fun hb9 => ?_) (fun hb9 => ?_)
    · exact absurd hb9 (nI_ge hj (by omega))
    · refine A_aload_n (pc := 12) (i := 0) dX4_foremost_12 rfl rfl ?_
      refine A_getr (pc := 13) 0 fl_X4_11_4 (hS.k2 hi) rfl (hS.w2_0 hi) dX4_foremost_13 ?_
      refine A_iload_n (pc := 16) (i := 2) dX4_foremost_16 rfl rfl ?_
      refine A_aaldN (pc := 17) (hS.k3 hi) (by decide) (by decide) (show j < 8 by omega) (by decide) (hS.w3 hi (show j < 8 by omega)) dX4_foremost_17 ?_
      refine A_geti (pc := 18) 7 fl_X4_111_3 (hS.k4 hi (show j < 8 by omega)) rfl dX4_foremost_18 ?_
      refine A_ifeq (pc := 21) 51 dX4_foremost_21 (by decide) (fun hb21 => ?_) (fun hb21 => ?_)
      · refine A_inc2 (pc := 51) (nI (j + 1)) dX4_foremost_51 (nI_1 j) (Nat.le_of_ble_eq_true rfl) rfl ?_
        refine A_goto (pc := 54) 4 dX4_foremost_54 (by decide) ?_
        rw [rm_front, if_neg (fun h => h.1 hb21)] at ih
        exact ih
      · refine A_iload_n (pc := 24) (i := 1) dX4_foremost_24 rfl rfl ?_
        refine A_iflt (pc := 25) 49 dX4_foremost_25 (by decide) (fun hb25 => ?_) (fun hb25 => ?_)
        · refine A_iload_n (pc := 49) (i := 2) dX4_foremost_49 rfl rfl ?_
          refine A_ist1 (pc := 50) dX4_foremost_50 (Nat.le_of_ble_eq_true rfl) rfl ?_
          refine A_inc2 (pc := 51) (nI (j + 1)) dX4_foremost_51 (nI_1 j) (Nat.le_of_ble_eq_true rfl) rfl ?_
          refine A_goto (pc := 54) 4 dX4_foremost_54 (by decide) ?_
          rw [rm_front, if_pos ⟨hb21, Or.inl hb25⟩] at ih
          exact ih
        · obtain ⟨q, hq, eq⟩ : ∃ q, q < j ∧ rm_front (fun r => iv (4, i, r)) j = nI q := by
            rcases rm_front_in (fun r => iv (4, i, r)) j with h | h
            · rw [h] at hb25; exact absurd (by decide) hb25
            · exact h
          refine A_aload_n (pc := 28) (i := 0) dX4_foremost_28 rfl rfl ?_
          refine A_getr (pc := 29) 0 fl_X4_11_4 (hS.k2 hi) rfl (hS.w2_0 hi) dX4_foremost_29 ?_
          refine A_iload_n (pc := 32) (i := 2) dX4_foremost_32 rfl rfl ?_
          refine A_aaldN (pc := 33) (hS.k3 hi) (by decide) (by decide) (show j < 8 by omega) (by decide) (hS.w3 hi (show j < 8 by omega)) dX4_foremost_33 ?_
          refine A_geti (pc := 34) 1 fl_X4_93_3 (hS.k4 hi (show j < 8 by omega)) rfl dX4_foremost_34 ?_
          refine A_aload_n (pc := 37) (i := 0) dX4_foremost_37 rfl rfl ?_
          refine A_getr (pc := 38) 0 fl_X4_11_4 (hS.k2 hi) rfl (hS.w2_0 hi) dX4_foremost_38 ?_
          refine A_iload_n (pc := 41) (i := 1) dX4_foremost_41 rfl rfl ?_
          refine A_top eq ?_
          refine A_aaldN (pc := 42) (hS.k3 hi) (by decide) (by decide) (show q < 8 by omega) (by decide) (hS.w3 hi (show q < 8 by omega)) dX4_foremost_42 ?_
          refine A_geti (pc := 43) 1 fl_X4_93_3 (hS.k4 hi (show q < 8 by omega)) rfl dX4_foremost_43 ?_
          refine A_icmple (pc := 46) 51 dX4_foremost_46 (by decide) (fun hb46 => ?_) (fun hb46 => ?_)
          · refine A_inc2 (pc := 51) (nI (j + 1)) dX4_foremost_51 (nI_1 j) (Nat.le_of_ble_eq_true rfl) rfl ?_
            refine A_goto (pc := 54) 4 dX4_foremost_54 (by decide) ?_
            rw [rm_front, if_neg (fun h => h.2.elim hb25 (fun h2 => by rw [eq, nI_clamp (by omega)] at h2; exact absurd h2 (Int32.not_lt.mpr hb46)))] at ih
            exact ih
          · refine A_iload_n (pc := 49) (i := 2) dX4_foremost_49 rfl rfl ?_
            refine A_ist1 (pc := 50) dX4_foremost_50 (Nat.le_of_ble_eq_true rfl) rfl ?_
            refine A_inc2 (pc := 51) (nI (j + 1)) dX4_foremost_51 (nI_1 j) (Nat.le_of_ble_eq_true rfl) rfl ?_
            refine A_goto (pc := 54) 4 dX4_foremost_54 (by decide) ?_
            rw [rm_front, if_pos ⟨hb21, Or.inr (by rw [eq, nI_clamp (by omega)]; exact Int32.not_le.mp hb46)⟩] at ih
            exact ih
