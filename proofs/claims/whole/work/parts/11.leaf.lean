/-! helpers -/
def sr_b (c : Prop) [Decidable c] : Int32 := if c then 1 else 0
def sr_held (v a b : Int32) : Int32 := if v < a then a else if b < v then b else v
def sr_q (a b : Int32) : Int32 := if b = 0 then 0 else a / b
def sr_abs (a : Int32) : Int32 := if 0 ≤ a then a else 0 - a
theorem am_ui_o {iv : am_iv} {n n' : am_N} {k k' : Nat} {v : Int32} (h : n' ≠ n) : am_ui iv n k v n' k' = iv n' k' := by simp [am_ui, h]
theorem A_zb {v : Int32} (h : v = 0 ∨ v = 1) : narrow .boolean (.int v) = .int v ∧ fits .boolean (.int v) = true := by
  rcases h with h | h <;> subst h <;> decide +kernel
set_option maxRecDepth 20000 in
theorem s_isHeld (l : Launch) {kd : am_kd} {rv : am_rv} {iv : am_iv} (v a b : Int32) : am_Met l mX11_isHeld (am_rm 0 0 0) [am_I v, am_I a, am_I b] kd rv iv (am_ret (some (am_I (sr_b (a ≤ v ∧ v ≤ b)))) kd rv iv) := by
  refine am_Met.of (by decide) (Nat.le_of_ble_eq_true rfl) rfl ?_
  refine A_iload_n (pc := 0) (i := 0) dX11_isHeld_0 rfl rfl ?_
  refine A_iload_n (pc := 1) (i := 1) dX11_isHeld_1 rfl rfl ?_
  refine A_icmplt (pc := 2) 14 dX11_isHeld_2 (by decide) (fun hb2 => ?_) (fun hb2 => ?_)
  · refine A_iconst (pc := 14) (0) dX11_isHeld_14 (by decide) ?_
    exact A_zretE (pc := 15) dX11_isHeld_15 rfl (by first | exact A_zn0 | exact A_zn1 | exact A_znif _) (Nat.zero_le _) (Nat.zero_le _) (by (try simp only [sr_b, sr_held, sr_q, sr_abs]); (repeat' split) <;> first | rfl | (exfalso; simp only [fa_lt, fa_le] at *; omega) | (exfalso; simp [fa_lt, fa_le, fa_eq] at *; omega) | (simp_all; done)) (rfl)
  · refine A_iload_n (pc := 5) (i := 0) dX11_isHeld_5 rfl rfl ?_
    refine A_iload_n (pc := 6) (i := 2) dX11_isHeld_6 rfl rfl ?_
    refine A_icmpgt (pc := 7) 14 dX11_isHeld_7 (by decide) (fun hb7 => ?_) (fun hb7 => ?_)
    · refine A_iconst (pc := 14) (0) dX11_isHeld_14 (by decide) ?_
      exact A_zretE (pc := 15) dX11_isHeld_15 rfl (by first | exact A_zn0 | exact A_zn1 | exact A_znif _) (Nat.zero_le _) (Nat.zero_le _) (by (try simp only [sr_b, sr_held, sr_q, sr_abs]); (repeat' split) <;> first | rfl | (exfalso; simp only [fa_lt, fa_le] at *; omega) | (exfalso; simp [fa_lt, fa_le, fa_eq] at *; omega) | (simp_all; done)) (rfl)
    · refine A_iconst (pc := 10) (1) dX11_isHeld_10 (by decide) ?_
      refine A_goto (pc := 11) 15 dX11_isHeld_11 (by decide) ?_
      exact A_zretE (pc := 15) dX11_isHeld_15 rfl (by first | exact A_zn0 | exact A_zn1 | exact A_znif _) (Nat.zero_le _) (Nat.zero_le _) (by (try simp only [sr_b, sr_held, sr_q, sr_abs]); (repeat' split) <;> first | rfl | (exfalso; simp only [fa_lt, fa_le] at *; omega) | (exfalso; simp [fa_lt, fa_le, fa_eq] at *; omega) | (simp_all; done)) (rfl)
set_option maxRecDepth 20000 in
theorem s_held (l : Launch) {kd : am_kd} {rv : am_rv} {iv : am_iv} (v a b : Int32) : am_Met l mX11_held (am_rm 0 0 0) [am_I v, am_I a, am_I b] kd rv iv (am_ret (some (am_I (sr_held v a b))) kd rv iv) := by
  refine am_Met.of (by decide) (Nat.le_of_ble_eq_true rfl) rfl ?_
  refine A_iload_n (pc := 0) (i := 0) dX11_held_0 rfl rfl ?_
  refine A_iload_n (pc := 1) (i := 1) dX11_held_1 rfl rfl ?_
  refine A_icmpge (pc := 2) 9 dX11_held_2 (by decide) (fun hb2 => ?_) (fun hb2 => ?_)
  · refine A_iload_n (pc := 9) (i := 0) dX11_held_9 rfl rfl ?_
    refine A_iload_n (pc := 10) (i := 2) dX11_held_10 rfl rfl ?_
    refine A_icmple (pc := 11) 18 dX11_held_11 (by decide) (fun hb11 => ?_) (fun hb11 => ?_)
    · refine A_iload_n (pc := 18) (i := 0) dX11_held_18 rfl rfl ?_
      exact A_iretE (pc := 19) dX11_held_19 rfl (Nat.zero_le _) (Nat.zero_le _) (by (try simp only [sr_b, sr_held, sr_q, sr_abs]); (repeat' split) <;> first | rfl | (exfalso; simp only [fa_lt, fa_le] at *; omega) | (exfalso; simp [fa_lt, fa_le, fa_eq] at *; omega) | (simp_all; done)) (rfl)
    · refine A_iload_n (pc := 14) (i := 2) dX11_held_14 rfl rfl ?_
      refine A_goto (pc := 15) 19 dX11_held_15 (by decide) ?_
      exact A_iretE (pc := 19) dX11_held_19 rfl (Nat.zero_le _) (Nat.zero_le _) (by (try simp only [sr_b, sr_held, sr_q, sr_abs]); (repeat' split) <;> first | rfl | (exfalso; simp only [fa_lt, fa_le] at *; omega) | (exfalso; simp [fa_lt, fa_le, fa_eq] at *; omega) | (simp_all; done)) (rfl)
  · refine A_iload_n (pc := 5) (i := 1) dX11_held_5 rfl rfl ?_
    refine A_goto (pc := 6) 19 dX11_held_6 (by decide) ?_
    exact A_iretE (pc := 19) dX11_held_19 rfl (Nat.zero_le _) (Nat.zero_le _) (by (try simp only [sr_b, sr_held, sr_q, sr_abs]); (repeat' split) <;> first | rfl | (exfalso; simp only [fa_lt, fa_le] at *; omega) | (exfalso; simp [fa_lt, fa_le, fa_eq] at *; omega) | (simp_all; done)) (rfl)
set_option maxRecDepth 20000 in
theorem s_asBit (l : Launch) {kd : am_kd} {rv : am_rv} {iv : am_iv} (v : Int32) : am_Met l mX11_asBit (am_rm 0 0 0) [am_I v] kd rv iv (am_ret (some (am_I (if v = 0 then 0 else 1))) kd rv iv) := by
  refine am_Met.of (by decide) (Nat.le_of_ble_eq_true rfl) rfl ?_
  refine A_iload_n (pc := 0) (i := 0) dX11_asBit_0 rfl rfl ?_
  refine A_ifeq (pc := 1) 8 dX11_asBit_1 (by decide) (fun hb1 => ?_) (fun hb1 => ?_)
  · refine A_iconst (pc := 8) (0) dX11_asBit_8 (by decide) ?_
    exact A_iretE (pc := 9) dX11_asBit_9 rfl (Nat.zero_le _) (Nat.zero_le _) (by (try simp only [sr_b, sr_held, sr_q, sr_abs]); (repeat' split) <;> first | rfl | (exfalso; simp only [fa_lt, fa_le] at *; omega) | (exfalso; simp [fa_lt, fa_le, fa_eq] at *; omega) | (simp_all; done)) (rfl)
  · refine A_iconst (pc := 4) (1) dX11_asBit_4 (by decide) ?_
    refine A_goto (pc := 5) 9 dX11_asBit_5 (by decide) ?_
    exact A_iretE (pc := 9) dX11_asBit_9 rfl (Nat.zero_le _) (Nat.zero_le _) (by (try simp only [sr_b, sr_held, sr_q, sr_abs]); (repeat' split) <;> first | rfl | (exfalso; simp only [fa_lt, fa_le] at *; omega) | (exfalso; simp [fa_lt, fa_le, fa_eq] at *; omega) | (simp_all; done)) (rfl)
set_option maxRecDepth 20000 in
theorem s_quotient (l : Launch) {kd : am_kd} {rv : am_rv} {iv : am_iv} (a b : Int32) : am_Met l mX11_quotient (am_rm 0 0 0) [am_I a, am_I b] kd rv iv (am_ret (some (am_I (sr_q a b))) kd rv iv) := by
  refine am_Met.of (by decide) (Nat.le_of_ble_eq_true rfl) rfl ?_
  refine A_iload_n (pc := 0) (i := 1) dX11_quotient_0 rfl rfl ?_
  refine A_ifne (pc := 1) 8 dX11_quotient_1 (by decide) (fun hb1 => ?_) (fun hb1 => ?_)
  · refine A_iload_n (pc := 8) (i := 0) dX11_quotient_8 rfl rfl ?_
    refine A_iload_n (pc := 9) (i := 1) dX11_quotient_9 rfl rfl ?_
    refine A_idiv (pc := 10) dX11_quotient_10 hb1 ?_
    exact A_iretE (pc := 11) dX11_quotient_11 rfl (Nat.zero_le _) (Nat.zero_le _) (by (try simp only [sr_b, sr_held, sr_q, sr_abs]); (repeat' split) <;> first | rfl | (exfalso; simp only [fa_lt, fa_le] at *; omega) | (exfalso; simp [fa_lt, fa_le, fa_eq] at *; omega) | (simp_all; done)) (rfl)
  · refine A_iconst (pc := 4) (0) dX11_quotient_4 (by decide) ?_
    refine A_goto (pc := 5) 11 dX11_quotient_5 (by decide) ?_
    exact A_iretE (pc := 11) dX11_quotient_11 rfl (Nat.zero_le _) (Nat.zero_le _) (by (try simp only [sr_b, sr_held, sr_q, sr_abs]); (repeat' split) <;> first | rfl | (exfalso; simp only [fa_lt, fa_le] at *; omega) | (exfalso; simp [fa_lt, fa_le, fa_eq] at *; omega) | (simp_all; done)) (rfl)
set_option maxRecDepth 20000 in
theorem s_isSheet (l : Launch) {kd : am_kd} {rv : am_rv} {iv : am_iv} (v : Int32) : am_Met l mX11_isSheet (am_rm 1 0 0) [am_I v] kd rv iv (am_ret (some (am_I (sr_b (0 ≤ v ∧ v ≤ 3)))) kd rv iv) := by
  refine am_Met.of (by decide) (Nat.le_of_ble_eq_true rfl) rfl ?_
  refine A_iload_n (pc := 0) (i := 0) dX11_isSheet_0 rfl rfl ?_
  refine A_iconst (pc := 1) (0) dX11_isSheet_1 (by decide) ?_
  refine A_iconst (pc := 2) (3) dX11_isSheet_2 (by decide) ?_
  refine A_callS1 (pc := 3) cs_X11_56 (s_isHeld l v 0 3) rfl rfl (Nat.le_of_ble_eq_true rfl) ⟨(Nat.le_of_ble_eq_true rfl), (Nat.le_of_ble_eq_true rfl)⟩ ⟨Nat.zero_le _, Nat.zero_le _⟩ dX11_isSheet_3 ?_
  exact A_zretE (pc := 6) dX11_isSheet_6 rfl (A_znif _) (Nat.zero_le _) (Nat.zero_le _) (rfl) (rfl)
set_option maxRecDepth 20000 in
theorem s_isAhead (l : Launch) {kd : am_kd} {rv : am_rv} {iv : am_iv} (v : Int32) : am_Met l mX11_isAhead (am_rm 1 0 0) [am_I v] kd rv iv (am_ret (some (am_I (sr_b (0 ≤ v ∧ v ≤ 60)))) kd rv iv) := by
  refine am_Met.of (by decide) (Nat.le_of_ble_eq_true rfl) rfl ?_
  refine A_iload_n (pc := 0) (i := 0) dX11_isAhead_0 rfl rfl ?_
  refine A_iconst (pc := 1) (0) dX11_isAhead_1 (by decide) ?_
  refine A_bipush (pc := 2) (60) dX11_isAhead_2 (by decide) ?_
  refine A_callS1 (pc := 4) cs_X11_56 (s_isHeld l v 0 60) rfl rfl (Nat.le_of_ble_eq_true rfl) ⟨(Nat.le_of_ble_eq_true rfl), (Nat.le_of_ble_eq_true rfl)⟩ ⟨Nat.zero_le _, Nat.zero_le _⟩ dX11_isAhead_4 ?_
  exact A_zretE (pc := 7) dX11_isAhead_7 rfl (A_znif _) (Nat.zero_le _) (Nat.zero_le _) (rfl) (rfl)
/-! Ring: fields 0 number, 1 x, 2 y, 3 way, 4 turning, 5 wide, 6 thick, 7 whole -/
def rg_new (n : am_N) (k : Int32) (iv : am_iv) : am_iv := am_ui (am_ui (am_ui (am_ui iv n 0 k) n 3 1) n 5 1) n 6 1
def rg_cp (d s : am_N) (iv : am_iv) : am_iv := am_ui (am_ui (am_ui (am_ui (am_ui (am_ui (am_ui iv d 1 (iv s 1)) d 2 (iv s 2)) d 3 (iv s 3)) d 4 (iv s 4)) d 5 (iv s 5)) d 6 (iv s 6)) d 7 (iv s 7)
def rg_gap (f g : Nat → Int32) : Int32 := if f 1 < g 1 then g 1 - f 1 else f 1 - g 1
def rg_near (f g : Nat → Int32) : Prop := sr_abs (f 2 - g 2) < f 5 + g 5
def rg_behind (f g : Nat → Int32) : Prop := f 3 = g 3 ∧ if f 1 = g 1 then g 0 < f 0 else 0 < (g 1 - f 1) * f 3
noncomputable def rg_bit (c : Prop) : Int32 := @ite _ c (Classical.propDecidable c) 1 0
theorem rg_bit_t {c : Prop} (h : c) : rg_bit c = 1 := by simp [rg_bit, h]
theorem rg_bit_f {c : Prop} (h : ¬ c) : rg_bit c = 0 := by simp [rg_bit, h]
theorem rg_bit_01 (c : Prop) : rg_bit c = 0 ∨ rg_bit c = 1 := by by_cases h : c <;> simp [rg_bit, h]
theorem rg_bit_z (c : Prop) : narrow .boolean (.int (rg_bit c)) = .int (rg_bit c) := (A_zb (rg_bit_01 c)).1
theorem rg_bit_0 (c : Prop) : rg_bit c = 0 ↔ ¬ c := by by_cases h : c <;> simp [rg_bit, h]
theorem sr_b_0 (c : Prop) [Decidable c] : sr_b c = 0 ↔ ¬ c := by by_cases h : c <;> simp [sr_b, h]
set_option maxRecDepth 20000 in
theorem s_rinit (l : Launch) {kd : am_kd} {rv : am_rv} {iv : am_iv} (n : am_N) (hk : kd n = some (.inl 3)) (k : Int32) : am_Met l mX3_init (am_rm 1 0 0) [am_P n, am_I k] kd rv iv (am_ret none kd rv (rg_new n k iv)) := by
  refine am_Met.of (by decide) (Nat.le_of_ble_eq_true rfl) rfl ?_
  refine A_aload_n (pc := 0) (i := 0) dX3_init_0 rfl rfl ?_
  refine A_objInit (pc := 1) co_X3_1 co_inst co_code (Nat.le_of_ble_eq_true rfl) (Nat.le_of_ble_eq_true rfl) dX3_init_1 ?_
  refine A_aload_n (pc := 4) (i := 0) dX3_init_4 rfl rfl ?_
  refine A_iload_n (pc := 5) (i := 1) dX3_init_5 rfl rfl ?_
  refine A_puti (pc := 6) 0 fl_X3_7_3 hk rfl (by decide +kernel) rfl rfl dX3_init_6 ?_
  refine A_aload_n (pc := 9) (i := 0) dX3_init_9 rfl rfl ?_
  refine A_iconst (pc := 10) (1) dX3_init_10 (by decide) ?_
  refine A_puti (pc := 11) 3 fl_X3_13_3 hk rfl (by decide +kernel) rfl rfl dX3_init_11 ?_
  refine A_aload_n (pc := 14) (i := 0) dX3_init_14 rfl rfl ?_
  refine A_iconst (pc := 15) (1) dX3_init_15 (by decide) ?_
  refine A_puti (pc := 16) 5 fl_X3_16_3 hk rfl (by decide +kernel) rfl rfl dX3_init_16 ?_
  refine A_aload_n (pc := 19) (i := 0) dX3_init_19 rfl rfl ?_
  refine A_iconst (pc := 20) (1) dX3_init_20 (by decide) ?_
  refine A_puti (pc := 21) 6 fl_X3_19_3 hk rfl (by decide +kernel) rfl rfl dX3_init_21 ?_
  exact A_vretE (pc := 24) dX3_init_24 rfl (Nat.zero_le _) (Nat.zero_le _) (rfl)
set_option maxRecDepth 20000 in
theorem s_rbecome (l : Launch) {kd : am_kd} {rv : am_rv} {iv : am_iv} (n o : am_N) (hk : kd n = some (.inl 3)) (hk2 : kd o = some (.inl 3)) (hne : o ≠ n) (hb : iv o 7 = 0 ∨ iv o 7 = 1) : am_Met l mX3_become (am_rm 0 0 0) [am_P n, am_P o] kd rv iv (am_ret none kd rv (rg_cp n o iv)) := by
  refine am_Met.of (by decide) (Nat.le_of_ble_eq_true rfl) rfl ?_
  refine A_aload_n (pc := 0) (i := 0) dX3_become_0 rfl rfl ?_
  refine A_aload_n (pc := 1) (i := 1) dX3_become_1 rfl rfl ?_
  refine A_geti (pc := 2) 1 fl_X3_22_3 hk2 rfl dX3_become_2 ?_
  refine A_puti (pc := 5) 1 fl_X3_22_3 hk rfl (by decide +kernel) rfl rfl dX3_become_5 ?_
  refine A_aload_n (pc := 8) (i := 0) dX3_become_8 rfl rfl ?_
  refine A_aload_n (pc := 9) (i := 1) dX3_become_9 rfl rfl ?_
  refine A_geti (pc := 10) 2 fl_X3_25_3 hk2 rfl dX3_become_10 ?_
  refine A_puti (pc := 13) 2 fl_X3_25_3 hk rfl (by decide +kernel) rfl rfl dX3_become_13 ?_
  refine A_aload_n (pc := 16) (i := 0) dX3_become_16 rfl rfl ?_
  refine A_aload_n (pc := 17) (i := 1) dX3_become_17 rfl rfl ?_
  refine A_geti (pc := 18) 3 fl_X3_13_3 hk2 rfl dX3_become_18 ?_
  refine A_puti (pc := 21) 3 fl_X3_13_3 hk rfl (by decide +kernel) rfl rfl dX3_become_21 ?_
  refine A_aload_n (pc := 24) (i := 0) dX3_become_24 rfl rfl ?_
  refine A_aload_n (pc := 25) (i := 1) dX3_become_25 rfl rfl ?_
  refine A_geti (pc := 26) 4 fl_X3_28_3 hk2 rfl dX3_become_26 ?_
  refine A_puti (pc := 29) 4 fl_X3_28_3 hk rfl (by decide +kernel) rfl rfl dX3_become_29 ?_
  refine A_aload_n (pc := 32) (i := 0) dX3_become_32 rfl rfl ?_
  refine A_aload_n (pc := 33) (i := 1) dX3_become_33 rfl rfl ?_
  refine A_geti (pc := 34) 5 fl_X3_16_3 hk2 rfl dX3_become_34 ?_
  refine A_puti (pc := 37) 5 fl_X3_16_3 hk rfl (by decide +kernel) rfl rfl dX3_become_37 ?_
  refine A_aload_n (pc := 40) (i := 0) dX3_become_40 rfl rfl ?_
  refine A_aload_n (pc := 41) (i := 1) dX3_become_41 rfl rfl ?_
  refine A_geti (pc := 42) 6 fl_X3_19_3 hk2 rfl dX3_become_42 ?_
  refine A_puti (pc := 45) 6 fl_X3_19_3 hk rfl (by decide +kernel) rfl rfl dX3_become_45 ?_
  refine A_aload_n (pc := 48) (i := 0) dX3_become_48 rfl rfl ?_
  refine A_aload_n (pc := 49) (i := 1) dX3_become_49 rfl rfl ?_
  refine A_geti (pc := 50) 7 fl_X3_31_3 hk2 rfl dX3_become_50 ?_
  refine A_puti (pc := 53) 7 fl_X3_31_3 hk rfl (by decide +kernel) (by simp only [am_ui_o hne]; exact (A_zb hb).1) (by simp only [am_ui_o hne]; exact (A_zb hb).2) dX3_become_53 ?_
  exact A_vretE (pc := 56) dX3_become_56 rfl (Nat.zero_le _) (Nat.zero_le _) (by simp only [rg_cp, am_ui_o hne])
set_option maxRecDepth 20000 in
theorem s_gap (l : Launch) {kd : am_kd} {rv : am_rv} {iv : am_iv} (n o : am_N) (hk : kd n = some (.inl 3)) (hk2 : kd o = some (.inl 3)) : am_Met l mX3_gap (am_rm 0 0 0) [am_P n, am_P o] kd rv iv (am_ret (some (am_I (rg_gap (iv n) (iv o)))) kd rv iv) := by
  refine am_Met.of (by decide) (Nat.le_of_ble_eq_true rfl) rfl ?_
  refine A_aload_n (pc := 0) (i := 0) dX3_gap_0 rfl rfl ?_
  refine A_geti (pc := 1) 1 fl_X3_22_3 hk rfl dX3_gap_1 ?_
  refine A_aload_n (pc := 4) (i := 1) dX3_gap_4 rfl rfl ?_
  refine A_geti (pc := 5) 1 fl_X3_22_3 hk2 rfl dX3_gap_5 ?_
  refine A_icmpge (pc := 8) 23 dX3_gap_8 (by decide) (fun hb8 => ?_) (fun hb8 => ?_)
  · refine A_aload_n (pc := 23) (i := 0) dX3_gap_23 rfl rfl ?_
    refine A_geti (pc := 24) 1 fl_X3_22_3 hk rfl dX3_gap_24 ?_
    refine A_aload_n (pc := 27) (i := 1) dX3_gap_27 rfl rfl ?_
    refine A_geti (pc := 28) 1 fl_X3_22_3 hk2 rfl dX3_gap_28 ?_
    refine A_isub (pc := 31) dX3_gap_31 ?_
    exact A_iretE (pc := 32) dX3_gap_32 rfl (Nat.zero_le _) (Nat.zero_le _) (by (try simp only [rg_gap]); (repeat' split) <;> first | rfl | (exfalso; simp only [fa_lt, fa_le] at *; omega) | (exfalso; simp [fa_lt, fa_le, fa_eq] at *; omega) | (simp_all; done)) (rfl)
  · refine A_aload_n (pc := 11) (i := 1) dX3_gap_11 rfl rfl ?_
    refine A_geti (pc := 12) 1 fl_X3_22_3 hk2 rfl dX3_gap_12 ?_
    refine A_aload_n (pc := 15) (i := 0) dX3_gap_15 rfl rfl ?_
    refine A_geti (pc := 16) 1 fl_X3_22_3 hk rfl dX3_gap_16 ?_
    refine A_isub (pc := 19) dX3_gap_19 ?_
    refine A_goto (pc := 20) 32 dX3_gap_20 (by decide) ?_
    exact A_iretE (pc := 32) dX3_gap_32 rfl (Nat.zero_le _) (Nat.zero_le _) (by (try simp only [rg_gap]); (repeat' split) <;> first | rfl | (exfalso; simp only [fa_lt, fa_le] at *; omega) | (exfalso; simp [fa_lt, fa_le, fa_eq] at *; omega) | (simp_all; done)) (rfl)
set_option maxRecDepth 20000 in
theorem s_isNear (l : Launch) {kd : am_kd} {rv : am_rv} {iv : am_iv} (n o : am_N) (hk : kd n = some (.inl 3)) (hk2 : kd o = some (.inl 3)) : am_Met l mX3_isNear (am_rm 1 0 0) [am_P n, am_P o] kd rv iv (am_ret (some (am_I (rg_bit (rg_near (iv n) (iv o))))) kd rv iv) := by
  refine am_Met.of (by decide) (Nat.le_of_ble_eq_true rfl) rfl ?_
  refine A_aload_n (pc := 0) (i := 0) dX3_isNear_0 rfl rfl ?_
  refine A_geti (pc := 1) 2 fl_X3_25_3 hk rfl dX3_isNear_1 ?_
  refine A_aload_n (pc := 4) (i := 1) dX3_isNear_4 rfl rfl ?_
  refine A_geti (pc := 5) 2 fl_X3_25_3 hk2 rfl dX3_isNear_5 ?_
  refine A_isub (pc := 8) dX3_isNear_8 ?_
  refine A_mabs (pc := 9) cm_X3_49 (Nat.le_of_ble_eq_true rfl) (Nat.le_of_ble_eq_true rfl) (Nat.zero_le _) (Nat.zero_le _) dX3_isNear_9 ?_
  refine A_aload_n (pc := 12) (i := 0) dX3_isNear_12 rfl rfl ?_
  refine A_geti (pc := 13) 5 fl_X3_16_3 hk rfl dX3_isNear_13 ?_
  refine A_aload_n (pc := 16) (i := 1) dX3_isNear_16 rfl rfl ?_
  refine A_geti (pc := 17) 5 fl_X3_16_3 hk2 rfl dX3_isNear_17 ?_
  refine A_iadd (pc := 20) dX3_isNear_20 ?_
  refine A_icmpge (pc := 21) 28 dX3_isNear_21 (by decide) (fun hb21 => ?_) (fun hb21 => ?_)
  · refine A_iconst (pc := 28) (0) dX3_isNear_28 (by decide) ?_
    exact A_zretE (pc := 29) dX3_isNear_29 rfl (by first | exact A_zn0 | exact A_zn1 | exact A_znif _) (Nat.zero_le _) (Nat.zero_le _) (by first | exact (rg_bit_t (Int32.not_le.mp ‹_›)).symm | exact (rg_bit_f (Int32.not_lt.mpr ‹_›)).symm) (rfl)
  · refine A_iconst (pc := 24) (1) dX3_isNear_24 (by decide) ?_
    refine A_goto (pc := 25) 29 dX3_isNear_25 (by decide) ?_
    exact A_zretE (pc := 29) dX3_isNear_29 rfl (by first | exact A_zn0 | exact A_zn1 | exact A_znif _) (Nat.zero_le _) (Nat.zero_le _) (by first | exact (rg_bit_t (Int32.not_le.mp ‹_›)).symm | exact (rg_bit_f (Int32.not_lt.mpr ‹_›)).symm) (rfl)
set_option maxRecDepth 20000 in
theorem s_isBehind (l : Launch) {kd : am_kd} {rv : am_rv} {iv : am_iv} (n o : am_N) (hk : kd n = some (.inl 3)) (hk2 : kd o = some (.inl 3)) : am_Met l mX3_isBehind (am_rm 0 0 0) [am_P n, am_P o] kd rv iv (am_ret (some (am_I (rg_bit (rg_behind (iv n) (iv o))))) kd rv iv) := by
  refine am_Met.of (by decide) (Nat.le_of_ble_eq_true rfl) rfl ?_
  refine A_aload_n (pc := 0) (i := 0) dX3_isBehind_0 rfl rfl ?_
  refine A_geti (pc := 1) 3 fl_X3_13_3 hk rfl dX3_isBehind_1 ?_
  refine A_aload_n (pc := 4) (i := 1) dX3_isBehind_4 rfl rfl ?_
  refine A_geti (pc := 5) 3 fl_X3_13_3 hk2 rfl dX3_isBehind_5 ?_
  refine A_icmpeq (pc := 8) 13 dX3_isBehind_8 (by decide) (fun hb8 => ?_) (fun hb8 => ?_)
  · refine A_aload_n (pc := 13) (i := 0) dX3_isBehind_13 rfl rfl ?_
    refine A_geti (pc := 14) 1 fl_X3_22_3 hk rfl dX3_isBehind_14 ?_
    refine A_aload_n (pc := 17) (i := 1) dX3_isBehind_17 rfl rfl ?_
    refine A_geti (pc := 18) 1 fl_X3_22_3 hk2 rfl dX3_isBehind_18 ?_
    refine A_icmpne (pc := 21) 43 dX3_isBehind_21 (by decide) (fun hb21 => ?_) (fun hb21 => ?_)
    · refine A_aload_n (pc := 43) (i := 1) dX3_isBehind_43 rfl rfl ?_
      refine A_geti (pc := 44) 1 fl_X3_22_3 hk2 rfl dX3_isBehind_44 ?_
      refine A_aload_n (pc := 47) (i := 0) dX3_isBehind_47 rfl rfl ?_
      refine A_geti (pc := 48) 1 fl_X3_22_3 hk rfl dX3_isBehind_48 ?_
      refine A_isub (pc := 51) dX3_isBehind_51 ?_
      refine A_aload_n (pc := 52) (i := 0) dX3_isBehind_52 rfl rfl ?_
      refine A_geti (pc := 53) 3 fl_X3_13_3 hk rfl dX3_isBehind_53 ?_
      refine A_imul (pc := 56) dX3_isBehind_56 ?_
      refine A_ifle (pc := 57) 64 dX3_isBehind_57 (by decide) (fun hb57 => ?_) (fun hb57 => ?_)
      · refine A_iconst (pc := 64) (0) dX3_isBehind_64 (by decide) ?_
        exact A_zretE (pc := 65) dX3_isBehind_65 rfl (by first | exact A_zn0 | exact A_zn1 | exact A_znif _) (Nat.zero_le _) (Nat.zero_le _) (by first | (refine (rg_bit_t ?_).symm; simp_all [rg_behind, fa_lt, fa_le]; done) | (refine (rg_bit_f ?_).symm; simp_all [rg_behind, fa_lt, fa_le]; done)) (rfl)
      · refine A_iconst (pc := 60) (1) dX3_isBehind_60 (by decide) ?_
        refine A_goto (pc := 61) 65 dX3_isBehind_61 (by decide) ?_
        exact A_zretE (pc := 65) dX3_isBehind_65 rfl (by first | exact A_zn0 | exact A_zn1 | exact A_znif _) (Nat.zero_le _) (Nat.zero_le _) (by first | (refine (rg_bit_t ?_).symm; simp_all [rg_behind, fa_lt, fa_le]; done) | (refine (rg_bit_f ?_).symm; simp_all [rg_behind, fa_lt, fa_le]; done)) (rfl)
    · refine A_aload_n (pc := 24) (i := 0) dX3_isBehind_24 rfl rfl ?_
      refine A_geti (pc := 25) 0 fl_X3_7_3 hk rfl dX3_isBehind_25 ?_
      refine A_aload_n (pc := 28) (i := 1) dX3_isBehind_28 rfl rfl ?_
      refine A_geti (pc := 29) 0 fl_X3_7_3 hk2 rfl dX3_isBehind_29 ?_
      refine A_icmple (pc := 32) 39 dX3_isBehind_32 (by decide) (fun hb32 => ?_) (fun hb32 => ?_)
      · refine A_iconst (pc := 39) (0) dX3_isBehind_39 (by decide) ?_
        refine A_goto (pc := 40) 65 dX3_isBehind_40 (by decide) ?_
        exact A_zretE (pc := 65) dX3_isBehind_65 rfl (by first | exact A_zn0 | exact A_zn1 | exact A_znif _) (Nat.zero_le _) (Nat.zero_le _) (by first | (refine (rg_bit_t ?_).symm; simp_all [rg_behind, fa_lt, fa_le]; done) | (refine (rg_bit_f ?_).symm; simp_all [rg_behind, fa_lt, fa_le]; done)) (rfl)
      · refine A_iconst (pc := 35) (1) dX3_isBehind_35 (by decide) ?_
        refine A_goto (pc := 36) 65 dX3_isBehind_36 (by decide) ?_
        exact A_zretE (pc := 65) dX3_isBehind_65 rfl (by first | exact A_zn0 | exact A_zn1 | exact A_znif _) (Nat.zero_le _) (Nat.zero_le _) (by first | (refine (rg_bit_t ?_).symm; simp_all [rg_behind, fa_lt, fa_le]; done) | (refine (rg_bit_f ?_).symm; simp_all [rg_behind, fa_lt, fa_le]; done)) (rfl)
  · refine A_iconst (pc := 11) (0) dX3_isBehind_11 (by decide) ?_
    exact A_zretE (pc := 12) dX3_isBehind_12 rfl (by first | exact A_zn0 | exact A_zn1 | exact A_znif _) (Nat.zero_le _) (Nat.zero_le _) (by first | (refine (rg_bit_t ?_).symm; simp_all [rg_behind, fa_lt, fa_le]; done) | (refine (rg_bit_f ?_).symm; simp_all [rg_behind, fa_lt, fa_le]; done)) (rfl)
/-- how often WIDE is halved, and 3 -/
def rg_fac (t : Int32) : Nat → Int32 → Int32 → Int32
  | 0, _, n => n
  | k + 1, w, n => if 0 < w ∧ t < w then rg_fac t k (w / 2) (n + 1) else n
def rg_pace (f : Nat → Int32) : Int32 := sr_q (f 4 * rg_fac (f 6) 40 (f 5) 3) (f 5)
theorem rg_half {w : Int32} (h : 0 < w) : (w / 2).toInt = w.toInt / 2 := by
  rw [Int32.toInt_div]
  have h1 := fb_rng w
  have h0 : (0 : Int) < w.toInt := by simpa [fa_lt] using h
  have h2 : (2 : Int32).toInt = 2 := by decide
  rw [h2, Int.tdiv_eq_ediv_of_nonneg (by omega)]
  exact fb_bmod (by omega) (by omega)
theorem rg_fac_0 (t : Int32) (k : Nat) {w n : Int32} (h : ¬ (0 < w ∧ t < w)) : rg_fac t k w n = n := by
  cases k with
  | zero => rfl
  | succ k => simp [rg_fac, h]
set_option maxRecDepth 20000 in
theorem s_pace (l : Launch) {kd : am_kd} {rv : am_rv} {iv : am_iv} (n : am_N) (hk : kd n = some (.inl 3)) : am_Met l mX3_pace (am_rm 1 0 0) [am_P n] kd rv iv (am_ret (some (am_I (rg_pace (iv n)))) kd rv iv) := by
  refine am_Met.of (by decide) (Nat.le_of_ble_eq_true rfl) rfl ?_
  have loop : ∀ (k : Nat) (w q : Int32), w.toInt < 2 ^ k → rg_fac (iv n 6) k w q = rg_fac (iv n 6) 40 (iv n 5) 3 → am_W l mX3_pace (am_rm 1 0 0) (am_ret (some (am_I (rg_pace (iv n)))) kd rv iv) 7 [some (am_P n), some (am_I q), some (am_I w)] [] kd rv iv 0 0 := by
    have out : ∀ (k : Nat) (w q : Int32), ¬ (0 < w ∧ iv n 6 < w) → rg_fac (iv n 6) k w q = rg_fac (iv n 6) 40 (iv n 5) 3 → am_W l mX3_pace (am_rm 1 0 0) (am_ret (some (am_I (rg_pace (iv n)))) kd rv iv) 29 [some (am_P n), some (am_I q), some (am_I w)] [] kd rv iv 0 0 := by
      intro k w q hw hq
      rw [rg_fac_0 _ _ hw] at hq
      refine A_aload_n (pc := 29) (i := 0) dX3_pace_29 rfl rfl ?_
      refine A_geti (pc := 30) 4 fl_X3_28_3 hk rfl dX3_pace_30 ?_
      refine A_iload_n (pc := 33) (i := 1) dX3_pace_33 rfl rfl ?_
      refine A_imul (pc := 34) dX3_pace_34 ?_
      refine A_aload_n (pc := 35) (i := 0) dX3_pace_35 rfl rfl ?_
      refine A_geti (pc := 36) 5 fl_X3_16_3 hk rfl dX3_pace_36 ?_
      refine A_callN1 (pc := 39) cn_X3_35 (s_quotient l _ _) rfl rfl (Nat.le_of_ble_eq_true rfl) ⟨(Nat.le_of_ble_eq_true rfl), (Nat.le_of_ble_eq_true rfl)⟩ ⟨Nat.zero_le _, Nat.zero_le _⟩ dX3_pace_39 ?_
      exact A_iretE (pc := 42) dX3_pace_42 rfl (Nat.zero_le _) (Nat.zero_le _) (by rw [rg_pace, hq]) (rfl)
    intro k
    induction k with
    | zero =>
      intro w q hw hq
      refine A_iload_n (pc := 7) (i := 2) dX3_pace_7 rfl rfl ?_
      refine A_ifle (pc := 8) 29 dX3_pace_8 (by decide) (fun hb8 => ?_) (fun hb8 => ?_)
      · exact out 0 w q (by simp only [fa_lt] at *; simp at *; omega) hq
      · exact absurd hb8 (by simp [fa_le] at *; omega)
    | succ k ih =>
      intro w q hw hq
      refine A_iload_n (pc := 7) (i := 2) dX3_pace_7 rfl rfl ?_
      refine A_ifle (pc := 8) 29 dX3_pace_8 (by decide) (fun hb8 => ?_) (fun hb8 => ?_)
      · exact out (k + 1) w q (by simp only [fa_lt, fa_le] at *; omega) hq
      · refine A_iload_n (pc := 11) (i := 2) dX3_pace_11 rfl rfl ?_
        refine A_aload_n (pc := 12) (i := 0) dX3_pace_12 rfl rfl ?_
        refine A_geti (pc := 13) 6 fl_X3_19_3 hk rfl dX3_pace_13 ?_
        refine A_icmple (pc := 16) 29 dX3_pace_16 (by decide) (fun hb16 => ?_) (fun hb16 => ?_)
        · exact out (k + 1) w q (by simp only [fa_lt, fa_le] at *; omega) hq
        · refine A_inc1 (pc := 19) _ dX3_pace_19 rfl (Nat.le_of_ble_eq_true rfl) rfl ?_
          refine A_iload_n (pc := 22) (i := 2) dX3_pace_22 rfl rfl ?_
          refine A_iconst (pc := 23) (2) dX3_pace_23 (by decide) ?_
          refine A_idiv (pc := 24) dX3_pace_24 (by decide) ?_
          refine A_ist2 (pc := 25) dX3_pace_25 (Nat.le_of_ble_eq_true rfl) rfl ?_
          refine A_goto (pc := 26) 7 dX3_pace_26 (by decide) ?_
          refine ih _ _ ?_ ?_
          · rw [rg_half (Int32.not_le.mp hb8)]; rw [Int.pow_succ] at hw; omega
          · rw [← hq, rg_fac, if_pos ⟨Int32.not_le.mp hb8, Int32.not_le.mp hb16⟩]; rfl
  refine A_iconst (pc := 0) (3) dX3_pace_0 (by decide) ?_
  refine A_ist1 (pc := 1) dX3_pace_1 (Nat.le_of_ble_eq_true rfl) rfl ?_
  refine A_aload_n (pc := 2) (i := 0) dX3_pace_2 rfl rfl ?_
  refine A_geti (pc := 3) 5 fl_X3_16_3 hk rfl dX3_pace_3 ?_
  refine A_ist2 (pc := 6) dX3_pace_6 (Nat.le_of_ble_eq_true rfl) rfl ?_
  exact loop 40 _ _ (by have := fb_rng (iv n 5); omega) rfl
