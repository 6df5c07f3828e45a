section
variable {l : Launch} {M : am_M} {R : Room} {post : am_Post} {pc : Nat} {ls : List (Option am_V)} {st : List am_V} {kd : am_kd} {rv : am_rv} {iv : am_iv} {cu su : Nat}
theorem A_topJ {x y : Int64} (h : x = y) (k : am_W l M R post pc ls (am_J y :: st) kd rv iv cu su) : am_W l M R post pc ls (am_J x :: st) kd rv iv cu su := h ▸ k
end
theorem mI_add (a b : Nat) : nI a + nI b = nI (a + b) := (Int32.ofNat_add a b).symm
theorem mI_mul (a b : Nat) : nI a * nI b = nI (a * b) := (Int32.ofNat_mul a b).symm
/-- a ring of the reference, seen as the class' one: 0 its number, 1 .. 7 -/
def rf (iv : am_iv) (m : am_N) (r : Nat) : Nat → Int32 := fun k => if k = 0 then nI r else iv m (79 + 8 * r + k)
theorem rf_i (iv : am_iv) (m : am_N) (r w : Nat) : rf iv m r (w + 1) = iv m (79 + 8 * r + (w + 1)) := rfl
theorem rx_ring (r w : Nat) : (80 : Int32) + 8 * nI r + nI w = nI (79 + 8 * r + (w + 1)) := by
  show nI 80 + nI 8 * nI r + nI w = _
  rw [mI_mul, mI_add, mI_add]
  exact congrArg nI (by omega)
theorem rx_law (k : Nat) : (20 : Int32) + 2 * nI k = nI (20 + 2 * k) := by
  show nI 20 + nI 2 * nI k = _
  rw [mI_mul, mI_add]
theorem rx_lawm (k : Nat) : (20 : Int32) + 2 * nI k + 1 = nI (21 + 2 * k) := by
  show nI 20 + nI 2 * nI k + nI 1 = _
  rw [mI_mul, mI_add, mI_add]
  exact congrArg nI (by omega)
/-- what is so of every ring -/
def rok (f : Nat → Int32) : Prop := (-99999 ≤ (f 1).toInt ∧ (f 1).toInt ≤ 99999) ∧ (-999 ≤ (f 2).toInt ∧ (f 2).toInt ≤ 999) ∧ (f 3 = 1 ∨ f 3 = -1) ∧ (0 ≤ (f 4).toInt ∧ (f 4).toInt ≤ 999) ∧ (1 ≤ (f 5).toInt ∧ (f 5).toInt ≤ 200) ∧ (1 ≤ (f 6).toInt ∧ (f 6).toInt ≤ 50) ∧ (f 7 = 0 ∨ f 7 = 1)
def rf_ap (a b : Int32) : Int32 := if b < a then a - b else b - a
theorem ix_sub {a b : Int32} (h1 : -2147483648 ≤ a.toInt - b.toInt) (h2 : a.toInt - b.toInt ≤ 2147483647) : (a - b).toInt = a.toInt - b.toInt := by
  rw [Int32.toInt_sub]
  exact fb_bmod (by omega) (by omega)
theorem ix_add {a b : Int32} (h1 : -2147483648 ≤ a.toInt + b.toInt) (h2 : a.toInt + b.toInt ≤ 2147483647) : (a + b).toInt = a.toInt + b.toInt := by
  rw [Int32.toInt_add]
  exact fb_bmod (by omega) (by omega)
theorem rf_ap_gap (a b : Int32) (f g : Nat → Int32) (ha : f 1 = a) (hb : g 1 = b) : rf_ap a b = rg_gap f g := by
  subst ha; subst hb
  unfold rf_ap rg_gap
  by_cases h1 : g 1 < f 1
  · rw [if_pos h1, if_neg (by simp only [fa_lt] at *; omega)]
  · rw [if_neg h1]
    by_cases h2 : f 1 < g 1
    · rw [if_pos h2]
    · rw [if_neg h2]
      have e : f 1 = g 1 := by simp only [fa_lt, fa_eq] at *; omega
      rw [e]
theorem rf_ap_abs {a b : Int32} (h1 : -2147483647 ≤ a.toInt - b.toInt) (h2 : a.toInt - b.toInt ≤ 2147483647) : rf_ap a b = sr_abs (a - b) := by
  unfold rf_ap sr_abs
  have e := ix_sub (a := a) (b := b) (by omega) h2
  have z0 : (0 : Int32).toInt = 0 := by decide
  by_cases h : b < a
  · rw [if_pos h, if_pos]
    simp only [fa_lt, fa_le] at *
    omega
  · rw [if_neg h]
    by_cases q : a = b
    · subst q
      simp
    · rw [if_neg]
      · have e2 := ix_sub (a := b) (b := a) (by omega) (by omega)
        rw [fa_eq, e2, ix_sub (by omega) (by omega), e, z0]
        omega
      · simp only [fa_lt, fa_le, fa_eq] at *
        omega
set_option maxRecDepth 20000 in
theorem r_in (l : Launch) {kd : am_kd} {rv : am_rv} {iv : am_iv} (a b c : Int32) : am_Met l mX12_in (am_rm 0 0 0) [am_J a.toInt64, am_J b.toInt64, am_J c.toInt64] kd rv iv (am_ret (some (am_I (sr_b (b ≤ a ∧ a ≤ c)))) kd rv iv) := by
  refine am_Met.of (by decide) (Nat.le_of_ble_eq_true rfl) rfl ?_
  refine A_lload_n (pc := 0) (i := 0) dX12_in_0 rfl rfl ?_
  refine A_lload_n (pc := 1) (i := 2) dX12_in_1 rfl rfl ?_
  refine A_lcmp (pc := 2) dX12_in_2 ?_
  refine A_iflt (pc := 3) 17 dX12_in_3 (by decide) (fun hb3 => ?_) (fun hb3 => ?_)
  · rw [lg_cmp_lt, fa_wide_lt] at hb3
    refine A_iconst (pc := 17) (0) dX12_in_17 (by decide) ?_
    exact A_zretE (pc := 18) dX12_in_18 rfl (by first | exact A_zn0 | exact A_zn1 | exact A_znif _) (Nat.zero_le _) (Nat.zero_le _) ((if_neg (fun h => absurd hb3 (Int32.not_lt.mpr h.1))).symm) (rfl)
  · rw [lg_cmp_lt, fa_wide_lt] at hb3
    refine A_lload_n (pc := 6) (i := 0) dX12_in_6 rfl rfl ?_
    refine A_lload (pc := 7) (i := 4) dX12_in_7 rfl ?_
    refine A_lcmp (pc := 9) dX12_in_9 ?_
    refine A_ifgt (pc := 10) 17 dX12_in_10 (by decide) (fun hb10 => ?_) (fun hb10 => ?_)
    · rw [lg_cmp_gt, fa_wide_lt] at hb10
      refine A_iconst (pc := 17) (0) dX12_in_17 (by decide) ?_
      exact A_zretE (pc := 18) dX12_in_18 rfl (by first | exact A_zn0 | exact A_zn1 | exact A_znif _) (Nat.zero_le _) (Nat.zero_le _) ((if_neg (fun h => absurd hb10 (Int32.not_lt.mpr h.2))).symm) (rfl)
    · rw [lg_cmp_gt, fa_wide_lt] at hb10
      refine A_iconst (pc := 13) (1) dX12_in_13 (by decide) ?_
      refine A_goto (pc := 14) 18 dX12_in_14 (by decide) ?_
      exact A_zretE (pc := 18) dX12_in_18 rfl (by first | exact A_zn0 | exact A_zn1 | exact A_znif _) (Nat.zero_le _) (Nat.zero_le _) ((if_pos ⟨Int32.not_lt.mp hb3, Int32.not_lt.mp hb10⟩).symm) (rfl)
set_option maxRecDepth 20000 in
theorem r_held (l : Launch) {kd : am_kd} {rv : am_rv} {iv : am_iv} (v a b : Int32) : am_Met l mX12_held (am_rm 0 0 0) [am_J v.toInt64, am_I a, am_I b] kd rv iv (am_ret (some (am_I (sr_held v a b))) kd rv iv) := by
  refine am_Met.of (by decide) (Nat.le_of_ble_eq_true rfl) rfl ?_
  refine A_lload_n (pc := 0) (i := 0) dX12_held_0 rfl rfl ?_
  refine A_iload_n (pc := 1) (i := 2) dX12_held_1 rfl rfl ?_
  refine A_i2l (pc := 2) dX12_held_2 ?_
  refine A_lcmp (pc := 3) dX12_held_3 ?_
  refine A_ifge (pc := 4) 12 dX12_held_4 (by decide) (fun hb4 => ?_) (fun hb4 => ?_)
  · rw [lg_cmp_ge, fa_wide_le] at hb4
    refine A_lload_n (pc := 12) (i := 0) dX12_held_12 rfl rfl ?_
    refine A_iload_n (pc := 13) (i := 3) dX12_held_13 rfl rfl ?_
    refine A_i2l (pc := 14) dX12_held_14 ?_
    refine A_lcmp (pc := 15) dX12_held_15 ?_
    refine A_ifle (pc := 16) 24 dX12_held_16 (by decide) (fun hb16 => ?_) (fun hb16 => ?_)
    · rw [lg_cmp_le, fa_wide_le] at hb16
      refine A_lload_n (pc := 24) (i := 0) dX12_held_24 rfl rfl ?_
      refine A_l2i (pc := 25) dX12_held_25 ?_
      exact A_iretE (pc := 26) dX12_held_26 rfl (Nat.zero_le _) (Nat.zero_le _) (by rw [sr_held, if_neg (Int32.not_lt.mpr hb4), if_neg (Int32.not_lt.mpr hb16)]; exact Int32.toInt32_toInt64 _) (rfl)
    · rw [lg_cmp_le, fa_wide_le] at hb16
      refine A_iload_n (pc := 19) (i := 3) dX12_held_19 rfl rfl ?_
      refine A_i2l (pc := 20) dX12_held_20 ?_
      refine A_goto (pc := 21) 25 dX12_held_21 (by decide) ?_
      refine A_l2i (pc := 25) dX12_held_25 ?_
      exact A_iretE (pc := 26) dX12_held_26 rfl (Nat.zero_le _) (Nat.zero_le _) (by rw [sr_held, if_neg (Int32.not_lt.mpr hb4), if_pos (Int32.not_le.mp hb16)]; exact Int32.toInt32_toInt64 _) (rfl)
  · rw [lg_cmp_ge, fa_wide_le] at hb4
    refine A_iload_n (pc := 7) (i := 2) dX12_held_7 rfl rfl ?_
    refine A_i2l (pc := 8) dX12_held_8 ?_
    refine A_goto (pc := 9) 25 dX12_held_9 (by decide) ?_
    refine A_l2i (pc := 25) dX12_held_25 ?_
    exact A_iretE (pc := 26) dX12_held_26 rfl (Nat.zero_le _) (Nat.zero_le _) (by rw [sr_held, if_pos (Int32.not_le.mp hb4)]; exact Int32.toInt32_toInt64 _) (rfl)
set_option maxRecDepth 20000 in
theorem r_of (l : Launch) {kd : am_kd} {rv : am_rv} {iv : am_iv} (m : am_N) (hm : kd m = some (.inr (0, 300))) (r : Nat) (hr : r < 8) (w w1 : Nat) (hw1 : w1 = w + 1) (hw : w < 8) : am_Met l mX12_of (am_rm 0 0 0) [am_P m, am_I (nI r), am_I (nI w)] kd rv iv (am_ret (some (am_I (rf iv m r w1))) kd rv iv) := by
  refine am_Met.of (by decide) (Nat.le_of_ble_eq_true rfl) rfl ?_
  refine A_aload_n (pc := 0) (i := 0) dX12_of_0 rfl rfl ?_
  refine A_bipush (pc := 1) (80) dX12_of_1 (by decide) ?_
  refine A_bipush (pc := 3) (8) dX12_of_3 (by decide) ?_
  refine A_iload_n (pc := 5) (i := 1) dX12_of_5 rfl rfl ?_
  refine A_imul (pc := 6) dX12_of_6 ?_
  refine A_iadd (pc := 7) dX12_of_7 ?_
  refine A_iload_n (pc := 8) (i := 2) dX12_of_8 rfl rfl ?_
  refine A_iadd (pc := 9) dX12_of_9 ?_
  refine A_top (rx_ring r w) ?_
  refine A_ialdN (pc := 10) hm (by omega) (by decide) dX12_of_10 ?_
  exact A_iretE (pc := 11) dX12_of_11 rfl (Nat.zero_le _) (Nat.zero_le _) (by rw [hw1]; rfl) (rfl)
set_option maxRecDepth 20000 in
theorem r_isWhole (l : Launch) {kd : am_kd} {rv : am_rv} {iv : am_iv} (m : am_N) (hm : kd m = some (.inr (0, 300))) (r : Nat) (hr : r < 8) : am_Met l mX12_isWhole (am_rm 0 0 0) [am_P m, am_I (nI r)] kd rv iv (am_ret (some (am_I (sr_b (rf iv m r 7 = 1)))) kd rv iv) := by
  refine am_Met.of (by decide) (Nat.le_of_ble_eq_true rfl) rfl ?_
  refine A_aload_n (pc := 0) (i := 0) dX12_isWhole_0 rfl rfl ?_
  refine A_bipush (pc := 1) (80) dX12_isWhole_1 (by decide) ?_
  refine A_bipush (pc := 3) (8) dX12_isWhole_3 (by decide) ?_
  refine A_iload_n (pc := 5) (i := 1) dX12_isWhole_5 rfl rfl ?_
  refine A_imul (pc := 6) dX12_isWhole_6 ?_
  refine A_iadd (pc := 7) dX12_isWhole_7 ?_
  refine A_bipush (pc := 8) (6) dX12_isWhole_8 (by decide) ?_
  refine A_iadd (pc := 10) dX12_isWhole_10 ?_
  refine A_top (rx_ring r 6) ?_
  refine A_ialdN (pc := 11) hm (by omega) (by decide) dX12_isWhole_11 ?_
  refine A_iconst (pc := 12) (1) dX12_isWhole_12 (by decide) ?_
  refine A_icmpne (pc := 13) 20 dX12_isWhole_13 (by decide) (fun hb13 => ?_) (fun hb13 => ?_)
  · refine A_iconst (pc := 20) (0) dX12_isWhole_20 (by decide) ?_
    exact A_zretE (pc := 21) dX12_isWhole_21 rfl (by first | exact A_zn0 | exact A_zn1 | exact A_znif _) (Nat.zero_le _) (Nat.zero_le _) ((if_neg hb13).symm) (rfl)
  · refine A_iconst (pc := 16) (1) dX12_isWhole_16 (by decide) ?_
    refine A_goto (pc := 17) 21 dX12_isWhole_17 (by decide) ?_
    exact A_zretE (pc := 21) dX12_isWhole_21 rfl (by first | exact A_zn0 | exact A_zn1 | exact A_znif _) (Nat.zero_le _) (Nat.zero_le _) ((if_pos hb13).symm) (rfl)
set_option maxRecDepth 20000 in
theorem r_apart (l : Launch) {kd : am_kd} {rv : am_rv} {iv : am_iv} (a b : Int32) : am_Met l mX12_apart (am_rm 0 0 0) [am_I a, am_I b] kd rv iv (am_ret (some (am_I (rf_ap a b))) kd rv iv) := by
  refine am_Met.of (by decide) (Nat.le_of_ble_eq_true rfl) rfl ?_
  refine A_iload_n (pc := 0) (i := 0) dX12_apart_0 rfl rfl ?_
  refine A_iload_n (pc := 1) (i := 1) dX12_apart_1 rfl rfl ?_
  refine A_icmple (pc := 2) 11 dX12_apart_2 (by decide) (fun hb2 => ?_) (fun hb2 => ?_)
  · refine A_iload_n (pc := 11) (i := 1) dX12_apart_11 rfl rfl ?_
    refine A_iload_n (pc := 12) (i := 0) dX12_apart_12 rfl rfl ?_
    refine A_isub (pc := 13) dX12_apart_13 ?_
    exact A_iretE (pc := 14) dX12_apart_14 rfl (Nat.zero_le _) (Nat.zero_le _) ((if_neg (Int32.not_lt.mpr hb2)).symm) (rfl)
  · refine A_iload_n (pc := 5) (i := 0) dX12_apart_5 rfl rfl ?_
    refine A_iload_n (pc := 6) (i := 1) dX12_apart_6 rfl rfl ?_
    refine A_isub (pc := 7) dX12_apart_7 ?_
    refine A_goto (pc := 8) 14 dX12_apart_8 (by decide) ?_
    exact A_iretE (pc := 14) dX12_apart_14 rfl (Nat.zero_le _) (Nat.zero_le _) ((if_pos (Int32.not_le.mp hb2)).symm) (rfl)
set_option maxRecDepth 20000 in
theorem r_gap (l : Launch) {kd : am_kd} {rv : am_rv} {iv : am_iv} (m : am_N) (hm : kd m = some (.inr (0, 300))) (a : Nat) (ha : a < 8) (b : Nat) (hb : b < 8) : am_Met l mX12_gap (am_rm 1 0 0) [am_P m, am_I (nI a), am_I (nI b)] kd rv iv (am_ret (some (am_I (rg_gap (rf iv m a) (rf iv m b)))) kd rv iv) := by
  refine am_Met.of (by decide) (Nat.le_of_ble_eq_true rfl) rfl ?_
  refine A_aload_n (pc := 0) (i := 0) dX12_gap_0 rfl rfl ?_
  refine A_iload_n (pc := 1) (i := 1) dX12_gap_1 rfl rfl ?_
  refine A_iconst (pc := 2) (0) dX12_gap_2 (by decide) ?_
  refine A_callS1 (pc := 3) cs_X12_73 (r_of l m hm a ha 0 1 rfl (by decide)) rfl rfl (Nat.le_of_ble_eq_true rfl) ⟨(Nat.le_of_ble_eq_true rfl), (Nat.le_of_ble_eq_true rfl)⟩ ⟨Nat.zero_le _, Nat.zero_le _⟩ dX12_gap_3 ?_
  refine A_aload_n (pc := 6) (i := 0) dX12_gap_6 rfl rfl ?_
  refine A_iload_n (pc := 7) (i := 2) dX12_gap_7 rfl rfl ?_
  refine A_iconst (pc := 8) (0) dX12_gap_8 (by decide) ?_
  refine A_callS1 (pc := 9) cs_X12_73 (r_of l m hm b hb 0 1 rfl (by decide)) rfl rfl (Nat.le_of_ble_eq_true rfl) ⟨(Nat.le_of_ble_eq_true rfl), (Nat.le_of_ble_eq_true rfl)⟩ ⟨Nat.zero_le _, Nat.zero_le _⟩ dX12_gap_9 ?_
  refine A_callS1 (pc := 12) cs_X12_100 (r_apart l _ _) rfl rfl (Nat.le_of_ble_eq_true rfl) ⟨(Nat.le_of_ble_eq_true rfl), (Nat.le_of_ble_eq_true rfl)⟩ ⟨Nat.zero_le _, Nat.zero_le _⟩ dX12_gap_12 ?_
  exact A_iretE (pc := 15) dX12_gap_15 rfl (Nat.zero_le _) (Nat.zero_le _) (rf_ap_gap _ _ _ _ rfl rfl) (rfl)
theorem rf_near_ap {f g : Nat → Int32} (oa : rok f) (ob : rok g) : rf_ap (f 2) (g 2) = sr_abs (f 2 - g 2) := by
  have h1 := oa.2.1
  have h2 := ob.2.1
  exact rf_ap_abs (by omega) (by omega)
set_option maxRecDepth 20000 in
theorem r_areNear (l : Launch) {kd : am_kd} {rv : am_rv} {iv : am_iv} (m : am_N) (hm : kd m = some (.inr (0, 300))) (a : Nat) (ha : a < 8) (b : Nat) (hb : b < 8) (oa : rok (rf iv m a)) (ob : rok (rf iv m b)) : am_Met l mX12_areNear (am_rm 1 0 0) [am_P m, am_I (nI a), am_I (nI b)] kd rv iv (am_ret (some (am_I (rg_bit (rg_near (rf iv m a) (rf iv m b))))) kd rv iv) := by
  refine am_Met.of (by decide) (Nat.le_of_ble_eq_true rfl) rfl ?_
  refine A_aload_n (pc := 0) (i := 0) dX12_areNear_0 rfl rfl ?_
  refine A_iload_n (pc := 1) (i := 1) dX12_areNear_1 rfl rfl ?_
  refine A_iconst (pc := 2) (1) dX12_areNear_2 (by decide) ?_
  refine A_callS1 (pc := 3) cs_X12_73 (r_of l m hm a ha 1 2 rfl (by decide)) rfl rfl (Nat.le_of_ble_eq_true rfl) ⟨(Nat.le_of_ble_eq_true rfl), (Nat.le_of_ble_eq_true rfl)⟩ ⟨Nat.zero_le _, Nat.zero_le _⟩ dX12_areNear_3 ?_
  refine A_aload_n (pc := 6) (i := 0) dX12_areNear_6 rfl rfl ?_
  refine A_iload_n (pc := 7) (i := 2) dX12_areNear_7 rfl rfl ?_
  refine A_iconst (pc := 8) (1) dX12_areNear_8 (by decide) ?_
  refine A_callS1 (pc := 9) cs_X12_73 (r_of l m hm b hb 1 2 rfl (by decide)) rfl rfl (Nat.le_of_ble_eq_true rfl) ⟨(Nat.le_of_ble_eq_true rfl), (Nat.le_of_ble_eq_true rfl)⟩ ⟨Nat.zero_le _, Nat.zero_le _⟩ dX12_areNear_9 ?_
  refine A_callS1 (pc := 12) cs_X12_100 (r_apart l _ _) rfl rfl (Nat.le_of_ble_eq_true rfl) ⟨(Nat.le_of_ble_eq_true rfl), (Nat.le_of_ble_eq_true rfl)⟩ ⟨Nat.zero_le _, Nat.zero_le _⟩ dX12_areNear_12 ?_
  refine A_top (rf_near_ap oa ob) ?_
  refine A_aload_n (pc := 15) (i := 0) dX12_areNear_15 rfl rfl ?_
  refine A_iload_n (pc := 16) (i := 1) dX12_areNear_16 rfl rfl ?_
  refine A_iconst (pc := 17) (4) dX12_areNear_17 (by decide) ?_
  refine A_callS1 (pc := 18) cs_X12_73 (r_of l m hm a ha 4 5 rfl (by decide)) rfl rfl (Nat.le_of_ble_eq_true rfl) ⟨(Nat.le_of_ble_eq_true rfl), (Nat.le_of_ble_eq_true rfl)⟩ ⟨Nat.zero_le _, Nat.zero_le _⟩ dX12_areNear_18 ?_
  refine A_aload_n (pc := 21) (i := 0) dX12_areNear_21 rfl rfl ?_
  refine A_iload_n (pc := 22) (i := 2) dX12_areNear_22 rfl rfl ?_
  refine A_iconst (pc := 23) (4) dX12_areNear_23 (by decide) ?_
  refine A_callS1 (pc := 24) cs_X12_73 (r_of l m hm b hb 4 5 rfl (by decide)) rfl rfl (Nat.le_of_ble_eq_true rfl) ⟨(Nat.le_of_ble_eq_true rfl), (Nat.le_of_ble_eq_true rfl)⟩ ⟨Nat.zero_le _, Nat.zero_le _⟩ dX12_areNear_24 ?_
  refine A_iadd (pc := 27) dX12_areNear_27 ?_
  refine A_icmpge (pc := 28) 35 dX12_areNear_28 (by decide) (fun hb28 => ?_) (fun hb28 => ?_)
  · refine A_iconst (pc := 35) (0) dX12_areNear_35 (by decide) ?_
    exact A_zretE (pc := 36) dX12_areNear_36 rfl (by first | exact A_zn0 | exact A_zn1 | exact A_znif _) (Nat.zero_le _) (Nat.zero_le _) ((rg_bit_f (Int32.not_lt.mpr hb28)).symm) (rfl)
  · refine A_iconst (pc := 31) (1) dX12_areNear_31 (by decide) ?_
    refine A_goto (pc := 32) 36 dX12_areNear_32 (by decide) ?_
    exact A_zretE (pc := 36) dX12_areNear_36 rfl (by first | exact A_zn0 | exact A_zn1 | exact A_znif _) (Nat.zero_le _) (Nat.zero_le _) ((rg_bit_t (Int32.not_le.mp hb28)).symm) (rfl)
theorem ix_mul1 {a w : Int32} (h1 : -99999 ≤ a.toInt) (h2 : a.toInt ≤ 99999) (h : w = 1 ∨ w = -1) : (a * w).toInt = a.toInt * w.toInt := by
  rw [Int32.toInt_mul]
  rcases h with h | h <;> subst h
  · rw [show (1 : Int32).toInt = 1 by decide]; exact fb_bmod (by omega) (by omega)
  · rw [show (-1 : Int32).toInt = -1 by decide]; exact fb_bmod (by omega) (by omega)
theorem ix_mul2 {a w : Int32} (h1 : -199999 ≤ a.toInt) (h2 : a.toInt ≤ 199999) (h : w = 1 ∨ w = -1) : (a * w).toInt = a.toInt * w.toInt := by
  rw [Int32.toInt_mul]
  rcases h with h | h <;> subst h
  · rw [show (1 : Int32).toInt = 1 by decide]; exact fb_bmod (by omega) (by omega)
  · rw [show (-1 : Int32).toInt = -1 by decide]; exact fb_bmod (by omega) (by omega)
theorem rf_behind {f g : Nat → Int32} (oa : rok f) (ob : rok g) : rg_behind f g ↔ f 3 = g 3 ∧ (f 1 * f 3 < g 1 * f 3 ∨ f 1 * f 3 = g 1 * f 3 ∧ ¬ f 0 ≤ g 0) := by
  have h1 := oa.1
  have h2 := ob.1
  have e1 := ix_mul1 h1.1 h1.2 oa.2.2.1
  have e2 := ix_mul1 h2.1 h2.2 oa.2.2.1
  have e3 := ix_sub (a := g 1) (b := f 1) (by omega) (by omega)
  have e4 := ix_mul2 (a := g 1 - f 1) (w := f 3) (by omega) (by omega) oa.2.2.1
  have z0 : (0 : Int32).toInt = 0 := by decide
  have hw : (f 3).toInt = 1 ∨ (f 3).toInt = -1 := by
    rcases oa.2.2.1 with h | h <;> rw [h] <;> decide
  unfold rg_behind
  simp only [fa_lt, fa_le, fa_eq (f 1), fa_eq (f 1 * f 3), e1, e2, e4, z0, e3]
  constructor
  · rintro ⟨q, h⟩
    refine ⟨q, ?_⟩
    split at h <;> rcases hw with w | w <;> rw [w] <;> first | omega | (rw [w] at h; omega)
  · rintro ⟨q, h⟩
    refine ⟨q, ?_⟩
    split <;> rcases hw with w | w <;> rw [w] at h <;> first | omega | (rw [w]; omega)
set_option maxRecDepth 20000 in
theorem r_isBehind (l : Launch) {kd : am_kd} {rv : am_rv} {iv : am_iv} (m : am_N) (hm : kd m = some (.inr (0, 300))) (a : Nat) (ha : a < 8) (b : Nat) (hb : b < 8) (oa : rok (rf iv m a)) (ob : rok (rf iv m b)) : am_Met l mX12_isBehind (am_rm 1 0 0) [am_P m, am_I (nI a), am_I (nI b)] kd rv iv (am_ret (some (am_I (rg_bit (rg_behind (rf iv m a) (rf iv m b))))) kd rv iv) := by
  refine am_Met.of (by decide) (Nat.le_of_ble_eq_true rfl) rfl ?_
  refine A_aload_n (pc := 0) (i := 0) dX12_isBehind_0 rfl rfl ?_
  refine A_iload_n (pc := 1) (i := 1) dX12_isBehind_1 rfl rfl ?_
  refine A_iconst (pc := 2) (0) dX12_isBehind_2 (by decide) ?_
  refine A_callS1 (pc := 3) cs_X12_73 (r_of l m hm a ha 0 1 rfl (by decide)) rfl rfl (Nat.le_of_ble_eq_true rfl) ⟨(Nat.le_of_ble_eq_true rfl), (Nat.le_of_ble_eq_true rfl)⟩ ⟨Nat.zero_le _, Nat.zero_le _⟩ dX12_isBehind_3 ?_
  refine A_aload_n (pc := 6) (i := 0) dX12_isBehind_6 rfl rfl ?_
  refine A_iload_n (pc := 7) (i := 1) dX12_isBehind_7 rfl rfl ?_
  refine A_iconst (pc := 8) (2) dX12_isBehind_8 (by decide) ?_
  refine A_callS1 (pc := 9) cs_X12_73 (r_of l m hm a ha 2 3 rfl (by decide)) rfl rfl (Nat.le_of_ble_eq_true rfl) ⟨(Nat.le_of_ble_eq_true rfl), (Nat.le_of_ble_eq_true rfl)⟩ ⟨Nat.zero_le _, Nat.zero_le _⟩ dX12_isBehind_9 ?_
  refine A_imul (pc := 12) dX12_isBehind_12 ?_
  refine A_ist3 (pc := 13) dX12_isBehind_13 (Nat.le_of_ble_eq_true rfl) rfl ?_
  refine A_aload_n (pc := 14) (i := 0) dX12_isBehind_14 rfl rfl ?_
  refine A_iload_n (pc := 15) (i := 2) dX12_isBehind_15 rfl rfl ?_
  refine A_iconst (pc := 16) (0) dX12_isBehind_16 (by decide) ?_
  refine A_callS1 (pc := 17) cs_X12_73 (r_of l m hm b hb 0 1 rfl (by decide)) rfl rfl (Nat.le_of_ble_eq_true rfl) ⟨(Nat.le_of_ble_eq_true rfl), (Nat.le_of_ble_eq_true rfl)⟩ ⟨Nat.zero_le _, Nat.zero_le _⟩ dX12_isBehind_17 ?_
  refine A_aload_n (pc := 20) (i := 0) dX12_isBehind_20 rfl rfl ?_
  refine A_iload_n (pc := 21) (i := 1) dX12_isBehind_21 rfl rfl ?_
  refine A_iconst (pc := 22) (2) dX12_isBehind_22 (by decide) ?_
  refine A_callS1 (pc := 23) cs_X12_73 (r_of l m hm a ha 2 3 rfl (by decide)) rfl rfl (Nat.le_of_ble_eq_true rfl) ⟨(Nat.le_of_ble_eq_true rfl), (Nat.le_of_ble_eq_true rfl)⟩ ⟨Nat.zero_le _, Nat.zero_le _⟩ dX12_isBehind_23 ?_
  refine A_imul (pc := 26) dX12_isBehind_26 ?_
  refine A_ist4 (pc := 27) dX12_isBehind_27 (Nat.le_of_ble_eq_true rfl) rfl ?_
  refine A_aload_n (pc := 29) (i := 0) dX12_isBehind_29 rfl rfl ?_
  refine A_iload_n (pc := 30) (i := 1) dX12_isBehind_30 rfl rfl ?_
  refine A_iconst (pc := 31) (2) dX12_isBehind_31 (by decide) ?_
  refine A_callS1 (pc := 32) cs_X12_73 (r_of l m hm a ha 2 3 rfl (by decide)) rfl rfl (Nat.le_of_ble_eq_true rfl) ⟨(Nat.le_of_ble_eq_true rfl), (Nat.le_of_ble_eq_true rfl)⟩ ⟨Nat.zero_le _, Nat.zero_le _⟩ dX12_isBehind_32 ?_
  refine A_aload_n (pc := 35) (i := 0) dX12_isBehind_35 rfl rfl ?_
  refine A_iload_n (pc := 36) (i := 2) dX12_isBehind_36 rfl rfl ?_
  refine A_iconst (pc := 37) (2) dX12_isBehind_37 (by decide) ?_
  refine A_callS1 (pc := 38) cs_X12_73 (r_of l m hm b hb 2 3 rfl (by decide)) rfl rfl (Nat.le_of_ble_eq_true rfl) ⟨(Nat.le_of_ble_eq_true rfl), (Nat.le_of_ble_eq_true rfl)⟩ ⟨Nat.zero_le _, Nat.zero_le _⟩ dX12_isBehind_38 ?_
  refine A_icmpne (pc := 41) 65 dX12_isBehind_41 (by decide) (fun hb41 => ?_) (fun hb41 => ?_)
  · refine A_iconst (pc := 65) (0) dX12_isBehind_65 (by decide) ?_
    exact A_zretE (pc := 66) dX12_isBehind_66 rfl (by first | exact A_zn0 | exact A_zn1 | exact A_znif _) (Nat.zero_le _) (Nat.zero_le _) ((rg_bit_f (by rw [rf_behind oa ob]; exact fun h => hb41 h.1)).symm) (rfl)
  · refine A_iload_n (pc := 44) (i := 3) dX12_isBehind_44 rfl rfl ?_
    refine A_iload (pc := 45) (i := 4) dX12_isBehind_45 rfl ?_
    refine A_icmplt (pc := 47) 61 dX12_isBehind_47 (by decide) (fun hb47 => ?_) (fun hb47 => ?_)
    · refine A_iconst (pc := 61) (1) dX12_isBehind_61 (by decide) ?_
      refine A_goto (pc := 62) 66 dX12_isBehind_62 (by decide) ?_
      exact A_zretE (pc := 66) dX12_isBehind_66 rfl (by first | exact A_zn0 | exact A_zn1 | exact A_znif _) (Nat.zero_le _) (Nat.zero_le _) ((rg_bit_t (by rw [rf_behind oa ob]; exact ⟨hb41, Or.inl hb47⟩)).symm) (rfl)
    · refine A_iload_n (pc := 50) (i := 3) dX12_isBehind_50 rfl rfl ?_
      refine A_iload (pc := 51) (i := 4) dX12_isBehind_51 rfl ?_
      refine A_icmpne (pc := 53) 65 dX12_isBehind_53 (by decide) (fun hb53 => ?_) (fun hb53 => ?_)
      · refine A_iconst (pc := 65) (0) dX12_isBehind_65 (by decide) ?_
        exact A_zretE (pc := 66) dX12_isBehind_66 rfl (by first | exact A_zn0 | exact A_zn1 | exact A_znif _) (Nat.zero_le _) (Nat.zero_le _) ((rg_bit_f (by rw [rf_behind oa ob]; exact fun h => h.2.elim hb47 (fun h2 => hb53 h2.1))).symm) (rfl)
      · refine A_iload_n (pc := 56) (i := 1) dX12_isBehind_56 rfl rfl ?_
        refine A_iload_n (pc := 57) (i := 2) dX12_isBehind_57 rfl rfl ?_
        refine A_icmple (pc := 58) 65 dX12_isBehind_58 (by decide) (fun hb58 => ?_) (fun hb58 => ?_)
        · refine A_iconst (pc := 65) (0) dX12_isBehind_65 (by decide) ?_
          exact A_zretE (pc := 66) dX12_isBehind_66 rfl (by first | exact A_zn0 | exact A_zn1 | exact A_znif _) (Nat.zero_le _) (Nat.zero_le _) ((rg_bit_f (by rw [rf_behind oa ob]; exact fun h => h.2.elim hb47 (fun h2 => h2.2 hb58))).symm) (rfl)
        · refine A_iconst (pc := 61) (1) dX12_isBehind_61 (by decide) ?_
          refine A_goto (pc := 62) 66 dX12_isBehind_62 (by decide) ?_
          exact A_zretE (pc := 66) dX12_isBehind_66 rfl (by first | exact A_zn0 | exact A_zn1 | exact A_znif _) (Nat.zero_le _) (Nat.zero_le _) ((rg_bit_t (by rw [rf_behind oa ob]; exact ⟨hb41, Or.inr ⟨hb53, hb58⟩⟩)).symm) (rfl)
set_option maxRecDepth 20000 in
theorem r_pace (l : Launch) {kd : am_kd} {rv : am_rv} {iv : am_iv} (m : am_N) (hm : kd m = some (.inr (0, 300))) (a : Nat) (ha : a < 8) (oa : rok (rf iv m a)) : am_Met l mX12_paceOf (am_rm 1 0 0) [am_P m, am_I (nI a)] kd rv iv (am_ret (some (am_I (rg_pace (rf iv m a)))) kd rv iv) := by
  refine am_Met.of (by decide) (Nat.le_of_ble_eq_true rfl) rfl ?_
  have t0 : (0 : Int32).toInt = 0 := by decide
  have w5 : ¬ rf iv m a 5 = 0 := by rw [fa_eq]; have := oa.2.2.2.2.1; omega
  have pos : ∀ w, ¬ w ≤ rf iv m a 6 → 0 < w := fun w h => by have := oa.2.2.2.2.2.1; simp only [fa_lt, fa_le] at *; omega
  have loop : ∀ (k : Nat) (w q : Int32), w.toInt < 2 ^ k → rg_fac (rf iv m a 6) k w q = rg_fac (rf iv m a 6) 40 (rf iv m a 5) 3 → am_W l mX12_paceOf (am_rm 1 0 0) (am_ret (some (am_I (rg_pace (rf iv m a)))) kd rv iv) 9 [some (am_P m), some (am_I (nI a)), some (am_I q), some (am_I w)] [] kd rv iv 0 0 := by
    have out : ∀ (k : Nat) (w q : Int32), ¬ (0 < w ∧ rf iv m a 6 < w) → rg_fac (rf iv m a 6) k w q = rg_fac (rf iv m a 6) 40 (rf iv m a 5) 3 → am_W l mX12_paceOf (am_rm 1 0 0) (am_ret (some (am_I (rg_pace (rf iv m a)))) kd rv iv) 29 [some (am_P m), some (am_I (nI a)), some (am_I q), some (am_I w)] [] kd rv iv 0 0 := by
      intro k w q hw hq
      rw [rg_fac_0 _ _ hw] at hq
      refine A_aload_n (pc := 29) (i := 0) dX12_paceOf_29 rfl rfl ?_
      refine A_iload_n (pc := 30) (i := 1) dX12_paceOf_30 rfl rfl ?_
      refine A_iconst (pc := 31) (3) dX12_paceOf_31 (by decide) ?_
      refine A_callS1 (pc := 32) cs_X12_73 (r_of l m hm a ha 3 4 rfl (by decide)) rfl rfl (Nat.le_of_ble_eq_true rfl) ⟨(Nat.le_of_ble_eq_true rfl), (Nat.le_of_ble_eq_true rfl)⟩ ⟨Nat.zero_le _, Nat.zero_le _⟩ dX12_paceOf_32 ?_
      refine A_iload_n (pc := 35) (i := 2) dX12_paceOf_35 rfl rfl ?_
      refine A_imul (pc := 36) dX12_paceOf_36 ?_
      refine A_aload_n (pc := 37) (i := 0) dX12_paceOf_37 rfl rfl ?_
      refine A_iload_n (pc := 38) (i := 1) dX12_paceOf_38 rfl rfl ?_
      refine A_iconst (pc := 39) (4) dX12_paceOf_39 (by decide) ?_
      refine A_callS1 (pc := 40) cs_X12_73 (r_of l m hm a ha 4 5 rfl (by decide)) rfl rfl (Nat.le_of_ble_eq_true rfl) ⟨(Nat.le_of_ble_eq_true rfl), (Nat.le_of_ble_eq_true rfl)⟩ ⟨Nat.zero_le _, Nat.zero_le _⟩ dX12_paceOf_40 ?_
      refine A_idiv (pc := 43) dX12_paceOf_43 w5 ?_
      exact A_iretE (pc := 44) dX12_paceOf_44 rfl (Nat.zero_le _) (Nat.zero_le _) (by rw [rg_pace, ← hq, sr_q, if_neg w5]) (rfl)
    intro k
    induction k with
    | zero =>
      intro w q hw hq
      refine A_iload_n (pc := 9) (i := 3) dX12_paceOf_9 rfl rfl ?_
      refine A_aload_n (pc := 10) (i := 0) dX12_paceOf_10 rfl rfl ?_
      refine A_iload_n (pc := 11) (i := 1) dX12_paceOf_11 rfl rfl ?_
      refine A_iconst (pc := 12) (5) dX12_paceOf_12 (by decide) ?_
      refine A_callS1 (pc := 13) cs_X12_73 (r_of l m hm a ha 5 6 rfl (by decide)) rfl rfl (Nat.le_of_ble_eq_true rfl) ⟨(Nat.le_of_ble_eq_true rfl), (Nat.le_of_ble_eq_true rfl)⟩ ⟨Nat.zero_le _, Nat.zero_le _⟩ dX12_paceOf_13 ?_
      refine A_icmple (pc := 16) 29 dX12_paceOf_16 (by decide) (fun hb16 => ?_) (fun hb16 => ?_)
      · exact out 0 w q (by simp only [fa_lt] at *; simp at *; omega) hq
      · exact absurd (pos w hb16) (by simp only [fa_lt] at *; simp at *; omega)
    | succ k ih =>
      intro w q hw hq
      refine A_iload_n (pc := 9) (i := 3) dX12_paceOf_9 rfl rfl ?_
      refine A_aload_n (pc := 10) (i := 0) dX12_paceOf_10 rfl rfl ?_
      refine A_iload_n (pc := 11) (i := 1) dX12_paceOf_11 rfl rfl ?_
      refine A_iconst (pc := 12) (5) dX12_paceOf_12 (by decide) ?_
      refine A_callS1 (pc := 13) cs_X12_73 (r_of l m hm a ha 5 6 rfl (by decide)) rfl rfl (Nat.le_of_ble_eq_true rfl) ⟨(Nat.le_of_ble_eq_true rfl), (Nat.le_of_ble_eq_true rfl)⟩ ⟨Nat.zero_le _, Nat.zero_le _⟩ dX12_paceOf_13 ?_
      refine A_icmple (pc := 16) 29 dX12_paceOf_16 (by decide) (fun hb16 => ?_) (fun hb16 => ?_)
      · exact out (k + 1) w q (fun h => absurd h.2 (Int32.not_lt.mpr hb16)) hq
      · refine A_inc2 (pc := 19) _ dX12_paceOf_19 rfl (Nat.le_of_ble_eq_true rfl) rfl ?_
        refine A_iload_n (pc := 22) (i := 3) dX12_paceOf_22 rfl rfl ?_
        refine A_iconst (pc := 23) (2) dX12_paceOf_23 (by decide) ?_
        refine A_idiv (pc := 24) dX12_paceOf_24 (by decide) ?_
        refine A_ist3 (pc := 25) dX12_paceOf_25 (Nat.le_of_ble_eq_true rfl) rfl ?_
        refine A_goto (pc := 26) 9 dX12_paceOf_26 (by decide) ?_
        refine ih _ _ ?_ ?_
        · rw [rg_half (pos w hb16)]; rw [Int.pow_succ] at hw; omega
        · rw [← hq, rg_fac, if_pos ⟨pos w hb16, Int32.not_le.mp hb16⟩]; rfl
  refine A_iconst (pc := 0) (3) dX12_paceOf_0 (by decide) ?_
  refine A_ist2 (pc := 1) dX12_paceOf_1 (Nat.le_of_ble_eq_true rfl) rfl ?_
  refine A_aload_n (pc := 2) (i := 0) dX12_paceOf_2 rfl rfl ?_
  refine A_iload_n (pc := 3) (i := 1) dX12_paceOf_3 rfl rfl ?_
  refine A_iconst (pc := 4) (4) dX12_paceOf_4 (by decide) ?_
  refine A_callS1 (pc := 5) cs_X12_73 (r_of l m hm a ha 4 5 rfl (by decide)) rfl rfl (Nat.le_of_ble_eq_true rfl) ⟨(Nat.le_of_ble_eq_true rfl), (Nat.le_of_ble_eq_true rfl)⟩ ⟨Nat.zero_le _, Nat.zero_le _⟩ dX12_paceOf_5 ?_
  refine A_ist3 (pc := 8) dX12_paceOf_8 (Nat.le_of_ble_eq_true rfl) rfl ?_
  exact loop 40 _ _ (by have := fb_rng (rf iv m a 5); omega) rfl
