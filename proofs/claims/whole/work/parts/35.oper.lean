theorem tp_ab_q {n c s : am_N} (hnc : n ≠ c) (rk : Int32) (t : Nat) : ∀ (z : Nat) (iv : am_iv), tq n t z iv → ∃ t' z', t' ≤ t ∧ tq n t' z' (tp_ab n c s rk t z iv) := by
  induction t with
  | zero => intro z iv h; exact ⟨0, z, Nat.le_refl 0, h⟩
  | succ t ih =>
    intro z iv h
    unfold tp_ab
    split
    · obtain ⟨t', z', h1, h2⟩ := ih (tp_z z) _ (h.pop hnc)
      exact ⟨t', z', by omega, h2⟩
    · exact ⟨t + 1, z, Nat.le_refl _, h⟩
def tp_close (n c s : am_N) (t z : Nat) (iv : am_iv) : Int32 × am_iv := if tp_ab n c s 0 t z iv n 3 = 0 then (0, tp_ab n c s 0 t z iv) else (1, am_ui (am_ui (tp_ab n c s 0 t z iv) n 3 (tp_ab n c s 0 t z iv n 3 - 1)) n 4 (tp_ab n c s 0 t z iv n 4 - 1))
def tp_comp (n c s : am_N) (t z : Nat) (iv : am_iv) : Int32 := if tp_ab n c s 0 t z iv n 6 = 0 ∧ tp_ab n c s 0 t z iv n 3 = 0 then 1 else 0
def tp_digit (n c : am_N) (z : Nat) (g : Int32) (iv : am_iv) : Int32 × am_iv := if iv n 5 = 0 ∨ 4 ≤ iv n 5 ∨ z = 0 then (0, iv) else (1, am_ui (am_ui iv n 5 (iv n 5 + 1)) c (z - 1) (iv c (z - 1) * 10 + g - 48))
set_option maxRecDepth 20000 in
theorem s_txclose (l : Launch) {kd : am_kd} {rv : am_rv} {iv : am_iv} (n c s : am_N) (ht : tx_ok kd rv n c s) (t z : Nat) (hq : tq n t z iv) : am_Met l mX7_takesClose (am_rm 3 0 0) [am_P n] kd rv iv (am_ret (some (am_I (tp_close n c s t z iv).1)) kd rv (tp_close n c s t z iv).2) := by
  refine am_Met.of (by decide) (Nat.le_of_ble_eq_true rfl) rfl ?_
  refine A_aload_n (pc := 0) (i := 0) dX7_takesClose_0 rfl rfl ?_
  refine A_iconst (pc := 1) (0) dX7_takesClose_1 (by decide) ?_
  refine A_callV0 (pc := 2) cv_X7_84 (s_txabove l n c s ht t z hq 0) ht.1 rfl rfl rfl rfl (Nat.le_of_ble_eq_true rfl) ⟨(Nat.le_of_ble_eq_true rfl), (Nat.le_of_ble_eq_true rfl)⟩ ⟨Nat.zero_le _, Nat.zero_le _⟩ dX7_takesClose_2 ?_
  refine A_aload_n (pc := 5) (i := 0) dX7_takesClose_5 rfl rfl ?_
  refine A_geti (pc := 6) 3 fl_X7_28_7 ht.1 rfl dX7_takesClose_6 ?_
  refine A_ifne (pc := 9) 14 dX7_takesClose_9 (by decide) (fun hb9 => ?_) (fun hb9 => ?_)
  · refine A_aload_n (pc := 14) (i := 0) dX7_takesClose_14 rfl rfl ?_
    refine A_dup (pc := 15) dX7_takesClose_15 rfl ?_
    refine A_geti (pc := 16) 3 fl_X7_28_7 ht.1 rfl dX7_takesClose_16 ?_
    refine A_iconst (pc := 19) (1) dX7_takesClose_19 (by decide) ?_
    refine A_isub (pc := 20) dX7_takesClose_20 ?_
    refine A_puti (pc := 21) 3 fl_X7_28_7 ht.1 rfl (by decide +kernel) rfl rfl dX7_takesClose_21 ?_
    refine A_aload_n (pc := 24) (i := 0) dX7_takesClose_24 rfl rfl ?_
    refine A_dup (pc := 25) dX7_takesClose_25 rfl ?_
    refine A_geti (pc := 26) 4 fl_X7_31_7 ht.1 rfl dX7_takesClose_26 ?_
    refine A_top (am_ui_n (by simp)) ?_
    refine A_iconst (pc := 29) (1) dX7_takesClose_29 (by decide) ?_
    refine A_isub (pc := 30) dX7_takesClose_30 ?_
    refine A_puti (pc := 31) 4 fl_X7_31_7 ht.1 rfl (by decide +kernel) rfl rfl dX7_takesClose_31 ?_
    refine A_iconst (pc := 34) (1) dX7_takesClose_34 (by decide) ?_
    exact A_zretE (pc := 35) dX7_takesClose_35 rfl (by first | exact A_zn0 | exact A_zn1 | exact A_znif _) (Nat.zero_le _) (Nat.zero_le _) (by rw [tp_close, if_neg hb9]) (by rw [tp_close, if_neg hb9])
  · refine A_iconst (pc := 12) (0) dX7_takesClose_12 (by decide) ?_
    exact A_zretE (pc := 13) dX7_takesClose_13 rfl (by first | exact A_zn0 | exact A_zn1 | exact A_znif _) (Nat.zero_le _) (Nat.zero_le _) (by rw [tp_close, if_pos hb9]) (by rw [tp_close, if_pos hb9])
set_option maxRecDepth 20000 in
theorem s_txcomp (l : Launch) {kd : am_kd} {rv : am_rv} {iv : am_iv} (n c s : am_N) (ht : tx_ok kd rv n c s) (t z : Nat) (hq : tq n t z iv) : am_Met l mX7_isComplete (am_rm 3 0 0) [am_P n] kd rv iv (am_ret (some (am_I (tp_comp n c s t z iv))) kd rv (tp_ab n c s 0 t z iv)) := by
  refine am_Met.of (by decide) (Nat.le_of_ble_eq_true rfl) rfl ?_
  refine A_aload_n (pc := 0) (i := 0) dX7_isComplete_0 rfl rfl ?_
  refine A_iconst (pc := 1) (0) dX7_isComplete_1 (by decide) ?_
  refine A_callV0 (pc := 2) cv_X7_84 (s_txabove l n c s ht t z hq 0) ht.1 rfl rfl rfl rfl (Nat.le_of_ble_eq_true rfl) ⟨(Nat.le_of_ble_eq_true rfl), (Nat.le_of_ble_eq_true rfl)⟩ ⟨Nat.zero_le _, Nat.zero_le _⟩ dX7_isComplete_2 ?_
  refine A_aload_n (pc := 5) (i := 0) dX7_isComplete_5 rfl rfl ?_
  refine A_geti (pc := 6) 6 fl_X7_37_7 ht.1 rfl dX7_isComplete_6 ?_
  refine A_ifne (pc := 9) 23 dX7_isComplete_9 (by decide) (fun hb9 => ?_) (fun hb9 => ?_)
  · refine A_iconst (pc := 23) (0) dX7_isComplete_23 (by decide) ?_
    exact A_zretE (pc := 24) dX7_isComplete_24 rfl (by first | exact A_zn0 | exact A_zn1 | exact A_znif _) (Nat.zero_le _) (Nat.zero_le _) ((if_neg (fun h => hb9 h.1)).symm) (rfl)
  · refine A_aload_n (pc := 12) (i := 0) dX7_isComplete_12 rfl rfl ?_
    refine A_geti (pc := 13) 3 fl_X7_28_7 ht.1 rfl dX7_isComplete_13 ?_
    refine A_ifne (pc := 16) 23 dX7_isComplete_16 (by decide) (fun hb16 => ?_) (fun hb16 => ?_)
    · refine A_iconst (pc := 23) (0) dX7_isComplete_23 (by decide) ?_
      exact A_zretE (pc := 24) dX7_isComplete_24 rfl (by first | exact A_zn0 | exact A_zn1 | exact A_znif _) (Nat.zero_le _) (Nat.zero_le _) ((if_neg (fun h => hb16 h.2)).symm) (rfl)
    · refine A_iconst (pc := 19) (1) dX7_isComplete_19 (by decide) ?_
      refine A_goto (pc := 20) 24 dX7_isComplete_20 (by decide) ?_
      exact A_zretE (pc := 24) dX7_isComplete_24 rfl (by first | exact A_zn0 | exact A_zn1 | exact A_znif _) (Nat.zero_le _) (Nat.zero_le _) ((if_pos ⟨hb9, hb16⟩).symm) (rfl)
set_option maxRecDepth 20000 in
theorem s_txdigit (l : Launch) {kd : am_kd} {rv : am_rv} {iv : am_iv} (n c s : am_N) (ht : tx_ok kd rv n c s) (z : Nat) (hz : iv n 1 = nI z) (hz50 : z ≤ 50) (g : Int32) : am_Met l mX7_takesDigit (am_rm 0 0 0) [am_P n, am_I g] kd rv iv (am_ret (some (am_I (tp_digit n c z g iv).1)) kd rv (tp_digit n c z g iv).2) := by
  refine am_Met.of (by decide) (Nat.le_of_ble_eq_true rfl) rfl ?_
  refine A_aload_n (pc := 0) (i := 0) dX7_takesDigit_0 rfl rfl ?_
  refine A_geti (pc := 1) 5 fl_X7_34_7 ht.1 rfl dX7_takesDigit_1 ?_
  refine A_ifeq (pc := 4) 22 dX7_takesDigit_4 (by decide) (fun hb4 => ?_) (fun hb4 => ?_)
  · refine A_iconst (pc := 22) (0) dX7_takesDigit_22 (by decide) ?_
    exact A_zretE (pc := 23) dX7_takesDigit_23 rfl (by first | exact A_zn0 | exact A_zn1 | exact A_znif _) (Nat.zero_le _) (Nat.zero_le _) (by rw [tp_digit, if_pos (Or.inl hb4)]) (by rw [tp_digit, if_pos (Or.inl hb4)])
  · refine A_aload_n (pc := 7) (i := 0) dX7_takesDigit_7 rfl rfl ?_
    refine A_geti (pc := 8) 5 fl_X7_34_7 ht.1 rfl dX7_takesDigit_8 ?_
    refine A_iconst (pc := 11) (4) dX7_takesDigit_11 (by decide) ?_
    refine A_icmpge (pc := 12) 22 dX7_takesDigit_12 (by decide) (fun hb12 => ?_) (fun hb12 => ?_)
    · refine A_iconst (pc := 22) (0) dX7_takesDigit_22 (by decide) ?_
      exact A_zretE (pc := 23) dX7_takesDigit_23 rfl (by first | exact A_zn0 | exact A_zn1 | exact A_znif _) (Nat.zero_le _) (Nat.zero_le _) (by rw [tp_digit, if_pos (Or.inr (Or.inl hb12))]) (by rw [tp_digit, if_pos (Or.inr (Or.inl hb12))])
    · refine A_aload_n (pc := 15) (i := 0) dX7_takesDigit_15 rfl rfl ?_
      refine A_geti (pc := 16) 1 fl_X7_18_7 ht.1 rfl dX7_takesDigit_16 ?_
      refine A_top hz ?_
      refine A_ifne (pc := 19) 24 dX7_takesDigit_19 (by decide) (fun hb19 => ?_) (fun hb19 => ?_)
      · have zn : ¬ z = 0 := fun h => hb19 (by rw [h]; rfl)
        refine A_aload_n (pc := 24) (i := 0) dX7_takesDigit_24 rfl rfl ?_
        refine A_dup (pc := 25) dX7_takesDigit_25 rfl ?_
        refine A_geti (pc := 26) 5 fl_X7_34_7 ht.1 rfl dX7_takesDigit_26 ?_
        refine A_iconst (pc := 29) (1) dX7_takesDigit_29 (by decide) ?_
        refine A_iadd (pc := 30) dX7_takesDigit_30 ?_
        refine A_puti (pc := 31) 5 fl_X7_34_7 ht.1 rfl (by decide +kernel) rfl rfl dX7_takesDigit_31 ?_
        refine A_aload_n (pc := 34) (i := 0) dX7_takesDigit_34 rfl rfl ?_
        refine A_getr (pc := 35) 0 fl_X7_9_7 ht.1 rfl ht.2.1 dX7_takesDigit_35 ?_
        refine A_aload_n (pc := 38) (i := 0) dX7_takesDigit_38 rfl rfl ?_
        refine A_geti (pc := 39) 1 fl_X7_18_7 ht.1 rfl dX7_takesDigit_39 ?_
        refine A_top (y := nI z) ((am_ui_n (by simp)).trans hz) ?_
        refine A_iconst (pc := 42) (1) dX7_takesDigit_42 (by decide) ?_
        refine A_isub (pc := 43) dX7_takesDigit_43 ?_
        refine A_top (nI_m1 (show 1 ≤ z by omega)) ?_
        refine A_aload_n (pc := 44) (i := 0) dX7_takesDigit_44 rfl rfl ?_
        refine A_getr (pc := 45) 0 fl_X7_9_7 ht.1 rfl ht.2.1 dX7_takesDigit_45 ?_
        refine A_aload_n (pc := 48) (i := 0) dX7_takesDigit_48 rfl rfl ?_
        refine A_geti (pc := 49) 1 fl_X7_18_7 ht.1 rfl dX7_takesDigit_49 ?_
        refine A_top (y := nI z) ((am_ui_n (by simp)).trans hz) ?_
        refine A_iconst (pc := 52) (1) dX7_takesDigit_52 (by decide) ?_
        refine A_isub (pc := 53) dX7_takesDigit_53 ?_
        refine A_top (nI_m1 (show 1 ≤ z by omega)) ?_
        refine A_ialdN (pc := 54) ht.2.2.2.1 (show z - 1 < 50 by omega) (by decide) dX7_takesDigit_54 ?_
        refine A_top (am_ui_o (fun e => ht.2.2.2.2.2.1 e.symm)) ?_
        refine A_bipush (pc := 55) (10) dX7_takesDigit_55 (by decide) ?_
        refine A_imul (pc := 57) dX7_takesDigit_57 ?_
        refine A_iload_n (pc := 58) (i := 1) dX7_takesDigit_58 rfl rfl ?_
        refine A_iadd (pc := 59) dX7_takesDigit_59 ?_
        refine A_bipush (pc := 60) (48) dX7_takesDigit_60 (by decide) ?_
        refine A_isub (pc := 62) dX7_takesDigit_62 ?_
        refine A_iastN (pc := 63) ht.2.2.2.1 (show z - 1 < 50 by omega) (by decide) dX7_takesDigit_63 ?_
        refine A_iconst (pc := 64) (1) dX7_takesDigit_64 (by decide) ?_
        exact A_zretE (pc := 65) dX7_takesDigit_65 rfl (by first | exact A_zn0 | exact A_zn1 | exact A_znif _) (Nat.zero_le _) (Nat.zero_le _) (by rw [tp_digit, if_neg (fun h => h.elim hb4 (fun h => h.elim hb12 zn))]) (by rw [tp_digit, if_neg (fun h => h.elim hb4 (fun h => h.elim hb12 zn))])
      · have z0 : z = 0 := by have h := (nI_lit (a := z) (c := 0) (by omega) (by decide)).mp hb19; exact h
        refine A_iconst (pc := 22) (0) dX7_takesDigit_22 (by decide) ?_
        exact A_zretE (pc := 23) dX7_takesDigit_23 rfl (by first | exact A_zn0 | exact A_zn1 | exact A_znif _) (Nat.zero_le _) (Nat.zero_le _) (by rw [tp_digit, if_pos (Or.inr (Or.inr z0))]) (by rw [tp_digit, if_pos (Or.inr (Or.inr z0))])
def tp_fin (n s : am_N) (g : Int32) (w : am_iv) : am_iv := am_ui (tx_push n s (w n 3).toNatClampNeg g w) n 6 1
def tp_oper (n c s : am_N) (t z : Nat) (g : Int32) (iv : am_iv) : Int32 × am_iv :=
  if 48 ≤ g ∧ g ≤ 57 then tp_digit n c z g iv
  else if g = 41 then tp_close n c s t z (am_ui iv n 5 0)
  else if tx_rank g = 0 ∨ g = 33 then (0, am_ui iv n 5 0)
  else if ¬ tp_ab n c s (tx_rank g) t z (am_ui iv n 5 0) n 3 ≤ 0 ∧ tx_rank (tp_ab n c s (tx_rank g) t z (am_ui iv n 5 0) s ((tp_ab n c s (tx_rank g) t z (am_ui iv n 5 0) n 3).toNatClampNeg - 1)) = tx_rank g then
    (if tx_rank g = 3 then (0, tp_ab n c s (tx_rank g) t z (am_ui iv n 5 0)) else (1, tp_fin n s g (tp_pop n c s (tp_ab n c s (tx_rank g) t z (am_ui iv n 5 0) n 3).toNatClampNeg (tp_ab n c s (tx_rank g) t z (am_ui iv n 5 0) n 1).toNatClampNeg (tp_ab n c s (tx_rank g) t z (am_ui iv n 5 0)))))
  else (1, tp_fin n s g (tp_ab n c s (tx_rank g) t z (am_ui iv n 5 0)))
set_option maxRecDepth 20000 in
theorem s_txoper (l : Launch) {kd : am_kd} {rv : am_rv} {iv : am_iv} (n c s : am_N) (ht : tx_ok kd rv n c s) (t z : Nat) (hq : tq n t z iv) (g : Int32) : am_Met l mX7_takesOperator (am_rm 4 0 0) [am_P n, am_I g] kd rv iv (am_ret (some (am_I (tp_oper n c s t z g iv).1)) kd rv (tp_oper n c s t z g iv).2) := by
  refine am_Met.of (by decide) (Nat.le_of_ble_eq_true rfl) rfl ?_
  refine A_iload_n (pc := 0) (i := 1) dX7_takesOperator_0 rfl rfl ?_
  refine A_callS1 (pc := 1) cs_X7_63 (s_isDigit l g) rfl rfl (Nat.le_of_ble_eq_true rfl) ⟨(Nat.le_of_ble_eq_true rfl), (Nat.le_of_ble_eq_true rfl)⟩ ⟨Nat.zero_le _, Nat.zero_le _⟩ dX7_takesOperator_1 ?_
  refine A_ifeq (pc := 4) 13 dX7_takesOperator_4 (by decide) (fun hb4 => ?_) (fun hb4 => ?_)
  · refine A_aload_n (pc := 13) (i := 0) dX7_takesOperator_13 rfl rfl ?_
    refine A_iconst (pc := 14) (0) dX7_takesOperator_14 (by decide) ?_
    refine A_puti (pc := 15) 5 fl_X7_34_7 ht.1 rfl (by decide +kernel) rfl rfl dX7_takesOperator_15 ?_
    have hq1 : tq n t z (am_ui iv n 5 0) := ⟨(am_ui_n (by simp)).trans hq.1, hq.2.1, (am_ui_n (by simp)).trans hq.2.2.1, hq.2.2.2⟩
    refine A_iload_n (pc := 18) (i := 1) dX7_takesOperator_18 rfl rfl ?_
    refine A_bipush (pc := 19) (41) dX7_takesOperator_19 (by decide) ?_
    refine A_icmpne (pc := 21) 29 dX7_takesOperator_21 (by decide) (fun hb21 => ?_) (fun hb21 => ?_)
    · refine A_iload_n (pc := 29) (i := 1) dX7_takesOperator_29 rfl rfl ?_
      refine A_callS1 (pc := 30) cs_X7_81 (s_txrank l g) rfl rfl (Nat.le_of_ble_eq_true rfl) ⟨(Nat.le_of_ble_eq_true rfl), (Nat.le_of_ble_eq_true rfl)⟩ ⟨Nat.zero_le _, Nat.zero_le _⟩ dX7_takesOperator_30 ?_
      refine A_ist2 (pc := 33) dX7_takesOperator_33 (Nat.le_of_ble_eq_true rfl) rfl ?_
      refine A_iload_n (pc := 34) (i := 2) dX7_takesOperator_34 rfl rfl ?_
      refine A_ifeq (pc := 35) 44 dX7_takesOperator_35 (by decide) (fun hb35 => ?_) (fun hb35 => ?_)
      · refine A_iconst (pc := 44) (0) dX7_takesOperator_44 (by decide) ?_
        exact A_zretE (pc := 45) dX7_takesOperator_45 rfl (by first | exact A_zn0 | exact A_zn1 | exact A_znif _) (Nat.zero_le _) (Nat.zero_le _) (by rw [tp_oper, if_neg (show ¬ (48 ≤ g ∧ g ≤ 57) from (sr_b_0 _).mp hb4), if_neg hb21, if_pos (Or.inl hb35)]) (by rw [tp_oper, if_neg (show ¬ (48 ≤ g ∧ g ≤ 57) from (sr_b_0 _).mp hb4), if_neg hb21, if_pos (Or.inl hb35)])
      · refine A_iload_n (pc := 38) (i := 1) dX7_takesOperator_38 rfl rfl ?_
        refine A_bipush (pc := 39) (33) dX7_takesOperator_39 (by decide) ?_
        refine A_icmpne (pc := 41) 46 dX7_takesOperator_41 (by decide) (fun hb41 => ?_) (fun hb41 => ?_)
        · refine A_aload_n (pc := 46) (i := 0) dX7_takesOperator_46 rfl rfl ?_
          refine A_iload_n (pc := 47) (i := 2) dX7_takesOperator_47 rfl rfl ?_
          refine A_callV0 (pc := 48) cv_X7_84 (s_txabove l n c s ht t z hq1 (tx_rank g)) ht.1 rfl rfl rfl rfl (Nat.le_of_ble_eq_true rfl) ⟨(Nat.le_of_ble_eq_true rfl), (Nat.le_of_ble_eq_true rfl)⟩ ⟨Nat.zero_le _, Nat.zero_le _⟩ dX7_takesOperator_48 ?_
          obtain ⟨t', z', ht', hw⟩ := tp_ab_q (n := n) (c := c) (s := s) ht.2.2.2.2.2.1 (tx_rank g) t z (am_ui iv n 5 0) hq1
          have e3 : ((tp_ab n c s (tx_rank g) t z (am_ui iv n 5 0)) n 3).toNatClampNeg = t' := by rw [hw.1]; exact nI_clamp (by have := hw.2.1; omega)
          have e1 : ((tp_ab n c s (tx_rank g) t z (am_ui iv n 5 0)) n 1).toNatClampNeg = z' := by rw [hw.2.2.1]; exact nI_clamp (by have := hw.2.2.2; omega)
          refine A_aload_n (pc := 51) (i := 0) dX7_takesOperator_51 rfl rfl ?_
          refine A_geti (pc := 52) 3 fl_X7_28_7 ht.1 rfl dX7_takesOperator_52 ?_
          refine A_ifle (pc := 55) 87 dX7_takesOperator_55 (by decide) (fun hb55 => ?_) (fun hb55 => ?_)
          · refine A_aload_n (pc := 87) (i := 0) dX7_takesOperator_87 rfl rfl ?_
            refine A_iload_n (pc := 88) (i := 1) dX7_takesOperator_88 rfl rfl ?_
            refine A_callV0 (pc := 89) cv_X7_59 (s_txpush l n c s ht ((tp_ab n c s (tx_rank g) t z (am_ui iv n 5 0)) n 3).toNatClampNeg (by rw [e3]; exact hw.1) (by rw [e3]; exact hw.2.1) g) ht.1 rfl rfl rfl rfl (Nat.le_of_ble_eq_true rfl) ⟨(Nat.le_of_ble_eq_true rfl), (Nat.le_of_ble_eq_true rfl)⟩ ⟨Nat.zero_le _, Nat.zero_le _⟩ dX7_takesOperator_89 ?_
            refine A_aload_n (pc := 92) (i := 0) dX7_takesOperator_92 rfl rfl ?_
            refine A_iconst (pc := 93) (1) dX7_takesOperator_93 (by decide) ?_
            refine A_puti (pc := 94) 6 fl_X7_37_7 ht.1 rfl (by decide +kernel) A_zn1 rfl dX7_takesOperator_94 ?_
            refine A_iconst (pc := 97) (1) dX7_takesOperator_97 (by decide) ?_
            exact A_zretE (pc := 98) dX7_takesOperator_98 rfl (by first | exact A_zn0 | exact A_zn1 | exact A_znif _) (Nat.zero_le _) (Nat.zero_le _) (by rw [tp_oper, if_neg (show ¬ (48 ≤ g ∧ g ≤ 57) from (sr_b_0 _).mp hb4), if_neg hb21, if_neg (fun h => h.elim hb35 hb41), if_neg (fun h => h.1 hb55)]) (by rw [tp_oper, if_neg (show ¬ (48 ≤ g ∧ g ≤ 57) from (sr_b_0 _).mp hb4), if_neg hb21, if_neg (fun h => h.elim hb35 hb41), if_neg (fun h => h.1 hb55)]; rfl)
          · have t0 : 0 < t' := by
              rcases Nat.eq_zero_or_pos t' with h | h
              · exact absurd (by rw [hw.1, h]; decide) hb55
              · exact h
            refine A_aload_n (pc := 58) (i := 0) dX7_takesOperator_58 rfl rfl ?_
            refine A_getr (pc := 59) 2 fl_X7_15_7 ht.1 rfl ht.2.2.1 dX7_takesOperator_59 ?_
            refine A_aload_n (pc := 62) (i := 0) dX7_takesOperator_62 rfl rfl ?_
            refine A_geti (pc := 63) 3 fl_X7_28_7 ht.1 rfl dX7_takesOperator_63 ?_
            refine A_top (show _ = nI ((tp_ab n c s (tx_rank g) t z (am_ui iv n 5 0)) n 3).toNatClampNeg from (by rw [e3]; exact hw.1)) ?_
            refine A_iconst (pc := 66) (1) dX7_takesOperator_66 (by decide) ?_
            refine A_isub (pc := 67) dX7_takesOperator_67 ?_
            refine A_top (nI_m1 (show 1 ≤ ((tp_ab n c s (tx_rank g) t z (am_ui iv n 5 0)) n 3).toNatClampNeg by rw [e3]; exact t0)) ?_
            refine A_ialdN (pc := 68) ht.2.2.2.2.1 (show ((tp_ab n c s (tx_rank g) t z (am_ui iv n 5 0)) n 3).toNatClampNeg - 1 < 50 by rw [e3]; have := hw.2.1; omega) (by decide) dX7_takesOperator_68 ?_
            refine A_callS1 (pc := 69) cs_X7_81 (s_txrank l _) rfl rfl (Nat.le_of_ble_eq_true rfl) ⟨(Nat.le_of_ble_eq_true rfl), (Nat.le_of_ble_eq_true rfl)⟩ ⟨Nat.zero_le _, Nat.zero_le _⟩ dX7_takesOperator_69 ?_
            refine A_iload_n (pc := 72) (i := 2) dX7_takesOperator_72 rfl rfl ?_
            refine A_icmpne (pc := 73) 87 dX7_takesOperator_73 (by decide) (fun hb73 => ?_) (fun hb73 => ?_)
            · refine A_aload_n (pc := 87) (i := 0) dX7_takesOperator_87 rfl rfl ?_
              refine A_iload_n (pc := 88) (i := 1) dX7_takesOperator_88 rfl rfl ?_
              refine A_callV0 (pc := 89) cv_X7_59 (s_txpush l n c s ht ((tp_ab n c s (tx_rank g) t z (am_ui iv n 5 0)) n 3).toNatClampNeg (by rw [e3]; exact hw.1) (by rw [e3]; exact hw.2.1) g) ht.1 rfl rfl rfl rfl (Nat.le_of_ble_eq_true rfl) ⟨(Nat.le_of_ble_eq_true rfl), (Nat.le_of_ble_eq_true rfl)⟩ ⟨Nat.zero_le _, Nat.zero_le _⟩ dX7_takesOperator_89 ?_
              refine A_aload_n (pc := 92) (i := 0) dX7_takesOperator_92 rfl rfl ?_
              refine A_iconst (pc := 93) (1) dX7_takesOperator_93 (by decide) ?_
              refine A_puti (pc := 94) 6 fl_X7_37_7 ht.1 rfl (by decide +kernel) A_zn1 rfl dX7_takesOperator_94 ?_
              refine A_iconst (pc := 97) (1) dX7_takesOperator_97 (by decide) ?_
              exact A_zretE (pc := 98) dX7_takesOperator_98 rfl (by first | exact A_zn0 | exact A_zn1 | exact A_znif _) (Nat.zero_le _) (Nat.zero_le _) (by rw [tp_oper, if_neg (show ¬ (48 ≤ g ∧ g ≤ 57) from (sr_b_0 _).mp hb4), if_neg hb21, if_neg (fun h => h.elim hb35 hb41), if_neg (fun h => hb73 h.2)]) (by rw [tp_oper, if_neg (show ¬ (48 ≤ g ∧ g ≤ 57) from (sr_b_0 _).mp hb4), if_neg hb21, if_neg (fun h => h.elim hb35 hb41), if_neg (fun h => hb73 h.2)]; rfl)
            · have hc := And.intro hb55 hb73
              refine A_iload_n (pc := 76) (i := 2) dX7_takesOperator_76 rfl rfl ?_
              refine A_iconst (pc := 77) (3) dX7_takesOperator_77 (by decide) ?_
              refine A_icmpne (pc := 78) 83 dX7_takesOperator_78 (by decide) (fun hb78 => ?_) (fun hb78 => ?_)
              · refine A_aload_n (pc := 83) (i := 0) dX7_takesOperator_83 rfl rfl ?_
                refine A_callV0 (pc := 84) cv_X7_87 (s_txpop l n c s ht ((tp_ab n c s (tx_rank g) t z (am_ui iv n 5 0)) n 3).toNatClampNeg ((tp_ab n c s (tx_rank g) t z (am_ui iv n 5 0)) n 1).toNatClampNeg (by rw [e3, e1]; exact hw) (by rw [e3]; exact t0)) ht.1 rfl rfl rfl rfl (Nat.le_of_ble_eq_true rfl) ⟨(Nat.le_of_ble_eq_true rfl), (Nat.le_of_ble_eq_true rfl)⟩ ⟨Nat.zero_le _, Nat.zero_le _⟩ dX7_takesOperator_84 ?_
                refine A_aload_n (pc := 87) (i := 0) dX7_takesOperator_87 rfl rfl ?_
                refine A_iload_n (pc := 88) (i := 1) dX7_takesOperator_88 rfl rfl ?_
                refine A_callV0 (pc := 89) cv_X7_59 (s_txpush l n c s ht (tp_pop n c s ((tp_ab n c s (tx_rank g) t z (am_ui iv n 5 0)) n 3).toNatClampNeg ((tp_ab n c s (tx_rank g) t z (am_ui iv n 5 0)) n 1).toNatClampNeg (tp_ab n c s (tx_rank g) t z (am_ui iv n 5 0)) n 3).toNatClampNeg (by rw [e3, e1, (hw.pop ht.2.2.2.2.2.1).1, nI_clamp (by have := hw.2.1; omega)]) (by rw [e3, e1, (hw.pop ht.2.2.2.2.2.1).1, nI_clamp (by have := hw.2.1; omega)]; have := hw.2.1; omega) g) ht.1 rfl rfl rfl rfl (Nat.le_of_ble_eq_true rfl) ⟨(Nat.le_of_ble_eq_true rfl), (Nat.le_of_ble_eq_true rfl)⟩ ⟨Nat.zero_le _, Nat.zero_le _⟩ dX7_takesOperator_89 ?_
                refine A_aload_n (pc := 92) (i := 0) dX7_takesOperator_92 rfl rfl ?_
                refine A_iconst (pc := 93) (1) dX7_takesOperator_93 (by decide) ?_
                refine A_puti (pc := 94) 6 fl_X7_37_7 ht.1 rfl (by decide +kernel) A_zn1 rfl dX7_takesOperator_94 ?_
                refine A_iconst (pc := 97) (1) dX7_takesOperator_97 (by decide) ?_
                exact A_zretE (pc := 98) dX7_takesOperator_98 rfl (by first | exact A_zn0 | exact A_zn1 | exact A_znif _) (Nat.zero_le _) (Nat.zero_le _) (by rw [tp_oper, if_neg (show ¬ (48 ≤ g ∧ g ≤ 57) from (sr_b_0 _).mp hb4), if_neg hb21, if_neg (fun h => h.elim hb35 hb41), if_pos hc, if_neg hb78]) (by rw [tp_oper, if_neg (show ¬ (48 ≤ g ∧ g ≤ 57) from (sr_b_0 _).mp hb4), if_neg hb21, if_neg (fun h => h.elim hb35 hb41), if_pos hc, if_neg hb78]; rfl)
              · refine A_iconst (pc := 81) (0) dX7_takesOperator_81 (by decide) ?_
                exact A_zretE (pc := 82) dX7_takesOperator_82 rfl (by first | exact A_zn0 | exact A_zn1 | exact A_znif _) (Nat.zero_le _) (Nat.zero_le _) (by rw [tp_oper, if_neg (show ¬ (48 ≤ g ∧ g ≤ 57) from (sr_b_0 _).mp hb4), if_neg hb21, if_neg (fun h => h.elim hb35 hb41), if_pos hc, if_pos hb78]) (by rw [tp_oper, if_neg (show ¬ (48 ≤ g ∧ g ≤ 57) from (sr_b_0 _).mp hb4), if_neg hb21, if_neg (fun h => h.elim hb35 hb41), if_pos hc, if_pos hb78])
        · refine A_iconst (pc := 44) (0) dX7_takesOperator_44 (by decide) ?_
          exact A_zretE (pc := 45) dX7_takesOperator_45 rfl (by first | exact A_zn0 | exact A_zn1 | exact A_znif _) (Nat.zero_le _) (Nat.zero_le _) (by rw [tp_oper, if_neg (show ¬ (48 ≤ g ∧ g ≤ 57) from (sr_b_0 _).mp hb4), if_neg hb21, if_pos (Or.inr hb41)]) (by rw [tp_oper, if_neg (show ¬ (48 ≤ g ∧ g ≤ 57) from (sr_b_0 _).mp hb4), if_neg hb21, if_pos (Or.inr hb41)])
    · refine A_aload_n (pc := 24) (i := 0) dX7_takesOperator_24 rfl rfl ?_
      refine A_callV1 (pc := 25) cv_X7_78 (s_txclose l n c s ht t z hq1) ht.1 rfl rfl rfl rfl (Nat.le_of_ble_eq_true rfl) ⟨(Nat.le_of_ble_eq_true rfl), (Nat.le_of_ble_eq_true rfl)⟩ ⟨Nat.zero_le _, Nat.zero_le _⟩ dX7_takesOperator_25 ?_
      have tz : (tp_close n c s t z (am_ui iv n 5 0)).1 = 0 ∨ (tp_close n c s t z (am_ui iv n 5 0)).1 = 1 := by unfold tp_close; split <;> simp
      exact A_zretE (pc := 28) dX7_takesOperator_28 rfl (A_zb tz).1 (Nat.zero_le _) (Nat.zero_le _) (by rw [tp_oper, if_neg (show ¬ (48 ≤ g ∧ g ≤ 57) from (sr_b_0 _).mp hb4), if_pos hb21]) (by rw [tp_oper, if_neg (show ¬ (48 ≤ g ∧ g ≤ 57) from (sr_b_0 _).mp hb4), if_pos hb21])
  · refine A_aload_n (pc := 7) (i := 0) dX7_takesOperator_7 rfl rfl ?_
    refine A_iload_n (pc := 8) (i := 1) dX7_takesOperator_8 rfl rfl ?_
    refine A_callV1 (pc := 9) cv_X7_75 (s_txdigit l n c s ht z hq.2.2.1 hq.2.2.2 g) ht.1 rfl rfl rfl rfl (Nat.le_of_ble_eq_true rfl) ⟨(Nat.le_of_ble_eq_true rfl), (Nat.le_of_ble_eq_true rfl)⟩ ⟨Nat.zero_le _, Nat.zero_le _⟩ dX7_takesOperator_9 ?_
    have tz : (tp_digit n c z g iv).1 = 0 ∨ (tp_digit n c z g iv).1 = 1 := by unfold tp_digit; split <;> simp
    exact A_zretE (pc := 12) dX7_takesOperator_12 rfl (A_zb tz).1 (Nat.zero_le _) (Nat.zero_le _) (by rw [tp_oper, if_pos (Classical.not_not.mp (fun h => hb4 ((sr_b_0 _).mpr h)))]) (by rw [tp_oper, if_pos (Classical.not_not.mp (fun h => hb4 ((sr_b_0 _).mpr h)))])
