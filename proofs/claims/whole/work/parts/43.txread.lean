theorem i2c_id : ∀ k : Nat, k < 256 → ((nI k).toUInt32 % 65536).toInt32 = nI k := by decide +kernel
theorem i2c_by {g : Int32} (h0 : 0 ≤ g) (h1 : g ≤ 255) : (g.toUInt32 % 65536).toInt32 = g := by
  obtain ⟨k, hk, rfl⟩ := sx_n h0 h1
  exact i2c_id k hk
theorem tx_push_o {n s q : am_N} {t k : Nat} {v : Int32} {iv : am_iv} (h1 : q ≠ s) (h2 : ¬ (q = n ∧ k = 3)) : tx_push n s t v iv q k = iv q k := by
  unfold tx_push
  split
  · rw [am_ui_n h2, am_ui_o h1]
  · rfl
def tp_opnd (u : Nat) (n c s : am_N) (t z : Nat) (g : Int32) (iv : am_iv) : Int32 × am_iv :=
  if g = 33 ∨ g = 40 then ((if iv n 4 + 1 ≤ 5 then 1 else 0), tx_push n s t g (am_ui iv n 4 (iv n 4 + 1)))
  else if 48 ≤ g ∧ g ≤ 57 then (1, tx_app n c z (g - 48) (am_ui (am_ui iv n 6 0) n 5 1))
  else ((if sx_ix u g < 0 then 0 else 1), tx_app n c z (-1 - sx_ix u g) (am_ui iv n 6 0))
set_option maxRecDepth 20000 in
theorem s_txopnd (l : Launch) {kd : am_kd} {rv : am_rv} {iv : am_iv} (n c s : am_N) (ht : tx_ok kd rv n c s) (u : Nat) (hu : u < 2) (hk0 : kd (40, u, 0) = some (.inr (9, 0))) (hk1 : kd (40, u, 1) = some (.inr (9, 0))) (t z : Nat) (hq : tq n t z iv) (g : Int32) (hg0 : 0 ≤ g) (hg1 : g ≤ 255) : am_Met l mX7_takesOperand (am_rm 4 0 0) [am_P n, am_I g, am_P (40, u, 0)] kd rv iv (am_ret (some (am_I (tp_opnd u n c s t z g iv).1)) kd rv (tp_opnd u n c s t z g iv).2) := by
  refine am_Met.of (by decide) (Nat.le_of_ble_eq_true rfl) rfl ?_
  refine A_iload_n (pc := 0) (i := 1) dX7_takesOperand_0 rfl rfl ?_
  refine A_bipush (pc := 1) (33) dX7_takesOperand_1 (by decide) ?_
  refine A_icmpeq (pc := 3) 12 dX7_takesOperand_3 (by decide) (fun hb3 => ?_) (fun hb3 => ?_)
  · refine A_aload_n (pc := 12) (i := 0) dX7_takesOperand_12 rfl rfl ?_
    refine A_dup (pc := 13) dX7_takesOperand_13 rfl ?_
    refine A_geti (pc := 14) 4 fl_X7_31_7 ht.1 rfl dX7_takesOperand_14 ?_
    refine A_iconst (pc := 17) (1) dX7_takesOperand_17 (by decide) ?_
    refine A_iadd (pc := 18) dX7_takesOperand_18 ?_
    refine A_puti (pc := 19) 4 fl_X7_31_7 ht.1 rfl (by decide +kernel) rfl rfl dX7_takesOperand_19 ?_
    refine A_aload_n (pc := 22) (i := 0) dX7_takesOperand_22 rfl rfl ?_
    refine A_iload_n (pc := 23) (i := 1) dX7_takesOperand_23 rfl rfl ?_
    refine A_callV0 (pc := 24) cv_X7_59 (s_txpush l n c s ht t ((am_ui_n (by simp)).trans hq.1) hq.2.1 g) ht.1 rfl rfl rfl rfl (Nat.le_of_ble_eq_true rfl) ⟨(Nat.le_of_ble_eq_true rfl), (Nat.le_of_ble_eq_true rfl)⟩ ⟨Nat.zero_le _, Nat.zero_le _⟩ dX7_takesOperand_24 ?_
    refine A_aload_n (pc := 27) (i := 0) dX7_takesOperand_27 rfl rfl ?_
    refine A_geti (pc := 28) 4 fl_X7_31_7 ht.1 rfl dX7_takesOperand_28 ?_
    refine A_top (y := iv n 4 + 1) ((tx_push_o ht.2.2.2.2.2.2.1 (by simp)).trans (am_ui_s _ _ _ _)) ?_
    refine A_iconst (pc := 31) (5) dX7_takesOperand_31 (by decide) ?_
    refine A_icmpgt (pc := 32) 39 dX7_takesOperand_32 (by decide) (fun hb32 => ?_) (fun hb32 => ?_)
    · refine A_iconst (pc := 39) (0) dX7_takesOperand_39 (by decide) ?_
      exact A_zretE (pc := 40) dX7_takesOperand_40 rfl (by first | exact A_zn0 | exact A_zn1 | exact A_znif _) (Nat.zero_le _) (Nat.zero_le _) (by rw [tp_opnd, if_pos (Or.inl hb3)]; exact (if_neg (Int32.not_le.mpr hb32)).symm) (by rw [tp_opnd, if_pos (Or.inl hb3)])
    · refine A_iconst (pc := 35) (1) dX7_takesOperand_35 (by decide) ?_
      refine A_goto (pc := 36) 40 dX7_takesOperand_36 (by decide) ?_
      exact A_zretE (pc := 40) dX7_takesOperand_40 rfl (by first | exact A_zn0 | exact A_zn1 | exact A_znif _) (Nat.zero_le _) (Nat.zero_le _) (by rw [tp_opnd, if_pos (Or.inl hb3)]; exact (if_pos (Int32.not_lt.mp hb32)).symm) (by rw [tp_opnd, if_pos (Or.inl hb3)])
  · refine A_iload_n (pc := 6) (i := 1) dX7_takesOperand_6 rfl rfl ?_
    refine A_bipush (pc := 7) (40) dX7_takesOperand_7 (by decide) ?_
    refine A_icmpne (pc := 9) 41 dX7_takesOperand_9 (by decide) (fun hb9 => ?_) (fun hb9 => ?_)
    · refine A_aload_n (pc := 41) (i := 0) dX7_takesOperand_41 rfl rfl ?_
      refine A_iconst (pc := 42) (0) dX7_takesOperand_42 (by decide) ?_
      refine A_puti (pc := 43) 6 fl_X7_37_7 ht.1 rfl (by decide +kernel) A_zn0 rfl dX7_takesOperand_43 ?_
      refine A_iload_n (pc := 46) (i := 1) dX7_takesOperand_46 rfl rfl ?_
      refine A_callS1 (pc := 47) cs_X7_63 (s_isDigit l g) rfl rfl (Nat.le_of_ble_eq_true rfl) ⟨(Nat.le_of_ble_eq_true rfl), (Nat.le_of_ble_eq_true rfl)⟩ ⟨Nat.zero_le _, Nat.zero_le _⟩ dX7_takesOperand_47 ?_
      refine A_ifeq (pc := 50) 68 dX7_takesOperand_50 (by decide) (fun hb50 => ?_) (fun hb50 => ?_)
      · refine A_aload_n (pc := 68) (i := 2) dX7_takesOperand_68 rfl rfl ?_
        refine A_iload_n (pc := 69) (i := 1) dX7_takesOperand_69 rfl rfl ?_
        refine A_i2c (pc := 70) dX7_takesOperand_70 ?_
        refine A_top (i2c_by hg0 hg1) ?_
        refine A_callT1 (pc := 71) cv_X7_69 (s_indexOf l u hu hk0 hk1 g) hu hk0 rfl rfl rfl (Nat.le_of_ble_eq_true rfl) ⟨(Nat.le_of_ble_eq_true rfl), (Nat.le_of_ble_eq_true rfl)⟩ ⟨Nat.zero_le _, Nat.zero_le _⟩ dX7_takesOperand_71 ?_
        refine A_ist3 (pc := 74) dX7_takesOperand_74 (Nat.le_of_ble_eq_true rfl) rfl ?_
        refine A_aload_n (pc := 75) (i := 0) dX7_takesOperand_75 rfl rfl ?_
        refine A_iconst (pc := 76) (-1) dX7_takesOperand_76 (by decide) ?_
        refine A_iload_n (pc := 77) (i := 3) dX7_takesOperand_77 rfl rfl ?_
        refine A_isub (pc := 78) dX7_takesOperand_78 ?_
        refine A_callV0 (pc := 79) cv_X7_66 (s_txapp l n c s ht z ((am_ui_n (by simp)).trans hq.2.2.1) hq.2.2.2 (-1 - sx_ix u g)) ht.1 rfl rfl rfl rfl (Nat.le_of_ble_eq_true rfl) ⟨(Nat.le_of_ble_eq_true rfl), (Nat.le_of_ble_eq_true rfl)⟩ ⟨Nat.zero_le _, Nat.zero_le _⟩ dX7_takesOperand_79 ?_
        refine A_iload_n (pc := 82) (i := 3) dX7_takesOperand_82 rfl rfl ?_
        refine A_iflt (pc := 83) 90 dX7_takesOperand_83 (by decide) (fun hb83 => ?_) (fun hb83 => ?_)
        · refine A_iconst (pc := 90) (0) dX7_takesOperand_90 (by decide) ?_
          exact A_zretE (pc := 91) dX7_takesOperand_91 rfl (by first | exact A_zn0 | exact A_zn1 | exact A_znif _) (Nat.zero_le _) (Nat.zero_le _) (by rw [tp_opnd, if_neg (fun h => h.elim hb3 hb9), if_neg (show ¬ (48 ≤ g ∧ g ≤ 57) from (sr_b_0 _).mp hb50)]; exact (if_pos hb83).symm) (by rw [tp_opnd, if_neg (fun h => h.elim hb3 hb9), if_neg (show ¬ (48 ≤ g ∧ g ≤ 57) from (sr_b_0 _).mp hb50)])
        · refine A_iconst (pc := 86) (1) dX7_takesOperand_86 (by decide) ?_
          refine A_goto (pc := 87) 91 dX7_takesOperand_87 (by decide) ?_
          exact A_zretE (pc := 91) dX7_takesOperand_91 rfl (by first | exact A_zn0 | exact A_zn1 | exact A_znif _) (Nat.zero_le _) (Nat.zero_le _) (by rw [tp_opnd, if_neg (fun h => h.elim hb3 hb9), if_neg (show ¬ (48 ≤ g ∧ g ≤ 57) from (sr_b_0 _).mp hb50)]; exact (if_neg hb83).symm) (by rw [tp_opnd, if_neg (fun h => h.elim hb3 hb9), if_neg (show ¬ (48 ≤ g ∧ g ≤ 57) from (sr_b_0 _).mp hb50)])
      · refine A_aload_n (pc := 53) (i := 0) dX7_takesOperand_53 rfl rfl ?_
        refine A_iconst (pc := 54) (1) dX7_takesOperand_54 (by decide) ?_
        refine A_puti (pc := 55) 5 fl_X7_34_7 ht.1 rfl (by decide +kernel) rfl rfl dX7_takesOperand_55 ?_
        refine A_aload_n (pc := 58) (i := 0) dX7_takesOperand_58 rfl rfl ?_
        refine A_iload_n (pc := 59) (i := 1) dX7_takesOperand_59 rfl rfl ?_
        refine A_bipush (pc := 60) (48) dX7_takesOperand_60 (by decide) ?_
        refine A_isub (pc := 62) dX7_takesOperand_62 ?_
        refine A_callV0 (pc := 63) cv_X7_66 (s_txapp l n c s ht z ((am_ui_n (by simp)).trans ((am_ui_n (by simp)).trans hq.2.2.1)) hq.2.2.2 (g - 48)) ht.1 rfl rfl rfl rfl (Nat.le_of_ble_eq_true rfl) ⟨(Nat.le_of_ble_eq_true rfl), (Nat.le_of_ble_eq_true rfl)⟩ ⟨Nat.zero_le _, Nat.zero_le _⟩ dX7_takesOperand_63 ?_
        refine A_iconst (pc := 66) (1) dX7_takesOperand_66 (by decide) ?_
        exact A_zretE (pc := 67) dX7_takesOperand_67 rfl (by first | exact A_zn0 | exact A_zn1 | exact A_znif _) (Nat.zero_le _) (Nat.zero_le _) (by rw [tp_opnd, if_neg (fun h => h.elim hb3 hb9), if_pos (Classical.not_not.mp (fun h => hb50 ((sr_b_0 _).mpr h)))]) (by rw [tp_opnd, if_neg (fun h => h.elim hb3 hb9), if_pos (Classical.not_not.mp (fun h => hb50 ((sr_b_0 _).mpr h)))])
    · refine A_aload_n (pc := 12) (i := 0) dX7_takesOperand_12 rfl rfl ?_
      refine A_dup (pc := 13) dX7_takesOperand_13 rfl ?_
      refine A_geti (pc := 14) 4 fl_X7_31_7 ht.1 rfl dX7_takesOperand_14 ?_
      refine A_iconst (pc := 17) (1) dX7_takesOperand_17 (by decide) ?_
      refine A_iadd (pc := 18) dX7_takesOperand_18 ?_
      refine A_puti (pc := 19) 4 fl_X7_31_7 ht.1 rfl (by decide +kernel) rfl rfl dX7_takesOperand_19 ?_
      refine A_aload_n (pc := 22) (i := 0) dX7_takesOperand_22 rfl rfl ?_
      refine A_iload_n (pc := 23) (i := 1) dX7_takesOperand_23 rfl rfl ?_
      refine A_callV0 (pc := 24) cv_X7_59 (s_txpush l n c s ht t ((am_ui_n (by simp)).trans hq.1) hq.2.1 g) ht.1 rfl rfl rfl rfl (Nat.le_of_ble_eq_true rfl) ⟨(Nat.le_of_ble_eq_true rfl), (Nat.le_of_ble_eq_true rfl)⟩ ⟨Nat.zero_le _, Nat.zero_le _⟩ dX7_takesOperand_24 ?_
      refine A_aload_n (pc := 27) (i := 0) dX7_takesOperand_27 rfl rfl ?_
      refine A_geti (pc := 28) 4 fl_X7_31_7 ht.1 rfl dX7_takesOperand_28 ?_
      refine A_top (y := iv n 4 + 1) ((tx_push_o ht.2.2.2.2.2.2.1 (by simp)).trans (am_ui_s _ _ _ _)) ?_
      refine A_iconst (pc := 31) (5) dX7_takesOperand_31 (by decide) ?_
      refine A_icmpgt (pc := 32) 39 dX7_takesOperand_32 (by decide) (fun hb32 => ?_) (fun hb32 => ?_)
      · refine A_iconst (pc := 39) (0) dX7_takesOperand_39 (by decide) ?_
        exact A_zretE (pc := 40) dX7_takesOperand_40 rfl (by first | exact A_zn0 | exact A_zn1 | exact A_znif _) (Nat.zero_le _) (Nat.zero_le _) (by rw [tp_opnd, if_pos (Or.inr hb9)]; exact (if_neg (Int32.not_le.mpr hb32)).symm) (by rw [tp_opnd, if_pos (Or.inr hb9)])
      · refine A_iconst (pc := 35) (1) dX7_takesOperand_35 (by decide) ?_
        refine A_goto (pc := 36) 40 dX7_takesOperand_36 (by decide) ?_
        exact A_zretE (pc := 40) dX7_takesOperand_40 rfl (by first | exact A_zn0 | exact A_zn1 | exact A_znif _) (Nat.zero_le _) (Nat.zero_le _) (by rw [tp_opnd, if_pos (Or.inr hb9)]; exact (if_pos (Int32.not_lt.mp hb32)).symm) (by rw [tp_opnd, if_pos (Or.inr hb9)])
theorem tp_opnd_q {u : Nat} {n c s : am_N} {t z : Nat} {g : Int32} {iv : am_iv} (hnc : n ≠ c) (hns : n ≠ s) (h : tq n t z iv) : ∃ t' z', tq n t' z' (tp_opnd u n c s t z g iv).2 := by
  obtain ⟨h1, h2, h3, h4⟩ := h
  unfold tp_opnd
  split
  · by_cases h9 : t < 50
    · refine ⟨t + 1, z, ?_, by omega, ?_, h4⟩
      · simp only [tx_push, if_pos h9]; rw [am_ui_s]
      · simp only; rw [tx_push_o hns (by simp), am_ui_n (by simp)]; exact h3
    · refine ⟨t, z, ?_, h2, ?_, h4⟩
      · simp only [tx_push, if_neg h9]; rw [am_ui_n (by simp)]; exact h1
      · simp only; rw [tx_push_o hns (by simp), am_ui_n (by simp)]; exact h3
  · have key : ∀ (v : Int32) (w : am_iv), w n 3 = nI t → w n 1 = nI z → ∃ t' z', tq n t' z' (tx_app n c z v w) := by
      intro v w e3 e1
      by_cases h9 : z < 50
      · refine ⟨t, z + 1, ?_, h2, ?_, by omega⟩
        · rw [tx_app_o hnc (by simp)]; exact e3
        · rw [tx_app, if_pos h9, am_ui_s]
      · refine ⟨t, z, ?_, h2, ?_, h4⟩
        · rw [tx_app_o hnc (by simp)]; exact e3
        · rw [tx_app, if_neg h9]; exact e1
    split
    · exact key _ _ (by rw [am_ui_n (by simp), am_ui_n (by simp)]; exact h1) (by rw [am_ui_n (by simp), am_ui_n (by simp)]; exact h3)
    · exact key _ _ (by rw [am_ui_n (by simp)]; exact h1) (by rw [am_ui_n (by simp)]; exact h3)
theorem tq.upd {n : am_N} {t z k : Nat} {v : Int32} {iv : am_iv} (h : tq n t z iv) (h1 : k ≠ 3) (h2 : k ≠ 1) : tq n t z (am_ui iv n k v) := ⟨(am_ui_n (by intro e; exact h1 e.2.symm)).trans h.1, h.2.1, (am_ui_n (by intro e; exact h2 e.2.symm)).trans h.2.2.1, h.2.2.2⟩
theorem tq.push {n s : am_N} {t z : Nat} {v : Int32} {iv : am_iv} (hns : n ≠ s) (h : tq n t z iv) : ∃ t', tq n t' z (tx_push n s t v iv) := by
  obtain ⟨h1, h2, h3, h4⟩ := h
  by_cases h9 : t < 50
  · exact ⟨t + 1, by rw [tx_push, if_pos h9, am_ui_s], by omega, by rw [tx_push_o hns (by simp)]; exact h3, h4⟩
  · exact ⟨t, by rw [tx_push, if_neg h9]; exact h1, h2, by rw [tx_push_o hns (by simp)]; exact h3, h4⟩
theorem tp_oper_q {n c s : am_N} {t z : Nat} {g : Int32} {iv : am_iv} (hnc : n ≠ c) (hns : n ≠ s) (h : tq n t z iv) : ∃ t' z', tq n t' z' (tp_oper n c s t z g iv).2 := by
  have h5 : tq n t z (am_ui iv n 5 0) := h.upd (by decide) (by decide)
  unfold tp_oper
  split
  · unfold tp_digit
    split
    · exact ⟨t, z, h⟩
    · refine ⟨t, z, ?_, h.2.1, ?_, h.2.2.2⟩
      · simp only; rw [am_ui_o hnc, am_ui_n (by simp)]; exact h.1
      · simp only; rw [am_ui_o hnc, am_ui_n (by simp)]; exact h.2.2.1
  · split
    · unfold tp_close
      obtain ⟨t', z', -, hw⟩ := tp_ab_q (n := n) (c := c) (s := s) hnc 0 t z _ h5
      split
      · exact ⟨t', z', hw⟩
      · rename_i h0
        have ht0 : 0 < t' := by
          rcases Nat.eq_zero_or_pos t' with q | q
          · exact absurd (by rw [hw.1, q]; rfl) h0
          · exact q
        refine ⟨t' - 1, z', ?_, by have := hw.2.1; omega, ?_, hw.2.2.2⟩
        · simp only; rw [am_ui_n (by simp), am_ui_s, hw.1]; exact nI_m1 ht0
        · simp only; rw [am_ui_n (by simp), am_ui_n (by simp)]; exact hw.2.2.1
    · split
      · exact ⟨t, z, h5⟩
      · obtain ⟨t', z', -, hw⟩ := tp_ab_q (n := n) (c := c) (s := s) hnc (tx_rank g) t z _ h5
        have e3 : (tp_ab n c s (tx_rank g) t z (am_ui iv n 5 0) n 3).toNatClampNeg = t' := by rw [hw.1]; exact nI_clamp (by have := hw.2.1; omega)
        have e1 : (tp_ab n c s (tx_rank g) t z (am_ui iv n 5 0) n 1).toNatClampNeg = z' := by rw [hw.2.2.1]; exact nI_clamp (by have := hw.2.2.2; omega)
        have fin : ∀ (t2 z2 : Nat) (w : am_iv), tq n t2 z2 w → ∃ t' z', tq n t' z' (tp_fin n s g w) := by
          intro t2 z2 w h2
          have e : (w n 3).toNatClampNeg = t2 := by rw [h2.1]; exact nI_clamp (by have := h2.2.1; omega)
          obtain ⟨t3, h3⟩ := h2.push (v := g) hns
          refine ⟨t3, z2, ?_⟩
          unfold tp_fin
          rw [e]
          exact h3.upd (by decide) (by decide)
        split
        · split
          · exact ⟨t', z', hw⟩
          · simp only
            rw [e3, e1]
            exact fin _ _ _ (hw.pop hnc)
        · exact fin _ _ _ hw
/-- one sign is read -/
def td_step (u : Nat) (n c s : am_N) (g : Int32) (iv : am_iv) : Int32 × am_iv := if iv n 6 = 0 then tp_oper n c s (iv n 3).toNatClampNeg (iv n 1).toNatClampNeg g iv else tp_opnd u n c s (iv n 3).toNatClampNeg (iv n 1).toNatClampNeg g iv
/-- the tape from place i on, k signs -/
def td_read (u : Nat) (n c s : am_N) (bt : Nat → Int32) : Nat → Nat → am_iv → Int32 × am_iv
  | 0, i, iv => ((if tp_comp n c s (iv n 3).toNatClampNeg (iv n 1).toNatClampNeg iv = 0 then nI i else -1), tp_ab n c s 0 (iv n 3).toNatClampNeg (iv n 1).toNatClampNeg iv)
  | k + 1, i, iv => if (td_step u n c s (bt i) iv).1 = 0 then (nI i, (td_step u n c s (bt i) iv).2) else td_read u n c s bt k (i + 1) (td_step u n c s (bt i) iv).2
def td_ok (n : am_N) (iv : am_iv) : Prop := ∃ t z, tq n t z iv
theorem td_ok.q {n : am_N} {iv : am_iv} (h : td_ok n iv) : tq n (iv n 3).toNatClampNeg (iv n 1).toNatClampNeg iv := by
  obtain ⟨t, z, hq⟩ := h
  have e3 : (iv n 3).toNatClampNeg = t := by rw [hq.1]; exact nI_clamp (by have := hq.2.1; omega)
  have e1 : (iv n 1).toNatClampNeg = z := by rw [hq.2.2.1]; exact nI_clamp (by have := hq.2.2.2; omega)
  rw [e3, e1]
  exact hq
theorem td_step_ok {u : Nat} {n c s : am_N} {g : Int32} {iv : am_iv} (hnc : n ≠ c) (hns : n ≠ s) (h : td_ok n iv) : td_ok n (td_step u n c s g iv).2 := by
  unfold td_step
  split
  · exact tp_oper_q hnc hns h.q
  · exact tp_opnd_q hnc hns h.q
theorem tp_pop_o {n c s q : am_N} {t z k : Nat} {iv : am_iv} (h1 : q ≠ n) (h2 : q ≠ c) : tp_pop n c s t z iv q k = iv q k := by
  unfold tp_pop
  split
  · rw [am_ui_o h1]; exact tp_w2_o h2 h1
  · exact tp_w2_o h2 h1
theorem tp_ab_o {n c s q : am_N} {k : Nat} {rk : Int32} (h1 : q ≠ n) (h2 : q ≠ c) : ∀ (t z : Nat) (iv : am_iv), tp_ab n c s rk t z iv q k = iv q k := by
  intro t
  induction t with
  | zero => intro z iv; rfl
  | succ t ih =>
    intro z iv
    unfold tp_ab
    split
    · rw [ih]; exact tp_pop_o h1 h2
    · rfl
theorem td_step_o {u : Nat} {n c s q : am_N} {g : Int32} {iv : am_iv} {k : Nat} (h1 : q ≠ n) (h2 : q ≠ c) (h3 : q ≠ s) : (td_step u n c s g iv).2 q k = iv q k := by
  unfold td_step
  split
  · unfold tp_oper
    split
    · unfold tp_digit
      split
      · rfl
      · simp only; rw [am_ui_o h2, am_ui_o h1]
    · split
      · unfold tp_close
        split
        · simp only; rw [tp_ab_o h1 h2, am_ui_o h1]
        · simp only; rw [am_ui_o h1, am_ui_o h1, tp_ab_o h1 h2, am_ui_o h1]
      · split
        · simp only; rw [am_ui_o h1]
        · have fin : ∀ w : am_iv, tp_fin n s g w q k = w q k := by
            intro w
            unfold tp_fin
            rw [am_ui_o h1, tx_push_o h3 (fun e => h1 e.1)]
          split
          · split
            · simp only; rw [tp_ab_o h1 h2, am_ui_o h1]
            · simp only; rw [fin, tp_pop_o h1 h2, tp_ab_o h1 h2, am_ui_o h1]
          · simp only; rw [fin, tp_ab_o h1 h2, am_ui_o h1]
  · unfold tp_opnd
    split
    · simp only; rw [tx_push_o h3 (fun e => h1 e.1), am_ui_o h1]
    · split
      · simp only; rw [tx_app_o h2 (fun e => h1 e.1), am_ui_o h1, am_ui_o h1]
      · simp only; rw [tx_app_o h2 (fun e => h1 e.1), am_ui_o h1]
theorem td_read_o {u : Nat} {n c s q : am_N} {bt : Nat → Int32} {p : Nat} (h1 : q ≠ n) (h2 : q ≠ c) (h3 : q ≠ s) : ∀ (k i : Nat) (iv : am_iv), (td_read u n c s bt k i iv).2 q p = iv q p := by
  intro k
  induction k with
  | zero => intro i iv; exact tp_ab_o h1 h2 _ _ _
  | succ k ih =>
    intro i iv
    unfold td_read
    split
    · exact td_step_o h1 h2 h3
    · rw [ih]; exact td_step_o h1 h2 h3
def rw_is (kd : am_kd) (rv : am_rv) (r b : am_N) (z : Nat) : Prop := kd r = some (.inl 5) ∧ rv r 0 = some b ∧ kd b = some (.inr (0, z))
def td_start (n : am_N) (iv : am_iv) : am_iv := am_ui (am_ui (am_ui (am_ui (am_ui iv n 1 0) n 3 0) n 4 0) n 5 0) n 6 1
set_option maxRecDepth 20000 in
theorem rd_loop (l : Launch) {kd : am_kd} {rv : am_rv} (n c s : am_N) (ht : tx_ok kd rv n c s) (u : Nat) (hu : u < 2) (hk0 : kd (40, u, 0) = some (.inr (9, 0))) (hk1 : kd (40, u, 1) = some (.inr (9, 0))) (r b : am_N) (zb : Nat) (hr : rw_is kd rv r b zb) (m : Nat) (hm : m ≤ zb) (hzb : zb < 2 ^ 31) (bt : Nat → Int32) (hbt : ∀ i, i < m → 0 ≤ bt i ∧ bt i ≤ 255) (hrn : r ≠ n) (hrc : r ≠ c) (hrs : r ≠ s) (hbn : b ≠ n) (hbc : b ≠ c) (hbs : b ≠ s) : ∀ (k i : Nat) (x4 x5 : Option am_V) (iv : am_iv), am_c1 x4 = true → am_c1 x5 = true → i + k = m → td_ok n iv → iv r 1 = nI m → (∀ j, j < m → iv b j = bt j) → am_W l mX7_read (am_rm 5 0 0) (am_ret (some (am_I (td_read u n c s bt k i iv).1)) kd rv (td_read u n c s bt k i iv).2) 27 [some (am_P n), some (am_P r), some (am_P (40, u, 0)), some (am_I (nI i)), x4, x5] [] kd rv iv 0 0 := by
  intro k
  induction k with
  | zero =>
    intro i x4 x5 iv hx4 hx5 hi hq hsz hb
    refine A_iload_n (pc := 27) (i := 3) dX7_read_27 rfl rfl ?_
    refine A_aload_n (pc := 28) (i := 1) dX7_read_28 rfl rfl ?_
    refine A_geti (pc := 29) 1 fl_X7_41_5 hr.1 rfl dX7_read_29 ?_
    refine A_top hsz ?_
    refine A_icmpge (pc := 32) 81 dX7_read_32 (by decide) (fun hb32 => ?_) (fun hb32 => ?_)
    · refine A_aload_n (pc := 81) (i := 0) dX7_read_81 rfl rfl ?_
      refine A_callV1 (pc := 82) cv_X7_55 (s_txcomp l n c s ht _ _ hq.q) ht.1 rfl rfl rfl rfl (Nat.le_of_ble_eq_true rfl) ⟨(Nat.le_of_ble_eq_true rfl), (Nat.le_of_ble_eq_true rfl)⟩ ⟨Nat.zero_le _, Nat.zero_le _⟩ dX7_read_82 ?_
      refine A_ifeq (pc := 85) 92 dX7_read_85 (by decide) (fun hb85 => ?_) (fun hb85 => ?_)
      · refine A_aload_n (pc := 92) (i := 1) dX7_read_92 rfl rfl ?_
        refine A_geti (pc := 93) 1 fl_X7_41_5 hr.1 rfl dX7_read_93 ?_
        refine A_top (y := nI i) ((tp_ab_o hrn hrc _ _ _).trans (hsz.trans (by rw [show m = i by omega]))) ?_
        exact A_iretE (pc := 96) dX7_read_96 rfl (Nat.zero_le _) (Nat.zero_le _) ((if_pos hb85).symm) (rfl)
      · refine A_iconst (pc := 88) (-1) dX7_read_88 (by decide) ?_
        refine A_goto (pc := 89) 96 dX7_read_89 (by decide) ?_
        exact A_iretE (pc := 96) dX7_read_96 rfl (Nat.zero_le _) (Nat.zero_le _) ((if_neg hb85).symm) (rfl)
    · exact absurd (nI_le (a := m) (b := i) (by omega) (by omega)) hb32
  | succ k ih =>
    intro i x4 x5 iv hx4 hx5 hi hq hsz hb
    have hbi := hbt i (by omega)
    refine A_iload_n (pc := 27) (i := 3) dX7_read_27 rfl rfl ?_
    refine A_aload_n (pc := 28) (i := 1) dX7_read_28 rfl rfl ?_
    refine A_geti (pc := 29) 1 fl_X7_41_5 hr.1 rfl dX7_read_29 ?_
    refine A_top hsz ?_
    refine A_icmpge (pc := 32) 81 dX7_read_32 (by decide) (fun hb32 => ?_) (fun hb32 => ?_)
    · exact absurd hb32 (nI_ge (a := i) (b := m) (by omega) (by omega))
    · refine A_aload_n (pc := 35) (i := 1) dX7_read_35 rfl rfl ?_
      refine A_getr (pc := 36) 0 fl_X7_44_5 hr.1 rfl hr.2.1 dX7_read_36 ?_
      refine A_iload_n (pc := 39) (i := 3) dX7_read_39 rfl rfl ?_
      refine A_ialdN (pc := 40) hr.2.2 (show i < zb by omega) hzb dX7_read_40 ?_
      refine A_top (hb i (by omega)) ?_
      refine A_ist4 (pc := 41) dX7_read_41 (Nat.le_of_ble_eq_true rfl) rfl ?_
      refine A_aload_n (pc := 43) (i := 0) dX7_read_43 rfl rfl ?_
      refine A_geti (pc := 44) 6 fl_X7_37_7 ht.1 rfl dX7_read_44 ?_
      refine A_ifeq (pc := 47) 60 dX7_read_47 (by decide) (fun hb47 => ?_) (fun hb47 => ?_)
      · refine A_aload_n (pc := 60) (i := 0) dX7_read_60 rfl rfl ?_
        refine A_iload (pc := 61) (i := 4) dX7_read_61 rfl ?_
        refine A_callV1 (pc := 63) cv_X7_51 (s_txoper l n c s ht _ _ hq.q (bt i)) ht.1 rfl rfl rfl rfl (Nat.le_of_ble_eq_true rfl) ⟨(Nat.le_of_ble_eq_true rfl), (Nat.le_of_ble_eq_true rfl)⟩ ⟨Nat.zero_le _, Nat.zero_le _⟩ dX7_read_63 ?_
        refine A_top (show _ = (td_step u n c s (bt i) iv).1 by rw [td_step, if_pos hb47]) ?_
        refine A_heap (iv' := (td_step u n c s (bt i) iv).2) (by rw [td_step, if_pos hb47]) ?_
        refine A_ist5 (pc := 66) dX7_read_66 (Nat.le_of_ble_eq_true rfl) rfl ?_
        refine A_iload (pc := 68) (i := 5) dX7_read_68 rfl ?_
        refine A_ifne (pc := 70) 75 dX7_read_70 (by decide) (fun hb70 => ?_) (fun hb70 => ?_)
        · refine A_inc3 (pc := 75) (nI (i + 1)) dX7_read_75 (nI_1 i) (Nat.le_of_ble_eq_true rfl) rfl ?_
          refine A_goto (pc := 78) 27 dX7_read_78 (by decide) ?_
          rw [td_read, if_neg hb70]
          refine ih (i + 1) _ _ _ rfl rfl (by omega) (td_step_ok ht.2.2.2.2.2.1 ht.2.2.2.2.2.2.1 hq) ?_ ?_
          · rw [td_step_o hrn hrc hrs]; exact hsz
          · intro j hj; rw [td_step_o hbn hbc hbs]; exact hb j hj
        · have hz := hb70
          refine A_iload_n (pc := 73) (i := 3) dX7_read_73 rfl rfl ?_
          exact A_iretE (pc := 74) dX7_read_74 rfl (Nat.zero_le _) (Nat.zero_le _) (by rw [td_read, if_pos hz]) (by rw [td_read, if_pos hz])
      · refine A_aload_n (pc := 50) (i := 0) dX7_read_50 rfl rfl ?_
        refine A_iload (pc := 51) (i := 4) dX7_read_51 rfl ?_
        refine A_aload_n (pc := 53) (i := 2) dX7_read_53 rfl rfl ?_
        refine A_callV1 (pc := 54) cv_X7_47 (s_txopnd l n c s ht u hu hk0 hk1 _ _ hq.q (bt i) hbi.1 hbi.2) ht.1 rfl rfl rfl rfl (Nat.le_of_ble_eq_true rfl) ⟨(Nat.le_of_ble_eq_true rfl), (Nat.le_of_ble_eq_true rfl)⟩ ⟨Nat.zero_le _, Nat.zero_le _⟩ dX7_read_54 ?_
        refine A_goto (pc := 57) 66 dX7_read_57 (by decide) ?_
        refine A_top (show _ = (td_step u n c s (bt i) iv).1 by rw [td_step, if_neg hb47]) ?_
        refine A_heap (iv' := (td_step u n c s (bt i) iv).2) (by rw [td_step, if_neg hb47]) ?_
        refine A_ist5 (pc := 66) dX7_read_66 (Nat.le_of_ble_eq_true rfl) rfl ?_
        refine A_iload (pc := 68) (i := 5) dX7_read_68 rfl ?_
        refine A_ifne (pc := 70) 75 dX7_read_70 (by decide) (fun hb70 => ?_) (fun hb70 => ?_)
        · refine A_inc3 (pc := 75) (nI (i + 1)) dX7_read_75 (nI_1 i) (Nat.le_of_ble_eq_true rfl) rfl ?_
          refine A_goto (pc := 78) 27 dX7_read_78 (by decide) ?_
          rw [td_read, if_neg hb70]
          refine ih (i + 1) _ _ _ rfl rfl (by omega) (td_step_ok ht.2.2.2.2.2.1 ht.2.2.2.2.2.2.1 hq) ?_ ?_
          · rw [td_step_o hrn hrc hrs]; exact hsz
          · intro j hj; rw [td_step_o hbn hbc hbs]; exact hb j hj
        · have hz := hb70
          refine A_iload_n (pc := 73) (i := 3) dX7_read_73 rfl rfl ?_
          exact A_iretE (pc := 74) dX7_read_74 rfl (Nat.zero_le _) (Nat.zero_le _) (by rw [td_read, if_pos hz]) (by rw [td_read, if_pos hz])
set_option maxRecDepth 20000 in
theorem s_txread (l : Launch) {kd : am_kd} {rv : am_rv} {iv : am_iv} (n c s : am_N) (ht : tx_ok kd rv n c s) (u : Nat) (hu : u < 2) (hk0 : kd (40, u, 0) = some (.inr (9, 0))) (hk1 : kd (40, u, 1) = some (.inr (9, 0))) (r b : am_N) (zb : Nat) (hr : rw_is kd rv r b zb) (m : Nat) (hm : m ≤ zb) (hzb : zb < 2 ^ 31) (bt : Nat → Int32) (hbt : ∀ i, i < m → 0 ≤ bt i ∧ bt i ≤ 255) (hrn : r ≠ n) (hrc : r ≠ c) (hrs : r ≠ s) (hbn : b ≠ n) (hbc : b ≠ c) (hbs : b ≠ s) (hsz : iv r 1 = nI m) (hb : ∀ j, j < m → iv b j = bt j) : am_Met l mX7_read (am_rm 5 0 0) [am_P n, am_P r, am_P (40, u, 0)] kd rv iv (am_ret (some (am_I (td_read u n c s bt m 0 (td_start n iv)).1)) kd rv (td_read u n c s bt m 0 (td_start n iv)).2) := by
  refine am_Met.of (by decide) (Nat.le_of_ble_eq_true rfl) rfl ?_
  refine A_aload_n (pc := 0) (i := 0) dX7_read_0 rfl rfl ?_
  refine A_iconst (pc := 1) (0) dX7_read_1 (by decide) ?_
  refine A_puti (pc := 2) 1 fl_X7_18_7 ht.1 rfl (by decide +kernel) rfl rfl dX7_read_2 ?_
  refine A_aload_n (pc := 5) (i := 0) dX7_read_5 rfl rfl ?_
  refine A_iconst (pc := 6) (0) dX7_read_6 (by decide) ?_
  refine A_puti (pc := 7) 3 fl_X7_28_7 ht.1 rfl (by decide +kernel) rfl rfl dX7_read_7 ?_
  refine A_aload_n (pc := 10) (i := 0) dX7_read_10 rfl rfl ?_
  refine A_iconst (pc := 11) (0) dX7_read_11 (by decide) ?_
  refine A_puti (pc := 12) 4 fl_X7_31_7 ht.1 rfl (by decide +kernel) rfl rfl dX7_read_12 ?_
  refine A_aload_n (pc := 15) (i := 0) dX7_read_15 rfl rfl ?_
  refine A_iconst (pc := 16) (0) dX7_read_16 (by decide) ?_
  refine A_puti (pc := 17) 5 fl_X7_34_7 ht.1 rfl (by decide +kernel) rfl rfl dX7_read_17 ?_
  refine A_aload_n (pc := 20) (i := 0) dX7_read_20 rfl rfl ?_
  refine A_iconst (pc := 21) (1) dX7_read_21 (by decide) ?_
  refine A_puti (pc := 22) 6 fl_X7_37_7 ht.1 rfl (by decide +kernel) A_zn1 rfl dX7_read_22 ?_
  refine A_iconst (pc := 25) (0) dX7_read_25 (by decide) ?_
  refine A_ist3 (pc := 26) dX7_read_26 (Nat.le_of_ble_eq_true rfl) rfl ?_
  exact rd_loop l n c s ht u hu hk0 hk1 r b zb hr m hm hzb bt hbt hrn hrc hrs hbn hbc hbs m 0 none none (td_start n iv) rfl rfl (by omega) ⟨0, 0, (am_ui_n (by simp)).trans ((am_ui_n (by simp)).trans ((am_ui_n (by simp)).trans (am_ui_s _ _ _ _))), by decide, (am_ui_n (by simp)).trans ((am_ui_n (by simp)).trans ((am_ui_n (by simp)).trans ((am_ui_n (by simp)).trans (am_ui_s _ _ _ _)))), by decide⟩ (by unfold td_start; rw [am_ui_o hrn, am_ui_o hrn, am_ui_o hrn, am_ui_o hrn, am_ui_o hrn]; exact hsz) (fun j hj => by unfold td_start; rw [am_ui_o hbn, am_ui_o hbn, am_ui_o hbn, am_ui_o hbn, am_ui_o hbn]; exact hb j hj)
