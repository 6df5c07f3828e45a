theorem nI_le0 {t : Nat} (ht : t < 2 ^ 31) : nI t ≤ 0 ↔ t = 0 := by
  constructor
  · intro h
    rcases Nat.eq_zero_or_pos t with h1 | h1
    · exact h1
    · exact absurd h (nI_nle h1 ht)
  · intro h; subst h; decide
theorem nI_le1 {t : Nat} (ht : t < 2 ^ 31) : nI t ≤ 1 ↔ t ≤ 1 := nI_leI (b := 1) ht (by decide)
def tv_step (n s : am_N) (a b d : Int32) (t : Nat) (code : Int32) (iv : am_iv) : am_iv :=
  if 0 ≤ code then tx_push n s t code iv
  else if -3 ≤ code then tx_push n s t (if code = -1 then a else if code = -2 then b else d) iv
  else if code = -33 ∧ 0 < t then am_ui iv s (t - 1) (if iv s (t - 1) = 0 then 1 else 0)
  else if 1 < t then am_ui (am_ui iv n 3 (nI (t - 1))) s (t - 2) (tx_res (-code) (iv s (t - 2)) (iv s (t - 1)))
  else iv
def tv_run (n c s : am_N) (a b d : Int32) (iv : am_iv) : Nat → am_iv
  | 0 => am_ui iv n 3 0
  | j + 1 => tv_step n s a b d (tv_run n c s a b d iv j n 3).toNatClampNeg (iv c j) (tv_run n c s a b d iv j)
def tv_val (n c s : am_N) (a b d : Int32) (iv : am_iv) (z : Nat) : Int32 := if 0 < (tv_run n c s a b d iv z n 3).toNatClampNeg then tv_run n c s a b d iv z s ((tv_run n c s a b d iv z n 3).toNatClampNeg - 1) else 0
theorem tv_step_top {n s : am_N} (hns : n ≠ s) {a b d code : Int32} {t : Nat} {iv : am_iv} (h : iv n 3 = nI t) (h5 : t ≤ 50) : ∃ t', t' ≤ 50 ∧ tv_step n s a b d t code iv n 3 = nI t' := by
  unfold tv_step tx_push
  (repeat' split) <;> first | exact ⟨t + 1, by omega, by simp [am_ui]⟩ | exact ⟨t, h5, h⟩ | exact ⟨t, h5, by rw [am_ui_o hns]; exact h⟩ | exact ⟨t - 1, by omega, by rw [am_ui_o hns]; simp [am_ui]⟩
theorem tv_step_o {n s n' : am_N} {k : Nat} (h1 : n' ≠ s) (h2 : ¬ (n' = n ∧ k = 3)) {a b d code : Int32} {t : Nat} {iv : am_iv} : tv_step n s a b d t code iv n' k = iv n' k := by
  unfold tv_step tx_push
  (repeat' split) <;> first | rfl | (rw [am_ui_n h2, am_ui_o h1]; done) | (rw [am_ui_o h1]; done) | (rw [am_ui_o h1, am_ui_n h2]; done)
theorem tv_run_top {n c s : am_N} (hns : n ≠ s) (a b d : Int32) (iv : am_iv) (j : Nat) : ∃ t, t ≤ 50 ∧ tv_run n c s a b d iv j n 3 = nI t := by
  induction j with
  | zero => exact ⟨0, by omega, by simp [tv_run, am_ui, nI_0]⟩
  | succ j ih =>
    obtain ⟨t, h1, h2⟩ := ih
    unfold tv_run
    rw [h2, nI_clamp (by omega)]
    exact tv_step_top hns h2 h1
theorem tv_run_o {n c s n' : am_N} {k : Nat} (h1 : n' ≠ s) (h2 : ¬ (n' = n ∧ k = 3)) (a b d : Int32) (iv : am_iv) (j : Nat) : tv_run n c s a b d iv j n' k = iv n' k := by
  induction j with
  | zero => exact am_ui_n h2
  | succ j ih => exact (tv_step_o h1 h2).trans ih
set_option maxRecDepth 20000 in
theorem s_value (l : Launch) {kd : am_kd} {rv : am_rv} {iv : am_iv} (n c s : am_N) (ht : tx_ok kd rv n c s) (z : Nat) (hz : iv n 1 = nI z) (hz50 : z ≤ 50) (a b d : Int32) : am_Met l mX7_value (am_rm 2 0 0) [am_P n, am_I a, am_I b, am_I d] kd rv iv (am_ret (some (am_I (tv_val n c s a b d iv z))) kd rv (tv_run n c s a b d iv z)) := by
  have hns := ht.2.2.2.2.2.2.1
  have hcs := ht.2.2.2.2.2.2.2
  have hnc := ht.2.2.2.2.2.1
  refine am_Met.of (by decide) (Nat.le_of_ble_eq_true rfl) rfl ?_
  have loop := am_for (fun j => ∀ q, am_W l mX7_value (am_rm 2 0 0) (am_ret (some (am_I (tv_val n c s a b d iv z))) kd rv (tv_run n c s a b d iv z)) 8 [some (am_P n), some (am_I a), some (am_I b), some (am_I d), some (am_I (nI j)), q] [] kd rv (tv_run n c s a b d iv j) 0 0) z ?_ (fun j hj ih => ?_) 0 (Nat.zero_le z)
  · refine A_aload_n (pc := 0) (i := 0) dX7_value_0 rfl rfl ?_
    refine A_iconst (pc := 1) (0) dX7_value_1 (by decide) ?_
    refine A_puti (pc := 2) 3 fl_X7_28_7 ht.1 rfl (by decide +kernel) rfl rfl dX7_value_2 ?_
    refine A_iconst (pc := 5) (0) dX7_value_5 (by decide) ?_
    refine A_ist4 (pc := 6) dX7_value_6 (Nat.le_of_ble_eq_true rfl) rfl ?_
    exact loop none
  · intro q
    have hs1 : tv_run n c s a b d iv z n 1 = nI z := (tv_run_o hns (by simp) a b d iv z).trans hz
    obtain ⟨t, ht50, ht3⟩ := tv_run_top (c := c) hns a b d iv z
    have htc : (tv_run n c s a b d iv z n 3).toNatClampNeg = t := by rw [ht3, nI_clamp (by omega)]
    refine A_iload (pc := 8) (i := 4) dX7_value_8 rfl ?_
    refine A_aload_n (pc := 10) (i := 0) dX7_value_10 rfl rfl ?_
    refine A_geti (pc := 11) 1 fl_X7_18_7 ht.1 rfl dX7_value_11 ?_
    refine A_top hs1 ?_
    refine A_icmpge (pc := 14) 187 dX7_value_14 (by decide) (fun hb14 => ?_) (fun hb14 => ?_)
    · refine A_aload_n (pc := 187) (i := 0) dX7_value_187 rfl rfl ?_
      refine A_geti (pc := 188) 3 fl_X7_28_7 ht.1 rfl dX7_value_188 ?_
      refine A_top ht3 ?_
      refine A_ifle (pc := 191) 208 dX7_value_191 (by decide) (fun hb191 => ?_) (fun hb191 => ?_)
      · refine A_iconst (pc := 208) (0) dX7_value_208 (by decide) ?_
        exact A_iretE (pc := 209) dX7_value_209 rfl (Nat.zero_le _) (Nat.zero_le _) (by rw [tv_val, htc, if_neg (by rw [nI_le0 (by omega)] at hb191; omega)]) (rfl)
      · refine A_aload_n (pc := 194) (i := 0) dX7_value_194 rfl rfl ?_
        refine A_getr (pc := 195) 2 fl_X7_15_7 ht.1 rfl ht.2.2.1 dX7_value_195 ?_
        refine A_aload_n (pc := 198) (i := 0) dX7_value_198 rfl rfl ?_
        refine A_geti (pc := 199) 3 fl_X7_28_7 ht.1 rfl dX7_value_199 ?_
        have hpos : 0 < t := Nat.pos_of_ne_zero (fun h => hb191 ((nI_le0 (by omega)).mpr h))
        refine A_top ht3 ?_
        refine A_iconst (pc := 202) (1) dX7_value_202 (by decide) ?_
        refine A_isub (pc := 203) dX7_value_203 ?_
        refine A_top (y := nI (t - 1)) (pk_sub (a := t) (b := 1) hpos) ?_
        refine A_ialdN (pc := 204) ht.2.2.2.2.1 (show t - 1 < 50 by omega) (by decide) dX7_value_204 ?_
        refine A_goto (pc := 205) 209 dX7_value_205 (by decide) ?_
        exact A_iretE (pc := 209) dX7_value_209 rfl (Nat.zero_le _) (Nat.zero_le _) (by rw [tv_val, htc, if_pos hpos]) (rfl)
    · exact absurd (nI_le (Nat.le_refl z) (by omega)) hb14
  · intro q
    have hs1 : tv_run n c s a b d iv j n 1 = nI z := (tv_run_o hns (by simp) a b d iv j).trans hz
    have hcj : tv_run n c s a b d iv j c j = iv c j := tv_run_o hcs (fun h => hnc h.1.symm) a b d iv j
    obtain ⟨t, ht50, ht3⟩ := tv_run_top (c := c) hns a b d iv j
    have hih : ∀ q, am_W l mX7_value (am_rm 2 0 0) (am_ret (some (am_I (tv_val n c s a b d iv z))) kd rv (tv_run n c s a b d iv z)) 8 [some (am_P n), some (am_I a), some (am_I b), some (am_I d), some (am_I (nI (j + 1))), q] [] kd rv (tv_step n s a b d t (iv c j) (tv_run n c s a b d iv j)) 0 0 := by
      have e9 : tv_run n c s a b d iv (j + 1) = tv_step n s a b d t (iv c j) (tv_run n c s a b d iv j) := by
        show tv_step _ _ _ _ _ _ _ _ = _
        rw [ht3, nI_clamp (by omega)]
      rw [e9] at ih
      exact ih
    generalize tv_run n c s a b d iv j = w at hs1 hcj ht3 hih ⊢
    refine A_iload (pc := 8) (i := 4) dX7_value_8 rfl ?_
    refine A_aload_n (pc := 10) (i := 0) dX7_value_10 rfl rfl ?_
    refine A_geti (pc := 11) 1 fl_X7_18_7 ht.1 rfl dX7_value_11 ?_
    refine A_top hs1 ?_
    refine A_icmpge (pc := 14) 187 dX7_value_14 (by decide) (fun hb14 => ?_) (fun hb14 => ?_)
    · exact absurd hb14 (nI_ge hj (by omega))
    · refine A_aload_n (pc := 17) (i := 0) dX7_value_17 rfl rfl ?_
      refine A_getr (pc := 18) 0 fl_X7_9_7 ht.1 rfl ht.2.1 dX7_value_18 ?_
      refine A_iload (pc := 21) (i := 4) dX7_value_21 rfl ?_
      refine A_ialdN (pc := 23) ht.2.2.2.1 (show j < 50 by omega) (by decide) dX7_value_23 ?_
      refine A_top hcj ?_
      refine A_ist5 (pc := 24) dX7_value_24 (Nat.le_of_ble_eq_true rfl) rfl ?_
      refine A_iload (pc := 26) (i := 5) dX7_value_26 rfl ?_
      refine A_iflt (pc := 28) 40 dX7_value_28 (by decide) (fun hb28 => ?_) (fun hb28 => ?_)
      · refine A_iload (pc := 40) (i := 5) dX7_value_40 rfl ?_
        refine A_bipush (pc := 42) (-3) dX7_value_42 (by decide) ?_
        refine A_icmplt (pc := 44) 76 dX7_value_44 (by decide) (fun hb44 => ?_) (fun hb44 => ?_)
        · refine A_iload (pc := 76) (i := 5) dX7_value_76 rfl ?_
          refine A_bipush (pc := 78) (-33) dX7_value_78 (by decide) ?_
          refine A_icmpne (pc := 80) 126 dX7_value_80 (by decide) (fun hb80 => ?_) (fun hb80 => ?_)
          · refine A_aload_n (pc := 126) (i := 0) dX7_value_126 rfl rfl ?_
            refine A_geti (pc := 127) 3 fl_X7_28_7 ht.1 rfl dX7_value_127 ?_
            refine A_top ht3 ?_
            refine A_iconst (pc := 130) (1) dX7_value_130 (by decide) ?_
            refine A_icmple (pc := 131) 181 dX7_value_131 (by decide) (fun hb131 => ?_) (fun hb131 => ?_)
            · refine A_inc4 (pc := 181) (nI (j + 1)) dX7_value_181 (nI_1 j) (Nat.le_of_ble_eq_true rfl) rfl ?_
              refine A_goto (pc := 184) 8 dX7_value_184 (by decide) ?_
              refine A_heap ?_ (hih _)
              rw [tv_step, if_neg (Int32.not_le.mpr hb28), if_neg (Int32.not_le.mpr hb44), if_neg (fun h => hb80 h.1), if_neg (by rw [nI_le1 (by omega)] at hb131; omega)]
            · have ht1 : 1 < t := by rw [nI_le1 (by omega)] at hb131; omega
              refine A_aload_n (pc := 134) (i := 0) dX7_value_134 rfl rfl ?_
              refine A_dup (pc := 135) dX7_value_135 rfl ?_
              refine A_geti (pc := 136) 3 fl_X7_28_7 ht.1 rfl dX7_value_136 ?_
              refine A_top ht3 ?_
              refine A_iconst (pc := 139) (1) dX7_value_139 (by decide) ?_
              refine A_isub (pc := 140) dX7_value_140 ?_
              refine A_top (y := nI (t - 1)) (pk_sub (a := t) (b := 1) (by omega)) ?_
              refine A_puti (pc := 141) 3 fl_X7_28_7 ht.1 rfl (by decide +kernel) rfl rfl dX7_value_141 ?_
              refine A_aload_n (pc := 144) (i := 0) dX7_value_144 rfl rfl ?_
              refine A_getr (pc := 145) 2 fl_X7_15_7 ht.1 rfl ht.2.2.1 dX7_value_145 ?_
              refine A_aload_n (pc := 148) (i := 0) dX7_value_148 rfl rfl ?_
              refine A_geti (pc := 149) 3 fl_X7_28_7 ht.1 rfl dX7_value_149 ?_
              refine A_top (y := nI (t - 1)) (by simp [am_ui]) ?_
              refine A_iconst (pc := 152) (1) dX7_value_152 (by decide) ?_
              refine A_isub (pc := 153) dX7_value_153 ?_
              refine A_top (y := nI (t - 2)) (by rw [show t - 2 = t - 1 - 1 by omega]; exact pk_sub (a := t - 1) (b := 1) (by omega)) ?_
              refine A_iload (pc := 154) (i := 5) dX7_value_154 rfl ?_
              refine A_ineg (pc := 156) dX7_value_156 ?_
              refine A_aload_n (pc := 157) (i := 0) dX7_value_157 rfl rfl ?_
              refine A_getr (pc := 158) 2 fl_X7_15_7 ht.1 rfl ht.2.2.1 dX7_value_158 ?_
              refine A_aload_n (pc := 161) (i := 0) dX7_value_161 rfl rfl ?_
              refine A_geti (pc := 162) 3 fl_X7_28_7 ht.1 rfl dX7_value_162 ?_
              refine A_top (y := nI (t - 1)) (by simp [am_ui]) ?_
              refine A_iconst (pc := 165) (1) dX7_value_165 (by decide) ?_
              refine A_isub (pc := 166) dX7_value_166 ?_
              refine A_top (y := nI (t - 2)) (by rw [show t - 2 = t - 1 - 1 by omega]; exact pk_sub (a := t - 1) (b := 1) (by omega)) ?_
              refine A_ialdN (pc := 167) ht.2.2.2.2.1 (show t - 2 < 50 by omega) (by decide) dX7_value_167 ?_
              refine A_top (am_ui_o hns.symm) ?_
              refine A_aload_n (pc := 168) (i := 0) dX7_value_168 rfl rfl ?_
              refine A_getr (pc := 169) 2 fl_X7_15_7 ht.1 rfl ht.2.2.1 dX7_value_169 ?_
              refine A_aload_n (pc := 172) (i := 0) dX7_value_172 rfl rfl ?_
              refine A_geti (pc := 173) 3 fl_X7_28_7 ht.1 rfl dX7_value_173 ?_
              refine A_top (y := nI (t - 1)) (by simp [am_ui]) ?_
              refine A_ialdN (pc := 176) ht.2.2.2.2.1 (show t - 1 < 50 by omega) (by decide) dX7_value_176 ?_
              refine A_top (am_ui_o hns.symm) ?_
              refine A_callS1 (pc := 177) cs_X7_94 (s_txres l _ _ _) rfl rfl (Nat.le_of_ble_eq_true rfl) ⟨(Nat.le_of_ble_eq_true rfl), (Nat.le_of_ble_eq_true rfl)⟩ ⟨Nat.zero_le _, Nat.zero_le _⟩ dX7_value_177 ?_
              refine A_iastN (pc := 180) ht.2.2.2.2.1 (show t - 2 < 50 by omega) (by decide) dX7_value_180 ?_
              refine A_inc4 (pc := 181) (nI (j + 1)) dX7_value_181 (nI_1 j) (Nat.le_of_ble_eq_true rfl) rfl ?_
              refine A_goto (pc := 184) 8 dX7_value_184 (by decide) ?_
              refine A_heap ?_ (hih _)
              rw [tv_step, if_neg (Int32.not_le.mpr hb28), if_neg (Int32.not_le.mpr hb44), if_neg (fun h => hb80 h.1), if_pos ht1]
          · refine A_aload_n (pc := 83) (i := 0) dX7_value_83 rfl rfl ?_
            refine A_geti (pc := 84) 3 fl_X7_28_7 ht.1 rfl dX7_value_84 ?_
            refine A_top ht3 ?_
            refine A_ifle (pc := 87) 126 dX7_value_87 (by decide) (fun hb87 => ?_) (fun hb87 => ?_)
            · refine A_aload_n (pc := 126) (i := 0) dX7_value_126 rfl rfl ?_
              refine A_geti (pc := 127) 3 fl_X7_28_7 ht.1 rfl dX7_value_127 ?_
              refine A_top ht3 ?_
              refine A_iconst (pc := 130) (1) dX7_value_130 (by decide) ?_
              refine A_icmple (pc := 131) 181 dX7_value_131 (by decide) (fun hb131 => ?_) (fun hb131 => ?_)
              · refine A_inc4 (pc := 181) (nI (j + 1)) dX7_value_181 (nI_1 j) (Nat.le_of_ble_eq_true rfl) rfl ?_
                refine A_goto (pc := 184) 8 dX7_value_184 (by decide) ?_
                refine A_heap ?_ (hih _)
                rw [tv_step, if_neg (Int32.not_le.mpr hb28), if_neg (Int32.not_le.mpr hb44), if_neg (fun h => absurd ((nI_le0 (by omega)).mp hb87) (by omega)), if_neg (by rw [nI_le1 (by omega)] at hb131; omega)]
              · have ht1 : 1 < t := by rw [nI_le1 (by omega)] at hb131; omega
                refine A_aload_n (pc := 134) (i := 0) dX7_value_134 rfl rfl ?_
                refine A_dup (pc := 135) dX7_value_135 rfl ?_
                refine A_geti (pc := 136) 3 fl_X7_28_7 ht.1 rfl dX7_value_136 ?_
                refine A_top ht3 ?_
                refine A_iconst (pc := 139) (1) dX7_value_139 (by decide) ?_
                refine A_isub (pc := 140) dX7_value_140 ?_
                refine A_top (y := nI (t - 1)) (pk_sub (a := t) (b := 1) (by omega)) ?_
                refine A_puti (pc := 141) 3 fl_X7_28_7 ht.1 rfl (by decide +kernel) rfl rfl dX7_value_141 ?_
                refine A_aload_n (pc := 144) (i := 0) dX7_value_144 rfl rfl ?_
                refine A_getr (pc := 145) 2 fl_X7_15_7 ht.1 rfl ht.2.2.1 dX7_value_145 ?_
                refine A_aload_n (pc := 148) (i := 0) dX7_value_148 rfl rfl ?_
                refine A_geti (pc := 149) 3 fl_X7_28_7 ht.1 rfl dX7_value_149 ?_
                refine A_top (y := nI (t - 1)) (by simp [am_ui]) ?_
                refine A_iconst (pc := 152) (1) dX7_value_152 (by decide) ?_
                refine A_isub (pc := 153) dX7_value_153 ?_
                refine A_top (y := nI (t - 2)) (by rw [show t - 2 = t - 1 - 1 by omega]; exact pk_sub (a := t - 1) (b := 1) (by omega)) ?_
                refine A_iload (pc := 154) (i := 5) dX7_value_154 rfl ?_
                refine A_ineg (pc := 156) dX7_value_156 ?_
                refine A_aload_n (pc := 157) (i := 0) dX7_value_157 rfl rfl ?_
                refine A_getr (pc := 158) 2 fl_X7_15_7 ht.1 rfl ht.2.2.1 dX7_value_158 ?_
                refine A_aload_n (pc := 161) (i := 0) dX7_value_161 rfl rfl ?_
                refine A_geti (pc := 162) 3 fl_X7_28_7 ht.1 rfl dX7_value_162 ?_
                refine A_top (y := nI (t - 1)) (by simp [am_ui]) ?_
                refine A_iconst (pc := 165) (1) dX7_value_165 (by decide) ?_
                refine A_isub (pc := 166) dX7_value_166 ?_
                refine A_top (y := nI (t - 2)) (by rw [show t - 2 = t - 1 - 1 by omega]; exact pk_sub (a := t - 1) (b := 1) (by omega)) ?_
                refine A_ialdN (pc := 167) ht.2.2.2.2.1 (show t - 2 < 50 by omega) (by decide) dX7_value_167 ?_
                refine A_top (am_ui_o hns.symm) ?_
                refine A_aload_n (pc := 168) (i := 0) dX7_value_168 rfl rfl ?_
                refine A_getr (pc := 169) 2 fl_X7_15_7 ht.1 rfl ht.2.2.1 dX7_value_169 ?_
                refine A_aload_n (pc := 172) (i := 0) dX7_value_172 rfl rfl ?_
                refine A_geti (pc := 173) 3 fl_X7_28_7 ht.1 rfl dX7_value_173 ?_
                refine A_top (y := nI (t - 1)) (by simp [am_ui]) ?_
                refine A_ialdN (pc := 176) ht.2.2.2.2.1 (show t - 1 < 50 by omega) (by decide) dX7_value_176 ?_
                refine A_top (am_ui_o hns.symm) ?_
                refine A_callS1 (pc := 177) cs_X7_94 (s_txres l _ _ _) rfl rfl (Nat.le_of_ble_eq_true rfl) ⟨(Nat.le_of_ble_eq_true rfl), (Nat.le_of_ble_eq_true rfl)⟩ ⟨Nat.zero_le _, Nat.zero_le _⟩ dX7_value_177 ?_
                refine A_iastN (pc := 180) ht.2.2.2.2.1 (show t - 2 < 50 by omega) (by decide) dX7_value_180 ?_
                refine A_inc4 (pc := 181) (nI (j + 1)) dX7_value_181 (nI_1 j) (Nat.le_of_ble_eq_true rfl) rfl ?_
                refine A_goto (pc := 184) 8 dX7_value_184 (by decide) ?_
                refine A_heap ?_ (hih _)
                rw [tv_step, if_neg (Int32.not_le.mpr hb28), if_neg (Int32.not_le.mpr hb44), if_neg (fun h => absurd ((nI_le0 (by omega)).mp hb87) (by omega)), if_pos ht1]
            · have hpos : 0 < t := Nat.pos_of_ne_zero (fun h => hb87 ((nI_le0 (by omega)).mpr h))
              refine A_aload_n (pc := 90) (i := 0) dX7_value_90 rfl rfl ?_
              refine A_getr (pc := 91) 2 fl_X7_15_7 ht.1 rfl ht.2.2.1 dX7_value_91 ?_
              refine A_aload_n (pc := 94) (i := 0) dX7_value_94 rfl rfl ?_
              refine A_geti (pc := 95) 3 fl_X7_28_7 ht.1 rfl dX7_value_95 ?_
              refine A_top ht3 ?_
              refine A_iconst (pc := 98) (1) dX7_value_98 (by decide) ?_
              refine A_isub (pc := 99) dX7_value_99 ?_
              refine A_top (y := nI (t - 1)) (pk_sub (a := t) (b := 1) hpos) ?_
              refine A_aload_n (pc := 100) (i := 0) dX7_value_100 rfl rfl ?_
              refine A_getr (pc := 101) 2 fl_X7_15_7 ht.1 rfl ht.2.2.1 dX7_value_101 ?_
              refine A_aload_n (pc := 104) (i := 0) dX7_value_104 rfl rfl ?_
              refine A_geti (pc := 105) 3 fl_X7_28_7 ht.1 rfl dX7_value_105 ?_
              refine A_top ht3 ?_
              refine A_iconst (pc := 108) (1) dX7_value_108 (by decide) ?_
              refine A_isub (pc := 109) dX7_value_109 ?_
              refine A_top (y := nI (t - 1)) (pk_sub (a := t) (b := 1) hpos) ?_
              refine A_ialdN (pc := 110) ht.2.2.2.2.1 (show t - 1 < 50 by omega) (by decide) dX7_value_110 ?_
              refine A_ifne (pc := 111) 118 dX7_value_111 (by decide) (fun hb111 => ?_) (fun hb111 => ?_)
              · refine A_iconst (pc := 118) (0) dX7_value_118 (by decide) ?_
                refine A_callN1 (pc := 119) cn_X7_90 (s_asBit l _) rfl rfl (Nat.le_of_ble_eq_true rfl) ⟨(Nat.le_of_ble_eq_true rfl), (Nat.le_of_ble_eq_true rfl)⟩ ⟨Nat.zero_le _, Nat.zero_le _⟩ dX7_value_119 ?_
                refine A_iastN (pc := 122) ht.2.2.2.2.1 (show t - 1 < 50 by omega) (by decide) dX7_value_122 ?_
                refine A_goto (pc := 123) 181 dX7_value_123 (by decide) ?_
                refine A_inc4 (pc := 181) (nI (j + 1)) dX7_value_181 (nI_1 j) (Nat.le_of_ble_eq_true rfl) rfl ?_
                refine A_goto (pc := 184) 8 dX7_value_184 (by decide) ?_
                refine A_heap ?_ (hih _)
                rw [tv_step, if_neg (Int32.not_le.mpr hb28), if_neg (Int32.not_le.mpr hb44), if_pos (show iv c j = -33 ∧ 0 < t from ⟨hb80, hpos⟩), if_neg hb111]
                rfl
              · refine A_iconst (pc := 114) (1) dX7_value_114 (by decide) ?_
                refine A_goto (pc := 115) 119 dX7_value_115 (by decide) ?_
                refine A_callN1 (pc := 119) cn_X7_90 (s_asBit l _) rfl rfl (Nat.le_of_ble_eq_true rfl) ⟨(Nat.le_of_ble_eq_true rfl), (Nat.le_of_ble_eq_true rfl)⟩ ⟨Nat.zero_le _, Nat.zero_le _⟩ dX7_value_119 ?_
                refine A_iastN (pc := 122) ht.2.2.2.2.1 (show t - 1 < 50 by omega) (by decide) dX7_value_122 ?_
                refine A_goto (pc := 123) 181 dX7_value_123 (by decide) ?_
                refine A_inc4 (pc := 181) (nI (j + 1)) dX7_value_181 (nI_1 j) (Nat.le_of_ble_eq_true rfl) rfl ?_
                refine A_goto (pc := 184) 8 dX7_value_184 (by decide) ?_
                refine A_heap ?_ (hih _)
                rw [tv_step, if_neg (Int32.not_le.mpr hb28), if_neg (Int32.not_le.mpr hb44), if_pos (show iv c j = -33 ∧ 0 < t from ⟨hb80, hpos⟩), if_pos hb111]
                rfl
        · refine A_aload_n (pc := 47) (i := 0) dX7_value_47 rfl rfl ?_
          refine A_iload (pc := 48) (i := 5) dX7_value_48 rfl ?_
          refine A_iconst (pc := 50) (-1) dX7_value_50 (by decide) ?_
          refine A_icmpne (pc := 51) 58 dX7_value_51 (by decide) (fun hb51 => ?_) (fun hb51 => ?_)
          · refine A_iload (pc := 58) (i := 5) dX7_value_58 rfl ?_
            refine A_bipush (pc := 60) (-2) dX7_value_60 (by decide) ?_
            refine A_icmpne (pc := 62) 69 dX7_value_62 (by decide) (fun hb62 => ?_) (fun hb62 => ?_)
            · refine A_iload_n (pc := 69) (i := 3) dX7_value_69 rfl rfl ?_
              refine A_callV0 (pc := 70) cv_X7_59 (s_txpush l n c s ht t ht3 ht50 _) ht.1 rfl rfl rfl rfl (Nat.le_of_ble_eq_true rfl) ⟨(Nat.le_of_ble_eq_true rfl), (Nat.le_of_ble_eq_true rfl)⟩ ⟨Nat.zero_le _, Nat.zero_le _⟩ dX7_value_70 ?_
              refine A_goto (pc := 73) 181 dX7_value_73 (by decide) ?_
              refine A_inc4 (pc := 181) (nI (j + 1)) dX7_value_181 (nI_1 j) (Nat.le_of_ble_eq_true rfl) rfl ?_
              refine A_goto (pc := 184) 8 dX7_value_184 (by decide) ?_
              refine A_heap ?_ (hih _)
              rw [tv_step, if_neg (Int32.not_le.mpr hb28), if_pos (Int32.not_lt.mp hb44), if_neg hb51, if_neg hb62]
            · refine A_iload_n (pc := 65) (i := 2) dX7_value_65 rfl rfl ?_
              refine A_goto (pc := 66) 70 dX7_value_66 (by decide) ?_
              refine A_callV0 (pc := 70) cv_X7_59 (s_txpush l n c s ht t ht3 ht50 _) ht.1 rfl rfl rfl rfl (Nat.le_of_ble_eq_true rfl) ⟨(Nat.le_of_ble_eq_true rfl), (Nat.le_of_ble_eq_true rfl)⟩ ⟨Nat.zero_le _, Nat.zero_le _⟩ dX7_value_70 ?_
              refine A_goto (pc := 73) 181 dX7_value_73 (by decide) ?_
              refine A_inc4 (pc := 181) (nI (j + 1)) dX7_value_181 (nI_1 j) (Nat.le_of_ble_eq_true rfl) rfl ?_
              refine A_goto (pc := 184) 8 dX7_value_184 (by decide) ?_
              refine A_heap ?_ (hih _)
              rw [tv_step, if_neg (Int32.not_le.mpr hb28), if_pos (Int32.not_lt.mp hb44), if_neg hb51, if_pos hb62]
          · refine A_iload_n (pc := 54) (i := 1) dX7_value_54 rfl rfl ?_
            refine A_goto (pc := 55) 70 dX7_value_55 (by decide) ?_
            refine A_callV0 (pc := 70) cv_X7_59 (s_txpush l n c s ht t ht3 ht50 _) ht.1 rfl rfl rfl rfl (Nat.le_of_ble_eq_true rfl) ⟨(Nat.le_of_ble_eq_true rfl), (Nat.le_of_ble_eq_true rfl)⟩ ⟨Nat.zero_le _, Nat.zero_le _⟩ dX7_value_70 ?_
            refine A_goto (pc := 73) 181 dX7_value_73 (by decide) ?_
            refine A_inc4 (pc := 181) (nI (j + 1)) dX7_value_181 (nI_1 j) (Nat.le_of_ble_eq_true rfl) rfl ?_
            refine A_goto (pc := 184) 8 dX7_value_184 (by decide) ?_
            refine A_heap ?_ (hih _)
            rw [tv_step, if_neg (Int32.not_le.mpr hb28), if_pos (Int32.not_lt.mp hb44), if_pos hb51]
      · refine A_aload_n (pc := 31) (i := 0) dX7_value_31 rfl rfl ?_
        refine A_iload (pc := 32) (i := 5) dX7_value_32 rfl ?_
        refine A_callV0 (pc := 34) cv_X7_59 (s_txpush l n c s ht t ht3 ht50 _) ht.1 rfl rfl rfl rfl (Nat.le_of_ble_eq_true rfl) ⟨(Nat.le_of_ble_eq_true rfl), (Nat.le_of_ble_eq_true rfl)⟩ ⟨Nat.zero_le _, Nat.zero_le _⟩ dX7_value_34 ?_
        refine A_goto (pc := 37) 181 dX7_value_37 (by decide) ?_
        refine A_inc4 (pc := 181) (nI (j + 1)) dX7_value_181 (nI_1 j) (Nat.le_of_ble_eq_true rfl) rfl ?_
        refine A_goto (pc := 184) 8 dX7_value_184 (by decide) ?_
        refine A_heap ?_ (hih _)
        rw [tv_step, if_pos (Int32.not_lt.mp hb28)]
/-- what a USE gives, before it is held; the heap behind it -/
def gv_raw (i u z : Nat) (a b c : Int32) (iv : am_iv) : Int32 := if 0 < z then tv_val (9, i, u) (10, i, u) (11, i, u) a b c iv z else if u = 0 then (if a < c * 4 then b * a / 4 else b * c) else a / 50 + b / 100
def gv_heap (i u z : Nat) (a b c : Int32) (iv : am_iv) : am_iv := if 0 < z then tv_run (9, i, u) (10, i, u) (11, i, u) a b c iv z else iv
/-- the places that a text works with -/
def gb (n : am_N) (k : Nat) : Prop := n.1 = 11 ∨ (n.1 = 9 ∧ 3 ≤ k)
theorem gv_heap_o {i u z : Nat} {a b c : Int32} {iv : am_iv} {n : am_N} {k : Nat} (h : ¬ gb n k) : gv_heap i u z a b c iv n k = iv n k := by
  unfold gv_heap
  split
  · refine tv_run_o (fun e => h (Or.inl (by rw [e]))) (fun e => h (Or.inr ⟨by rw [e.1], by omega⟩)) a b c iv z
  · rfl
theorem sh.tx {kd : am_kd} {rv : am_rv} (hS : sh kd rv) {i u : Nat} (h : sh_tx i u) : tx_ok kd rv (9, i, u) (10, i, u) (11, i, u) := ⟨hS.k9 h, hS.w9_0 h, hS.w9_2 h, hS.k10 h, hS.k11 h, by simp, by simp, by simp⟩
set_option maxRecDepth 20000 in
theorem s_given (l : Launch) {kd : am_kd} {rv : am_rv} {iv : am_iv} (hS : sh kd rv) (i : Nat) (hi : i < 4) (u : Nat) (hu : u < 2) (z : Nat) (hz : iv (9, i, u) 1 = nI z) (hz50 : z ≤ 50) (a b c : Int32) : am_Met l mX4_given (am_rm 3 0 0) [am_P (2, i, 0), am_I (nI u), am_I a, am_I b, am_I c] kd rv iv (am_ret (some (am_I (sr_held (gv_raw i u z a b c iv) 0 999))) kd rv (gv_heap i u z a b c iv)) := by
  refine am_Met.of (by decide) (Nat.le_of_ble_eq_true rfl) rfl ?_
  refine A_aload_n (pc := 0) (i := 0) dX4_given_0 rfl rfl ?_
  refine A_getr (pc := 1) 10 fl_X4_42_4 (hS.k2 hi) rfl (hS.w2_10 hi) dX4_given_1 ?_
  refine A_iload_n (pc := 4) (i := 1) dX4_given_4 rfl rfl ?_
  refine A_aaldN (pc := 5) (hS.k8 hi) (by decide) (by decide) hu (by decide) (hS.w8 hi hu) dX4_given_5 ?_
  refine A_ast5 (pc := 6) dX4_given_6 (Nat.le_of_ble_eq_true rfl) rfl ?_
  refine A_aload (pc := 8) (i := 5) dX4_given_8 rfl ?_
  refine A_geti (pc := 10) 1 fl_X4_126_7 (hS.k9 (Or.inl ⟨hi, hu⟩)) rfl dX4_given_10 ?_
  refine A_top hz ?_
  refine A_ifle (pc := 13) 30 dX4_given_13 (by decide) (fun hb13 => ?_) (fun hb13 => ?_)
  · have hz0 : ¬ 0 < z := by rw [nI_le0 (by omega)] at hb13; omega
    refine A_iload_n (pc := 30) (i := 1) dX4_given_30 rfl rfl ?_
    refine A_ifne (pc := 31) 59 dX4_given_31 (by decide) (fun hb31 => ?_) (fun hb31 => ?_)
    · have hu0 : ¬ u = 0 := fun h => hb31 (by rw [h, nI_0])
      refine A_iload_n (pc := 59) (i := 2) dX4_given_59 rfl rfl ?_
      refine A_bipush (pc := 60) (50) dX4_given_60 (by decide) ?_
      refine A_idiv (pc := 62) dX4_given_62 (by decide) ?_
      refine A_iload_n (pc := 63) (i := 3) dX4_given_63 rfl rfl ?_
      refine A_bipush (pc := 64) (100) dX4_given_64 (by decide) ?_
      refine A_idiv (pc := 66) dX4_given_66 (by decide) ?_
      refine A_iadd (pc := 67) dX4_given_67 ?_
      refine A_ist6 (pc := 68) dX4_given_68 (Nat.le_of_ble_eq_true rfl) rfl ?_
      refine A_iload (pc := 70) (i := 6) dX4_given_70 rfl ?_
      refine A_iconst (pc := 72) (0) dX4_given_72 (by decide) ?_
      refine A_sipush (pc := 73) (999) dX4_given_73 (by decide) ?_
      refine A_callN1 (pc := 76) cn_X4_133 (s_held l _ _ _) rfl rfl (Nat.le_of_ble_eq_true rfl) ⟨(Nat.le_of_ble_eq_true rfl), (Nat.le_of_ble_eq_true rfl)⟩ ⟨Nat.zero_le _, Nat.zero_le _⟩ dX4_given_76 ?_
      exact A_iretE (pc := 79) dX4_given_79 rfl (Nat.zero_le _) (Nat.zero_le _) (by rw [gv_raw, if_neg hz0, if_neg hu0]) (by rw [gv_heap, if_neg hz0])
    · have hu0 : u = 0 := by rw [← nI_0, nI_eq (by omega) (by decide)] at hb31; exact hb31
      refine A_iload_n (pc := 34) (i := 2) dX4_given_34 rfl rfl ?_
      refine A_iload (pc := 35) (i := 4) dX4_given_35 rfl ?_
      refine A_iconst (pc := 37) (4) dX4_given_37 (by decide) ?_
      refine A_imul (pc := 38) dX4_given_38 ?_
      refine A_icmpge (pc := 39) 50 dX4_given_39 (by decide) (fun hb39 => ?_) (fun hb39 => ?_)
      · refine A_iload_n (pc := 50) (i := 3) dX4_given_50 rfl rfl ?_
        refine A_iload (pc := 51) (i := 4) dX4_given_51 rfl ?_
        refine A_imul (pc := 53) dX4_given_53 ?_
        refine A_ist6 (pc := 54) dX4_given_54 (Nat.le_of_ble_eq_true rfl) rfl ?_
        refine A_goto (pc := 56) 70 dX4_given_56 (by decide) ?_
        refine A_iload (pc := 70) (i := 6) dX4_given_70 rfl ?_
        refine A_iconst (pc := 72) (0) dX4_given_72 (by decide) ?_
        refine A_sipush (pc := 73) (999) dX4_given_73 (by decide) ?_
        refine A_callN1 (pc := 76) cn_X4_133 (s_held l _ _ _) rfl rfl (Nat.le_of_ble_eq_true rfl) ⟨(Nat.le_of_ble_eq_true rfl), (Nat.le_of_ble_eq_true rfl)⟩ ⟨Nat.zero_le _, Nat.zero_le _⟩ dX4_given_76 ?_
        exact A_iretE (pc := 79) dX4_given_79 rfl (Nat.zero_le _) (Nat.zero_le _) (by rw [gv_raw, if_neg hz0, if_pos hu0, if_neg (Int32.not_lt.mpr hb39)]) (by rw [gv_heap, if_neg hz0])
      · refine A_iload_n (pc := 42) (i := 3) dX4_given_42 rfl rfl ?_
        refine A_iload_n (pc := 43) (i := 2) dX4_given_43 rfl rfl ?_
        refine A_imul (pc := 44) dX4_given_44 ?_
        refine A_iconst (pc := 45) (4) dX4_given_45 (by decide) ?_
        refine A_idiv (pc := 46) dX4_given_46 (by decide) ?_
        refine A_goto (pc := 47) 54 dX4_given_47 (by decide) ?_
        refine A_ist6 (pc := 54) dX4_given_54 (Nat.le_of_ble_eq_true rfl) rfl ?_
        refine A_goto (pc := 56) 70 dX4_given_56 (by decide) ?_
        refine A_iload (pc := 70) (i := 6) dX4_given_70 rfl ?_
        refine A_iconst (pc := 72) (0) dX4_given_72 (by decide) ?_
        refine A_sipush (pc := 73) (999) dX4_given_73 (by decide) ?_
        refine A_callN1 (pc := 76) cn_X4_133 (s_held l _ _ _) rfl rfl (Nat.le_of_ble_eq_true rfl) ⟨(Nat.le_of_ble_eq_true rfl), (Nat.le_of_ble_eq_true rfl)⟩ ⟨Nat.zero_le _, Nat.zero_le _⟩ dX4_given_76 ?_
        exact A_iretE (pc := 79) dX4_given_79 rfl (Nat.zero_le _) (Nat.zero_le _) (by rw [gv_raw, if_neg hz0, if_pos hu0, if_pos (Int32.not_le.mp hb39)]) (by rw [gv_heap, if_neg hz0])
  · have hz0 : 0 < z := Nat.pos_of_ne_zero (fun h => hb13 ((nI_le0 (by omega)).mpr h))
    refine A_aload (pc := 16) (i := 5) dX4_given_16 rfl ?_
    refine A_iload_n (pc := 18) (i := 2) dX4_given_18 rfl rfl ?_
    refine A_iload_n (pc := 19) (i := 3) dX4_given_19 rfl rfl ?_
    refine A_iload (pc := 20) (i := 4) dX4_given_20 rfl ?_
    refine A_callV1 (pc := 22) cv_X4_129 (s_value l (9, i, u) (10, i, u) (11, i, u) (hS.tx (Or.inl ⟨hi, hu⟩)) z hz hz50 a b c) (hS.k9 (Or.inl ⟨hi, hu⟩)) rfl rfl rfl rfl (Nat.le_of_ble_eq_true rfl) ⟨(Nat.le_of_ble_eq_true rfl), (Nat.le_of_ble_eq_true rfl)⟩ ⟨Nat.zero_le _, Nat.zero_le _⟩ dX4_given_22 ?_
    refine A_ist6 (pc := 25) dX4_given_25 (Nat.le_of_ble_eq_true rfl) rfl ?_
    refine A_goto (pc := 27) 70 dX4_given_27 (by decide) ?_
    refine A_iload (pc := 70) (i := 6) dX4_given_70 rfl ?_
    refine A_iconst (pc := 72) (0) dX4_given_72 (by decide) ?_
    refine A_sipush (pc := 73) (999) dX4_given_73 (by decide) ?_
    refine A_callN1 (pc := 76) cn_X4_133 (s_held l _ _ _) rfl rfl (Nat.le_of_ble_eq_true rfl) ⟨(Nat.le_of_ble_eq_true rfl), (Nat.le_of_ble_eq_true rfl)⟩ ⟨Nat.zero_le _, Nat.zero_le _⟩ dX4_given_76 ?_
    exact A_iretE (pc := 79) dX4_given_79 rfl (Nat.zero_le _) (Nat.zero_le _) (by rw [gv_raw, if_pos hz0]) (by rw [gv_heap, if_pos hz0])
