/-! Text: 0 codes, 1 size, 2 stack, 3 top, 4 open, 5 digits, 6 wanting -/
def tx_ok (kd : am_kd) (rv : am_rv) (n c s : am_N) : Prop := kd n = some (.inl 7) ∧ rv n 0 = some c ∧ rv n 2 = some s ∧ kd c = some (.inr (0, 50)) ∧ kd s = some (.inr (0, 50)) ∧ n ≠ c ∧ n ≠ s ∧ c ≠ s
def tx_push (n s : am_N) (t : Nat) (v : Int32) (iv : am_iv) : am_iv := if t < 50 then am_ui (am_ui iv s t v) n 3 (nI (t + 1)) else iv
def tx_app (n c : am_N) (z : Nat) (v : Int32) (iv : am_iv) : am_iv := if z < 50 then am_ui (am_ui iv c z v) n 1 (nI (z + 1)) else iv
def tx_res (g a b : Int32) : Int32 := if g = 38 then sr_b (¬ a = 0 ∧ ¬ b = 0) else if g = 42 then a * b else if g = 43 then a + b else if g = 45 then a - b else if g = 47 then sr_q a b else if g = 60 then sr_b (a < b) else if g = 61 then sr_b (a = b) else if g = 62 then sr_b (b < a) else if g = 124 then sr_b (¬ a = 0 ∨ ¬ b = 0) else if b = 0 then 0 else a - a / b * b
def tx_rank (g : Int32) : Int32 := if g = 124 then 1 else if g = 38 then 2 else if g = 60 ∨ g = 61 ∨ g = 62 then 3 else if g = 43 ∨ g = 45 then 4 else if g = 42 ∨ g = 47 ∨ g = 37 then 5 else if g = 33 then 6 else 0
set_option maxRecDepth 20000 in
theorem s_txpush (l : Launch) {kd : am_kd} {rv : am_rv} {iv : am_iv} (n c s : am_N) (ht : tx_ok kd rv n c s) (t : Nat) (ht3 : iv n 3 = nI t) (ht50 : t ≤ 50) (v : Int32) : am_Met l mX7_push (am_rm 0 0 0) [am_P n, am_I v] kd rv iv (am_ret none kd rv (tx_push n s t v iv)) := by
  refine am_Met.of (by decide) (Nat.le_of_ble_eq_true rfl) rfl ?_
  refine A_aload_n (pc := 0) (i := 0) dX7_push_0 rfl rfl ?_
  refine A_geti (pc := 1) 3 fl_X7_28_7 ht.1 rfl dX7_push_1 ?_
  refine A_aload_n (pc := 4) (i := 0) dX7_push_4 rfl rfl ?_
  refine A_getr (pc := 5) 2 fl_X7_15_7 ht.1 rfl ht.2.2.1 dX7_push_5 ?_
  refine A_alen (pc := 8) ht.2.2.2.2.1 (Nat.le_of_ble_eq_true rfl) dX7_push_8 ?_
  refine A_top2 ht3 ?_
  refine A_icmpge (pc := 9) 32 dX7_push_9 (by decide) (fun hb9 => ?_) (fun hb9 => ?_)
  · exact A_vretE (pc := 32) dX7_push_32 rfl (Nat.zero_le _) (Nat.zero_le _) (by rw [tx_push, if_neg (fun h => nI_ge h (by decide) hb9)])
  · have hlt : t < 50 := by
      rcases Nat.lt_or_ge t 50 with h | h
      · exact h
      · exact absurd (nI_le h (by omega)) hb9
    refine A_aload_n (pc := 12) (i := 0) dX7_push_12 rfl rfl ?_
    refine A_getr (pc := 13) 2 fl_X7_15_7 ht.1 rfl ht.2.2.1 dX7_push_13 ?_
    refine A_aload_n (pc := 16) (i := 0) dX7_push_16 rfl rfl ?_
    refine A_geti (pc := 17) 3 fl_X7_28_7 ht.1 rfl dX7_push_17 ?_
    refine A_iload_n (pc := 20) (i := 1) dX7_push_20 rfl rfl ?_
    refine A_top2 ht3 ?_
    refine A_iastN (pc := 21) ht.2.2.2.2.1 hlt (by decide) dX7_push_21 ?_
    refine A_aload_n (pc := 22) (i := 0) dX7_push_22 rfl rfl ?_
    refine A_dup (pc := 23) dX7_push_23 rfl ?_
    refine A_geti (pc := 24) 3 fl_X7_28_7 ht.1 rfl dX7_push_24 ?_
    refine A_iconst (pc := 27) (1) dX7_push_27 (by decide) ?_
    refine A_top2 (y := nI t) (by rw [am_ui_o ht.2.2.2.2.2.2.1]; exact ht3) ?_
    refine A_iadd (pc := 28) dX7_push_28 ?_
    refine A_top (nI_1 t) ?_
    refine A_puti (pc := 29) 3 fl_X7_28_7 ht.1 rfl (by decide +kernel) rfl rfl dX7_push_29 ?_
    exact A_vretE (pc := 32) dX7_push_32 rfl (Nat.zero_le _) (Nat.zero_le _) (by rw [tx_push, if_pos hlt])
set_option maxRecDepth 20000 in
theorem s_txapp (l : Launch) {kd : am_kd} {rv : am_rv} {iv : am_iv} (n c s : am_N) (ht : tx_ok kd rv n c s) (z : Nat) (hz1 : iv n 1 = nI z) (hz50 : z ≤ 50) (v : Int32) : am_Met l mX7_append (am_rm 0 0 0) [am_P n, am_I v] kd rv iv (am_ret none kd rv (tx_app n c z v iv)) := by
  refine am_Met.of (by decide) (Nat.le_of_ble_eq_true rfl) rfl ?_
  refine A_aload_n (pc := 0) (i := 0) dX7_append_0 rfl rfl ?_
  refine A_geti (pc := 1) 1 fl_X7_18_7 ht.1 rfl dX7_append_1 ?_
  refine A_aload_n (pc := 4) (i := 0) dX7_append_4 rfl rfl ?_
  refine A_getr (pc := 5) 0 fl_X7_9_7 ht.1 rfl ht.2.1 dX7_append_5 ?_
  refine A_alen (pc := 8) ht.2.2.2.1 (Nat.le_of_ble_eq_true rfl) dX7_append_8 ?_
  refine A_top2 hz1 ?_
  refine A_icmpge (pc := 9) 32 dX7_append_9 (by decide) (fun hb9 => ?_) (fun hb9 => ?_)
  · exact A_vretE (pc := 32) dX7_append_32 rfl (Nat.zero_le _) (Nat.zero_le _) (by rw [tx_app, if_neg (fun h => nI_ge h (by decide) hb9)])
  · have hlt : z < 50 := by
      rcases Nat.lt_or_ge z 50 with h | h
      · exact h
      · exact absurd (nI_le h (by omega)) hb9
    refine A_aload_n (pc := 12) (i := 0) dX7_append_12 rfl rfl ?_
    refine A_getr (pc := 13) 0 fl_X7_9_7 ht.1 rfl ht.2.1 dX7_append_13 ?_
    refine A_aload_n (pc := 16) (i := 0) dX7_append_16 rfl rfl ?_
    refine A_geti (pc := 17) 1 fl_X7_18_7 ht.1 rfl dX7_append_17 ?_
    refine A_iload_n (pc := 20) (i := 1) dX7_append_20 rfl rfl ?_
    refine A_top2 hz1 ?_
    refine A_iastN (pc := 21) ht.2.2.2.1 hlt (by decide) dX7_append_21 ?_
    refine A_aload_n (pc := 22) (i := 0) dX7_append_22 rfl rfl ?_
    refine A_dup (pc := 23) dX7_append_23 rfl ?_
    refine A_geti (pc := 24) 1 fl_X7_18_7 ht.1 rfl dX7_append_24 ?_
    refine A_iconst (pc := 27) (1) dX7_append_27 (by decide) ?_
    refine A_top2 (y := nI z) (by rw [am_ui_o ht.2.2.2.2.2.1]; exact hz1) ?_
    refine A_iadd (pc := 28) dX7_append_28 ?_
    refine A_top (nI_1 z) ?_
    refine A_puti (pc := 29) 1 fl_X7_18_7 ht.1 rfl (by decide +kernel) rfl rfl dX7_append_29 ?_
    exact A_vretE (pc := 32) dX7_append_32 rfl (Nat.zero_le _) (Nat.zero_le _) (by rw [tx_app, if_pos hlt])
def tx_cp (n c b : am_N) (z : Nat) (iv : am_iv) : am_iv := am_cpy (am_ui iv n 1 (nI z)) b c 0 0 z
set_option maxRecDepth 20000 in
theorem s_txbecome (l : Launch) {kd : am_kd} {rv : am_rv} {iv : am_iv} (n c s : am_N) (ht : tx_ok kd rv n c s) (o b s2 : am_N) (ho : tx_ok kd rv o b s2) (z : Nat) (hz : iv o 1 = nI z) (hz50 : z ≤ 50) : am_Met l mX7_become (am_rm 1 0 0) [am_P n, am_P o] kd rv iv (am_ret none kd rv (tx_cp n c b z iv)) := by
  refine am_Met.of (by decide) (Nat.le_of_ble_eq_true rfl) rfl ?_
  refine A_aload_n (pc := 0) (i := 0) dX7_become_0 rfl rfl ?_
  refine A_aload_n (pc := 1) (i := 1) dX7_become_1 rfl rfl ?_
  refine A_geti (pc := 2) 1 fl_X7_18_7 ho.1 rfl dX7_become_2 ?_
  refine A_top hz ?_
  refine A_puti (pc := 5) 1 fl_X7_18_7 ht.1 rfl (by decide +kernel) rfl rfl dX7_become_5 ?_
  refine A_aload_n (pc := 8) (i := 1) dX7_become_8 rfl rfl ?_
  refine A_getr (pc := 9) 0 fl_X7_9_7 ho.1 rfl ho.2.1 dX7_become_9 ?_
  refine A_iconst (pc := 12) (0) dX7_become_12 (by decide) ?_
  refine A_aload_n (pc := 13) (i := 0) dX7_become_13 rfl rfl ?_
  refine A_getr (pc := 14) 0 fl_X7_9_7 ht.1 rfl ht.2.1 dX7_become_14 ?_
  refine A_iconst (pc := 17) (0) dX7_become_17 (by decide) ?_
  refine A_aload_n (pc := 18) (i := 0) dX7_become_18 rfl rfl ?_
  refine A_geti (pc := 19) 1 fl_X7_18_7 ht.1 rfl dX7_become_19 ?_
  refine A_top (y := nI z) (by simp [am_ui]) ?_
  refine A_copy (pc := 22) cc_X7_22 ho.2.2.2.1 ht.2.2.2.1 (by decide) (by decide) (nI_neg (by omega)) (by rw [nI_clamp (by omega)]; simpa using hz50) (by rw [nI_clamp (by omega)]; simpa using hz50) (Nat.le_of_ble_eq_true rfl) (Nat.le_of_ble_eq_true rfl) dX7_become_22 ?_
  refine A_heap (iv' := tx_cp n c b z iv) (by rw [nI_clamp (by omega)]; rfl) ?_
  exact A_vretE (pc := 25) dX7_become_25 rfl (Nat.zero_le _) (Nat.zero_le _) (rfl)
set_option maxRecDepth 20000 in
theorem s_txres (l : Launch) {kd : am_kd} {rv : am_rv} {iv : am_iv} (g a b : Int32) : am_Met l mX7_result (am_rm 1 0 0) [am_I g, am_I a, am_I b] kd rv iv (am_ret (some (am_I (tx_res g a b))) kd rv iv) := by
  refine am_Met.of (by decide) (Nat.le_of_ble_eq_true rfl) rfl ?_
  refine A_iload_n (pc := 0) (i := 0) dX7_result_0 rfl rfl ?_
  by_cases hs1_38 : g = (38)
  · refine A_lookup (pc := 1) (off := 100) 101 dX7_result_1 (by decide) (by rw [hs1_38]; decide) (by decide) ?_
    refine A_iload_n (pc := 101) (i := 1) dX7_result_101 rfl rfl ?_
    refine A_ifeq (pc := 102) 113 dX7_result_102 (by decide) (fun hb102 => ?_) (fun hb102 => ?_)
    · refine A_iconst (pc := 113) (0) dX7_result_113 (by decide) ?_
      refine A_callN1 (pc := 114) cn_X7_90 (s_asBit l _) rfl rfl (Nat.le_of_ble_eq_true rfl) ⟨(Nat.le_of_ble_eq_true rfl), (Nat.le_of_ble_eq_true rfl)⟩ ⟨Nat.zero_le _, Nat.zero_le _⟩ dX7_result_114 ?_
      exact A_iretE (pc := 117) dX7_result_117 rfl (Nat.zero_le _) (Nat.zero_le _) (by simp_all [tx_res, sr_b, fa_lt, fa_le]) (rfl)
    · refine A_iload_n (pc := 105) (i := 2) dX7_result_105 rfl rfl ?_
      refine A_ifeq (pc := 106) 113 dX7_result_106 (by decide) (fun hb106 => ?_) (fun hb106 => ?_)
      · refine A_iconst (pc := 113) (0) dX7_result_113 (by decide) ?_
        refine A_callN1 (pc := 114) cn_X7_90 (s_asBit l _) rfl rfl (Nat.le_of_ble_eq_true rfl) ⟨(Nat.le_of_ble_eq_true rfl), (Nat.le_of_ble_eq_true rfl)⟩ ⟨Nat.zero_le _, Nat.zero_le _⟩ dX7_result_114 ?_
        exact A_iretE (pc := 117) dX7_result_117 rfl (Nat.zero_le _) (Nat.zero_le _) (by simp_all [tx_res, sr_b, fa_lt, fa_le]) (rfl)
      · refine A_iconst (pc := 109) (1) dX7_result_109 (by decide) ?_
        refine A_goto (pc := 110) 114 dX7_result_110 (by decide) ?_
        refine A_callN1 (pc := 114) cn_X7_90 (s_asBit l _) rfl rfl (Nat.le_of_ble_eq_true rfl) ⟨(Nat.le_of_ble_eq_true rfl), (Nat.le_of_ble_eq_true rfl)⟩ ⟨Nat.zero_le _, Nat.zero_le _⟩ dX7_result_114 ?_
        exact A_iretE (pc := 117) dX7_result_117 rfl (Nat.zero_le _) (Nat.zero_le _) (by simp_all [tx_res, sr_b, fa_lt, fa_le]) (rfl)
  by_cases hs1_42 : g = (42)
  · refine A_lookup (pc := 1) (off := 167) 168 dX7_result_1 (by decide) (by rw [hs1_42]; decide) (by decide) ?_
    refine A_iload_n (pc := 168) (i := 1) dX7_result_168 rfl rfl ?_
    refine A_iload_n (pc := 169) (i := 2) dX7_result_169 rfl rfl ?_
    refine A_imul (pc := 170) dX7_result_170 ?_
    exact A_iretE (pc := 171) dX7_result_171 rfl (Nat.zero_le _) (Nat.zero_le _) (by simp_all [tx_res, sr_b, fa_lt, fa_le]) (rfl)
  by_cases hs1_43 : g = (43)
  · refine A_lookup (pc := 1) (off := 159) 160 dX7_result_1 (by decide) (by rw [hs1_43]; decide) (by decide) ?_
    refine A_iload_n (pc := 160) (i := 1) dX7_result_160 rfl rfl ?_
    refine A_iload_n (pc := 161) (i := 2) dX7_result_161 rfl rfl ?_
    refine A_iadd (pc := 162) dX7_result_162 ?_
    exact A_iretE (pc := 163) dX7_result_163 rfl (Nat.zero_le _) (Nat.zero_le _) (by simp_all [tx_res, sr_b, fa_lt, fa_le]) (rfl)
  by_cases hs1_45 : g = (45)
  · refine A_lookup (pc := 1) (off := 163) 164 dX7_result_1 (by decide) (by rw [hs1_45]; decide) (by decide) ?_
    refine A_iload_n (pc := 164) (i := 1) dX7_result_164 rfl rfl ?_
    refine A_iload_n (pc := 165) (i := 2) dX7_result_165 rfl rfl ?_
    refine A_isub (pc := 166) dX7_result_166 ?_
    exact A_iretE (pc := 167) dX7_result_167 rfl (Nat.zero_le _) (Nat.zero_le _) (by simp_all [tx_res, sr_b, fa_lt, fa_le]) (rfl)
  by_cases hs1_47 : g = (47)
  · refine A_lookup (pc := 1) (off := 171) 172 dX7_result_1 (by decide) (by rw [hs1_47]; decide) (by decide) ?_
    refine A_iload_n (pc := 172) (i := 1) dX7_result_172 rfl rfl ?_
    refine A_iload_n (pc := 173) (i := 2) dX7_result_173 rfl rfl ?_
    refine A_callN1 (pc := 174) cn_X7_98 (s_quotient l _ _) rfl rfl (Nat.le_of_ble_eq_true rfl) ⟨(Nat.le_of_ble_eq_true rfl), (Nat.le_of_ble_eq_true rfl)⟩ ⟨Nat.zero_le _, Nat.zero_le _⟩ dX7_result_174 ?_
    exact A_iretE (pc := 177) dX7_result_177 rfl (Nat.zero_le _) (Nat.zero_le _) (by simp_all [tx_res, sr_b, fa_lt, fa_le]) (rfl)
  by_cases hs1_60 : g = (60)
  · refine A_lookup (pc := 1) (off := 117) 118 dX7_result_1 (by decide) (by rw [hs1_60]; decide) (by decide) ?_
    refine A_iload_n (pc := 118) (i := 1) dX7_result_118 rfl rfl ?_
    refine A_iload_n (pc := 119) (i := 2) dX7_result_119 rfl rfl ?_
    refine A_icmpge (pc := 120) 127 dX7_result_120 (by decide) (fun hb120 => ?_) (fun hb120 => ?_)
    · refine A_iconst (pc := 127) (0) dX7_result_127 (by decide) ?_
      refine A_callN1 (pc := 128) cn_X7_90 (s_asBit l _) rfl rfl (Nat.le_of_ble_eq_true rfl) ⟨(Nat.le_of_ble_eq_true rfl), (Nat.le_of_ble_eq_true rfl)⟩ ⟨Nat.zero_le _, Nat.zero_le _⟩ dX7_result_128 ?_
      exact A_iretE (pc := 131) dX7_result_131 rfl (Nat.zero_le _) (Nat.zero_le _) (by simp_all [tx_res, sr_b, fa_lt, fa_le]) (rfl)
    · refine A_iconst (pc := 123) (1) dX7_result_123 (by decide) ?_
      refine A_goto (pc := 124) 128 dX7_result_124 (by decide) ?_
      refine A_callN1 (pc := 128) cn_X7_90 (s_asBit l _) rfl rfl (Nat.le_of_ble_eq_true rfl) ⟨(Nat.le_of_ble_eq_true rfl), (Nat.le_of_ble_eq_true rfl)⟩ ⟨Nat.zero_le _, Nat.zero_le _⟩ dX7_result_128 ?_
      exact A_iretE (pc := 131) dX7_result_131 rfl (Nat.zero_le _) (Nat.zero_le _) (by simp_all [tx_res, sr_b, fa_lt, fa_le]) (rfl)
  by_cases hs1_61 : g = (61)
  · refine A_lookup (pc := 1) (off := 131) 132 dX7_result_1 (by decide) (by rw [hs1_61]; decide) (by decide) ?_
    refine A_iload_n (pc := 132) (i := 1) dX7_result_132 rfl rfl ?_
    refine A_iload_n (pc := 133) (i := 2) dX7_result_133 rfl rfl ?_
    refine A_icmpne (pc := 134) 141 dX7_result_134 (by decide) (fun hb134 => ?_) (fun hb134 => ?_)
    · refine A_iconst (pc := 141) (0) dX7_result_141 (by decide) ?_
      refine A_callN1 (pc := 142) cn_X7_90 (s_asBit l _) rfl rfl (Nat.le_of_ble_eq_true rfl) ⟨(Nat.le_of_ble_eq_true rfl), (Nat.le_of_ble_eq_true rfl)⟩ ⟨Nat.zero_le _, Nat.zero_le _⟩ dX7_result_142 ?_
      exact A_iretE (pc := 145) dX7_result_145 rfl (Nat.zero_le _) (Nat.zero_le _) (by simp_all [tx_res, sr_b, fa_lt, fa_le]) (rfl)
    · refine A_iconst (pc := 137) (1) dX7_result_137 (by decide) ?_
      refine A_goto (pc := 138) 142 dX7_result_138 (by decide) ?_
      refine A_callN1 (pc := 142) cn_X7_90 (s_asBit l _) rfl rfl (Nat.le_of_ble_eq_true rfl) ⟨(Nat.le_of_ble_eq_true rfl), (Nat.le_of_ble_eq_true rfl)⟩ ⟨Nat.zero_le _, Nat.zero_le _⟩ dX7_result_142 ?_
      exact A_iretE (pc := 145) dX7_result_145 rfl (Nat.zero_le _) (Nat.zero_le _) (by simp_all [tx_res, sr_b, fa_lt, fa_le]) (rfl)
  by_cases hs1_62 : g = (62)
  · refine A_lookup (pc := 1) (off := 145) 146 dX7_result_1 (by decide) (by rw [hs1_62]; decide) (by decide) ?_
    refine A_iload_n (pc := 146) (i := 1) dX7_result_146 rfl rfl ?_
    refine A_iload_n (pc := 147) (i := 2) dX7_result_147 rfl rfl ?_
    refine A_icmple (pc := 148) 155 dX7_result_148 (by decide) (fun hb148 => ?_) (fun hb148 => ?_)
    · refine A_iconst (pc := 155) (0) dX7_result_155 (by decide) ?_
      refine A_callN1 (pc := 156) cn_X7_90 (s_asBit l _) rfl rfl (Nat.le_of_ble_eq_true rfl) ⟨(Nat.le_of_ble_eq_true rfl), (Nat.le_of_ble_eq_true rfl)⟩ ⟨Nat.zero_le _, Nat.zero_le _⟩ dX7_result_156 ?_
      exact A_iretE (pc := 159) dX7_result_159 rfl (Nat.zero_le _) (Nat.zero_le _) (by simp_all [tx_res, sr_b, fa_lt, fa_le]) (rfl)
    · refine A_iconst (pc := 151) (1) dX7_result_151 (by decide) ?_
      refine A_goto (pc := 152) 156 dX7_result_152 (by decide) ?_
      refine A_callN1 (pc := 156) cn_X7_90 (s_asBit l _) rfl rfl (Nat.le_of_ble_eq_true rfl) ⟨(Nat.le_of_ble_eq_true rfl), (Nat.le_of_ble_eq_true rfl)⟩ ⟨Nat.zero_le _, Nat.zero_le _⟩ dX7_result_156 ?_
      exact A_iretE (pc := 159) dX7_result_159 rfl (Nat.zero_le _) (Nat.zero_le _) (by simp_all [tx_res, sr_b, fa_lt, fa_le]) (rfl)
  by_cases hs1_124 : g = (124)
  · refine A_lookup (pc := 1) (off := 83) 84 dX7_result_1 (by decide) (by rw [hs1_124]; decide) (by decide) ?_
    refine A_iload_n (pc := 84) (i := 1) dX7_result_84 rfl rfl ?_
    refine A_ifne (pc := 85) 92 dX7_result_85 (by decide) (fun hb85 => ?_) (fun hb85 => ?_)
    · refine A_iconst (pc := 92) (1) dX7_result_92 (by decide) ?_
      refine A_goto (pc := 93) 97 dX7_result_93 (by decide) ?_
      refine A_callN1 (pc := 97) cn_X7_90 (s_asBit l _) rfl rfl (Nat.le_of_ble_eq_true rfl) ⟨(Nat.le_of_ble_eq_true rfl), (Nat.le_of_ble_eq_true rfl)⟩ ⟨Nat.zero_le _, Nat.zero_le _⟩ dX7_result_97 ?_
      exact A_iretE (pc := 100) dX7_result_100 rfl (Nat.zero_le _) (Nat.zero_le _) (by simp_all [tx_res, sr_b, fa_lt, fa_le]) (rfl)
    · refine A_iload_n (pc := 88) (i := 2) dX7_result_88 rfl rfl ?_
      refine A_ifeq (pc := 89) 96 dX7_result_89 (by decide) (fun hb89 => ?_) (fun hb89 => ?_)
      · refine A_iconst (pc := 96) (0) dX7_result_96 (by decide) ?_
        refine A_callN1 (pc := 97) cn_X7_90 (s_asBit l _) rfl rfl (Nat.le_of_ble_eq_true rfl) ⟨(Nat.le_of_ble_eq_true rfl), (Nat.le_of_ble_eq_true rfl)⟩ ⟨Nat.zero_le _, Nat.zero_le _⟩ dX7_result_97 ?_
        exact A_iretE (pc := 100) dX7_result_100 rfl (Nat.zero_le _) (Nat.zero_le _) (by simp_all [tx_res, sr_b, fa_lt, fa_le]) (rfl)
      · refine A_iconst (pc := 92) (1) dX7_result_92 (by decide) ?_
        refine A_goto (pc := 93) 97 dX7_result_93 (by decide) ?_
        refine A_callN1 (pc := 97) cn_X7_90 (s_asBit l _) rfl rfl (Nat.le_of_ble_eq_true rfl) ⟨(Nat.le_of_ble_eq_true rfl), (Nat.le_of_ble_eq_true rfl)⟩ ⟨Nat.zero_le _, Nat.zero_le _⟩ dX7_result_97 ?_
        exact A_iretE (pc := 100) dX7_result_100 rfl (Nat.zero_le _) (Nat.zero_le _) (by simp_all [tx_res, sr_b, fa_lt, fa_le]) (rfl)
  refine A_lookup (pc := 1) (off := 177) 178 dX7_result_1 (by decide) (by show Op.lookupswitch.offset [(38, 100), (42, 167), (43, 159), (45, 163), (47, 171), (60, 117), (61, 131), (62, 145), (124, 83)] (177) _ = _; rw [lv_osw (k := (38)) hs1_38 (by decide), lv_osw (k := (42)) hs1_42 (by decide), lv_osw (k := (43)) hs1_43 (by decide), lv_osw (k := (45)) hs1_45 (by decide), lv_osw (k := (47)) hs1_47 (by decide), lv_osw (k := (60)) hs1_60 (by decide), lv_osw (k := (61)) hs1_61 (by decide), lv_osw (k := (62)) hs1_62 (by decide), lv_osw (k := (124)) hs1_124 (by decide)]; rfl) (by decide) ?_
  refine A_iload_n (pc := 178) (i := 2) dX7_result_178 rfl rfl ?_
  refine A_ifne (pc := 179) 186 dX7_result_179 (by decide) (fun hb179 => ?_) (fun hb179 => ?_)
  · refine A_iload_n (pc := 186) (i := 1) dX7_result_186 rfl rfl ?_
    refine A_iload_n (pc := 187) (i := 2) dX7_result_187 rfl rfl ?_
    refine A_irem (pc := 188) dX7_result_188 hb179 ?_
    exact A_iretE (pc := 189) dX7_result_189 rfl (Nat.zero_le _) (Nat.zero_le _) (by simp_all [tx_res, sr_b, fa_lt, fa_le]) (rfl)
  · refine A_iconst (pc := 182) (0) dX7_result_182 (by decide) ?_
    refine A_goto (pc := 183) 189 dX7_result_183 (by decide) ?_
    exact A_iretE (pc := 189) dX7_result_189 rfl (Nat.zero_le _) (Nat.zero_le _) (by simp_all [tx_res, sr_b, fa_lt, fa_le]) (rfl)
set_option maxRecDepth 20000 in
theorem s_txrank (l : Launch) {kd : am_kd} {rv : am_rv} {iv : am_iv} (g : Int32) : am_Met l mX7_rank (am_rm 0 0 0) [am_I g] kd rv iv (am_ret (some (am_I (tx_rank g))) kd rv iv) := by
  refine am_Met.of (by decide) (Nat.le_of_ble_eq_true rfl) rfl ?_
  refine A_iload_n (pc := 0) (i := 0) dX7_rank_0 rfl rfl ?_
  by_cases hs1_33 : g = (33)
  · refine A_lookup (pc := 1) (off := 109) 110 dX7_rank_1 (by decide) (by rw [hs1_33]; decide) (by decide) ?_
    refine A_bipush (pc := 110) (6) dX7_rank_110 (by decide) ?_
    exact A_iretE (pc := 112) dX7_rank_112 rfl (Nat.zero_le _) (Nat.zero_le _) (by simp_all [tx_rank]) (rfl)
  by_cases hs1_37 : g = (37)
  · refine A_lookup (pc := 1) (off := 107) 108 dX7_rank_1 (by decide) (by rw [hs1_37]; decide) (by decide) ?_
    refine A_iconst (pc := 108) (5) dX7_rank_108 (by decide) ?_
    exact A_iretE (pc := 109) dX7_rank_109 rfl (Nat.zero_le _) (Nat.zero_le _) (by simp_all [tx_rank]) (rfl)
  by_cases hs1_38 : g = (38)
  · refine A_lookup (pc := 1) (off := 101) 102 dX7_rank_1 (by decide) (by rw [hs1_38]; decide) (by decide) ?_
    refine A_iconst (pc := 102) (2) dX7_rank_102 (by decide) ?_
    exact A_iretE (pc := 103) dX7_rank_103 rfl (Nat.zero_le _) (Nat.zero_le _) (by simp_all [tx_rank]) (rfl)
  by_cases hs1_42 : g = (42)
  · refine A_lookup (pc := 1) (off := 107) 108 dX7_rank_1 (by decide) (by rw [hs1_42]; decide) (by decide) ?_
    refine A_iconst (pc := 108) (5) dX7_rank_108 (by decide) ?_
    exact A_iretE (pc := 109) dX7_rank_109 rfl (Nat.zero_le _) (Nat.zero_le _) (by simp_all [tx_rank]) (rfl)
  by_cases hs1_43 : g = (43)
  · refine A_lookup (pc := 1) (off := 105) 106 dX7_rank_1 (by decide) (by rw [hs1_43]; decide) (by decide) ?_
    refine A_iconst (pc := 106) (4) dX7_rank_106 (by decide) ?_
    exact A_iretE (pc := 107) dX7_rank_107 rfl (Nat.zero_le _) (Nat.zero_le _) (by simp_all [tx_rank]) (rfl)
  by_cases hs1_45 : g = (45)
  · refine A_lookup (pc := 1) (off := 105) 106 dX7_rank_1 (by decide) (by rw [hs1_45]; decide) (by decide) ?_
    refine A_iconst (pc := 106) (4) dX7_rank_106 (by decide) ?_
    exact A_iretE (pc := 107) dX7_rank_107 rfl (Nat.zero_le _) (Nat.zero_le _) (by simp_all [tx_rank]) (rfl)
  by_cases hs1_47 : g = (47)
  · refine A_lookup (pc := 1) (off := 107) 108 dX7_rank_1 (by decide) (by rw [hs1_47]; decide) (by decide) ?_
    refine A_iconst (pc := 108) (5) dX7_rank_108 (by decide) ?_
    exact A_iretE (pc := 109) dX7_rank_109 rfl (Nat.zero_le _) (Nat.zero_le _) (by simp_all [tx_rank]) (rfl)
  by_cases hs1_60 : g = (60)
  · refine A_lookup (pc := 1) (off := 103) 104 dX7_rank_1 (by decide) (by rw [hs1_60]; decide) (by decide) ?_
    refine A_iconst (pc := 104) (3) dX7_rank_104 (by decide) ?_
    exact A_iretE (pc := 105) dX7_rank_105 rfl (Nat.zero_le _) (Nat.zero_le _) (by simp_all [tx_rank]) (rfl)
  by_cases hs1_61 : g = (61)
  · refine A_lookup (pc := 1) (off := 103) 104 dX7_rank_1 (by decide) (by rw [hs1_61]; decide) (by decide) ?_
    refine A_iconst (pc := 104) (3) dX7_rank_104 (by decide) ?_
    exact A_iretE (pc := 105) dX7_rank_105 rfl (Nat.zero_le _) (Nat.zero_le _) (by simp_all [tx_rank]) (rfl)
  by_cases hs1_62 : g = (62)
  · refine A_lookup (pc := 1) (off := 103) 104 dX7_rank_1 (by decide) (by rw [hs1_62]; decide) (by decide) ?_
    refine A_iconst (pc := 104) (3) dX7_rank_104 (by decide) ?_
    exact A_iretE (pc := 105) dX7_rank_105 rfl (Nat.zero_le _) (Nat.zero_le _) (by simp_all [tx_rank]) (rfl)
  by_cases hs1_124 : g = (124)
  · refine A_lookup (pc := 1) (off := 99) 100 dX7_rank_1 (by decide) (by rw [hs1_124]; decide) (by decide) ?_
    refine A_iconst (pc := 100) (1) dX7_rank_100 (by decide) ?_
    exact A_iretE (pc := 101) dX7_rank_101 rfl (Nat.zero_le _) (Nat.zero_le _) (by simp_all [tx_rank]) (rfl)
  refine A_lookup (pc := 1) (off := 112) 113 dX7_rank_1 (by decide) (by show Op.lookupswitch.offset [(33, 109), (37, 107), (38, 101), (42, 107), (43, 105), (45, 105), (47, 107), (60, 103), (61, 103), (62, 103), (124, 99)] (112) _ = _; rw [lv_osw (k := (33)) hs1_33 (by decide), lv_osw (k := (37)) hs1_37 (by decide), lv_osw (k := (38)) hs1_38 (by decide), lv_osw (k := (42)) hs1_42 (by decide), lv_osw (k := (43)) hs1_43 (by decide), lv_osw (k := (45)) hs1_45 (by decide), lv_osw (k := (47)) hs1_47 (by decide), lv_osw (k := (60)) hs1_60 (by decide), lv_osw (k := (61)) hs1_61 (by decide), lv_osw (k := (62)) hs1_62 (by decide), lv_osw (k := (124)) hs1_124 (by decide)]; rfl) (by decide) ?_
  refine A_iconst (pc := 113) (0) dX7_rank_113 (by decide) ?_
  exact A_iretE (pc := 114) dX7_rank_114 rfl (Nat.zero_le _) (Nat.zero_le _) (by simp_all [tx_rank]) (rfl)
set_option maxRecDepth 20000 in
theorem s_isDigit (l : Launch) {kd : am_kd} {rv : am_rv} {iv : am_iv} (g : Int32) : am_Met l mX7_isDigit (am_rm 0 0 0) [am_I g] kd rv iv (am_ret (some (am_I (sr_b (48 ≤ g ∧ g ≤ 57)))) kd rv iv) := by
  refine am_Met.of (by decide) (Nat.le_of_ble_eq_true rfl) rfl ?_
  refine A_iload_n (pc := 0) (i := 0) dX7_isDigit_0 rfl rfl ?_
  refine A_bipush (pc := 1) (48) dX7_isDigit_1 (by decide) ?_
  refine A_icmplt (pc := 3) 16 dX7_isDigit_3 (by decide) (fun hb3 => ?_) (fun hb3 => ?_)
  · refine A_iconst (pc := 16) (0) dX7_isDigit_16 (by decide) ?_
    exact A_zretE (pc := 17) dX7_isDigit_17 rfl (by first | exact A_zn0 | exact A_zn1 | exact A_znif _) (Nat.zero_le _) (Nat.zero_le _) (by (try simp only [sr_b]); (repeat' split) <;> first | rfl | (exfalso; simp only [fa_lt, fa_le] at *; omega) | (exfalso; simp [fa_lt, fa_le, fa_eq] at *; omega) | (simp_all; done)) (rfl)
  · refine A_iload_n (pc := 6) (i := 0) dX7_isDigit_6 rfl rfl ?_
    refine A_bipush (pc := 7) (57) dX7_isDigit_7 (by decide) ?_
    refine A_icmpgt (pc := 9) 16 dX7_isDigit_9 (by decide) (fun hb9 => ?_) (fun hb9 => ?_)
    · refine A_iconst (pc := 16) (0) dX7_isDigit_16 (by decide) ?_
      exact A_zretE (pc := 17) dX7_isDigit_17 rfl (by first | exact A_zn0 | exact A_zn1 | exact A_znif _) (Nat.zero_le _) (Nat.zero_le _) (by (try simp only [sr_b]); (repeat' split) <;> first | rfl | (exfalso; simp only [fa_lt, fa_le] at *; omega) | (exfalso; simp [fa_lt, fa_le, fa_eq] at *; omega) | (simp_all; done)) (rfl)
    · refine A_iconst (pc := 12) (1) dX7_isDigit_12 (by decide) ?_
      refine A_goto (pc := 13) 17 dX7_isDigit_13 (by decide) ?_
      exact A_zretE (pc := 17) dX7_isDigit_17 rfl (by first | exact A_zn0 | exact A_zn1 | exact A_znif _) (Nat.zero_le _) (Nat.zero_le _) (by (try simp only [sr_b]); (repeat' split) <;> first | rfl | (exfalso; simp only [fa_lt, fa_le] at *; omega) | (exfalso; simp [fa_lt, fa_le, fa_eq] at *; omega) | (simp_all; done)) (rfl)
