noncomputable def rm_in (K : Nat) (m : Int32) (g : Nat → Int32) (G : Nat → Nat → Int32) (acc : Int32) : Nat → Int32
  | 0 => acc
  | k + 1 => @ite _ (rg_other g (G k)) (Classical.propDecidable _) (rm_in K m g G acc k + lw_widens K m g (G k)) (rm_in K m g G acc k)
noncomputable def rm_wid (on w : Int32) (lk : Nat → Nat) (lm : Nat → Int32) (n : Nat) (g : Nat → Int32) (G : Nat → Nat → Int32) : Nat → Int32
  | 0 => g 5
  | j + 1 => @ite _ (rm_on on (nI j)) (Classical.propDecidable _) (rm_in (lk j) (lm j) g G (rm_wid on w lk lm n g G j + lw_spreads (lk j) (lm j) g w) n) (rm_wid on w lk lm n g G j)
set_option maxRecDepth 20000 in
theorem s_widen (l : Launch) {kd : am_kd} {rv : am_rv} {iv : am_iv} (hS : sh kd rv) (i : Nat) (hi : i < 4) (nl : Nat) (ln : Nat → am_N) (lk : Nat → Nat) (hl : rm_laws kd rv iv i nl ln lk) (n : Nat) (hn : iv (2, i, 0) 1 = nI n) (hn8 : n ≤ 8) (r : Nat) (hr : r < 8) (hq : ∀ k, k < n → ¬ rg_gap (iv (6, i, r)) (iv (6, i, k)) + 10 = 0) : am_Met l mX4_widen (am_rm 5 0 0) [am_P (2, i, 0), am_P (4, i, r), am_P (6, i, r)] kd rv iv (am_ret none kd rv (am_ui iv (4, i, r) 5 (sr_held (rm_wid (iv (2, i, 0) 5) (iv (2, i, 0) 6) lk (fun j => iv (ln j) 2) n (iv (6, i, r)) (fun k => iv (6, i, k)) nl) 1 200))) := by
  refine am_Met.of (by decide) (Nat.le_of_ble_eq_true rfl) rfl ?_
  have loop := am_for (fun j => ∀ q q2, am_W l mX4_widen (am_rm 5 0 0) (am_ret none kd rv (am_ui iv (4, i, r) 5 (sr_held (rm_wid (iv (2, i, 0) 5) (iv (2, i, 0) 6) lk (fun j => iv (ln j) 2) n (iv (6, i, r)) (fun k => iv (6, i, k)) nl) 1 200))) 8 [some (am_P (2, i, 0)), some (am_P (4, i, r)), some (am_P (6, i, r)), some (am_I (rm_wid (iv (2, i, 0) 5) (iv (2, i, 0) 6) lk (fun j => iv (ln j) 2) n (iv (6, i, r)) (fun k => iv (6, i, k)) j)), some (am_I (nI j)), q, q2] [] kd rv iv 0 0) nl ?_ (fun j hj ih => ?_) 0 (Nat.zero_le nl)
  · refine A_aload_n (pc := 0) (i := 2) dX4_widen_0 rfl rfl ?_
    refine A_geti (pc := 1) 5 fl_X4_105_3 (hS.k6 hi hr) rfl dX4_widen_1 ?_
    refine A_ist3 (pc := 4) dX4_widen_4 (Nat.le_of_ble_eq_true rfl) rfl ?_
    refine A_iconst (pc := 5) (0) dX4_widen_5 (by decide) ?_
    refine A_ist4 (pc := 6) dX4_widen_6 (Nat.le_of_ble_eq_true rfl) rfl ?_
    exact loop none none
  · intro q q2
    refine A_iload (pc := 8) (i := 4) dX4_widen_8 rfl ?_
    refine A_aload_n (pc := 10) (i := 0) dX4_widen_10 rfl rfl ?_
    refine A_geti (pc := 11) 4 fl_X4_61_4 (hS.k2 hi) rfl dX4_widen_11 ?_
    refine A_top hl.1 ?_
    refine A_icmpge (pc := 14) 97 dX4_widen_14 (by decide) (fun hb14 => ?_) (fun hb14 => ?_)
    · refine A_aload_n (pc := 97) (i := 1) dX4_widen_97 rfl rfl ?_
      refine A_iload_n (pc := 98) (i := 3) dX4_widen_98 rfl rfl ?_
      refine A_iconst (pc := 99) (1) dX4_widen_99 (by decide) ?_
      refine A_sipush (pc := 100) (200) dX4_widen_100 (by decide) ?_
      refine A_callN1 (pc := 103) cn_X4_133 (s_held l _ _ _) rfl rfl (Nat.le_of_ble_eq_true rfl) ⟨(Nat.le_of_ble_eq_true rfl), (Nat.le_of_ble_eq_true rfl)⟩ ⟨Nat.zero_le _, Nat.zero_le _⟩ dX4_widen_103 ?_
      refine A_puti (pc := 106) 5 fl_X4_105_3 (hS.k4 hi hr) rfl (by decide +kernel) rfl rfl dX4_widen_106 ?_
      exact A_vretE (pc := 109) dX4_widen_109 rfl (Nat.zero_le _) (Nat.zero_le _) (rfl)
    · exact absurd (nI_le (Nat.le_refl nl) (by have := hl.2.1; omega)) hb14
  · intro q q2
    have hj6 : j < 6 := by have := hl.2.1; omega
    obtain ⟨hl1, hl2, hl3, hl4⟩ := hl.2.2 j hj
    refine A_iload (pc := 8) (i := 4) dX4_widen_8 rfl ?_
    refine A_aload_n (pc := 10) (i := 0) dX4_widen_10 rfl rfl ?_
    refine A_geti (pc := 11) 4 fl_X4_61_4 (hS.k2 hi) rfl dX4_widen_11 ?_
    refine A_top hl.1 ?_
    refine A_icmpge (pc := 14) 97 dX4_widen_14 (by decide) (fun hb14 => ?_) (fun hb14 => ?_)
    · exact absurd hb14 (nI_ge hj (by have := hl.2.1; omega))
    · refine A_aload_n (pc := 17) (i := 0) dX4_widen_17 rfl rfl ?_
      refine A_iload (pc := 18) (i := 4) dX4_widen_18 rfl ?_
      refine A_callV1 (pc := 20) cv_X4_161 (s_lawOn l hS i hi nl ln lk hl j hj) (hS.k2 hi) rfl rfl rfl rfl (Nat.le_of_ble_eq_true rfl) ⟨(Nat.le_of_ble_eq_true rfl), (Nat.le_of_ble_eq_true rfl)⟩ ⟨Nat.zero_le _, Nat.zero_le _⟩ dX4_widen_20 ?_
      by_cases hon : rm_on (iv (2, i, 0) 5) (nI j)
      · rw [if_pos hon]
        have inner := am_for (fun k => am_W l mX4_widen (am_rm 5 0 0) (am_ret none kd rv (am_ui iv (4, i, r) 5 (sr_held (rm_wid (iv (2, i, 0) 5) (iv (2, i, 0) 6) lk (fun j => iv (ln j) 2) n (iv (6, i, r)) (fun k => iv (6, i, k)) nl) 1 200))) 46 [some (am_P (2, i, 0)), some (am_P (4, i, r)), some (am_P (6, i, r)), some (am_I (rm_in (lk j) (iv (ln j) 2) (iv (6, i, r)) (fun k => iv (6, i, k)) (rm_wid (iv (2, i, 0) 5) (iv (2, i, 0) 6) lk (fun j => iv (ln j) 2) n (iv (6, i, r)) (fun k => iv (6, i, k)) j + lw_spreads (lk j) (iv (ln j) 2) (iv (6, i, r)) (iv (2, i, 0) 6)) k)), some (am_I (nI j)), some (am_P (ln j)), some (am_I (nI k))] [] kd rv iv 0 0) n ?_ (fun k hk ihk => ?_) 0 (Nat.zero_le n)
        · refine A_ast5 (pc := 23) dX4_widen_23 (Nat.le_of_ble_eq_true rfl) rfl ?_
          refine A_aload (pc := 25) (i := 5) dX4_widen_25 rfl ?_
          refine A_ifnullP (pc := 27) dX4_widen_27 ?_
          refine A_iload_n (pc := 30) (i := 3) dX4_widen_30 rfl rfl ?_
          refine A_aload (pc := 31) (i := 5) dX4_widen_31 rfl ?_
          refine A_aload_n (pc := 33) (i := 2) dX4_widen_33 rfl rfl ?_
          refine A_aload_n (pc := 34) (i := 0) dX4_widen_34 rfl rfl ?_
          refine A_geti (pc := 35) 6 fl_X4_30_4 (hS.k2 hi) rfl dX4_widen_35 ?_
          refine V_spreads_X4 (pc := 38) hl2 hl3 (hS.k6 hi hr) rfl (Nat.le_of_ble_eq_true rfl) ⟨(Nat.le_of_ble_eq_true rfl), (Nat.le_of_ble_eq_true rfl)⟩ ⟨Nat.zero_le _, Nat.zero_le _⟩ dX4_widen_38 ?_
          refine A_iadd (pc := 41) dX4_widen_41 ?_
          refine A_ist3 (pc := 42) dX4_widen_42 (Nat.le_of_ble_eq_true rfl) rfl ?_
          refine A_iconst (pc := 43) (0) dX4_widen_43 (by decide) ?_
          refine A_ist6 (pc := 44) dX4_widen_44 (Nat.le_of_ble_eq_true rfl) rfl ?_
          exact inner
        · refine A_iload (pc := 46) (i := 6) dX4_widen_46 rfl ?_
          refine A_aload_n (pc := 48) (i := 0) dX4_widen_48 rfl rfl ?_
          refine A_geti (pc := 49) 1 fl_X4_77_4 (hS.k2 hi) rfl dX4_widen_49 ?_
          refine A_top hn ?_
          refine A_icmpge (pc := 52) 91 dX4_widen_52 (by decide) (fun hb52 => ?_) (fun hb52 => ?_)
          · refine A_inc4 (pc := 91) (nI (j + 1)) dX4_widen_91 (nI_1 j) (Nat.le_of_ble_eq_true rfl) rfl ?_
            refine A_goto (pc := 94) 8 dX4_widen_94 (by decide) ?_
            rw [rm_wid, if_pos hon] at ih
            exact ih _ _
          · exact absurd (nI_le (Nat.le_refl n) (by omega)) hb52
        · refine A_iload (pc := 46) (i := 6) dX4_widen_46 rfl ?_
          refine A_aload_n (pc := 48) (i := 0) dX4_widen_48 rfl rfl ?_
          refine A_geti (pc := 49) 1 fl_X4_77_4 (hS.k2 hi) rfl dX4_widen_49 ?_
          refine A_top hn ?_
          refine A_icmpge (pc := 52) 91 dX4_widen_52 (by decide) (fun hb52 => ?_) (fun hb52 => ?_)
          · exact absurd hb52 (nI_ge hk (by omega))
          · refine A_aload_n (pc := 55) (i := 2) dX4_widen_55 rfl rfl ?_
            refine A_aload_n (pc := 56) (i := 0) dX4_widen_56 rfl rfl ?_
            refine A_getr (pc := 57) 2 fl_X4_17_4 (hS.k2 hi) rfl (hS.w2_2 hi) dX4_widen_57 ?_
            refine A_iload (pc := 60) (i := 6) dX4_widen_60 rfl ?_
            refine A_aaldN (pc := 62) (hS.k5 hi) (by decide) (by decide) (show k < 8 by omega) (by decide) (hS.w5 hi (show k < 8 by omega)) dX4_widen_62 ?_
            refine A_callS1 (pc := 63) cs_X4_176 (s_isOther l (6, i, r) (6, i, k) (hS.k6 hi hr) (hS.k6 hi (show k < 8 by omega))) rfl rfl (Nat.le_of_ble_eq_true rfl) ⟨(Nat.le_of_ble_eq_true rfl), (Nat.le_of_ble_eq_true rfl)⟩ ⟨Nat.zero_le _, Nat.zero_le _⟩ dX4_widen_63 ?_
            refine A_ifeq (pc := 66) 85 dX4_widen_66 (by decide) (fun hb66 => ?_) (fun hb66 => ?_)
            · refine A_inc6 (pc := 85) (nI (k + 1)) dX4_widen_85 (nI_1 k) (Nat.le_of_ble_eq_true rfl) rfl ?_
              refine A_goto (pc := 88) 46 dX4_widen_88 (by decide) ?_
              rw [rg_bit_0] at hb66
              rw [rm_in, if_neg hb66] at ihk
              exact ihk
            · refine A_iload_n (pc := 69) (i := 3) dX4_widen_69 rfl rfl ?_
              refine A_aload (pc := 70) (i := 5) dX4_widen_70 rfl ?_
              refine A_aload_n (pc := 72) (i := 2) dX4_widen_72 rfl rfl ?_
              refine A_aload_n (pc := 73) (i := 0) dX4_widen_73 rfl rfl ?_
              refine A_getr (pc := 74) 2 fl_X4_17_4 (hS.k2 hi) rfl (hS.w2_2 hi) dX4_widen_74 ?_
              refine A_iload (pc := 77) (i := 6) dX4_widen_77 rfl ?_
              refine A_aaldN (pc := 79) (hS.k5 hi) (by decide) (by decide) (show k < 8 by omega) (by decide) (hS.w5 hi (show k < 8 by omega)) dX4_widen_79 ?_
              refine V_widens_X4 (pc := 80) hl2 hl3 (hS.k6 hi hr) (hS.k6 hi (show k < 8 by omega)) (hq k hk) rfl (Nat.le_of_ble_eq_true rfl) ⟨(Nat.le_of_ble_eq_true rfl), (Nat.le_of_ble_eq_true rfl)⟩ ⟨Nat.zero_le _, Nat.zero_le _⟩ dX4_widen_80 ?_
              refine A_iadd (pc := 83) dX4_widen_83 ?_
              refine A_ist3 (pc := 84) dX4_widen_84 (Nat.le_of_ble_eq_true rfl) rfl ?_
              refine A_inc6 (pc := 85) (nI (k + 1)) dX4_widen_85 (nI_1 k) (Nat.le_of_ble_eq_true rfl) rfl ?_
              refine A_goto (pc := 88) 46 dX4_widen_88 (by decide) ?_
              rw [rg_bit_0] at hb66
              rw [rm_in, if_pos (Classical.not_not.mp hb66)] at ihk
              exact ihk
      · rw [if_neg hon]
        refine A_ast0_5 (pc := 23) dX4_widen_23 (Nat.le_of_ble_eq_true rfl) rfl ?_
        refine A_aload0 (pc := 25) (i := 5) dX4_widen_25 rfl ?_
        refine A_ifnull0 (pc := 27) 91 dX4_widen_27 (by decide) ?_
        refine A_inc4 (pc := 91) (nI (j + 1)) dX4_widen_91 (nI_1 j) (Nat.le_of_ble_eq_true rfl) rfl ?_
        refine A_goto (pc := 94) 8 dX4_widen_94 (by decide) ?_
        rw [rm_wid, if_neg hon] at ih
        exact ih _ _
/-- the first place from j on, of d, where p holds -/
noncomputable def rm_first (p : Nat → Prop) : Nat → Nat → Option Nat
  | 0, _ => none
  | d + 1, j => @ite _ (p j) (Classical.propDecidable _) (some j) (rm_first p d (j + 1))
def rm_endp (on : Int32) (lk : Nat → Nat) (lm : Nat → Int32) (f g : Nat → Int32) (j : Nat) : Prop := rm_on on (nI j) ∧ lw_ends (lk j) (lm j) f g
theorem rm_first_lt {p : Nat → Prop} {d j k : Nat} (h : rm_first p d j = some k) : j ≤ k ∧ k < j + d := by
  induction d generalizing j with
  | zero => simp [rm_first] at h
  | succ d ih =>
    unfold rm_first at h
    split at h
    · cases h; omega
    · have := ih h; omega
set_option maxRecDepth 20000 in
theorem s_endingLaw (l : Launch) {kd : am_kd} {rv : am_rv} {iv : am_iv} (hS : sh kd rv) (i : Nat) (hi : i < 4) (nl : Nat) (ln : Nat → am_N) (lk : Nat → Nat) (hl : rm_laws kd rv iv i nl ln lk) (f g : am_N) (hf : kd f = some (.inl 3)) (hg : kd g = some (.inl 3)) : am_Met l mX4_endingLaw (am_rm 3 0 0) [am_P (2, i, 0), am_P f, am_P g] kd rv iv (am_ret (some (am_rf ((rm_first (rm_endp (iv (2, i, 0) 5) lk (fun j => iv (ln j) 2) (iv f) (iv g)) nl 0).map ln))) kd rv iv) := by
  refine am_Met.of (by decide) (Nat.le_of_ble_eq_true rfl) rfl ?_
  have loop := am_for (fun j => rm_first (rm_endp (iv (2, i, 0) 5) lk (fun j => iv (ln j) 2) (iv f) (iv g)) nl 0 = rm_first (rm_endp (iv (2, i, 0) 5) lk (fun j => iv (ln j) 2) (iv f) (iv g)) (nl - j) j → ∀ q, am_W l mX4_endingLaw (am_rm 3 0 0) (am_ret (some (am_rf ((rm_first (rm_endp (iv (2, i, 0) 5) lk (fun j => iv (ln j) 2) (iv f) (iv g)) nl 0).map ln))) kd rv iv) 2 [some (am_P (2, i, 0)), some (am_P f), some (am_P g), some (am_I (nI j)), q] [] kd rv iv 0 0) nl ?_ (fun j hj ih => ?_) 0 (Nat.zero_le nl)
  · refine A_iconst (pc := 0) (0) dX4_endingLaw_0 (by decide) ?_
    refine A_ist3 (pc := 1) dX4_endingLaw_1 (Nat.le_of_ble_eq_true rfl) rfl ?_
    exact loop rfl none
  · intro he q
    refine A_iload_n (pc := 2) (i := 3) dX4_endingLaw_2 rfl rfl ?_
    refine A_aload_n (pc := 3) (i := 0) dX4_endingLaw_3 rfl rfl ?_
    refine A_geti (pc := 4) 4 fl_X4_61_4 (hS.k2 hi) rfl dX4_endingLaw_4 ?_
    refine A_top hl.1 ?_
    refine A_icmpge (pc := 7) 41 dX4_endingLaw_7 (by decide) (fun hb7 => ?_) (fun hb7 => ?_)
    · refine A_null (pc := 41) dX4_endingLaw_41 ?_
      refine A_aret (o := none) (pc := 42) dX4_endingLaw_42 rfl (Nat.zero_le _) (Nat.zero_le _) ⟨?_, rfl, rfl, rfl⟩
      rw [he, Nat.sub_self]
      rfl
    · exact absurd (nI_le (Nat.le_refl nl) (by have := hl.2.1; omega)) hb7
  · intro he q
    have hj6 : j < 6 := by have := hl.2.1; omega
    obtain ⟨hl1, hl2, hl3, hl4⟩ := hl.2.2 j hj
    rw [show nl - j = (nl - (j + 1)) + 1 by omega, rm_first] at he
    refine A_iload_n (pc := 2) (i := 3) dX4_endingLaw_2 rfl rfl ?_
    refine A_aload_n (pc := 3) (i := 0) dX4_endingLaw_3 rfl rfl ?_
    refine A_geti (pc := 4) 4 fl_X4_61_4 (hS.k2 hi) rfl dX4_endingLaw_4 ?_
    refine A_top hl.1 ?_
    refine A_icmpge (pc := 7) 41 dX4_endingLaw_7 (by decide) (fun hb7 => ?_) (fun hb7 => ?_)
    · exact absurd hb7 (nI_ge hj (by have := hl.2.1; omega))
    · refine A_aload_n (pc := 10) (i := 0) dX4_endingLaw_10 rfl rfl ?_
      refine A_iload_n (pc := 11) (i := 3) dX4_endingLaw_11 rfl rfl ?_
      refine A_callV1 (pc := 12) cv_X4_161 (s_lawOn l hS i hi nl ln lk hl j hj) (hS.k2 hi) rfl rfl rfl rfl (Nat.le_of_ble_eq_true rfl) ⟨(Nat.le_of_ble_eq_true rfl), (Nat.le_of_ble_eq_true rfl)⟩ ⟨Nat.zero_le _, Nat.zero_le _⟩ dX4_endingLaw_12 ?_
      by_cases hon : rm_on (iv (2, i, 0) 5) (nI j)
      · rw [if_pos hon]
        refine A_ast4 (pc := 15) dX4_endingLaw_15 (Nat.le_of_ble_eq_true rfl) rfl ?_
        refine A_aload (pc := 17) (i := 4) dX4_endingLaw_17 rfl ?_
        refine A_ifnullP (pc := 19) dX4_endingLaw_19 ?_
        refine A_aload (pc := 22) (i := 4) dX4_endingLaw_22 rfl ?_
        refine A_aload_n (pc := 24) (i := 1) dX4_endingLaw_24 rfl rfl ?_
        refine A_aload_n (pc := 25) (i := 2) dX4_endingLaw_25 rfl rfl ?_
        refine V_endsBy_X4 (pc := 26) hl2 hl3 hf hg rfl (Nat.le_of_ble_eq_true rfl) ⟨(Nat.le_of_ble_eq_true rfl), (Nat.le_of_ble_eq_true rfl)⟩ ⟨Nat.zero_le _, Nat.zero_le _⟩ dX4_endingLaw_26 ?_
        refine A_ifeq (pc := 29) 35 dX4_endingLaw_29 (by decide) (fun hb29 => ?_) (fun hb29 => ?_)
        · refine A_inc3 (pc := 35) (nI (j + 1)) dX4_endingLaw_35 (nI_1 j) (Nat.le_of_ble_eq_true rfl) rfl ?_
          refine A_goto (pc := 38) 2 dX4_endingLaw_38 (by decide) ?_
          rw [rg_bit_0] at hb29
          rw [if_neg (fun h => hb29 h.2)] at he
          exact ih he _
        · refine A_aload (pc := 32) (i := 4) dX4_endingLaw_32 rfl ?_
          rw [rg_bit_0] at hb29
          rw [if_pos ⟨hon, Classical.not_not.mp hb29⟩] at he
          refine A_aret (o := some (ln j)) (pc := 34) dX4_endingLaw_34 rfl (Nat.zero_le _) (Nat.zero_le _) ⟨?_, rfl, rfl, rfl⟩
          rw [he]
          rfl
      · rw [if_neg hon]
        refine A_ast0_4 (pc := 15) dX4_endingLaw_15 (Nat.le_of_ble_eq_true rfl) rfl ?_
        refine A_aload0 (pc := 17) (i := 4) dX4_endingLaw_17 rfl ?_
        refine A_ifnull0 (pc := 19) 35 dX4_endingLaw_19 (by decide) ?_
        refine A_inc3 (pc := 35) (nI (j + 1)) dX4_endingLaw_35 (nI_1 j) (Nat.le_of_ble_eq_true rfl) rfl ?_
        refine A_goto (pc := 38) 2 dX4_endingLaw_38 (by decide) ?_
        rw [if_neg (fun h => hon h.1)] at he
        exact ih he _
section AVJ
variable {l : Launch} {M : am_M} {R : Room} {post : am_Post} {pc : Nat} {ls : List (Option am_V)} {st : List am_V} {kd : am_kd} {rv : am_rv} {iv : am_iv} {cu su : Nat}
theorem V_joins {n : am_N} {K : Nat} (hK : K < 7) (hk : kd n = some (.inl (lw_ci K))) (hM : M.1.cls = RX4) (hd : decode M.2.1 pc = .ok (.instanceof 191, 3)) (k : am_W l M R post (pc + 3) ls (am_I (if K = 2 then 1 else 0) :: st) kd rv iv cu su) : am_W l M R post pc ls (am_P n :: st) kd rv iv cu su := by
  match K, hK, hk, k with
  | 0, _, hk, k => exact A_instN (r := (RX2, TX2, 3)) (by rw [hM]; exact cl_X4_191) hk rfl (by decide +kernel) hd k
  | 1, _, hk, k => exact A_instN (r := (RX8, TX8, 3)) (by rw [hM]; exact cl_X4_191) hk rfl (by decide +kernel) hd k
  | 2, _, hk, k => exact A_instY (r := (RX1, TX1, 3)) (by rw [hM]; exact cl_X4_191) hk rfl (Or.inl rfl) hd k
  | 3, _, hk, k => exact A_instN (r := (RX0, TX0, 3)) (by rw [hM]; exact cl_X4_191) hk rfl (by decide +kernel) hd k
  | 4, _, hk, k => exact A_instN (r := (RX9, TX9, 3)) (by rw [hM]; exact cl_X4_191) hk rfl (by decide +kernel) hd k
  | 5, _, hk, k => exact A_instN (r := (RX10, TX10, 3)) (by rw [hM]; exact cl_X4_191) hk rfl (by decide +kernel) hd k
  | 6, _, hk, k => exact A_instN (r := (RX6, TX6, 3)) (by rw [hM]; exact cl_X4_191) hk rfl (by decide +kernel) hd k
end AVJ
noncomputable def rm_eff (i r k j : Nat) (lk : Nat → Nat) (iv : am_iv) : am_iv := @ite _ (lk j = 2 ∧ ¬ am_ui iv (4, i, r) 7 0 (4, i, k) 7 = 0) (Classical.propDecidable _) (am_ui (am_ui iv (4, i, r) 7 0) (4, i, k) 4 (if 999 < iv (4, i, k) 4 + iv (4, i, r) 4 then 999 else iv (4, i, k) 4 + iv (4, i, r) 4)) (am_ui iv (4, i, r) 7 0)
noncomputable def rm_due (i r : Nat) (e : Nat → Option Nat) (lk : Nat → Nat) (iv : am_iv) : Nat → Nat → am_iv
  | 0, _ => iv
  | d + 1, k => match e k with
    | none => rm_due i r e lk iv d (k + 1)
    | some j => rm_eff i r k j lk iv
/-- the law by which the ring that was f ends by g: its place -/
noncomputable def rm_by (on : Int32) (nl : Nat) (lk : Nat → Nat) (lm : Nat → Int32) (f g : Nat → Int32) : Option Nat := @ite _ (rg_other f g) (Classical.propDecidable _) (rm_first (rm_endp on lk lm f g) nl 0) none
set_option maxRecDepth 20000 in
theorem s_endIfDue (l : Launch) {kd : am_kd} {rv : am_rv} {iv : am_iv} (hS : sh kd rv) (i : Nat) (hi : i < 4) (nl : Nat) (ln : Nat → am_N) (lk : Nat → Nat) (hl : rm_laws kd rv iv i nl ln lk) (n : Nat) (hn : iv (2, i, 0) 1 = nI n) (hn8 : n ≤ 8) (r : Nat) (hr : r < 8) : am_Met l mX4_endIfDue (am_rm 4 0 0) [am_P (2, i, 0), am_I (nI r)] kd rv iv (am_ret none kd rv (rm_due i r (fun k => rm_by (iv (2, i, 0) 5) nl lk (fun j => iv (ln j) 2) (iv (6, i, r)) (iv (6, i, k))) lk iv n 0)) := by
  refine am_Met.of (by decide) (Nat.le_of_ble_eq_true rfl) rfl ?_
  have loop := am_for (fun k => rm_due i r (fun k => rm_by (iv (2, i, 0) 5) nl lk (fun j => iv (ln j) 2) (iv (6, i, r)) (iv (6, i, k))) lk iv n 0 = rm_due i r (fun k => rm_by (iv (2, i, 0) 5) nl lk (fun j => iv (ln j) 2) (iv (6, i, r)) (iv (6, i, k))) lk iv (n - k) k → ∀ q q2, am_W l mX4_endIfDue (am_rm 4 0 0) (am_ret none kd rv (rm_due i r (fun k => rm_by (iv (2, i, 0) 5) nl lk (fun j => iv (ln j) 2) (iv (6, i, r)) (iv (6, i, k))) lk iv n 0)) 9 [some (am_P (2, i, 0)), some (am_I (nI r)), some (am_P (6, i, r)), some (am_I (nI k)), q, q2] [] kd rv iv 0 0) n ?_ (fun k hk ih => ?_) 0 (Nat.zero_le n)
  · refine A_aload_n (pc := 0) (i := 0) dX4_endIfDue_0 rfl rfl ?_
    refine A_getr (pc := 1) 2 fl_X4_17_4 (hS.k2 hi) rfl (hS.w2_2 hi) dX4_endIfDue_1 ?_
    refine A_iload_n (pc := 4) (i := 1) dX4_endIfDue_4 rfl rfl ?_
    refine A_aaldN (pc := 5) (hS.k5 hi) (by decide) (by decide) hr (by decide) (hS.w5 hi hr) dX4_endIfDue_5 ?_
    refine A_ast2 (pc := 6) dX4_endIfDue_6 (Nat.le_of_ble_eq_true rfl) rfl ?_
    refine A_iconst (pc := 7) (0) dX4_endIfDue_7 (by decide) ?_
    refine A_ist3 (pc := 8) dX4_endIfDue_8 (Nat.le_of_ble_eq_true rfl) rfl ?_
    exact loop rfl none none
  · intro he q q2
    refine A_iload_n (pc := 9) (i := 3) dX4_endIfDue_9 rfl rfl ?_
    refine A_aload_n (pc := 10) (i := 0) dX4_endIfDue_10 rfl rfl ?_
    refine A_geti (pc := 11) 1 fl_X4_77_4 (hS.k2 hi) rfl dX4_endIfDue_11 ?_
    refine A_top hn ?_
    refine A_icmpge (pc := 14) 127 dX4_endIfDue_14 (by decide) (fun hb14 => ?_) (fun hb14 => ?_)
    · exact A_vretE (pc := 127) dX4_endIfDue_127 rfl (Nat.zero_le _) (Nat.zero_le _) (by rw [he, Nat.sub_self]; rfl)
    · exact absurd (nI_le (Nat.le_refl n) (by omega)) hb14
  · intro he q q2
    have hk8 : k < 8 := by omega
    have hkk := hS.k6 hi hk8
    rw [show n - k = (n - (k + 1)) + 1 by omega, rm_due] at he
    refine A_iload_n (pc := 9) (i := 3) dX4_endIfDue_9 rfl rfl ?_
    refine A_aload_n (pc := 10) (i := 0) dX4_endIfDue_10 rfl rfl ?_
    refine A_geti (pc := 11) 1 fl_X4_77_4 (hS.k2 hi) rfl dX4_endIfDue_11 ?_
    refine A_top hn ?_
    refine A_icmpge (pc := 14) 127 dX4_endIfDue_14 (by decide) (fun hb14 => ?_) (fun hb14 => ?_)
    · exact absurd hb14 (nI_ge hk (by omega))
    · refine A_aload_n (pc := 17) (i := 2) dX4_endIfDue_17 rfl rfl ?_
      refine A_aload_n (pc := 18) (i := 0) dX4_endIfDue_18 rfl rfl ?_
      refine A_getr (pc := 19) 2 fl_X4_17_4 (hS.k2 hi) rfl (hS.w2_2 hi) dX4_endIfDue_19 ?_
      refine A_iload_n (pc := 22) (i := 3) dX4_endIfDue_22 rfl rfl ?_
      refine A_aaldN (pc := 23) (hS.k5 hi) (by decide) (by decide) hk8 (by decide) (hS.w5 hi hk8) dX4_endIfDue_23 ?_
      refine A_callS1 (pc := 24) cs_X4_176 (s_isOther l (6, i, r) (6, i, k) (hS.k6 hi hr) hkk) rfl rfl (Nat.le_of_ble_eq_true rfl) ⟨(Nat.le_of_ble_eq_true rfl), (Nat.le_of_ble_eq_true rfl)⟩ ⟨Nat.zero_le _, Nat.zero_le _⟩ dX4_endIfDue_24 ?_
      refine A_ifeq (pc := 27) 44 dX4_endIfDue_27 (by decide) (fun hb27 => ?_) (fun hb27 => ?_)
      · refine A_null (pc := 44) dX4_endIfDue_44 ?_
        rw [rg_bit_0] at hb27
        have eb : (fun k => rm_by (iv (2, i, 0) 5) nl lk (fun j => iv (ln j) 2) (iv (6, i, r)) (iv (6, i, k))) k = none := if_neg hb27
        rw [show rm_by _ _ _ _ _ _ = none from eb] at he
        refine A_ast0_4 (pc := 45) dX4_endIfDue_45 (Nat.le_of_ble_eq_true rfl) rfl ?_
        refine A_aload0 (pc := 47) (i := 4) dX4_endIfDue_47 rfl ?_
        refine A_ifnull0 (pc := 49) 121 dX4_endIfDue_49 (by decide) ?_
        refine A_inc3 (pc := 121) (nI (k + 1)) dX4_endIfDue_121 (nI_1 k) (Nat.le_of_ble_eq_true rfl) rfl ?_
        refine A_goto (pc := 124) 9 dX4_endIfDue_124 (by decide) ?_
        exact ih he _ _
      · refine A_aload_n (pc := 30) (i := 0) dX4_endIfDue_30 rfl rfl ?_
        refine A_aload_n (pc := 31) (i := 2) dX4_endIfDue_31 rfl rfl ?_
        refine A_aload_n (pc := 32) (i := 0) dX4_endIfDue_32 rfl rfl ?_
        refine A_getr (pc := 33) 2 fl_X4_17_4 (hS.k2 hi) rfl (hS.w2_2 hi) dX4_endIfDue_33 ?_
        refine A_iload_n (pc := 36) (i := 3) dX4_endIfDue_36 rfl rfl ?_
        refine A_aaldN (pc := 37) (hS.k5 hi) (by decide) (by decide) hk8 (by decide) (hS.w5 hi hk8) dX4_endIfDue_37 ?_
        refine A_callV1 (pc := 38) cv_X4_187 (s_endingLaw l hS i hi nl ln lk hl (6, i, r) (6, i, k) (hS.k6 hi hr) hkk) (hS.k2 hi) rfl rfl rfl rfl (Nat.le_of_ble_eq_true rfl) ⟨(Nat.le_of_ble_eq_true rfl), (Nat.le_of_ble_eq_true rfl)⟩ ⟨Nat.zero_le _, Nat.zero_le _⟩ dX4_endIfDue_38 ?_
        refine A_goto (pc := 41) 45 dX4_endIfDue_41 (by decide) ?_
        rw [rg_bit_0] at hb27
        have eb : (fun k => rm_by (iv (2, i, 0) 5) nl lk (fun j => iv (ln j) 2) (iv (6, i, r)) (iv (6, i, k))) k = rm_first (rm_endp (iv (2, i, 0) 5) lk (fun j => iv (ln j) 2) (iv (6, i, r)) (iv (6, i, k))) nl 0 := if_pos (Classical.not_not.mp hb27)
        rw [show rm_by _ _ _ _ _ _ = _ from eb] at he
        cases ef : rm_first (rm_endp (iv (2, i, 0) 5) lk (fun j => iv (ln j) 2) (iv (6, i, r)) (iv (6, i, k))) nl 0 with
        | none =>
          rw [ef] at he
          simp only [Option.map_none, am_rf]
          refine A_ast0_4 (pc := 45) dX4_endIfDue_45 (Nat.le_of_ble_eq_true rfl) rfl ?_
          refine A_aload0 (pc := 47) (i := 4) dX4_endIfDue_47 rfl ?_
          refine A_ifnull0 (pc := 49) 121 dX4_endIfDue_49 (by decide) ?_
          refine A_inc3 (pc := 121) (nI (k + 1)) dX4_endIfDue_121 (nI_1 k) (Nat.le_of_ble_eq_true rfl) rfl ?_
          refine A_goto (pc := 124) 9 dX4_endIfDue_124 (by decide) ?_
          exact ih he _ _
        | some j =>
          rw [ef] at he
          have hj : j < nl := by have := rm_first_lt ef; omega
          obtain ⟨hl1, hl2, hl3, hl4⟩ := hl.2.2 j hj
          simp only [Option.map_some, am_rf]
          refine A_ast4 (pc := 45) dX4_endIfDue_45 (Nat.le_of_ble_eq_true rfl) rfl ?_
          refine A_aload (pc := 47) (i := 4) dX4_endIfDue_47 rfl ?_
          refine A_ifnullP (pc := 49) dX4_endIfDue_49 ?_
          refine A_aload_n (pc := 52) (i := 0) dX4_endIfDue_52 rfl rfl ?_
          refine A_getr (pc := 53) 0 fl_X4_11_4 (hS.k2 hi) rfl (hS.w2_0 hi) dX4_endIfDue_53 ?_
          refine A_iload_n (pc := 56) (i := 1) dX4_endIfDue_56 rfl rfl ?_
          refine A_aaldN (pc := 57) (hS.k3 hi) (by decide) (by decide) hr (by decide) (hS.w3 hi hr) dX4_endIfDue_57 ?_
          refine A_iconst (pc := 58) (0) dX4_endIfDue_58 (by decide) ?_
          refine A_puti (pc := 59) 7 fl_X4_111_3 (hS.k4 hi hr) rfl (by decide +kernel) A_zn0 rfl dX4_endIfDue_59 ?_
          refine A_aload (pc := 62) (i := 4) dX4_endIfDue_62 rfl ?_
          refine V_joins (pc := 64) hl2 hl3 rfl dX4_endIfDue_64 ?_
          refine A_ifeq (pc := 67) 120 dX4_endIfDue_67 (by decide) (fun hb67 => ?_) (fun hb67 => ?_)
          · have hj2 : ¬ lk j = 2 := by
              intro h; rw [if_pos h] at hb67; exact absurd hb67 (by decide)
            exact A_vretE (pc := 120) dX4_endIfDue_120 rfl (Nat.zero_le _) (Nat.zero_le _) (by rw [he]; exact (if_neg (fun h => hj2 h.1)).symm)
          · have hj2 : lk j = 2 := by
              by_cases h : lk j = 2
              · exact h
              · rw [if_neg h] at hb67; exact absurd rfl hb67
            refine A_aload_n (pc := 70) (i := 0) dX4_endIfDue_70 rfl rfl ?_
            refine A_getr (pc := 71) 0 fl_X4_11_4 (hS.k2 hi) rfl (hS.w2_0 hi) dX4_endIfDue_71 ?_
            refine A_iload_n (pc := 74) (i := 3) dX4_endIfDue_74 rfl rfl ?_
            refine A_aaldN (pc := 75) (hS.k3 hi) (by decide) (by decide) hk8 (by decide) (hS.w3 hi hk8) dX4_endIfDue_75 ?_
            refine A_geti (pc := 76) 7 fl_X4_111_3 (hS.k4 hi hk8) rfl dX4_endIfDue_76 ?_
            refine A_ifeq (pc := 79) 120 dX4_endIfDue_79 (by decide) (fun hb79 => ?_) (fun hb79 => ?_)
            · exact A_vretE (pc := 120) dX4_endIfDue_120 rfl (Nat.zero_le _) (Nat.zero_le _) (by rw [he]; exact (if_neg (fun h => h.2 hb79)).symm)
            · refine A_aload_n (pc := 82) (i := 0) dX4_endIfDue_82 rfl rfl ?_
              refine A_getr (pc := 83) 0 fl_X4_11_4 (hS.k2 hi) rfl (hS.w2_0 hi) dX4_endIfDue_83 ?_
              refine A_iload_n (pc := 86) (i := 3) dX4_endIfDue_86 rfl rfl ?_
              refine A_aaldN (pc := 87) (hS.k3 hi) (by decide) (by decide) hk8 (by decide) (hS.w3 hi hk8) dX4_endIfDue_87 ?_
              refine A_geti (pc := 88) 4 fl_X4_102_3 (hS.k4 hi hk8) rfl dX4_endIfDue_88 ?_
              refine A_aload_n (pc := 91) (i := 0) dX4_endIfDue_91 rfl rfl ?_
              refine A_getr (pc := 92) 0 fl_X4_11_4 (hS.k2 hi) rfl (hS.w2_0 hi) dX4_endIfDue_92 ?_
              refine A_iload_n (pc := 95) (i := 1) dX4_endIfDue_95 rfl rfl ?_
              refine A_aaldN (pc := 96) (hS.k3 hi) (by decide) (by decide) hr (by decide) (hS.w3 hi hr) dX4_endIfDue_96 ?_
              refine A_geti (pc := 97) 4 fl_X4_102_3 (hS.k4 hi hr) rfl dX4_endIfDue_97 ?_
              refine A_iadd (pc := 100) dX4_endIfDue_100 ?_
              refine A_ist5 (pc := 101) dX4_endIfDue_101 (Nat.le_of_ble_eq_true rfl) rfl ?_
              refine A_aload_n (pc := 103) (i := 0) dX4_endIfDue_103 rfl rfl ?_
              refine A_getr (pc := 104) 0 fl_X4_11_4 (hS.k2 hi) rfl (hS.w2_0 hi) dX4_endIfDue_104 ?_
              refine A_iload_n (pc := 107) (i := 3) dX4_endIfDue_107 rfl rfl ?_
              refine A_aaldN (pc := 108) (hS.k3 hi) (by decide) (by decide) hk8 (by decide) (hS.w3 hi hk8) dX4_endIfDue_108 ?_
              refine A_iload (pc := 109) (i := 5) dX4_endIfDue_109 rfl ?_
              refine A_sipush (pc := 111) (999) dX4_endIfDue_111 (by decide) ?_
              refine A_mmin (pc := 114) cm_X4_87 (Nat.le_of_ble_eq_true rfl) (Nat.le_of_ble_eq_true rfl) (Nat.zero_le _) (Nat.zero_le _) dX4_endIfDue_114 ?_
              refine A_puti (pc := 117) 4 fl_X4_102_3 (hS.k4 hi hk8) rfl (by decide +kernel) rfl rfl dX4_endIfDue_117 ?_
              exact A_vretE (pc := 120) dX4_endIfDue_120 rfl (Nat.zero_le _) (Nat.zero_le _) (by rw [he]; refine Eq.trans ?_ (if_pos ⟨hj2, hb79⟩).symm; congr 1; simp [am_ui])
