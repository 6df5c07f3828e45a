section AG
variable {l : Launch} {M : am_M} {R : Room} {post : am_Post} {pc : Nat} {ls : List (Option am_V)} {st : List am_V} {kd : am_kd} {rv : am_rv} {iv : am_iv} {cu su : Nat}
theorem G_kind_X11 {n : am_N} {K : Nat} (hK : K < 7) (hk : kd n = some (.inl (lw_ci K))) (hM : M.1.cls = RX11) (hd : decode M.2.1 pc = .ok (.getfield 116, 3)) (k : am_W l M R post (pc + 3) ls (am_I (iv n 0) :: st) kd rv iv cu su) : am_W l M R post pc ls (am_P n :: st) kd rv iv cu su := by
  match K, hK, hk, k with
  | 0, _, hk, k => exact A_geti 0 (by rw [hM]; exact fl_X11_116_2) hk rfl hd k
  | 1, _, hk, k => exact A_geti 0 (by rw [hM]; exact fl_X11_116_8) hk rfl hd k
  | 2, _, hk, k => exact A_geti 0 (by rw [hM]; exact fl_X11_116_1) hk rfl hd k
  | 3, _, hk, k => exact A_geti 0 (by rw [hM]; exact fl_X11_116_0) hk rfl hd k
  | 4, _, hk, k => exact A_geti 0 (by rw [hM]; exact fl_X11_116_9) hk rfl hd k
  | 5, _, hk, k => exact A_geti 0 (by rw [hM]; exact fl_X11_116_10) hk rfl hd k
  | 6, _, hk, k => exact A_geti 0 (by rw [hM]; exact fl_X11_116_6) hk rfl hd k
theorem G_m_X11 {n : am_N} {K : Nat} (hK : K < 7) (hk : kd n = some (.inl (lw_ci K))) (hM : M.1.cls = RX11) (hd : decode M.2.1 pc = .ok (.getfield 121, 3)) (k : am_W l M R post (pc + 3) ls (am_I (iv n 2) :: st) kd rv iv cu su) : am_W l M R post pc ls (am_P n :: st) kd rv iv cu su := by
  match K, hK, hk, k with
  | 0, _, hk, k => exact A_geti 2 (by rw [hM]; exact fl_X11_121_2) hk rfl hd k
  | 1, _, hk, k => exact A_geti 2 (by rw [hM]; exact fl_X11_121_8) hk rfl hd k
  | 2, _, hk, k => exact A_geti 2 (by rw [hM]; exact fl_X11_121_1) hk rfl hd k
  | 3, _, hk, k => exact A_geti 2 (by rw [hM]; exact fl_X11_121_0) hk rfl hd k
  | 4, _, hk, k => exact A_geti 2 (by rw [hM]; exact fl_X11_121_9) hk rfl hd k
  | 5, _, hk, k => exact A_geti 2 (by rw [hM]; exact fl_X11_121_10) hk rfl hd k
  | 6, _, hk, k => exact A_geti 2 (by rw [hM]; exact fl_X11_121_6) hk rfl hd k
end AG
noncomputable def c_ring (x y t k : Int32) (n : Nat) (iv : am_iv) : Int32 × am_iv := if sr_b (-99999 ≤ (x / 2000 - 100000) ∧ (x / 2000 - 100000) ≤ 99999) = 0 then (-1000000001, er_heap 1 iv) else if sr_b (-999 ≤ (x - x / 2000 * 2000 - 1000) ∧ (x - x / 2000 * 2000 - 1000) ≤ 999) = 0 then (-1000000001, er_heap 1 iv) else if y = 1 ∨ y = -1 then (if sr_b (0 ≤ t ∧ t ≤ 999) = 0 then (-1000000001, er_heap 1 iv) else if sr_b (1 ≤ (k / 100) ∧ (k / 100) ≤ 200) = 0 then (-1000000001, er_heap 1 iv) else if sr_b (1 ≤ (k - k / 100 * 100) ∧ (k - k / 100 * 100) ≤ 50) = 0 then (-1000000001, er_heap 1 iv) else if sr_b (8 ≤ iv (2, 0, 0) 1) = 0 then (nI n, am_ui (rm_ring (4, 0, n) (x / 2000 - 100000) (x - x / 2000 * 2000 - 1000) y t (k / 100) (k - k / 100 * 100) iv) (2, 0, 0) 1 (nI (n + 1))) else (-1000000004, er_heap 4 iv)) else (-1000000001, er_heap 1 iv)
set_option maxRecDepth 20000 in
theorem p_ring (l : Launch) {kd : am_kd} {rv : am_rv} {iv : am_iv} (hS : sh kd rv) (x y t k : Int32) (n : Nat) (hn : iv (2, 0, 0) 1 = nI n) (hn8 : n ≤ 8) : am_Met l mX11_ring (am_rm 3 0 0) [am_P (1, 0, 0), am_I x, am_I y, am_I t, am_I k] kd rv iv (am_ret (some (am_I (c_ring x y t k n iv).1)) kd rv (c_ring x y t k n iv).2) := by
  refine am_Met.of (by decide) (Nat.le_of_ble_eq_true rfl) rfl ?_
  refine A_iload_n (pc := 0) (i := 1) dX11_ring_0 rfl rfl ?_
  refine A_sipush (pc := 1) (2000) dX11_ring_1 (by decide) ?_
  refine A_idiv (pc := 4) dX11_ring_4 (by decide) ?_
  refine A_ldc (pc := 5) (List.mem_cons_of_mem _ kc_X11_53) dX11_ring_5 ?_
  refine A_isub (pc := 7) dX11_ring_7 ?_
  refine A_ist5 (pc := 8) dX11_ring_8 (Nat.le_of_ble_eq_true rfl) rfl ?_
  refine A_iload_n (pc := 10) (i := 1) dX11_ring_10 rfl rfl ?_
  refine A_sipush (pc := 11) (2000) dX11_ring_11 (by decide) ?_
  refine A_irem (pc := 14) dX11_ring_14 (by decide) ?_
  refine A_sipush (pc := 15) (1000) dX11_ring_15 (by decide) ?_
  refine A_isub (pc := 18) dX11_ring_18 ?_
  refine A_ist6 (pc := 19) dX11_ring_19 (Nat.le_of_ble_eq_true rfl) rfl ?_
  refine A_iload (pc := 21) (i := 4) dX11_ring_21 rfl ?_
  refine A_bipush (pc := 23) (100) dX11_ring_23 (by decide) ?_
  refine A_idiv (pc := 25) dX11_ring_25 (by decide) ?_
  refine A_ist7 (pc := 26) dX11_ring_26 (Nat.le_of_ble_eq_true rfl) rfl ?_
  refine A_iload (pc := 28) (i := 4) dX11_ring_28 rfl ?_
  refine A_bipush (pc := 30) (100) dX11_ring_30 (by decide) ?_
  refine A_irem (pc := 32) dX11_ring_32 (by decide) ?_
  refine A_ist8 (pc := 33) dX11_ring_33 (Nat.le_of_ble_eq_true rfl) rfl ?_
  refine A_iload (pc := 35) (i := 5) dX11_ring_35 rfl ?_
  refine A_ldc (pc := 37) (List.mem_cons_of_mem _ kc_X11_54) dX11_ring_37 ?_
  refine A_ldc (pc := 39) (List.mem_cons_of_mem _ kc_X11_55) dX11_ring_39 ?_
  refine A_callS1 (pc := 41) cs_X11_56 (s_isHeld l _ _ _) rfl rfl (Nat.le_of_ble_eq_true rfl) ⟨(Nat.le_of_ble_eq_true rfl), (Nat.le_of_ble_eq_true rfl)⟩ ⟨Nat.zero_le _, Nat.zero_le _⟩ dX11_ring_41 ?_
  refine A_ifeq (pc := 44) 105 dX11_ring_44 (by decide) (fun hb44 => ?_) (fun hb44 => ?_)
  · refine A_aload_n (pc := 105) (i := 0) dX11_ring_105 rfl rfl ?_
    refine A_ldc (pc := 106) (List.mem_cons_of_mem _ kc_X11_60) dX11_ring_106 ?_
    refine A_callV1 (pc := 108) cv_X11_61 (s_err1 l hS) hS.k1 rfl rfl rfl rfl (Nat.le_of_ble_eq_true rfl) ⟨(Nat.le_of_ble_eq_true rfl), (Nat.le_of_ble_eq_true rfl)⟩ ⟨Nat.zero_le _, Nat.zero_le _⟩ dX11_ring_108 ?_
    exact A_iretE (pc := 111) dX11_ring_111 rfl (Nat.zero_le _) (Nat.zero_le _) (by rw [c_ring, if_pos hb44]) (by rw [c_ring, if_pos hb44])
  · refine A_iload (pc := 47) (i := 6) dX11_ring_47 rfl ?_
    refine A_sipush (pc := 49) (-999) dX11_ring_49 (by decide) ?_
    refine A_sipush (pc := 52) (999) dX11_ring_52 (by decide) ?_
    refine A_callS1 (pc := 55) cs_X11_56 (s_isHeld l _ _ _) rfl rfl (Nat.le_of_ble_eq_true rfl) ⟨(Nat.le_of_ble_eq_true rfl), (Nat.le_of_ble_eq_true rfl)⟩ ⟨Nat.zero_le _, Nat.zero_le _⟩ dX11_ring_55 ?_
    refine A_ifeq (pc := 58) 105 dX11_ring_58 (by decide) (fun hb58 => ?_) (fun hb58 => ?_)
    · refine A_aload_n (pc := 105) (i := 0) dX11_ring_105 rfl rfl ?_
      refine A_ldc (pc := 106) (List.mem_cons_of_mem _ kc_X11_60) dX11_ring_106 ?_
      refine A_callV1 (pc := 108) cv_X11_61 (s_err1 l hS) hS.k1 rfl rfl rfl rfl (Nat.le_of_ble_eq_true rfl) ⟨(Nat.le_of_ble_eq_true rfl), (Nat.le_of_ble_eq_true rfl)⟩ ⟨Nat.zero_le _, Nat.zero_le _⟩ dX11_ring_108 ?_
      exact A_iretE (pc := 111) dX11_ring_111 rfl (Nat.zero_le _) (Nat.zero_le _) (by rw [c_ring, if_neg hb44, if_pos hb58]) (by rw [c_ring, if_neg hb44, if_pos hb58])
    · refine A_iload_n (pc := 61) (i := 2) dX11_ring_61 rfl rfl ?_
      refine A_iconst (pc := 62) (1) dX11_ring_62 (by decide) ?_
      refine A_icmpeq (pc := 63) 71 dX11_ring_63 (by decide) (fun hb63 => ?_) (fun hb63 => ?_)
      · refine A_iload_n (pc := 71) (i := 3) dX11_ring_71 rfl rfl ?_
        refine A_iconst (pc := 72) (0) dX11_ring_72 (by decide) ?_
        refine A_sipush (pc := 73) (999) dX11_ring_73 (by decide) ?_
        refine A_callS1 (pc := 76) cs_X11_56 (s_isHeld l _ _ _) rfl rfl (Nat.le_of_ble_eq_true rfl) ⟨(Nat.le_of_ble_eq_true rfl), (Nat.le_of_ble_eq_true rfl)⟩ ⟨Nat.zero_le _, Nat.zero_le _⟩ dX11_ring_76 ?_
        refine A_ifeq (pc := 79) 105 dX11_ring_79 (by decide) (fun hb79 => ?_) (fun hb79 => ?_)
        · refine A_aload_n (pc := 105) (i := 0) dX11_ring_105 rfl rfl ?_
          refine A_ldc (pc := 106) (List.mem_cons_of_mem _ kc_X11_60) dX11_ring_106 ?_
          refine A_callV1 (pc := 108) cv_X11_61 (s_err1 l hS) hS.k1 rfl rfl rfl rfl (Nat.le_of_ble_eq_true rfl) ⟨(Nat.le_of_ble_eq_true rfl), (Nat.le_of_ble_eq_true rfl)⟩ ⟨Nat.zero_le _, Nat.zero_le _⟩ dX11_ring_108 ?_
          exact A_iretE (pc := 111) dX11_ring_111 rfl (Nat.zero_le _) (Nat.zero_le _) (by rw [c_ring, if_neg hb44, if_neg hb58, if_pos (Or.inl hb63), if_pos hb79]) (by rw [c_ring, if_neg hb44, if_neg hb58, if_pos (Or.inl hb63), if_pos hb79])
        · refine A_iload (pc := 82) (i := 7) dX11_ring_82 rfl ?_
          refine A_iconst (pc := 84) (1) dX11_ring_84 (by decide) ?_
          refine A_sipush (pc := 85) (200) dX11_ring_85 (by decide) ?_
          refine A_callS1 (pc := 88) cs_X11_56 (s_isHeld l _ _ _) rfl rfl (Nat.le_of_ble_eq_true rfl) ⟨(Nat.le_of_ble_eq_true rfl), (Nat.le_of_ble_eq_true rfl)⟩ ⟨Nat.zero_le _, Nat.zero_le _⟩ dX11_ring_88 ?_
          refine A_ifeq (pc := 91) 105 dX11_ring_91 (by decide) (fun hb91 => ?_) (fun hb91 => ?_)
          · refine A_aload_n (pc := 105) (i := 0) dX11_ring_105 rfl rfl ?_
            refine A_ldc (pc := 106) (List.mem_cons_of_mem _ kc_X11_60) dX11_ring_106 ?_
            refine A_callV1 (pc := 108) cv_X11_61 (s_err1 l hS) hS.k1 rfl rfl rfl rfl (Nat.le_of_ble_eq_true rfl) ⟨(Nat.le_of_ble_eq_true rfl), (Nat.le_of_ble_eq_true rfl)⟩ ⟨Nat.zero_le _, Nat.zero_le _⟩ dX11_ring_108 ?_
            exact A_iretE (pc := 111) dX11_ring_111 rfl (Nat.zero_le _) (Nat.zero_le _) (by rw [c_ring, if_neg hb44, if_neg hb58, if_pos (Or.inl hb63), if_neg hb79, if_pos hb91]) (by rw [c_ring, if_neg hb44, if_neg hb58, if_pos (Or.inl hb63), if_neg hb79, if_pos hb91])
          · refine A_iload (pc := 94) (i := 8) dX11_ring_94 rfl ?_
            refine A_iconst (pc := 96) (1) dX11_ring_96 (by decide) ?_
            refine A_bipush (pc := 97) (50) dX11_ring_97 (by decide) ?_
            refine A_callS1 (pc := 99) cs_X11_56 (s_isHeld l _ _ _) rfl rfl (Nat.le_of_ble_eq_true rfl) ⟨(Nat.le_of_ble_eq_true rfl), (Nat.le_of_ble_eq_true rfl)⟩ ⟨Nat.zero_le _, Nat.zero_le _⟩ dX11_ring_99 ?_
            refine A_ifne (pc := 102) 112 dX11_ring_102 (by decide) (fun hb102 => ?_) (fun hb102 => ?_)
            · refine A_aload_n (pc := 112) (i := 0) dX11_ring_112 rfl rfl ?_
              refine A_getr (pc := 113) 0 fl_X11_12_11 hS.k1 rfl (hS.w1 (k := 0) (by decide)) dX11_ring_113 ?_
              refine A_callV1 (pc := 116) cv_X11_65 (s_isFull l hS _ (by decide)) (hS.k2 (by decide)) rfl rfl rfl rfl (Nat.le_of_ble_eq_true rfl) ⟨(Nat.le_of_ble_eq_true rfl), (Nat.le_of_ble_eq_true rfl)⟩ ⟨Nat.zero_le _, Nat.zero_le _⟩ dX11_ring_116 ?_
              refine A_ifeq (pc := 119) 129 dX11_ring_119 (by decide) (fun hb119 => ?_) (fun hb119 => ?_)
              · have hn7 : n < 8 := by
                  have q := (sr_b_0 _).mp hb119
                  rw [hn] at q
                  rcases Nat.lt_or_ge n 8 with z | z
                  · exact z
                  · exact absurd (nI_le (a := 8) z (by omega)) q
                refine A_aload_n (pc := 129) (i := 0) dX11_ring_129 rfl rfl ?_
                refine A_getr (pc := 130) 0 fl_X11_12_11 hS.k1 rfl (hS.w1 (k := 0) (by decide)) dX11_ring_130 ?_
                refine A_iload (pc := 133) (i := 5) dX11_ring_133 rfl ?_
                refine A_iload (pc := 135) (i := 6) dX11_ring_135 rfl ?_
                refine A_iload_n (pc := 137) (i := 2) dX11_ring_137 rfl rfl ?_
                refine A_iload_n (pc := 138) (i := 3) dX11_ring_138 rfl rfl ?_
                refine A_iload (pc := 139) (i := 7) dX11_ring_139 rfl ?_
                refine A_iload (pc := 141) (i := 8) dX11_ring_141 rfl ?_
                refine A_callV1 (pc := 143) cv_X11_70 (s_addRing l hS 0 (by decide) n hn hn7 _ _ _ _ _ _) (hS.k2 (by decide)) rfl rfl rfl rfl (Nat.le_of_ble_eq_true rfl) ⟨(Nat.le_of_ble_eq_true rfl), (Nat.le_of_ble_eq_true rfl)⟩ ⟨Nat.zero_le _, Nat.zero_le _⟩ dX11_ring_143 ?_
                exact A_iretE (pc := 146) dX11_ring_146 rfl (Nat.zero_le _) (Nat.zero_le _) (by rw [c_ring, if_neg hb44, if_neg hb58, if_pos (Or.inl hb63), if_neg hb79, if_neg hb91, if_neg hb102, if_pos hb119]) (by rw [c_ring, if_neg hb44, if_neg hb58, if_pos (Or.inl hb63), if_neg hb79, if_neg hb91, if_neg hb102, if_pos hb119])
              · refine A_aload_n (pc := 122) (i := 0) dX11_ring_122 rfl rfl ?_
                refine A_ldc (pc := 123) (List.mem_cons_of_mem _ kc_X11_69) dX11_ring_123 ?_
                refine A_callV1 (pc := 125) cv_X11_61 (s_err4 l hS) hS.k1 rfl rfl rfl rfl (Nat.le_of_ble_eq_true rfl) ⟨(Nat.le_of_ble_eq_true rfl), (Nat.le_of_ble_eq_true rfl)⟩ ⟨Nat.zero_le _, Nat.zero_le _⟩ dX11_ring_125 ?_
                exact A_iretE (pc := 128) dX11_ring_128 rfl (Nat.zero_le _) (Nat.zero_le _) (by rw [c_ring, if_neg hb44, if_neg hb58, if_pos (Or.inl hb63), if_neg hb79, if_neg hb91, if_neg hb102, if_neg hb119]) (by rw [c_ring, if_neg hb44, if_neg hb58, if_pos (Or.inl hb63), if_neg hb79, if_neg hb91, if_neg hb102, if_neg hb119])
            · refine A_aload_n (pc := 105) (i := 0) dX11_ring_105 rfl rfl ?_
              refine A_ldc (pc := 106) (List.mem_cons_of_mem _ kc_X11_60) dX11_ring_106 ?_
              refine A_callV1 (pc := 108) cv_X11_61 (s_err1 l hS) hS.k1 rfl rfl rfl rfl (Nat.le_of_ble_eq_true rfl) ⟨(Nat.le_of_ble_eq_true rfl), (Nat.le_of_ble_eq_true rfl)⟩ ⟨Nat.zero_le _, Nat.zero_le _⟩ dX11_ring_108 ?_
              exact A_iretE (pc := 111) dX11_ring_111 rfl (Nat.zero_le _) (Nat.zero_le _) (by rw [c_ring, if_neg hb44, if_neg hb58, if_pos (Or.inl hb63), if_neg hb79, if_neg hb91, if_pos hb102]) (by rw [c_ring, if_neg hb44, if_neg hb58, if_pos (Or.inl hb63), if_neg hb79, if_neg hb91, if_pos hb102])
      · refine A_iload_n (pc := 66) (i := 2) dX11_ring_66 rfl rfl ?_
        refine A_iconst (pc := 67) (-1) dX11_ring_67 (by decide) ?_
        refine A_icmpne (pc := 68) 105 dX11_ring_68 (by decide) (fun hb68 => ?_) (fun hb68 => ?_)
        · refine A_aload_n (pc := 105) (i := 0) dX11_ring_105 rfl rfl ?_
          refine A_ldc (pc := 106) (List.mem_cons_of_mem _ kc_X11_60) dX11_ring_106 ?_
          refine A_callV1 (pc := 108) cv_X11_61 (s_err1 l hS) hS.k1 rfl rfl rfl rfl (Nat.le_of_ble_eq_true rfl) ⟨(Nat.le_of_ble_eq_true rfl), (Nat.le_of_ble_eq_true rfl)⟩ ⟨Nat.zero_le _, Nat.zero_le _⟩ dX11_ring_108 ?_
          exact A_iretE (pc := 111) dX11_ring_111 rfl (Nat.zero_le _) (Nat.zero_le _) (by rw [c_ring, if_neg hb44, if_neg hb58, if_neg (fun h => h.elim hb63 hb68)]) (by rw [c_ring, if_neg hb44, if_neg hb58, if_neg (fun h => h.elim hb63 hb68)])
        · refine A_iload_n (pc := 71) (i := 3) dX11_ring_71 rfl rfl ?_
          refine A_iconst (pc := 72) (0) dX11_ring_72 (by decide) ?_
          refine A_sipush (pc := 73) (999) dX11_ring_73 (by decide) ?_
          refine A_callS1 (pc := 76) cs_X11_56 (s_isHeld l _ _ _) rfl rfl (Nat.le_of_ble_eq_true rfl) ⟨(Nat.le_of_ble_eq_true rfl), (Nat.le_of_ble_eq_true rfl)⟩ ⟨Nat.zero_le _, Nat.zero_le _⟩ dX11_ring_76 ?_
          refine A_ifeq (pc := 79) 105 dX11_ring_79 (by decide) (fun hb79 => ?_) (fun hb79 => ?_)
          · refine A_aload_n (pc := 105) (i := 0) dX11_ring_105 rfl rfl ?_
            refine A_ldc (pc := 106) (List.mem_cons_of_mem _ kc_X11_60) dX11_ring_106 ?_
            refine A_callV1 (pc := 108) cv_X11_61 (s_err1 l hS) hS.k1 rfl rfl rfl rfl (Nat.le_of_ble_eq_true rfl) ⟨(Nat.le_of_ble_eq_true rfl), (Nat.le_of_ble_eq_true rfl)⟩ ⟨Nat.zero_le _, Nat.zero_le _⟩ dX11_ring_108 ?_
            exact A_iretE (pc := 111) dX11_ring_111 rfl (Nat.zero_le _) (Nat.zero_le _) (by rw [c_ring, if_neg hb44, if_neg hb58, if_pos (Or.inr hb68), if_pos hb79]) (by rw [c_ring, if_neg hb44, if_neg hb58, if_pos (Or.inr hb68), if_pos hb79])
          · refine A_iload (pc := 82) (i := 7) dX11_ring_82 rfl ?_
            refine A_iconst (pc := 84) (1) dX11_ring_84 (by decide) ?_
            refine A_sipush (pc := 85) (200) dX11_ring_85 (by decide) ?_
            refine A_callS1 (pc := 88) cs_X11_56 (s_isHeld l _ _ _) rfl rfl (Nat.le_of_ble_eq_true rfl) ⟨(Nat.le_of_ble_eq_true rfl), (Nat.le_of_ble_eq_true rfl)⟩ ⟨Nat.zero_le _, Nat.zero_le _⟩ dX11_ring_88 ?_
            refine A_ifeq (pc := 91) 105 dX11_ring_91 (by decide) (fun hb91 => ?_) (fun hb91 => ?_)
            · refine A_aload_n (pc := 105) (i := 0) dX11_ring_105 rfl rfl ?_
              refine A_ldc (pc := 106) (List.mem_cons_of_mem _ kc_X11_60) dX11_ring_106 ?_
              refine A_callV1 (pc := 108) cv_X11_61 (s_err1 l hS) hS.k1 rfl rfl rfl rfl (Nat.le_of_ble_eq_true rfl) ⟨(Nat.le_of_ble_eq_true rfl), (Nat.le_of_ble_eq_true rfl)⟩ ⟨Nat.zero_le _, Nat.zero_le _⟩ dX11_ring_108 ?_
              exact A_iretE (pc := 111) dX11_ring_111 rfl (Nat.zero_le _) (Nat.zero_le _) (by rw [c_ring, if_neg hb44, if_neg hb58, if_pos (Or.inr hb68), if_neg hb79, if_pos hb91]) (by rw [c_ring, if_neg hb44, if_neg hb58, if_pos (Or.inr hb68), if_neg hb79, if_pos hb91])
            · refine A_iload (pc := 94) (i := 8) dX11_ring_94 rfl ?_
              refine A_iconst (pc := 96) (1) dX11_ring_96 (by decide) ?_
              refine A_bipush (pc := 97) (50) dX11_ring_97 (by decide) ?_
              refine A_callS1 (pc := 99) cs_X11_56 (s_isHeld l _ _ _) rfl rfl (Nat.le_of_ble_eq_true rfl) ⟨(Nat.le_of_ble_eq_true rfl), (Nat.le_of_ble_eq_true rfl)⟩ ⟨Nat.zero_le _, Nat.zero_le _⟩ dX11_ring_99 ?_
              refine A_ifne (pc := 102) 112 dX11_ring_102 (by decide) (fun hb102 => ?_) (fun hb102 => ?_)
              · refine A_aload_n (pc := 112) (i := 0) dX11_ring_112 rfl rfl ?_
                refine A_getr (pc := 113) 0 fl_X11_12_11 hS.k1 rfl (hS.w1 (k := 0) (by decide)) dX11_ring_113 ?_
                refine A_callV1 (pc := 116) cv_X11_65 (s_isFull l hS _ (by decide)) (hS.k2 (by decide)) rfl rfl rfl rfl (Nat.le_of_ble_eq_true rfl) ⟨(Nat.le_of_ble_eq_true rfl), (Nat.le_of_ble_eq_true rfl)⟩ ⟨Nat.zero_le _, Nat.zero_le _⟩ dX11_ring_116 ?_
                refine A_ifeq (pc := 119) 129 dX11_ring_119 (by decide) (fun hb119 => ?_) (fun hb119 => ?_)
                · have hn7 : n < 8 := by
                    have q := (sr_b_0 _).mp hb119
                    rw [hn] at q
                    rcases Nat.lt_or_ge n 8 with z | z
                    · exact z
                    · exact absurd (nI_le (a := 8) z (by omega)) q
                  refine A_aload_n (pc := 129) (i := 0) dX11_ring_129 rfl rfl ?_
                  refine A_getr (pc := 130) 0 fl_X11_12_11 hS.k1 rfl (hS.w1 (k := 0) (by decide)) dX11_ring_130 ?_
                  refine A_iload (pc := 133) (i := 5) dX11_ring_133 rfl ?_
                  refine A_iload (pc := 135) (i := 6) dX11_ring_135 rfl ?_
                  refine A_iload_n (pc := 137) (i := 2) dX11_ring_137 rfl rfl ?_
                  refine A_iload_n (pc := 138) (i := 3) dX11_ring_138 rfl rfl ?_
                  refine A_iload (pc := 139) (i := 7) dX11_ring_139 rfl ?_
                  refine A_iload (pc := 141) (i := 8) dX11_ring_141 rfl ?_
                  refine A_callV1 (pc := 143) cv_X11_70 (s_addRing l hS 0 (by decide) n hn hn7 _ _ _ _ _ _) (hS.k2 (by decide)) rfl rfl rfl rfl (Nat.le_of_ble_eq_true rfl) ⟨(Nat.le_of_ble_eq_true rfl), (Nat.le_of_ble_eq_true rfl)⟩ ⟨Nat.zero_le _, Nat.zero_le _⟩ dX11_ring_143 ?_
                  exact A_iretE (pc := 146) dX11_ring_146 rfl (Nat.zero_le _) (Nat.zero_le _) (by rw [c_ring, if_neg hb44, if_neg hb58, if_pos (Or.inr hb68), if_neg hb79, if_neg hb91, if_neg hb102, if_pos hb119]) (by rw [c_ring, if_neg hb44, if_neg hb58, if_pos (Or.inr hb68), if_neg hb79, if_neg hb91, if_neg hb102, if_pos hb119])
                · refine A_aload_n (pc := 122) (i := 0) dX11_ring_122 rfl rfl ?_
                  refine A_ldc (pc := 123) (List.mem_cons_of_mem _ kc_X11_69) dX11_ring_123 ?_
                  refine A_callV1 (pc := 125) cv_X11_61 (s_err4 l hS) hS.k1 rfl rfl rfl rfl (Nat.le_of_ble_eq_true rfl) ⟨(Nat.le_of_ble_eq_true rfl), (Nat.le_of_ble_eq_true rfl)⟩ ⟨Nat.zero_le _, Nat.zero_le _⟩ dX11_ring_125 ?_
                  exact A_iretE (pc := 128) dX11_ring_128 rfl (Nat.zero_le _) (Nat.zero_le _) (by rw [c_ring, if_neg hb44, if_neg hb58, if_pos (Or.inr hb68), if_neg hb79, if_neg hb91, if_neg hb102, if_neg hb119]) (by rw [c_ring, if_neg hb44, if_neg hb58, if_pos (Or.inr hb68), if_neg hb79, if_neg hb91, if_neg hb102, if_neg hb119])
              · refine A_aload_n (pc := 105) (i := 0) dX11_ring_105 rfl rfl ?_
                refine A_ldc (pc := 106) (List.mem_cons_of_mem _ kc_X11_60) dX11_ring_106 ?_
                refine A_callV1 (pc := 108) cv_X11_61 (s_err1 l hS) hS.k1 rfl rfl rfl rfl (Nat.le_of_ble_eq_true rfl) ⟨(Nat.le_of_ble_eq_true rfl), (Nat.le_of_ble_eq_true rfl)⟩ ⟨Nat.zero_le _, Nat.zero_le _⟩ dX11_ring_108 ?_
                exact A_iretE (pc := 111) dX11_ring_111 rfl (Nat.zero_le _) (Nat.zero_le _) (by rw [c_ring, if_neg hb44, if_neg hb58, if_pos (Or.inr hb68), if_neg hb79, if_neg hb91, if_pos hb102]) (by rw [c_ring, if_neg hb44, if_neg hb58, if_pos (Or.inr hb68), if_neg hb79, if_neg hb91, if_pos hb102])
noncomputable def d_ring (x y t k : Int32) (n : Nat) (iv : am_iv) : Int32 × am_iv := if x < 0 then (-1000000001, rx_find 1 iv) else if sr_b (-99999 ≤ (x / 2000 - 100000) ∧ (x / 2000 - 100000) ≤ 99999) = 0 then (-1000000001, rx_find 1 iv) else if sr_b (-999 ≤ (x - x / 2000 * 2000 - 1000) ∧ (x - x / 2000 * 2000 - 1000) ≤ 999) = 0 then (-1000000001, rx_find 1 iv) else if y = 1 ∨ y = -1 then (if sr_b (0 ≤ t ∧ t ≤ 999) = 0 then (-1000000001, rx_find 1 iv) else if k < 0 then (-1000000001, rx_find 1 iv) else if sr_b (1 ≤ (k / 100) ∧ (k / 100) ≤ 200) = 0 then (-1000000001, rx_find 1 iv) else if sr_b (1 ≤ (k - k / 100 * 100) ∧ (k - k / 100 * 100) ≤ 50) = 0 then (-1000000001, rx_find 1 iv) else if iv (31, 0, 0) 1 = 8 then (-1000000004, rx_find 4 iv) else (nI n, rx_add (31, 0, 0) n (x / 2000 - 100000) (x - x / 2000 * 2000 - 1000) y t (k / 100) (k - k / 100 * 100) iv)) else (-1000000001, rx_find 1 iv)
set_option maxRecDepth 20000 in
theorem q_ring (l : Launch) {kd : am_kd} {rv : am_rv} {iv : am_iv} (hR : shr kd rv) (x y t k : Int32) (n : Nat) (hn : iv (31, 0, 0) 1 = nI n) (hn8 : n ≤ 8) : am_Met l mX12_ring (am_rm 2 0 0) [am_P (30, 0, 0), am_I x, am_I y, am_I t, am_I k] kd rv iv (am_ret (some (am_I (d_ring x y t k n iv).1)) kd rv (d_ring x y t k n iv).2) := by
  refine am_Met.of (by decide) (Nat.le_of_ble_eq_true rfl) rfl ?_
  refine A_iload_n (pc := 0) (i := 1) dX12_ring_0 rfl rfl ?_
  refine A_sipush (pc := 1) (2000) dX12_ring_1 (by decide) ?_
  refine A_idiv (pc := 4) dX12_ring_4 (by decide) ?_
  refine A_ldc (pc := 5) (List.mem_cons_of_mem _ kc_X12_52) dX12_ring_5 ?_
  refine A_isub (pc := 7) dX12_ring_7 ?_
  refine A_ist5 (pc := 8) dX12_ring_8 (Nat.le_of_ble_eq_true rfl) rfl ?_
  refine A_iload_n (pc := 10) (i := 1) dX12_ring_10 rfl rfl ?_
  refine A_sipush (pc := 11) (2000) dX12_ring_11 (by decide) ?_
  refine A_irem (pc := 14) dX12_ring_14 (by decide) ?_
  refine A_sipush (pc := 15) (1000) dX12_ring_15 (by decide) ?_
  refine A_isub (pc := 18) dX12_ring_18 ?_
  refine A_ist6 (pc := 19) dX12_ring_19 (Nat.le_of_ble_eq_true rfl) rfl ?_
  refine A_iload_n (pc := 21) (i := 1) dX12_ring_21 rfl rfl ?_
  refine A_iflt (pc := 22) 81 dX12_ring_22 (by decide) (fun hb22 => ?_) (fun hb22 => ?_)
  · refine A_iconst (pc := 81) (0) dX12_ring_81 (by decide) ?_
    refine A_ist7 (pc := 82) dX12_ring_82 (Nat.le_of_ble_eq_true rfl) rfl ?_
    refine A_iload (pc := 84) (i := 7) dX12_ring_84 rfl ?_
    refine A_ifeq (pc := 86) 126 dX12_ring_86 (by decide) (fun hb86 => ?_) (fun hb86 => ?_)
    · refine A_aload_n (pc := 126) (i := 0) dX12_ring_126 rfl rfl ?_
      refine A_iconst (pc := 127) (1) dX12_ring_127 (by decide) ?_
      refine A_callV1 (pc := 128) cv_X12_65 (r_fnd1 l hR) hR.1 rfl rfl rfl rfl (Nat.le_of_ble_eq_true rfl) ⟨(Nat.le_of_ble_eq_true rfl), (Nat.le_of_ble_eq_true rfl)⟩ ⟨Nat.zero_le _, Nat.zero_le _⟩ dX12_ring_128 ?_
      exact A_iretE (pc := 131) dX12_ring_131 rfl (Nat.zero_le _) (Nat.zero_le _) (by rw [d_ring, if_pos hb22]) (by rw [d_ring, if_pos hb22])
    · exact absurd rfl hb86
  · refine A_iload (pc := 25) (i := 5) dX12_ring_25 rfl ?_
    refine A_i2l (pc := 27) dX12_ring_27 ?_
    refine A_ldc2 (pc := 28) (List.mem_cons_of_mem _ kc_X12_53) dX12_ring_28 ?_
    refine A_topJ (y := Int32.toInt64 (-99999)) (by decide +kernel) ?_
    refine A_ldc2 (pc := 31) (List.mem_cons_of_mem _ kc_X12_55) dX12_ring_31 ?_
    refine A_topJ (y := Int32.toInt64 (99999)) (by decide +kernel) ?_
    refine A_callS1 (pc := 34) cs_X12_48 (r_in l _ _ _) rfl rfl (Nat.le_of_ble_eq_true rfl) ⟨(Nat.le_of_ble_eq_true rfl), (Nat.le_of_ble_eq_true rfl)⟩ ⟨Nat.zero_le _, Nat.zero_le _⟩ dX12_ring_34 ?_
    refine A_ifeq (pc := 37) 81 dX12_ring_37 (by decide) (fun hb37 => ?_) (fun hb37 => ?_)
    · refine A_iconst (pc := 81) (0) dX12_ring_81 (by decide) ?_
      refine A_ist7 (pc := 82) dX12_ring_82 (Nat.le_of_ble_eq_true rfl) rfl ?_
      refine A_iload (pc := 84) (i := 7) dX12_ring_84 rfl ?_
      refine A_ifeq (pc := 86) 126 dX12_ring_86 (by decide) (fun hb86 => ?_) (fun hb86 => ?_)
      · refine A_aload_n (pc := 126) (i := 0) dX12_ring_126 rfl rfl ?_
        refine A_iconst (pc := 127) (1) dX12_ring_127 (by decide) ?_
        refine A_callV1 (pc := 128) cv_X12_65 (r_fnd1 l hR) hR.1 rfl rfl rfl rfl (Nat.le_of_ble_eq_true rfl) ⟨(Nat.le_of_ble_eq_true rfl), (Nat.le_of_ble_eq_true rfl)⟩ ⟨Nat.zero_le _, Nat.zero_le _⟩ dX12_ring_128 ?_
        exact A_iretE (pc := 131) dX12_ring_131 rfl (Nat.zero_le _) (Nat.zero_le _) (by rw [d_ring, if_neg hb22, if_pos hb37]) (by rw [d_ring, if_neg hb22, if_pos hb37])
      · exact absurd rfl hb86
    · refine A_iload (pc := 40) (i := 6) dX12_ring_40 rfl ?_
      refine A_i2l (pc := 42) dX12_ring_42 ?_
      refine A_ldc2 (pc := 43) (List.mem_cons_of_mem _ kc_X12_57) dX12_ring_43 ?_
      refine A_topJ (y := Int32.toInt64 (-999)) (by decide +kernel) ?_
      refine A_ldc2 (pc := 46) (List.mem_cons_of_mem _ kc_X12_59) dX12_ring_46 ?_
      refine A_topJ (y := Int32.toInt64 (999)) (by decide +kernel) ?_
      refine A_callS1 (pc := 49) cs_X12_48 (r_in l _ _ _) rfl rfl (Nat.le_of_ble_eq_true rfl) ⟨(Nat.le_of_ble_eq_true rfl), (Nat.le_of_ble_eq_true rfl)⟩ ⟨Nat.zero_le _, Nat.zero_le _⟩ dX12_ring_49 ?_
      refine A_ifeq (pc := 52) 81 dX12_ring_52 (by decide) (fun hb52 => ?_) (fun hb52 => ?_)
      · refine A_iconst (pc := 81) (0) dX12_ring_81 (by decide) ?_
        refine A_ist7 (pc := 82) dX12_ring_82 (Nat.le_of_ble_eq_true rfl) rfl ?_
        refine A_iload (pc := 84) (i := 7) dX12_ring_84 rfl ?_
        refine A_ifeq (pc := 86) 126 dX12_ring_86 (by decide) (fun hb86 => ?_) (fun hb86 => ?_)
        · refine A_aload_n (pc := 126) (i := 0) dX12_ring_126 rfl rfl ?_
          refine A_iconst (pc := 127) (1) dX12_ring_127 (by decide) ?_
          refine A_callV1 (pc := 128) cv_X12_65 (r_fnd1 l hR) hR.1 rfl rfl rfl rfl (Nat.le_of_ble_eq_true rfl) ⟨(Nat.le_of_ble_eq_true rfl), (Nat.le_of_ble_eq_true rfl)⟩ ⟨Nat.zero_le _, Nat.zero_le _⟩ dX12_ring_128 ?_
          exact A_iretE (pc := 131) dX12_ring_131 rfl (Nat.zero_le _) (Nat.zero_le _) (by rw [d_ring, if_neg hb22, if_neg hb37, if_pos hb52]) (by rw [d_ring, if_neg hb22, if_neg hb37, if_pos hb52])
        · exact absurd rfl hb86
      · refine A_iload_n (pc := 55) (i := 2) dX12_ring_55 rfl rfl ?_
        refine A_iconst (pc := 56) (1) dX12_ring_56 (by decide) ?_
        refine A_icmpeq (pc := 57) 65 dX12_ring_57 (by decide) (fun hb57 => ?_) (fun hb57 => ?_)
        · refine A_iload_n (pc := 65) (i := 3) dX12_ring_65 rfl rfl ?_
          refine A_i2l (pc := 66) dX12_ring_66 ?_
          refine A_lconst (pc := 67) (0) dX12_ring_67 (by decide) ?_
          refine A_topJ (y := Int32.toInt64 (0)) (by decide +kernel) ?_
          refine A_ldc2 (pc := 68) (List.mem_cons_of_mem _ kc_X12_59) dX12_ring_68 ?_
          refine A_topJ (y := Int32.toInt64 (999)) (by decide +kernel) ?_
          refine A_callS1 (pc := 71) cs_X12_48 (r_in l _ _ _) rfl rfl (Nat.le_of_ble_eq_true rfl) ⟨(Nat.le_of_ble_eq_true rfl), (Nat.le_of_ble_eq_true rfl)⟩ ⟨Nat.zero_le _, Nat.zero_le _⟩ dX12_ring_71 ?_
          refine A_ifeq (pc := 74) 81 dX12_ring_74 (by decide) (fun hb74 => ?_) (fun hb74 => ?_)
          · refine A_iconst (pc := 81) (0) dX12_ring_81 (by decide) ?_
            refine A_ist7 (pc := 82) dX12_ring_82 (Nat.le_of_ble_eq_true rfl) rfl ?_
            refine A_iload (pc := 84) (i := 7) dX12_ring_84 rfl ?_
            refine A_ifeq (pc := 86) 126 dX12_ring_86 (by decide) (fun hb86 => ?_) (fun hb86 => ?_)
            · refine A_aload_n (pc := 126) (i := 0) dX12_ring_126 rfl rfl ?_
              refine A_iconst (pc := 127) (1) dX12_ring_127 (by decide) ?_
              refine A_callV1 (pc := 128) cv_X12_65 (r_fnd1 l hR) hR.1 rfl rfl rfl rfl (Nat.le_of_ble_eq_true rfl) ⟨(Nat.le_of_ble_eq_true rfl), (Nat.le_of_ble_eq_true rfl)⟩ ⟨Nat.zero_le _, Nat.zero_le _⟩ dX12_ring_128 ?_
              exact A_iretE (pc := 131) dX12_ring_131 rfl (Nat.zero_le _) (Nat.zero_le _) (by rw [d_ring, if_neg hb22, if_neg hb37, if_neg hb52, if_pos (Or.inl hb57), if_pos hb74]) (by rw [d_ring, if_neg hb22, if_neg hb37, if_neg hb52, if_pos (Or.inl hb57), if_pos hb74])
            · exact absurd rfl hb86
          · refine A_iconst (pc := 77) (1) dX12_ring_77 (by decide) ?_
            refine A_goto (pc := 78) 82 dX12_ring_78 (by decide) ?_
            refine A_ist7 (pc := 82) dX12_ring_82 (Nat.le_of_ble_eq_true rfl) rfl ?_
            refine A_iload (pc := 84) (i := 7) dX12_ring_84 rfl ?_
            refine A_ifeq (pc := 86) 126 dX12_ring_86 (by decide) (fun hb86 => ?_) (fun hb86 => ?_)
            · exact absurd hb86 (by decide)
            · refine A_iload (pc := 89) (i := 4) dX12_ring_89 rfl ?_
              refine A_iflt (pc := 91) 126 dX12_ring_91 (by decide) (fun hb91 => ?_) (fun hb91 => ?_)
              · refine A_aload_n (pc := 126) (i := 0) dX12_ring_126 rfl rfl ?_
                refine A_iconst (pc := 127) (1) dX12_ring_127 (by decide) ?_
                refine A_callV1 (pc := 128) cv_X12_65 (r_fnd1 l hR) hR.1 rfl rfl rfl rfl (Nat.le_of_ble_eq_true rfl) ⟨(Nat.le_of_ble_eq_true rfl), (Nat.le_of_ble_eq_true rfl)⟩ ⟨Nat.zero_le _, Nat.zero_le _⟩ dX12_ring_128 ?_
                exact A_iretE (pc := 131) dX12_ring_131 rfl (Nat.zero_le _) (Nat.zero_le _) (by rw [d_ring, if_neg hb22, if_neg hb37, if_neg hb52, if_pos (Or.inl hb57), if_neg hb74, if_pos hb91]) (by rw [d_ring, if_neg hb22, if_neg hb37, if_neg hb52, if_pos (Or.inl hb57), if_neg hb74, if_pos hb91])
              · refine A_iload (pc := 94) (i := 4) dX12_ring_94 rfl ?_
                refine A_bipush (pc := 96) (100) dX12_ring_96 (by decide) ?_
                refine A_idiv (pc := 98) dX12_ring_98 (by decide) ?_
                refine A_i2l (pc := 99) dX12_ring_99 ?_
                refine A_lconst (pc := 100) (1) dX12_ring_100 (by decide) ?_
                refine A_topJ (y := Int32.toInt64 (1)) (by decide +kernel) ?_
                refine A_ldc2 (pc := 101) (List.mem_cons_of_mem _ kc_X12_61) dX12_ring_101 ?_
                refine A_topJ (y := Int32.toInt64 (200)) (by decide +kernel) ?_
                refine A_callS1 (pc := 104) cs_X12_48 (r_in l _ _ _) rfl rfl (Nat.le_of_ble_eq_true rfl) ⟨(Nat.le_of_ble_eq_true rfl), (Nat.le_of_ble_eq_true rfl)⟩ ⟨Nat.zero_le _, Nat.zero_le _⟩ dX12_ring_104 ?_
                refine A_ifeq (pc := 107) 126 dX12_ring_107 (by decide) (fun hb107 => ?_) (fun hb107 => ?_)
                · refine A_aload_n (pc := 126) (i := 0) dX12_ring_126 rfl rfl ?_
                  refine A_iconst (pc := 127) (1) dX12_ring_127 (by decide) ?_
                  refine A_callV1 (pc := 128) cv_X12_65 (r_fnd1 l hR) hR.1 rfl rfl rfl rfl (Nat.le_of_ble_eq_true rfl) ⟨(Nat.le_of_ble_eq_true rfl), (Nat.le_of_ble_eq_true rfl)⟩ ⟨Nat.zero_le _, Nat.zero_le _⟩ dX12_ring_128 ?_
                  exact A_iretE (pc := 131) dX12_ring_131 rfl (Nat.zero_le _) (Nat.zero_le _) (by rw [d_ring, if_neg hb22, if_neg hb37, if_neg hb52, if_pos (Or.inl hb57), if_neg hb74, if_neg hb91, if_pos hb107]) (by rw [d_ring, if_neg hb22, if_neg hb37, if_neg hb52, if_pos (Or.inl hb57), if_neg hb74, if_neg hb91, if_pos hb107])
                · refine A_iload (pc := 110) (i := 4) dX12_ring_110 rfl ?_
                  refine A_bipush (pc := 112) (100) dX12_ring_112 (by decide) ?_
                  refine A_irem (pc := 114) dX12_ring_114 (by decide) ?_
                  refine A_i2l (pc := 115) dX12_ring_115 ?_
                  refine A_lconst (pc := 116) (1) dX12_ring_116 (by decide) ?_
                  refine A_topJ (y := Int32.toInt64 (1)) (by decide +kernel) ?_
                  refine A_ldc2 (pc := 117) (List.mem_cons_of_mem _ kc_X12_63) dX12_ring_117 ?_
                  refine A_topJ (y := Int32.toInt64 (50)) (by decide +kernel) ?_
                  refine A_callS1 (pc := 120) cs_X12_48 (r_in l _ _ _) rfl rfl (Nat.le_of_ble_eq_true rfl) ⟨(Nat.le_of_ble_eq_true rfl), (Nat.le_of_ble_eq_true rfl)⟩ ⟨Nat.zero_le _, Nat.zero_le _⟩ dX12_ring_120 ?_
                  refine A_ifne (pc := 123) 132 dX12_ring_123 (by decide) (fun hb123 => ?_) (fun hb123 => ?_)
                  · refine A_aload_n (pc := 132) (i := 0) dX12_ring_132 rfl rfl ?_
                    refine A_getr (pc := 133) 0 fl_X12_7_12 hR.1 rfl hR.w0 dX12_ring_133 ?_
                    refine A_iconst (pc := 136) (1) dX12_ring_136 (by decide) ?_
                    refine A_ialdN (pc := 137) hR.k0 (show 1 < 300 by decide) (by decide) dX12_ring_137 ?_
                    refine A_bipush (pc := 138) (8) dX12_ring_138 (by decide) ?_
                    refine A_icmpne (pc := 140) 151 dX12_ring_140 (by decide) (fun hb140 => ?_) (fun hb140 => ?_)
                    · have hn7 : n < 8 := by
                        rcases Nat.lt_or_ge n 8 with z | z
                        · exact z
                        · exact absurd (by rw [hn, show n = 8 by omega]; rfl) hb140
                      refine A_aload_n (pc := 151) (i := 0) dX12_ring_151 rfl rfl ?_
                      refine A_getr (pc := 152) 0 fl_X12_7_12 hR.1 rfl hR.w0 dX12_ring_152 ?_
                      refine A_iload (pc := 155) (i := 5) dX12_ring_155 rfl ?_
                      refine A_iload (pc := 157) (i := 6) dX12_ring_157 rfl ?_
                      refine A_iload_n (pc := 159) (i := 2) dX12_ring_159 rfl rfl ?_
                      refine A_iload_n (pc := 160) (i := 3) dX12_ring_160 rfl rfl ?_
                      refine A_iload (pc := 161) (i := 4) dX12_ring_161 rfl ?_
                      refine A_bipush (pc := 163) (100) dX12_ring_163 (by decide) ?_
                      refine A_idiv (pc := 165) dX12_ring_165 (by decide) ?_
                      refine A_iload (pc := 166) (i := 4) dX12_ring_166 rfl ?_
                      refine A_bipush (pc := 168) (100) dX12_ring_168 (by decide) ?_
                      refine A_irem (pc := 170) dX12_ring_170 (by decide) ?_
                      refine A_callS1 (pc := 171) cs_X12_69 (r_adds l (31, 0, 0) hR.k0 n hn hn7 _ _ _ _ _ _) rfl rfl (Nat.le_of_ble_eq_true rfl) ⟨(Nat.le_of_ble_eq_true rfl), (Nat.le_of_ble_eq_true rfl)⟩ ⟨Nat.zero_le _, Nat.zero_le _⟩ dX12_ring_171 ?_
                      exact A_iretE (pc := 174) dX12_ring_174 rfl (Nat.zero_le _) (Nat.zero_le _) (by rw [d_ring, if_neg hb22, if_neg hb37, if_neg hb52, if_pos (Or.inl hb57), if_neg hb74, if_neg hb91, if_neg hb107, if_neg hb123, if_neg hb140]) (by rw [d_ring, if_neg hb22, if_neg hb37, if_neg hb52, if_pos (Or.inl hb57), if_neg hb74, if_neg hb91, if_neg hb107, if_neg hb123, if_neg hb140])
                    · refine A_aload_n (pc := 143) (i := 0) dX12_ring_143 rfl rfl ?_
                      refine A_iconst (pc := 144) (4) dX12_ring_144 (by decide) ?_
                      refine A_callV1 (pc := 145) cv_X12_65 (r_fnd4 l hR) hR.1 rfl rfl rfl rfl (Nat.le_of_ble_eq_true rfl) ⟨(Nat.le_of_ble_eq_true rfl), (Nat.le_of_ble_eq_true rfl)⟩ ⟨Nat.zero_le _, Nat.zero_le _⟩ dX12_ring_145 ?_
                      refine A_goto (pc := 148) 174 dX12_ring_148 (by decide) ?_
                      exact A_iretE (pc := 174) dX12_ring_174 rfl (Nat.zero_le _) (Nat.zero_le _) (by rw [d_ring, if_neg hb22, if_neg hb37, if_neg hb52, if_pos (Or.inl hb57), if_neg hb74, if_neg hb91, if_neg hb107, if_neg hb123, if_pos hb140]) (by rw [d_ring, if_neg hb22, if_neg hb37, if_neg hb52, if_pos (Or.inl hb57), if_neg hb74, if_neg hb91, if_neg hb107, if_neg hb123, if_pos hb140])
                  · refine A_aload_n (pc := 126) (i := 0) dX12_ring_126 rfl rfl ?_
                    refine A_iconst (pc := 127) (1) dX12_ring_127 (by decide) ?_
                    refine A_callV1 (pc := 128) cv_X12_65 (r_fnd1 l hR) hR.1 rfl rfl rfl rfl (Nat.le_of_ble_eq_true rfl) ⟨(Nat.le_of_ble_eq_true rfl), (Nat.le_of_ble_eq_true rfl)⟩ ⟨Nat.zero_le _, Nat.zero_le _⟩ dX12_ring_128 ?_
                    exact A_iretE (pc := 131) dX12_ring_131 rfl (Nat.zero_le _) (Nat.zero_le _) (by rw [d_ring, if_neg hb22, if_neg hb37, if_neg hb52, if_pos (Or.inl hb57), if_neg hb74, if_neg hb91, if_neg hb107, if_pos hb123]) (by rw [d_ring, if_neg hb22, if_neg hb37, if_neg hb52, if_pos (Or.inl hb57), if_neg hb74, if_neg hb91, if_neg hb107, if_pos hb123])
        · refine A_iload_n (pc := 60) (i := 2) dX12_ring_60 rfl rfl ?_
          refine A_iconst (pc := 61) (-1) dX12_ring_61 (by decide) ?_
          refine A_icmpne (pc := 62) 81 dX12_ring_62 (by decide) (fun hb62 => ?_) (fun hb62 => ?_)
          · refine A_iconst (pc := 81) (0) dX12_ring_81 (by decide) ?_
            refine A_ist7 (pc := 82) dX12_ring_82 (Nat.le_of_ble_eq_true rfl) rfl ?_
            refine A_iload (pc := 84) (i := 7) dX12_ring_84 rfl ?_
            refine A_ifeq (pc := 86) 126 dX12_ring_86 (by decide) (fun hb86 => ?_) (fun hb86 => ?_)
            · refine A_aload_n (pc := 126) (i := 0) dX12_ring_126 rfl rfl ?_
              refine A_iconst (pc := 127) (1) dX12_ring_127 (by decide) ?_
              refine A_callV1 (pc := 128) cv_X12_65 (r_fnd1 l hR) hR.1 rfl rfl rfl rfl (Nat.le_of_ble_eq_true rfl) ⟨(Nat.le_of_ble_eq_true rfl), (Nat.le_of_ble_eq_true rfl)⟩ ⟨Nat.zero_le _, Nat.zero_le _⟩ dX12_ring_128 ?_
              exact A_iretE (pc := 131) dX12_ring_131 rfl (Nat.zero_le _) (Nat.zero_le _) (by rw [d_ring, if_neg hb22, if_neg hb37, if_neg hb52, if_neg (fun h => h.elim hb57 hb62)]) (by rw [d_ring, if_neg hb22, if_neg hb37, if_neg hb52, if_neg (fun h => h.elim hb57 hb62)])
            · exact absurd rfl hb86
          · refine A_iload_n (pc := 65) (i := 3) dX12_ring_65 rfl rfl ?_
            refine A_i2l (pc := 66) dX12_ring_66 ?_
            refine A_lconst (pc := 67) (0) dX12_ring_67 (by decide) ?_
            refine A_topJ (y := Int32.toInt64 (0)) (by decide +kernel) ?_
            refine A_ldc2 (pc := 68) (List.mem_cons_of_mem _ kc_X12_59) dX12_ring_68 ?_
            refine A_topJ (y := Int32.toInt64 (999)) (by decide +kernel) ?_
            refine A_callS1 (pc := 71) cs_X12_48 (r_in l _ _ _) rfl rfl (Nat.le_of_ble_eq_true rfl) ⟨(Nat.le_of_ble_eq_true rfl), (Nat.le_of_ble_eq_true rfl)⟩ ⟨Nat.zero_le _, Nat.zero_le _⟩ dX12_ring_71 ?_
            refine A_ifeq (pc := 74) 81 dX12_ring_74 (by decide) (fun hb74 => ?_) (fun hb74 => ?_)
            · refine A_iconst (pc := 81) (0) dX12_ring_81 (by decide) ?_
              refine A_ist7 (pc := 82) dX12_ring_82 (Nat.le_of_ble_eq_true rfl) rfl ?_
              refine A_iload (pc := 84) (i := 7) dX12_ring_84 rfl ?_
              refine A_ifeq (pc := 86) 126 dX12_ring_86 (by decide) (fun hb86 => ?_) (fun hb86 => ?_)
              · refine A_aload_n (pc := 126) (i := 0) dX12_ring_126 rfl rfl ?_
                refine A_iconst (pc := 127) (1) dX12_ring_127 (by decide) ?_
                refine A_callV1 (pc := 128) cv_X12_65 (r_fnd1 l hR) hR.1 rfl rfl rfl rfl (Nat.le_of_ble_eq_true rfl) ⟨(Nat.le_of_ble_eq_true rfl), (Nat.le_of_ble_eq_true rfl)⟩ ⟨Nat.zero_le _, Nat.zero_le _⟩ dX12_ring_128 ?_
                exact A_iretE (pc := 131) dX12_ring_131 rfl (Nat.zero_le _) (Nat.zero_le _) (by rw [d_ring, if_neg hb22, if_neg hb37, if_neg hb52, if_pos (Or.inr hb62), if_pos hb74]) (by rw [d_ring, if_neg hb22, if_neg hb37, if_neg hb52, if_pos (Or.inr hb62), if_pos hb74])
              · exact absurd rfl hb86
            · refine A_iconst (pc := 77) (1) dX12_ring_77 (by decide) ?_
              refine A_goto (pc := 78) 82 dX12_ring_78 (by decide) ?_
              refine A_ist7 (pc := 82) dX12_ring_82 (Nat.le_of_ble_eq_true rfl) rfl ?_
              refine A_iload (pc := 84) (i := 7) dX12_ring_84 rfl ?_
              refine A_ifeq (pc := 86) 126 dX12_ring_86 (by decide) (fun hb86 => ?_) (fun hb86 => ?_)
              · exact absurd hb86 (by decide)
              · refine A_iload (pc := 89) (i := 4) dX12_ring_89 rfl ?_
                refine A_iflt (pc := 91) 126 dX12_ring_91 (by decide) (fun hb91 => ?_) (fun hb91 => ?_)
                · refine A_aload_n (pc := 126) (i := 0) dX12_ring_126 rfl rfl ?_
                  refine A_iconst (pc := 127) (1) dX12_ring_127 (by decide) ?_
                  refine A_callV1 (pc := 128) cv_X12_65 (r_fnd1 l hR) hR.1 rfl rfl rfl rfl (Nat.le_of_ble_eq_true rfl) ⟨(Nat.le_of_ble_eq_true rfl), (Nat.le_of_ble_eq_true rfl)⟩ ⟨Nat.zero_le _, Nat.zero_le _⟩ dX12_ring_128 ?_
                  exact A_iretE (pc := 131) dX12_ring_131 rfl (Nat.zero_le _) (Nat.zero_le _) (by rw [d_ring, if_neg hb22, if_neg hb37, if_neg hb52, if_pos (Or.inr hb62), if_neg hb74, if_pos hb91]) (by rw [d_ring, if_neg hb22, if_neg hb37, if_neg hb52, if_pos (Or.inr hb62), if_neg hb74, if_pos hb91])
                · refine A_iload (pc := 94) (i := 4) dX12_ring_94 rfl ?_
                  refine A_bipush (pc := 96) (100) dX12_ring_96 (by decide) ?_
                  refine A_idiv (pc := 98) dX12_ring_98 (by decide) ?_
                  refine A_i2l (pc := 99) dX12_ring_99 ?_
                  refine A_lconst (pc := 100) (1) dX12_ring_100 (by decide) ?_
                  refine A_topJ (y := Int32.toInt64 (1)) (by decide +kernel) ?_
                  refine A_ldc2 (pc := 101) (List.mem_cons_of_mem _ kc_X12_61) dX12_ring_101 ?_
                  refine A_topJ (y := Int32.toInt64 (200)) (by decide +kernel) ?_
                  refine A_callS1 (pc := 104) cs_X12_48 (r_in l _ _ _) rfl rfl (Nat.le_of_ble_eq_true rfl) ⟨(Nat.le_of_ble_eq_true rfl), (Nat.le_of_ble_eq_true rfl)⟩ ⟨Nat.zero_le _, Nat.zero_le _⟩ dX12_ring_104 ?_
                  refine A_ifeq (pc := 107) 126 dX12_ring_107 (by decide) (fun hb107 => ?_) (fun hb107 => ?_)
                  · refine A_aload_n (pc := 126) (i := 0) dX12_ring_126 rfl rfl ?_
                    refine A_iconst (pc := 127) (1) dX12_ring_127 (by decide) ?_
                    refine A_callV1 (pc := 128) cv_X12_65 (r_fnd1 l hR) hR.1 rfl rfl rfl rfl (Nat.le_of_ble_eq_true rfl) ⟨(Nat.le_of_ble_eq_true rfl), (Nat.le_of_ble_eq_true rfl)⟩ ⟨Nat.zero_le _, Nat.zero_le _⟩ dX12_ring_128 ?_
                    exact A_iretE (pc := 131) dX12_ring_131 rfl (Nat.zero_le _) (Nat.zero_le _) (by rw [d_ring, if_neg hb22, if_neg hb37, if_neg hb52, if_pos (Or.inr hb62), if_neg hb74, if_neg hb91, if_pos hb107]) (by rw [d_ring, if_neg hb22, if_neg hb37, if_neg hb52, if_pos (Or.inr hb62), if_neg hb74, if_neg hb91, if_pos hb107])
                  · refine A_iload (pc := 110) (i := 4) dX12_ring_110 rfl ?_
                    refine A_bipush (pc := 112) (100) dX12_ring_112 (by decide) ?_
                    refine A_irem (pc := 114) dX12_ring_114 (by decide) ?_
                    refine A_i2l (pc := 115) dX12_ring_115 ?_
                    refine A_lconst (pc := 116) (1) dX12_ring_116 (by decide) ?_
                    refine A_topJ (y := Int32.toInt64 (1)) (by decide +kernel) ?_
                    refine A_ldc2 (pc := 117) (List.mem_cons_of_mem _ kc_X12_63) dX12_ring_117 ?_
                    refine A_topJ (y := Int32.toInt64 (50)) (by decide +kernel) ?_
                    refine A_callS1 (pc := 120) cs_X12_48 (r_in l _ _ _) rfl rfl (Nat.le_of_ble_eq_true rfl) ⟨(Nat.le_of_ble_eq_true rfl), (Nat.le_of_ble_eq_true rfl)⟩ ⟨Nat.zero_le _, Nat.zero_le _⟩ dX12_ring_120 ?_
                    refine A_ifne (pc := 123) 132 dX12_ring_123 (by decide) (fun hb123 => ?_) (fun hb123 => ?_)
                    · refine A_aload_n (pc := 132) (i := 0) dX12_ring_132 rfl rfl ?_
                      refine A_getr (pc := 133) 0 fl_X12_7_12 hR.1 rfl hR.w0 dX12_ring_133 ?_
                      refine A_iconst (pc := 136) (1) dX12_ring_136 (by decide) ?_
                      refine A_ialdN (pc := 137) hR.k0 (show 1 < 300 by decide) (by decide) dX12_ring_137 ?_
                      refine A_bipush (pc := 138) (8) dX12_ring_138 (by decide) ?_
                      refine A_icmpne (pc := 140) 151 dX12_ring_140 (by decide) (fun hb140 => ?_) (fun hb140 => ?_)
                      · have hn7 : n < 8 := by
                          rcases Nat.lt_or_ge n 8 with z | z
                          · exact z
                          · exact absurd (by rw [hn, show n = 8 by omega]; rfl) hb140
                        refine A_aload_n (pc := 151) (i := 0) dX12_ring_151 rfl rfl ?_
                        refine A_getr (pc := 152) 0 fl_X12_7_12 hR.1 rfl hR.w0 dX12_ring_152 ?_
                        refine A_iload (pc := 155) (i := 5) dX12_ring_155 rfl ?_
                        refine A_iload (pc := 157) (i := 6) dX12_ring_157 rfl ?_
                        refine A_iload_n (pc := 159) (i := 2) dX12_ring_159 rfl rfl ?_
                        refine A_iload_n (pc := 160) (i := 3) dX12_ring_160 rfl rfl ?_
                        refine A_iload (pc := 161) (i := 4) dX12_ring_161 rfl ?_
                        refine A_bipush (pc := 163) (100) dX12_ring_163 (by decide) ?_
                        refine A_idiv (pc := 165) dX12_ring_165 (by decide) ?_
                        refine A_iload (pc := 166) (i := 4) dX12_ring_166 rfl ?_
                        refine A_bipush (pc := 168) (100) dX12_ring_168 (by decide) ?_
                        refine A_irem (pc := 170) dX12_ring_170 (by decide) ?_
                        refine A_callS1 (pc := 171) cs_X12_69 (r_adds l (31, 0, 0) hR.k0 n hn hn7 _ _ _ _ _ _) rfl rfl (Nat.le_of_ble_eq_true rfl) ⟨(Nat.le_of_ble_eq_true rfl), (Nat.le_of_ble_eq_true rfl)⟩ ⟨Nat.zero_le _, Nat.zero_le _⟩ dX12_ring_171 ?_
                        exact A_iretE (pc := 174) dX12_ring_174 rfl (Nat.zero_le _) (Nat.zero_le _) (by rw [d_ring, if_neg hb22, if_neg hb37, if_neg hb52, if_pos (Or.inr hb62), if_neg hb74, if_neg hb91, if_neg hb107, if_neg hb123, if_neg hb140]) (by rw [d_ring, if_neg hb22, if_neg hb37, if_neg hb52, if_pos (Or.inr hb62), if_neg hb74, if_neg hb91, if_neg hb107, if_neg hb123, if_neg hb140])
                      · refine A_aload_n (pc := 143) (i := 0) dX12_ring_143 rfl rfl ?_
                        refine A_iconst (pc := 144) (4) dX12_ring_144 (by decide) ?_
                        refine A_callV1 (pc := 145) cv_X12_65 (r_fnd4 l hR) hR.1 rfl rfl rfl rfl (Nat.le_of_ble_eq_true rfl) ⟨(Nat.le_of_ble_eq_true rfl), (Nat.le_of_ble_eq_true rfl)⟩ ⟨Nat.zero_le _, Nat.zero_le _⟩ dX12_ring_145 ?_
                        refine A_goto (pc := 148) 174 dX12_ring_148 (by decide) ?_
                        exact A_iretE (pc := 174) dX12_ring_174 rfl (Nat.zero_le _) (Nat.zero_le _) (by rw [d_ring, if_neg hb22, if_neg hb37, if_neg hb52, if_pos (Or.inr hb62), if_neg hb74, if_neg hb91, if_neg hb107, if_neg hb123, if_pos hb140]) (by rw [d_ring, if_neg hb22, if_neg hb37, if_neg hb52, if_pos (Or.inr hb62), if_neg hb74, if_neg hb91, if_neg hb107, if_neg hb123, if_pos hb140])
                    · refine A_aload_n (pc := 126) (i := 0) dX12_ring_126 rfl rfl ?_
                      refine A_iconst (pc := 127) (1) dX12_ring_127 (by decide) ?_
                      refine A_callV1 (pc := 128) cv_X12_65 (r_fnd1 l hR) hR.1 rfl rfl rfl rfl (Nat.le_of_ble_eq_true rfl) ⟨(Nat.le_of_ble_eq_true rfl), (Nat.le_of_ble_eq_true rfl)⟩ ⟨Nat.zero_le _, Nat.zero_le _⟩ dX12_ring_128 ?_
                      exact A_iretE (pc := 131) dX12_ring_131 rfl (Nat.zero_le _) (Nat.zero_le _) (by rw [d_ring, if_neg hb22, if_neg hb37, if_neg hb52, if_pos (Or.inr hb62), if_neg hb74, if_neg hb91, if_neg hb107, if_pos hb123]) (by rw [d_ring, if_neg hb22, if_neg hb37, if_neg hb52, if_pos (Or.inr hb62), if_neg hb74, if_neg hb91, if_neg hb107, if_pos hb123])
noncomputable def c_stroke (x y : Int32) (n z : Nat) (iv : am_iv) : Int32 × am_iv := if sr_b (1 ≤ x ∧ x ≤ 400) = 0 then (-1000000001, er_heap 1 iv) else if sr_b (1 ≤ y ∧ y ≤ 99) = 0 then (-1000000001, er_heap 1 iv) else if sr_b (8 ≤ iv (2, 0, 0) 1) = 0 then (nI n, as_heap 0 n z x y iv) else (-1000000004, er_heap 4 iv)
set_option maxRecDepth 20000 in
theorem p_stroke (l : Launch) {kd : am_kd} {rv : am_rv} {iv : am_iv} (hS : sh kd rv) (x y : Int32) (n : Nat) (hn : iv (2, 0, 0) 1 = nI n) (hn8 : n ≤ 8) (z : Nat) (hz : iv (9, 0, 0) 1 = nI z) (hz50 : z ≤ 50) : am_Met l mX11_stroke (am_rm 6 0 0) [am_P (1, 0, 0), am_I x, am_I y] kd rv iv (am_ret (some (am_I (c_stroke x y n z iv).1)) kd rv (c_stroke x y n z iv).2) := by
  refine am_Met.of (by decide) (Nat.le_of_ble_eq_true rfl) rfl ?_
  refine A_iload_n (pc := 0) (i := 1) dX11_stroke_0 rfl rfl ?_
  refine A_iconst (pc := 1) (1) dX11_stroke_1 (by decide) ?_
  refine A_sipush (pc := 2) (400) dX11_stroke_2 (by decide) ?_
  refine A_callS1 (pc := 5) cs_X11_56 (s_isHeld l _ _ _) rfl rfl (Nat.le_of_ble_eq_true rfl) ⟨(Nat.le_of_ble_eq_true rfl), (Nat.le_of_ble_eq_true rfl)⟩ ⟨Nat.zero_le _, Nat.zero_le _⟩ dX11_stroke_5 ?_
  refine A_ifeq (pc := 8) 21 dX11_stroke_8 (by decide) (fun hb8 => ?_) (fun hb8 => ?_)
  · refine A_aload_n (pc := 21) (i := 0) dX11_stroke_21 rfl rfl ?_
    refine A_ldc (pc := 22) (List.mem_cons_of_mem _ kc_X11_60) dX11_stroke_22 ?_
    refine A_callV1 (pc := 24) cv_X11_61 (s_err1 l hS) hS.k1 rfl rfl rfl rfl (Nat.le_of_ble_eq_true rfl) ⟨(Nat.le_of_ble_eq_true rfl), (Nat.le_of_ble_eq_true rfl)⟩ ⟨Nat.zero_le _, Nat.zero_le _⟩ dX11_stroke_24 ?_
    exact A_iretE (pc := 27) dX11_stroke_27 rfl (Nat.zero_le _) (Nat.zero_le _) (by rw [c_stroke, if_pos hb8]) (by rw [c_stroke, if_pos hb8])
  · refine A_iload_n (pc := 11) (i := 2) dX11_stroke_11 rfl rfl ?_
    refine A_iconst (pc := 12) (1) dX11_stroke_12 (by decide) ?_
    refine A_bipush (pc := 13) (99) dX11_stroke_13 (by decide) ?_
    refine A_callS1 (pc := 15) cs_X11_56 (s_isHeld l _ _ _) rfl rfl (Nat.le_of_ble_eq_true rfl) ⟨(Nat.le_of_ble_eq_true rfl), (Nat.le_of_ble_eq_true rfl)⟩ ⟨Nat.zero_le _, Nat.zero_le _⟩ dX11_stroke_15 ?_
    refine A_ifne (pc := 18) 28 dX11_stroke_18 (by decide) (fun hb18 => ?_) (fun hb18 => ?_)
    · refine A_aload_n (pc := 28) (i := 0) dX11_stroke_28 rfl rfl ?_
      refine A_getr (pc := 29) 0 fl_X11_12_11 hS.k1 rfl (hS.w1 (k := 0) (by decide)) dX11_stroke_29 ?_
      refine A_callV1 (pc := 32) cv_X11_65 (s_isFull l hS _ (by decide)) (hS.k2 (by decide)) rfl rfl rfl rfl (Nat.le_of_ble_eq_true rfl) ⟨(Nat.le_of_ble_eq_true rfl), (Nat.le_of_ble_eq_true rfl)⟩ ⟨Nat.zero_le _, Nat.zero_le _⟩ dX11_stroke_32 ?_
      refine A_ifeq (pc := 35) 45 dX11_stroke_35 (by decide) (fun hb35 => ?_) (fun hb35 => ?_)
      · have hn7 : n < 8 := by
          have q := (sr_b_0 _).mp hb35
          rw [hn] at q
          rcases Nat.lt_or_ge n 8 with z | z
          · exact z
          · exact absurd (nI_le (a := 8) z (by omega)) q
        refine A_aload_n (pc := 45) (i := 0) dX11_stroke_45 rfl rfl ?_
        refine A_getr (pc := 46) 0 fl_X11_12_11 hS.k1 rfl (hS.w1 (k := 0) (by decide)) dX11_stroke_46 ?_
        refine A_iload_n (pc := 49) (i := 1) dX11_stroke_49 rfl rfl ?_
        refine A_iload_n (pc := 50) (i := 2) dX11_stroke_50 rfl rfl ?_
        refine A_callV1 (pc := 51) cv_X11_164 (s_addStroke l hS 0 (by decide) n hn hn7 z hz hz50 _ _) (hS.k2 (by decide)) rfl rfl rfl rfl (Nat.le_of_ble_eq_true rfl) ⟨(Nat.le_of_ble_eq_true rfl), (Nat.le_of_ble_eq_true rfl)⟩ ⟨Nat.zero_le _, Nat.zero_le _⟩ dX11_stroke_51 ?_
        exact A_iretE (pc := 54) dX11_stroke_54 rfl (Nat.zero_le _) (Nat.zero_le _) (by rw [c_stroke, if_neg hb8, if_neg hb18, if_pos hb35]) (by rw [c_stroke, if_neg hb8, if_neg hb18, if_pos hb35])
      · refine A_aload_n (pc := 38) (i := 0) dX11_stroke_38 rfl rfl ?_
        refine A_ldc (pc := 39) (List.mem_cons_of_mem _ kc_X11_69) dX11_stroke_39 ?_
        refine A_callV1 (pc := 41) cv_X11_61 (s_err4 l hS) hS.k1 rfl rfl rfl rfl (Nat.le_of_ble_eq_true rfl) ⟨(Nat.le_of_ble_eq_true rfl), (Nat.le_of_ble_eq_true rfl)⟩ ⟨Nat.zero_le _, Nat.zero_le _⟩ dX11_stroke_41 ?_
        exact A_iretE (pc := 44) dX11_stroke_44 rfl (Nat.zero_le _) (Nat.zero_le _) (by rw [c_stroke, if_neg hb8, if_neg hb18, if_neg hb35]) (by rw [c_stroke, if_neg hb8, if_neg hb18, if_neg hb35])
    · refine A_aload_n (pc := 21) (i := 0) dX11_stroke_21 rfl rfl ?_
      refine A_ldc (pc := 22) (List.mem_cons_of_mem _ kc_X11_60) dX11_stroke_22 ?_
      refine A_callV1 (pc := 24) cv_X11_61 (s_err1 l hS) hS.k1 rfl rfl rfl rfl (Nat.le_of_ble_eq_true rfl) ⟨(Nat.le_of_ble_eq_true rfl), (Nat.le_of_ble_eq_true rfl)⟩ ⟨Nat.zero_le _, Nat.zero_le _⟩ dX11_stroke_24 ?_
      exact A_iretE (pc := 27) dX11_stroke_27 rfl (Nat.zero_le _) (Nat.zero_le _) (by rw [c_stroke, if_neg hb8, if_pos hb18]) (by rw [c_stroke, if_neg hb8, if_pos hb18])
noncomputable def d_stroke (x y : Int32) (n z : Nat) (iv : am_iv) : Int32 × am_iv := if sr_b (1 ≤ x ∧ x ≤ 400) = 0 then (-1000000001, rx_find 1 iv) else if sr_b (1 ≤ y ∧ y ≤ 99) = 0 then (-1000000001, rx_find 1 iv) else if iv (31, 0, 0) 1 = 8 then (-1000000004, rx_find 4 iv) else (nI n, rs_heap 0 n z x y iv)
set_option maxRecDepth 20000 in
theorem q_stroke (l : Launch) {kd : am_kd} {rv : am_rv} {iv : am_iv} (hR : shr kd rv) (x y : Int32) (n : Nat) (hn : iv (31, 0, 0) 1 = nI n) (hn8 : n ≤ 8) (z : Nat) (hz : iv (31, 0, 0) 40 = nI z) (hz50 : z ≤ 50) : am_Met l mX12_stroke (am_rm 42 0 0) [am_P (30, 0, 0), am_I x, am_I y] kd rv iv (am_ret (some (am_I (d_stroke x y n z iv).1)) kd rv (d_stroke x y n z iv).2) := by
  refine am_Met.of (by decide) (Nat.le_of_ble_eq_true rfl) rfl ?_
  refine A_iload_n (pc := 0) (i := 1) dX12_stroke_0 rfl rfl ?_
  refine A_i2l (pc := 1) dX12_stroke_1 ?_
  refine A_lconst (pc := 2) (1) dX12_stroke_2 (by decide) ?_
  refine A_topJ (y := Int32.toInt64 (1)) (by decide +kernel) ?_
  refine A_ldc2 (pc := 3) (List.mem_cons_of_mem _ kc_X12_201) dX12_stroke_3 ?_
  refine A_topJ (y := Int32.toInt64 (400)) (by decide +kernel) ?_
  refine A_callS1 (pc := 6) cs_X12_48 (r_in l _ _ _) rfl rfl (Nat.le_of_ble_eq_true rfl) ⟨(Nat.le_of_ble_eq_true rfl), (Nat.le_of_ble_eq_true rfl)⟩ ⟨Nat.zero_le _, Nat.zero_le _⟩ dX12_stroke_6 ?_
  refine A_ifeq (pc := 9) 24 dX12_stroke_9 (by decide) (fun hb9 => ?_) (fun hb9 => ?_)
  · refine A_aload_n (pc := 24) (i := 0) dX12_stroke_24 rfl rfl ?_
    refine A_iconst (pc := 25) (1) dX12_stroke_25 (by decide) ?_
    refine A_callV1 (pc := 26) cv_X12_65 (r_fnd1 l hR) hR.1 rfl rfl rfl rfl (Nat.le_of_ble_eq_true rfl) ⟨(Nat.le_of_ble_eq_true rfl), (Nat.le_of_ble_eq_true rfl)⟩ ⟨Nat.zero_le _, Nat.zero_le _⟩ dX12_stroke_26 ?_
    exact A_iretE (pc := 29) dX12_stroke_29 rfl (Nat.zero_le _) (Nat.zero_le _) (by rw [d_stroke, if_pos hb9]) (by rw [d_stroke, if_pos hb9])
  · refine A_iload_n (pc := 12) (i := 2) dX12_stroke_12 rfl rfl ?_
    refine A_i2l (pc := 13) dX12_stroke_13 ?_
    refine A_lconst (pc := 14) (1) dX12_stroke_14 (by decide) ?_
    refine A_topJ (y := Int32.toInt64 (1)) (by decide +kernel) ?_
    refine A_ldc2 (pc := 15) (List.mem_cons_of_mem _ kc_X12_89) dX12_stroke_15 ?_
    refine A_topJ (y := Int32.toInt64 (99)) (by decide +kernel) ?_
    refine A_callS1 (pc := 18) cs_X12_48 (r_in l _ _ _) rfl rfl (Nat.le_of_ble_eq_true rfl) ⟨(Nat.le_of_ble_eq_true rfl), (Nat.le_of_ble_eq_true rfl)⟩ ⟨Nat.zero_le _, Nat.zero_le _⟩ dX12_stroke_18 ?_
    refine A_ifne (pc := 21) 30 dX12_stroke_21 (by decide) (fun hb21 => ?_) (fun hb21 => ?_)
    · refine A_aload_n (pc := 30) (i := 0) dX12_stroke_30 rfl rfl ?_
      refine A_getr (pc := 31) 0 fl_X12_7_12 hR.1 rfl hR.w0 dX12_stroke_31 ?_
      refine A_iconst (pc := 34) (1) dX12_stroke_34 (by decide) ?_
      refine A_ialdN (pc := 35) hR.k0 (show 1 < 300 by decide) (by decide) dX12_stroke_35 ?_
      refine A_bipush (pc := 36) (8) dX12_stroke_36 (by decide) ?_
      refine A_icmpne (pc := 38) 49 dX12_stroke_38 (by decide) (fun hb38 => ?_) (fun hb38 => ?_)
      · have hn7 : n < 8 := by
          rcases Nat.lt_or_ge n 8 with z | z
          · exact z
          · exact absurd (by rw [hn, show n = 8 by omega]; rfl) hb38
        refine A_aload_n (pc := 49) (i := 0) dX12_stroke_49 rfl rfl ?_
        refine A_aload_n (pc := 50) (i := 0) dX12_stroke_50 rfl rfl ?_
        refine A_getr (pc := 51) 0 fl_X12_7_12 hR.1 rfl hR.w0 dX12_stroke_51 ?_
        refine A_iload_n (pc := 54) (i := 1) dX12_stroke_54 rfl rfl ?_
        refine A_iload_n (pc := 55) (i := 2) dX12_stroke_55 rfl rfl ?_
        refine A_callV1 (pc := 56) cv_X12_203 (r_strokes l hR 0 (by decide) hR.k0 n hn hn7 z hz hz50 _ _) hR.1 rfl rfl rfl rfl (Nat.le_of_ble_eq_true rfl) ⟨(Nat.le_of_ble_eq_true rfl), (Nat.le_of_ble_eq_true rfl)⟩ ⟨Nat.zero_le _, Nat.zero_le _⟩ dX12_stroke_56 ?_
        exact A_iretE (pc := 59) dX12_stroke_59 rfl (Nat.zero_le _) (Nat.zero_le _) (by rw [d_stroke, if_neg hb9, if_neg hb21, if_neg hb38]) (by rw [d_stroke, if_neg hb9, if_neg hb21, if_neg hb38])
      · refine A_aload_n (pc := 41) (i := 0) dX12_stroke_41 rfl rfl ?_
        refine A_iconst (pc := 42) (4) dX12_stroke_42 (by decide) ?_
        refine A_callV1 (pc := 43) cv_X12_65 (r_fnd4 l hR) hR.1 rfl rfl rfl rfl (Nat.le_of_ble_eq_true rfl) ⟨(Nat.le_of_ble_eq_true rfl), (Nat.le_of_ble_eq_true rfl)⟩ ⟨Nat.zero_le _, Nat.zero_le _⟩ dX12_stroke_43 ?_
        refine A_goto (pc := 46) 59 dX12_stroke_46 (by decide) ?_
        exact A_iretE (pc := 59) dX12_stroke_59 rfl (Nat.zero_le _) (Nat.zero_le _) (by rw [d_stroke, if_neg hb9, if_neg hb21, if_pos hb38]) (by rw [d_stroke, if_neg hb9, if_neg hb21, if_pos hb38])
    · refine A_aload_n (pc := 24) (i := 0) dX12_stroke_24 rfl rfl ?_
      refine A_iconst (pc := 25) (1) dX12_stroke_25 (by decide) ?_
      refine A_callV1 (pc := 26) cv_X12_65 (r_fnd1 l hR) hR.1 rfl rfl rfl rfl (Nat.le_of_ble_eq_true rfl) ⟨(Nat.le_of_ble_eq_true rfl), (Nat.le_of_ble_eq_true rfl)⟩ ⟨Nat.zero_le _, Nat.zero_le _⟩ dX12_stroke_26 ?_
      exact A_iretE (pc := 29) dX12_stroke_29 rfl (Nat.zero_le _) (Nat.zero_le _) (by rw [d_stroke, if_neg hb9, if_pos hb21]) (by rw [d_stroke, if_neg hb9, if_pos hb21])
noncomputable def c_gives (x a b c : Int32) (zf : Nat → Nat) (iv : am_iv) : Int32 × am_iv := if sr_b (0 ≤ x ∧ x ≤ 1) = 0 then (-1000000001, er_heap 1 iv) else (sr_held (gv_raw 0 x.toNatClampNeg (zf x.toNatClampNeg) a b c iv) 0 999, gv_heap 0 x.toNatClampNeg (zf x.toNatClampNeg) a b c iv)
set_option maxRecDepth 20000 in
theorem p_gives (l : Launch) {kd : am_kd} {rv : am_rv} {iv : am_iv} (hS : sh kd rv) (x a b c : Int32) (zf : Nat → Nat) (hz : ∀ u, u < 2 → iv (9, 0, u) 1 = nI (zf u) ∧ zf u ≤ 50) : am_Met l mX11_gives (am_rm 5 0 0) [am_P (1, 0, 0), am_I x, am_I a, am_I b, am_I c] kd rv iv (am_ret (some (am_I (c_gives x a b c zf iv).1)) kd rv (c_gives x a b c zf iv).2) := by
  refine am_Met.of (by decide) (Nat.le_of_ble_eq_true rfl) rfl ?_
  refine A_iload_n (pc := 0) (i := 1) dX11_gives_0 rfl rfl ?_
  refine A_iconst (pc := 1) (0) dX11_gives_1 (by decide) ?_
  refine A_iconst (pc := 2) (1) dX11_gives_2 (by decide) ?_
  refine A_callS1 (pc := 3) cs_X11_56 (s_isHeld l _ _ _) rfl rfl (Nat.le_of_ble_eq_true rfl) ⟨(Nat.le_of_ble_eq_true rfl), (Nat.le_of_ble_eq_true rfl)⟩ ⟨Nat.zero_le _, Nat.zero_le _⟩ dX11_gives_3 ?_
  refine A_ifeq (pc := 6) 24 dX11_gives_6 (by decide) (fun hb6 => ?_) (fun hb6 => ?_)
  · refine A_aload_n (pc := 24) (i := 0) dX11_gives_24 rfl rfl ?_
    refine A_ldc (pc := 25) (List.mem_cons_of_mem _ kc_X11_60) dX11_gives_25 ?_
    refine A_callV1 (pc := 27) cv_X11_61 (s_err1 l hS) hS.k1 rfl rfl rfl rfl (Nat.le_of_ble_eq_true rfl) ⟨(Nat.le_of_ble_eq_true rfl), (Nat.le_of_ble_eq_true rfl)⟩ ⟨Nat.zero_le _, Nat.zero_le _⟩ dX11_gives_27 ?_
    exact A_iretE (pc := 30) dX11_gives_30 rfl (Nat.zero_le _) (Nat.zero_le _) (by rw [c_gives, if_pos hb6]) (by rw [c_gives, if_pos hb6])
  · have hx := (sr_b_1 _).mp hb6
    have hx2 : x.toNatClampNeg < 2 := Nat.lt_of_le_of_lt (nI_cl_le (n := 1) hx.1 hx.2 (by decide)) (by decide)
    refine A_aload_n (pc := 9) (i := 0) dX11_gives_9 rfl rfl ?_
    refine A_getr (pc := 10) 0 fl_X11_12_11 hS.k1 rfl (hS.w1 (k := 0) (by decide)) dX11_gives_10 ?_
    refine A_iload_n (pc := 13) (i := 1) dX11_gives_13 rfl rfl ?_
    refine A_top (nI_cl hx.1) ?_
    refine A_iload_n (pc := 14) (i := 2) dX11_gives_14 rfl rfl ?_
    refine A_iload_n (pc := 15) (i := 3) dX11_gives_15 rfl rfl ?_
    refine A_iload (pc := 16) (i := 4) dX11_gives_16 rfl ?_
    refine A_callV1 (pc := 18) cv_X11_198 (s_given l hS 0 (by decide) x.toNatClampNeg hx2 _ (hz _ hx2).1 (hz _ hx2).2 _ _ _) (hS.k2 (by decide)) rfl rfl rfl rfl (Nat.le_of_ble_eq_true rfl) ⟨(Nat.le_of_ble_eq_true rfl), (Nat.le_of_ble_eq_true rfl)⟩ ⟨Nat.zero_le _, Nat.zero_le _⟩ dX11_gives_18 ?_
    refine A_goto (pc := 21) 30 dX11_gives_21 (by decide) ?_
    exact A_iretE (pc := 30) dX11_gives_30 rfl (Nat.zero_le _) (Nat.zero_le _) (by rw [c_gives, if_neg hb6]) (by rw [c_gives, if_neg hb6])
noncomputable def d_gives (x a b c : Int32) (zf : Nat → Nat) (iv : am_iv) : Int32 × am_iv := if sr_b (0 ≤ x ∧ x ≤ 1) = 0 then (-1000000001, rx_find 1 iv) else (sr_held (gr_raw x.toNatClampNeg (zf x.toNatClampNeg) a b c iv) 0 999, gr_heap x.toNatClampNeg (zf x.toNatClampNeg) a b c iv)
set_option maxRecDepth 20000 in
theorem q_gives (l : Launch) {kd : am_kd} {rv : am_rv} {iv : am_iv} (hR : shr kd rv) (x a b c : Int32) (zf : Nat → Nat) (hz : ∀ u, u < 2 → iv (31, 0, 0) (40 + u) = nI (zf u) ∧ zf u ≤ 50) : am_Met l mX12_gives (am_rm 41 0 0) [am_P (30, 0, 0), am_I x, am_I a, am_I b, am_I c] kd rv iv (am_ret (some (am_I (d_gives x a b c zf iv).1)) kd rv (d_gives x a b c zf iv).2) := by
  refine am_Met.of (by decide) (Nat.le_of_ble_eq_true rfl) rfl ?_
  refine A_iload_n (pc := 0) (i := 1) dX12_gives_0 rfl rfl ?_
  refine A_i2l (pc := 1) dX12_gives_1 ?_
  refine A_lconst (pc := 2) (0) dX12_gives_2 (by decide) ?_
  refine A_topJ (y := Int32.toInt64 (0)) (by decide +kernel) ?_
  refine A_lconst (pc := 3) (1) dX12_gives_3 (by decide) ?_
  refine A_topJ (y := Int32.toInt64 (1)) (by decide +kernel) ?_
  refine A_callS1 (pc := 4) cs_X12_48 (r_in l _ _ _) rfl rfl (Nat.le_of_ble_eq_true rfl) ⟨(Nat.le_of_ble_eq_true rfl), (Nat.le_of_ble_eq_true rfl)⟩ ⟨Nat.zero_le _, Nat.zero_le _⟩ dX12_gives_4 ?_
  refine A_ifeq (pc := 7) 22 dX12_gives_7 (by decide) (fun hb7 => ?_) (fun hb7 => ?_)
  · refine A_aload_n (pc := 22) (i := 0) dX12_gives_22 rfl rfl ?_
    refine A_iconst (pc := 23) (1) dX12_gives_23 (by decide) ?_
    refine A_callV1 (pc := 24) cv_X12_65 (r_fnd1 l hR) hR.1 rfl rfl rfl rfl (Nat.le_of_ble_eq_true rfl) ⟨(Nat.le_of_ble_eq_true rfl), (Nat.le_of_ble_eq_true rfl)⟩ ⟨Nat.zero_le _, Nat.zero_le _⟩ dX12_gives_24 ?_
    exact A_iretE (pc := 27) dX12_gives_27 rfl (Nat.zero_le _) (Nat.zero_le _) (by rw [d_gives, if_pos hb7]) (by rw [d_gives, if_pos hb7])
  · have hx := (sr_b_1 _).mp hb7
    have hx2 : x.toNatClampNeg < 2 := Nat.lt_of_le_of_lt (nI_cl_le (n := 1) hx.1 hx.2 (by decide)) (by decide)
    refine A_aload_n (pc := 10) (i := 0) dX12_gives_10 rfl rfl ?_
    refine A_iload_n (pc := 11) (i := 1) dX12_gives_11 rfl rfl ?_
    refine A_top (nI_cl hx.1) ?_
    refine A_iload_n (pc := 12) (i := 2) dX12_gives_12 rfl rfl ?_
    refine A_iload_n (pc := 13) (i := 3) dX12_gives_13 rfl rfl ?_
    refine A_iload (pc := 14) (i := 4) dX12_gives_14 rfl ?_
    refine A_callV1 (pc := 16) cv_X12_197 (r_givesOf l hR x.toNatClampNeg hx2 _ (hz _ hx2).1 (hz _ hx2).2 _ _ _) hR.1 rfl rfl rfl rfl (Nat.le_of_ble_eq_true rfl) ⟨(Nat.le_of_ble_eq_true rfl), (Nat.le_of_ble_eq_true rfl)⟩ ⟨Nat.zero_le _, Nat.zero_le _⟩ dX12_gives_16 ?_
    refine A_goto (pc := 19) 27 dX12_gives_19 (by decide) ?_
    exact A_iretE (pc := 27) dX12_gives_27 rfl (Nat.zero_le _) (Nat.zero_le _) (by rw [d_gives, if_neg hb7]) (by rw [d_gives, if_neg hb7])
noncomputable def c_front (n : Nat) (iv : am_iv) : Int32 × am_iv := if 0 ≤ rm_front (fun r => iv (4, 0, r)) n then (rm_front (fun r => iv (4, 0, r)) n, iv) else (-1000000002, er_heap 2 iv)
set_option maxRecDepth 20000 in
theorem p_front (l : Launch) {kd : am_kd} {rv : am_rv} {iv : am_iv} (hS : sh kd rv) (n : Nat) (hn : iv (2, 0, 0) 1 = nI n) (hn8 : n ≤ 8) : am_Met l mX11_front (am_rm 2 0 0) [am_P (1, 0, 0)] kd rv iv (am_ret (some (am_I (c_front n iv).1)) kd rv (c_front n iv).2) := by
  refine am_Met.of (by decide) (Nat.le_of_ble_eq_true rfl) rfl ?_
  refine A_aload_n (pc := 0) (i := 0) dX11_front_0 rfl rfl ?_
  refine A_getr (pc := 1) 0 fl_X11_12_11 hS.k1 rfl (hS.w1 (k := 0) (by decide)) dX11_front_1 ?_
  refine A_callV1 (pc := 4) cv_X11_206 (s_foremost l hS 0 (by decide) n hn hn8) (hS.k2 (by decide)) rfl rfl rfl rfl (Nat.le_of_ble_eq_true rfl) ⟨(Nat.le_of_ble_eq_true rfl), (Nat.le_of_ble_eq_true rfl)⟩ ⟨Nat.zero_le _, Nat.zero_le _⟩ dX11_front_4 ?_
  refine A_ist1 (pc := 7) dX11_front_7 (Nat.le_of_ble_eq_true rfl) rfl ?_
  refine A_iload_n (pc := 8) (i := 1) dX11_front_8 rfl rfl ?_
  refine A_ifge (pc := 9) 21 dX11_front_9 (by decide) (fun hb9 => ?_) (fun hb9 => ?_)
  · refine A_iload_n (pc := 21) (i := 1) dX11_front_21 rfl rfl ?_
    exact A_iretE (pc := 22) dX11_front_22 rfl (Nat.zero_le _) (Nat.zero_le _) (by rw [c_front, if_pos hb9]) (by rw [c_front, if_pos hb9])
  · refine A_aload_n (pc := 12) (i := 0) dX11_front_12 rfl rfl ?_
    refine A_ldc (pc := 13) (List.mem_cons_of_mem _ kc_X11_210) dX11_front_13 ?_
    refine A_callV1 (pc := 15) cv_X11_61 (s_err2 l hS) hS.k1 rfl rfl rfl rfl (Nat.le_of_ble_eq_true rfl) ⟨(Nat.le_of_ble_eq_true rfl), (Nat.le_of_ble_eq_true rfl)⟩ ⟨Nat.zero_le _, Nat.zero_le _⟩ dX11_front_15 ?_
    refine A_goto (pc := 18) 22 dX11_front_18 (by decide) ?_
    exact A_iretE (pc := 22) dX11_front_22 rfl (Nat.zero_le _) (Nat.zero_le _) (by rw [c_front, if_neg hb9]) (by rw [c_front, if_neg hb9])
noncomputable def d_front (n : Nat) (iv : am_iv) : Int32 × am_iv := if 0 ≤ rm_front (fun r => rf iv (31, 0, 0) r) n then (rm_front (fun r => rf iv (31, 0, 0) r) n, iv) else (-1000000002, rx_find 2 iv)
set_option maxRecDepth 20000 in
theorem q_front (l : Launch) {kd : am_kd} {rv : am_rv} {iv : am_iv} (hR : shr kd rv) (n : Nat) (hn : iv (31, 0, 0) 1 = nI n) (hn8 : n ≤ 8) (hok : ∀ r, r < n → rok (rf iv (31, 0, 0) r)) : am_Met l mX12_front (am_rm 3 0 0) [am_P (30, 0, 0)] kd rv iv (am_ret (some (am_I (d_front n iv).1)) kd rv (d_front n iv).2) := by
  refine am_Met.of (by decide) (Nat.le_of_ble_eq_true rfl) rfl ?_
  refine A_aload_n (pc := 0) (i := 0) dX12_front_0 rfl rfl ?_
  refine A_getr (pc := 1) 0 fl_X12_7_12 hR.1 rfl hR.w0 dX12_front_1 ?_
  refine A_callS1 (pc := 4) cs_X12_234 (r_frontOf l (31, 0, 0) hR.k0 n hn hn8 (fun r hr => (hok r hr).2.2.2.2.2.2)) rfl rfl (Nat.le_of_ble_eq_true rfl) ⟨(Nat.le_of_ble_eq_true rfl), (Nat.le_of_ble_eq_true rfl)⟩ ⟨Nat.zero_le _, Nat.zero_le _⟩ dX12_front_4 ?_
  refine A_ist1 (pc := 7) dX12_front_7 (Nat.le_of_ble_eq_true rfl) rfl ?_
  refine A_iload_n (pc := 8) (i := 1) dX12_front_8 rfl rfl ?_
  refine A_ifge (pc := 9) 20 dX12_front_9 (by decide) (fun hb9 => ?_) (fun hb9 => ?_)
  · refine A_iload_n (pc := 20) (i := 1) dX12_front_20 rfl rfl ?_
    exact A_iretE (pc := 21) dX12_front_21 rfl (Nat.zero_le _) (Nat.zero_le _) (by rw [d_front, if_pos hb9]) (by rw [d_front, if_pos hb9])
  · refine A_aload_n (pc := 12) (i := 0) dX12_front_12 rfl rfl ?_
    refine A_iconst (pc := 13) (2) dX12_front_13 (by decide) ?_
    refine A_callV1 (pc := 14) cv_X12_65 (r_fnd2 l hR) hR.1 rfl rfl rfl rfl (Nat.le_of_ble_eq_true rfl) ⟨(Nat.le_of_ble_eq_true rfl), (Nat.le_of_ble_eq_true rfl)⟩ ⟨Nat.zero_le _, Nat.zero_le _⟩ dX12_front_14 ?_
    refine A_goto (pc := 17) 21 dX12_front_17 (by decide) ?_
    exact A_iretE (pc := 21) dX12_front_21 rfl (Nat.zero_le _) (Nat.zero_le _) (by rw [d_front, if_neg hb9]) (by rw [d_front, if_neg hb9])
noncomputable def c_ofRing (x y : Int32) (iv : am_iv) : Int32 × am_iv := if sr_b (0 ≤ x ∧ x < iv (2, 0, 0) 1) = 0 then (-1000000001, er_heap 1 iv) else if sr_b (0 ≤ y ∧ y ≤ 7) = 0 then (-1000000001, er_heap 1 iv) else (rg_trait (iv (4, 0, x.toNatClampNeg)) y, iv)
set_option maxRecDepth 20000 in
theorem p_ofRing (l : Launch) {kd : am_kd} {rv : am_rv} {iv : am_iv} (hS : sh kd rv) (x y : Int32) (n : Nat) (hn : iv (2, 0, 0) 1 = nI n) (hn8 : n ≤ 8) : am_Met l mX11_ofRing (am_rm 4 0 0) [am_P (1, 0, 0), am_I x, am_I y] kd rv iv (am_ret (some (am_I (c_ofRing x y iv).1)) kd rv (c_ofRing x y iv).2) := by
  refine am_Met.of (by decide) (Nat.le_of_ble_eq_true rfl) rfl ?_
  refine A_aload_n (pc := 0) (i := 0) dX11_ofRing_0 rfl rfl ?_
  refine A_getr (pc := 1) 0 fl_X11_12_11 hS.k1 rfl (hS.w1 (k := 0) (by decide)) dX11_ofRing_1 ?_
  refine A_iload_n (pc := 4) (i := 1) dX11_ofRing_4 rfl rfl ?_
  refine A_callV1 (pc := 5) cv_X11_74 (s_hasRing l hS _ (by decide) _) (hS.k2 (by decide)) rfl rfl rfl rfl (Nat.le_of_ble_eq_true rfl) ⟨(Nat.le_of_ble_eq_true rfl), (Nat.le_of_ble_eq_true rfl)⟩ ⟨Nat.zero_le _, Nat.zero_le _⟩ dX11_ofRing_5 ?_
  refine A_ifeq (pc := 8) 21 dX11_ofRing_8 (by decide) (fun hb8 => ?_) (fun hb8 => ?_)
  · refine A_aload_n (pc := 21) (i := 0) dX11_ofRing_21 rfl rfl ?_
    refine A_ldc (pc := 22) (List.mem_cons_of_mem _ kc_X11_60) dX11_ofRing_22 ?_
    refine A_callV1 (pc := 24) cv_X11_61 (s_err1 l hS) hS.k1 rfl rfl rfl rfl (Nat.le_of_ble_eq_true rfl) ⟨(Nat.le_of_ble_eq_true rfl), (Nat.le_of_ble_eq_true rfl)⟩ ⟨Nat.zero_le _, Nat.zero_le _⟩ dX11_ofRing_24 ?_
    exact A_iretE (pc := 27) dX11_ofRing_27 rfl (Nat.zero_le _) (Nat.zero_le _) (by rw [c_ofRing, if_pos hb8]) (by rw [c_ofRing, if_pos hb8])
  · refine A_iload_n (pc := 11) (i := 2) dX11_ofRing_11 rfl rfl ?_
    refine A_iconst (pc := 12) (0) dX11_ofRing_12 (by decide) ?_
    refine A_bipush (pc := 13) (7) dX11_ofRing_13 (by decide) ?_
    refine A_callS1 (pc := 15) cs_X11_56 (s_isHeld l _ _ _) rfl rfl (Nat.le_of_ble_eq_true rfl) ⟨(Nat.le_of_ble_eq_true rfl), (Nat.le_of_ble_eq_true rfl)⟩ ⟨Nat.zero_le _, Nat.zero_le _⟩ dX11_ofRing_15 ?_
    refine A_ifne (pc := 18) 28 dX11_ofRing_18 (by decide) (fun hb18 => ?_) (fun hb18 => ?_)
    · have hx := (sr_b_1 _).mp hb8
      have hxn : x.toNatClampNeg < n := nI_cl_lt hx.1 (hn ▸ hx.2) (by omega)
      have hx8 : x.toNatClampNeg < 8 := by omega
      refine A_aload_n (pc := 28) (i := 0) dX11_ofRing_28 rfl rfl ?_
      refine A_getr (pc := 29) 0 fl_X11_12_11 hS.k1 rfl (hS.w1 (k := 0) (by decide)) dX11_ofRing_29 ?_
      refine A_getr (pc := 32) 0 fl_X11_78_4 (hS.k2 (by decide)) rfl (hS.w2_0 (by decide)) dX11_ofRing_32 ?_
      refine A_iload_n (pc := 35) (i := 1) dX11_ofRing_35 rfl rfl ?_
      refine A_top (nI_cl hx.1) ?_
      refine A_aaldN (pc := 36) (hS.k3 (by decide)) (by decide) (by decide) hx8 (by decide) (hS.w3 (by decide) hx8) dX11_ofRing_36 ?_
      refine A_iload_n (pc := 37) (i := 2) dX11_ofRing_37 rfl rfl ?_
      refine A_callV1 (pc := 38) cv_X11_82 (s_trait l _ (hS.k4 (by decide) hx8) _) (hS.k4 (by decide) hx8) rfl rfl rfl rfl (Nat.le_of_ble_eq_true rfl) ⟨(Nat.le_of_ble_eq_true rfl), (Nat.le_of_ble_eq_true rfl)⟩ ⟨Nat.zero_le _, Nat.zero_le _⟩ dX11_ofRing_38 ?_
      exact A_iretE (pc := 41) dX11_ofRing_41 rfl (Nat.zero_le _) (Nat.zero_le _) (by rw [c_ofRing, if_neg hb8, if_neg hb18]) (by rw [c_ofRing, if_neg hb8, if_neg hb18])
    · refine A_aload_n (pc := 21) (i := 0) dX11_ofRing_21 rfl rfl ?_
      refine A_ldc (pc := 22) (List.mem_cons_of_mem _ kc_X11_60) dX11_ofRing_22 ?_
      refine A_callV1 (pc := 24) cv_X11_61 (s_err1 l hS) hS.k1 rfl rfl rfl rfl (Nat.le_of_ble_eq_true rfl) ⟨(Nat.le_of_ble_eq_true rfl), (Nat.le_of_ble_eq_true rfl)⟩ ⟨Nat.zero_le _, Nat.zero_le _⟩ dX11_ofRing_24 ?_
      exact A_iretE (pc := 27) dX11_ofRing_27 rfl (Nat.zero_le _) (Nat.zero_le _) (by rw [c_ofRing, if_neg hb8, if_pos hb18]) (by rw [c_ofRing, if_neg hb8, if_pos hb18])
noncomputable def d_ofRing (x y : Int32) (iv : am_iv) : Int32 × am_iv := if sr_b (0 ≤ x ∧ x ≤ iv (31, 0, 0) 1 - 1) = 0 then (-1000000001, rx_find 1 iv) else if sr_b (0 ≤ y ∧ y ≤ 7) = 0 then (-1000000001, rx_find 1 iv) else if y = 7 then (rg_pace (rf iv (31, 0, 0) x.toNatClampNeg), iv) else (rf iv (31, 0, 0) x.toNatClampNeg (y.toNatClampNeg + 1), iv)
set_option maxRecDepth 20000 in
theorem q_ofRing (l : Launch) {kd : am_kd} {rv : am_rv} {iv : am_iv} (hR : shr kd rv) (x y : Int32) (n : Nat) (hn : iv (31, 0, 0) 1 = nI n) (hn8 : n ≤ 8) (hok : ∀ r, r < n → rok (rf iv (31, 0, 0) r)) : am_Met l mX12_ofRing (am_rm 3 0 0) [am_P (30, 0, 0), am_I x, am_I y] kd rv iv (am_ret (some (am_I (d_ofRing x y iv).1)) kd rv (d_ofRing x y iv).2) := by
  refine am_Met.of (by decide) (Nat.le_of_ble_eq_true rfl) rfl ?_
  refine A_aload_n (pc := 0) (i := 0) dX12_ofRing_0 rfl rfl ?_
  refine A_iload_n (pc := 1) (i := 1) dX12_ofRing_1 rfl rfl ?_
  refine A_callV1 (pc := 2) cv_X12_77 (r_isRing l hR _) hR.1 rfl rfl rfl rfl (Nat.le_of_ble_eq_true rfl) ⟨(Nat.le_of_ble_eq_true rfl), (Nat.le_of_ble_eq_true rfl)⟩ ⟨Nat.zero_le _, Nat.zero_le _⟩ dX12_ofRing_2 ?_
  refine A_ifeq (pc := 5) 20 dX12_ofRing_5 (by decide) (fun hb5 => ?_) (fun hb5 => ?_)
  · refine A_aload_n (pc := 20) (i := 0) dX12_ofRing_20 rfl rfl ?_
    refine A_iconst (pc := 21) (1) dX12_ofRing_21 (by decide) ?_
    refine A_callV1 (pc := 22) cv_X12_65 (r_fnd1 l hR) hR.1 rfl rfl rfl rfl (Nat.le_of_ble_eq_true rfl) ⟨(Nat.le_of_ble_eq_true rfl), (Nat.le_of_ble_eq_true rfl)⟩ ⟨Nat.zero_le _, Nat.zero_le _⟩ dX12_ofRing_22 ?_
    exact A_iretE (pc := 25) dX12_ofRing_25 rfl (Nat.zero_le _) (Nat.zero_le _) (by rw [d_ofRing, if_pos hb5]) (by rw [d_ofRing, if_pos hb5])
  · refine A_iload_n (pc := 8) (i := 2) dX12_ofRing_8 rfl rfl ?_
    refine A_i2l (pc := 9) dX12_ofRing_9 ?_
    refine A_lconst (pc := 10) (0) dX12_ofRing_10 (by decide) ?_
    refine A_topJ (y := Int32.toInt64 (0)) (by decide +kernel) ?_
    refine A_ldc2 (pc := 11) (List.mem_cons_of_mem _ kc_X12_81) dX12_ofRing_11 ?_
    refine A_topJ (y := Int32.toInt64 (7)) (by decide +kernel) ?_
    refine A_callS1 (pc := 14) cs_X12_48 (r_in l _ _ _) rfl rfl (Nat.le_of_ble_eq_true rfl) ⟨(Nat.le_of_ble_eq_true rfl), (Nat.le_of_ble_eq_true rfl)⟩ ⟨Nat.zero_le _, Nat.zero_le _⟩ dX12_ofRing_14 ?_
    refine A_ifne (pc := 17) 26 dX12_ofRing_17 (by decide) (fun hb17 => ?_) (fun hb17 => ?_)
    · have hx := (sr_b_1 _).mp hb5
      have hxn : x.toNatClampNeg < n := nI_m1n hn8 hx.1 (hn ▸ hx.2)
      have hx8 : x.toNatClampNeg < 8 := by omega
      have hy := (sr_b_1 _).mp hb17
      have hy8 : y.toNatClampNeg < 8 := Nat.lt_of_le_of_lt (nI_cl_le (n := 7) hy.1 hy.2 (by decide)) (by decide)
      refine A_iload_n (pc := 26) (i := 2) dX12_ofRing_26 rfl rfl ?_
      refine A_bipush (pc := 27) (7) dX12_ofRing_27 (by decide) ?_
      refine A_icmpne (pc := 29) 43 dX12_ofRing_29 (by decide) (fun hb29 => ?_) (fun hb29 => ?_)
      · refine A_aload_n (pc := 43) (i := 0) dX12_ofRing_43 rfl rfl ?_
        refine A_getr (pc := 44) 0 fl_X12_7_12 hR.1 rfl hR.w0 dX12_ofRing_44 ?_
        refine A_iload_n (pc := 47) (i := 1) dX12_ofRing_47 rfl rfl ?_
        refine A_top (nI_cl hx.1) ?_
        refine A_iload_n (pc := 48) (i := 2) dX12_ofRing_48 rfl rfl ?_
        refine A_top (nI_cl hy.1) ?_
        refine A_callS1 (pc := 49) cs_X12_73 (r_of l (31, 0, 0) hR.k0 x.toNatClampNeg hx8 y.toNatClampNeg _ rfl hy8) rfl rfl (Nat.le_of_ble_eq_true rfl) ⟨(Nat.le_of_ble_eq_true rfl), (Nat.le_of_ble_eq_true rfl)⟩ ⟨Nat.zero_le _, Nat.zero_le _⟩ dX12_ofRing_49 ?_
        exact A_iretE (pc := 52) dX12_ofRing_52 rfl (Nat.zero_le _) (Nat.zero_le _) (by rw [d_ofRing, if_neg hb5, if_neg hb17, if_neg hb29]) (by rw [d_ofRing, if_neg hb5, if_neg hb17, if_neg hb29])
      · refine A_aload_n (pc := 32) (i := 0) dX12_ofRing_32 rfl rfl ?_
        refine A_getr (pc := 33) 0 fl_X12_7_12 hR.1 rfl hR.w0 dX12_ofRing_33 ?_
        refine A_iload_n (pc := 36) (i := 1) dX12_ofRing_36 rfl rfl ?_
        refine A_top (nI_cl hx.1) ?_
        refine A_callS1 (pc := 37) cs_X12_83 (r_pace l (31, 0, 0) hR.k0 x.toNatClampNeg hx8 (hok _ hxn)) rfl rfl (Nat.le_of_ble_eq_true rfl) ⟨(Nat.le_of_ble_eq_true rfl), (Nat.le_of_ble_eq_true rfl)⟩ ⟨Nat.zero_le _, Nat.zero_le _⟩ dX12_ofRing_37 ?_
        refine A_goto (pc := 40) 52 dX12_ofRing_40 (by decide) ?_
        exact A_iretE (pc := 52) dX12_ofRing_52 rfl (Nat.zero_le _) (Nat.zero_le _) (by rw [d_ofRing, if_neg hb5, if_neg hb17, if_pos hb29]) (by rw [d_ofRing, if_neg hb5, if_neg hb17, if_pos hb29])
    · refine A_aload_n (pc := 20) (i := 0) dX12_ofRing_20 rfl rfl ?_
      refine A_iconst (pc := 21) (1) dX12_ofRing_21 (by decide) ?_
      refine A_callV1 (pc := 22) cv_X12_65 (r_fnd1 l hR) hR.1 rfl rfl rfl rfl (Nat.le_of_ble_eq_true rfl) ⟨(Nat.le_of_ble_eq_true rfl), (Nat.le_of_ble_eq_true rfl)⟩ ⟨Nat.zero_le _, Nat.zero_le _⟩ dX12_ofRing_22 ?_
      exact A_iretE (pc := 25) dX12_ofRing_25 rfl (Nat.zero_le _) (Nat.zero_le _) (by rw [d_ofRing, if_neg hb5, if_pos hb17]) (by rw [d_ofRing, if_neg hb5, if_pos hb17])
