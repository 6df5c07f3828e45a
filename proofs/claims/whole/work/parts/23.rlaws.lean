theorem nI_lit {a c : Nat} (ha : a < 2 ^ 31) (hc : c < 2 ^ 31) : nI a = nI c ↔ a = c := by
  rw [fa_eq, nI_toInt ha, nI_toInt hc]
  omega
theorem nI_k (c : Nat) (hc : c < 2 ^ 31) {K : Nat} (hK : K < 7) : nI K = nI c ↔ K = c := nI_lit (by omega) hc
theorem rok_gap {f g : Nat → Int32} (oa : rok f) (ob : rok g) : ¬ rg_gap f g + 10 = 0 := by
  have h1 := oa.1
  have h2 := ob.1
  have e1 := ix_sub (a := g 1) (b := f 1) (by omega) (by omega)
  have e2 := ix_sub (a := f 1) (b := g 1) (by omega) (by omega)
  have t10 : (10 : Int32).toInt = 10 := by decide
  have z0 : (0 : Int32).toInt = 0 := by decide
  unfold rg_gap
  split
  · rename_i h
    rw [fa_lt] at h
    rw [fa_eq, ix_add (by omega) (by omega), z0]
    omega
  · rename_i h
    rw [fa_lt] at h
    rw [fa_eq, ix_add (by omega) (by omega), z0]
    omega
set_option maxRecDepth 20000 in
theorem r_widens (l : Launch) {kd : am_kd} {rv : am_rv} {iv : am_iv} (m : am_N) (hm : kd m = some (.inr (0, 300))) (k : Nat) (hk : k < 6) (K : Nat) (hK : K < 7) (eK : iv m (20 + 2 * k) = nI K) (a : Nat) (ha : a < 8) (b : Nat) (hb : b < 8) (oa : rok (rf iv m a)) (ob : rok (rf iv m b)) : am_Met l mX12_widens (am_rm 2 0 0) [am_P m, am_I (nI k), am_I (nI a), am_I (nI b)] kd rv iv (am_ret (some (am_I (lw_widens K (iv m (21 + 2 * k)) (rf iv m a) (rf iv m b)))) kd rv iv) := by
  refine am_Met.of (by decide) (Nat.le_of_ble_eq_true rfl) rfl ?_
  have k1 : nI K = (1 : Int32) ↔ K = 1 := nI_k 1 (by decide) hK
  have k2 : nI K = (2 : Int32) ↔ K = 2 := nI_k 2 (by decide) hK
  have k3 : nI K = (3 : Int32) ↔ K = 3 := nI_k 3 (by decide) hK
  have k4 : nI K = (4 : Int32) ↔ K = 4 := nI_k 4 (by decide) hK
  have k5 : nI K = (5 : Int32) ↔ K = 5 := nI_k 5 (by decide) hK
  have k6 : nI K = (6 : Int32) ↔ K = 6 := nI_k 6 (by decide) hK
  refine A_aload_n (pc := 0) (i := 0) dX12_widens_0 rfl rfl ?_
  refine A_bipush (pc := 1) (20) dX12_widens_1 (by decide) ?_
  refine A_iconst (pc := 3) (2) dX12_widens_3 (by decide) ?_
  refine A_iload_n (pc := 4) (i := 1) dX12_widens_4 rfl rfl ?_
  refine A_imul (pc := 5) dX12_widens_5 ?_
  refine A_iadd (pc := 6) dX12_widens_6 ?_
  refine A_top (rx_law k) ?_
  refine A_ialdN (pc := 7) hm (by omega) (by decide) dX12_widens_7 ?_
  refine A_top eK ?_
  refine A_ist4 (pc := 8) dX12_widens_8 (Nat.le_of_ble_eq_true rfl) rfl ?_
  refine A_aload_n (pc := 10) (i := 0) dX12_widens_10 rfl rfl ?_
  refine A_iload_n (pc := 11) (i := 2) dX12_widens_11 rfl rfl ?_
  refine A_iconst (pc := 12) (2) dX12_widens_12 (by decide) ?_
  refine A_callS1 (pc := 13) cs_X12_73 (r_of l m hm a ha 2 3 rfl (by decide)) rfl rfl (Nat.le_of_ble_eq_true rfl) ⟨(Nat.le_of_ble_eq_true rfl), (Nat.le_of_ble_eq_true rfl)⟩ ⟨Nat.zero_le _, Nat.zero_le _⟩ dX12_widens_13 ?_
  refine A_aload_n (pc := 16) (i := 0) dX12_widens_16 rfl rfl ?_
  refine A_iload_n (pc := 17) (i := 3) dX12_widens_17 rfl rfl ?_
  refine A_iconst (pc := 18) (2) dX12_widens_18 (by decide) ?_
  refine A_callS1 (pc := 19) cs_X12_73 (r_of l m hm b hb 2 3 rfl (by decide)) rfl rfl (Nat.le_of_ble_eq_true rfl) ⟨(Nat.le_of_ble_eq_true rfl), (Nat.le_of_ble_eq_true rfl)⟩ ⟨Nat.zero_le _, Nat.zero_le _⟩ dX12_widens_19 ?_
  refine A_icmpne (pc := 22) 29 dX12_widens_22 (by decide) (fun hb22 => ?_) (fun hb22 => ?_)
  · refine A_iconst (pc := 29) (0) dX12_widens_29 (by decide) ?_
    refine A_ist5 (pc := 30) dX12_widens_30 (Nat.le_of_ble_eq_true rfl) rfl ?_
    refine A_aload_n (pc := 32) (i := 0) dX12_widens_32 rfl rfl ?_
    refine A_bipush (pc := 33) (20) dX12_widens_33 (by decide) ?_
    refine A_iconst (pc := 35) (2) dX12_widens_35 (by decide) ?_
    refine A_iload_n (pc := 36) (i := 1) dX12_widens_36 rfl rfl ?_
    refine A_imul (pc := 37) dX12_widens_37 ?_
    refine A_iadd (pc := 38) dX12_widens_38 ?_
    refine A_iconst (pc := 39) (1) dX12_widens_39 (by decide) ?_
    refine A_iadd (pc := 40) dX12_widens_40 ?_
    refine A_top (rx_lawm k) ?_
    refine A_ialdN (pc := 41) hm (by omega) (by decide) dX12_widens_41 ?_
    refine A_aload_n (pc := 42) (i := 0) dX12_widens_42 rfl rfl ?_
    refine A_iload_n (pc := 43) (i := 3) dX12_widens_43 rfl rfl ?_
    refine A_iconst (pc := 44) (3) dX12_widens_44 (by decide) ?_
    refine A_callS1 (pc := 45) cs_X12_73 (r_of l m hm b hb 3 4 rfl (by decide)) rfl rfl (Nat.le_of_ble_eq_true rfl) ⟨(Nat.le_of_ble_eq_true rfl), (Nat.le_of_ble_eq_true rfl)⟩ ⟨Nat.zero_le _, Nat.zero_le _⟩ dX12_widens_45 ?_
    refine A_imul (pc := 48) dX12_widens_48 ?_
    refine A_aload_n (pc := 49) (i := 0) dX12_widens_49 rfl rfl ?_
    refine A_iload_n (pc := 50) (i := 2) dX12_widens_50 rfl rfl ?_
    refine A_iload_n (pc := 51) (i := 3) dX12_widens_51 rfl rfl ?_
    refine A_callS1 (pc := 52) cs_X12_104 (r_gap l m hm a ha b hb) rfl rfl (Nat.le_of_ble_eq_true rfl) ⟨(Nat.le_of_ble_eq_true rfl), (Nat.le_of_ble_eq_true rfl)⟩ ⟨Nat.zero_le _, Nat.zero_le _⟩ dX12_widens_52 ?_
    refine A_bipush (pc := 55) (10) dX12_widens_55 (by decide) ?_
    refine A_iadd (pc := 57) dX12_widens_57 ?_
    refine A_idiv (pc := 58) dX12_widens_58 (rok_gap oa ob) ?_
    refine A_ist6 (pc := 59) dX12_widens_59 (Nat.le_of_ble_eq_true rfl) rfl ?_
    refine A_iload (pc := 61) (i := 4) dX12_widens_61 rfl ?_
    refine A_iconst (pc := 63) (3) dX12_widens_63 (by decide) ?_
    refine A_icmpeq (pc := 64) 73 dX12_widens_64 (by decide) (fun hb64 => ?_) (fun hb64 => ?_)
    · refine A_iconst (pc := 73) (1) dX12_widens_73 (by decide) ?_
      refine A_goto (pc := 74) 78 dX12_widens_74 (by decide) ?_
      refine A_ist7 (pc := 78) dX12_widens_78 (Nat.le_of_ble_eq_true rfl) rfl ?_
      refine A_iload (pc := 80) (i := 4) dX12_widens_80 rfl ?_
      refine A_iconst (pc := 82) (5) dX12_widens_82 (by decide) ?_
      refine A_icmpeq (pc := 83) 109 dX12_widens_83 (by decide) (fun hb83 => ?_) (fun hb83 => ?_)
      · refine A_iconst (pc := 109) (0) dX12_widens_109 (by decide) ?_
        exact A_iretE (pc := 110) dX12_widens_110 rfl (Nat.zero_le _) (Nat.zero_le _) (by
                clear hm oa ob eK
                simp only [k1, k3, k4, k5, k6, rg_bit_0, ← Int32.not_lt] at *
                simp_all [lw_widens, lw_w0, lw_pull, -Int32.not_lt]) (rfl)
      · refine A_iload (pc := 86) (i := 4) dX12_widens_86 rfl ?_
        refine A_bipush (pc := 88) (6) dX12_widens_88 (by decide) ?_
        refine A_icmpeq (pc := 90) 109 dX12_widens_90 (by decide) (fun hb90 => ?_) (fun hb90 => ?_)
        · refine A_iconst (pc := 109) (0) dX12_widens_109 (by decide) ?_
          exact A_iretE (pc := 110) dX12_widens_110 rfl (Nat.zero_le _) (Nat.zero_le _) (by
                  clear hm oa ob eK
                  simp only [k1, k3, k4, k5, k6, rg_bit_0, ← Int32.not_lt] at *
                  simp_all [lw_widens, lw_w0, lw_pull, -Int32.not_lt]) (rfl)
        · refine A_aload_n (pc := 93) (i := 0) dX12_widens_93 rfl rfl ?_
          refine A_iload_n (pc := 94) (i := 2) dX12_widens_94 rfl rfl ?_
          refine A_iload_n (pc := 95) (i := 3) dX12_widens_95 rfl rfl ?_
          refine A_callS1 (pc := 96) cs_X12_107 (r_areNear l m hm a ha b hb oa ob) rfl rfl (Nat.le_of_ble_eq_true rfl) ⟨(Nat.le_of_ble_eq_true rfl), (Nat.le_of_ble_eq_true rfl)⟩ ⟨Nat.zero_le _, Nat.zero_le _⟩ dX12_widens_96 ?_
          refine A_ifeq (pc := 99) 109 dX12_widens_99 (by decide) (fun hb99 => ?_) (fun hb99 => ?_)
          · refine A_iconst (pc := 109) (0) dX12_widens_109 (by decide) ?_
            exact A_iretE (pc := 110) dX12_widens_110 rfl (Nat.zero_le _) (Nat.zero_le _) (by
                    clear hm oa ob eK
                    simp only [k1, k3, k4, k5, k6, rg_bit_0, ← Int32.not_lt] at *
                    simp_all [lw_widens, lw_w0, lw_pull, -Int32.not_lt]) (rfl)
          · refine A_iload (pc := 102) (i := 5) dX12_widens_102 rfl ?_
            refine A_iload (pc := 104) (i := 7) dX12_widens_104 rfl ?_
            refine A_icmpne (pc := 106) 111 dX12_widens_106 (by decide) (fun hb106 => ?_) (fun hb106 => ?_)
            · refine A_iload (pc := 111) (i := 7) dX12_widens_111 rfl ?_
              refine A_ifeq (pc := 113) 119 dX12_widens_113 (by decide) (fun hb113 => ?_) (fun hb113 => ?_)
              · refine A_aload_n (pc := 119) (i := 0) dX12_widens_119 rfl rfl ?_
                refine A_iload_n (pc := 120) (i := 2) dX12_widens_120 rfl rfl ?_
                refine A_iload_n (pc := 121) (i := 3) dX12_widens_121 rfl rfl ?_
                refine A_callS1 (pc := 122) cs_X12_111 (r_isBehind l m hm a ha b hb oa ob) rfl rfl (Nat.le_of_ble_eq_true rfl) ⟨(Nat.le_of_ble_eq_true rfl), (Nat.le_of_ble_eq_true rfl)⟩ ⟨Nat.zero_le _, Nat.zero_le _⟩ dX12_widens_122 ?_
                refine A_ifeq (pc := 125) 134 dX12_widens_125 (by decide) (fun hb125 => ?_) (fun hb125 => ?_)
                · refine A_iload (pc := 134) (i := 6) dX12_widens_134 rfl ?_
                  refine A_ist6 (pc := 136) dX12_widens_136 (Nat.le_of_ble_eq_true rfl) rfl ?_
                  refine A_iload (pc := 138) (i := 4) dX12_widens_138 rfl ?_
                  refine A_iconst (pc := 140) (1) dX12_widens_140 (by decide) ?_
                  refine A_icmpne (pc := 141) 173 dX12_widens_141 (by decide) (fun hb141 => ?_) (fun hb141 => ?_)
                  · refine A_iload (pc := 173) (i := 6) dX12_widens_173 rfl ?_
                    exact A_iretE (pc := 175) dX12_widens_175 rfl (Nat.zero_le _) (Nat.zero_le _) (by
                            clear hm oa ob eK
                            simp only [k1, k3, k4, k5, k6, rg_bit_0, ← Int32.not_lt] at *
                            simp_all [lw_widens, lw_w0, lw_pull, -Int32.not_lt]) (rfl)
                  · refine A_aload_n (pc := 144) (i := 0) dX12_widens_144 rfl rfl ?_
                    refine A_iload_n (pc := 145) (i := 2) dX12_widens_145 rfl rfl ?_
                    refine A_iload_n (pc := 146) (i := 3) dX12_widens_146 rfl rfl ?_
                    refine A_callS1 (pc := 147) cs_X12_104 (r_gap l m hm a ha b hb) rfl rfl (Nat.le_of_ble_eq_true rfl) ⟨(Nat.le_of_ble_eq_true rfl), (Nat.le_of_ble_eq_true rfl)⟩ ⟨Nat.zero_le _, Nat.zero_le _⟩ dX12_widens_147 ?_
                    refine A_aload_n (pc := 150) (i := 0) dX12_widens_150 rfl rfl ?_
                    refine A_iload_n (pc := 151) (i := 2) dX12_widens_151 rfl rfl ?_
                    refine A_iconst (pc := 152) (5) dX12_widens_152 (by decide) ?_
                    refine A_callS1 (pc := 153) cs_X12_73 (r_of l m hm a ha 5 6 rfl (by decide)) rfl rfl (Nat.le_of_ble_eq_true rfl) ⟨(Nat.le_of_ble_eq_true rfl), (Nat.le_of_ble_eq_true rfl)⟩ ⟨Nat.zero_le _, Nat.zero_le _⟩ dX12_widens_153 ?_
                    refine A_aload_n (pc := 156) (i := 0) dX12_widens_156 rfl rfl ?_
                    refine A_iload_n (pc := 157) (i := 3) dX12_widens_157 rfl rfl ?_
                    refine A_iconst (pc := 158) (5) dX12_widens_158 (by decide) ?_
                    refine A_callS1 (pc := 159) cs_X12_73 (r_of l m hm b hb 5 6 rfl (by decide)) rfl rfl (Nat.le_of_ble_eq_true rfl) ⟨(Nat.le_of_ble_eq_true rfl), (Nat.le_of_ble_eq_true rfl)⟩ ⟨Nat.zero_le _, Nat.zero_le _⟩ dX12_widens_159 ?_
                    refine A_iadd (pc := 162) dX12_widens_162 ?_
                    refine A_icmpge (pc := 163) 173 dX12_widens_163 (by decide) (fun hb163 => ?_) (fun hb163 => ?_)
                    · refine A_iload (pc := 173) (i := 6) dX12_widens_173 rfl ?_
                      exact A_iretE (pc := 175) dX12_widens_175 rfl (Nat.zero_le _) (Nat.zero_le _) (by
                              clear hm oa ob eK
                              simp only [k1, k3, k4, k5, k6, rg_bit_0, ← Int32.not_lt] at *
                              simp_all [lw_widens, lw_w0, lw_pull, -Int32.not_lt]) (rfl)
                    · refine A_iconst (pc := 166) (2) dX12_widens_166 (by decide) ?_
                      refine A_iload (pc := 167) (i := 6) dX12_widens_167 rfl ?_
                      refine A_imul (pc := 169) dX12_widens_169 ?_
                      refine A_goto (pc := 170) 175 dX12_widens_170 (by decide) ?_
                      exact A_iretE (pc := 175) dX12_widens_175 rfl (Nat.zero_le _) (Nat.zero_le _) (by
                              clear hm oa ob eK
                              simp only [k1, k3, k4, k5, k6, rg_bit_0, ← Int32.not_lt] at *
                              simp_all [lw_widens, lw_w0, lw_pull, -Int32.not_lt]) (rfl)
                · refine A_iload (pc := 128) (i := 6) dX12_widens_128 rfl ?_
                  refine A_ineg (pc := 130) dX12_widens_130 ?_
                  refine A_goto (pc := 131) 136 dX12_widens_131 (by decide) ?_
                  refine A_ist6 (pc := 136) dX12_widens_136 (Nat.le_of_ble_eq_true rfl) rfl ?_
                  refine A_iload (pc := 138) (i := 4) dX12_widens_138 rfl ?_
                  refine A_iconst (pc := 140) (1) dX12_widens_140 (by decide) ?_
                  refine A_icmpne (pc := 141) 173 dX12_widens_141 (by decide) (fun hb141 => ?_) (fun hb141 => ?_)
                  · refine A_iload (pc := 173) (i := 6) dX12_widens_173 rfl ?_
                    exact A_iretE (pc := 175) dX12_widens_175 rfl (Nat.zero_le _) (Nat.zero_le _) (by
                            clear hm oa ob eK
                            simp only [k1, k3, k4, k5, k6, rg_bit_0, ← Int32.not_lt] at *
                            simp_all [lw_widens, lw_w0, lw_pull, -Int32.not_lt]) (rfl)
                  · refine A_aload_n (pc := 144) (i := 0) dX12_widens_144 rfl rfl ?_
                    refine A_iload_n (pc := 145) (i := 2) dX12_widens_145 rfl rfl ?_
                    refine A_iload_n (pc := 146) (i := 3) dX12_widens_146 rfl rfl ?_
                    refine A_callS1 (pc := 147) cs_X12_104 (r_gap l m hm a ha b hb) rfl rfl (Nat.le_of_ble_eq_true rfl) ⟨(Nat.le_of_ble_eq_true rfl), (Nat.le_of_ble_eq_true rfl)⟩ ⟨Nat.zero_le _, Nat.zero_le _⟩ dX12_widens_147 ?_
                    refine A_aload_n (pc := 150) (i := 0) dX12_widens_150 rfl rfl ?_
                    refine A_iload_n (pc := 151) (i := 2) dX12_widens_151 rfl rfl ?_
                    refine A_iconst (pc := 152) (5) dX12_widens_152 (by decide) ?_
                    refine A_callS1 (pc := 153) cs_X12_73 (r_of l m hm a ha 5 6 rfl (by decide)) rfl rfl (Nat.le_of_ble_eq_true rfl) ⟨(Nat.le_of_ble_eq_true rfl), (Nat.le_of_ble_eq_true rfl)⟩ ⟨Nat.zero_le _, Nat.zero_le _⟩ dX12_widens_153 ?_
                    refine A_aload_n (pc := 156) (i := 0) dX12_widens_156 rfl rfl ?_
                    refine A_iload_n (pc := 157) (i := 3) dX12_widens_157 rfl rfl ?_
                    refine A_iconst (pc := 158) (5) dX12_widens_158 (by decide) ?_
                    refine A_callS1 (pc := 159) cs_X12_73 (r_of l m hm b hb 5 6 rfl (by decide)) rfl rfl (Nat.le_of_ble_eq_true rfl) ⟨(Nat.le_of_ble_eq_true rfl), (Nat.le_of_ble_eq_true rfl)⟩ ⟨Nat.zero_le _, Nat.zero_le _⟩ dX12_widens_159 ?_
                    refine A_iadd (pc := 162) dX12_widens_162 ?_
                    refine A_icmpge (pc := 163) 173 dX12_widens_163 (by decide) (fun hb163 => ?_) (fun hb163 => ?_)
                    · refine A_iload (pc := 173) (i := 6) dX12_widens_173 rfl ?_
                      exact A_iretE (pc := 175) dX12_widens_175 rfl (Nat.zero_le _) (Nat.zero_le _) (by
                              clear hm oa ob eK
                              simp only [k1, k3, k4, k5, k6, rg_bit_0, ← Int32.not_lt] at *
                              simp_all [lw_widens, lw_w0, lw_pull, -Int32.not_lt]) (rfl)
                    · refine A_iconst (pc := 166) (2) dX12_widens_166 (by decide) ?_
                      refine A_iload (pc := 167) (i := 6) dX12_widens_167 rfl ?_
                      refine A_imul (pc := 169) dX12_widens_169 ?_
                      refine A_goto (pc := 170) 175 dX12_widens_170 (by decide) ?_
                      exact A_iretE (pc := 175) dX12_widens_175 rfl (Nat.zero_le _) (Nat.zero_le _) (by
                              clear hm oa ob eK
                              simp only [k1, k3, k4, k5, k6, rg_bit_0, ← Int32.not_lt] at *
                              simp_all [lw_widens, lw_w0, lw_pull, -Int32.not_lt]) (rfl)
              · refine A_iload (pc := 116) (i := 6) dX12_widens_116 rfl ?_
                exact A_iretE (pc := 118) dX12_widens_118 rfl (Nat.zero_le _) (Nat.zero_le _) (by
                        clear hm oa ob eK
                        simp only [k1, k3, k4, k5, k6, rg_bit_0, ← Int32.not_lt] at *
                        simp_all [lw_widens, lw_w0, lw_pull, -Int32.not_lt]) (rfl)
            · refine A_iconst (pc := 109) (0) dX12_widens_109 (by decide) ?_
              exact A_iretE (pc := 110) dX12_widens_110 rfl (Nat.zero_le _) (Nat.zero_le _) (by
                      clear hm oa ob eK
                      simp only [k1, k3, k4, k5, k6, rg_bit_0, ← Int32.not_lt] at *
                      simp_all [lw_widens, lw_w0, lw_pull, -Int32.not_lt]) (rfl)
    · refine A_iload (pc := 67) (i := 4) dX12_widens_67 rfl ?_
      refine A_iconst (pc := 69) (4) dX12_widens_69 (by decide) ?_
      refine A_icmpne (pc := 70) 77 dX12_widens_70 (by decide) (fun hb70 => ?_) (fun hb70 => ?_)
      · refine A_iconst (pc := 77) (0) dX12_widens_77 (by decide) ?_
        refine A_ist7 (pc := 78) dX12_widens_78 (Nat.le_of_ble_eq_true rfl) rfl ?_
        refine A_iload (pc := 80) (i := 4) dX12_widens_80 rfl ?_
        refine A_iconst (pc := 82) (5) dX12_widens_82 (by decide) ?_
        refine A_icmpeq (pc := 83) 109 dX12_widens_83 (by decide) (fun hb83 => ?_) (fun hb83 => ?_)
        · refine A_iconst (pc := 109) (0) dX12_widens_109 (by decide) ?_
          exact A_iretE (pc := 110) dX12_widens_110 rfl (Nat.zero_le _) (Nat.zero_le _) (by
                  clear hm oa ob eK
                  simp only [k1, k3, k4, k5, k6, rg_bit_0, ← Int32.not_lt] at *
                  simp_all [lw_widens, lw_w0, lw_pull, -Int32.not_lt]) (rfl)
        · refine A_iload (pc := 86) (i := 4) dX12_widens_86 rfl ?_
          refine A_bipush (pc := 88) (6) dX12_widens_88 (by decide) ?_
          refine A_icmpeq (pc := 90) 109 dX12_widens_90 (by decide) (fun hb90 => ?_) (fun hb90 => ?_)
          · refine A_iconst (pc := 109) (0) dX12_widens_109 (by decide) ?_
            exact A_iretE (pc := 110) dX12_widens_110 rfl (Nat.zero_le _) (Nat.zero_le _) (by
                    clear hm oa ob eK
                    simp only [k1, k3, k4, k5, k6, rg_bit_0, ← Int32.not_lt] at *
                    simp_all [lw_widens, lw_w0, lw_pull, -Int32.not_lt]) (rfl)
          · refine A_aload_n (pc := 93) (i := 0) dX12_widens_93 rfl rfl ?_
            refine A_iload_n (pc := 94) (i := 2) dX12_widens_94 rfl rfl ?_
            refine A_iload_n (pc := 95) (i := 3) dX12_widens_95 rfl rfl ?_
            refine A_callS1 (pc := 96) cs_X12_107 (r_areNear l m hm a ha b hb oa ob) rfl rfl (Nat.le_of_ble_eq_true rfl) ⟨(Nat.le_of_ble_eq_true rfl), (Nat.le_of_ble_eq_true rfl)⟩ ⟨Nat.zero_le _, Nat.zero_le _⟩ dX12_widens_96 ?_
            refine A_ifeq (pc := 99) 109 dX12_widens_99 (by decide) (fun hb99 => ?_) (fun hb99 => ?_)
            · refine A_iconst (pc := 109) (0) dX12_widens_109 (by decide) ?_
              exact A_iretE (pc := 110) dX12_widens_110 rfl (Nat.zero_le _) (Nat.zero_le _) (by
                      clear hm oa ob eK
                      simp only [k1, k3, k4, k5, k6, rg_bit_0, ← Int32.not_lt] at *
                      simp_all [lw_widens, lw_w0, lw_pull, -Int32.not_lt]) (rfl)
            · refine A_iload (pc := 102) (i := 5) dX12_widens_102 rfl ?_
              refine A_iload (pc := 104) (i := 7) dX12_widens_104 rfl ?_
              refine A_icmpne (pc := 106) 111 dX12_widens_106 (by decide) (fun hb106 => ?_) (fun hb106 => ?_)
              · refine A_iload (pc := 111) (i := 7) dX12_widens_111 rfl ?_
                refine A_ifeq (pc := 113) 119 dX12_widens_113 (by decide) (fun hb113 => ?_) (fun hb113 => ?_)
                · refine A_aload_n (pc := 119) (i := 0) dX12_widens_119 rfl rfl ?_
                  refine A_iload_n (pc := 120) (i := 2) dX12_widens_120 rfl rfl ?_
                  refine A_iload_n (pc := 121) (i := 3) dX12_widens_121 rfl rfl ?_
                  refine A_callS1 (pc := 122) cs_X12_111 (r_isBehind l m hm a ha b hb oa ob) rfl rfl (Nat.le_of_ble_eq_true rfl) ⟨(Nat.le_of_ble_eq_true rfl), (Nat.le_of_ble_eq_true rfl)⟩ ⟨Nat.zero_le _, Nat.zero_le _⟩ dX12_widens_122 ?_
                  refine A_ifeq (pc := 125) 134 dX12_widens_125 (by decide) (fun hb125 => ?_) (fun hb125 => ?_)
                  · refine A_iload (pc := 134) (i := 6) dX12_widens_134 rfl ?_
                    refine A_ist6 (pc := 136) dX12_widens_136 (Nat.le_of_ble_eq_true rfl) rfl ?_
                    refine A_iload (pc := 138) (i := 4) dX12_widens_138 rfl ?_
                    refine A_iconst (pc := 140) (1) dX12_widens_140 (by decide) ?_
                    refine A_icmpne (pc := 141) 173 dX12_widens_141 (by decide) (fun hb141 => ?_) (fun hb141 => ?_)
                    · refine A_iload (pc := 173) (i := 6) dX12_widens_173 rfl ?_
                      exact A_iretE (pc := 175) dX12_widens_175 rfl (Nat.zero_le _) (Nat.zero_le _) (by
                              clear hm oa ob eK
                              simp only [k1, k3, k4, k5, k6, rg_bit_0, ← Int32.not_lt] at *
                              simp_all [lw_widens, lw_w0, lw_pull, -Int32.not_lt]) (rfl)
                    · refine A_aload_n (pc := 144) (i := 0) dX12_widens_144 rfl rfl ?_
                      refine A_iload_n (pc := 145) (i := 2) dX12_widens_145 rfl rfl ?_
                      refine A_iload_n (pc := 146) (i := 3) dX12_widens_146 rfl rfl ?_
                      refine A_callS1 (pc := 147) cs_X12_104 (r_gap l m hm a ha b hb) rfl rfl (Nat.le_of_ble_eq_true rfl) ⟨(Nat.le_of_ble_eq_true rfl), (Nat.le_of_ble_eq_true rfl)⟩ ⟨Nat.zero_le _, Nat.zero_le _⟩ dX12_widens_147 ?_
                      refine A_aload_n (pc := 150) (i := 0) dX12_widens_150 rfl rfl ?_
                      refine A_iload_n (pc := 151) (i := 2) dX12_widens_151 rfl rfl ?_
                      refine A_iconst (pc := 152) (5) dX12_widens_152 (by decide) ?_
                      refine A_callS1 (pc := 153) cs_X12_73 (r_of l m hm a ha 5 6 rfl (by decide)) rfl rfl (Nat.le_of_ble_eq_true rfl) ⟨(Nat.le_of_ble_eq_true rfl), (Nat.le_of_ble_eq_true rfl)⟩ ⟨Nat.zero_le _, Nat.zero_le _⟩ dX12_widens_153 ?_
                      refine A_aload_n (pc := 156) (i := 0) dX12_widens_156 rfl rfl ?_
                      refine A_iload_n (pc := 157) (i := 3) dX12_widens_157 rfl rfl ?_
                      refine A_iconst (pc := 158) (5) dX12_widens_158 (by decide) ?_
                      refine A_callS1 (pc := 159) cs_X12_73 (r_of l m hm b hb 5 6 rfl (by decide)) rfl rfl (Nat.le_of_ble_eq_true rfl) ⟨(Nat.le_of_ble_eq_true rfl), (Nat.le_of_ble_eq_true rfl)⟩ ⟨Nat.zero_le _, Nat.zero_le _⟩ dX12_widens_159 ?_
                      refine A_iadd (pc := 162) dX12_widens_162 ?_
                      refine A_icmpge (pc := 163) 173 dX12_widens_163 (by decide) (fun hb163 => ?_) (fun hb163 => ?_)
                      · refine A_iload (pc := 173) (i := 6) dX12_widens_173 rfl ?_
                        exact A_iretE (pc := 175) dX12_widens_175 rfl (Nat.zero_le _) (Nat.zero_le _) (by
                                clear hm oa ob eK
                                simp only [k1, k3, k4, k5, k6, rg_bit_0, ← Int32.not_lt] at *
                                simp_all [lw_widens, lw_w0, lw_pull, -Int32.not_lt]) (rfl)
                      · refine A_iconst (pc := 166) (2) dX12_widens_166 (by decide) ?_
                        refine A_iload (pc := 167) (i := 6) dX12_widens_167 rfl ?_
                        refine A_imul (pc := 169) dX12_widens_169 ?_
                        refine A_goto (pc := 170) 175 dX12_widens_170 (by decide) ?_
                        exact A_iretE (pc := 175) dX12_widens_175 rfl (Nat.zero_le _) (Nat.zero_le _) (by
                                clear hm oa ob eK
                                simp only [k1, k3, k4, k5, k6, rg_bit_0, ← Int32.not_lt] at *
                                simp_all [lw_widens, lw_w0, lw_pull, -Int32.not_lt]) (rfl)
                  · refine A_iload (pc := 128) (i := 6) dX12_widens_128 rfl ?_
                    refine A_ineg (pc := 130) dX12_widens_130 ?_
                    refine A_goto (pc := 131) 136 dX12_widens_131 (by decide) ?_
                    refine A_ist6 (pc := 136) dX12_widens_136 (Nat.le_of_ble_eq_true rfl) rfl ?_
                    refine A_iload (pc := 138) (i := 4) dX12_widens_138 rfl ?_
                    refine A_iconst (pc := 140) (1) dX12_widens_140 (by decide) ?_
                    refine A_icmpne (pc := 141) 173 dX12_widens_141 (by decide) (fun hb141 => ?_) (fun hb141 => ?_)
                    · refine A_iload (pc := 173) (i := 6) dX12_widens_173 rfl ?_
                      exact A_iretE (pc := 175) dX12_widens_175 rfl (Nat.zero_le _) (Nat.zero_le _) (by
                              clear hm oa ob eK
                              simp only [k1, k3, k4, k5, k6, rg_bit_0, ← Int32.not_lt] at *
                              simp_all [lw_widens, lw_w0, lw_pull, -Int32.not_lt]) (rfl)
                    · refine A_aload_n (pc := 144) (i := 0) dX12_widens_144 rfl rfl ?_
                      refine A_iload_n (pc := 145) (i := 2) dX12_widens_145 rfl rfl ?_
                      refine A_iload_n (pc := 146) (i := 3) dX12_widens_146 rfl rfl ?_
                      refine A_callS1 (pc := 147) cs_X12_104 (r_gap l m hm a ha b hb) rfl rfl (Nat.le_of_ble_eq_true rfl) ⟨(Nat.le_of_ble_eq_true rfl), (Nat.le_of_ble_eq_true rfl)⟩ ⟨Nat.zero_le _, Nat.zero_le _⟩ dX12_widens_147 ?_
                      refine A_aload_n (pc := 150) (i := 0) dX12_widens_150 rfl rfl ?_
                      refine A_iload_n (pc := 151) (i := 2) dX12_widens_151 rfl rfl ?_
                      refine A_iconst (pc := 152) (5) dX12_widens_152 (by decide) ?_
                      refine A_callS1 (pc := 153) cs_X12_73 (r_of l m hm a ha 5 6 rfl (by decide)) rfl rfl (Nat.le_of_ble_eq_true rfl) ⟨(Nat.le_of_ble_eq_true rfl), (Nat.le_of_ble_eq_true rfl)⟩ ⟨Nat.zero_le _, Nat.zero_le _⟩ dX12_widens_153 ?_
                      refine A_aload_n (pc := 156) (i := 0) dX12_widens_156 rfl rfl ?_
                      refine A_iload_n (pc := 157) (i := 3) dX12_widens_157 rfl rfl ?_
                      refine A_iconst (pc := 158) (5) dX12_widens_158 (by decide) ?_
                      refine A_callS1 (pc := 159) cs_X12_73 (r_of l m hm b hb 5 6 rfl (by decide)) rfl rfl (Nat.le_of_ble_eq_true rfl) ⟨(Nat.le_of_ble_eq_true rfl), (Nat.le_of_ble_eq_true rfl)⟩ ⟨Nat.zero_le _, Nat.zero_le _⟩ dX12_widens_159 ?_
                      refine A_iadd (pc := 162) dX12_widens_162 ?_
                      refine A_icmpge (pc := 163) 173 dX12_widens_163 (by decide) (fun hb163 => ?_) (fun hb163 => ?_)
                      · refine A_iload (pc := 173) (i := 6) dX12_widens_173 rfl ?_
                        exact A_iretE (pc := 175) dX12_widens_175 rfl (Nat.zero_le _) (Nat.zero_le _) (by
                                clear hm oa ob eK
                                simp only [k1, k3, k4, k5, k6, rg_bit_0, ← Int32.not_lt] at *
                                simp_all [lw_widens, lw_w0, lw_pull, -Int32.not_lt]) (rfl)
                      · refine A_iconst (pc := 166) (2) dX12_widens_166 (by decide) ?_
                        refine A_iload (pc := 167) (i := 6) dX12_widens_167 rfl ?_
                        refine A_imul (pc := 169) dX12_widens_169 ?_
                        refine A_goto (pc := 170) 175 dX12_widens_170 (by decide) ?_
                        exact A_iretE (pc := 175) dX12_widens_175 rfl (Nat.zero_le _) (Nat.zero_le _) (by
                                clear hm oa ob eK
                                simp only [k1, k3, k4, k5, k6, rg_bit_0, ← Int32.not_lt] at *
                                simp_all [lw_widens, lw_w0, lw_pull, -Int32.not_lt]) (rfl)
                · refine A_iload (pc := 116) (i := 6) dX12_widens_116 rfl ?_
                  exact A_iretE (pc := 118) dX12_widens_118 rfl (Nat.zero_le _) (Nat.zero_le _) (by
                          clear hm oa ob eK
                          simp only [k1, k3, k4, k5, k6, rg_bit_0, ← Int32.not_lt] at *
                          simp_all [lw_widens, lw_w0, lw_pull, -Int32.not_lt]) (rfl)
              · refine A_iconst (pc := 109) (0) dX12_widens_109 (by decide) ?_
                exact A_iretE (pc := 110) dX12_widens_110 rfl (Nat.zero_le _) (Nat.zero_le _) (by
                        clear hm oa ob eK
                        simp only [k1, k3, k4, k5, k6, rg_bit_0, ← Int32.not_lt] at *
                        simp_all [lw_widens, lw_w0, lw_pull, -Int32.not_lt]) (rfl)
      · refine A_iconst (pc := 73) (1) dX12_widens_73 (by decide) ?_
        refine A_goto (pc := 74) 78 dX12_widens_74 (by decide) ?_
        refine A_ist7 (pc := 78) dX12_widens_78 (Nat.le_of_ble_eq_true rfl) rfl ?_
        refine A_iload (pc := 80) (i := 4) dX12_widens_80 rfl ?_
        refine A_iconst (pc := 82) (5) dX12_widens_82 (by decide) ?_
        refine A_icmpeq (pc := 83) 109 dX12_widens_83 (by decide) (fun hb83 => ?_) (fun hb83 => ?_)
        · refine A_iconst (pc := 109) (0) dX12_widens_109 (by decide) ?_
          exact A_iretE (pc := 110) dX12_widens_110 rfl (Nat.zero_le _) (Nat.zero_le _) (by
                  clear hm oa ob eK
                  simp only [k1, k3, k4, k5, k6, rg_bit_0, ← Int32.not_lt] at *
                  simp_all [lw_widens, lw_w0, lw_pull, -Int32.not_lt]) (rfl)
        · refine A_iload (pc := 86) (i := 4) dX12_widens_86 rfl ?_
          refine A_bipush (pc := 88) (6) dX12_widens_88 (by decide) ?_
          refine A_icmpeq (pc := 90) 109 dX12_widens_90 (by decide) (fun hb90 => ?_) (fun hb90 => ?_)
          · refine A_iconst (pc := 109) (0) dX12_widens_109 (by decide) ?_
            exact A_iretE (pc := 110) dX12_widens_110 rfl (Nat.zero_le _) (Nat.zero_le _) (by
                    clear hm oa ob eK
                    simp only [k1, k3, k4, k5, k6, rg_bit_0, ← Int32.not_lt] at *
                    simp_all [lw_widens, lw_w0, lw_pull, -Int32.not_lt]) (rfl)
          · refine A_aload_n (pc := 93) (i := 0) dX12_widens_93 rfl rfl ?_
            refine A_iload_n (pc := 94) (i := 2) dX12_widens_94 rfl rfl ?_
            refine A_iload_n (pc := 95) (i := 3) dX12_widens_95 rfl rfl ?_
            refine A_callS1 (pc := 96) cs_X12_107 (r_areNear l m hm a ha b hb oa ob) rfl rfl (Nat.le_of_ble_eq_true rfl) ⟨(Nat.le_of_ble_eq_true rfl), (Nat.le_of_ble_eq_true rfl)⟩ ⟨Nat.zero_le _, Nat.zero_le _⟩ dX12_widens_96 ?_
            refine A_ifeq (pc := 99) 109 dX12_widens_99 (by decide) (fun hb99 => ?_) (fun hb99 => ?_)
            · refine A_iconst (pc := 109) (0) dX12_widens_109 (by decide) ?_
              exact A_iretE (pc := 110) dX12_widens_110 rfl (Nat.zero_le _) (Nat.zero_le _) (by
                      clear hm oa ob eK
                      simp only [k1, k3, k4, k5, k6, rg_bit_0, ← Int32.not_lt] at *
                      simp_all [lw_widens, lw_w0, lw_pull, -Int32.not_lt]) (rfl)
            · refine A_iload (pc := 102) (i := 5) dX12_widens_102 rfl ?_
              refine A_iload (pc := 104) (i := 7) dX12_widens_104 rfl ?_
              refine A_icmpne (pc := 106) 111 dX12_widens_106 (by decide) (fun hb106 => ?_) (fun hb106 => ?_)
              · refine A_iload (pc := 111) (i := 7) dX12_widens_111 rfl ?_
                refine A_ifeq (pc := 113) 119 dX12_widens_113 (by decide) (fun hb113 => ?_) (fun hb113 => ?_)
                · refine A_aload_n (pc := 119) (i := 0) dX12_widens_119 rfl rfl ?_
                  refine A_iload_n (pc := 120) (i := 2) dX12_widens_120 rfl rfl ?_
                  refine A_iload_n (pc := 121) (i := 3) dX12_widens_121 rfl rfl ?_
                  refine A_callS1 (pc := 122) cs_X12_111 (r_isBehind l m hm a ha b hb oa ob) rfl rfl (Nat.le_of_ble_eq_true rfl) ⟨(Nat.le_of_ble_eq_true rfl), (Nat.le_of_ble_eq_true rfl)⟩ ⟨Nat.zero_le _, Nat.zero_le _⟩ dX12_widens_122 ?_
                  refine A_ifeq (pc := 125) 134 dX12_widens_125 (by decide) (fun hb125 => ?_) (fun hb125 => ?_)
                  · refine A_iload (pc := 134) (i := 6) dX12_widens_134 rfl ?_
                    refine A_ist6 (pc := 136) dX12_widens_136 (Nat.le_of_ble_eq_true rfl) rfl ?_
                    refine A_iload (pc := 138) (i := 4) dX12_widens_138 rfl ?_
                    refine A_iconst (pc := 140) (1) dX12_widens_140 (by decide) ?_
                    refine A_icmpne (pc := 141) 173 dX12_widens_141 (by decide) (fun hb141 => ?_) (fun hb141 => ?_)
                    · refine A_iload (pc := 173) (i := 6) dX12_widens_173 rfl ?_
                      exact A_iretE (pc := 175) dX12_widens_175 rfl (Nat.zero_le _) (Nat.zero_le _) (by
                              clear hm oa ob eK
                              simp only [k1, k3, k4, k5, k6, rg_bit_0, ← Int32.not_lt] at *
                              simp_all [lw_widens, lw_w0, lw_pull, -Int32.not_lt]) (rfl)
                    · refine A_aload_n (pc := 144) (i := 0) dX12_widens_144 rfl rfl ?_
                      refine A_iload_n (pc := 145) (i := 2) dX12_widens_145 rfl rfl ?_
                      refine A_iload_n (pc := 146) (i := 3) dX12_widens_146 rfl rfl ?_
                      refine A_callS1 (pc := 147) cs_X12_104 (r_gap l m hm a ha b hb) rfl rfl (Nat.le_of_ble_eq_true rfl) ⟨(Nat.le_of_ble_eq_true rfl), (Nat.le_of_ble_eq_true rfl)⟩ ⟨Nat.zero_le _, Nat.zero_le _⟩ dX12_widens_147 ?_
                      refine A_aload_n (pc := 150) (i := 0) dX12_widens_150 rfl rfl ?_
                      refine A_iload_n (pc := 151) (i := 2) dX12_widens_151 rfl rfl ?_
                      refine A_iconst (pc := 152) (5) dX12_widens_152 (by decide) ?_
                      refine A_callS1 (pc := 153) cs_X12_73 (r_of l m hm a ha 5 6 rfl (by decide)) rfl rfl (Nat.le_of_ble_eq_true rfl) ⟨(Nat.le_of_ble_eq_true rfl), (Nat.le_of_ble_eq_true rfl)⟩ ⟨Nat.zero_le _, Nat.zero_le _⟩ dX12_widens_153 ?_
                      refine A_aload_n (pc := 156) (i := 0) dX12_widens_156 rfl rfl ?_
                      refine A_iload_n (pc := 157) (i := 3) dX12_widens_157 rfl rfl ?_
                      refine A_iconst (pc := 158) (5) dX12_widens_158 (by decide) ?_
                      refine A_callS1 (pc := 159) cs_X12_73 (r_of l m hm b hb 5 6 rfl (by decide)) rfl rfl (Nat.le_of_ble_eq_true rfl) ⟨(Nat.le_of_ble_eq_true rfl), (Nat.le_of_ble_eq_true rfl)⟩ ⟨Nat.zero_le _, Nat.zero_le _⟩ dX12_widens_159 ?_
                      refine A_iadd (pc := 162) dX12_widens_162 ?_
                      refine A_icmpge (pc := 163) 173 dX12_widens_163 (by decide) (fun hb163 => ?_) (fun hb163 => ?_)
                      · refine A_iload (pc := 173) (i := 6) dX12_widens_173 rfl ?_
                        exact A_iretE (pc := 175) dX12_widens_175 rfl (Nat.zero_le _) (Nat.zero_le _) (by
                                clear hm oa ob eK
                                simp only [k1, k3, k4, k5, k6, rg_bit_0, ← Int32.not_lt] at *
                                simp_all [lw_widens, lw_w0, lw_pull, -Int32.not_lt]) (rfl)
                      · refine A_iconst (pc := 166) (2) dX12_widens_166 (by decide) ?_
                        refine A_iload (pc := 167) (i := 6) dX12_widens_167 rfl ?_
                        refine A_imul (pc := 169) dX12_widens_169 ?_
                        refine A_goto (pc := 170) 175 dX12_widens_170 (by decide) ?_
                        exact A_iretE (pc := 175) dX12_widens_175 rfl (Nat.zero_le _) (Nat.zero_le _) (by
                                clear hm oa ob eK
                                simp only [k1, k3, k4, k5, k6, rg_bit_0, ← Int32.not_lt] at *
                                simp_all [lw_widens, lw_w0, lw_pull, -Int32.not_lt]) (rfl)
                  · refine A_iload (pc := 128) (i := 6) dX12_widens_128 rfl ?_
                    refine A_ineg (pc := 130) dX12_widens_130 ?_
                    refine A_goto (pc := 131) 136 dX12_widens_131 (by decide) ?_
                    refine A_ist6 (pc := 136) dX12_widens_136 (Nat.le_of_ble_eq_true rfl) rfl ?_
                    refine A_iload (pc := 138) (i := 4) dX12_widens_138 rfl ?_
                    refine A_iconst (pc := 140) (1) dX12_widens_140 (by decide) ?_
                    refine A_icmpne (pc := 141) 173 dX12_widens_141 (by decide) (fun hb141 => ?_) (fun hb141 => ?_)
                    · refine A_iload (pc := 173) (i := 6) dX12_widens_173 rfl ?_
                      exact A_iretE (pc := 175) dX12_widens_175 rfl (Nat.zero_le _) (Nat.zero_le _) (by
                              clear hm oa ob eK
                              simp only [k1, k3, k4, k5, k6, rg_bit_0, ← Int32.not_lt] at *
                              simp_all [lw_widens, lw_w0, lw_pull, -Int32.not_lt]) (rfl)
                    · refine A_aload_n (pc := 144) (i := 0) dX12_widens_144 rfl rfl ?_
                      refine A_iload_n (pc := 145) (i := 2) dX12_widens_145 rfl rfl ?_
                      refine A_iload_n (pc := 146) (i := 3) dX12_widens_146 rfl rfl ?_
                      refine A_callS1 (pc := 147) cs_X12_104 (r_gap l m hm a ha b hb) rfl rfl (Nat.le_of_ble_eq_true rfl) ⟨(Nat.le_of_ble_eq_true rfl), (Nat.le_of_ble_eq_true rfl)⟩ ⟨Nat.zero_le _, Nat.zero_le _⟩ dX12_widens_147 ?_
                      refine A_aload_n (pc := 150) (i := 0) dX12_widens_150 rfl rfl ?_
                      refine A_iload_n (pc := 151) (i := 2) dX12_widens_151 rfl rfl ?_
                      refine A_iconst (pc := 152) (5) dX12_widens_152 (by decide) ?_
                      refine A_callS1 (pc := 153) cs_X12_73 (r_of l m hm a ha 5 6 rfl (by decide)) rfl rfl (Nat.le_of_ble_eq_true rfl) ⟨(Nat.le_of_ble_eq_true rfl), (Nat.le_of_ble_eq_true rfl)⟩ ⟨Nat.zero_le _, Nat.zero_le _⟩ dX12_widens_153 ?_
                      refine A_aload_n (pc := 156) (i := 0) dX12_widens_156 rfl rfl ?_
                      refine A_iload_n (pc := 157) (i := 3) dX12_widens_157 rfl rfl ?_
                      refine A_iconst (pc := 158) (5) dX12_widens_158 (by decide) ?_
                      refine A_callS1 (pc := 159) cs_X12_73 (r_of l m hm b hb 5 6 rfl (by decide)) rfl rfl (Nat.le_of_ble_eq_true rfl) ⟨(Nat.le_of_ble_eq_true rfl), (Nat.le_of_ble_eq_true rfl)⟩ ⟨Nat.zero_le _, Nat.zero_le _⟩ dX12_widens_159 ?_
                      refine A_iadd (pc := 162) dX12_widens_162 ?_
                      refine A_icmpge (pc := 163) 173 dX12_widens_163 (by decide) (fun hb163 => ?_) (fun hb163 => ?_)
                      · refine A_iload (pc := 173) (i := 6) dX12_widens_173 rfl ?_
                        exact A_iretE (pc := 175) dX12_widens_175 rfl (Nat.zero_le _) (Nat.zero_le _) (by
                                clear hm oa ob eK
                                simp only [k1, k3, k4, k5, k6, rg_bit_0, ← Int32.not_lt] at *
                                simp_all [lw_widens, lw_w0, lw_pull, -Int32.not_lt]) (rfl)
                      · refine A_iconst (pc := 166) (2) dX12_widens_166 (by decide) ?_
                        refine A_iload (pc := 167) (i := 6) dX12_widens_167 rfl ?_
                        refine A_imul (pc := 169) dX12_widens_169 ?_
                        refine A_goto (pc := 170) 175 dX12_widens_170 (by decide) ?_
                        exact A_iretE (pc := 175) dX12_widens_175 rfl (Nat.zero_le _) (Nat.zero_le _) (by
                                clear hm oa ob eK
                                simp only [k1, k3, k4, k5, k6, rg_bit_0, ← Int32.not_lt] at *
                                simp_all [lw_widens, lw_w0, lw_pull, -Int32.not_lt]) (rfl)
                · refine A_iload (pc := 116) (i := 6) dX12_widens_116 rfl ?_
                  exact A_iretE (pc := 118) dX12_widens_118 rfl (Nat.zero_le _) (Nat.zero_le _) (by
                          clear hm oa ob eK
                          simp only [k1, k3, k4, k5, k6, rg_bit_0, ← Int32.not_lt] at *
                          simp_all [lw_widens, lw_w0, lw_pull, -Int32.not_lt]) (rfl)
              · refine A_iconst (pc := 109) (0) dX12_widens_109 (by decide) ?_
                exact A_iretE (pc := 110) dX12_widens_110 rfl (Nat.zero_le _) (Nat.zero_le _) (by
                        clear hm oa ob eK
                        simp only [k1, k3, k4, k5, k6, rg_bit_0, ← Int32.not_lt] at *
                        simp_all [lw_widens, lw_w0, lw_pull, -Int32.not_lt]) (rfl)
  · refine A_iconst (pc := 25) (1) dX12_widens_25 (by decide) ?_
    refine A_goto (pc := 26) 30 dX12_widens_26 (by decide) ?_
    refine A_ist5 (pc := 30) dX12_widens_30 (Nat.le_of_ble_eq_true rfl) rfl ?_
    refine A_aload_n (pc := 32) (i := 0) dX12_widens_32 rfl rfl ?_
    refine A_bipush (pc := 33) (20) dX12_widens_33 (by decide) ?_
    refine A_iconst (pc := 35) (2) dX12_widens_35 (by decide) ?_
    refine A_iload_n (pc := 36) (i := 1) dX12_widens_36 rfl rfl ?_
    refine A_imul (pc := 37) dX12_widens_37 ?_
    refine A_iadd (pc := 38) dX12_widens_38 ?_
    refine A_iconst (pc := 39) (1) dX12_widens_39 (by decide) ?_
    refine A_iadd (pc := 40) dX12_widens_40 ?_
    refine A_top (rx_lawm k) ?_
    refine A_ialdN (pc := 41) hm (by omega) (by decide) dX12_widens_41 ?_
    refine A_aload_n (pc := 42) (i := 0) dX12_widens_42 rfl rfl ?_
    refine A_iload_n (pc := 43) (i := 3) dX12_widens_43 rfl rfl ?_
    refine A_iconst (pc := 44) (3) dX12_widens_44 (by decide) ?_
    refine A_callS1 (pc := 45) cs_X12_73 (r_of l m hm b hb 3 4 rfl (by decide)) rfl rfl (Nat.le_of_ble_eq_true rfl) ⟨(Nat.le_of_ble_eq_true rfl), (Nat.le_of_ble_eq_true rfl)⟩ ⟨Nat.zero_le _, Nat.zero_le _⟩ dX12_widens_45 ?_
    refine A_imul (pc := 48) dX12_widens_48 ?_
    refine A_aload_n (pc := 49) (i := 0) dX12_widens_49 rfl rfl ?_
    refine A_iload_n (pc := 50) (i := 2) dX12_widens_50 rfl rfl ?_
    refine A_iload_n (pc := 51) (i := 3) dX12_widens_51 rfl rfl ?_
    refine A_callS1 (pc := 52) cs_X12_104 (r_gap l m hm a ha b hb) rfl rfl (Nat.le_of_ble_eq_true rfl) ⟨(Nat.le_of_ble_eq_true rfl), (Nat.le_of_ble_eq_true rfl)⟩ ⟨Nat.zero_le _, Nat.zero_le _⟩ dX12_widens_52 ?_
    refine A_bipush (pc := 55) (10) dX12_widens_55 (by decide) ?_
    refine A_iadd (pc := 57) dX12_widens_57 ?_
    refine A_idiv (pc := 58) dX12_widens_58 (rok_gap oa ob) ?_
    refine A_ist6 (pc := 59) dX12_widens_59 (Nat.le_of_ble_eq_true rfl) rfl ?_
    refine A_iload (pc := 61) (i := 4) dX12_widens_61 rfl ?_
    refine A_iconst (pc := 63) (3) dX12_widens_63 (by decide) ?_
    refine A_icmpeq (pc := 64) 73 dX12_widens_64 (by decide) (fun hb64 => ?_) (fun hb64 => ?_)
    · refine A_iconst (pc := 73) (1) dX12_widens_73 (by decide) ?_
      refine A_goto (pc := 74) 78 dX12_widens_74 (by decide) ?_
      refine A_ist7 (pc := 78) dX12_widens_78 (Nat.le_of_ble_eq_true rfl) rfl ?_
      refine A_iload (pc := 80) (i := 4) dX12_widens_80 rfl ?_
      refine A_iconst (pc := 82) (5) dX12_widens_82 (by decide) ?_
      refine A_icmpeq (pc := 83) 109 dX12_widens_83 (by decide) (fun hb83 => ?_) (fun hb83 => ?_)
      · refine A_iconst (pc := 109) (0) dX12_widens_109 (by decide) ?_
        exact A_iretE (pc := 110) dX12_widens_110 rfl (Nat.zero_le _) (Nat.zero_le _) (by
                clear hm oa ob eK
                simp only [k1, k3, k4, k5, k6, rg_bit_0, ← Int32.not_lt] at *
                simp_all [lw_widens, lw_w0, lw_pull, -Int32.not_lt]) (rfl)
      · refine A_iload (pc := 86) (i := 4) dX12_widens_86 rfl ?_
        refine A_bipush (pc := 88) (6) dX12_widens_88 (by decide) ?_
        refine A_icmpeq (pc := 90) 109 dX12_widens_90 (by decide) (fun hb90 => ?_) (fun hb90 => ?_)
        · refine A_iconst (pc := 109) (0) dX12_widens_109 (by decide) ?_
          exact A_iretE (pc := 110) dX12_widens_110 rfl (Nat.zero_le _) (Nat.zero_le _) (by
                  clear hm oa ob eK
                  simp only [k1, k3, k4, k5, k6, rg_bit_0, ← Int32.not_lt] at *
                  simp_all [lw_widens, lw_w0, lw_pull, -Int32.not_lt]) (rfl)
        · refine A_aload_n (pc := 93) (i := 0) dX12_widens_93 rfl rfl ?_
          refine A_iload_n (pc := 94) (i := 2) dX12_widens_94 rfl rfl ?_
          refine A_iload_n (pc := 95) (i := 3) dX12_widens_95 rfl rfl ?_
          refine A_callS1 (pc := 96) cs_X12_107 (r_areNear l m hm a ha b hb oa ob) rfl rfl (Nat.le_of_ble_eq_true rfl) ⟨(Nat.le_of_ble_eq_true rfl), (Nat.le_of_ble_eq_true rfl)⟩ ⟨Nat.zero_le _, Nat.zero_le _⟩ dX12_widens_96 ?_
          refine A_ifeq (pc := 99) 109 dX12_widens_99 (by decide) (fun hb99 => ?_) (fun hb99 => ?_)
          · refine A_iconst (pc := 109) (0) dX12_widens_109 (by decide) ?_
            exact A_iretE (pc := 110) dX12_widens_110 rfl (Nat.zero_le _) (Nat.zero_le _) (by
                    clear hm oa ob eK
                    simp only [k1, k3, k4, k5, k6, rg_bit_0, ← Int32.not_lt] at *
                    simp_all [lw_widens, lw_w0, lw_pull, -Int32.not_lt]) (rfl)
          · refine A_iload (pc := 102) (i := 5) dX12_widens_102 rfl ?_
            refine A_iload (pc := 104) (i := 7) dX12_widens_104 rfl ?_
            refine A_icmpne (pc := 106) 111 dX12_widens_106 (by decide) (fun hb106 => ?_) (fun hb106 => ?_)
            · refine A_iload (pc := 111) (i := 7) dX12_widens_111 rfl ?_
              refine A_ifeq (pc := 113) 119 dX12_widens_113 (by decide) (fun hb113 => ?_) (fun hb113 => ?_)
              · refine A_aload_n (pc := 119) (i := 0) dX12_widens_119 rfl rfl ?_
                refine A_iload_n (pc := 120) (i := 2) dX12_widens_120 rfl rfl ?_
                refine A_iload_n (pc := 121) (i := 3) dX12_widens_121 rfl rfl ?_
                refine A_callS1 (pc := 122) cs_X12_111 (r_isBehind l m hm a ha b hb oa ob) rfl rfl (Nat.le_of_ble_eq_true rfl) ⟨(Nat.le_of_ble_eq_true rfl), (Nat.le_of_ble_eq_true rfl)⟩ ⟨Nat.zero_le _, Nat.zero_le _⟩ dX12_widens_122 ?_
                refine A_ifeq (pc := 125) 134 dX12_widens_125 (by decide) (fun hb125 => ?_) (fun hb125 => ?_)
                · refine A_iload (pc := 134) (i := 6) dX12_widens_134 rfl ?_
                  refine A_ist6 (pc := 136) dX12_widens_136 (Nat.le_of_ble_eq_true rfl) rfl ?_
                  refine A_iload (pc := 138) (i := 4) dX12_widens_138 rfl ?_
                  refine A_iconst (pc := 140) (1) dX12_widens_140 (by decide) ?_
                  refine A_icmpne (pc := 141) 173 dX12_widens_141 (by decide) (fun hb141 => ?_) (fun hb141 => ?_)
                  · refine A_iload (pc := 173) (i := 6) dX12_widens_173 rfl ?_
                    exact A_iretE (pc := 175) dX12_widens_175 rfl (Nat.zero_le _) (Nat.zero_le _) (by
                            clear hm oa ob eK
                            simp only [k1, k3, k4, k5, k6, rg_bit_0, ← Int32.not_lt] at *
                            simp_all [lw_widens, lw_w0, lw_pull, -Int32.not_lt]) (rfl)
                  · refine A_aload_n (pc := 144) (i := 0) dX12_widens_144 rfl rfl ?_
                    refine A_iload_n (pc := 145) (i := 2) dX12_widens_145 rfl rfl ?_
                    refine A_iload_n (pc := 146) (i := 3) dX12_widens_146 rfl rfl ?_
                    refine A_callS1 (pc := 147) cs_X12_104 (r_gap l m hm a ha b hb) rfl rfl (Nat.le_of_ble_eq_true rfl) ⟨(Nat.le_of_ble_eq_true rfl), (Nat.le_of_ble_eq_true rfl)⟩ ⟨Nat.zero_le _, Nat.zero_le _⟩ dX12_widens_147 ?_
                    refine A_aload_n (pc := 150) (i := 0) dX12_widens_150 rfl rfl ?_
                    refine A_iload_n (pc := 151) (i := 2) dX12_widens_151 rfl rfl ?_
                    refine A_iconst (pc := 152) (5) dX12_widens_152 (by decide) ?_
                    refine A_callS1 (pc := 153) cs_X12_73 (r_of l m hm a ha 5 6 rfl (by decide)) rfl rfl (Nat.le_of_ble_eq_true rfl) ⟨(Nat.le_of_ble_eq_true rfl), (Nat.le_of_ble_eq_true rfl)⟩ ⟨Nat.zero_le _, Nat.zero_le _⟩ dX12_widens_153 ?_
                    refine A_aload_n (pc := 156) (i := 0) dX12_widens_156 rfl rfl ?_
                    refine A_iload_n (pc := 157) (i := 3) dX12_widens_157 rfl rfl ?_
                    refine A_iconst (pc := 158) (5) dX12_widens_158 (by decide) ?_
                    refine A_callS1 (pc := 159) cs_X12_73 (r_of l m hm b hb 5 6 rfl (by decide)) rfl rfl (Nat.le_of_ble_eq_true rfl) ⟨(Nat.le_of_ble_eq_true rfl), (Nat.le_of_ble_eq_true rfl)⟩ ⟨Nat.zero_le _, Nat.zero_le _⟩ dX12_widens_159 ?_
                    refine A_iadd (pc := 162) dX12_widens_162 ?_
                    refine A_icmpge (pc := 163) 173 dX12_widens_163 (by decide) (fun hb163 => ?_) (fun hb163 => ?_)
                    · refine A_iload (pc := 173) (i := 6) dX12_widens_173 rfl ?_
                      exact A_iretE (pc := 175) dX12_widens_175 rfl (Nat.zero_le _) (Nat.zero_le _) (by
                              clear hm oa ob eK
                              simp only [k1, k3, k4, k5, k6, rg_bit_0, ← Int32.not_lt] at *
                              simp_all [lw_widens, lw_w0, lw_pull, -Int32.not_lt]) (rfl)
                    · refine A_iconst (pc := 166) (2) dX12_widens_166 (by decide) ?_
                      refine A_iload (pc := 167) (i := 6) dX12_widens_167 rfl ?_
                      refine A_imul (pc := 169) dX12_widens_169 ?_
                      refine A_goto (pc := 170) 175 dX12_widens_170 (by decide) ?_
                      exact A_iretE (pc := 175) dX12_widens_175 rfl (Nat.zero_le _) (Nat.zero_le _) (by
                              clear hm oa ob eK
                              simp only [k1, k3, k4, k5, k6, rg_bit_0, ← Int32.not_lt] at *
                              simp_all [lw_widens, lw_w0, lw_pull, -Int32.not_lt]) (rfl)
                · refine A_iload (pc := 128) (i := 6) dX12_widens_128 rfl ?_
                  refine A_ineg (pc := 130) dX12_widens_130 ?_
                  refine A_goto (pc := 131) 136 dX12_widens_131 (by decide) ?_
                  refine A_ist6 (pc := 136) dX12_widens_136 (Nat.le_of_ble_eq_true rfl) rfl ?_
                  refine A_iload (pc := 138) (i := 4) dX12_widens_138 rfl ?_
                  refine A_iconst (pc := 140) (1) dX12_widens_140 (by decide) ?_
                  refine A_icmpne (pc := 141) 173 dX12_widens_141 (by decide) (fun hb141 => ?_) (fun hb141 => ?_)
                  · refine A_iload (pc := 173) (i := 6) dX12_widens_173 rfl ?_
                    exact A_iretE (pc := 175) dX12_widens_175 rfl (Nat.zero_le _) (Nat.zero_le _) (by
                            clear hm oa ob eK
                            simp only [k1, k3, k4, k5, k6, rg_bit_0, ← Int32.not_lt] at *
                            simp_all [lw_widens, lw_w0, lw_pull, -Int32.not_lt]) (rfl)
                  · refine A_aload_n (pc := 144) (i := 0) dX12_widens_144 rfl rfl ?_
                    refine A_iload_n (pc := 145) (i := 2) dX12_widens_145 rfl rfl ?_
                    refine A_iload_n (pc := 146) (i := 3) dX12_widens_146 rfl rfl ?_
                    refine A_callS1 (pc := 147) cs_X12_104 (r_gap l m hm a ha b hb) rfl rfl (Nat.le_of_ble_eq_true rfl) ⟨(Nat.le_of_ble_eq_true rfl), (Nat.le_of_ble_eq_true rfl)⟩ ⟨Nat.zero_le _, Nat.zero_le _⟩ dX12_widens_147 ?_
                    refine A_aload_n (pc := 150) (i := 0) dX12_widens_150 rfl rfl ?_
                    refine A_iload_n (pc := 151) (i := 2) dX12_widens_151 rfl rfl ?_
                    refine A_iconst (pc := 152) (5) dX12_widens_152 (by decide) ?_
                    refine A_callS1 (pc := 153) cs_X12_73 (r_of l m hm a ha 5 6 rfl (by decide)) rfl rfl (Nat.le_of_ble_eq_true rfl) ⟨(Nat.le_of_ble_eq_true rfl), (Nat.le_of_ble_eq_true rfl)⟩ ⟨Nat.zero_le _, Nat.zero_le _⟩ dX12_widens_153 ?_
                    refine A_aload_n (pc := 156) (i := 0) dX12_widens_156 rfl rfl ?_
                    refine A_iload_n (pc := 157) (i := 3) dX12_widens_157 rfl rfl ?_
                    refine A_iconst (pc := 158) (5) dX12_widens_158 (by decide) ?_
                    refine A_callS1 (pc := 159) cs_X12_73 (r_of l m hm b hb 5 6 rfl (by decide)) rfl rfl (Nat.le_of_ble_eq_true rfl) ⟨(Nat.le_of_ble_eq_true rfl), (Nat.le_of_ble_eq_true rfl)⟩ ⟨Nat.zero_le _, Nat.zero_le _⟩ dX12_widens_159 ?_
                    refine A_iadd (pc := 162) dX12_widens_162 ?_
                    refine A_icmpge (pc := 163) 173 dX12_widens_163 (by decide) (fun hb163 => ?_) (fun hb163 => ?_)
                    · refine A_iload (pc := 173) (i := 6) dX12_widens_173 rfl ?_
                      exact A_iretE (pc := 175) dX12_widens_175 rfl (Nat.zero_le _) (Nat.zero_le _) (by
                              clear hm oa ob eK
                              simp only [k1, k3, k4, k5, k6, rg_bit_0, ← Int32.not_lt] at *
                              simp_all [lw_widens, lw_w0, lw_pull, -Int32.not_lt]) (rfl)
                    · refine A_iconst (pc := 166) (2) dX12_widens_166 (by decide) ?_
                      refine A_iload (pc := 167) (i := 6) dX12_widens_167 rfl ?_
                      refine A_imul (pc := 169) dX12_widens_169 ?_
                      refine A_goto (pc := 170) 175 dX12_widens_170 (by decide) ?_
                      exact A_iretE (pc := 175) dX12_widens_175 rfl (Nat.zero_le _) (Nat.zero_le _) (by
                              clear hm oa ob eK
                              simp only [k1, k3, k4, k5, k6, rg_bit_0, ← Int32.not_lt] at *
                              simp_all [lw_widens, lw_w0, lw_pull, -Int32.not_lt]) (rfl)
              · refine A_iload (pc := 116) (i := 6) dX12_widens_116 rfl ?_
                exact A_iretE (pc := 118) dX12_widens_118 rfl (Nat.zero_le _) (Nat.zero_le _) (by
                        clear hm oa ob eK
                        simp only [k1, k3, k4, k5, k6, rg_bit_0, ← Int32.not_lt] at *
                        simp_all [lw_widens, lw_w0, lw_pull, -Int32.not_lt]) (rfl)
            · refine A_iconst (pc := 109) (0) dX12_widens_109 (by decide) ?_
              exact A_iretE (pc := 110) dX12_widens_110 rfl (Nat.zero_le _) (Nat.zero_le _) (by
                      clear hm oa ob eK
                      simp only [k1, k3, k4, k5, k6, rg_bit_0, ← Int32.not_lt] at *
                      simp_all [lw_widens, lw_w0, lw_pull, -Int32.not_lt]) (rfl)
    · refine A_iload (pc := 67) (i := 4) dX12_widens_67 rfl ?_
      refine A_iconst (pc := 69) (4) dX12_widens_69 (by decide) ?_
      refine A_icmpne (pc := 70) 77 dX12_widens_70 (by decide) (fun hb70 => ?_) (fun hb70 => ?_)
      · refine A_iconst (pc := 77) (0) dX12_widens_77 (by decide) ?_
        refine A_ist7 (pc := 78) dX12_widens_78 (Nat.le_of_ble_eq_true rfl) rfl ?_
        refine A_iload (pc := 80) (i := 4) dX12_widens_80 rfl ?_
        refine A_iconst (pc := 82) (5) dX12_widens_82 (by decide) ?_
        refine A_icmpeq (pc := 83) 109 dX12_widens_83 (by decide) (fun hb83 => ?_) (fun hb83 => ?_)
        · refine A_iconst (pc := 109) (0) dX12_widens_109 (by decide) ?_
          exact A_iretE (pc := 110) dX12_widens_110 rfl (Nat.zero_le _) (Nat.zero_le _) (by
                  clear hm oa ob eK
                  simp only [k1, k3, k4, k5, k6, rg_bit_0, ← Int32.not_lt] at *
                  simp_all [lw_widens, lw_w0, lw_pull, -Int32.not_lt]) (rfl)
        · refine A_iload (pc := 86) (i := 4) dX12_widens_86 rfl ?_
          refine A_bipush (pc := 88) (6) dX12_widens_88 (by decide) ?_
          refine A_icmpeq (pc := 90) 109 dX12_widens_90 (by decide) (fun hb90 => ?_) (fun hb90 => ?_)
          · refine A_iconst (pc := 109) (0) dX12_widens_109 (by decide) ?_
            exact A_iretE (pc := 110) dX12_widens_110 rfl (Nat.zero_le _) (Nat.zero_le _) (by
                    clear hm oa ob eK
                    simp only [k1, k3, k4, k5, k6, rg_bit_0, ← Int32.not_lt] at *
                    simp_all [lw_widens, lw_w0, lw_pull, -Int32.not_lt]) (rfl)
          · refine A_aload_n (pc := 93) (i := 0) dX12_widens_93 rfl rfl ?_
            refine A_iload_n (pc := 94) (i := 2) dX12_widens_94 rfl rfl ?_
            refine A_iload_n (pc := 95) (i := 3) dX12_widens_95 rfl rfl ?_
            refine A_callS1 (pc := 96) cs_X12_107 (r_areNear l m hm a ha b hb oa ob) rfl rfl (Nat.le_of_ble_eq_true rfl) ⟨(Nat.le_of_ble_eq_true rfl), (Nat.le_of_ble_eq_true rfl)⟩ ⟨Nat.zero_le _, Nat.zero_le _⟩ dX12_widens_96 ?_
            refine A_ifeq (pc := 99) 109 dX12_widens_99 (by decide) (fun hb99 => ?_) (fun hb99 => ?_)
            · refine A_iconst (pc := 109) (0) dX12_widens_109 (by decide) ?_
              exact A_iretE (pc := 110) dX12_widens_110 rfl (Nat.zero_le _) (Nat.zero_le _) (by
                      clear hm oa ob eK
                      simp only [k1, k3, k4, k5, k6, rg_bit_0, ← Int32.not_lt] at *
                      simp_all [lw_widens, lw_w0, lw_pull, -Int32.not_lt]) (rfl)
            · refine A_iload (pc := 102) (i := 5) dX12_widens_102 rfl ?_
              refine A_iload (pc := 104) (i := 7) dX12_widens_104 rfl ?_
              refine A_icmpne (pc := 106) 111 dX12_widens_106 (by decide) (fun hb106 => ?_) (fun hb106 => ?_)
              · refine A_iload (pc := 111) (i := 7) dX12_widens_111 rfl ?_
                refine A_ifeq (pc := 113) 119 dX12_widens_113 (by decide) (fun hb113 => ?_) (fun hb113 => ?_)
                · refine A_aload_n (pc := 119) (i := 0) dX12_widens_119 rfl rfl ?_
                  refine A_iload_n (pc := 120) (i := 2) dX12_widens_120 rfl rfl ?_
                  refine A_iload_n (pc := 121) (i := 3) dX12_widens_121 rfl rfl ?_
                  refine A_callS1 (pc := 122) cs_X12_111 (r_isBehind l m hm a ha b hb oa ob) rfl rfl (Nat.le_of_ble_eq_true rfl) ⟨(Nat.le_of_ble_eq_true rfl), (Nat.le_of_ble_eq_true rfl)⟩ ⟨Nat.zero_le _, Nat.zero_le _⟩ dX12_widens_122 ?_
                  refine A_ifeq (pc := 125) 134 dX12_widens_125 (by decide) (fun hb125 => ?_) (fun hb125 => ?_)
                  · refine A_iload (pc := 134) (i := 6) dX12_widens_134 rfl ?_
                    refine A_ist6 (pc := 136) dX12_widens_136 (Nat.le_of_ble_eq_true rfl) rfl ?_
                    refine A_iload (pc := 138) (i := 4) dX12_widens_138 rfl ?_
                    refine A_iconst (pc := 140) (1) dX12_widens_140 (by decide) ?_
                    refine A_icmpne (pc := 141) 173 dX12_widens_141 (by decide) (fun hb141 => ?_) (fun hb141 => ?_)
                    · refine A_iload (pc := 173) (i := 6) dX12_widens_173 rfl ?_
                      exact A_iretE (pc := 175) dX12_widens_175 rfl (Nat.zero_le _) (Nat.zero_le _) (by
                              clear hm oa ob eK
                              simp only [k1, k3, k4, k5, k6, rg_bit_0, ← Int32.not_lt] at *
                              simp_all [lw_widens, lw_w0, lw_pull, -Int32.not_lt]) (rfl)
                    · refine A_aload_n (pc := 144) (i := 0) dX12_widens_144 rfl rfl ?_
                      refine A_iload_n (pc := 145) (i := 2) dX12_widens_145 rfl rfl ?_
                      refine A_iload_n (pc := 146) (i := 3) dX12_widens_146 rfl rfl ?_
                      refine A_callS1 (pc := 147) cs_X12_104 (r_gap l m hm a ha b hb) rfl rfl (Nat.le_of_ble_eq_true rfl) ⟨(Nat.le_of_ble_eq_true rfl), (Nat.le_of_ble_eq_true rfl)⟩ ⟨Nat.zero_le _, Nat.zero_le _⟩ dX12_widens_147 ?_
                      refine A_aload_n (pc := 150) (i := 0) dX12_widens_150 rfl rfl ?_
                      refine A_iload_n (pc := 151) (i := 2) dX12_widens_151 rfl rfl ?_
                      refine A_iconst (pc := 152) (5) dX12_widens_152 (by decide) ?_
                      refine A_callS1 (pc := 153) cs_X12_73 (r_of l m hm a ha 5 6 rfl (by decide)) rfl rfl (Nat.le_of_ble_eq_true rfl) ⟨(Nat.le_of_ble_eq_true rfl), (Nat.le_of_ble_eq_true rfl)⟩ ⟨Nat.zero_le _, Nat.zero_le _⟩ dX12_widens_153 ?_
                      refine A_aload_n (pc := 156) (i := 0) dX12_widens_156 rfl rfl ?_
                      refine A_iload_n (pc := 157) (i := 3) dX12_widens_157 rfl rfl ?_
                      refine A_iconst (pc := 158) (5) dX12_widens_158 (by decide) ?_
                      refine A_callS1 (pc := 159) cs_X12_73 (r_of l m hm b hb 5 6 rfl (by decide)) rfl rfl (Nat.le_of_ble_eq_true rfl) ⟨(Nat.le_of_ble_eq_true rfl), (Nat.le_of_ble_eq_true rfl)⟩ ⟨Nat.zero_le _, Nat.zero_le _⟩ dX12_widens_159 ?_
                      refine A_iadd (pc := 162) dX12_widens_162 ?_
                      refine A_icmpge (pc := 163) 173 dX12_widens_163 (by decide) (fun hb163 => ?_) (fun hb163 => ?_)
                      · refine A_iload (pc := 173) (i := 6) dX12_widens_173 rfl ?_
                        exact A_iretE (pc := 175) dX12_widens_175 rfl (Nat.zero_le _) (Nat.zero_le _) (by
                                clear hm oa ob eK
                                simp only [k1, k3, k4, k5, k6, rg_bit_0, ← Int32.not_lt] at *
                                simp_all [lw_widens, lw_w0, lw_pull, -Int32.not_lt]) (rfl)
                      · refine A_iconst (pc := 166) (2) dX12_widens_166 (by decide) ?_
                        refine A_iload (pc := 167) (i := 6) dX12_widens_167 rfl ?_
                        refine A_imul (pc := 169) dX12_widens_169 ?_
                        refine A_goto (pc := 170) 175 dX12_widens_170 (by decide) ?_
                        exact A_iretE (pc := 175) dX12_widens_175 rfl (Nat.zero_le _) (Nat.zero_le _) (by
                                clear hm oa ob eK
                                simp only [k1, k3, k4, k5, k6, rg_bit_0, ← Int32.not_lt] at *
                                simp_all [lw_widens, lw_w0, lw_pull, -Int32.not_lt]) (rfl)
                  · refine A_iload (pc := 128) (i := 6) dX12_widens_128 rfl ?_
                    refine A_ineg (pc := 130) dX12_widens_130 ?_
                    refine A_goto (pc := 131) 136 dX12_widens_131 (by decide) ?_
                    refine A_ist6 (pc := 136) dX12_widens_136 (Nat.le_of_ble_eq_true rfl) rfl ?_
                    refine A_iload (pc := 138) (i := 4) dX12_widens_138 rfl ?_
                    refine A_iconst (pc := 140) (1) dX12_widens_140 (by decide) ?_
                    refine A_icmpne (pc := 141) 173 dX12_widens_141 (by decide) (fun hb141 => ?_) (fun hb141 => ?_)
                    · refine A_iload (pc := 173) (i := 6) dX12_widens_173 rfl ?_
                      exact A_iretE (pc := 175) dX12_widens_175 rfl (Nat.zero_le _) (Nat.zero_le _) (by
                              clear hm oa ob eK
                              simp only [k1, k3, k4, k5, k6, rg_bit_0, ← Int32.not_lt] at *
                              simp_all [lw_widens, lw_w0, lw_pull, -Int32.not_lt]) (rfl)
                    · refine A_aload_n (pc := 144) (i := 0) dX12_widens_144 rfl rfl ?_
                      refine A_iload_n (pc := 145) (i := 2) dX12_widens_145 rfl rfl ?_
                      refine A_iload_n (pc := 146) (i := 3) dX12_widens_146 rfl rfl ?_
                      refine A_callS1 (pc := 147) cs_X12_104 (r_gap l m hm a ha b hb) rfl rfl (Nat.le_of_ble_eq_true rfl) ⟨(Nat.le_of_ble_eq_true rfl), (Nat.le_of_ble_eq_true rfl)⟩ ⟨Nat.zero_le _, Nat.zero_le _⟩ dX12_widens_147 ?_
                      refine A_aload_n (pc := 150) (i := 0) dX12_widens_150 rfl rfl ?_
                      refine A_iload_n (pc := 151) (i := 2) dX12_widens_151 rfl rfl ?_
                      refine A_iconst (pc := 152) (5) dX12_widens_152 (by decide) ?_
                      refine A_callS1 (pc := 153) cs_X12_73 (r_of l m hm a ha 5 6 rfl (by decide)) rfl rfl (Nat.le_of_ble_eq_true rfl) ⟨(Nat.le_of_ble_eq_true rfl), (Nat.le_of_ble_eq_true rfl)⟩ ⟨Nat.zero_le _, Nat.zero_le _⟩ dX12_widens_153 ?_
                      refine A_aload_n (pc := 156) (i := 0) dX12_widens_156 rfl rfl ?_
                      refine A_iload_n (pc := 157) (i := 3) dX12_widens_157 rfl rfl ?_
                      refine A_iconst (pc := 158) (5) dX12_widens_158 (by decide) ?_
                      refine A_callS1 (pc := 159) cs_X12_73 (r_of l m hm b hb 5 6 rfl (by decide)) rfl rfl (Nat.le_of_ble_eq_true rfl) ⟨(Nat.le_of_ble_eq_true rfl), (Nat.le_of_ble_eq_true rfl)⟩ ⟨Nat.zero_le _, Nat.zero_le _⟩ dX12_widens_159 ?_
                      refine A_iadd (pc := 162) dX12_widens_162 ?_
                      refine A_icmpge (pc := 163) 173 dX12_widens_163 (by decide) (fun hb163 => ?_) (fun hb163 => ?_)
                      · refine A_iload (pc := 173) (i := 6) dX12_widens_173 rfl ?_
                        exact A_iretE (pc := 175) dX12_widens_175 rfl (Nat.zero_le _) (Nat.zero_le _) (by
                                clear hm oa ob eK
                                simp only [k1, k3, k4, k5, k6, rg_bit_0, ← Int32.not_lt] at *
                                simp_all [lw_widens, lw_w0, lw_pull, -Int32.not_lt]) (rfl)
                      · refine A_iconst (pc := 166) (2) dX12_widens_166 (by decide) ?_
                        refine A_iload (pc := 167) (i := 6) dX12_widens_167 rfl ?_
                        refine A_imul (pc := 169) dX12_widens_169 ?_
                        refine A_goto (pc := 170) 175 dX12_widens_170 (by decide) ?_
                        exact A_iretE (pc := 175) dX12_widens_175 rfl (Nat.zero_le _) (Nat.zero_le _) (by
                                clear hm oa ob eK
                                simp only [k1, k3, k4, k5, k6, rg_bit_0, ← Int32.not_lt] at *
                                simp_all [lw_widens, lw_w0, lw_pull, -Int32.not_lt]) (rfl)
                · refine A_iload (pc := 116) (i := 6) dX12_widens_116 rfl ?_
                  exact A_iretE (pc := 118) dX12_widens_118 rfl (Nat.zero_le _) (Nat.zero_le _) (by
                          clear hm oa ob eK
                          simp only [k1, k3, k4, k5, k6, rg_bit_0, ← Int32.not_lt] at *
                          simp_all [lw_widens, lw_w0, lw_pull, -Int32.not_lt]) (rfl)
              · refine A_iconst (pc := 109) (0) dX12_widens_109 (by decide) ?_
                exact A_iretE (pc := 110) dX12_widens_110 rfl (Nat.zero_le _) (Nat.zero_le _) (by
                        clear hm oa ob eK
                        simp only [k1, k3, k4, k5, k6, rg_bit_0, ← Int32.not_lt] at *
                        simp_all [lw_widens, lw_w0, lw_pull, -Int32.not_lt]) (rfl)
      · refine A_iconst (pc := 73) (1) dX12_widens_73 (by decide) ?_
        refine A_goto (pc := 74) 78 dX12_widens_74 (by decide) ?_
        refine A_ist7 (pc := 78) dX12_widens_78 (Nat.le_of_ble_eq_true rfl) rfl ?_
        refine A_iload (pc := 80) (i := 4) dX12_widens_80 rfl ?_
        refine A_iconst (pc := 82) (5) dX12_widens_82 (by decide) ?_
        refine A_icmpeq (pc := 83) 109 dX12_widens_83 (by decide) (fun hb83 => ?_) (fun hb83 => ?_)
        · refine A_iconst (pc := 109) (0) dX12_widens_109 (by decide) ?_
          exact A_iretE (pc := 110) dX12_widens_110 rfl (Nat.zero_le _) (Nat.zero_le _) (by
                  clear hm oa ob eK
                  simp only [k1, k3, k4, k5, k6, rg_bit_0, ← Int32.not_lt] at *
                  simp_all [lw_widens, lw_w0, lw_pull, -Int32.not_lt]) (rfl)
        · refine A_iload (pc := 86) (i := 4) dX12_widens_86 rfl ?_
          refine A_bipush (pc := 88) (6) dX12_widens_88 (by decide) ?_
          refine A_icmpeq (pc := 90) 109 dX12_widens_90 (by decide) (fun hb90 => ?_) (fun hb90 => ?_)
          · refine A_iconst (pc := 109) (0) dX12_widens_109 (by decide) ?_
            exact A_iretE (pc := 110) dX12_widens_110 rfl (Nat.zero_le _) (Nat.zero_le _) (by
                    clear hm oa ob eK
                    simp only [k1, k3, k4, k5, k6, rg_bit_0, ← Int32.not_lt] at *
                    simp_all [lw_widens, lw_w0, lw_pull, -Int32.not_lt]) (rfl)
          · refine A_aload_n (pc := 93) (i := 0) dX12_widens_93 rfl rfl ?_
            refine A_iload_n (pc := 94) (i := 2) dX12_widens_94 rfl rfl ?_
            refine A_iload_n (pc := 95) (i := 3) dX12_widens_95 rfl rfl ?_
            refine A_callS1 (pc := 96) cs_X12_107 (r_areNear l m hm a ha b hb oa ob) rfl rfl (Nat.le_of_ble_eq_true rfl) ⟨(Nat.le_of_ble_eq_true rfl), (Nat.le_of_ble_eq_true rfl)⟩ ⟨Nat.zero_le _, Nat.zero_le _⟩ dX12_widens_96 ?_
            refine A_ifeq (pc := 99) 109 dX12_widens_99 (by decide) (fun hb99 => ?_) (fun hb99 => ?_)
            · refine A_iconst (pc := 109) (0) dX12_widens_109 (by decide) ?_
              exact A_iretE (pc := 110) dX12_widens_110 rfl (Nat.zero_le _) (Nat.zero_le _) (by
                      clear hm oa ob eK
                      simp only [k1, k3, k4, k5, k6, rg_bit_0, ← Int32.not_lt] at *
                      simp_all [lw_widens, lw_w0, lw_pull, -Int32.not_lt]) (rfl)
            · refine A_iload (pc := 102) (i := 5) dX12_widens_102 rfl ?_
              refine A_iload (pc := 104) (i := 7) dX12_widens_104 rfl ?_
              refine A_icmpne (pc := 106) 111 dX12_widens_106 (by decide) (fun hb106 => ?_) (fun hb106 => ?_)
              · refine A_iload (pc := 111) (i := 7) dX12_widens_111 rfl ?_
                refine A_ifeq (pc := 113) 119 dX12_widens_113 (by decide) (fun hb113 => ?_) (fun hb113 => ?_)
                · refine A_aload_n (pc := 119) (i := 0) dX12_widens_119 rfl rfl ?_
                  refine A_iload_n (pc := 120) (i := 2) dX12_widens_120 rfl rfl ?_
                  refine A_iload_n (pc := 121) (i := 3) dX12_widens_121 rfl rfl ?_
                  refine A_callS1 (pc := 122) cs_X12_111 (r_isBehind l m hm a ha b hb oa ob) rfl rfl (Nat.le_of_ble_eq_true rfl) ⟨(Nat.le_of_ble_eq_true rfl), (Nat.le_of_ble_eq_true rfl)⟩ ⟨Nat.zero_le _, Nat.zero_le _⟩ dX12_widens_122 ?_
                  refine A_ifeq (pc := 125) 134 dX12_widens_125 (by decide) (fun hb125 => ?_) (fun hb125 => ?_)
                  · refine A_iload (pc := 134) (i := 6) dX12_widens_134 rfl ?_
                    refine A_ist6 (pc := 136) dX12_widens_136 (Nat.le_of_ble_eq_true rfl) rfl ?_
                    refine A_iload (pc := 138) (i := 4) dX12_widens_138 rfl ?_
                    refine A_iconst (pc := 140) (1) dX12_widens_140 (by decide) ?_
                    refine A_icmpne (pc := 141) 173 dX12_widens_141 (by decide) (fun hb141 => ?_) (fun hb141 => ?_)
                    · refine A_iload (pc := 173) (i := 6) dX12_widens_173 rfl ?_
                      exact A_iretE (pc := 175) dX12_widens_175 rfl (Nat.zero_le _) (Nat.zero_le _) (by
                              clear hm oa ob eK
                              simp only [k1, k3, k4, k5, k6, rg_bit_0, ← Int32.not_lt] at *
                              simp_all [lw_widens, lw_w0, lw_pull, -Int32.not_lt]) (rfl)
                    · refine A_aload_n (pc := 144) (i := 0) dX12_widens_144 rfl rfl ?_
                      refine A_iload_n (pc := 145) (i := 2) dX12_widens_145 rfl rfl ?_
                      refine A_iload_n (pc := 146) (i := 3) dX12_widens_146 rfl rfl ?_
                      refine A_callS1 (pc := 147) cs_X12_104 (r_gap l m hm a ha b hb) rfl rfl (Nat.le_of_ble_eq_true rfl) ⟨(Nat.le_of_ble_eq_true rfl), (Nat.le_of_ble_eq_true rfl)⟩ ⟨Nat.zero_le _, Nat.zero_le _⟩ dX12_widens_147 ?_
                      refine A_aload_n (pc := 150) (i := 0) dX12_widens_150 rfl rfl ?_
                      refine A_iload_n (pc := 151) (i := 2) dX12_widens_151 rfl rfl ?_
                      refine A_iconst (pc := 152) (5) dX12_widens_152 (by decide) ?_
                      refine A_callS1 (pc := 153) cs_X12_73 (r_of l m hm a ha 5 6 rfl (by decide)) rfl rfl (Nat.le_of_ble_eq_true rfl) ⟨(Nat.le_of_ble_eq_true rfl), (Nat.le_of_ble_eq_true rfl)⟩ ⟨Nat.zero_le _, Nat.zero_le _⟩ dX12_widens_153 ?_
                      refine A_aload_n (pc := 156) (i := 0) dX12_widens_156 rfl rfl ?_
                      refine A_iload_n (pc := 157) (i := 3) dX12_widens_157 rfl rfl ?_
                      refine A_iconst (pc := 158) (5) dX12_widens_158 (by decide) ?_
                      refine A_callS1 (pc := 159) cs_X12_73 (r_of l m hm b hb 5 6 rfl (by decide)) rfl rfl (Nat.le_of_ble_eq_true rfl) ⟨(Nat.le_of_ble_eq_true rfl), (Nat.le_of_ble_eq_true rfl)⟩ ⟨Nat.zero_le _, Nat.zero_le _⟩ dX12_widens_159 ?_
                      refine A_iadd (pc := 162) dX12_widens_162 ?_
                      refine A_icmpge (pc := 163) 173 dX12_widens_163 (by decide) (fun hb163 => ?_) (fun hb163 => ?_)
                      · refine A_iload (pc := 173) (i := 6) dX12_widens_173 rfl ?_
                        exact A_iretE (pc := 175) dX12_widens_175 rfl (Nat.zero_le _) (Nat.zero_le _) (by
                                clear hm oa ob eK
                                simp only [k1, k3, k4, k5, k6, rg_bit_0, ← Int32.not_lt] at *
                                simp_all [lw_widens, lw_w0, lw_pull, -Int32.not_lt]) (rfl)
                      · refine A_iconst (pc := 166) (2) dX12_widens_166 (by decide) ?_
                        refine A_iload (pc := 167) (i := 6) dX12_widens_167 rfl ?_
                        refine A_imul (pc := 169) dX12_widens_169 ?_
                        refine A_goto (pc := 170) 175 dX12_widens_170 (by decide) ?_
                        exact A_iretE (pc := 175) dX12_widens_175 rfl (Nat.zero_le _) (Nat.zero_le _) (by
                                clear hm oa ob eK
                                simp only [k1, k3, k4, k5, k6, rg_bit_0, ← Int32.not_lt] at *
                                simp_all [lw_widens, lw_w0, lw_pull, -Int32.not_lt]) (rfl)
                  · refine A_iload (pc := 128) (i := 6) dX12_widens_128 rfl ?_
                    refine A_ineg (pc := 130) dX12_widens_130 ?_
                    refine A_goto (pc := 131) 136 dX12_widens_131 (by decide) ?_
                    refine A_ist6 (pc := 136) dX12_widens_136 (Nat.le_of_ble_eq_true rfl) rfl ?_
                    refine A_iload (pc := 138) (i := 4) dX12_widens_138 rfl ?_
                    refine A_iconst (pc := 140) (1) dX12_widens_140 (by decide) ?_
                    refine A_icmpne (pc := 141) 173 dX12_widens_141 (by decide) (fun hb141 => ?_) (fun hb141 => ?_)
                    · refine A_iload (pc := 173) (i := 6) dX12_widens_173 rfl ?_
                      exact A_iretE (pc := 175) dX12_widens_175 rfl (Nat.zero_le _) (Nat.zero_le _) (by
                              clear hm oa ob eK
                              simp only [k1, k3, k4, k5, k6, rg_bit_0, ← Int32.not_lt] at *
                              simp_all [lw_widens, lw_w0, lw_pull, -Int32.not_lt]) (rfl)
                    · refine A_aload_n (pc := 144) (i := 0) dX12_widens_144 rfl rfl ?_
                      refine A_iload_n (pc := 145) (i := 2) dX12_widens_145 rfl rfl ?_
                      refine A_iload_n (pc := 146) (i := 3) dX12_widens_146 rfl rfl ?_
                      refine A_callS1 (pc := 147) cs_X12_104 (r_gap l m hm a ha b hb) rfl rfl (Nat.le_of_ble_eq_true rfl) ⟨(Nat.le_of_ble_eq_true rfl), (Nat.le_of_ble_eq_true rfl)⟩ ⟨Nat.zero_le _, Nat.zero_le _⟩ dX12_widens_147 ?_
                      refine A_aload_n (pc := 150) (i := 0) dX12_widens_150 rfl rfl ?_
                      refine A_iload_n (pc := 151) (i := 2) dX12_widens_151 rfl rfl ?_
                      refine A_iconst (pc := 152) (5) dX12_widens_152 (by decide) ?_
                      refine A_callS1 (pc := 153) cs_X12_73 (r_of l m hm a ha 5 6 rfl (by decide)) rfl rfl (Nat.le_of_ble_eq_true rfl) ⟨(Nat.le_of_ble_eq_true rfl), (Nat.le_of_ble_eq_true rfl)⟩ ⟨Nat.zero_le _, Nat.zero_le _⟩ dX12_widens_153 ?_
                      refine A_aload_n (pc := 156) (i := 0) dX12_widens_156 rfl rfl ?_
                      refine A_iload_n (pc := 157) (i := 3) dX12_widens_157 rfl rfl ?_
                      refine A_iconst (pc := 158) (5) dX12_widens_158 (by decide) ?_
                      refine A_callS1 (pc := 159) cs_X12_73 (r_of l m hm b hb 5 6 rfl (by decide)) rfl rfl (Nat.le_of_ble_eq_true rfl) ⟨(Nat.le_of_ble_eq_true rfl), (Nat.le_of_ble_eq_true rfl)⟩ ⟨Nat.zero_le _, Nat.zero_le _⟩ dX12_widens_159 ?_
                      refine A_iadd (pc := 162) dX12_widens_162 ?_
                      refine A_icmpge (pc := 163) 173 dX12_widens_163 (by decide) (fun hb163 => ?_) (fun hb163 => ?_)
                      · refine A_iload (pc := 173) (i := 6) dX12_widens_173 rfl ?_
                        exact A_iretE (pc := 175) dX12_widens_175 rfl (Nat.zero_le _) (Nat.zero_le _) (by
                                clear hm oa ob eK
                                simp only [k1, k3, k4, k5, k6, rg_bit_0, ← Int32.not_lt] at *
                                simp_all [lw_widens, lw_w0, lw_pull, -Int32.not_lt]) (rfl)
                      · refine A_iconst (pc := 166) (2) dX12_widens_166 (by decide) ?_
                        refine A_iload (pc := 167) (i := 6) dX12_widens_167 rfl ?_
                        refine A_imul (pc := 169) dX12_widens_169 ?_
                        refine A_goto (pc := 170) 175 dX12_widens_170 (by decide) ?_
                        exact A_iretE (pc := 175) dX12_widens_175 rfl (Nat.zero_le _) (Nat.zero_le _) (by
                                clear hm oa ob eK
                                simp only [k1, k3, k4, k5, k6, rg_bit_0, ← Int32.not_lt] at *
                                simp_all [lw_widens, lw_w0, lw_pull, -Int32.not_lt]) (rfl)
                · refine A_iload (pc := 116) (i := 6) dX12_widens_116 rfl ?_
                  exact A_iretE (pc := 118) dX12_widens_118 rfl (Nat.zero_le _) (Nat.zero_le _) (by
                          clear hm oa ob eK
                          simp only [k1, k3, k4, k5, k6, rg_bit_0, ← Int32.not_lt] at *
                          simp_all [lw_widens, lw_w0, lw_pull, -Int32.not_lt]) (rfl)
              · refine A_iconst (pc := 109) (0) dX12_widens_109 (by decide) ?_
                exact A_iretE (pc := 110) dX12_widens_110 rfl (Nat.zero_le _) (Nat.zero_le _) (by
                        clear hm oa ob eK
                        simp only [k1, k3, k4, k5, k6, rg_bit_0, ← Int32.not_lt] at *
                        simp_all [lw_widens, lw_w0, lw_pull, -Int32.not_lt]) (rfl)
theorem rf_wall {w : Int32} {f : Nat → Int32} (wl : -99999 ≤ w.toInt ∧ w.toInt ≤ 99999) (oa : rok f) : rf_ap w (f 1) = sr_abs (w - f 1) := by
  have h1 := oa.1
  exact rf_ap_abs (by omega) (by omega)
set_option maxRecDepth 20000 in
theorem r_spreads (l : Launch) {kd : am_kd} {rv : am_rv} {iv : am_iv} (m : am_N) (hm : kd m = some (.inr (0, 300))) (k : Nat) (hk : k < 6) (K : Nat) (hK : K < 7) (eK : iv m (20 + 2 * k) = nI K) (a : Nat) (ha : a < 8) (oa : rok (rf iv m a)) (wl : -99999 ≤ (iv m 4).toInt ∧ (iv m 4).toInt ≤ 99999) : am_Met l mX12_spreads (am_rm 2 0 0) [am_P m, am_I (nI k), am_I (nI a)] kd rv iv (am_ret (some (am_I (lw_spreads K (iv m (21 + 2 * k)) (rf iv m a) (iv m 4)))) kd rv iv) := by
  refine am_Met.of (by decide) (Nat.le_of_ble_eq_true rfl) rfl ?_
  have k1 : nI K = (1 : Int32) ↔ K = 1 := nI_k 1 (by decide) hK
  have k2 : nI K = (2 : Int32) ↔ K = 2 := nI_k 2 (by decide) hK
  have k3 : nI K = (3 : Int32) ↔ K = 3 := nI_k 3 (by decide) hK
  have k4 : nI K = (4 : Int32) ↔ K = 4 := nI_k 4 (by decide) hK
  have k5 : nI K = (5 : Int32) ↔ K = 5 := nI_k 5 (by decide) hK
  have k6 : nI K = (6 : Int32) ↔ K = 6 := nI_k 6 (by decide) hK
  refine A_aload_n (pc := 0) (i := 0) dX12_spreads_0 rfl rfl ?_
  refine A_bipush (pc := 1) (20) dX12_spreads_1 (by decide) ?_
  refine A_iconst (pc := 3) (2) dX12_spreads_3 (by decide) ?_
  refine A_iload_n (pc := 4) (i := 1) dX12_spreads_4 rfl rfl ?_
  refine A_imul (pc := 5) dX12_spreads_5 ?_
  refine A_iadd (pc := 6) dX12_spreads_6 ?_
  refine A_top (rx_law k) ?_
  refine A_ialdN (pc := 7) hm (by omega) (by decide) dX12_spreads_7 ?_
  refine A_top eK ?_
  refine A_ist3 (pc := 8) dX12_spreads_8 (Nat.le_of_ble_eq_true rfl) rfl ?_
  refine A_aload_n (pc := 9) (i := 0) dX12_spreads_9 rfl rfl ?_
  refine A_iconst (pc := 10) (4) dX12_spreads_10 (by decide) ?_
  refine A_ialdN (pc := 11) (j := 4) hm (by decide) (by decide) dX12_spreads_11 ?_
  refine A_aload_n (pc := 12) (i := 0) dX12_spreads_12 rfl rfl ?_
  refine A_iload_n (pc := 13) (i := 2) dX12_spreads_13 rfl rfl ?_
  refine A_iconst (pc := 14) (0) dX12_spreads_14 (by decide) ?_
  refine A_callS1 (pc := 15) cs_X12_73 (r_of l m hm a ha 0 1 rfl (by decide)) rfl rfl (Nat.le_of_ble_eq_true rfl) ⟨(Nat.le_of_ble_eq_true rfl), (Nat.le_of_ble_eq_true rfl)⟩ ⟨Nat.zero_le _, Nat.zero_le _⟩ dX12_spreads_15 ?_
  refine A_callS1 (pc := 18) cs_X12_100 (r_apart l _ _) rfl rfl (Nat.le_of_ble_eq_true rfl) ⟨(Nat.le_of_ble_eq_true rfl), (Nat.le_of_ble_eq_true rfl)⟩ ⟨Nat.zero_le _, Nat.zero_le _⟩ dX12_spreads_18 ?_
  refine A_top (rf_wall wl oa) ?_
  refine A_ist4 (pc := 21) dX12_spreads_21 (Nat.le_of_ble_eq_true rfl) rfl ?_
  refine A_iload_n (pc := 23) (i := 3) dX12_spreads_23 rfl rfl ?_
  refine A_iconst (pc := 24) (5) dX12_spreads_24 (by decide) ?_
  refine A_icmpeq (pc := 25) 34 dX12_spreads_25 (by decide) (fun hb25 => ?_) (fun hb25 => ?_)
  · refine A_iload (pc := 34) (i := 4) dX12_spreads_34 rfl ?_
    refine A_bipush (pc := 36) (100) dX12_spreads_36 (by decide) ?_
    refine A_icmplt (pc := 38) 43 dX12_spreads_38 (by decide) (fun hb38 => ?_) (fun hb38 => ?_)
    · refine A_aload_n (pc := 43) (i := 0) dX12_spreads_43 rfl rfl ?_
      refine A_bipush (pc := 44) (20) dX12_spreads_44 (by decide) ?_
      refine A_iconst (pc := 46) (2) dX12_spreads_46 (by decide) ?_
      refine A_iload_n (pc := 47) (i := 1) dX12_spreads_47 rfl rfl ?_
      refine A_imul (pc := 48) dX12_spreads_48 ?_
      refine A_iadd (pc := 49) dX12_spreads_49 ?_
      refine A_iconst (pc := 50) (1) dX12_spreads_50 (by decide) ?_
      refine A_iadd (pc := 51) dX12_spreads_51 ?_
      refine A_top (rx_lawm k) ?_
      refine A_ialdN (pc := 52) hm (by omega) (by decide) dX12_spreads_52 ?_
      refine A_aload_n (pc := 53) (i := 0) dX12_spreads_53 rfl rfl ?_
      refine A_iload_n (pc := 54) (i := 2) dX12_spreads_54 rfl rfl ?_
      refine A_iconst (pc := 55) (3) dX12_spreads_55 (by decide) ?_
      refine A_callS1 (pc := 56) cs_X12_73 (r_of l m hm a ha 3 4 rfl (by decide)) rfl rfl (Nat.le_of_ble_eq_true rfl) ⟨(Nat.le_of_ble_eq_true rfl), (Nat.le_of_ble_eq_true rfl)⟩ ⟨Nat.zero_le _, Nat.zero_le _⟩ dX12_spreads_56 ?_
      refine A_imul (pc := 59) dX12_spreads_59 ?_
      refine A_iload (pc := 60) (i := 4) dX12_spreads_60 rfl ?_
      refine A_bipush (pc := 62) (10) dX12_spreads_62 (by decide) ?_
      refine A_iadd (pc := 64) dX12_spreads_64 ?_
      refine A_idiv (pc := 65) dX12_spreads_65 (sr_abs_ne _) ?_
      refine A_ist5 (pc := 66) dX12_spreads_66 (Nat.le_of_ble_eq_true rfl) rfl ?_
      refine A_iload_n (pc := 68) (i := 3) dX12_spreads_68 rfl rfl ?_
      refine A_bipush (pc := 69) (6) dX12_spreads_69 (by decide) ?_
      refine A_icmpne (pc := 71) 81 dX12_spreads_71 (by decide) (fun hb71 => ?_) (fun hb71 => ?_)
      · refine A_iload (pc := 81) (i := 5) dX12_spreads_81 rfl ?_
        exact A_iretE (pc := 83) dX12_spreads_83 rfl (Nat.zero_le _) (Nat.zero_le _) (by
                clear hm oa eK wl
                simp only [k5, k6, ← Int32.not_lt] at *
                simp_all [lw_spreads, lw_s5, -Int32.not_lt]) (rfl)
      · refine A_iload (pc := 74) (i := 5) dX12_spreads_74 rfl ?_
        refine A_iconst (pc := 76) (2) dX12_spreads_76 (by decide) ?_
        refine A_idiv (pc := 77) dX12_spreads_77 (by decide) ?_
        refine A_goto (pc := 78) 83 dX12_spreads_78 (by decide) ?_
        exact A_iretE (pc := 83) dX12_spreads_83 rfl (Nat.zero_le _) (Nat.zero_le _) (by
                clear hm oa eK wl
                simp only [k5, k6, ← Int32.not_lt] at *
                simp_all [lw_spreads, lw_s5, -Int32.not_lt]) (rfl)
    · refine A_iconst (pc := 41) (0) dX12_spreads_41 (by decide) ?_
      exact A_iretE (pc := 42) dX12_spreads_42 rfl (Nat.zero_le _) (Nat.zero_le _) (by
              clear hm oa eK wl
              simp only [k5, k6, ← Int32.not_lt] at *
              simp_all [lw_spreads, lw_s5, -Int32.not_lt]) (rfl)
  · refine A_iload_n (pc := 28) (i := 3) dX12_spreads_28 rfl rfl ?_
    refine A_bipush (pc := 29) (6) dX12_spreads_29 (by decide) ?_
    refine A_icmpne (pc := 31) 41 dX12_spreads_31 (by decide) (fun hb31 => ?_) (fun hb31 => ?_)
    · refine A_iconst (pc := 41) (0) dX12_spreads_41 (by decide) ?_
      exact A_iretE (pc := 42) dX12_spreads_42 rfl (Nat.zero_le _) (Nat.zero_le _) (by
              clear hm oa eK wl
              simp only [k5, k6, ← Int32.not_lt] at *
              simp_all [lw_spreads, lw_s5, -Int32.not_lt]) (rfl)
    · refine A_iload (pc := 34) (i := 4) dX12_spreads_34 rfl ?_
      refine A_bipush (pc := 36) (100) dX12_spreads_36 (by decide) ?_
      refine A_icmplt (pc := 38) 43 dX12_spreads_38 (by decide) (fun hb38 => ?_) (fun hb38 => ?_)
      · refine A_aload_n (pc := 43) (i := 0) dX12_spreads_43 rfl rfl ?_
        refine A_bipush (pc := 44) (20) dX12_spreads_44 (by decide) ?_
        refine A_iconst (pc := 46) (2) dX12_spreads_46 (by decide) ?_
        refine A_iload_n (pc := 47) (i := 1) dX12_spreads_47 rfl rfl ?_
        refine A_imul (pc := 48) dX12_spreads_48 ?_
        refine A_iadd (pc := 49) dX12_spreads_49 ?_
        refine A_iconst (pc := 50) (1) dX12_spreads_50 (by decide) ?_
        refine A_iadd (pc := 51) dX12_spreads_51 ?_
        refine A_top (rx_lawm k) ?_
        refine A_ialdN (pc := 52) hm (by omega) (by decide) dX12_spreads_52 ?_
        refine A_aload_n (pc := 53) (i := 0) dX12_spreads_53 rfl rfl ?_
        refine A_iload_n (pc := 54) (i := 2) dX12_spreads_54 rfl rfl ?_
        refine A_iconst (pc := 55) (3) dX12_spreads_55 (by decide) ?_
        refine A_callS1 (pc := 56) cs_X12_73 (r_of l m hm a ha 3 4 rfl (by decide)) rfl rfl (Nat.le_of_ble_eq_true rfl) ⟨(Nat.le_of_ble_eq_true rfl), (Nat.le_of_ble_eq_true rfl)⟩ ⟨Nat.zero_le _, Nat.zero_le _⟩ dX12_spreads_56 ?_
        refine A_imul (pc := 59) dX12_spreads_59 ?_
        refine A_iload (pc := 60) (i := 4) dX12_spreads_60 rfl ?_
        refine A_bipush (pc := 62) (10) dX12_spreads_62 (by decide) ?_
        refine A_iadd (pc := 64) dX12_spreads_64 ?_
        refine A_idiv (pc := 65) dX12_spreads_65 (sr_abs_ne _) ?_
        refine A_ist5 (pc := 66) dX12_spreads_66 (Nat.le_of_ble_eq_true rfl) rfl ?_
        refine A_iload_n (pc := 68) (i := 3) dX12_spreads_68 rfl rfl ?_
        refine A_bipush (pc := 69) (6) dX12_spreads_69 (by decide) ?_
        refine A_icmpne (pc := 71) 81 dX12_spreads_71 (by decide) (fun hb71 => ?_) (fun hb71 => ?_)
        · refine A_iload (pc := 81) (i := 5) dX12_spreads_81 rfl ?_
          exact A_iretE (pc := 83) dX12_spreads_83 rfl (Nat.zero_le _) (Nat.zero_le _) (by
                  clear hm oa eK wl
                  simp only [k5, k6, ← Int32.not_lt] at *
                  simp_all [lw_spreads, lw_s5, -Int32.not_lt]) (rfl)
        · refine A_iload (pc := 74) (i := 5) dX12_spreads_74 rfl ?_
          refine A_iconst (pc := 76) (2) dX12_spreads_76 (by decide) ?_
          refine A_idiv (pc := 77) dX12_spreads_77 (by decide) ?_
          refine A_goto (pc := 78) 83 dX12_spreads_78 (by decide) ?_
          exact A_iretE (pc := 83) dX12_spreads_83 rfl (Nat.zero_le _) (Nat.zero_le _) (by
                  clear hm oa eK wl
                  simp only [k5, k6, ← Int32.not_lt] at *
                  simp_all [lw_spreads, lw_s5, -Int32.not_lt]) (rfl)
      · refine A_iconst (pc := 41) (0) dX12_spreads_41 (by decide) ?_
        exact A_iretE (pc := 42) dX12_spreads_42 rfl (Nat.zero_le _) (Nat.zero_le _) (by
                clear hm oa eK wl
                simp only [k5, k6, ← Int32.not_lt] at *
                simp_all [lw_spreads, lw_s5, -Int32.not_lt]) (rfl)
set_option maxRecDepth 20000 in
theorem r_lifts (l : Launch) {kd : am_kd} {rv : am_rv} {iv : am_iv} (m : am_N) (hm : kd m = some (.inr (0, 300))) (k : Nat) (hk : k < 6) (K : Nat) (hK : K < 7) (eK : iv m (20 + 2 * k) = nI K) (a : Nat) (ha : a < 8) (oa : rok (rf iv m a)) (wl : -99999 ≤ (iv m 4).toInt ∧ (iv m 4).toInt ≤ 99999) : am_Met l mX12_lifts (am_rm 3 0 0) [am_P m, am_I (nI k), am_I (nI a)] kd rv iv (am_ret (some (am_I (lw_lifts K (iv m (21 + 2 * k)) (rf iv m a) (iv m 4)))) kd rv iv) := by
  refine am_Met.of (by decide) (Nat.le_of_ble_eq_true rfl) rfl ?_
  have k1 : nI K = (1 : Int32) ↔ K = 1 := nI_k 1 (by decide) hK
  have k2 : nI K = (2 : Int32) ↔ K = 2 := nI_k 2 (by decide) hK
  have k3 : nI K = (3 : Int32) ↔ K = 3 := nI_k 3 (by decide) hK
  have k4 : nI K = (4 : Int32) ↔ K = 4 := nI_k 4 (by decide) hK
  have k5 : nI K = (5 : Int32) ↔ K = 5 := nI_k 5 (by decide) hK
  have k6 : nI K = (6 : Int32) ↔ K = 6 := nI_k 6 (by decide) hK
  refine A_aload_n (pc := 0) (i := 0) dX12_lifts_0 rfl rfl ?_
  refine A_bipush (pc := 1) (20) dX12_lifts_1 (by decide) ?_
  refine A_iconst (pc := 3) (2) dX12_lifts_3 (by decide) ?_
  refine A_iload_n (pc := 4) (i := 1) dX12_lifts_4 rfl rfl ?_
  refine A_imul (pc := 5) dX12_lifts_5 ?_
  refine A_iadd (pc := 6) dX12_lifts_6 ?_
  refine A_top (rx_law k) ?_
  refine A_ialdN (pc := 7) hm (by omega) (by decide) dX12_lifts_7 ?_
  refine A_top eK ?_
  refine A_bipush (pc := 8) (6) dX12_lifts_8 (by decide) ?_
  refine A_icmpne (pc := 10) 22 dX12_lifts_10 (by decide) (fun hb10 => ?_) (fun hb10 => ?_)
  · refine A_iconst (pc := 22) (0) dX12_lifts_22 (by decide) ?_
    exact A_iretE (pc := 23) dX12_lifts_23 rfl (Nat.zero_le _) (Nat.zero_le _) (by
            clear hm oa eK wl
            simp only [k6] at *
            simp_all [lw_lifts, lw_spreads]) (rfl)
  · refine A_aload_n (pc := 13) (i := 0) dX12_lifts_13 rfl rfl ?_
    refine A_iload_n (pc := 14) (i := 1) dX12_lifts_14 rfl rfl ?_
    refine A_iload_n (pc := 15) (i := 2) dX12_lifts_15 rfl rfl ?_
    refine A_callS1 (pc := 16) cs_X12_114 (r_spreads l m hm k hk K hK eK a ha oa wl) rfl rfl (Nat.le_of_ble_eq_true rfl) ⟨(Nat.le_of_ble_eq_true rfl), (Nat.le_of_ble_eq_true rfl)⟩ ⟨Nat.zero_le _, Nat.zero_le _⟩ dX12_lifts_16 ?_
    refine A_goto (pc := 19) 23 dX12_lifts_19 (by decide) ?_
    exact A_iretE (pc := 23) dX12_lifts_23 rfl (Nat.zero_le _) (Nat.zero_le _) (by
            clear hm oa eK wl
            simp only [k6] at *
            simp_all [lw_lifts, lw_spreads]) (rfl)
set_option maxRecDepth 20000 in
theorem r_doesEnd (l : Launch) {kd : am_kd} {rv : am_rv} {iv : am_iv} (m : am_N) (hm : kd m = some (.inr (0, 300))) (k : Nat) (hk : k < 6) (K : Nat) (hK : K < 7) (eK : iv m (20 + 2 * k) = nI K) (a : Nat) (ha : a < 8) (b : Nat) (hb : b < 8) (oa : rok (rf iv m a)) (ob : rok (rf iv m b)) : am_Met l mX12_doesEnd (am_rm 2 0 0) [am_P m, am_I (nI k), am_I (nI a), am_I (nI b)] kd rv iv (am_ret (some (am_I (rg_bit (lw_ends K (iv m (21 + 2 * k)) (rf iv m a) (rf iv m b))))) kd rv iv) := by
  refine am_Met.of (by decide) (Nat.le_of_ble_eq_true rfl) rfl ?_
  have k1 : nI K = (1 : Int32) ↔ K = 1 := nI_k 1 (by decide) hK
  have k2 : nI K = (2 : Int32) ↔ K = 2 := nI_k 2 (by decide) hK
  have k3 : nI K = (3 : Int32) ↔ K = 3 := nI_k 3 (by decide) hK
  have k4 : nI K = (4 : Int32) ↔ K = 4 := nI_k 4 (by decide) hK
  have k5 : nI K = (5 : Int32) ↔ K = 5 := nI_k 5 (by decide) hK
  have k6 : nI K = (6 : Int32) ↔ K = 6 := nI_k 6 (by decide) hK
  refine A_aload_n (pc := 0) (i := 0) dX12_doesEnd_0 rfl rfl ?_
  refine A_bipush (pc := 1) (20) dX12_doesEnd_1 (by decide) ?_
  refine A_iconst (pc := 3) (2) dX12_doesEnd_3 (by decide) ?_
  refine A_iload_n (pc := 4) (i := 1) dX12_doesEnd_4 rfl rfl ?_
  refine A_imul (pc := 5) dX12_doesEnd_5 ?_
  refine A_iadd (pc := 6) dX12_doesEnd_6 ?_
  refine A_top (rx_law k) ?_
  refine A_ialdN (pc := 7) hm (by omega) (by decide) dX12_doesEnd_7 ?_
  refine A_top eK ?_
  by_cases hs8_2 : (nI K) = (2)
  · refine A_lookup (pc := 8) (off := 28) 36 dX12_doesEnd_8 (by decide) (by rw [hs8_2]; decide) (by decide) ?_
    refine A_aload_n (pc := 36) (i := 0) dX12_doesEnd_36 rfl rfl ?_
    refine A_iload_n (pc := 37) (i := 2) dX12_doesEnd_37 rfl rfl ?_
    refine A_iload_n (pc := 38) (i := 3) dX12_doesEnd_38 rfl rfl ?_
    refine A_callS1 (pc := 39) cs_X12_107 (r_areNear l m hm a ha b hb oa ob) rfl rfl (Nat.le_of_ble_eq_true rfl) ⟨(Nat.le_of_ble_eq_true rfl), (Nat.le_of_ble_eq_true rfl)⟩ ⟨Nat.zero_le _, Nat.zero_le _⟩ dX12_doesEnd_39 ?_
    refine A_ifeq (pc := 42) 77 dX12_doesEnd_42 (by decide) (fun hb42 => ?_) (fun hb42 => ?_)
    · refine A_iconst (pc := 77) (0) dX12_doesEnd_77 (by decide) ?_
      exact A_zretE (pc := 78) dX12_doesEnd_78 rfl (by first | exact A_zn0 | exact A_zn1 | exact A_znif _) (Nat.zero_le _) (Nat.zero_le _) (by
              refine (rg_bit_f ?_).symm
              clear hm oa ob eK
              simp only [k2, k4, rg_bit_0, ← Int32.not_le] at *
              simp_all [lw_ends, -Int32.not_le]) (rfl)
    · refine A_aload_n (pc := 45) (i := 0) dX12_doesEnd_45 rfl rfl ?_
      refine A_iload_n (pc := 46) (i := 2) dX12_doesEnd_46 rfl rfl ?_
      refine A_iload_n (pc := 47) (i := 3) dX12_doesEnd_47 rfl rfl ?_
      refine A_callS1 (pc := 48) cs_X12_104 (r_gap l m hm a ha b hb) rfl rfl (Nat.le_of_ble_eq_true rfl) ⟨(Nat.le_of_ble_eq_true rfl), (Nat.le_of_ble_eq_true rfl)⟩ ⟨Nat.zero_le _, Nat.zero_le _⟩ dX12_doesEnd_48 ?_
      refine A_aload_n (pc := 51) (i := 0) dX12_doesEnd_51 rfl rfl ?_
      refine A_bipush (pc := 52) (20) dX12_doesEnd_52 (by decide) ?_
      refine A_iconst (pc := 54) (2) dX12_doesEnd_54 (by decide) ?_
      refine A_iload_n (pc := 55) (i := 1) dX12_doesEnd_55 rfl rfl ?_
      refine A_imul (pc := 56) dX12_doesEnd_56 ?_
      refine A_iadd (pc := 57) dX12_doesEnd_57 ?_
      refine A_iconst (pc := 58) (1) dX12_doesEnd_58 (by decide) ?_
      refine A_iadd (pc := 59) dX12_doesEnd_59 ?_
      refine A_top (rx_lawm k) ?_
      refine A_ialdN (pc := 60) hm (by omega) (by decide) dX12_doesEnd_60 ?_
      refine A_icmpgt (pc := 61) 77 dX12_doesEnd_61 (by decide) (fun hb61 => ?_) (fun hb61 => ?_)
      · refine A_iconst (pc := 77) (0) dX12_doesEnd_77 (by decide) ?_
        exact A_zretE (pc := 78) dX12_doesEnd_78 rfl (by first | exact A_zn0 | exact A_zn1 | exact A_znif _) (Nat.zero_le _) (Nat.zero_le _) (by
                refine (rg_bit_f ?_).symm
                clear hm oa ob eK
                simp only [k2, k4, rg_bit_0, ← Int32.not_le] at *
                simp_all [lw_ends, -Int32.not_le]) (rfl)
      · refine A_aload_n (pc := 64) (i := 0) dX12_doesEnd_64 rfl rfl ?_
        refine A_iload_n (pc := 65) (i := 2) dX12_doesEnd_65 rfl rfl ?_
        refine A_iload_n (pc := 66) (i := 3) dX12_doesEnd_66 rfl rfl ?_
        refine A_callS1 (pc := 67) cs_X12_111 (r_isBehind l m hm a ha b hb oa ob) rfl rfl (Nat.le_of_ble_eq_true rfl) ⟨(Nat.le_of_ble_eq_true rfl), (Nat.le_of_ble_eq_true rfl)⟩ ⟨Nat.zero_le _, Nat.zero_le _⟩ dX12_doesEnd_67 ?_
        refine A_ifeq (pc := 70) 77 dX12_doesEnd_70 (by decide) (fun hb70 => ?_) (fun hb70 => ?_)
        · refine A_iconst (pc := 77) (0) dX12_doesEnd_77 (by decide) ?_
          exact A_zretE (pc := 78) dX12_doesEnd_78 rfl (by first | exact A_zn0 | exact A_zn1 | exact A_znif _) (Nat.zero_le _) (Nat.zero_le _) (by
                  refine (rg_bit_f ?_).symm
                  clear hm oa ob eK
                  simp only [k2, k4, rg_bit_0, ← Int32.not_le] at *
                  simp_all [lw_ends, -Int32.not_le]) (rfl)
        · refine A_iconst (pc := 73) (1) dX12_doesEnd_73 (by decide) ?_
          refine A_goto (pc := 74) 78 dX12_doesEnd_74 (by decide) ?_
          exact A_zretE (pc := 78) dX12_doesEnd_78 rfl (by first | exact A_zn0 | exact A_zn1 | exact A_znif _) (Nat.zero_le _) (Nat.zero_le _) (by
                  refine (rg_bit_t ?_).symm
                  clear hm oa ob eK
                  simp only [k2, k4, rg_bit_0, ← Int32.not_le] at *
                  simp_all [lw_ends, -Int32.not_le]) (rfl)
  by_cases hs8_4 : (nI K) = (4)
  · refine A_lookup (pc := 8) (off := 71) 79 dX12_doesEnd_8 (by decide) (by rw [hs8_4]; decide) (by decide) ?_
    refine A_aload_n (pc := 79) (i := 0) dX12_doesEnd_79 rfl rfl ?_
    refine A_iload_n (pc := 80) (i := 2) dX12_doesEnd_80 rfl rfl ?_
    refine A_iconst (pc := 81) (4) dX12_doesEnd_81 (by decide) ?_
    refine A_callS1 (pc := 82) cs_X12_73 (r_of l m hm a ha 4 5 rfl (by decide)) rfl rfl (Nat.le_of_ble_eq_true rfl) ⟨(Nat.le_of_ble_eq_true rfl), (Nat.le_of_ble_eq_true rfl)⟩ ⟨Nat.zero_le _, Nat.zero_le _⟩ dX12_doesEnd_82 ?_
    refine A_sipush (pc := 85) (150) dX12_doesEnd_85 (by decide) ?_
    refine A_icmplt (pc := 88) 104 dX12_doesEnd_88 (by decide) (fun hb88 => ?_) (fun hb88 => ?_)
    · refine A_iconst (pc := 104) (0) dX12_doesEnd_104 (by decide) ?_
      exact A_zretE (pc := 105) dX12_doesEnd_105 rfl (by first | exact A_zn0 | exact A_zn1 | exact A_znif _) (Nat.zero_le _) (Nat.zero_le _) (by
              refine (rg_bit_f ?_).symm
              clear hm oa ob eK
              simp only [k2, k4, rg_bit_0, ← Int32.not_le] at *
              simp_all [lw_ends, -Int32.not_le]) (rfl)
    · refine A_aload_n (pc := 91) (i := 0) dX12_doesEnd_91 rfl rfl ?_
      refine A_iload_n (pc := 92) (i := 2) dX12_doesEnd_92 rfl rfl ?_
      refine A_iload_n (pc := 93) (i := 3) dX12_doesEnd_93 rfl rfl ?_
      refine A_callS1 (pc := 94) cs_X12_107 (r_areNear l m hm a ha b hb oa ob) rfl rfl (Nat.le_of_ble_eq_true rfl) ⟨(Nat.le_of_ble_eq_true rfl), (Nat.le_of_ble_eq_true rfl)⟩ ⟨Nat.zero_le _, Nat.zero_le _⟩ dX12_doesEnd_94 ?_
      refine A_ifeq (pc := 97) 104 dX12_doesEnd_97 (by decide) (fun hb97 => ?_) (fun hb97 => ?_)
      · refine A_iconst (pc := 104) (0) dX12_doesEnd_104 (by decide) ?_
        exact A_zretE (pc := 105) dX12_doesEnd_105 rfl (by first | exact A_zn0 | exact A_zn1 | exact A_znif _) (Nat.zero_le _) (Nat.zero_le _) (by
                refine (rg_bit_f ?_).symm
                clear hm oa ob eK
                simp only [k2, k4, rg_bit_0, ← Int32.not_le] at *
                simp_all [lw_ends, -Int32.not_le]) (rfl)
      · refine A_iconst (pc := 100) (1) dX12_doesEnd_100 (by decide) ?_
        refine A_goto (pc := 101) 105 dX12_doesEnd_101 (by decide) ?_
        exact A_zretE (pc := 105) dX12_doesEnd_105 rfl (by first | exact A_zn0 | exact A_zn1 | exact A_znif _) (Nat.zero_le _) (Nat.zero_le _) (by
                refine (rg_bit_t ?_).symm
                clear hm oa ob eK
                simp only [k2, k4, rg_bit_0, ← Int32.not_le] at *
                simp_all [lw_ends, -Int32.not_le]) (rfl)
  refine A_lookup (pc := 8) (off := 98) 106 dX12_doesEnd_8 (by decide) (by show Op.lookupswitch.offset [(2, 28), (4, 71)] (98) _ = _; rw [lv_osw (k := (2)) hs8_2 (by decide), lv_osw (k := (4)) hs8_4 (by decide)]; rfl) (by decide) ?_
  refine A_iconst (pc := 106) (0) dX12_doesEnd_106 (by decide) ?_
  exact A_zretE (pc := 107) dX12_doesEnd_107 rfl (by first | exact A_zn0 | exact A_zn1 | exact A_znif _) (Nat.zero_le _) (Nat.zero_le _) (by
          refine (rg_bit_f ?_).symm
          clear hm oa ob eK
          simp only [k2, k4, rg_bit_0, ← Int32.not_le] at *
          simp_all [lw_ends, -Int32.not_le]) (rfl)
