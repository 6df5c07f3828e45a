def rt_opt : Option Nat → Int32
  | none => -1
  | some j => nI j
set_option maxRecDepth 20000 in
theorem r_lawThatEnds (l : Launch) {kd : am_kd} {rv : am_rv} {iv : am_iv} (hR : shr kd rv) (a : Nat) (ha : a < 3) (hm : kd (31, a, 0) = some (.inr (0, 300))) (n nl z : Nat) (lk : Nat → Nat) (ok : rt_ok iv a n nl z lk) (r o : Nat) (hr : r < n) (ho : o < n) : am_Met l mX12_lawThatEnds (am_rm 3 0 0) [am_P (30, 0, 0), am_P (31, a, 0), am_I (nI r), am_I (nI o)] kd rv iv (am_ret (some (am_I (rt_opt (rm_first (rm_endp (iv (31, a, 0) 3) lk (fun j => iv (31, 3, 0) (21 + 2 * j)) (rf iv (31, 3, 0) r) (rf iv (31, 3, 0) o)) nl 0)))) kd rv iv) := by
  refine am_Met.of (by decide) (Nat.le_of_ble_eq_true rfl) rfl ?_
  obtain ⟨hn, hn8, hnl, hnl6, hlw, wl, hro, hz, hz50⟩ := ok
  have hlnn : nl < 2 ^ 31 := by omega
  have loop : ∀ (d j : Nat), j + d = nl → am_W l mX12_lawThatEnds (am_rm 3 0 0) (am_ret (some (am_I (rt_opt (rm_first (rm_endp (iv (31, a, 0) 3) lk (fun j => iv (31, 3, 0) (21 + 2 * j)) (rf iv (31, 3, 0) r) (rf iv (31, 3, 0) o)) d j)))) kd rv iv) 3 [some (am_P (30, 0, 0)), some (am_P (31, a, 0)), some (am_I (nI r)), some (am_I (nI o)), some (am_I (nI j))] [] kd rv iv 0 0 := by
    intro d
    induction d with
    | zero =>
      intro j hj
      have ej : j = nl := hj
      subst ej
      refine A_iload (pc := 3) (i := 4) dX12_lawThatEnds_3 rfl ?_
      refine A_aload_n (pc := 5) (i := 1) dX12_lawThatEnds_5 rfl rfl ?_
      refine A_iconst (pc := 6) (2) dX12_lawThatEnds_6 (by decide) ?_
      refine A_ialdN (pc := 7) (j := 2) hm (by decide) (by decide) dX12_lawThatEnds_7 ?_
      refine A_top hnl ?_
      refine A_icmpge (pc := 8) 46 dX12_lawThatEnds_8 (by decide) (fun hb8 => ?_) (fun hb8 => ?_)
      · refine A_iconst (pc := 46) (-1) dX12_lawThatEnds_46 (by decide) ?_
        exact A_iretE (pc := 47) dX12_lawThatEnds_47 rfl (Nat.zero_le _) (Nat.zero_le _) (rfl) (rfl)
      · exact absurd (nI_le (Nat.le_refl j) hlnn) hb8
    | succ d ih =>
      intro j hj
      have hjl : j < nl := by omega
      obtain ⟨hK, eK, eM⟩ := hlw j hjl
      rw [rm_first]
      refine A_iload (pc := 3) (i := 4) dX12_lawThatEnds_3 rfl ?_
      refine A_aload_n (pc := 5) (i := 1) dX12_lawThatEnds_5 rfl rfl ?_
      refine A_iconst (pc := 6) (2) dX12_lawThatEnds_6 (by decide) ?_
      refine A_ialdN (pc := 7) (j := 2) hm (by decide) (by decide) dX12_lawThatEnds_7 ?_
      refine A_top hnl ?_
      refine A_icmpge (pc := 8) 46 dX12_lawThatEnds_8 (by decide) (fun hb8 => ?_) (fun hb8 => ?_)
      · exact absurd hb8 (nI_ge hjl hlnn)
      · refine A_aload_n (pc := 11) (i := 1) dX12_lawThatEnds_11 rfl rfl ?_
        refine A_iconst (pc := 12) (3) dX12_lawThatEnds_12 (by decide) ?_
        refine A_ialdN (pc := 13) (j := 3) hm (by decide) (by decide) dX12_lawThatEnds_13 ?_
        refine A_iload (pc := 14) (i := 4) dX12_lawThatEnds_14 rfl ?_
        refine A_ishr (pc := 16) dX12_lawThatEnds_16 ?_
        refine A_iconst (pc := 17) (1) dX12_lawThatEnds_17 (by decide) ?_
        refine A_iand (pc := 18) dX12_lawThatEnds_18 ?_
        refine A_iconst (pc := 19) (1) dX12_lawThatEnds_19 (by decide) ?_
        refine A_icmpne (pc := 20) 40 dX12_lawThatEnds_20 (by decide) (fun hb20 => ?_) (fun hb20 => ?_)
        · refine A_inc4 (pc := 40) (nI (j + 1)) dX12_lawThatEnds_40 (nI_1 j) (Nat.le_of_ble_eq_true rfl) rfl ?_
          refine A_goto (pc := 43) 3 dX12_lawThatEnds_43 (by decide) ?_
          have hno : ¬ (rm_endp (iv (31, a, 0) 3) lk (fun j => iv (31, 3, 0) (21 + 2 * j)) (rf iv (31, 3, 0) r) (rf iv (31, 3, 0) o)) j := fun h => hb20 ((rx_on1 _ j).mpr h.1)
          rw [if_neg hno]
          exact ih (j + 1) (by omega)
        · refine A_aload_n (pc := 23) (i := 0) dX12_lawThatEnds_23 rfl rfl ?_
          refine A_getr (pc := 24) 3 fl_X12_19_12 hR.1 rfl hR.w3 dX12_lawThatEnds_24 ?_
          refine A_iload (pc := 27) (i := 4) dX12_lawThatEnds_27 rfl ?_
          refine A_iload_n (pc := 29) (i := 2) dX12_lawThatEnds_29 rfl rfl ?_
          refine A_iload_n (pc := 30) (i := 3) dX12_lawThatEnds_30 rfl rfl ?_
          refine A_callS1 (pc := 31) cs_X12_123 (r_doesEnd l (31, 3, 0) hR.k3 j (by omega) (lk j) hK eK r (by omega) o (by omega) (hro r hr) (hro o ho)) rfl rfl (Nat.le_of_ble_eq_true rfl) ⟨(Nat.le_of_ble_eq_true rfl), (Nat.le_of_ble_eq_true rfl)⟩ ⟨Nat.zero_le _, Nat.zero_le _⟩ dX12_lawThatEnds_31 ?_
          refine A_ifeq (pc := 34) 40 dX12_lawThatEnds_34 (by decide) (fun hb34 => ?_) (fun hb34 => ?_)
          · refine A_inc4 (pc := 40) (nI (j + 1)) dX12_lawThatEnds_40 (nI_1 j) (Nat.le_of_ble_eq_true rfl) rfl ?_
            refine A_goto (pc := 43) 3 dX12_lawThatEnds_43 (by decide) ?_
            have hno : ¬ (rm_endp (iv (31, a, 0) 3) lk (fun j => iv (31, 3, 0) (21 + 2 * j)) (rf iv (31, 3, 0) r) (rf iv (31, 3, 0) o)) j := fun h => (rg_bit_0 _).mp hb34 h.2
            rw [if_neg hno]
            exact ih (j + 1) (by omega)
          · have hyes : (rm_endp (iv (31, a, 0) 3) lk (fun j => iv (31, 3, 0) (21 + 2 * j)) (rf iv (31, 3, 0) r) (rf iv (31, 3, 0) o)) j := ⟨(rx_on1 _ j).mp hb20, Classical.not_not.mp (fun h => hb34 ((rg_bit_0 _).mpr h))⟩
            rw [if_pos hyes]
            refine A_iload (pc := 37) (i := 4) dX12_lawThatEnds_37 rfl ?_
            exact A_iretE (pc := 39) dX12_lawThatEnds_39 rfl (Nat.zero_le _) (Nat.zero_le _) (rfl) (rfl)
  refine A_iconst (pc := 0) (0) dX12_lawThatEnds_0 (by decide) ?_
  refine A_ist4 (pc := 1) dX12_lawThatEnds_1 (Nat.le_of_ble_eq_true rfl) rfl ?_
  exact loop nl 0 (Nat.zero_add nl)
noncomputable def rt_eff (a r k j : Nat) (lk : Nat → Nat) (iv : am_iv) : am_iv := @ite _ (lk j = 2 ∧ ¬ am_ui iv (31, a, 0) (79 + 8 * r + 7) 0 (31, a, 0) (79 + 8 * k + 7) = 0) (Classical.propDecidable _) (am_ui (am_ui iv (31, a, 0) (79 + 8 * r + 7) 0) (31, a, 0) (79 + 8 * k + 4) (sr_held (iv (31, a, 0) (79 + 8 * k + 4) + iv (31, a, 0) (79 + 8 * r + 4)) 0 999)) (am_ui iv (31, a, 0) (79 + 8 * r + 7) 0)
noncomputable def rt_due (a r : Nat) (e : Nat → Option Nat) (lk : Nat → Nat) (iv : am_iv) : Nat → Nat → am_iv
  | 0, _ => iv
  | d + 1, k => match e k with
    | none => rt_due a r e lk iv d (k + 1)
    | some j => rt_eff a r k j lk iv
theorem rt_eff_o {a r k0 j : Nat} {lk : Nat → Nat} {w : am_iv} {q : am_N} {k : Nat} (h : ¬ (q = (31, a, 0) ∧ 80 ≤ k ∧ k < 144)) (hr : r < 8) (hk : k0 < 8) : rt_eff a r k0 j lk w q k = w q k := by
  unfold rt_eff
  split
  · rw [am_ui_n (fun e => h ⟨e.1, by omega⟩), am_ui_n (fun e => h ⟨e.1, by omega⟩)]
  · rw [am_ui_n (fun e => h ⟨e.1, by omega⟩)]
theorem rt_due_o {a r : Nat} {e : Nat → Option Nat} {lk : Nat → Nat} {w : am_iv} {q : am_N} {k : Nat} (h : ¬ (q = (31, a, 0) ∧ 80 ≤ k ∧ k < 144)) (hr : r < 8) : ∀ (d j : Nat), j + d ≤ 8 → rt_due a r e lk w d j q k = w q k := by
  intro d
  induction d with
  | zero => intro j _; rfl
  | succ d ih =>
    intro j hj
    unfold rt_due
    cases e j with
    | none => exact ih (j + 1) (by omega)
    | some x => exact rt_eff_o h hr (by omega)
set_option maxRecDepth 20000 in
theorem r_mayEnd (l : Launch) {kd : am_kd} {rv : am_rv} {iv : am_iv} (hR : shr kd rv) (a : Nat) (ha : a < 3) (hm : kd (31, a, 0) = some (.inr (0, 300))) (n nl z : Nat) (lk : Nat → Nat) (ok : rt_ok iv a n nl z lk) (hb7 : ∀ k, k < n → iv (31, a, 0) (79 + 8 * k + 7) = 0 ∨ iv (31, a, 0) (79 + 8 * k + 7) = 1) (r : Nat) (hr : r < n) : am_Met l mX12_mayEnd (am_rm 4 0 0) [am_P (30, 0, 0), am_P (31, a, 0), am_I (nI r)] kd rv iv (am_ret none kd rv (rt_due a r (fun o => rm_by (iv (31, a, 0) 3) nl lk (fun j => iv (31, 3, 0) (21 + 2 * j)) (rf iv (31, 3, 0) r) (rf iv (31, 3, 0) o)) lk iv n 0)) := by
  refine am_Met.of (by decide) (Nat.le_of_ble_eq_true rfl) rfl ?_
  have ok0 := ok
  obtain ⟨hn, hn8, hnl, hnl6, hlw, wl, hro, hz, hz50⟩ := ok
  have hnn : n < 2 ^ 31 := by omega
  have hr8 : r < 8 := by omega
  have loop : ∀ (d o : Nat) (y : Option am_V), o + d = n → am_W l mX12_mayEnd (am_rm 4 0 0) (am_ret none kd rv (rt_due a r (fun o => rm_by (iv (31, a, 0) 3) nl lk (fun j => iv (31, 3, 0) (21 + 2 * j)) (rf iv (31, 3, 0) r) (rf iv (31, 3, 0) o)) lk iv d o)) 2 [some (am_P (30, 0, 0)), some (am_P (31, a, 0)), some (am_I (nI r)), some (am_I (nI o)), y] [] kd rv iv 0 0 := by
    intro d
    induction d with
    | zero =>
      intro o y hj
      have ej : o = n := hj
      subst ej
      refine A_iload_n (pc := 2) (i := 3) dX12_mayEnd_2 rfl rfl ?_
      refine A_aload_n (pc := 3) (i := 1) dX12_mayEnd_3 rfl rfl ?_
      refine A_iconst (pc := 4) (1) dX12_mayEnd_4 (by decide) ?_
      refine A_ialdN (pc := 5) (j := 1) hm (by decide) (by decide) dX12_mayEnd_5 ?_
      refine A_top hn ?_
      refine A_icmpge (pc := 6) 116 dX12_mayEnd_6 (by decide) (fun hb6 => ?_) (fun hb6 => ?_)
      · exact A_vretE (pc := 116) dX12_mayEnd_116 rfl (Nat.zero_le _) (Nat.zero_le _) (rfl)
      · exact absurd (nI_le (Nat.le_refl o) hnn) hb6
    | succ d ih =>
      intro o y hj
      have ho : o < n := by omega
      have ho8 : o < 8 := by omega
      have go := hro o ho
      have ih2 := fun y => ih (o + 1) y (by omega)
      have eu : rt_due a r (fun o => rm_by (iv (31, a, 0) 3) nl lk (fun j => iv (31, 3, 0) (21 + 2 * j)) (rf iv (31, 3, 0) r) (rf iv (31, 3, 0) o)) lk iv (d + 1) o = (match rm_by (iv (31, a, 0) 3) nl lk (fun j => iv (31, 3, 0) (21 + 2 * j)) (rf iv (31, 3, 0) r) (rf iv (31, 3, 0) o) with | none => rt_due a r (fun o => rm_by (iv (31, a, 0) 3) nl lk (fun j => iv (31, 3, 0) (21 + 2 * j)) (rf iv (31, 3, 0) r) (rf iv (31, 3, 0) o)) lk iv d (o + 1) | some j => rt_eff a r o j lk iv) := rfl
      rw [eu]
      refine A_iload_n (pc := 2) (i := 3) dX12_mayEnd_2 rfl rfl ?_
      refine A_aload_n (pc := 3) (i := 1) dX12_mayEnd_3 rfl rfl ?_
      refine A_iconst (pc := 4) (1) dX12_mayEnd_4 (by decide) ?_
      refine A_ialdN (pc := 5) (j := 1) hm (by decide) (by decide) dX12_mayEnd_5 ?_
      refine A_top hn ?_
      refine A_icmpge (pc := 6) 116 dX12_mayEnd_6 (by decide) (fun hb6 => ?_) (fun hb6 => ?_)
      · exact absurd hb6 (nI_ge ho hnn)
      · refine A_iload_n (pc := 9) (i := 3) dX12_mayEnd_9 rfl rfl ?_
        refine A_iload_n (pc := 10) (i := 2) dX12_mayEnd_10 rfl rfl ?_
        refine A_icmpeq (pc := 11) 35 dX12_mayEnd_11 (by decide) (fun hb11 => ?_) (fun hb11 => ?_)
        · have hno : ¬ rg_other (rf iv (31, 3, 0) r) (rf iv (31, 3, 0) o) := fun h => h.2 hb11
          have eb : rm_by (iv (31, a, 0) 3) nl lk (fun j => iv (31, 3, 0) (21 + 2 * j)) (rf iv (31, 3, 0) r) (rf iv (31, 3, 0) o) = none := by rw [rm_by, if_neg hno]
          rw [eb]
          refine A_iconst (pc := 35) (-1) dX12_mayEnd_35 (by decide) ?_
          refine A_ist4 (pc := 36) dX12_mayEnd_36 (Nat.le_of_ble_eq_true rfl) rfl ?_
          refine A_iload (pc := 38) (i := 4) dX12_mayEnd_38 rfl ?_
          refine A_iflt (pc := 40) 110 dX12_mayEnd_40 (by decide) (fun hb40 => ?_) (fun hb40 => ?_)
          · refine A_inc3 (pc := 110) (nI (o + 1)) dX12_mayEnd_110 (nI_1 o) (Nat.le_of_ble_eq_true rfl) rfl ?_
            refine A_goto (pc := 113) 2 dX12_mayEnd_113 (by decide) ?_
            exact ih2 _
          · exact absurd (show (-1 : Int32) < 0 by decide) hb40
        · refine A_aload_n (pc := 14) (i := 0) dX12_mayEnd_14 rfl rfl ?_
          refine A_getr (pc := 15) 3 fl_X12_19_12 hR.1 rfl hR.w3 dX12_mayEnd_15 ?_
          refine A_iload_n (pc := 18) (i := 3) dX12_mayEnd_18 rfl rfl ?_
          refine A_callS1 (pc := 19) cs_X12_209 (r_isWhole l (31, 3, 0) hR.k3 o ho8) rfl rfl (Nat.le_of_ble_eq_true rfl) ⟨(Nat.le_of_ble_eq_true rfl), (Nat.le_of_ble_eq_true rfl)⟩ ⟨Nat.zero_le _, Nat.zero_le _⟩ dX12_mayEnd_19 ?_
          refine A_ifeq (pc := 22) 35 dX12_mayEnd_22 (by decide) (fun hb22 => ?_) (fun hb22 => ?_)
          · have hno : ¬ rg_other (rf iv (31, 3, 0) r) (rf iv (31, 3, 0) o) := fun h => (sr_b_0 _).mp hb22 ((b01 go.2.2.2.2.2.2).mpr h.1)
            have eb : rm_by (iv (31, a, 0) 3) nl lk (fun j => iv (31, 3, 0) (21 + 2 * j)) (rf iv (31, 3, 0) r) (rf iv (31, 3, 0) o) = none := by rw [rm_by, if_neg hno]
            rw [eb]
            refine A_iconst (pc := 35) (-1) dX12_mayEnd_35 (by decide) ?_
            refine A_ist4 (pc := 36) dX12_mayEnd_36 (Nat.le_of_ble_eq_true rfl) rfl ?_
            refine A_iload (pc := 38) (i := 4) dX12_mayEnd_38 rfl ?_
            refine A_iflt (pc := 40) 110 dX12_mayEnd_40 (by decide) (fun hb40 => ?_) (fun hb40 => ?_)
            · refine A_inc3 (pc := 110) (nI (o + 1)) dX12_mayEnd_110 (nI_1 o) (Nat.le_of_ble_eq_true rfl) rfl ?_
              refine A_goto (pc := 113) 2 dX12_mayEnd_113 (by decide) ?_
              exact ih2 _
            · exact absurd (show (-1 : Int32) < 0 by decide) hb40
          · refine A_aload_n (pc := 25) (i := 0) dX12_mayEnd_25 rfl rfl ?_
            refine A_aload_n (pc := 26) (i := 1) dX12_mayEnd_26 rfl rfl ?_
            refine A_iload_n (pc := 27) (i := 2) dX12_mayEnd_27 rfl rfl ?_
            refine A_iload_n (pc := 28) (i := 3) dX12_mayEnd_28 rfl rfl ?_
            refine A_callV1 (pc := 29) cv_X12_214 (r_lawThatEnds l hR a ha hm n nl z lk ok0 r o hr ho) hR.1 rfl rfl rfl rfl (Nat.le_of_ble_eq_true rfl) ⟨(Nat.le_of_ble_eq_true rfl), (Nat.le_of_ble_eq_true rfl)⟩ ⟨Nat.zero_le _, Nat.zero_le _⟩ dX12_mayEnd_29 ?_
            have hyes : rg_other (rf iv (31, 3, 0) r) (rf iv (31, 3, 0) o) := ⟨(b01 go.2.2.2.2.2.2).mp (Classical.not_not.mp (fun h => hb22 ((sr_b_0 _).mpr h))), hb11⟩
            have eb : rm_by (iv (31, a, 0) 3) nl lk (fun j => iv (31, 3, 0) (21 + 2 * j)) (rf iv (31, 3, 0) r) (rf iv (31, 3, 0) o) = rm_first (rm_endp (iv (31, a, 0) 3) lk (fun j => iv (31, 3, 0) (21 + 2 * j)) (rf iv (31, 3, 0) r) (rf iv (31, 3, 0) o)) nl 0 := by rw [rm_by, if_pos hyes]
            rw [eb]
            cases ef : rm_first (rm_endp (iv (31, a, 0) 3) lk (fun j => iv (31, 3, 0) (21 + 2 * j)) (rf iv (31, 3, 0) r) (rf iv (31, 3, 0) o)) nl 0 with
            | none =>
              refine A_goto (pc := 32) 36 dX12_mayEnd_32 (by decide) ?_
              refine A_ist4 (pc := 36) dX12_mayEnd_36 (Nat.le_of_ble_eq_true rfl) rfl ?_
              refine A_iload (pc := 38) (i := 4) dX12_mayEnd_38 rfl ?_
              refine A_iflt (pc := 40) 110 dX12_mayEnd_40 (by decide) (fun hb40 => ?_) (fun hb40 => ?_)
              · refine A_inc3 (pc := 110) (nI (o + 1)) dX12_mayEnd_110 (nI_1 o) (Nat.le_of_ble_eq_true rfl) rfl ?_
                refine A_goto (pc := 113) 2 dX12_mayEnd_113 (by decide) ?_
                exact ih2 _
              · exact absurd (show (-1 : Int32) < 0 by decide) hb40
            | some j =>
              have hjl : j < nl := by have := rm_first_lt ef; omega
              obtain ⟨hK, eK, eM⟩ := hlw j hjl
              refine A_goto (pc := 32) 36 dX12_mayEnd_32 (by decide) ?_
              refine A_ist4 (pc := 36) dX12_mayEnd_36 (Nat.le_of_ble_eq_true rfl) rfl ?_
              refine A_iload (pc := 38) (i := 4) dX12_mayEnd_38 rfl ?_
              refine A_iflt (pc := 40) 110 dX12_mayEnd_40 (by decide) (fun hb40 => ?_) (fun hb40 => ?_)
              · exact absurd hb40 (nI_pos (by omega))
              · have hw7 : rf (am_ui iv (31, a, 0) (79 + 8 * r + 7) 0) (31, a, 0) o 7 = 0 ∨ rf (am_ui iv (31, a, 0) (79 + 8 * r + 7) 0) (31, a, 0) o 7 = 1 := by
                  show am_ui iv (31, a, 0) (79 + 8 * r + 7) 0 (31, a, 0) (79 + 8 * o + 7) = 0 ∨ am_ui iv (31, a, 0) (79 + 8 * r + 7) 0 (31, a, 0) (79 + 8 * o + 7) = 1
                  by_cases e : o = r
                  · rw [e, am_ui_s]; exact Or.inl rfl
                  · rw [am_ui_n (by omega)]; exact hb7 o ho
                refine A_aload_n (pc := 43) (i := 1) dX12_mayEnd_43 rfl rfl ?_
                refine A_bipush (pc := 44) (80) dX12_mayEnd_44 (by decide) ?_
                refine A_bipush (pc := 46) (8) dX12_mayEnd_46 (by decide) ?_
                refine A_iload_n (pc := 48) (i := 2) dX12_mayEnd_48 rfl rfl ?_
                refine A_imul (pc := 49) dX12_mayEnd_49 ?_
                refine A_iadd (pc := 50) dX12_mayEnd_50 ?_
                refine A_bipush (pc := 51) (6) dX12_mayEnd_51 (by decide) ?_
                refine A_iadd (pc := 53) dX12_mayEnd_53 ?_
                refine A_iconst (pc := 54) (0) dX12_mayEnd_54 (by decide) ?_
                refine A_top2 (rx_ring r 6) ?_
                refine A_iastN (pc := 55) hm (show 79 + 8 * r + (6 + 1) < 300 by omega) (by decide) dX12_mayEnd_55 ?_
                refine A_aload_n (pc := 56) (i := 1) dX12_mayEnd_56 rfl rfl ?_
                refine A_bipush (pc := 57) (20) dX12_mayEnd_57 (by decide) ?_
                refine A_iconst (pc := 59) (2) dX12_mayEnd_59 (by decide) ?_
                refine A_iload (pc := 60) (i := 4) dX12_mayEnd_60 rfl ?_
                refine A_imul (pc := 62) dX12_mayEnd_62 ?_
                refine A_iadd (pc := 63) dX12_mayEnd_63 ?_
                refine A_top (rx_law j) ?_
                refine A_ialdN (pc := 64) hm (by omega) (by decide) dX12_mayEnd_64 ?_
                refine A_top (y := nI (lk j)) ((am_ui_n (by omega)).trans eM) ?_
                refine A_iconst (pc := 65) (2) dX12_mayEnd_65 (by decide) ?_
                refine A_icmpne (pc := 66) 109 dX12_mayEnd_66 (by decide) (fun hb66 => ?_) (fun hb66 => ?_)
                · exact A_vretE (pc := 109) dX12_mayEnd_109 rfl (Nat.zero_le _) (Nat.zero_le _) (by show _ = rt_eff a r o j lk iv; rw [rt_eff, if_neg (fun h => hb66 (by rw [h.1]; rfl))])
                · refine A_aload_n (pc := 69) (i := 1) dX12_mayEnd_69 rfl rfl ?_
                  refine A_iload_n (pc := 70) (i := 3) dX12_mayEnd_70 rfl rfl ?_
                  refine A_callS1 (pc := 71) cs_X12_209 (r_isWhole l (31, a, 0) hm o ho8) rfl rfl (Nat.le_of_ble_eq_true rfl) ⟨(Nat.le_of_ble_eq_true rfl), (Nat.le_of_ble_eq_true rfl)⟩ ⟨Nat.zero_le _, Nat.zero_le _⟩ dX12_mayEnd_71 ?_
                  refine A_ifeq (pc := 74) 109 dX12_mayEnd_74 (by decide) (fun hb74 => ?_) (fun hb74 => ?_)
                  · exact A_vretE (pc := 109) dX12_mayEnd_109 rfl (Nat.zero_le _) (Nat.zero_le _) (by show _ = rt_eff a r o j lk iv; rw [rt_eff, if_neg (fun h => (sr_b_0 _).mp hb74 ((b01 hw7).mpr h.2))])
                  · refine A_aload_n (pc := 77) (i := 1) dX12_mayEnd_77 rfl rfl ?_
                    refine A_bipush (pc := 78) (80) dX12_mayEnd_78 (by decide) ?_
                    refine A_bipush (pc := 80) (8) dX12_mayEnd_80 (by decide) ?_
                    refine A_iload_n (pc := 82) (i := 3) dX12_mayEnd_82 rfl rfl ?_
                    refine A_imul (pc := 83) dX12_mayEnd_83 ?_
                    refine A_iadd (pc := 84) dX12_mayEnd_84 ?_
                    refine A_iconst (pc := 85) (3) dX12_mayEnd_85 (by decide) ?_
                    refine A_iadd (pc := 86) dX12_mayEnd_86 ?_
                    refine A_aload_n (pc := 87) (i := 1) dX12_mayEnd_87 rfl rfl ?_
                    refine A_iload_n (pc := 88) (i := 3) dX12_mayEnd_88 rfl rfl ?_
                    refine A_iconst (pc := 89) (3) dX12_mayEnd_89 (by decide) ?_
                    refine A_callS1 (pc := 90) cs_X12_73 (r_of l (31, a, 0) hm o ho8 3 4 rfl (by decide)) rfl rfl (Nat.le_of_ble_eq_true rfl) ⟨(Nat.le_of_ble_eq_true rfl), (Nat.le_of_ble_eq_true rfl)⟩ ⟨Nat.zero_le _, Nat.zero_le _⟩ dX12_mayEnd_90 ?_
                    refine A_top (y := iv (31, a, 0) (79 + 8 * o + 4)) (am_ui_n (by omega)) ?_
                    refine A_aload_n (pc := 93) (i := 1) dX12_mayEnd_93 rfl rfl ?_
                    refine A_iload_n (pc := 94) (i := 2) dX12_mayEnd_94 rfl rfl ?_
                    refine A_iconst (pc := 95) (3) dX12_mayEnd_95 (by decide) ?_
                    refine A_callS1 (pc := 96) cs_X12_73 (r_of l (31, a, 0) hm r hr8 3 4 rfl (by decide)) rfl rfl (Nat.le_of_ble_eq_true rfl) ⟨(Nat.le_of_ble_eq_true rfl), (Nat.le_of_ble_eq_true rfl)⟩ ⟨Nat.zero_le _, Nat.zero_le _⟩ dX12_mayEnd_96 ?_
                    refine A_top (y := iv (31, a, 0) (79 + 8 * r + 4)) (am_ui_n (by omega)) ?_
                    refine A_iadd (pc := 99) dX12_mayEnd_99 ?_
                    refine A_i2l (pc := 100) dX12_mayEnd_100 ?_
                    refine A_iconst (pc := 101) (0) dX12_mayEnd_101 (by decide) ?_
                    refine A_sipush (pc := 102) (999) dX12_mayEnd_102 (by decide) ?_
                    refine A_callS1 (pc := 105) cs_X12_193 (r_held l _ 0 999) rfl rfl (Nat.le_of_ble_eq_true rfl) ⟨(Nat.le_of_ble_eq_true rfl), (Nat.le_of_ble_eq_true rfl)⟩ ⟨Nat.zero_le _, Nat.zero_le _⟩ dX12_mayEnd_105 ?_
                    refine A_top2 (rx_ring o 3) ?_
                    refine A_iastN (pc := 108) hm (show 79 + 8 * o + (3 + 1) < 300 by omega) (by decide) dX12_mayEnd_108 ?_
                    exact A_vretE (pc := 109) dX12_mayEnd_109 rfl (Nat.zero_le _) (Nat.zero_le _) (by show _ = rt_eff a r o j lk iv; rw [rt_eff, if_pos ⟨(nI_k 2 (by decide) hK).mp hb66, (b01 hw7).mp (Classical.not_not.mp (fun h => hb74 ((sr_b_0 _).mpr h)))⟩])
  refine A_iconst (pc := 0) (0) dX12_mayEnd_0 (by decide) ?_
  refine A_ist3 (pc := 1) dX12_mayEnd_1 (Nat.le_of_ble_eq_true rfl) rfl ?_
  exact loop n 0 none (Nat.zero_add n)
