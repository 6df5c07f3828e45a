/-! the reference's objects by name: (30, 0, 0) the object, (31, s, 0) the array of its field s -/
def shr (kd : am_kd) (rv : am_rv) : Prop := kd (30, 0, 0) = some (.inl 12) ∧ (kd (31, 0, 0) = some (.inr (0, 300)) ∧ rv (30, 0, 0) 0 = some (31, 0, 0)) ∧ (kd (31, 1, 0) = some (.inr (0, 300)) ∧ rv (30, 0, 0) 1 = some (31, 1, 0)) ∧ (kd (31, 2, 0) = some (.inr (0, 300)) ∧ rv (30, 0, 0) 2 = some (31, 2, 0)) ∧ (kd (31, 3, 0) = some (.inr (0, 300)) ∧ rv (30, 0, 0) 3 = some (31, 3, 0)) ∧ (kd (31, 4, 0) = some (.inr (0, 300)) ∧ rv (30, 0, 0) 4 = some (31, 4, 0)) ∧ (kd (31, 6, 0) = some (.inr (0, 6)) ∧ rv (30, 0, 0) 6 = some (31, 6, 0)) ∧ (kd (31, 13, 0) = some (.inr (0, 3)) ∧ rv (30, 0, 0) 13 = some (31, 13, 0)) ∧ (kd (31, 14, 0) = some (.inr (0, 40)) ∧ rv (30, 0, 0) 14 = some (31, 14, 0)) ∧ (kd (31, 17, 0) = some (.inr (0, 4)) ∧ rv (30, 0, 0) 17 = some (31, 17, 0)) ∧ (kd (31, 18, 0) = some (.inr (0, 4)) ∧ rv (30, 0, 0) 18 = some (31, 18, 0)) ∧ (kd (31, 19, 0) = some (.inr (0, 160)) ∧ rv (30, 0, 0) 19 = some (31, 19, 0)) ∧ (kd (31, 20, 0) = some (.inr (0, 40)) ∧ rv (30, 0, 0) 20 = some (31, 20, 0))
theorem shr.k (kd : am_kd) (rv : am_rv) (h : shr kd rv) : kd (30, 0, 0) = some (.inl 12) := h.1
theorem shr.k0 {kd : am_kd} {rv : am_rv} (h : shr kd rv) : kd (31, 0, 0) = some (.inr (0, 300)) := h.2.1.1
theorem shr.w0 {kd : am_kd} {rv : am_rv} (h : shr kd rv) : rv (30, 0, 0) 0 = some (31, 0, 0) := h.2.1.2
theorem shr.k1 {kd : am_kd} {rv : am_rv} (h : shr kd rv) : kd (31, 1, 0) = some (.inr (0, 300)) := h.2.2.1.1
theorem shr.w1 {kd : am_kd} {rv : am_rv} (h : shr kd rv) : rv (30, 0, 0) 1 = some (31, 1, 0) := h.2.2.1.2
theorem shr.k2 {kd : am_kd} {rv : am_rv} (h : shr kd rv) : kd (31, 2, 0) = some (.inr (0, 300)) := h.2.2.2.1.1
theorem shr.w2 {kd : am_kd} {rv : am_rv} (h : shr kd rv) : rv (30, 0, 0) 2 = some (31, 2, 0) := h.2.2.2.1.2
theorem shr.k3 {kd : am_kd} {rv : am_rv} (h : shr kd rv) : kd (31, 3, 0) = some (.inr (0, 300)) := h.2.2.2.2.1.1
theorem shr.w3 {kd : am_kd} {rv : am_rv} (h : shr kd rv) : rv (30, 0, 0) 3 = some (31, 3, 0) := h.2.2.2.2.1.2
theorem shr.k4 {kd : am_kd} {rv : am_rv} (h : shr kd rv) : kd (31, 4, 0) = some (.inr (0, 300)) := h.2.2.2.2.2.1.1
theorem shr.w4 {kd : am_kd} {rv : am_rv} (h : shr kd rv) : rv (30, 0, 0) 4 = some (31, 4, 0) := h.2.2.2.2.2.1.2
theorem shr.k6 {kd : am_kd} {rv : am_rv} (h : shr kd rv) : kd (31, 6, 0) = some (.inr (0, 6)) := h.2.2.2.2.2.2.1.1
theorem shr.w6 {kd : am_kd} {rv : am_rv} (h : shr kd rv) : rv (30, 0, 0) 6 = some (31, 6, 0) := h.2.2.2.2.2.2.1.2
theorem shr.k13 {kd : am_kd} {rv : am_rv} (h : shr kd rv) : kd (31, 13, 0) = some (.inr (0, 3)) := h.2.2.2.2.2.2.2.1.1
theorem shr.w13 {kd : am_kd} {rv : am_rv} (h : shr kd rv) : rv (30, 0, 0) 13 = some (31, 13, 0) := h.2.2.2.2.2.2.2.1.2
theorem shr.k14 {kd : am_kd} {rv : am_rv} (h : shr kd rv) : kd (31, 14, 0) = some (.inr (0, 40)) := h.2.2.2.2.2.2.2.2.1.1
theorem shr.w14 {kd : am_kd} {rv : am_rv} (h : shr kd rv) : rv (30, 0, 0) 14 = some (31, 14, 0) := h.2.2.2.2.2.2.2.2.1.2
theorem shr.k17 {kd : am_kd} {rv : am_rv} (h : shr kd rv) : kd (31, 17, 0) = some (.inr (0, 4)) := h.2.2.2.2.2.2.2.2.2.1.1
theorem shr.w17 {kd : am_kd} {rv : am_rv} (h : shr kd rv) : rv (30, 0, 0) 17 = some (31, 17, 0) := h.2.2.2.2.2.2.2.2.2.1.2
theorem shr.k18 {kd : am_kd} {rv : am_rv} (h : shr kd rv) : kd (31, 18, 0) = some (.inr (0, 4)) := h.2.2.2.2.2.2.2.2.2.2.1.1
theorem shr.w18 {kd : am_kd} {rv : am_rv} (h : shr kd rv) : rv (30, 0, 0) 18 = some (31, 18, 0) := h.2.2.2.2.2.2.2.2.2.2.1.2
theorem shr.k19 {kd : am_kd} {rv : am_rv} (h : shr kd rv) : kd (31, 19, 0) = some (.inr (0, 160)) := h.2.2.2.2.2.2.2.2.2.2.2.1.1
theorem shr.w19 {kd : am_kd} {rv : am_rv} (h : shr kd rv) : rv (30, 0, 0) 19 = some (31, 19, 0) := h.2.2.2.2.2.2.2.2.2.2.2.1.2
theorem shr.k20 {kd : am_kd} {rv : am_rv} (h : shr kd rv) : kd (31, 20, 0) = some (.inr (0, 40)) := h.2.2.2.2.2.2.2.2.2.2.2.2.1
theorem shr.w20 {kd : am_kd} {rv : am_rv} (h : shr kd rv) : rv (30, 0, 0) 20 = some (31, 20, 0) := h.2.2.2.2.2.2.2.2.2.2.2.2.2
def rx_find (k : Nat) (iv : am_iv) : am_iv := am_ui iv (31, 6, 0) k (iv (31, 6, 0) k + 1)
theorem nI_subI (k : Nat) : (-1000000000 : Int32) - nI k = -1000000000 - nI k := rfl
set_option maxRecDepth 20000 in
theorem r_finds (l : Launch) {kd : am_kd} {rv : am_rv} {iv : am_iv} (hR : shr kd rv) (k : Nat) (hk : k < 6) : am_Met l mX12_finds (am_rm 0 0 0) [am_P (30, 0, 0), am_I (nI k)] kd rv iv (am_ret (some (am_I (-1000000000 - nI k))) kd rv (rx_find k iv)) := by
  refine am_Met.of (by decide) (Nat.le_of_ble_eq_true rfl) rfl ?_
  refine A_aload_n (pc := 0) (i := 0) dX12_finds_0 rfl rfl ?_
  refine A_getr (pc := 1) 6 fl_X12_25_12 hR.1 rfl hR.w6 dX12_finds_1 ?_
  refine A_iload_n (pc := 4) (i := 1) dX12_finds_4 rfl rfl ?_
  refine A_dup2 (pc := 5) dX12_finds_5 rfl rfl ?_
  refine A_ialdN (pc := 6) hR.k6 hk (by decide) dX12_finds_6 ?_
  refine A_iconst (pc := 7) (1) dX12_finds_7 (by decide) ?_
  refine A_iadd (pc := 8) dX12_finds_8 ?_
  refine A_iastN (pc := 9) hR.k6 hk (by decide) dX12_finds_9 ?_
  refine A_ldc (pc := 10) (List.mem_cons_of_mem _ kc_X12_47) dX12_finds_10 ?_
  refine A_iload_n (pc := 12) (i := 1) dX12_finds_12 rfl rfl ?_
  refine A_isub (pc := 13) dX12_finds_13 ?_
  exact A_iretE (pc := 14) dX12_finds_14 rfl (Nat.zero_le _) (Nat.zero_le _) (rfl) (rfl)
set_option maxRecDepth 20000 in
theorem r_isRing (l : Launch) {kd : am_kd} {rv : am_rv} {iv : am_iv} (hR : shr kd rv) (r : Int32) : am_Met l mX12_isRing (am_rm 1 0 0) [am_P (30, 0, 0), am_I r] kd rv iv (am_ret (some (am_I (sr_b (0 ≤ r ∧ r ≤ iv (31, 0, 0) 1 - 1)))) kd rv iv) := by
  refine am_Met.of (by decide) (Nat.le_of_ble_eq_true rfl) rfl ?_
  refine A_iload_n (pc := 0) (i := 1) dX12_isRing_0 rfl rfl ?_
  refine A_i2l (pc := 1) dX12_isRing_1 ?_
  refine A_lconst (pc := 2) (0) dX12_isRing_2 (by decide) ?_
  refine A_topJ (y := Int32.toInt64 (0)) (by decide +kernel) ?_
  refine A_aload_n (pc := 3) (i := 0) dX12_isRing_3 rfl rfl ?_
  refine A_getr (pc := 4) 0 fl_X12_7_12 hR.1 rfl hR.w0 dX12_isRing_4 ?_
  refine A_iconst (pc := 7) (1) dX12_isRing_7 (by decide) ?_
  refine A_ialdN (pc := 8) (j := 1) hR.k0 (by decide) (by decide) dX12_isRing_8 ?_
  refine A_iconst (pc := 9) (1) dX12_isRing_9 (by decide) ?_
  refine A_isub (pc := 10) dX12_isRing_10 ?_
  refine A_i2l (pc := 11) dX12_isRing_11 ?_
  refine A_callS1 (pc := 12) cs_X12_48 (r_in l r 0 (iv (31, 0, 0) 1 - 1)) rfl rfl (Nat.le_of_ble_eq_true rfl) ⟨(Nat.le_of_ble_eq_true rfl), (Nat.le_of_ble_eq_true rfl)⟩ ⟨Nat.zero_le _, Nat.zero_le _⟩ dX12_isRing_12 ?_
  exact A_zretE (pc := 15) dX12_isRing_15 rfl (by first | exact A_zn0 | exact A_zn1 | exact A_znif _) (Nat.zero_le _) (Nat.zero_le _) (rfl) (rfl)
set_option maxRecDepth 20000 in
theorem r_isLaw (l : Launch) {kd : am_kd} {rv : am_rv} {iv : am_iv} (hR : shr kd rv) (r : Int32) : am_Met l mX12_isLaw (am_rm 1 0 0) [am_P (30, 0, 0), am_I r] kd rv iv (am_ret (some (am_I (sr_b (0 ≤ r ∧ r ≤ iv (31, 0, 0) 2 - 1)))) kd rv iv) := by
  refine am_Met.of (by decide) (Nat.le_of_ble_eq_true rfl) rfl ?_
  refine A_iload_n (pc := 0) (i := 1) dX12_isLaw_0 rfl rfl ?_
  refine A_i2l (pc := 1) dX12_isLaw_1 ?_
  refine A_lconst (pc := 2) (0) dX12_isLaw_2 (by decide) ?_
  refine A_topJ (y := Int32.toInt64 (0)) (by decide +kernel) ?_
  refine A_aload_n (pc := 3) (i := 0) dX12_isLaw_3 rfl rfl ?_
  refine A_getr (pc := 4) 0 fl_X12_7_12 hR.1 rfl hR.w0 dX12_isLaw_4 ?_
  refine A_iconst (pc := 7) (2) dX12_isLaw_7 (by decide) ?_
  refine A_ialdN (pc := 8) (j := 2) hR.k0 (by decide) (by decide) dX12_isLaw_8 ?_
  refine A_iconst (pc := 9) (1) dX12_isLaw_9 (by decide) ?_
  refine A_isub (pc := 10) dX12_isLaw_10 ?_
  refine A_i2l (pc := 11) dX12_isLaw_11 ?_
  refine A_callS1 (pc := 12) cs_X12_48 (r_in l r 0 (iv (31, 0, 0) 2 - 1)) rfl rfl (Nat.le_of_ble_eq_true rfl) ⟨(Nat.le_of_ble_eq_true rfl), (Nat.le_of_ble_eq_true rfl)⟩ ⟨Nat.zero_le _, Nat.zero_le _⟩ dX12_isLaw_12 ?_
  exact A_zretE (pc := 15) dX12_isLaw_15 rfl (by first | exact A_zn0 | exact A_zn1 | exact A_znif _) (Nat.zero_le _) (Nat.zero_le _) (rfl) (rfl)
set_option maxRecDepth 20000 in
theorem r_isSheet (l : Launch) {kd : am_kd} {rv : am_rv} {iv : am_iv} (r : Int32) : am_Met l mX12_isSheet (am_rm 1 0 0) [am_I r] kd rv iv (am_ret (some (am_I (sr_b (0 ≤ r ∧ r ≤ 3)))) kd rv iv) := by
  refine am_Met.of (by decide) (Nat.le_of_ble_eq_true rfl) rfl ?_
  refine A_iload_n (pc := 0) (i := 0) dX12_isSheet_0 rfl rfl ?_
  refine A_i2l (pc := 1) dX12_isSheet_1 ?_
  refine A_lconst (pc := 2) (0) dX12_isSheet_2 (by decide) ?_
  refine A_topJ (y := Int32.toInt64 (0)) (by decide +kernel) ?_
  refine A_ldc2 (pc := 3) (List.mem_cons_of_mem _ kc_X12_117) dX12_isSheet_3 ?_
  refine A_topJ (y := Int32.toInt64 (3)) (by decide +kernel) ?_
  refine A_callS1 (pc := 6) cs_X12_48 (r_in l r 0 3) rfl rfl (Nat.le_of_ble_eq_true rfl) ⟨(Nat.le_of_ble_eq_true rfl), (Nat.le_of_ble_eq_true rfl)⟩ ⟨Nat.zero_le _, Nat.zero_le _⟩ dX12_isSheet_6 ?_
  exact A_zretE (pc := 9) dX12_isSheet_9 rfl (by first | exact A_zn0 | exact A_zn1 | exact A_znif _) (Nat.zero_le _) (Nat.zero_le _) (rfl) (rfl)
set_option maxRecDepth 20000 in
theorem r_isAhead (l : Launch) {kd : am_kd} {rv : am_rv} {iv : am_iv} (r : Int32) : am_Met l mX12_isAhead (am_rm 1 0 0) [am_I r] kd rv iv (am_ret (some (am_I (sr_b (0 ≤ r ∧ r ≤ 60)))) kd rv iv) := by
  refine am_Met.of (by decide) (Nat.le_of_ble_eq_true rfl) rfl ?_
  refine A_iload_n (pc := 0) (i := 0) dX12_isAhead_0 rfl rfl ?_
  refine A_i2l (pc := 1) dX12_isAhead_1 ?_
  refine A_lconst (pc := 2) (0) dX12_isAhead_2 (by decide) ?_
  refine A_topJ (y := Int32.toInt64 (0)) (by decide +kernel) ?_
  refine A_ldc2 (pc := 3) (List.mem_cons_of_mem _ kc_X12_238) dX12_isAhead_3 ?_
  refine A_topJ (y := Int32.toInt64 (60)) (by decide +kernel) ?_
  refine A_callS1 (pc := 6) cs_X12_48 (r_in l r 0 60) rfl rfl (Nat.le_of_ble_eq_true rfl) ⟨(Nat.le_of_ble_eq_true rfl), (Nat.le_of_ble_eq_true rfl)⟩ ⟨Nat.zero_le _, Nat.zero_le _⟩ dX12_isAhead_6 ?_
  exact A_zretE (pc := 9) dX12_isAhead_9 rfl (by first | exact A_zn0 | exact A_zn1 | exact A_znif _) (Nat.zero_le _) (Nat.zero_le _) (rfl) (rfl)
set_option maxRecDepth 20000 in
theorem r_trailsOf (l : Launch) {kd : am_kd} {rv : am_rv} {iv : am_iv} (hR : shr kd rv) (x : Int32) : am_Met l mX12_trailsOf (am_rm 0 0 0) [am_P (30, 0, 0), am_I x] kd rv iv (am_ret (some (am_I (if x ≤ 4 * iv (31, 0, 0) 5 then 0 else x - 4 * iv (31, 0, 0) 5))) kd rv iv) := by
  refine am_Met.of (by decide) (Nat.le_of_ble_eq_true rfl) rfl ?_
  refine A_iload_n (pc := 0) (i := 1) dX12_trailsOf_0 rfl rfl ?_
  refine A_iconst (pc := 1) (4) dX12_trailsOf_1 (by decide) ?_
  refine A_aload_n (pc := 2) (i := 0) dX12_trailsOf_2 rfl rfl ?_
  refine A_getr (pc := 3) 0 fl_X12_7_12 hR.1 rfl hR.w0 dX12_trailsOf_3 ?_
  refine A_iconst (pc := 6) (5) dX12_trailsOf_6 (by decide) ?_
  refine A_ialdN (pc := 7) (j := 5) hR.k0 (by decide) (by decide) dX12_trailsOf_7 ?_
  refine A_imul (pc := 8) dX12_trailsOf_8 ?_
  refine A_icmple (pc := 9) 25 dX12_trailsOf_9 (by decide) (fun hb9 => ?_) (fun hb9 => ?_)
  · refine A_iconst (pc := 25) (0) dX12_trailsOf_25 (by decide) ?_
    exact A_iretE (pc := 26) dX12_trailsOf_26 rfl (Nat.zero_le _) (Nat.zero_le _) ((if_pos hb9).symm) (rfl)
  · refine A_iload_n (pc := 12) (i := 1) dX12_trailsOf_12 rfl rfl ?_
    refine A_iconst (pc := 13) (4) dX12_trailsOf_13 (by decide) ?_
    refine A_aload_n (pc := 14) (i := 0) dX12_trailsOf_14 rfl rfl ?_
    refine A_getr (pc := 15) 0 fl_X12_7_12 hR.1 rfl hR.w0 dX12_trailsOf_15 ?_
    refine A_iconst (pc := 18) (5) dX12_trailsOf_18 (by decide) ?_
    refine A_ialdN (pc := 19) (j := 5) hR.k0 (by decide) (by decide) dX12_trailsOf_19 ?_
    refine A_imul (pc := 20) dX12_trailsOf_20 ?_
    refine A_isub (pc := 21) dX12_trailsOf_21 ?_
    refine A_goto (pc := 22) 26 dX12_trailsOf_22 (by decide) ?_
    exact A_iretE (pc := 26) dX12_trailsOf_26 rfl (Nat.zero_le _) (Nat.zero_le _) ((if_neg hb9).symm) (rfl)
def rx_cp (f t : am_N) (iv : am_iv) (j : Nat) : am_iv := fun n k => if n = t ∧ k < j then iv f k else iv n k
theorem rx_cp_0 (f t : am_N) (iv : am_iv) : rx_cp f t iv 0 = iv := by
  funext n k
  simp [rx_cp]
theorem rx_cp_s {f t : am_N} {iv : am_iv} (h : f ≠ t) (j : Nat) : am_ui (rx_cp f t iv j) t j (rx_cp f t iv j f j) = rx_cp f t iv (j + 1) := by
  funext n k
  simp only [am_ui, rx_cp]
  by_cases e : n = t
  · subst e
    by_cases q : k = j
    · subst q; simp [h]
    · by_cases w : k < j
      · simp [q, w, show k < j + 1 by omega]
      · simp [q, w, show ¬ k < j + 1 by omega]
  · simp [e]
set_option maxRecDepth 20000 in
theorem r_copies (l : Launch) {kd : am_kd} {rv : am_rv} {iv : am_iv} (f t : am_N) (hf : kd f = some (.inr (0, 300))) (ht : kd t = some (.inr (0, 300))) (hne : f ≠ t) : am_Met l mX12_copies (am_rm 0 0 0) [am_P f, am_P t] kd rv iv (am_ret none kd rv (rx_cp f t iv 300)) := by
  refine am_Met.of (by decide) (Nat.le_of_ble_eq_true rfl) rfl ?_
  have loop := am_for (fun j => am_W l mX12_copies (am_rm 0 0 0) (am_ret none kd rv (rx_cp f t iv 300)) 2 [some (am_P f), some (am_P t), some (am_I (nI j))] [] kd rv (rx_cp f t iv j) 0 0) 300 ?_ (fun j hj ih => ?_) 0 (Nat.zero_le 300)
  · refine A_iconst (pc := 0) (0) dX12_copies_0 (by decide) ?_
    refine A_ist2 (pc := 1) dX12_copies_1 (Nat.le_of_ble_eq_true rfl) rfl ?_
    rw [rx_cp_0] at loop
    exact loop
  · refine A_iload_n (pc := 2) (i := 2) dX12_copies_2 rfl rfl ?_
    refine A_sipush (pc := 3) (300) dX12_copies_3 (by decide) ?_
    refine A_icmpge (pc := 6) 21 dX12_copies_6 (by decide) (fun hb6 => ?_) (fun hb6 => ?_)
    · exact A_vretE (pc := 21) dX12_copies_21 rfl (Nat.zero_le _) (Nat.zero_le _) (rfl)
    · exact absurd (show (300 : Int32) ≤ nI 300 by decide) hb6
  · refine A_iload_n (pc := 2) (i := 2) dX12_copies_2 rfl rfl ?_
    refine A_sipush (pc := 3) (300) dX12_copies_3 (by decide) ?_
    refine A_icmpge (pc := 6) 21 dX12_copies_6 (by decide) (fun hb6 => ?_) (fun hb6 => ?_)
    · have h6 : ¬ nI 300 ≤ nI j := nI_ge hj (by decide)
      exact absurd hb6 h6
    · refine A_aload_n (pc := 9) (i := 1) dX12_copies_9 rfl rfl ?_
      refine A_iload_n (pc := 10) (i := 2) dX12_copies_10 rfl rfl ?_
      refine A_aload_n (pc := 11) (i := 0) dX12_copies_11 rfl rfl ?_
      refine A_iload_n (pc := 12) (i := 2) dX12_copies_12 rfl rfl ?_
      refine A_ialdN (pc := 13) hf hj (by decide) dX12_copies_13 ?_
      refine A_iastN (pc := 14) ht hj (by decide) dX12_copies_14 ?_
      refine A_heap (rx_cp_s hne j) ?_
      refine A_inc2 (pc := 15) (nI (j + 1)) dX12_copies_15 (nI_1 j) (Nat.le_of_ble_eq_true rfl) rfl ?_
      refine A_goto (pc := 18) 2 dX12_copies_18 (by decide) ?_
      exact ih
theorem rx_base (r : Nat) : (80 : Int32) + 8 * nI r = nI (80 + 8 * r) := by
  show nI 80 + nI 8 * nI r = _
  rw [mI_mul, mI_add]
theorem rx_at (r c : Nat) : nI (80 + 8 * r) + nI c = nI (79 + 8 * r + (c + 1)) := by
  rw [mI_add]
  exact congrArg nI (by omega)
def rx_ring7 (m : am_N) (n : Nat) (x y w t wd tk : Int32) (iv : am_iv) : am_iv := am_ui (am_ui (am_ui (am_ui (am_ui (am_ui (am_ui iv m (79 + 8 * n + 1) x) m (79 + 8 * n + 2) y) m (79 + 8 * n + 3) w) m (79 + 8 * n + 4) t) m (79 + 8 * n + 5) wd) m (79 + 8 * n + 6) tk) m (79 + 8 * n + 7) 1
def rx_add (m : am_N) (n : Nat) (x y w t wd tk : Int32) (iv : am_iv) : am_iv := am_ui (rx_ring7 m n x y w t wd tk iv) m 1 (nI (n + 1))
theorem rx_ring7_1 {m : am_N} {n k : Nat} {x y w t wd tk : Int32} {iv : am_iv} (hk : k < 80) : rx_ring7 m n x y w t wd tk iv m k = iv m k := by
  unfold rx_ring7
  rw [am_ui_n (by omega), am_ui_n (by omega), am_ui_n (by omega), am_ui_n (by omega), am_ui_n (by omega), am_ui_n (by omega), am_ui_n (by omega)]
theorem nI_p1 (n : Nat) : nI (n + 1) - 1 = nI n := by
  rw [← nI_1, Int32.add_sub_cancel]
set_option maxRecDepth 20000 in
theorem r_adds (l : Launch) {kd : am_kd} {rv : am_rv} {iv : am_iv} (m : am_N) (hm : kd m = some (.inr (0, 300))) (n : Nat) (hn : iv m 1 = nI n) (hn8 : n < 8) (x y w t wd tk : Int32) : am_Met l mX12_adds (am_rm 0 0 0) [am_P m, am_I x, am_I y, am_I w, am_I t, am_I wd, am_I tk] kd rv iv (am_ret (some (am_I (nI n))) kd rv (rx_add m n x y w t wd tk iv)) := by
  refine am_Met.of (by decide) (Nat.le_of_ble_eq_true rfl) rfl ?_
  refine A_bipush (pc := 0) (80) dX12_adds_0 (by decide) ?_
  refine A_bipush (pc := 2) (8) dX12_adds_2 (by decide) ?_
  refine A_aload_n (pc := 4) (i := 0) dX12_adds_4 rfl rfl ?_
  refine A_iconst (pc := 5) (1) dX12_adds_5 (by decide) ?_
  refine A_ialdN (pc := 6) (j := 1) hm (by decide) (by decide) dX12_adds_6 ?_
  refine A_top hn ?_
  refine A_imul (pc := 7) dX12_adds_7 ?_
  refine A_iadd (pc := 8) dX12_adds_8 ?_
  refine A_top (rx_base n) ?_
  refine A_ist7 (pc := 9) dX12_adds_9 (Nat.le_of_ble_eq_true rfl) rfl ?_
  refine A_aload_n (pc := 11) (i := 0) dX12_adds_11 rfl rfl ?_
  refine A_iload (pc := 12) (i := 7) dX12_adds_12 rfl ?_
  refine A_iconst (pc := 14) (0) dX12_adds_14 (by decide) ?_
  refine A_iadd (pc := 15) dX12_adds_15 ?_
  refine A_iload_n (pc := 16) (i := 1) dX12_adds_16 rfl rfl ?_
  refine A_top2 (rx_at n 0) ?_
  refine A_iastN (pc := 17) hm (show 79 + 8 * n + (0 + 1) < 300 by omega) (by decide) dX12_adds_17 ?_
  refine A_aload_n (pc := 18) (i := 0) dX12_adds_18 rfl rfl ?_
  refine A_iload (pc := 19) (i := 7) dX12_adds_19 rfl ?_
  refine A_iconst (pc := 21) (1) dX12_adds_21 (by decide) ?_
  refine A_iadd (pc := 22) dX12_adds_22 ?_
  refine A_iload_n (pc := 23) (i := 2) dX12_adds_23 rfl rfl ?_
  refine A_top2 (rx_at n 1) ?_
  refine A_iastN (pc := 24) hm (show 79 + 8 * n + (1 + 1) < 300 by omega) (by decide) dX12_adds_24 ?_
  refine A_aload_n (pc := 25) (i := 0) dX12_adds_25 rfl rfl ?_
  refine A_iload (pc := 26) (i := 7) dX12_adds_26 rfl ?_
  refine A_iconst (pc := 28) (2) dX12_adds_28 (by decide) ?_
  refine A_iadd (pc := 29) dX12_adds_29 ?_
  refine A_iload_n (pc := 30) (i := 3) dX12_adds_30 rfl rfl ?_
  refine A_top2 (rx_at n 2) ?_
  refine A_iastN (pc := 31) hm (show 79 + 8 * n + (2 + 1) < 300 by omega) (by decide) dX12_adds_31 ?_
  refine A_aload_n (pc := 32) (i := 0) dX12_adds_32 rfl rfl ?_
  refine A_iload (pc := 33) (i := 7) dX12_adds_33 rfl ?_
  refine A_iconst (pc := 35) (3) dX12_adds_35 (by decide) ?_
  refine A_iadd (pc := 36) dX12_adds_36 ?_
  refine A_iload (pc := 37) (i := 4) dX12_adds_37 rfl ?_
  refine A_top2 (rx_at n 3) ?_
  refine A_iastN (pc := 39) hm (show 79 + 8 * n + (3 + 1) < 300 by omega) (by decide) dX12_adds_39 ?_
  refine A_aload_n (pc := 40) (i := 0) dX12_adds_40 rfl rfl ?_
  refine A_iload (pc := 41) (i := 7) dX12_adds_41 rfl ?_
  refine A_iconst (pc := 43) (4) dX12_adds_43 (by decide) ?_
  refine A_iadd (pc := 44) dX12_adds_44 ?_
  refine A_iload (pc := 45) (i := 5) dX12_adds_45 rfl ?_
  refine A_top2 (rx_at n 4) ?_
  refine A_iastN (pc := 47) hm (show 79 + 8 * n + (4 + 1) < 300 by omega) (by decide) dX12_adds_47 ?_
  refine A_aload_n (pc := 48) (i := 0) dX12_adds_48 rfl rfl ?_
  refine A_iload (pc := 49) (i := 7) dX12_adds_49 rfl ?_
  refine A_iconst (pc := 51) (5) dX12_adds_51 (by decide) ?_
  refine A_iadd (pc := 52) dX12_adds_52 ?_
  refine A_iload (pc := 53) (i := 6) dX12_adds_53 rfl ?_
  refine A_top2 (rx_at n 5) ?_
  refine A_iastN (pc := 55) hm (show 79 + 8 * n + (5 + 1) < 300 by omega) (by decide) dX12_adds_55 ?_
  refine A_aload_n (pc := 56) (i := 0) dX12_adds_56 rfl rfl ?_
  refine A_iload (pc := 57) (i := 7) dX12_adds_57 rfl ?_
  refine A_bipush (pc := 59) (6) dX12_adds_59 (by decide) ?_
  refine A_iadd (pc := 61) dX12_adds_61 ?_
  refine A_iconst (pc := 62) (1) dX12_adds_62 (by decide) ?_
  refine A_top2 (rx_at n 6) ?_
  refine A_iastN (pc := 63) hm (show 79 + 8 * n + (6 + 1) < 300 by omega) (by decide) dX12_adds_63 ?_
  refine A_aload_n (pc := 64) (i := 0) dX12_adds_64 rfl rfl ?_
  refine A_iconst (pc := 65) (1) dX12_adds_65 (by decide) ?_
  refine A_dup2 (pc := 66) dX12_adds_66 rfl rfl ?_
  refine A_ialdN (pc := 67) (j := 1) hm (by decide) (by decide) dX12_adds_67 ?_
  refine A_top ((rx_ring7_1 (n := n) (by decide)).trans hn) ?_
  refine A_iconst (pc := 68) (1) dX12_adds_68 (by decide) ?_
  refine A_iadd (pc := 69) dX12_adds_69 ?_
  refine A_top (nI_1 n) ?_
  refine A_iastN (pc := 70) (j := 1) hm (by decide) (by decide) dX12_adds_70 ?_
  refine A_aload_n (pc := 71) (i := 0) dX12_adds_71 rfl rfl ?_
  refine A_iconst (pc := 72) (1) dX12_adds_72 (by decide) ?_
  refine A_ialdN (pc := 73) (j := 1) hm (by decide) (by decide) dX12_adds_73 ?_
  refine A_top (am_ui_s _ _ _ _) ?_
  refine A_iconst (pc := 74) (1) dX12_adds_74 (by decide) ?_
  refine A_isub (pc := 75) dX12_adds_75 ?_
  exact A_iretE (pc := 76) dX12_adds_76 rfl (Nat.zero_le _) (Nat.zero_le _) (nI_p1 n) (rfl)
theorem b01 {x : Int32} (h : x = 0 ∨ x = 1) : x = 1 ↔ ¬ x = 0 := by
  rcases h with h | h <;> subst h <;> decide
set_option maxRecDepth 20000 in
theorem r_wholeIn (l : Launch) {kd : am_kd} {rv : am_rv} {iv : am_iv} (m : am_N) (hm : kd m = some (.inr (0, 300))) (n : Nat) (hn : iv m 1 = nI n) (hn8 : n ≤ 8) (h7 : ∀ r, r < n → rf iv m r 7 = 0 ∨ rf iv m r 7 = 1) : am_Met l mX12_wholeIn (am_rm 1 0 0) [am_P m] kd rv iv (am_ret (some (am_I (rm_count (fun r => rf iv m r) n))) kd rv iv) := by
  refine am_Met.of (by decide) (Nat.le_of_ble_eq_true rfl) rfl ?_
  have hnn : n < 2 ^ 31 := by omega
  have loop := am_for (fun j => am_W l mX12_wholeIn (am_rm 1 0 0) (am_ret (some (am_I (rm_count (fun r => rf iv m r) n))) kd rv iv) 4 [some (am_P m), some (am_I (rm_count (fun r => rf iv m r) j)), some (am_I (nI j))] [] kd rv iv 0 0) n ?_ (fun j hj ih => ?_) 0 (Nat.zero_le n)
  · refine A_iconst (pc := 0) (0) dX12_wholeIn_0 (by decide) ?_
    refine A_ist1 (pc := 1) dX12_wholeIn_1 (Nat.le_of_ble_eq_true rfl) rfl ?_
    refine A_iconst (pc := 2) (0) dX12_wholeIn_2 (by decide) ?_
    refine A_ist2 (pc := 3) dX12_wholeIn_3 (Nat.le_of_ble_eq_true rfl) rfl ?_
    exact loop
  · refine A_iload_n (pc := 4) (i := 2) dX12_wholeIn_4 rfl rfl ?_
    refine A_aload_n (pc := 5) (i := 0) dX12_wholeIn_5 rfl rfl ?_
    refine A_iconst (pc := 6) (1) dX12_wholeIn_6 (by decide) ?_
    refine A_ialdN (pc := 7) (j := 1) hm (by decide) (by decide) dX12_wholeIn_7 ?_
    refine A_top hn ?_
    refine A_icmpge (pc := 8) 33 dX12_wholeIn_8 (by decide) (fun hb8 => ?_) (fun hb8 => ?_)
    · refine A_iload_n (pc := 33) (i := 1) dX12_wholeIn_33 rfl rfl ?_
      exact A_iretE (pc := 34) dX12_wholeIn_34 rfl (Nat.zero_le _) (Nat.zero_le _) (rfl) (rfl)
    · exact absurd (nI_le (Nat.le_refl n) hnn) hb8
  · have hj8 : j < 8 := by omega
    refine A_iload_n (pc := 4) (i := 2) dX12_wholeIn_4 rfl rfl ?_
    refine A_aload_n (pc := 5) (i := 0) dX12_wholeIn_5 rfl rfl ?_
    refine A_iconst (pc := 6) (1) dX12_wholeIn_6 (by decide) ?_
    refine A_ialdN (pc := 7) (j := 1) hm (by decide) (by decide) dX12_wholeIn_7 ?_
    refine A_top hn ?_
    refine A_icmpge (pc := 8) 33 dX12_wholeIn_8 (by decide) (fun hb8 => ?_) (fun hb8 => ?_)
    · exact absurd hb8 (nI_ge hj hnn)
    · refine A_iload_n (pc := 11) (i := 1) dX12_wholeIn_11 rfl rfl ?_
      refine A_aload_n (pc := 12) (i := 0) dX12_wholeIn_12 rfl rfl ?_
      refine A_iload_n (pc := 13) (i := 2) dX12_wholeIn_13 rfl rfl ?_
      refine A_callS1 (pc := 14) cs_X12_209 (r_isWhole l m hm j hj8) rfl rfl (Nat.le_of_ble_eq_true rfl) ⟨(Nat.le_of_ble_eq_true rfl), (Nat.le_of_ble_eq_true rfl)⟩ ⟨Nat.zero_le _, Nat.zero_le _⟩ dX12_wholeIn_14 ?_
      refine A_ifeq (pc := 17) 24 dX12_wholeIn_17 (by decide) (fun hb17 => ?_) (fun hb17 => ?_)
      · refine A_iconst (pc := 24) (0) dX12_wholeIn_24 (by decide) ?_
        refine A_iadd (pc := 25) dX12_wholeIn_25 ?_
        refine A_ist1 (pc := 26) dX12_wholeIn_26 (Nat.le_of_ble_eq_true rfl) rfl ?_
        refine A_inc2 (pc := 27) (nI (j + 1)) dX12_wholeIn_27 (nI_1 j) (Nat.le_of_ble_eq_true rfl) rfl ?_
        refine A_goto (pc := 30) 4 dX12_wholeIn_30 (by decide) ?_
        rw [rm_count, if_pos (Classical.not_not.mp (fun h => (sr_b_0 _).mp hb17 ((b01 (h7 j hj)).mpr h)))] at ih
        exact ih
      · refine A_iconst (pc := 20) (1) dX12_wholeIn_20 (by decide) ?_
        refine A_goto (pc := 21) 25 dX12_wholeIn_21 (by decide) ?_
        refine A_iadd (pc := 25) dX12_wholeIn_25 ?_
        refine A_ist1 (pc := 26) dX12_wholeIn_26 (Nat.le_of_ble_eq_true rfl) rfl ?_
        refine A_inc2 (pc := 27) (nI (j + 1)) dX12_wholeIn_27 (nI_1 j) (Nat.le_of_ble_eq_true rfl) rfl ?_
        refine A_goto (pc := 30) 4 dX12_wholeIn_30 (by decide) ?_
        rw [rm_count, if_neg ((b01 (h7 j hj)).mp (Classical.not_not.mp (fun h => hb17 ((sr_b_0 _).mpr h))))] at ih
        exact ih
set_option maxRecDepth 20000 in
theorem r_frontOf (l : Launch) {kd : am_kd} {rv : am_rv} {iv : am_iv} (m : am_N) (hm : kd m = some (.inr (0, 300))) (n : Nat) (hn : iv m 1 = nI n) (hn8 : n ≤ 8) (h7 : ∀ r, r < n → rf iv m r 7 = 0 ∨ rf iv m r 7 = 1) : am_Met l mX12_frontOf (am_rm 1 0 0) [am_P m] kd rv iv (am_ret (some (am_I (rm_front (fun r => rf iv m r) n))) kd rv iv) := by
  refine am_Met.of (by decide) (Nat.le_of_ble_eq_true rfl) rfl ?_
  have hnn : n < 2 ^ 31 := by omega
  have loop := am_for (fun j => am_W l mX12_frontOf (am_rm 1 0 0) (am_ret (some (am_I (rm_front (fun r => rf iv m r) n))) kd rv iv) 4 [some (am_P m), some (am_I (rm_front (fun r => rf iv m r) j)), some (am_I (nI j))] [] kd rv iv 0 0) n ?_ (fun j hj ih => ?_) 0 (Nat.zero_le n)
  · refine A_iconst (pc := 0) (-1) dX12_frontOf_0 (by decide) ?_
    refine A_ist1 (pc := 1) dX12_frontOf_1 (Nat.le_of_ble_eq_true rfl) rfl ?_
    refine A_iconst (pc := 2) (0) dX12_frontOf_2 (by decide) ?_
    refine A_ist2 (pc := 3) dX12_frontOf_3 (Nat.le_of_ble_eq_true rfl) rfl ?_
    exact loop
  · refine A_iload_n (pc := 4) (i := 2) dX12_frontOf_4 rfl rfl ?_
    refine A_aload_n (pc := 5) (i := 0) dX12_frontOf_5 rfl rfl ?_
    refine A_iconst (pc := 6) (1) dX12_frontOf_6 (by decide) ?_
    refine A_ialdN (pc := 7) (j := 1) hm (by decide) (by decide) dX12_frontOf_7 ?_
    refine A_top hn ?_
    refine A_icmpge (pc := 8) 50 dX12_frontOf_8 (by decide) (fun hb8 => ?_) (fun hb8 => ?_)
    · refine A_iload_n (pc := 50) (i := 1) dX12_frontOf_50 rfl rfl ?_
      exact A_iretE (pc := 51) dX12_frontOf_51 rfl (Nat.zero_le _) (Nat.zero_le _) (rfl) (rfl)
    · exact absurd (nI_le (Nat.le_refl n) hnn) hb8
  · have hj8 : j < 8 := by omega
    refine A_iload_n (pc := 4) (i := 2) dX12_frontOf_4 rfl rfl ?_
    refine A_aload_n (pc := 5) (i := 0) dX12_frontOf_5 rfl rfl ?_
    refine A_iconst (pc := 6) (1) dX12_frontOf_6 (by decide) ?_
    refine A_ialdN (pc := 7) (j := 1) hm (by decide) (by decide) dX12_frontOf_7 ?_
    refine A_top hn ?_
    refine A_icmpge (pc := 8) 50 dX12_frontOf_8 (by decide) (fun hb8 => ?_) (fun hb8 => ?_)
    · exact absurd hb8 (nI_ge hj hnn)
    · refine A_aload_n (pc := 11) (i := 0) dX12_frontOf_11 rfl rfl ?_
      refine A_iload_n (pc := 12) (i := 2) dX12_frontOf_12 rfl rfl ?_
      refine A_callS1 (pc := 13) cs_X12_209 (r_isWhole l m hm j hj8) rfl rfl (Nat.le_of_ble_eq_true rfl) ⟨(Nat.le_of_ble_eq_true rfl), (Nat.le_of_ble_eq_true rfl)⟩ ⟨Nat.zero_le _, Nat.zero_le _⟩ dX12_frontOf_13 ?_
      refine A_ifeq (pc := 16) 42 dX12_frontOf_16 (by decide) (fun hb16 => ?_) (fun hb16 => ?_)
      · refine A_iload_n (pc := 42) (i := 1) dX12_frontOf_42 rfl rfl ?_
        refine A_ist1 (pc := 43) dX12_frontOf_43 (Nat.le_of_ble_eq_true rfl) rfl ?_
        refine A_inc2 (pc := 44) (nI (j + 1)) dX12_frontOf_44 (nI_1 j) (Nat.le_of_ble_eq_true rfl) rfl ?_
        refine A_goto (pc := 47) 4 dX12_frontOf_47 (by decide) ?_
        rw [rm_front, if_neg (fun h => (sr_b_0 _).mp hb16 ((b01 (h7 j hj)).mpr h.1))] at ih
        exact ih
      · refine A_iload_n (pc := 19) (i := 1) dX12_frontOf_19 rfl rfl ?_
        refine A_iflt (pc := 20) 38 dX12_frontOf_20 (by decide) (fun hb20 => ?_) (fun hb20 => ?_)
        · refine A_iload_n (pc := 38) (i := 2) dX12_frontOf_38 rfl rfl ?_
          refine A_goto (pc := 39) 43 dX12_frontOf_39 (by decide) ?_
          refine A_ist1 (pc := 43) dX12_frontOf_43 (Nat.le_of_ble_eq_true rfl) rfl ?_
          refine A_inc2 (pc := 44) (nI (j + 1)) dX12_frontOf_44 (nI_1 j) (Nat.le_of_ble_eq_true rfl) rfl ?_
          refine A_goto (pc := 47) 4 dX12_frontOf_47 (by decide) ?_
          rw [rm_front, if_pos ⟨((b01 (h7 j hj)).mp (Classical.not_not.mp (fun h => hb16 ((sr_b_0 _).mpr h)))), Or.inl hb20⟩] at ih
          exact ih
        · obtain ⟨q, hq, eq⟩ : ∃ q, q < j ∧ rm_front (fun r => rf iv m r) j = nI q := by
            rcases rm_front_in (fun r => rf iv m r) j with h | h
            · rw [h] at hb20; exact absurd (by decide) hb20
            · exact h
          refine A_aload_n (pc := 23) (i := 0) dX12_frontOf_23 rfl rfl ?_
          refine A_iload_n (pc := 24) (i := 2) dX12_frontOf_24 rfl rfl ?_
          refine A_iconst (pc := 25) (0) dX12_frontOf_25 (by decide) ?_
          refine A_callS1 (pc := 26) cs_X12_73 (r_of l m hm j hj8 0 1 rfl (by decide)) rfl rfl (Nat.le_of_ble_eq_true rfl) ⟨(Nat.le_of_ble_eq_true rfl), (Nat.le_of_ble_eq_true rfl)⟩ ⟨Nat.zero_le _, Nat.zero_le _⟩ dX12_frontOf_26 ?_
          refine A_aload_n (pc := 29) (i := 0) dX12_frontOf_29 rfl rfl ?_
          refine A_iload_n (pc := 30) (i := 1) dX12_frontOf_30 rfl rfl ?_
          refine A_top eq ?_
          refine A_iconst (pc := 31) (0) dX12_frontOf_31 (by decide) ?_
          refine A_callS1 (pc := 32) cs_X12_73 (r_of l m hm q (by omega) 0 1 rfl (by decide)) rfl rfl (Nat.le_of_ble_eq_true rfl) ⟨(Nat.le_of_ble_eq_true rfl), (Nat.le_of_ble_eq_true rfl)⟩ ⟨Nat.zero_le _, Nat.zero_le _⟩ dX12_frontOf_32 ?_
          refine A_icmple (pc := 35) 42 dX12_frontOf_35 (by decide) (fun hb35 => ?_) (fun hb35 => ?_)
          · refine A_iload_n (pc := 42) (i := 1) dX12_frontOf_42 rfl rfl ?_
            refine A_ist1 (pc := 43) dX12_frontOf_43 (Nat.le_of_ble_eq_true rfl) rfl ?_
            refine A_inc2 (pc := 44) (nI (j + 1)) dX12_frontOf_44 (nI_1 j) (Nat.le_of_ble_eq_true rfl) rfl ?_
            refine A_goto (pc := 47) 4 dX12_frontOf_47 (by decide) ?_
            rw [rm_front, if_neg (fun h => h.2.elim hb20 (fun h2 => by rw [eq, nI_clamp (by omega)] at h2; exact absurd h2 (Int32.not_lt.mpr hb35)))] at ih
            exact ih
          · refine A_iload_n (pc := 38) (i := 2) dX12_frontOf_38 rfl rfl ?_
            refine A_goto (pc := 39) 43 dX12_frontOf_39 (by decide) ?_
            refine A_ist1 (pc := 43) dX12_frontOf_43 (Nat.le_of_ble_eq_true rfl) rfl ?_
            refine A_inc2 (pc := 44) (nI (j + 1)) dX12_frontOf_44 (nI_1 j) (Nat.le_of_ble_eq_true rfl) rfl ?_
            refine A_goto (pc := 47) 4 dX12_frontOf_47 (by decide) ?_
            rw [rm_front, if_pos ⟨((b01 (h7 j hj)).mp (Classical.not_not.mp (fun h => hb16 ((sr_b_0 _).mpr h)))), Or.inr (by rw [eq, nI_clamp (by omega)]; exact Int32.not_le.mp hb35)⟩] at ih
            exact ih
