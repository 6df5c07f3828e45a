section
variable {l : Launch} {M : am_M} {R : Room} {post : am_Post} {pc : Nat} {ls : List (Option am_V)} {st : List am_V} {kd : am_kd} {rv : am_rv} {iv : am_iv} {cu su : Nat}
theorem A_aastN {n o : am_N} {t z ci j : Nat} {r : vw_C} {C0 : String} (hk : kd n = some (.inr (t, z))) (ht5 : t < 5) (hty : am_aty t = .object C0) (ho : kd o = some (.inl ci)) (hr : vwCl[ci]? = some r) (hsub : r.1 = C0 ∨ (r.1, C0) ∈ am_yc) (hj : j < z) (hz : z < 2 ^ 31) (hd : decode M.2.1 pc = .ok (.aastore, 1)) (k : am_W l M R post (pc + 1) ls st kd (am_ur rv n j (some o)) iv cu su) : am_W l M R post pc ls (am_P o :: am_I (nI j) :: am_P n :: st) kd rv iv cu su :=
  A_aast hk ht5 hty ho hr hsub (vp_in_nI hj hz) hd (by rw [nI_clamp (Nat.lt_trans hj hz)]; exact k)
theorem A_aast0N {n : am_N} {t z j : Nat} {C0 : String} (hk : kd n = some (.inr (t, z))) (ht5 : t < 5) (hty : am_aty t = .object C0) (hj : j < z) (hz : z < 2 ^ 31) (hd : decode M.2.1 pc = .ok (.aastore, 1)) (k : am_W l M R post (pc + 1) ls st kd (am_ur rv n j none) iv cu su) : am_W l M R post pc ls (am_0 :: am_I (nI j) :: am_P n :: st) kd rv iv cu su :=
  A_aast0 hk ht5 hty (vp_in_nI hj hz) hd (by rw [nI_clamp (Nat.lt_trans hj hz)]; exact k)
end
def tr_cp (i o : Nat) (w : am_iv) : Nat → am_iv
  | 0 => w
  | j + 1 => rg_cp (4, i, j) (4, o, j) (tr_cp i o w j)
theorem tr_cp_o {i o : Nat} {w : am_iv} {n : am_N} {k : Nat} (h : ¬ (n.1 = 4 ∧ n.2.1 = i)) (j : Nat) : tr_cp i o w j n k = w n k := by
  induction j with
  | zero => rfl
  | succ j ih => exact (rg_cp_o (fun e => h (by rw [e]; exact ⟨rfl, rfl⟩))).trans ih
theorem tr_cp_v {i o : Nat} (hio : o ≠ i) {w : am_iv} {r k : Nat} (h1 : 1 ≤ k) (h2 : k ≤ 7) (j : Nat) (hr : r < j) : tr_cp i o w j (4, i, r) k = w (4, o, r) k := by
  induction j with
  | zero => omega
  | succ j ih =>
    by_cases e : r = j
    · subst e
      exact (rg_cp_v h1 h2).trans (tr_cp_o (by simp [hio]) r)
    · exact (rg_cp_o (by simp [e])).trans (ih (by omega))
theorem tr_cp_n {i o : Nat} {w : am_iv} {r k j : Nat} (hr : j ≤ r) : tr_cp i o w j (4, i, r) k = w (4, i, r) k := by
  induction j with
  | zero => rfl
  | succ j ih => exact (rg_cp_o (by simp; omega)).trans (ih (by omega))
theorem tr_cp_0 {i o : Nat} {w : am_iv} {r k j : Nat} (hk : k = 0 ∨ 7 < k) : tr_cp i o w j (4, i, r) k = w (4, i, r) k := by
  induction j with
  | zero => rfl
  | succ j ih =>
    refine Eq.trans ?_ ih
    simp only [tr_cp, rg_cp]
    repeat rw [am_ui_n (by omega)]
def tr_heap (i o n : Nat) (iv : am_iv) : am_iv := tr_cp i o (am_ui iv (2, i, 0) 1 (nI n)) n
set_option maxRecDepth 20000 in
theorem s_takeRings (l : Launch) {kd : am_kd} {rv : am_rv} {iv : am_iv} (hS : sh kd rv) (i : Nat) (hi : i < 4) (o : Nat) (ho : o < 4) (hio : o ≠ i) (n : Nat) (hn : iv (2, o, 0) 1 = nI n) (hn8 : n ≤ 8) (hb : ∀ r, r < n → iv (4, o, r) 7 = 0 ∨ iv (4, o, r) 7 = 1) : am_Met l mX4_takeRings (am_rm 1 0 0) [am_P (2, i, 0), am_P (2, o, 0)] kd rv iv (am_ret none kd rv (tr_heap i o n iv)) := by
  refine am_Met.of (by decide) (Nat.le_of_ble_eq_true rfl) rfl ?_
  have hn2 : ∀ j, tr_cp i o (am_ui iv (2, i, 0) 1 (nI n)) j (2, i, 0) 1 = nI n := fun j => (tr_cp_o (by simp) j).trans (am_ui_s _ _ _ _)
  have hnn : n < 2 ^ 31 := by omega
  have loop := am_for (fun j => am_W l mX4_takeRings (am_rm 1 0 0) (am_ret none kd rv (tr_heap i o n iv)) 10 [some (am_P (2, i, 0)), some (am_P (2, o, 0)), some (am_I (nI j))] [] kd rv (tr_cp i o (am_ui iv (2, i, 0) 1 (nI n)) j) 0 0) n ?_ (fun j hj ih => ?_) 0 (Nat.zero_le n)
  · refine A_aload_n (pc := 0) (i := 0) dX4_takeRings_0 rfl rfl ?_
    refine A_aload_n (pc := 1) (i := 1) dX4_takeRings_1 rfl rfl ?_
    refine A_geti (pc := 2) 1 fl_X4_77_4 (hS.k2 ho) rfl dX4_takeRings_2 ?_
    refine A_top hn ?_
    refine A_puti (pc := 5) 1 fl_X4_77_4 (hS.k2 hi) rfl (by decide +kernel) rfl rfl dX4_takeRings_5 ?_
    refine A_iconst (pc := 8) (0) dX4_takeRings_8 (by decide) ?_
    refine A_ist2 (pc := 9) dX4_takeRings_9 (Nat.le_of_ble_eq_true rfl) rfl ?_
    exact loop
  · refine A_iload_n (pc := 10) (i := 2) dX4_takeRings_10 rfl rfl ?_
    refine A_aload_n (pc := 11) (i := 0) dX4_takeRings_11 rfl rfl ?_
    refine A_geti (pc := 12) 1 fl_X4_77_4 (hS.k2 hi) rfl dX4_takeRings_12 ?_
    refine A_top (hn2 n) ?_
    refine A_icmpge (pc := 15) 39 dX4_takeRings_15 (by decide) (fun hb15 => ?_) (fun hb15 => ?_)
    · exact A_vretE (pc := 39) dX4_takeRings_39 rfl (Nat.zero_le _) (Nat.zero_le _) (rfl)
    · exact absurd (nI_le (Nat.le_refl n) hnn) hb15
  · refine A_iload_n (pc := 10) (i := 2) dX4_takeRings_10 rfl rfl ?_
    refine A_aload_n (pc := 11) (i := 0) dX4_takeRings_11 rfl rfl ?_
    refine A_geti (pc := 12) 1 fl_X4_77_4 (hS.k2 hi) rfl dX4_takeRings_12 ?_
    refine A_top (hn2 j) ?_
    refine A_icmpge (pc := 15) 39 dX4_takeRings_15 (by decide) (fun hb15 => ?_) (fun hb15 => ?_)
    · exact absurd hb15 (nI_ge hj hnn)
    · refine A_aload_n (pc := 18) (i := 0) dX4_takeRings_18 rfl rfl ?_
      refine A_getr (pc := 19) 0 fl_X4_11_4 (hS.k2 hi) rfl (hS.w2_0 hi) dX4_takeRings_19 ?_
      refine A_iload_n (pc := 22) (i := 2) dX4_takeRings_22 rfl rfl ?_
      refine A_aaldN (pc := 23) (hS.k3 hi) (by decide) (by decide) (show j < 8 by omega) (by decide) (hS.w3 hi (show j < 8 by omega)) dX4_takeRings_23 ?_
      refine A_aload_n (pc := 24) (i := 1) dX4_takeRings_24 rfl rfl ?_
      refine A_getr (pc := 25) 0 fl_X4_11_4 (hS.k2 ho) rfl (hS.w2_0 ho) dX4_takeRings_25 ?_
      refine A_iload_n (pc := 28) (i := 2) dX4_takeRings_28 rfl rfl ?_
      refine A_aaldN (pc := 29) (hS.k3 ho) (by decide) (by decide) (show j < 8 by omega) (by decide) (hS.w3 ho (show j < 8 by omega)) dX4_takeRings_29 ?_
      refine A_callV0 (pc := 30) cv_X4_80 (s_rbecome l (4, i, j) (4, o, j) (hS.k4 hi (show j < 8 by omega)) (hS.k4 ho (show j < 8 by omega)) (by simp [hio]) (by rw [tr_cp_o (by simp [hio]), am_ui_o (by simp)]; exact hb j hj)) (hS.k4 hi (show j < 8 by omega)) rfl rfl rfl rfl (Nat.le_of_ble_eq_true rfl) ⟨(Nat.le_of_ble_eq_true rfl), (Nat.le_of_ble_eq_true rfl)⟩ ⟨Nat.zero_le _, Nat.zero_le _⟩ dX4_takeRings_30 ?_
      refine A_inc2 (pc := 33) (nI (j + 1)) dX4_takeRings_33 (nI_1 j) (Nat.le_of_ble_eq_true rfl) rfl ?_
      refine A_goto (pc := 36) 10 dX4_takeRings_36 (by decide) ?_
      exact ih
def as_heap (i n z : Nat) (a b : Int32) (iv : am_iv) : am_iv := am_ui (rm_ring (4, i, n) 0 0 1 (sr_held (gv_raw i 0 z a b (iv (2, i, 0) 7) iv) 0 999) (iv (2, i, 0) 7) (1 + iv (2, i, 0) 7 / 5) (gv_heap i 0 z a b (iv (2, i, 0) 7) iv)) (2, i, 0) 1 (nI (n + 1))
theorem gb2 (i k : Nat) : ¬ gb (2, i, 0) k := by simp [gb]
set_option maxRecDepth 20000 in
theorem s_addStroke (l : Launch) {kd : am_kd} {rv : am_rv} {iv : am_iv} (hS : sh kd rv) (i : Nat) (hi : i < 4) (n : Nat) (hn : iv (2, i, 0) 1 = nI n) (hn7 : n < 8) (z : Nat) (hz : iv (9, i, 0) 1 = nI z) (hz50 : z ≤ 50) (a b : Int32) : am_Met l mX4_addStroke (am_rm 4 0 0) [am_P (2, i, 0), am_I a, am_I b] kd rv iv (am_ret (some (am_I (nI n))) kd rv (as_heap i n z a b iv)) := by
  refine am_Met.of (by decide) (Nat.le_of_ble_eq_true rfl) rfl ?_
  refine A_aload_n (pc := 0) (i := 0) dX4_addStroke_0 rfl rfl ?_
  refine A_iconst (pc := 1) (0) dX4_addStroke_1 (by decide) ?_
  refine A_iconst (pc := 2) (0) dX4_addStroke_2 (by decide) ?_
  refine A_iconst (pc := 3) (1) dX4_addStroke_3 (by decide) ?_
  refine A_aload_n (pc := 4) (i := 0) dX4_addStroke_4 rfl rfl ?_
  refine A_iconst (pc := 5) (0) dX4_addStroke_5 (by decide) ?_
  refine A_iload_n (pc := 6) (i := 1) dX4_addStroke_6 rfl rfl ?_
  refine A_iload_n (pc := 7) (i := 2) dX4_addStroke_7 rfl rfl ?_
  refine A_aload_n (pc := 8) (i := 0) dX4_addStroke_8 rfl rfl ?_
  refine A_geti (pc := 9) 7 fl_X4_34_4 (hS.k2 hi) rfl dX4_addStroke_9 ?_
  refine A_callV1 (pc := 12) cv_X4_115 (s_given l hS i hi 0 (by decide) z hz hz50 a b (iv (2, i, 0) 7)) (hS.k2 hi) rfl rfl rfl rfl (Nat.le_of_ble_eq_true rfl) ⟨(Nat.le_of_ble_eq_true rfl), (Nat.le_of_ble_eq_true rfl)⟩ ⟨Nat.zero_le _, Nat.zero_le _⟩ dX4_addStroke_12 ?_
  refine A_aload_n (pc := 15) (i := 0) dX4_addStroke_15 rfl rfl ?_
  refine A_geti (pc := 16) 7 fl_X4_34_4 (hS.k2 hi) rfl dX4_addStroke_16 ?_
  refine A_top (gv_heap_o (gb2 i 7)) ?_
  refine A_iconst (pc := 19) (1) dX4_addStroke_19 (by decide) ?_
  refine A_aload_n (pc := 20) (i := 0) dX4_addStroke_20 rfl rfl ?_
  refine A_geti (pc := 21) 7 fl_X4_34_4 (hS.k2 hi) rfl dX4_addStroke_21 ?_
  refine A_top (gv_heap_o (gb2 i 7)) ?_
  refine A_iconst (pc := 24) (5) dX4_addStroke_24 (by decide) ?_
  refine A_idiv (pc := 25) dX4_addStroke_25 (by decide) ?_
  refine A_iadd (pc := 26) dX4_addStroke_26 ?_
  refine A_callV1 (pc := 27) cv_X4_119 (s_addRing l hS i hi n ((gv_heap_o (gb2 i 1)).trans hn) hn7 _ _ _ _ _ _) (hS.k2 hi) rfl rfl rfl rfl (Nat.le_of_ble_eq_true rfl) ⟨(Nat.le_of_ble_eq_true rfl), (Nat.le_of_ble_eq_true rfl)⟩ ⟨Nat.zero_le _, Nat.zero_le _⟩ dX4_addStroke_27 ?_
  exact A_iretE (pc := 30) dX4_addStroke_30 rfl (Nat.zero_le _) (Nat.zero_le _) (rfl) (rfl)
theorem lw_r {K : Nat} (h : K < 7) : ∃ r, vwCl[lw_ci K]? = some r ∧ (r.1 = RX2 ∨ (r.1, RX2) ∈ am_yc) := by
  rcases (show K = 0 ∨ K = 1 ∨ K = 2 ∨ K = 3 ∨ K = 4 ∨ K = 5 ∨ K = 6 by omega) with h | h | h | h | h | h | h <;> subst h <;> refine ⟨_, rfl, ?_⟩ <;> first | exact Or.inl rfl | (right; simp [am_yc]; done)
def al_iv (i nl : Nat) (iv : am_iv) : am_iv := am_ui (am_ui iv (2, i, 0) 5 (iv (2, i, 0) 5 ||| 1 <<< (nI nl &&& 31))) (2, i, 0) 4 (nI (nl + 1))
set_option maxRecDepth 20000 in
theorem s_addLaw (l : Launch) {kd : am_kd} {rv : am_rv} {iv : am_iv} (hS : sh kd rv) (i : Nat) (hi : i < 4) (nl : Nat) (hn : iv (2, i, 0) 4 = nI nl) (hn6 : nl < 6) (ob : am_N) (K : Nat) (hK : K < 7) (hob : kd ob = some (.inl (lw_ci K))) : am_Met l mX4_addLaw (am_rm 1 0 0) [am_P (2, i, 0), am_P ob] kd rv iv (am_ret (some (am_I (nI nl))) kd (am_ur rv (7, i, 0) nl (some ob)) (al_iv i nl iv)) := by
  refine am_Met.of (by decide) (Nat.le_of_ble_eq_true rfl) rfl ?_
  refine A_aload_n (pc := 0) (i := 0) dX4_addLaw_0 rfl rfl ?_
  refine A_geti (pc := 1) 4 fl_X4_61_4 (hS.k2 hi) rfl dX4_addLaw_1 ?_
  refine A_iconst (pc := 4) (5) dX4_addLaw_4 (by decide) ?_
  refine A_mmin (pc := 5) cm_X4_87 (Nat.le_of_ble_eq_true rfl) (Nat.le_of_ble_eq_true rfl) (Nat.zero_le _) (Nat.zero_le _) dX4_addLaw_5 ?_
  refine A_top (y := nI nl) (by rw [hn, if_neg]; rw [fa_lt, nI_toInt (by omega)]; simp; omega) ?_
  refine A_ist2 (pc := 8) dX4_addLaw_8 (Nat.le_of_ble_eq_true rfl) rfl ?_
  refine A_aload_n (pc := 9) (i := 0) dX4_addLaw_9 rfl rfl ?_
  refine A_getr (pc := 10) 3 fl_X4_25_4 (hS.k2 hi) rfl (hS.w2_3 hi) dX4_addLaw_10 ?_
  refine A_iload_n (pc := 13) (i := 2) dX4_addLaw_13 rfl rfl ?_
  refine A_aload_n (pc := 14) (i := 1) dX4_addLaw_14 rfl rfl ?_
  obtain ⟨rr, hr1, hr2⟩ := lw_r hK
  refine A_aastN (pc := 15) (hS.k7 hi) (by decide) rfl hob hr1 hr2 hn6 (by decide) dX4_addLaw_15 ?_
  refine A_aload_n (pc := 16) (i := 0) dX4_addLaw_16 rfl rfl ?_
  refine A_dup (pc := 17) dX4_addLaw_17 rfl ?_
  refine A_geti (pc := 18) 5 fl_X4_64_4 (hS.k2 hi) rfl dX4_addLaw_18 ?_
  refine A_iconst (pc := 21) (1) dX4_addLaw_21 (by decide) ?_
  refine A_iload_n (pc := 22) (i := 2) dX4_addLaw_22 rfl rfl ?_
  refine A_ishl (pc := 23) dX4_addLaw_23 ?_
  refine A_ior (pc := 24) dX4_addLaw_24 ?_
  refine A_puti (pc := 25) 5 fl_X4_64_4 (hS.k2 hi) rfl (by decide +kernel) rfl rfl dX4_addLaw_25 ?_
  refine A_aload_n (pc := 28) (i := 0) dX4_addLaw_28 rfl rfl ?_
  refine A_iload_n (pc := 29) (i := 2) dX4_addLaw_29 rfl rfl ?_
  refine A_iconst (pc := 30) (1) dX4_addLaw_30 (by decide) ?_
  refine A_iadd (pc := 31) dX4_addLaw_31 ?_
  refine A_top (nI_1 nl) ?_
  refine A_puti (pc := 32) 4 fl_X4_61_4 (hS.k2 hi) rfl (by decide +kernel) rfl rfl dX4_addLaw_32 ?_
  refine A_iload_n (pc := 35) (i := 2) dX4_addLaw_35 rfl rfl ?_
  exact A_iretE (pc := 36) dX4_addLaw_36 rfl (Nat.zero_le _) (Nat.zero_le _) (rfl) (rfl)
def bz (x : Int32) : Int32 := x * 1103515245 + 12345
def by_ (y x : Int32) : Int32 := sr_held (y + ((x.toUInt32 >>> (Int32.toUInt32 8 &&& Int32.toUInt32 31)).toInt32 - (x.toUInt32 >>> (Int32.toUInt32 8 &&& Int32.toUInt32 31)).toInt32 / 7 * 7) - 3) (-999) 999
def bl_heap (i : Nat) (w : am_iv) : Nat → am_iv
  | 0 => w
  | j + 1 => if bl_heap i w j (4, i, j) 7 = 0 then bl_heap i w j else am_ui (am_ui (bl_heap i w j) (2, i, 0) 9 (bz (bl_heap i w j (2, i, 0) 9))) (4, i, j) 2 (by_ (bl_heap i w j (4, i, j) 2) (bz (bl_heap i w j (2, i, 0) 9)))
theorem bl_o {i : Nat} {w : am_iv} {n : am_N} {k : Nat} (h : ¬ (n = (2, i, 0) ∧ k = 9)) (h4 : n.1 ≠ 4) (j : Nat) : bl_heap i w j n k = w n k := by
  induction j with
  | zero => rfl
  | succ j ih =>
    unfold bl_heap
    split
    · exact ih
    · rw [am_ui_o (fun e => h4 (by rw [e])), am_ui_n h]; exact ih
set_option maxRecDepth 20000 in
theorem s_blow (l : Launch) {kd : am_kd} {rv : am_rv} {iv : am_iv} (hS : sh kd rv) (i : Nat) (hi : i < 4) (n : Nat) (hn : iv (2, i, 0) 1 = nI n) (hn8 : n ≤ 8) : am_Met l mX4_blow (am_rm 1 0 0) [am_P (2, i, 0)] kd rv iv (am_ret none kd rv (bl_heap i iv n)) := by
  refine am_Met.of (by decide) (Nat.le_of_ble_eq_true rfl) rfl ?_
  have hnn : n < 2 ^ 31 := by omega
  have hn2 : ∀ j, bl_heap i iv j (2, i, 0) 1 = nI n := fun j => (bl_o (by simp) (by simp) j).trans hn
  have loop := am_for (fun j => ∀ x, am_W l mX4_blow (am_rm 1 0 0) (am_ret none kd rv (bl_heap i iv n)) 2 [some (am_P (2, i, 0)), some (am_I (nI j)), x] [] kd rv (bl_heap i iv j) 0 0) n (fun x => ?_) (fun j hj ih x => ?_) 0 (Nat.zero_le n)
  · refine A_iconst (pc := 0) (0) dX4_blow_0 (by decide) ?_
    refine A_ist1 (pc := 1) dX4_blow_1 (Nat.le_of_ble_eq_true rfl) rfl ?_
    exact loop _
  · refine A_iload_n (pc := 2) (i := 1) dX4_blow_2 rfl rfl ?_
    refine A_aload_n (pc := 3) (i := 0) dX4_blow_3 rfl rfl ?_
    refine A_geti (pc := 4) 1 fl_X4_77_4 (hS.k2 hi) rfl dX4_blow_4 ?_
    refine A_top (hn2 n) ?_
    refine A_icmpge (pc := 7) 75 dX4_blow_7 (by decide) (fun hb7 => ?_) (fun hb7 => ?_)
    · exact A_vretE (pc := 75) dX4_blow_75 rfl (Nat.zero_le _) (Nat.zero_le _) (rfl)
    · exact absurd (nI_le (Nat.le_refl n) hnn) hb7
  · have ih2 := ih
    rw [bl_heap] at ih2
    refine A_iload_n (pc := 2) (i := 1) dX4_blow_2 rfl rfl ?_
    refine A_aload_n (pc := 3) (i := 0) dX4_blow_3 rfl rfl ?_
    refine A_geti (pc := 4) 1 fl_X4_77_4 (hS.k2 hi) rfl dX4_blow_4 ?_
    refine A_top (hn2 j) ?_
    refine A_icmpge (pc := 7) 75 dX4_blow_7 (by decide) (fun hb7 => ?_) (fun hb7 => ?_)
    · exact absurd hb7 (nI_ge hj hnn)
    · refine A_aload_n (pc := 10) (i := 0) dX4_blow_10 rfl rfl ?_
      refine A_getr (pc := 11) 0 fl_X4_11_4 (hS.k2 hi) rfl (hS.w2_0 hi) dX4_blow_11 ?_
      refine A_iload_n (pc := 14) (i := 1) dX4_blow_14 rfl rfl ?_
      refine A_aaldN (pc := 15) (hS.k3 hi) (by decide) (by decide) (show j < 8 by omega) (by decide) (hS.w3 hi (show j < 8 by omega)) dX4_blow_15 ?_
      refine A_ast2 (pc := 16) dX4_blow_16 (Nat.le_of_ble_eq_true rfl) rfl ?_
      refine A_aload_n (pc := 17) (i := 2) dX4_blow_17 rfl rfl ?_
      refine A_geti (pc := 18) 7 fl_X4_111_3 (hS.k4 hi (show j < 8 by omega)) rfl dX4_blow_18 ?_
      refine A_ifeq (pc := 21) 69 dX4_blow_21 (by decide) (fun hb21 => ?_) (fun hb21 => ?_)
      · refine A_inc1 (pc := 69) (nI (j + 1)) dX4_blow_69 (nI_1 j) (Nat.le_of_ble_eq_true rfl) rfl ?_
        refine A_goto (pc := 72) 2 dX4_blow_72 (by decide) ?_
        rw [if_pos hb21] at ih2
        exact ih2 _
      · refine A_aload_n (pc := 24) (i := 0) dX4_blow_24 rfl rfl ?_
        refine A_aload_n (pc := 25) (i := 0) dX4_blow_25 rfl rfl ?_
        refine A_geti (pc := 26) 9 fl_X4_37_4 (hS.k2 hi) rfl dX4_blow_26 ?_
        refine A_ldc (pc := 29) (List.mem_cons_of_mem _ kc_X4_160) dX4_blow_29 ?_
        refine A_imul (pc := 31) dX4_blow_31 ?_
        refine A_sipush (pc := 32) (12345) dX4_blow_32 (by decide) ?_
        refine A_iadd (pc := 35) dX4_blow_35 ?_
        refine A_puti (pc := 36) 9 fl_X4_37_4 (hS.k2 hi) rfl (by decide +kernel) rfl rfl dX4_blow_36 ?_
        refine A_aload_n (pc := 39) (i := 2) dX4_blow_39 rfl rfl ?_
        refine A_aload_n (pc := 40) (i := 2) dX4_blow_40 rfl rfl ?_
        refine A_geti (pc := 41) 2 fl_X4_96_3 (hS.k4 hi (show j < 8 by omega)) rfl dX4_blow_41 ?_
        refine A_top (am_ui_o (by simp)) ?_
        refine A_aload_n (pc := 44) (i := 0) dX4_blow_44 rfl rfl ?_
        refine A_geti (pc := 45) 9 fl_X4_37_4 (hS.k2 hi) rfl dX4_blow_45 ?_
        refine A_top (am_ui_s _ _ _ _) ?_
        refine A_bipush (pc := 48) (8) dX4_blow_48 (by decide) ?_
        refine A_iushr (pc := 50) dX4_blow_50 ?_
        refine A_bipush (pc := 51) (7) dX4_blow_51 (by decide) ?_
        refine A_irem (pc := 53) dX4_blow_53 (by decide) ?_
        refine A_iadd (pc := 54) dX4_blow_54 ?_
        refine A_iconst (pc := 55) (3) dX4_blow_55 (by decide) ?_
        refine A_isub (pc := 56) dX4_blow_56 ?_
        refine A_sipush (pc := 57) (-999) dX4_blow_57 (by decide) ?_
        refine A_sipush (pc := 60) (999) dX4_blow_60 (by decide) ?_
        refine A_callN1 (pc := 63) cn_X4_133 (s_held l _ _ _) rfl rfl (Nat.le_of_ble_eq_true rfl) ⟨(Nat.le_of_ble_eq_true rfl), (Nat.le_of_ble_eq_true rfl)⟩ ⟨Nat.zero_le _, Nat.zero_le _⟩ dX4_blow_63 ?_
        refine A_puti (pc := 66) 2 fl_X4_96_3 (hS.k4 hi (show j < 8 by omega)) rfl (by decide +kernel) rfl rfl dX4_blow_66 ?_
        refine A_inc1 (pc := 69) (nI (j + 1)) dX4_blow_69 (nI_1 j) (Nat.le_of_ble_eq_true rfl) rfl ?_
        refine A_goto (pc := 72) 2 dX4_blow_72 (by decide) ?_
        rw [if_neg hb21] at ih2
        exact ih2 _
noncomputable def cf (T : am_iv → am_iv) (F : am_iv → Int32) (e : Int32) : Nat → Int32 → Int32 → am_iv → Int32 × am_iv
  | 0, c, _, w => (c, w)
  | d + 1, c, f, w => if e ≤ c then (c, w) else cf T F e d (if ¬ f < 0 ∧ ¬ F (T w) < 0 ∧ ¬ f = F (T w) then c + 1 else c) (F (T w)) (T w)
def gx (T : am_iv → am_iv) (n : am_N) : Nat → Int32 → am_iv → Int32 × am_iv
  | 0, g, w => (g, w)
  | d + 1, g, w => if w n 7 = 0 then (g, w) else gx T n d (if T w n 7 = 0 then g else if g < T w n 1 then T w n 1 else g) (T w)
/-- what every heap keeps in which room i ticks on -/
def tk_q (i n z nl : Nat) (w : am_iv) : Prop := w (2, i, 0) 1 = nI n ∧ n ≤ 8 ∧ w (9, i, 1) 1 = nI z ∧ z ≤ 50 ∧ w (2, i, 0) 4 = nI nl ∧ tk_ok w i n
theorem nI_sub1 {d N : Nat} (h : d + 1 ≤ N) : nI (N - (d + 1)) + 1 = nI (N - d) := by
  rw [nI_1]
  exact congrArg nI (by omega)
theorem nI_nge {a b : Nat} (h : a < b) (hb : b < 2 ^ 31) : ¬ nI b ≤ nI a := nI_ge h hb
set_option maxRecDepth 20000 in
theorem cf_loop (l : Launch) {kd : am_kd} {rv : am_rv} {iv : am_iv} (hS : sh kd rv) (i : Nat) (hi : i < 4) (nl : Nat) (ln : Nat → am_N) (lk : Nat → Nat) (hl : rm_laws kd rv iv i nl ln lk) (n z : Nat) (Q : am_iv → Prop) (hQ : ∀ w, Q w → tk_q i n z nl w) (hT : ∀ w, Q w → Q (rm_tick i n z nl ln lk w)) (N : Nat) (hN : N < 2 ^ 31) (e : Int32) (d : Nat) : ∀ (c f : Int32) (w : am_iv) (x : Option am_V), Q w → d ≤ N → am_W l mX4_changesOfFront (am_rm 7 0 0) (am_ret (some (am_I (cf (rm_tick i n z nl ln lk) (fun w => rm_front (fun r => w (4, i, r)) n) e d c f w).1)) kd rv (cf (rm_tick i n z nl ln lk) (fun w => rm_front (fun r => w (4, i, r)) n) e d c f w).2) 11 [some (am_P (2, i, 0)), some (am_I (nI N)), some (am_I e), some (am_I c), some (am_I f), some (am_I (nI (N - d))), x] [] kd rv w 0 0 := by
  induction d with
  | zero =>
    intro c f w x hq hd
    refine A_iload (pc := 11) (i := 5) dX4_changesOfFront_11 rfl ?_
    refine A_iload_n (pc := 13) (i := 1) dX4_changesOfFront_13 rfl rfl ?_
    refine A_icmpge (pc := 14) 62 dX4_changesOfFront_14 (by decide) (fun hb14 => ?_) (fun hb14 => ?_)
    · refine A_iload_n (pc := 62) (i := 3) dX4_changesOfFront_62 rfl rfl ?_
      exact A_iretE (pc := 63) dX4_changesOfFront_63 rfl (Nat.zero_le _) (Nat.zero_le _) (rfl) (rfl)
    · exact absurd (nI_le (Nat.le_refl N) hN) hb14
  | succ d ih =>
    intro c f w x hq hd
    have hq2 := hT w hq
    refine A_iload (pc := 11) (i := 5) dX4_changesOfFront_11 rfl ?_
    refine A_iload_n (pc := 13) (i := 1) dX4_changesOfFront_13 rfl rfl ?_
    refine A_icmpge (pc := 14) 62 dX4_changesOfFront_14 (by decide) (fun hb14 => ?_) (fun hb14 => ?_)
    · exact absurd hb14 (nI_nge (by omega) hN)
    · refine A_iload_n (pc := 17) (i := 3) dX4_changesOfFront_17 rfl rfl ?_
      refine A_iload_n (pc := 18) (i := 2) dX4_changesOfFront_18 rfl rfl ?_
      refine A_icmpge (pc := 19) 62 dX4_changesOfFront_19 (by decide) (fun hb19 => ?_) (fun hb19 => ?_)
      · refine A_iload_n (pc := 62) (i := 3) dX4_changesOfFront_62 rfl rfl ?_
        exact A_iretE (pc := 63) dX4_changesOfFront_63 rfl (Nat.zero_le _) (Nat.zero_le _) (by rw [cf, if_pos hb19]) (by rw [cf, if_pos hb19])
      · refine A_aload_n (pc := 22) (i := 0) dX4_changesOfFront_22 rfl rfl ?_
        refine A_callV0 (pc := 23) cv_X4_144 (s_tick l hS i hi nl ln lk (hl.to ((hQ w hq).2.2.2.2.1.trans hl.1.symm)) n (hQ w hq).1 (hQ w hq).2.1 z (hQ w hq).2.2.1 (hQ w hq).2.2.2.1 (hQ w hq).2.2.2.2.2) (hS.k2 hi) rfl rfl rfl rfl (Nat.le_of_ble_eq_true rfl) ⟨(Nat.le_of_ble_eq_true rfl), (Nat.le_of_ble_eq_true rfl)⟩ ⟨Nat.zero_le _, Nat.zero_le _⟩ dX4_changesOfFront_23 ?_
        refine A_aload_n (pc := 26) (i := 0) dX4_changesOfFront_26 rfl rfl ?_
        refine A_callV1 (pc := 27) cv_X4_140 (s_foremost l hS i hi n (hQ _ hq2).1 (hQ _ hq2).2.1) (hS.k2 hi) rfl rfl rfl rfl (Nat.le_of_ble_eq_true rfl) ⟨(Nat.le_of_ble_eq_true rfl), (Nat.le_of_ble_eq_true rfl)⟩ ⟨Nat.zero_le _, Nat.zero_le _⟩ dX4_changesOfFront_27 ?_
        refine A_ist6 (pc := 30) dX4_changesOfFront_30 (Nat.le_of_ble_eq_true rfl) rfl ?_
        refine A_iload (pc := 32) (i := 4) dX4_changesOfFront_32 rfl ?_
        refine A_iflt (pc := 34) 52 dX4_changesOfFront_34 (by decide) (fun hb34 => ?_) (fun hb34 => ?_)
        · refine A_iload (pc := 52) (i := 6) dX4_changesOfFront_52 rfl ?_
          refine A_ist4 (pc := 54) dX4_changesOfFront_54 (Nat.le_of_ble_eq_true rfl) rfl ?_
          refine A_inc5 (pc := 56) (nI (N - d)) dX4_changesOfFront_56 (nI_sub1 hd) (Nat.le_of_ble_eq_true rfl) rfl ?_
          refine A_goto (pc := 59) 11 dX4_changesOfFront_59 (by decide) ?_
          rw [cf, if_neg hb19, if_neg (fun h => h.1 hb34)]
          exact ih _ _ _ _ hq2 (by omega)
        · refine A_iload (pc := 37) (i := 6) dX4_changesOfFront_37 rfl ?_
          refine A_iflt (pc := 39) 52 dX4_changesOfFront_39 (by decide) (fun hb39 => ?_) (fun hb39 => ?_)
          · refine A_iload (pc := 52) (i := 6) dX4_changesOfFront_52 rfl ?_
            refine A_ist4 (pc := 54) dX4_changesOfFront_54 (Nat.le_of_ble_eq_true rfl) rfl ?_
            refine A_inc5 (pc := 56) (nI (N - d)) dX4_changesOfFront_56 (nI_sub1 hd) (Nat.le_of_ble_eq_true rfl) rfl ?_
            refine A_goto (pc := 59) 11 dX4_changesOfFront_59 (by decide) ?_
            rw [cf, if_neg hb19, if_neg (fun h => h.2.1 hb39)]
            exact ih _ _ _ _ hq2 (by omega)
          · refine A_iload (pc := 42) (i := 4) dX4_changesOfFront_42 rfl ?_
            refine A_iload (pc := 44) (i := 6) dX4_changesOfFront_44 rfl ?_
            refine A_icmpeq (pc := 46) 52 dX4_changesOfFront_46 (by decide) (fun hb46 => ?_) (fun hb46 => ?_)
            · refine A_iload (pc := 52) (i := 6) dX4_changesOfFront_52 rfl ?_
              refine A_ist4 (pc := 54) dX4_changesOfFront_54 (Nat.le_of_ble_eq_true rfl) rfl ?_
              refine A_inc5 (pc := 56) (nI (N - d)) dX4_changesOfFront_56 (nI_sub1 hd) (Nat.le_of_ble_eq_true rfl) rfl ?_
              refine A_goto (pc := 59) 11 dX4_changesOfFront_59 (by decide) ?_
              rw [cf, if_neg hb19, if_neg (fun h => h.2.2 hb46)]
              exact ih _ _ _ _ hq2 (by omega)
            · refine A_inc3 (pc := 49) _ dX4_changesOfFront_49 rfl (Nat.le_of_ble_eq_true rfl) rfl ?_
              refine A_iload (pc := 52) (i := 6) dX4_changesOfFront_52 rfl ?_
              refine A_ist4 (pc := 54) dX4_changesOfFront_54 (Nat.le_of_ble_eq_true rfl) rfl ?_
              refine A_inc5 (pc := 56) (nI (N - d)) dX4_changesOfFront_56 (nI_sub1 hd) (Nat.le_of_ble_eq_true rfl) rfl ?_
              refine A_goto (pc := 59) 11 dX4_changesOfFront_59 (by decide) ?_
              rw [cf, if_neg hb19, if_pos ⟨hb34, hb39, hb46⟩]
              exact ih _ _ _ _ hq2 (by omega)
set_option maxRecDepth 20000 in
theorem s_changes (l : Launch) {kd : am_kd} {rv : am_rv} {iv : am_iv} (hS : sh kd rv) (i : Nat) (hi : i < 4) (nl : Nat) (ln : Nat → am_N) (lk : Nat → Nat) (hl : rm_laws kd rv iv i nl ln lk) (n z : Nat) (Q : am_iv → Prop) (hQ : ∀ w, Q w → tk_q i n z nl w) (hT : ∀ w, Q w → Q (rm_tick i n z nl ln lk w)) (hq : Q iv) (N : Nat) (hN : N < 2 ^ 31) (e : Int32) : am_Met l mX4_changesOfFront (am_rm 7 0 0) [am_P (2, i, 0), am_I (nI N), am_I e] kd rv iv (am_ret (some (am_I (cf (rm_tick i n z nl ln lk) (fun w => rm_front (fun r => w (4, i, r)) n) e N 0 (rm_front (fun r => iv (4, i, r)) n) iv).1)) kd rv (cf (rm_tick i n z nl ln lk) (fun w => rm_front (fun r => w (4, i, r)) n) e N 0 (rm_front (fun r => iv (4, i, r)) n) iv).2) := by
  refine am_Met.of (by decide) (Nat.le_of_ble_eq_true rfl) rfl ?_
  refine A_iconst (pc := 0) (0) dX4_changesOfFront_0 (by decide) ?_
  refine A_ist3 (pc := 1) dX4_changesOfFront_1 (Nat.le_of_ble_eq_true rfl) rfl ?_
  refine A_aload_n (pc := 2) (i := 0) dX4_changesOfFront_2 rfl rfl ?_
  refine A_callV1 (pc := 3) cv_X4_140 (s_foremost l hS i hi n (hQ _ hq).1 (hQ _ hq).2.1) (hS.k2 hi) rfl rfl rfl rfl (Nat.le_of_ble_eq_true rfl) ⟨(Nat.le_of_ble_eq_true rfl), (Nat.le_of_ble_eq_true rfl)⟩ ⟨Nat.zero_le _, Nat.zero_le _⟩ dX4_changesOfFront_3 ?_
  refine A_ist4 (pc := 6) dX4_changesOfFront_6 (Nat.le_of_ble_eq_true rfl) rfl ?_
  refine A_iconst (pc := 8) (0) dX4_changesOfFront_8 (by decide) ?_
  refine A_ist5 (pc := 9) dX4_changesOfFront_9 (Nat.le_of_ble_eq_true rfl) rfl ?_
  have h0 := cf_loop l hS i hi nl ln lk hl n z Q hQ hT N hN e N 0 (rm_front (fun r => iv (4, i, r)) n) iv none hq (Nat.le_refl N)
  rw [Nat.sub_self] at h0
  exact h0
set_option maxRecDepth 20000 in
theorem gx_loop (l : Launch) {kd : am_kd} {rv : am_rv} {iv : am_iv} (hS : sh kd rv) (i : Nat) (hi : i < 4) (nl : Nat) (ln : Nat → am_N) (lk : Nat → Nat) (hl : rm_laws kd rv iv i nl ln lk) (n z : Nat) (Q : am_iv → Prop) (hQ : ∀ w, Q w → tk_q i n z nl w) (hT : ∀ w, Q w → Q (rm_tick i n z nl ln lk w)) (N : Nat) (hN : N < 2 ^ 31) (r : Nat) (hr : r < 8) (d : Nat) : ∀ (g : Int32) (w : am_iv), Q w → d ≤ N → am_W l mX4_greatestX (am_rm 7 0 0) (am_ret (some (am_I (gx (rm_tick i n z nl ln lk) (4, i, r) d g w).1)) kd rv (gx (rm_tick i n z nl ln lk) (4, i, r) d g w).2) 16 [some (am_P (2, i, 0)), some (am_I (nI N)), some (am_I (nI r)), some (am_P (4, i, r)), some (am_I g), some (am_I (nI (N - d)))] [] kd rv w 0 0 := by
  induction d with
  | zero =>
    intro g w hq hd
    refine A_iload (pc := 16) (i := 5) dX4_greatestX_16 rfl ?_
    refine A_iload_n (pc := 18) (i := 1) dX4_greatestX_18 rfl rfl ?_
    refine A_icmpge (pc := 19) 57 dX4_greatestX_19 (by decide) (fun hb19 => ?_) (fun hb19 => ?_)
    · refine A_iload (pc := 57) (i := 4) dX4_greatestX_57 rfl ?_
      exact A_iretE (pc := 59) dX4_greatestX_59 rfl (Nat.zero_le _) (Nat.zero_le _) (rfl) (rfl)
    · exact absurd (nI_le (Nat.le_refl N) hN) hb19
  | succ d ih =>
    intro g w hq hd
    have hq2 := hT w hq
    refine A_iload (pc := 16) (i := 5) dX4_greatestX_16 rfl ?_
    refine A_iload_n (pc := 18) (i := 1) dX4_greatestX_18 rfl rfl ?_
    refine A_icmpge (pc := 19) 57 dX4_greatestX_19 (by decide) (fun hb19 => ?_) (fun hb19 => ?_)
    · exact absurd hb19 (nI_nge (by omega) hN)
    · refine A_aload_n (pc := 22) (i := 3) dX4_greatestX_22 rfl rfl ?_
      refine A_geti (pc := 23) 7 fl_X4_111_3 (hS.k4 hi hr) rfl dX4_greatestX_23 ?_
      refine A_ifeq (pc := 26) 57 dX4_greatestX_26 (by decide) (fun hb26 => ?_) (fun hb26 => ?_)
      · refine A_iload (pc := 57) (i := 4) dX4_greatestX_57 rfl ?_
        exact A_iretE (pc := 59) dX4_greatestX_59 rfl (Nat.zero_le _) (Nat.zero_le _) (by rw [gx, if_pos hb26]) (by rw [gx, if_pos hb26])
      · refine A_aload_n (pc := 29) (i := 0) dX4_greatestX_29 rfl rfl ?_
        refine A_callV0 (pc := 30) cv_X4_144 (s_tick l hS i hi nl ln lk (hl.to ((hQ w hq).2.2.2.2.1.trans hl.1.symm)) n (hQ w hq).1 (hQ w hq).2.1 z (hQ w hq).2.2.1 (hQ w hq).2.2.2.1 (hQ w hq).2.2.2.2.2) (hS.k2 hi) rfl rfl rfl rfl (Nat.le_of_ble_eq_true rfl) ⟨(Nat.le_of_ble_eq_true rfl), (Nat.le_of_ble_eq_true rfl)⟩ ⟨Nat.zero_le _, Nat.zero_le _⟩ dX4_greatestX_30 ?_
        refine A_aload_n (pc := 33) (i := 3) dX4_greatestX_33 rfl rfl ?_
        refine A_geti (pc := 34) 7 fl_X4_111_3 (hS.k4 hi hr) rfl dX4_greatestX_34 ?_
        refine A_ifeq (pc := 37) 51 dX4_greatestX_37 (by decide) (fun hb37 => ?_) (fun hb37 => ?_)
        · refine A_inc5 (pc := 51) (nI (N - d)) dX4_greatestX_51 (nI_sub1 hd) (Nat.le_of_ble_eq_true rfl) rfl ?_
          refine A_goto (pc := 54) 16 dX4_greatestX_54 (by decide) ?_
          rw [gx, if_neg hb26, if_pos hb37]
          exact ih _ _ hq2 (by omega)
        · refine A_iload (pc := 40) (i := 4) dX4_greatestX_40 rfl ?_
          refine A_aload_n (pc := 42) (i := 3) dX4_greatestX_42 rfl rfl ?_
          refine A_geti (pc := 43) 1 fl_X4_93_3 (hS.k4 hi hr) rfl dX4_greatestX_43 ?_
          refine A_mmax (pc := 46) cm_X4_123 (Nat.le_of_ble_eq_true rfl) (Nat.le_of_ble_eq_true rfl) (Nat.zero_le _) (Nat.zero_le _) dX4_greatestX_46 ?_
          refine A_ist4 (pc := 49) dX4_greatestX_49 (Nat.le_of_ble_eq_true rfl) rfl ?_
          refine A_inc5 (pc := 51) (nI (N - d)) dX4_greatestX_51 (nI_sub1 hd) (Nat.le_of_ble_eq_true rfl) rfl ?_
          refine A_goto (pc := 54) 16 dX4_greatestX_54 (by decide) ?_
          rw [gx, if_neg hb26, if_neg hb37]
          exact ih _ _ hq2 (by omega)
set_option maxRecDepth 20000 in
theorem s_greatestX (l : Launch) {kd : am_kd} {rv : am_rv} {iv : am_iv} (hS : sh kd rv) (i : Nat) (hi : i < 4) (nl : Nat) (ln : Nat → am_N) (lk : Nat → Nat) (hl : rm_laws kd rv iv i nl ln lk) (n z : Nat) (Q : am_iv → Prop) (hQ : ∀ w, Q w → tk_q i n z nl w) (hT : ∀ w, Q w → Q (rm_tick i n z nl ln lk w)) (hq : Q iv) (N : Nat) (hN : N < 2 ^ 31) (r : Nat) (hr : r < 8) : am_Met l mX4_greatestX (am_rm 7 0 0) [am_P (2, i, 0), am_I (nI N), am_I (nI r)] kd rv iv (am_ret (some (am_I (gx (rm_tick i n z nl ln lk) (4, i, r) N (iv (4, i, r) 1) iv).1)) kd rv (gx (rm_tick i n z nl ln lk) (4, i, r) N (iv (4, i, r) 1) iv).2) := by
  refine am_Met.of (by decide) (Nat.le_of_ble_eq_true rfl) rfl ?_
  refine A_aload_n (pc := 0) (i := 0) dX4_greatestX_0 rfl rfl ?_
  refine A_getr (pc := 1) 0 fl_X4_11_4 (hS.k2 hi) rfl (hS.w2_0 hi) dX4_greatestX_1 ?_
  refine A_iload_n (pc := 4) (i := 2) dX4_greatestX_4 rfl rfl ?_
  refine A_aaldN (pc := 5) (hS.k3 hi) (by decide) (by decide) hr (by decide) (hS.w3 hi hr) dX4_greatestX_5 ?_
  refine A_ast3 (pc := 6) dX4_greatestX_6 (Nat.le_of_ble_eq_true rfl) rfl ?_
  refine A_aload_n (pc := 7) (i := 3) dX4_greatestX_7 rfl rfl ?_
  refine A_geti (pc := 8) 1 fl_X4_93_3 (hS.k4 hi hr) rfl dX4_greatestX_8 ?_
  refine A_ist4 (pc := 11) dX4_greatestX_11 (Nat.le_of_ble_eq_true rfl) rfl ?_
  refine A_iconst (pc := 13) (0) dX4_greatestX_13 (by decide) ?_
  refine A_ist5 (pc := 14) dX4_greatestX_14 (Nat.le_of_ble_eq_true rfl) rfl ?_
  have h0 := gx_loop l hS i hi nl ln lk hl n z Q hQ hT N hN r hr N (iv (4, i, r) 1) iv hq (Nat.le_refl N)
  rw [Nat.sub_self] at h0
  exact h0
def la_ok (kd : am_kd) (rv : am_rv) (o : Nat) : Prop := ∀ j, j < 6 → rv (7, o, 0) j = none ∨ ∃ (x : am_N) (K : Nat), rv (7, o, 0) j = some x ∧ K < 7 ∧ kd x = some (.inl (lw_ci K))
def lw_cp (i o : Nat) (rv : am_rv) : Nat → am_rv
  | 0 => rv
  | j + 1 => am_ur (lw_cp i o rv j) (7, i, 0) j (rv (7, o, 0) j)
theorem lw_cp_o {i o : Nat} {rv : am_rv} {n : am_N} {k : Nat} (h : n ≠ (7, i, 0)) (j : Nat) : lw_cp i o rv j n k = rv n k := by
  induction j with
  | zero => rfl
  | succ j ih => simp only [lw_cp, am_ur]; rw [if_neg (fun e => h e.1)]; exact ih
theorem lw_cp_v {i o : Nat} {rv : am_rv} {j r : Nat} (h : r < j) : lw_cp i o rv j (7, i, 0) r = rv (7, o, 0) r := by
  induction j with
  | zero => omega
  | succ j ih =>
    simp only [lw_cp, am_ur]
    by_cases e : r = j
    · rw [if_pos ⟨trivial, e⟩, e]
    · rw [if_neg (fun q => e q.2)]; exact ih (by omega)
theorem lw_cp_sh {kd : am_kd} {rv : am_rv} {i o : Nat} (h : sh kd rv) (j : Nat) : sh kd (lw_cp i o rv j) := by
  induction j with
  | zero => exact h
  | succ j ih => exact ih.ur i j _
def rb_f (i o k : Nat) (w : am_iv) : am_iv := am_ui w (2, i, 0) k (w (2, o, 0) k)
def rb_n (i o n : Nat) (iv : am_iv) : am_iv := rb_f i o 9 (rb_f i o 8 (rb_f i o 7 (rb_f i o 6 (rb_f i o 5 (rb_f i o 4 (tr_heap i o n iv))))))
def rb_heap (i o n z0 z1 zt zw : Nat) (iv : am_iv) : am_iv := rw_cp (14, i, 0) (15, i, 0) (15, o, 0) zw (rw_cp (12, i, 0) (13, i, 0) (13, o, 0) zt (tx_cp (9, i, 1) (10, i, 1) (10, o, 1) z1 (tx_cp (9, i, 0) (10, i, 0) (10, o, 0) z0 (rb_n i o n iv))))
theorem rb_f_o {i o k : Nat} {w : am_iv} {n : am_N} {q : Nat} (h : n ≠ (2, i, 0)) : rb_f i o k w n q = w n q := am_ui_o h
theorem rb_n_o {i o n0 : Nat} {iv : am_iv} {n : am_N} {q : Nat} (h : n ≠ (2, i, 0)) (h4 : n.1 ≠ 4) : rb_n i o n0 iv n q = iv n q := by
  unfold rb_n tr_heap
  rw [rb_f_o h, rb_f_o h, rb_f_o h, rb_f_o h, rb_f_o h, rb_f_o h, tr_cp_o (fun e => h4 e.1), am_ui_o h]
theorem am_cpy_o {iv : am_iv} {b a n : am_N} {x y s k : Nat} (h : n ≠ a) : am_cpy iv b a x y s n k = iv n k := by simp [am_cpy, h]
theorem rw_cp_o {n0 a b : am_N} {s : Nat} {iv : am_iv} {n : am_N} {k : Nat} (h : n ≠ n0) (h2 : n ≠ a) : rw_cp n0 a b s iv n k = iv n k := by
  unfold rw_cp; rw [am_cpy_o h2, am_ui_o h]
theorem tx_cp_o {n0 a b : am_N} {s : Nat} {iv : am_iv} {n : am_N} {k : Nat} (h : n ≠ n0) (h2 : n ≠ a) : tx_cp n0 a b s iv n k = iv n k := by
  unfold tx_cp; rw [am_cpy_o h2, am_ui_o h]
set_option maxRecDepth 20000 in
theorem s_rmbecome (l : Launch) {kd : am_kd} {rv : am_rv} {iv : am_iv} (hS : sh kd rv) (i : Nat) (hi : i < 4) (o : Nat) (ho : o < 4) (hio : o ≠ i) (n : Nat) (hn : iv (2, o, 0) 1 = nI n) (hn8 : n ≤ 8) (hb : ∀ r, r < n → iv (4, o, r) 7 = 0 ∨ iv (4, o, r) 7 = 1) (hlo : la_ok kd rv o) (z0 z1 zt zw : Nat) (h0 : iv (9, o, 0) 1 = nI z0) (h05 : z0 ≤ 50) (h1 : iv (9, o, 1) 1 = nI z1) (h15 : z1 ≤ 50) (ht : iv (12, o, 0) 1 = nI zt) (ht5 : zt ≤ 50) (hw : iv (14, o, 0) 1 = nI zw) (hw2 : zw ≤ 20) : am_Met l mX4_become (am_rm 2 0 0) [am_P (2, i, 0), am_P (2, o, 0)] kd rv iv (am_ret none kd (lw_cp i o rv 6) (rb_heap i o n z0 z1 zt zw iv)) := by
  refine am_Met.of (by decide) (Nat.le_of_ble_eq_true rfl) rfl ?_
  have loop := am_for (fun j => am_W l mX4_become (am_rm 2 0 0) (am_ret none kd (lw_cp i o rv 6) (rb_heap i o n z0 z1 zt zw iv)) 7 [some (am_P (2, i, 0)), some (am_P (2, o, 0)), some (am_I (nI j))] [] kd (lw_cp i o rv j) (tr_heap i o n iv) 0 0) 6 ?_ (fun j hj ih => ?_) 0 (Nat.zero_le 6)
  · refine A_aload_n (pc := 0) (i := 0) dX4_become_0 rfl rfl ?_
    refine A_aload_n (pc := 1) (i := 1) dX4_become_1 rfl rfl ?_
    refine A_callV0 (pc := 2) cv_X4_57 (s_takeRings l hS i hi o ho hio n hn hn8 hb) (hS.k2 hi) rfl rfl rfl rfl (Nat.le_of_ble_eq_true rfl) ⟨(Nat.le_of_ble_eq_true rfl), (Nat.le_of_ble_eq_true rfl)⟩ ⟨Nat.zero_le _, Nat.zero_le _⟩ dX4_become_2 ?_
    refine A_iconst (pc := 5) (0) dX4_become_5 (by decide) ?_
    refine A_ist2 (pc := 6) dX4_become_6 (Nat.le_of_ble_eq_true rfl) rfl ?_
    exact loop
  · have hS := lw_cp_sh (i := i) (o := o) hS 6
    refine A_iload_n (pc := 7) (i := 2) dX4_become_7 rfl rfl ?_
    refine A_bipush (pc := 8) (6) dX4_become_8 (by decide) ?_
    refine A_icmpge (pc := 10) 31 dX4_become_10 (by decide) (fun hb10 => ?_) (fun hb10 => ?_)
    · refine A_aload_n (pc := 31) (i := 0) dX4_become_31 rfl rfl ?_
      refine A_aload_n (pc := 32) (i := 1) dX4_become_32 rfl rfl ?_
      refine A_geti (pc := 33) 4 fl_X4_61_4 (hS.k2 ho) rfl dX4_become_33 ?_
      refine A_puti (pc := 36) 4 fl_X4_61_4 (hS.k2 hi) rfl (by decide +kernel) rfl rfl dX4_become_36 ?_
      refine A_aload_n (pc := 39) (i := 0) dX4_become_39 rfl rfl ?_
      refine A_aload_n (pc := 40) (i := 1) dX4_become_40 rfl rfl ?_
      refine A_geti (pc := 41) 5 fl_X4_64_4 (hS.k2 ho) rfl dX4_become_41 ?_
      refine A_puti (pc := 44) 5 fl_X4_64_4 (hS.k2 hi) rfl (by decide +kernel) rfl rfl dX4_become_44 ?_
      refine A_aload_n (pc := 47) (i := 0) dX4_become_47 rfl rfl ?_
      refine A_aload_n (pc := 48) (i := 1) dX4_become_48 rfl rfl ?_
      refine A_geti (pc := 49) 6 fl_X4_30_4 (hS.k2 ho) rfl dX4_become_49 ?_
      refine A_puti (pc := 52) 6 fl_X4_30_4 (hS.k2 hi) rfl (by decide +kernel) rfl rfl dX4_become_52 ?_
      refine A_aload_n (pc := 55) (i := 0) dX4_become_55 rfl rfl ?_
      refine A_aload_n (pc := 56) (i := 1) dX4_become_56 rfl rfl ?_
      refine A_geti (pc := 57) 7 fl_X4_34_4 (hS.k2 ho) rfl dX4_become_57 ?_
      refine A_puti (pc := 60) 7 fl_X4_34_4 (hS.k2 hi) rfl (by decide +kernel) rfl rfl dX4_become_60 ?_
      refine A_aload_n (pc := 63) (i := 0) dX4_become_63 rfl rfl ?_
      refine A_aload_n (pc := 64) (i := 1) dX4_become_64 rfl rfl ?_
      refine A_geti (pc := 65) 8 fl_X4_67_4 (hS.k2 ho) rfl dX4_become_65 ?_
      refine A_puti (pc := 68) 8 fl_X4_67_4 (hS.k2 hi) rfl (by decide +kernel) rfl rfl dX4_become_68 ?_
      refine A_aload_n (pc := 71) (i := 0) dX4_become_71 rfl rfl ?_
      refine A_aload_n (pc := 72) (i := 1) dX4_become_72 rfl rfl ?_
      refine A_geti (pc := 73) 9 fl_X4_37_4 (hS.k2 ho) rfl dX4_become_73 ?_
      refine A_puti (pc := 76) 9 fl_X4_37_4 (hS.k2 hi) rfl (by decide +kernel) rfl rfl dX4_become_76 ?_
      refine A_aload_n (pc := 79) (i := 0) dX4_become_79 rfl rfl ?_
      refine A_getr (pc := 80) 10 fl_X4_42_4 (hS.k2 hi) rfl (hS.w2_10 hi) dX4_become_80 ?_
      refine A_iconst (pc := 83) (0) dX4_become_83 (by decide) ?_
      refine A_aaldN (pc := 84) (hS.k8 hi) (by decide) (by decide) (show 0 < 2 by decide) (by decide) (hS.w8 hi (show 0 < 2 by decide)) dX4_become_84 ?_
      refine A_aload_n (pc := 85) (i := 1) dX4_become_85 rfl rfl ?_
      refine A_getr (pc := 86) 10 fl_X4_42_4 (hS.k2 ho) rfl (hS.w2_10 ho) dX4_become_86 ?_
      refine A_iconst (pc := 89) (0) dX4_become_89 (by decide) ?_
      refine A_aaldN (pc := 90) (hS.k8 ho) (by decide) (by decide) (show 0 < 2 by decide) (by decide) (hS.w8 ho (show 0 < 2 by decide)) dX4_become_90 ?_
      refine A_callV0 (pc := 91) cv_X4_70 (s_txbecome l (9, i, 0) (10, i, 0) (11, i, 0) ⟨hS.k9 (Or.inl ⟨hi, by decide⟩), hS.w9_0 (Or.inl ⟨hi, by decide⟩), hS.w9_2 (Or.inl ⟨hi, by decide⟩), hS.k10 (Or.inl ⟨hi, by decide⟩), hS.k11 (Or.inl ⟨hi, by decide⟩), by simp, by simp, by simp⟩ (9, o, 0) (10, o, 0) (11, o, 0) ⟨hS.k9 (Or.inl ⟨ho, by decide⟩), hS.w9_0 (Or.inl ⟨ho, by decide⟩), hS.w9_2 (Or.inl ⟨ho, by decide⟩), hS.k10 (Or.inl ⟨ho, by decide⟩), hS.k11 (Or.inl ⟨ho, by decide⟩), by simp, by simp, by simp⟩ z0 ((rb_n_o (by simp) (by simp)).trans h0) h05) (hS.k9 (Or.inl ⟨hi, (show 0 < 2 by decide)⟩)) rfl rfl rfl rfl (Nat.le_of_ble_eq_true rfl) ⟨(Nat.le_of_ble_eq_true rfl), (Nat.le_of_ble_eq_true rfl)⟩ ⟨Nat.zero_le _, Nat.zero_le _⟩ dX4_become_91 ?_
      refine A_aload_n (pc := 94) (i := 0) dX4_become_94 rfl rfl ?_
      refine A_getr (pc := 95) 10 fl_X4_42_4 (hS.k2 hi) rfl (hS.w2_10 hi) dX4_become_95 ?_
      refine A_iconst (pc := 98) (1) dX4_become_98 (by decide) ?_
      refine A_aaldN (pc := 99) (hS.k8 hi) (by decide) (by decide) (show 1 < 2 by decide) (by decide) (hS.w8 hi (show 1 < 2 by decide)) dX4_become_99 ?_
      refine A_aload_n (pc := 100) (i := 1) dX4_become_100 rfl rfl ?_
      refine A_getr (pc := 101) 10 fl_X4_42_4 (hS.k2 ho) rfl (hS.w2_10 ho) dX4_become_101 ?_
      refine A_iconst (pc := 104) (1) dX4_become_104 (by decide) ?_
      refine A_aaldN (pc := 105) (hS.k8 ho) (by decide) (by decide) (show 1 < 2 by decide) (by decide) (hS.w8 ho (show 1 < 2 by decide)) dX4_become_105 ?_
      refine A_callV0 (pc := 106) cv_X4_70 (s_txbecome l (9, i, 1) (10, i, 1) (11, i, 1) ⟨hS.k9 (Or.inl ⟨hi, by decide⟩), hS.w9_0 (Or.inl ⟨hi, by decide⟩), hS.w9_2 (Or.inl ⟨hi, by decide⟩), hS.k10 (Or.inl ⟨hi, by decide⟩), hS.k11 (Or.inl ⟨hi, by decide⟩), by simp, by simp, by simp⟩ (9, o, 1) (10, o, 1) (11, o, 1) ⟨hS.k9 (Or.inl ⟨ho, by decide⟩), hS.w9_0 (Or.inl ⟨ho, by decide⟩), hS.w9_2 (Or.inl ⟨ho, by decide⟩), hS.k10 (Or.inl ⟨ho, by decide⟩), hS.k11 (Or.inl ⟨ho, by decide⟩), by simp, by simp, by simp⟩ z1 ((tx_cp_o (by simp) (by simp)).trans ((rb_n_o (by simp) (by simp)).trans h1)) h15) (hS.k9 (Or.inl ⟨hi, (show 1 < 2 by decide)⟩)) rfl rfl rfl rfl (Nat.le_of_ble_eq_true rfl) ⟨(Nat.le_of_ble_eq_true rfl), (Nat.le_of_ble_eq_true rfl)⟩ ⟨Nat.zero_le _, Nat.zero_le _⟩ dX4_become_106 ?_
      refine A_aload_n (pc := 109) (i := 0) dX4_become_109 rfl rfl ?_
      refine A_getr (pc := 110) 11 fl_X4_50_4 (hS.k2 hi) rfl (hS.w2_11 hi) dX4_become_110 ?_
      refine A_aload_n (pc := 113) (i := 1) dX4_become_113 rfl rfl ?_
      refine A_getr (pc := 114) 11 fl_X4_50_4 (hS.k2 ho) rfl (hS.w2_11 ho) dX4_become_114 ?_
      refine A_callV0 (pc := 117) cv_X4_74 (s_rwbecome l (12, i, 0) (13, i, 0) (12, o, 0) (13, o, 0) 50 zt (hS.k12 hi) (hS.w12 hi) (hS.k13 hi) (by decide) (hS.k12 ho) (hS.w12 ho) (hS.k13 ho) ((tx_cp_o (by simp) (by simp)).trans ((tx_cp_o (by simp) (by simp)).trans ((rb_n_o (by simp) (by simp)).trans ht))) ht5 (by simp [hio])) (hS.k12 hi) rfl rfl rfl rfl (Nat.le_of_ble_eq_true rfl) ⟨(Nat.le_of_ble_eq_true rfl), (Nat.le_of_ble_eq_true rfl)⟩ ⟨Nat.zero_le _, Nat.zero_le _⟩ dX4_become_117 ?_
      refine A_aload_n (pc := 120) (i := 0) dX4_become_120 rfl rfl ?_
      refine A_getr (pc := 121) 12 fl_X4_54_4 (hS.k2 hi) rfl (hS.w2_12 hi) dX4_become_121 ?_
      refine A_aload_n (pc := 124) (i := 1) dX4_become_124 rfl rfl ?_
      refine A_getr (pc := 125) 12 fl_X4_54_4 (hS.k2 ho) rfl (hS.w2_12 ho) dX4_become_125 ?_
      refine A_callV0 (pc := 128) cv_X4_74 (s_rwbecome l (14, i, 0) (15, i, 0) (14, o, 0) (15, o, 0) 20 zw (hS.k14 hi) (hS.w14 hi) (hS.k15 hi) (by decide) (hS.k14 ho) (hS.w14 ho) (hS.k15 ho) ((rw_cp_o (by simp) (by simp)).trans ((tx_cp_o (by simp) (by simp)).trans ((tx_cp_o (by simp) (by simp)).trans ((rb_n_o (by simp) (by simp)).trans hw)))) hw2 (by simp [hio])) (hS.k14 hi) rfl rfl rfl rfl (Nat.le_of_ble_eq_true rfl) ⟨(Nat.le_of_ble_eq_true rfl), (Nat.le_of_ble_eq_true rfl)⟩ ⟨Nat.zero_le _, Nat.zero_le _⟩ dX4_become_128 ?_
      exact A_vretE (pc := 131) dX4_become_131 rfl (Nat.zero_le _) (Nat.zero_le _) (rfl)
    · exact absurd (show (6 : Int32) ≤ nI 6 by decide) hb10
  · have hS := lw_cp_sh (i := i) (o := o) hS j
    have er : lw_cp i o rv j (7, o, 0) j = rv (7, o, 0) j := lw_cp_o (by simp [hio]) j
    rcases hlo j hj with e | ⟨x, K, e, hK, hx⟩
    · refine A_iload_n (pc := 7) (i := 2) dX4_become_7 rfl rfl ?_
      refine A_bipush (pc := 8) (6) dX4_become_8 (by decide) ?_
      refine A_icmpge (pc := 10) 31 dX4_become_10 (by decide) (fun hb10 => ?_) (fun hb10 => ?_)
      · have h6 : ¬ nI 6 ≤ nI j := nI_ge hj (by decide)
        exact absurd hb10 h6
      · refine A_aload_n (pc := 13) (i := 0) dX4_become_13 rfl rfl ?_
        refine A_getr (pc := 14) 3 fl_X4_25_4 (hS.k2 hi) rfl (hS.w2_3 hi) dX4_become_14 ?_
        refine A_iload_n (pc := 17) (i := 2) dX4_become_17 rfl rfl ?_
        refine A_aload_n (pc := 18) (i := 1) dX4_become_18 rfl rfl ?_
        refine A_getr (pc := 19) 3 fl_X4_25_4 (hS.k2 ho) rfl (hS.w2_3 ho) dX4_become_19 ?_
        refine A_iload_n (pc := 22) (i := 2) dX4_become_22 rfl rfl ?_
        refine A_aaldN0 (pc := 23) (hS.k7 ho) (by decide) (by decide) hj (by decide) (er.trans e) dX4_become_23 ?_
        refine A_aast0N (pc := 24) (hS.k7 hi) (by decide) rfl hj (by decide) dX4_become_24 ?_
        refine A_inc2 (pc := 25) (nI (j + 1)) dX4_become_25 (nI_1 j) (Nat.le_of_ble_eq_true rfl) rfl ?_
        refine A_goto (pc := 28) 7 dX4_become_28 (by decide) ?_
        have e5 : lw_cp i o rv (j + 1) = am_ur (lw_cp i o rv j) (7, i, 0) j (rv (7, o, 0) j) := rfl
        rw [e5, e] at ih
        exact ih
    · refine A_iload_n (pc := 7) (i := 2) dX4_become_7 rfl rfl ?_
      refine A_bipush (pc := 8) (6) dX4_become_8 (by decide) ?_
      refine A_icmpge (pc := 10) 31 dX4_become_10 (by decide) (fun hb10 => ?_) (fun hb10 => ?_)
      · have h6 : ¬ nI 6 ≤ nI j := nI_ge hj (by decide)
        exact absurd hb10 h6
      · refine A_aload_n (pc := 13) (i := 0) dX4_become_13 rfl rfl ?_
        refine A_getr (pc := 14) 3 fl_X4_25_4 (hS.k2 hi) rfl (hS.w2_3 hi) dX4_become_14 ?_
        refine A_iload_n (pc := 17) (i := 2) dX4_become_17 rfl rfl ?_
        refine A_aload_n (pc := 18) (i := 1) dX4_become_18 rfl rfl ?_
        refine A_getr (pc := 19) 3 fl_X4_25_4 (hS.k2 ho) rfl (hS.w2_3 ho) dX4_become_19 ?_
        refine A_iload_n (pc := 22) (i := 2) dX4_become_22 rfl rfl ?_
        refine A_aaldN (pc := 23) (hS.k7 ho) (by decide) (by decide) hj (by decide) (er.trans e) dX4_become_23 ?_
        obtain ⟨rr, hr1, hr2⟩ := lw_r hK
        refine A_aastN (pc := 24) (hS.k7 hi) (by decide) rfl hx hr1 hr2 hj (by decide) dX4_become_24 ?_
        refine A_inc2 (pc := 25) (nI (j + 1)) dX4_become_25 (nI_1 j) (Nat.le_of_ble_eq_true rfl) rfl ?_
        refine A_goto (pc := 28) 7 dX4_become_28 (by decide) ?_
        have e5 : lw_cp i o rv (j + 1) = am_ur (lw_cp i o rv j) (7, i, 0) j (rv (7, o, 0) j) := rfl
        rw [e5, e] at ih
        exact ih
