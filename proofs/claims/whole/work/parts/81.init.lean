section AC
variable {l : Launch} {M : am_M} {R : Room} {post : am_Post} {pc : Nat} {ls : List (Option am_V)} {st : List am_V} {kd : am_kd} {rv : am_rv} {iv : am_iv} {cu su : Nat}
theorem A_callIc {y : MethodName} {cc : ByteArray} {mL d c s : Nat} {idx n : Nat} {o : am_N} {av rest : List am_V} {kd1 : am_kd} {rv1 : am_rv} {iv1 : am_iv} (hC : am_CI M.1.cls idx (y, cc, mL, none) n) (hM : am_Met l (y, cc, mL, none) (am_rm d c s) (am_P o :: av) kd rv iv (am_ret none kd1 rv1 iv1)) (hn : av.length = n) (hst : av.reverse ++ am_P o :: rest = st) (hw : am_wt rest ≤ 8) (hroom : d + 1 ≤ R.frames ∧ 8 + (mL + 11) + 60 * d ≤ R.locals) (hcs : cu + c ≤ R.cells ∧ su + s ≤ R.slots) (hd : decode M.2.1 pc = .ok (.invokespecial idx, 3)) (k : am_W l M R post (pc + 3) ls rest kd1 rv1 iv1 (cu + c) (su + s)) : am_W l M R post pc ls st kd rv iv cu su := by
  refine A_callI hC hM hn hst hw hroom hcs hd (fun v9 kd9 rv9 iv9 h9 => ?_)
  obtain ⟨e1, e2, e3, e4⟩ := h9
  subst e1; subst e2; subst e3; subst e4
  exact k
theorem A_newW (n : am_N) {ci idx w : Nat} {r : vw_C} (hr : vwCl[ci]? = some r) (hrw : r.2.2 = w) (h1 : Cond.classLink M.1.cls idx r.1 ∈ am_T) (h2 : Cond.instantiable r.1 w ∈ am_T) (h3 : Cond.initialized r.1 ∈ am_T) (hk : kd n = none) (ht : n.1 < 40) (hi0 : ∀ k, iv n k = 0) (hr0 : ∀ k, rv n k = none) (hcu : cu + 1 ≤ R.cells) (hsu : su + w ≤ R.slots) (hd : decode M.2.1 pc = .ok (.new idx, 3)) (k : am_W l M R post (pc + 3) ls (am_P n :: st) (am_uk kd n (.inl ci)) rv iv (cu + 1) (su + w)) : am_W l M R post pc ls st kd rv iv cu su := by
  subst hrw
  exact A_new n hr h1 h2 h3 hk ht hi0 hr0 hcu hsu hd k
theorem A_cu {cu' su' : Nat} (h1 : cu = cu') (h2 : su = su') (k : am_W l M R post pc ls st kd rv iv cu' su') : am_W l M R post pc ls st kd rv iv cu su := by
  subst h1; subst h2; exact k
end AC
theorem am_ur_s {rv : am_rv} {n : am_N} {k : Nat} {o : Option am_N} : am_ur rv n k o n k = o := by simp [am_ur]
theorem am_ur_n {rv : am_rv} {n n' : am_N} {k k' : Nat} {o : Option am_N} (h : ¬ (n' = n ∧ k' = k)) : am_ur rv n k o n' k' = rv n' k' := by simp [am_ur, h]
theorem am_ur_o {rv : am_rv} {n n' : am_N} {k k' : Nat} {o : Option am_N} (h : n' ≠ n) : am_ur rv n k o n' k' = rv n' k' := by simp [am_ur, h]
set_option maxRecDepth 20000 in
theorem s_rowInit (l : Launch) {kd : am_kd} {rv : am_rv} {iv : am_iv} (n a : am_N) (hk : kd n = some (.inl 5)) (hna : n ≠ a) (hka : kd a = none) (hta : a.1 < 40) (hi0 : ∀ k, iv a k = 0) (hr0 : ∀ k, rv a k = none) (z : Nat) (hz : z ≤ 300) : am_Met l mX5_init (am_rm 2 1 z) [am_P n, am_I (nI z)] kd rv iv (am_ret none (am_uk kd a (.inr (0, z))) (am_ur rv n 0 (some a)) iv) := by
  refine am_Met.of (by decide) (Nat.le_of_ble_eq_true rfl) rfl ?_
  refine A_aload_n (pc := 0) (i := 0) dX5_init_0 rfl rfl ?_
  refine A_objInit (pc := 1) co_X5_1 co_inst co_code (Nat.le_of_ble_eq_true rfl) (Nat.le_of_ble_eq_true rfl) dX5_init_1 ?_
  refine A_aload_n (pc := 4) (i := 0) dX5_init_4 rfl rfl ?_
  refine A_iload_n (pc := 5) (i := 1) dX5_init_5 rfl rfl ?_
  refine A_newa (pc := 6) a (z := z) co_arri hka hta hi0 hr0 (fun h => nI_nlt (Nat.zero_le z) (by omega) h) (nI_clamp (by omega)) (by omega) (by show 0 + 1 ≤ 1; decide) (by show 0 + z ≤ z; omega) dX5_init_6 ?_
  refine A_putr (pc := 8) 0 fl_X5_7_5 (by first | exact hk | exact (am_uk_o hna).trans hk) rfl (by decide +kernel) dX5_init_8 ?_
  exact A_vretE (pc := 11) dX5_init_11 rfl (by show 0 + 1 ≤ 1; decide) (by show 0 + z ≤ z; omega) rfl
set_option maxRecDepth 20000 in
theorem s_textInit (l : Launch) {kd : am_kd} {rv : am_rv} {iv : am_iv} (i u : Nat) (hk : kd (9, i, u) = some (.inl 7)) (hka : kd (10, i, u) = none) (hia : ∀ k, iv (10, i, u) k = 0) (hra : ∀ k, rv (10, i, u) k = none) (hkb : kd (11, i, u) = none) (hib : ∀ k, iv (11, i, u) k = 0) (hrb : ∀ k, rv (11, i, u) k = none) : am_Met l mX7_init (am_rm 2 2 100) [am_P (9, i, u)] kd rv iv (am_ret none (am_uk (am_uk kd (10, i, u) (.inr (0, 50))) (11, i, u) (.inr (0, 50))) (am_ur (am_ur rv (9, i, u) 0 (some (10, i, u))) (9, i, u) 2 (some (11, i, u))) iv) := by
  refine am_Met.of (by decide) (Nat.le_of_ble_eq_true rfl) rfl ?_
  refine A_aload_n (pc := 0) (i := 0) dX7_init_0 rfl rfl ?_
  refine A_objInit (pc := 1) co_X7_3 co_inst co_code (Nat.le_of_ble_eq_true rfl) (Nat.le_of_ble_eq_true rfl) dX7_init_1 ?_
  refine A_aload_n (pc := 4) (i := 0) dX7_init_4 rfl rfl ?_
  refine A_bipush (pc := 5) (50) dX7_init_5 (by decide) ?_
  refine A_newa (pc := 7) (10, i, u) (z := 50) co_arri hka (by show 10 < 40; decide) hia hra (by decide) (by decide) (by decide) (by decide) (by decide) dX7_init_7 ?_
  refine A_putr (pc := 9) 0 fl_X7_9_7 (by (repeat rw [am_uk_o (by simp)]); exact hk) rfl (by decide +kernel) dX7_init_9 ?_
  refine A_aload_n (pc := 12) (i := 0) dX7_init_12 rfl rfl ?_
  refine A_bipush (pc := 13) (50) dX7_init_13 (by decide) ?_
  refine A_newa (pc := 15) (11, i, u) (z := 50) co_arri ((am_uk_o (by simp)).trans hkb) (by show 11 < 40; decide) hib (fun k => (am_ur_o (by simp)).trans (hrb k)) (by decide) (by decide) (by decide) (by decide) (by decide) dX7_init_15 ?_
  refine A_putr (pc := 17) 2 fl_X7_15_7 (by (repeat rw [am_uk_o (by simp)]); exact hk) rfl (by decide +kernel) dX7_init_17 ?_
  exact A_vretE (pc := 20) dX7_init_20 rfl (by decide) (by decide) rfl
/-- the rings of a new room, j of them -/
def riI (i j : Nat) (kd0 : am_kd) (rv0 : am_rv) (iv0 : am_iv) (kd : am_kd) (rv : am_rv) (iv : am_iv) : Prop := (∀ q : am_N, ((q.1 ≠ 4 ∧ q.1 ≠ 6) ∨ q.2.1 ≠ i ∨ j ≤ q.2.2) → kd q = kd0 q ∧ ∀ k, iv q k = iv0 q k) ∧ (∀ q k, ((q ≠ (3, i, 0) ∧ q ≠ (5, i, 0)) ∨ j ≤ k) → rv q k = rv0 q k) ∧ ∀ r, r < j → (kd (4, i, r) = some (.inl 3) ∧ kd (6, i, r) = some (.inl 3)) ∧ (iv (4, i, r) 0 = nI r ∧ iv (6, i, r) 0 = nI r) ∧ rv (3, i, 0) r = some (4, i, r) ∧ rv (5, i, 0) r = some (6, i, r)
theorem rg_new_o {n q : am_N} {k : Nat} {v : Int32} {iv : am_iv} (h : q ≠ n) : rg_new n v iv q k = iv q k := by
  unfold rg_new
  rw [am_ui_o h, am_ui_o h, am_ui_o h, am_ui_o h]
theorem rg_new_0 {n : am_N} {v : Int32} {iv : am_iv} : rg_new n v iv n 0 = v := by
  unfold rg_new
  rw [am_ui_n (by simp), am_ui_n (by simp), am_ui_n (by simp), am_ui_s]
theorem riI.step {i j : Nat} {kd0 : am_kd} {rv0 : am_rv} {iv0 : am_iv} {kd : am_kd} {rv : am_rv} {iv : am_iv} (h : riI i j kd0 rv0 iv0 kd rv iv) : riI i (j + 1) kd0 rv0 iv0 (am_uk (am_uk kd (4, i, j) (.inl 3)) (6, i, j) (.inl 3)) (am_ur (am_ur rv (3, i, 0) j (some (4, i, j))) (5, i, 0) j (some (6, i, j))) (rg_new (6, i, j) (nI j) (rg_new (4, i, j) (nI j) iv)) := by
  obtain ⟨h1, h2, h3⟩ := h
  refine ⟨fun q hq => ?_, fun q k hq => ?_, fun r hr => ?_⟩
  · have n4 : q ≠ (4, i, j) := fun e => by subst e; simp at hq; omega
    have n6 : q ≠ (6, i, j) := fun e => by subst e; simp at hq; omega
    have g := h1 q (by rcases hq with e | e | e <;> simp [e]; omega)
    exact ⟨by rw [am_uk_o n6, am_uk_o n4]; exact g.1, fun k => by rw [rg_new_o n6, rg_new_o n4]; exact g.2 k⟩
  · have n3 : ¬ (q = (3, i, 0) ∧ k = j) := fun e => by
      rcases hq with z | z
      · exact z.1 e.1
      · omega
    have n5 : ¬ (q = (5, i, 0) ∧ k = j) := fun e => by
      rcases hq with z | z
      · exact z.2 e.1
      · omega
    rw [am_ur_n n5, am_ur_n n3]
    exact h2 q k (by rcases hq with e | e <;> simp [e]; omega)
  · by_cases e : r = j
    · subst e
      refine ⟨⟨by rw [am_uk_o (by simp), am_uk_s], am_uk_s⟩, ⟨by rw [rg_new_o (by simp), rg_new_0], rg_new_0⟩, ?_, am_ur_s⟩
      rw [am_ur_o (by simp), am_ur_s]
    · obtain ⟨⟨g1, g2⟩, ⟨g3, g4⟩, g5, g6⟩ := h3 r (by omega)
      refine ⟨⟨?_, ?_⟩, ⟨?_, ?_⟩, ?_, ?_⟩
      · rw [am_uk_o (by simp), am_uk_o (by simp [e])]; exact g1
      · rw [am_uk_o (by simp [e]), am_uk_o (by simp)]; exact g2
      · rw [rg_new_o (by simp), rg_new_o (by simp [e])]; exact g3
      · rw [rg_new_o (by simp [e]), rg_new_o (by simp)]; exact g4
      · rw [am_ur_n (by simp), am_ur_n (by simp [e])]; exact g5
      · rw [am_ur_n (by simp [e]), am_ur_n (by simp)]; exact g6
/-- a room's names that are still free -/
def rmF (i : Nat) (kd : am_kd) (rv : am_rv) (iv : am_iv) : Prop := ∀ q : am_N, 3 ≤ q.1 → q.1 ≤ 15 → q.2.1 = i → kd q = none ∧ ∀ k, rv q k = none ∧ iv q k = 0
set_option maxRecDepth 20000 in
theorem ri_loop (l : Launch) {post : am_Post} (i : Nat) {kd0 : am_kd} {rv0 : am_rv} {iv0 : am_iv} (hk20 : kd0 (2, i, 0) = some (.inl 4)) (hw0 : rv0 (2, i, 0) 0 = some (3, i, 0)) (hw2 : rv0 (2, i, 0) 2 = some (5, i, 0)) (hk3 : kd0 (3, i, 0) = some (.inr (1, 8))) (hk5 : kd0 (5, i, 0) = some (.inr (1, 8))) (hf : ∀ r, (kd0 (4, i, r) = none ∧ kd0 (6, i, r) = none) ∧ ∀ k, (rv0 (4, i, r) k = none ∧ rv0 (6, i, r) k = none) ∧ iv0 (4, i, r) k = 0 ∧ iv0 (6, i, r) k = 0) (d : Nat) : ∀ (j : Nat) (kd : am_kd) (rv : am_rv) (iv : am_iv), riI i j kd0 rv0 iv0 kd rv iv → j + d = 8 → (∀ kd rv iv, riI i 8 kd0 rv0 iv0 kd rv iv → am_W l mX4_init (am_rm 4 30 442) post 64 [some (am_P (2, i, 0)), some (am_I (nI 8))] [] kd rv iv (2 + 2 * 8) (16 + 16 * 8)) → am_W l mX4_init (am_rm 4 30 442) post 24 [some (am_P (2, i, 0)), some (am_I (nI j))] [] kd rv iv (2 + 2 * j) (16 + 16 * j) := by
  induction d with
  | zero =>
    intro j kd rv iv hI hd K
    have ej : j = 8 := hd
    subst ej
    refine A_iload_n (pc := 24) (i := 1) dX4_init_24 rfl rfl ?_
    refine A_bipush (pc := 25) (8) dX4_init_25 (by decide) ?_
    refine A_icmpge (pc := 27) 64 dX4_init_27 (by decide) (fun hb27 => ?_) (fun hb27 => ?_)
    · exact K _ _ _ hI
    · exact absurd (show (8 : Int32) ≤ nI 8 by decide) hb27
  | succ d ih =>
    intro j kd rv iv hI hd K
    have hk2 : kd (2, i, 0) = some (.inl 4) := (hI.1 _ (Or.inl ⟨by simp, by simp⟩)).1.trans hk20
    have w0 : rv (2, i, 0) 0 = some (3, i, 0) := (hI.2.1 _ _ (Or.inl ⟨by simp, by simp⟩)).trans hw0
    have w2 : rv (2, i, 0) 2 = some (5, i, 0) := (hI.2.1 _ _ (Or.inl ⟨by simp, by simp⟩)).trans hw2
    have k3 : kd (3, i, 0) = some (.inr (1, 8)) := (hI.1 _ (Or.inl ⟨by simp, by simp⟩)).1.trans hk3
    have k5 : kd (5, i, 0) = some (.inr (1, 8)) := (hI.1 _ (Or.inl ⟨by simp, by simp⟩)).1.trans hk5
    have f4 := hI.1 (4, i, j) (Or.inr (Or.inr (Nat.le_refl j)))
    have f6 := hI.1 (6, i, j) (Or.inr (Or.inr (Nat.le_refl j)))
    have r4 : ∀ k, rv (4, i, j) k = none := fun k => (hI.2.1 (4, i, j) k (Or.inl ⟨by simp, by simp⟩)).trans (((hf j).2 k).1.1)
    have r6 : ∀ k, rv (6, i, j) k = none := fun k => (hI.2.1 (6, i, j) k (Or.inl ⟨by simp, by simp⟩)).trans (((hf j).2 k).1.2)
    have hcl : (nI j).toNatClampNeg = j := nI_clamp (by omega)
    refine A_iload_n (pc := 24) (i := 1) dX4_init_24 rfl rfl ?_
    refine A_bipush (pc := 25) (8) dX4_init_25 (by decide) ?_
    refine A_icmpge (pc := 27) 64 dX4_init_27 (by decide) (fun hb27 => ?_) (fun hb27 => ?_)
    · exact absurd (show nI 8 ≤ nI j from hb27) (nI_nge (by omega) (by decide))
    · refine A_aload_n (pc := 30) (i := 0) dX4_init_30 rfl rfl ?_
      refine A_getr (pc := 31) 0 fl_X4_11_4 (by (repeat rw [am_uk_o (by simp)]); exact hk2) rfl (by (repeat rw [am_ur_o (by simp)]); exact w0) dX4_init_31 ?_
      refine A_iload_n (pc := 34) (i := 1) dX4_init_34 rfl rfl ?_
      refine A_newW (pc := 35) (4, i, j) (ci := 3) (r := (RX3, TX3, 8)) (w := 8) rfl rfl cl_X4_9 cz_3 cy_3 (f4.1.trans (hf j).1.1) (by simp) (fun k => (f4.2 k).trans ((hf j).2 k).2.1) r4 (by show _ ≤ 30; omega) (by show _ ≤ 442; omega) dX4_init_35 ?_
      refine A_dup (pc := 38) dX4_init_38 rfl ?_
      refine A_iload_n (pc := 39) (i := 1) dX4_init_39 rfl rfl ?_
      refine A_callIc (pc := 40) ci_X4_20 (s_rinit l (4, i, j) am_uk_s _) rfl rfl (Nat.le_of_ble_eq_true rfl) ⟨(Nat.le_of_ble_eq_true rfl), (Nat.le_of_ble_eq_true rfl)⟩ ⟨by show _ ≤ 30; omega, by show _ ≤ 442; omega⟩ dX4_init_40 ?_
      refine A_aast (pc := 43) (n := (3, i, 0)) (t := 1) (z := 8) (ci := 3) (r := (RX3, TX3, 8)) (C0 := RX3) (by (repeat rw [am_uk_o (by simp)]); exact k3) (by decide) rfl am_uk_s rfl (Or.inl rfl) (vp_in_nI (show j < 8 by omega) (by decide)) dX4_init_43 ?_
      rw [hcl]
      refine A_aload_n (pc := 44) (i := 0) dX4_init_44 rfl rfl ?_
      refine A_getr (pc := 45) 2 fl_X4_17_4 (by (repeat rw [am_uk_o (by simp)]); exact hk2) rfl (by (repeat rw [am_ur_o (by simp)]); exact w2) dX4_init_45 ?_
      refine A_iload_n (pc := 48) (i := 1) dX4_init_48 rfl rfl ?_
      refine A_newW (pc := 49) (6, i, j) (ci := 3) (r := (RX3, TX3, 8)) (w := 8) rfl rfl cl_X4_9 cz_3 cy_3 ((am_uk_o (by simp)).trans (f6.1.trans (hf j).1.2)) (by simp) (fun k => (rg_new_o (by simp)).trans ((f6.2 k).trans ((hf j).2 k).2.2)) (fun k => (am_ur_o (by simp)).trans (r6 k)) (by show _ ≤ 30; omega) (by show _ ≤ 442; omega) dX4_init_49 ?_
      refine A_dup (pc := 52) dX4_init_52 rfl ?_
      refine A_iload_n (pc := 53) (i := 1) dX4_init_53 rfl rfl ?_
      refine A_callIc (pc := 54) ci_X4_20 (s_rinit l (6, i, j) am_uk_s _) rfl rfl (Nat.le_of_ble_eq_true rfl) ⟨(Nat.le_of_ble_eq_true rfl), (Nat.le_of_ble_eq_true rfl)⟩ ⟨by show _ ≤ 30; omega, by show _ ≤ 442; omega⟩ dX4_init_54 ?_
      refine A_aast (pc := 57) (n := (5, i, 0)) (t := 1) (z := 8) (ci := 3) (r := (RX3, TX3, 8)) (C0 := RX3) (by (repeat rw [am_uk_o (by simp)]); exact k5) (by decide) rfl am_uk_s rfl (Or.inl rfl) (vp_in_nI (show j < 8 by omega) (by decide)) dX4_init_57 ?_
      rw [hcl]
      refine A_inc1 (pc := 58) (nI (j + 1)) dX4_init_58 (nI_1 j) (Nat.le_of_ble_eq_true rfl) rfl ?_
      refine A_goto (pc := 61) 24 dX4_init_61 (by decide) ?_
      refine A_cu (cu' := 2 + 2 * (j + 1)) (su' := 16 + 16 * (j + 1)) (by omega) (by omega) ?_
      exact ih (j + 1) _ _ _ hI.step (by omega) K
