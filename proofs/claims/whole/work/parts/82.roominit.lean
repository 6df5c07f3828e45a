theorem am_uk_t {kd : am_kd} {n n' : am_N} {K : am_K} (h : n' = n) : am_uk kd n K n' = some K := by subst h; exact am_uk_s
theorem am_ur_t {rv : am_rv} {n n' : am_N} {k k' : Nat} {o : Option am_N} (h : n' = n) (h2 : k' = k) : am_ur rv n k o n' k' = o := by subst h; subst h2; exact am_ur_s
def rmP (i : Nat) (kd0 : am_kd) (rv0 : am_rv) (iv0 : am_iv) (kd : am_kd) (rv : am_rv) (iv : am_iv) : Prop :=
  (∀ q : am_N, ¬ (3 ≤ q.1 ∧ q.1 ≤ 15 ∧ q.2.1 = i) → kd q = kd0 q ∧ (q ≠ (2, i, 0) → ∀ k, rv q k = rv0 q k ∧ iv q k = iv0 q k)) ∧
  ((kd (3, i, 0) = some (.inr (1, 8)) ∧ kd (5, i, 0) = some (.inr (1, 8)) ∧ kd (7, i, 0) = some (.inr (2, 6)) ∧ kd (8, i, 0) = some (.inr (3, 2))) ∧ (∀ r, r < 8 → kd (4, i, r) = some (.inl 3) ∧ kd (6, i, r) = some (.inl 3)) ∧ (∀ u, u < 2 → kd (9, i, u) = some (.inl 7) ∧ kd (10, i, u) = some (.inr (0, 50)) ∧ kd (11, i, u) = some (.inr (0, 50))) ∧ (kd (12, i, 0) = some (.inl 5) ∧ kd (13, i, 0) = some (.inr (0, 50)) ∧ kd (14, i, 0) = some (.inl 5) ∧ kd (15, i, 0) = some (.inr (0, 20)))) ∧
  ((rv (2, i, 0) 0 = some (3, i, 0) ∧ rv (2, i, 0) 2 = some (5, i, 0) ∧ rv (2, i, 0) 3 = some (7, i, 0) ∧ rv (2, i, 0) 10 = some (8, i, 0) ∧ rv (2, i, 0) 11 = some (12, i, 0) ∧ rv (2, i, 0) 12 = some (14, i, 0)) ∧ (∀ r, r < 8 → rv (3, i, 0) r = some (4, i, r) ∧ rv (5, i, 0) r = some (6, i, r)) ∧ (∀ u, u < 2 → rv (8, i, 0) u = some (9, i, u) ∧ rv (9, i, u) 0 = some (10, i, u) ∧ rv (9, i, u) 2 = some (11, i, u)) ∧ (rv (12, i, 0) 0 = some (13, i, 0) ∧ rv (14, i, 0) 0 = some (15, i, 0)) ∧ ∀ j, rv (7, i, 0) j = none) ∧
  ((∀ k, iv (2, i, 0) k = if k = 9 then 1 else if k = 7 then 10 else if k = 6 then 99999 else 0) ∧ (∀ r, r < 8 → iv (4, i, r) 0 = nI r ∧ iv (6, i, r) 0 = nI r) ∧ ∀ q k, 7 ≤ q.1 → q.1 ≤ 15 → q.2.1 = i → iv q k = 0)
set_option maxRecDepth 20000 in
theorem s_roomInit (l : Launch) {kd : am_kd} {rv : am_rv} {iv : am_iv} (i : Nat) (hk2 : kd (2, i, 0) = some (.inl 4)) (h20 : ∀ k, rv (2, i, 0) k = none ∧ iv (2, i, 0) k = 0) (hF : rmF i kd rv iv) : am_Met l mX4_init (am_rm 4 30 442) [am_P (2, i, 0)] kd rv iv (fun v kd' rv' iv' => v = none ∧ rmP i kd rv iv kd' rv' iv') := by
  refine am_Met.of (by decide) (Nat.le_of_ble_eq_true rfl) rfl ?_
  have fr : ∀ q : am_N, 3 ≤ q.1 → q.1 ≤ 15 → q.2.1 = i → kd q = none ∧ ∀ k, rv q k = none ∧ iv q k = 0 := hF
  refine A_aload_n (pc := 0) (i := 0) dX4_init_0 rfl rfl ?_
  refine A_objInit (pc := 1) co_X4_3 co_inst co_code (Nat.le_of_ble_eq_true rfl) (Nat.le_of_ble_eq_true rfl) dX4_init_1 ?_
  refine A_aload_n (pc := 4) (i := 0) dX4_init_4 rfl rfl ?_
  refine A_bipush (pc := 5) (8) dX4_init_5 (by decide) ?_
  refine A_anew (pc := 7) (3, i, 0) (t := 1) (z := 8) (C0 := RX3) (by decide) rfl (by simp) cl_X4_9 (by (repeat rw [am_uk_o (by simp)]); exact (fr _ (by simp) (by simp) rfl).1) (by simp) (fun k => by (repeat rw [am_ur_o (by simp)]); exact ((fr _ (by simp) (by simp) rfl).2 k).1) (by decide) (by decide) (by decide) (by decide) (by decide) dX4_init_7 ?_
  refine A_putr (pc := 10) 0 fl_X4_11_4 (by (repeat rw [am_uk_o (by simp)]); exact hk2) rfl (by decide +kernel) dX4_init_10 ?_
  refine A_aload_n (pc := 13) (i := 0) dX4_init_13 rfl rfl ?_
  refine A_bipush (pc := 14) (8) dX4_init_14 (by decide) ?_
  refine A_anew (pc := 16) (5, i, 0) (t := 1) (z := 8) (C0 := RX3) (by decide) rfl (by simp) cl_X4_9 (by (repeat rw [am_uk_o (by simp)]); exact (fr _ (by simp) (by simp) rfl).1) (by simp) (fun k => by (repeat rw [am_ur_o (by simp)]); exact ((fr _ (by simp) (by simp) rfl).2 k).1) (by decide) (by decide) (by decide) (by decide) (by decide) dX4_init_16 ?_
  refine A_putr (pc := 19) 2 fl_X4_17_4 (by (repeat rw [am_uk_o (by simp)]); exact hk2) rfl (by decide +kernel) dX4_init_19 ?_
  refine A_iconst (pc := 22) (0) dX4_init_22 (by decide) ?_
  refine A_ist1 (pc := 23) dX4_init_23 (Nat.le_of_ble_eq_true rfl) rfl ?_
  refine A_cu (cu' := 2 + 2 * 0) (su' := 16 + 16 * 0) rfl rfl ?_
  refine ri_loop l i (by (repeat rw [am_uk_o (by simp)]); exact hk2) (by (repeat (first | exact am_ur_t rfl rfl | rw [am_ur_n (by simp)]))) (by (repeat (first | exact am_ur_t rfl rfl | rw [am_ur_n (by simp)]))) (by (repeat (first | exact am_uk_t rfl | rw [am_uk_o (by simp)]))) (by (repeat (first | exact am_uk_t rfl | rw [am_uk_o (by simp)]))) (fun r => ⟨⟨by (repeat rw [am_uk_o (by simp)]); exact (fr _ (by simp) (by simp) rfl).1, by (repeat rw [am_uk_o (by simp)]); exact (fr _ (by simp) (by simp) rfl).1⟩, fun k => ⟨⟨by (repeat rw [am_ur_o (by simp)]); exact ((fr _ (by simp) (by simp) rfl).2 k).1, by (repeat rw [am_ur_o (by simp)]); exact ((fr _ (by simp) (by simp) rfl).2 k).1⟩, ((fr _ (by simp) (by simp) rfl).2 k).2, ((fr _ (by simp) (by simp) rfl).2 k).2⟩⟩) 8 0 _ _ _ ⟨fun q _ => ⟨rfl, fun _ => rfl⟩, fun q k _ => rfl, fun r hr => absurd hr (by omega)⟩ rfl (fun kd1 rv1 iv1 hI => ?_)
  have hk20 := hk2
  have fr0 := fr
  have hk2 : kd1 (2, i, 0) = some (.inl 4) := by
    rw [(hI.1 _ (Or.inl ⟨by simp, by simp⟩)).1]
    (repeat rw [am_uk_o (by simp)])
    exact hk20
  have fr : ∀ q : am_N, 7 ≤ q.1 → q.1 ≤ 15 → q.2.1 = i → kd1 q = none ∧ ∀ k, rv1 q k = none ∧ iv1 q k = 0 := fun q h7 h15 hi => by
    have n3 : ∀ a c, a < 7 → q ≠ (a, i, c) := fun a c ha e => by subst e; simp at h7; omega
    have g := hI.1 q (Or.inl ⟨by omega, by omega⟩)
    have g0 := fr0 q (by omega) h15 hi
    refine ⟨?_, fun k => ⟨?_, ?_⟩⟩
    · rw [g.1, am_uk_o (n3 _ _ (by decide)), am_uk_o (n3 _ _ (by decide))]; exact g0.1
    · rw [hI.2.1 q k (Or.inl ⟨n3 _ _ (by decide), n3 _ _ (by decide)⟩), am_ur_o (n3 _ _ (by decide)), am_ur_o (n3 _ _ (by decide))]; exact (g0.2 k).1
    · rw [g.2]; exact (g0.2 k).2
  refine A_aload_n (pc := 64) (i := 0) dX4_init_64 rfl rfl ?_
  refine A_bipush (pc := 65) (6) dX4_init_65 (by decide) ?_
  refine A_anew (pc := 67) (7, i, 0) (t := 2) (z := 6) (C0 := RX2) (by decide) rfl (by simp) cl_X4_23 (by (repeat rw [am_uk_o (by simp)]); exact (fr _ (by simp) (by simp) rfl).1) (by simp) (fun k => by (repeat rw [am_ur_o (by simp)]); exact ((fr _ (by simp) (by simp) rfl).2 k).1) (by decide) (by decide) (by decide) (by decide) (by decide) dX4_init_67 ?_
  refine A_putr (pc := 70) 3 fl_X4_25_4 (by (repeat rw [am_uk_o (by simp)]); exact hk2) rfl (by decide +kernel) dX4_init_70 ?_
  refine A_aload_n (pc := 73) (i := 0) dX4_init_73 rfl rfl ?_
  refine A_ldc (pc := 74) (List.mem_cons_of_mem _ kc_X4_29) dX4_init_74 ?_
  refine A_puti (pc := 76) 6 fl_X4_30_4 (by (repeat rw [am_uk_o (by simp)]); exact hk2) rfl (by decide +kernel) rfl rfl dX4_init_76 ?_
  refine A_aload_n (pc := 79) (i := 0) dX4_init_79 rfl rfl ?_
  refine A_bipush (pc := 80) (10) dX4_init_80 (by decide) ?_
  refine A_puti (pc := 82) 7 fl_X4_34_4 (by (repeat rw [am_uk_o (by simp)]); exact hk2) rfl (by decide +kernel) rfl rfl dX4_init_82 ?_
  refine A_aload_n (pc := 85) (i := 0) dX4_init_85 rfl rfl ?_
  refine A_iconst (pc := 86) (1) dX4_init_86 (by decide) ?_
  refine A_puti (pc := 87) 9 fl_X4_37_4 (by (repeat rw [am_uk_o (by simp)]); exact hk2) rfl (by decide +kernel) rfl rfl dX4_init_87 ?_
  refine A_aload_n (pc := 90) (i := 0) dX4_init_90 rfl rfl ?_
  refine A_iconst (pc := 91) (2) dX4_init_91 (by decide) ?_
  refine A_anew (pc := 92) (8, i, 0) (t := 3) (z := 2) (C0 := RX7) (by decide) rfl (by simp) cl_X4_40 (by (repeat rw [am_uk_o (by simp)]); exact (fr _ (by simp) (by simp) rfl).1) (by simp) (fun k => by (repeat rw [am_ur_o (by simp)]); exact ((fr _ (by simp) (by simp) rfl).2 k).1) (by decide) (by decide) (by decide) (by decide) (by decide) dX4_init_92 ?_
  refine A_putr (pc := 95) 10 fl_X4_42_4 (by (repeat rw [am_uk_o (by simp)]); exact hk2) rfl (by decide +kernel) dX4_init_95 ?_
  refine A_aload_n (pc := 98) (i := 0) dX4_init_98 rfl rfl ?_
  refine A_getr (pc := 99) 10 fl_X4_42_4 (by (repeat rw [am_uk_o (by simp)]); exact hk2) rfl (by (repeat (first | exact am_ur_t rfl rfl | rw [am_ur_n (by simp)]))) dX4_init_99 ?_
  refine A_iconst (pc := 102) (0) dX4_init_102 (by decide) ?_
  refine A_newW (pc := 103) (9, i, 0) (ci := 7) (r := (RX7, TX7, 7)) (w := 7) rfl rfl cl_X4_40 cz_7 cy_7 (by (repeat rw [am_uk_o (by simp)]); exact (fr _ (by simp) (by simp) rfl).1) (by simp) (fun k => by (repeat rw [am_ui_o (by simp)]); exact ((fr _ (by simp) (by simp) rfl).2 k).2) (fun k => by (repeat rw [am_ur_o (by simp)]); exact ((fr _ (by simp) (by simp) rfl).2 k).1) (by decide) (by decide) dX4_init_103 ?_
  refine A_dup (pc := 106) dX4_init_106 rfl ?_
  refine A_callIc (pc := 107) ci_X4_46 (s_textInit l i 0 am_uk_s (by (repeat rw [am_uk_o (by simp)]); exact (fr _ (by simp) (by simp) rfl).1) (fun k => by (repeat rw [am_ui_o (by simp)]); exact ((fr _ (by simp) (by simp) rfl).2 k).2) (fun k => by (repeat rw [am_ur_o (by simp)]); exact ((fr _ (by simp) (by simp) rfl).2 k).1) (by (repeat rw [am_uk_o (by simp)]); exact (fr _ (by simp) (by simp) rfl).1) (fun k => by (repeat rw [am_ui_o (by simp)]); exact ((fr _ (by simp) (by simp) rfl).2 k).2) (fun k => by (repeat rw [am_ur_o (by simp)]); exact ((fr _ (by simp) (by simp) rfl).2 k).1)) rfl rfl (Nat.le_of_ble_eq_true rfl) ⟨(Nat.le_of_ble_eq_true rfl), (Nat.le_of_ble_eq_true rfl)⟩ ⟨by decide, by decide⟩ dX4_init_107 ?_
  refine A_aast (pc := 110) (n := (8, i, 0)) (t := 3) (z := 2) (ci := 7) (r := (RX7, TX7, 7)) (C0 := RX7) (by (repeat (first | exact am_uk_t rfl | rw [am_uk_o (by simp)]))) (by decide) rfl (by (repeat (first | exact am_uk_t rfl | rw [am_uk_o (by simp)]))) rfl (Or.inl rfl) (vp_in_nI (n := 0) (by decide) (by decide)) dX4_init_110 ?_
  rw [show Int32.toNatClampNeg 0 = 0 by decide]
  refine A_aload_n (pc := 111) (i := 0) dX4_init_111 rfl rfl ?_
  refine A_getr (pc := 112) 10 fl_X4_42_4 (by (repeat rw [am_uk_o (by simp)]); exact hk2) rfl (by (repeat (first | exact am_ur_t rfl rfl | rw [am_ur_n (by simp)]))) dX4_init_112 ?_
  refine A_iconst (pc := 115) (1) dX4_init_115 (by decide) ?_
  refine A_newW (pc := 116) (9, i, 1) (ci := 7) (r := (RX7, TX7, 7)) (w := 7) rfl rfl cl_X4_40 cz_7 cy_7 (by (repeat rw [am_uk_o (by simp)]); exact (fr _ (by simp) (by simp) rfl).1) (by simp) (fun k => by (repeat rw [am_ui_o (by simp)]); exact ((fr _ (by simp) (by simp) rfl).2 k).2) (fun k => by (repeat rw [am_ur_o (by simp)]); exact ((fr _ (by simp) (by simp) rfl).2 k).1) (by decide) (by decide) dX4_init_116 ?_
  refine A_dup (pc := 119) dX4_init_119 rfl ?_
  refine A_callIc (pc := 120) ci_X4_46 (s_textInit l i 1 am_uk_s (by (repeat rw [am_uk_o (by simp)]); exact (fr _ (by simp) (by simp) rfl).1) (fun k => by (repeat rw [am_ui_o (by simp)]); exact ((fr _ (by simp) (by simp) rfl).2 k).2) (fun k => by (repeat rw [am_ur_o (by simp)]); exact ((fr _ (by simp) (by simp) rfl).2 k).1) (by (repeat rw [am_uk_o (by simp)]); exact (fr _ (by simp) (by simp) rfl).1) (fun k => by (repeat rw [am_ui_o (by simp)]); exact ((fr _ (by simp) (by simp) rfl).2 k).2) (fun k => by (repeat rw [am_ur_o (by simp)]); exact ((fr _ (by simp) (by simp) rfl).2 k).1)) rfl rfl (Nat.le_of_ble_eq_true rfl) ⟨(Nat.le_of_ble_eq_true rfl), (Nat.le_of_ble_eq_true rfl)⟩ ⟨by decide, by decide⟩ dX4_init_120 ?_
  refine A_aast (pc := 123) (n := (8, i, 0)) (t := 3) (z := 2) (ci := 7) (r := (RX7, TX7, 7)) (C0 := RX7) (by (repeat (first | exact am_uk_t rfl | rw [am_uk_o (by simp)]))) (by decide) rfl (by (repeat (first | exact am_uk_t rfl | rw [am_uk_o (by simp)]))) rfl (Or.inl rfl) (vp_in_nI (n := 1) (by decide) (by decide)) dX4_init_123 ?_
  rw [show Int32.toNatClampNeg 1 = 1 by decide]
  refine A_aload_n (pc := 124) (i := 0) dX4_init_124 rfl rfl ?_
  refine A_newW (pc := 125) (12, i, 0) (ci := 5) (r := (RX5, TX5, 3)) (w := 3) rfl rfl cl_X4_47 cz_5 cy_5 (by (repeat rw [am_uk_o (by simp)]); exact (fr _ (by simp) (by simp) rfl).1) (by simp) (fun k => by (repeat rw [am_ui_o (by simp)]); exact ((fr _ (by simp) (by simp) rfl).2 k).2) (fun k => by (repeat rw [am_ur_o (by simp)]); exact ((fr _ (by simp) (by simp) rfl).2 k).1) (by decide) (by decide) dX4_init_125 ?_
  refine A_dup (pc := 128) dX4_init_128 rfl ?_
  refine A_bipush (pc := 129) (50) dX4_init_129 (by decide) ?_
  refine A_callIc (pc := 131) ci_X4_49 (s_rowInit l (12, i, 0) (13, i, 0) am_uk_s (by simp) (by (repeat rw [am_uk_o (by simp)]); exact (fr _ (by simp) (by simp) rfl).1) (by simp) (fun k => by (repeat rw [am_ui_o (by simp)]); exact ((fr _ (by simp) (by simp) rfl).2 k).2) (fun k => by (repeat rw [am_ur_o (by simp)]); exact ((fr _ (by simp) (by simp) rfl).2 k).1) 50 (by decide)) rfl rfl (Nat.le_of_ble_eq_true rfl) ⟨(Nat.le_of_ble_eq_true rfl), (Nat.le_of_ble_eq_true rfl)⟩ ⟨by decide, by decide⟩ dX4_init_131 ?_
  refine A_putr (pc := 134) 11 fl_X4_50_4 (by (repeat rw [am_uk_o (by simp)]); exact hk2) rfl (by decide +kernel) dX4_init_134 ?_
  refine A_aload_n (pc := 137) (i := 0) dX4_init_137 rfl rfl ?_
  refine A_newW (pc := 138) (14, i, 0) (ci := 5) (r := (RX5, TX5, 3)) (w := 3) rfl rfl cl_X4_47 cz_5 cy_5 (by (repeat rw [am_uk_o (by simp)]); exact (fr _ (by simp) (by simp) rfl).1) (by simp) (fun k => by (repeat rw [am_ui_o (by simp)]); exact ((fr _ (by simp) (by simp) rfl).2 k).2) (fun k => by (repeat rw [am_ur_o (by simp)]); exact ((fr _ (by simp) (by simp) rfl).2 k).1) (by decide) (by decide) dX4_init_138 ?_
  refine A_dup (pc := 141) dX4_init_141 rfl ?_
  refine A_bipush (pc := 142) (20) dX4_init_142 (by decide) ?_
  refine A_callIc (pc := 144) ci_X4_49 (s_rowInit l (14, i, 0) (15, i, 0) am_uk_s (by simp) (by (repeat rw [am_uk_o (by simp)]); exact (fr _ (by simp) (by simp) rfl).1) (by simp) (fun k => by (repeat rw [am_ui_o (by simp)]); exact ((fr _ (by simp) (by simp) rfl).2 k).2) (fun k => by (repeat rw [am_ur_o (by simp)]); exact ((fr _ (by simp) (by simp) rfl).2 k).1) 20 (by decide)) rfl rfl (Nat.le_of_ble_eq_true rfl) ⟨(Nat.le_of_ble_eq_true rfl), (Nat.le_of_ble_eq_true rfl)⟩ ⟨by decide, by decide⟩ dX4_init_144 ?_
  refine A_putr (pc := 147) 12 fl_X4_54_4 (by (repeat rw [am_uk_o (by simp)]); exact hk2) rfl (by decide +kernel) dX4_init_147 ?_
  refine A_vret (pc := 150) dX4_init_150 rfl (by decide) (by decide) ⟨rfl, ?_⟩
  refine ⟨fun q hq => ?_, ⟨⟨(by (repeat (first | exact am_uk_t rfl | rw [am_uk_o (by simp)])) <;> (rw [(hI.1 _ (Or.inl ⟨by simp, by simp⟩)).1]; (repeat (first | exact am_uk_t rfl | rw [am_uk_o (by simp)])))), (by (repeat (first | exact am_uk_t rfl | rw [am_uk_o (by simp)])) <;> (rw [(hI.1 _ (Or.inl ⟨by simp, by simp⟩)).1]; (repeat (first | exact am_uk_t rfl | rw [am_uk_o (by simp)])))), (by (repeat (first | exact am_uk_t rfl | rw [am_uk_o (by simp)])) <;> (rw [(hI.1 _ (Or.inl ⟨by simp, by simp⟩)).1]; (repeat (first | exact am_uk_t rfl | rw [am_uk_o (by simp)])))), (by (repeat (first | exact am_uk_t rfl | rw [am_uk_o (by simp)])) <;> (rw [(hI.1 _ (Or.inl ⟨by simp, by simp⟩)).1]; (repeat (first | exact am_uk_t rfl | rw [am_uk_o (by simp)]))))⟩, fun r hr => ⟨?_, ?_⟩, fun u hu => ?_, ⟨(by (repeat (first | exact am_uk_t rfl | rw [am_uk_o (by simp)])) <;> (rw [(hI.1 _ (Or.inl ⟨by simp, by simp⟩)).1]; (repeat (first | exact am_uk_t rfl | rw [am_uk_o (by simp)])))), (by (repeat (first | exact am_uk_t rfl | rw [am_uk_o (by simp)])) <;> (rw [(hI.1 _ (Or.inl ⟨by simp, by simp⟩)).1]; (repeat (first | exact am_uk_t rfl | rw [am_uk_o (by simp)])))), (by (repeat (first | exact am_uk_t rfl | rw [am_uk_o (by simp)])) <;> (rw [(hI.1 _ (Or.inl ⟨by simp, by simp⟩)).1]; (repeat (first | exact am_uk_t rfl | rw [am_uk_o (by simp)])))), (by (repeat (first | exact am_uk_t rfl | rw [am_uk_o (by simp)])) <;> (rw [(hI.1 _ (Or.inl ⟨by simp, by simp⟩)).1]; (repeat (first | exact am_uk_t rfl | rw [am_uk_o (by simp)]))))⟩⟩, ⟨⟨(by (repeat (first | exact am_ur_t rfl rfl | rw [am_ur_n (by simp)])) <;> (rw [hI.2.1 _ _ (Or.inl ⟨by simp, by simp⟩)]; (repeat (first | exact am_ur_t rfl rfl | rw [am_ur_n (by simp)])))), (by (repeat (first | exact am_ur_t rfl rfl | rw [am_ur_n (by simp)])) <;> (rw [hI.2.1 _ _ (Or.inl ⟨by simp, by simp⟩)]; (repeat (first | exact am_ur_t rfl rfl | rw [am_ur_n (by simp)])))), (by (repeat (first | exact am_ur_t rfl rfl | rw [am_ur_n (by simp)])) <;> (rw [hI.2.1 _ _ (Or.inl ⟨by simp, by simp⟩)]; (repeat (first | exact am_ur_t rfl rfl | rw [am_ur_n (by simp)])))), (by (repeat (first | exact am_ur_t rfl rfl | rw [am_ur_n (by simp)])) <;> (rw [hI.2.1 _ _ (Or.inl ⟨by simp, by simp⟩)]; (repeat (first | exact am_ur_t rfl rfl | rw [am_ur_n (by simp)])))), (by (repeat (first | exact am_ur_t rfl rfl | rw [am_ur_n (by simp)])) <;> (rw [hI.2.1 _ _ (Or.inl ⟨by simp, by simp⟩)]; (repeat (first | exact am_ur_t rfl rfl | rw [am_ur_n (by simp)])))), (by (repeat (first | exact am_ur_t rfl rfl | rw [am_ur_n (by simp)])) <;> (rw [hI.2.1 _ _ (Or.inl ⟨by simp, by simp⟩)]; (repeat (first | exact am_ur_t rfl rfl | rw [am_ur_n (by simp)]))))⟩, fun r hr => ⟨?_, ?_⟩, fun u hu => ?_, ⟨(by (repeat (first | exact am_ur_t rfl rfl | rw [am_ur_n (by simp)])) <;> (rw [hI.2.1 _ _ (Or.inl ⟨by simp, by simp⟩)]; (repeat (first | exact am_ur_t rfl rfl | rw [am_ur_n (by simp)])))), (by (repeat (first | exact am_ur_t rfl rfl | rw [am_ur_n (by simp)])) <;> (rw [hI.2.1 _ _ (Or.inl ⟨by simp, by simp⟩)]; (repeat (first | exact am_ur_t rfl rfl | rw [am_ur_n (by simp)]))))⟩, fun j => ?_⟩, fun k => ?_, fun r hr => ⟨?_, ?_⟩, fun q k h7 h15 hi => ?_⟩
  · have hne : ∀ a c, 3 ≤ a → a ≤ 15 → q ≠ (a, i, c) := fun a c h1 h2 e => hq (by subst e; exact ⟨h1, h2, rfl⟩)
    have hc : (q.1 ≠ 4 ∧ q.1 ≠ 6) ∨ q.2.1 ≠ i ∨ 8 ≤ q.2.2 := by
      by_cases e : q.2.1 = i
      · left; omega
      · exact Or.inr (Or.inl e)
    refine ⟨?_, fun hq2 k => ⟨?_, ?_⟩⟩
    · (repeat rw [am_uk_o (hne _ _ (by decide) (by decide))])
      rw [(hI.1 q hc).1]
      (repeat rw [am_uk_o (hne _ _ (by decide) (by decide))])
    · (repeat (first | rw [am_ur_o hq2] | rw [am_ur_o (hne _ _ (by decide) (by decide))]))
      rw [hI.2.1 q k (Or.inl ⟨hne _ _ (by decide) (by decide), hne _ _ (by decide) (by decide)⟩)]
      (repeat (first | rw [am_ur_o hq2] | rw [am_ur_o (hne _ _ (by decide) (by decide))]))
    · (repeat rw [am_ui_o hq2])
      exact (hI.1 q hc).2 k
  · (repeat rw [am_uk_o (by simp)]); exact (hI.2.2 r hr).1.1
  · (repeat rw [am_uk_o (by simp)]); exact (hI.2.2 r hr).1.2
  · rcases (show u = 0 ∨ u = 1 by omega) with rfl | rfl
    · exact ⟨(by (repeat (first | exact am_uk_t rfl | rw [am_uk_o (by simp)])) <;> (rw [(hI.1 _ (Or.inl ⟨by simp, by simp⟩)).1]; (repeat (first | exact am_uk_t rfl | rw [am_uk_o (by simp)])))), (by (repeat (first | exact am_uk_t rfl | rw [am_uk_o (by simp)])) <;> (rw [(hI.1 _ (Or.inl ⟨by simp, by simp⟩)).1]; (repeat (first | exact am_uk_t rfl | rw [am_uk_o (by simp)])))), (by (repeat (first | exact am_uk_t rfl | rw [am_uk_o (by simp)])) <;> (rw [(hI.1 _ (Or.inl ⟨by simp, by simp⟩)).1]; (repeat (first | exact am_uk_t rfl | rw [am_uk_o (by simp)]))))⟩
    · exact ⟨(by (repeat (first | exact am_uk_t rfl | rw [am_uk_o (by simp)])) <;> (rw [(hI.1 _ (Or.inl ⟨by simp, by simp⟩)).1]; (repeat (first | exact am_uk_t rfl | rw [am_uk_o (by simp)])))), (by (repeat (first | exact am_uk_t rfl | rw [am_uk_o (by simp)])) <;> (rw [(hI.1 _ (Or.inl ⟨by simp, by simp⟩)).1]; (repeat (first | exact am_uk_t rfl | rw [am_uk_o (by simp)])))), (by (repeat (first | exact am_uk_t rfl | rw [am_uk_o (by simp)])) <;> (rw [(hI.1 _ (Or.inl ⟨by simp, by simp⟩)).1]; (repeat (first | exact am_uk_t rfl | rw [am_uk_o (by simp)]))))⟩
  · (repeat rw [am_ur_o (by simp)]); exact (hI.2.2 r hr).2.2.1
  · (repeat rw [am_ur_o (by simp)]); exact (hI.2.2 r hr).2.2.2
  · rcases (show u = 0 ∨ u = 1 by omega) with rfl | rfl
    · exact ⟨(by (repeat (first | exact am_ur_t rfl rfl | rw [am_ur_n (by simp)])) <;> (rw [hI.2.1 _ _ (Or.inl ⟨by simp, by simp⟩)]; (repeat (first | exact am_ur_t rfl rfl | rw [am_ur_n (by simp)])))), (by (repeat (first | exact am_ur_t rfl rfl | rw [am_ur_n (by simp)])) <;> (rw [hI.2.1 _ _ (Or.inl ⟨by simp, by simp⟩)]; (repeat (first | exact am_ur_t rfl rfl | rw [am_ur_n (by simp)])))), (by (repeat (first | exact am_ur_t rfl rfl | rw [am_ur_n (by simp)])) <;> (rw [hI.2.1 _ _ (Or.inl ⟨by simp, by simp⟩)]; (repeat (first | exact am_ur_t rfl rfl | rw [am_ur_n (by simp)]))))⟩
    · exact ⟨(by (repeat (first | exact am_ur_t rfl rfl | rw [am_ur_n (by simp)])) <;> (rw [hI.2.1 _ _ (Or.inl ⟨by simp, by simp⟩)]; (repeat (first | exact am_ur_t rfl rfl | rw [am_ur_n (by simp)])))), (by (repeat (first | exact am_ur_t rfl rfl | rw [am_ur_n (by simp)])) <;> (rw [hI.2.1 _ _ (Or.inl ⟨by simp, by simp⟩)]; (repeat (first | exact am_ur_t rfl rfl | rw [am_ur_n (by simp)])))), (by (repeat (first | exact am_ur_t rfl rfl | rw [am_ur_n (by simp)])) <;> (rw [hI.2.1 _ _ (Or.inl ⟨by simp, by simp⟩)]; (repeat (first | exact am_ur_t rfl rfl | rw [am_ur_n (by simp)]))))⟩
  · (repeat rw [am_ur_o (by simp)]); exact ((fr _ (by simp) (by simp) rfl).2 j).1
  · simp only [am_ui, true_and]
    have g := ((hI.1 (2, i, 0) (Or.inl ⟨by simp, by simp⟩)).2 k).trans (h20 k).2
    rw [g]
  · (repeat rw [am_ui_o (by simp)]); exact (hI.2.2 r hr).2.1.1
  · (repeat rw [am_ui_o (by simp)]); exact (hI.2.2 r hr).2.1.2
  · have n2 : q ≠ (2, i, 0) := fun e => by subst e; simp at h7
    (repeat rw [am_ui_o n2])
    exact ((fr q h7 h15 hi).2 k).2
