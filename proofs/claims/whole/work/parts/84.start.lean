def moP (kd0 : am_kd) (rv0 : am_rv) (iv0 : am_iv) (kd : am_kd) (rv : am_rv) (iv : am_iv) : Prop := (∀ q : am_N, (q.1 < 30 ∨ 31 < q.1) → kd q = kd0 q ∧ ∀ k, rv q k = rv0 q k ∧ iv q k = iv0 q k) ∧ shr kd rv ∧ (∀ q k, q.1 = 30 ∨ (q.1 = 31 ∧ q.2.1 ≠ 0) → iv q k = 0) ∧ ∀ k, iv (31, 0, 0) k = if k = 6 then 1 else if k = 5 then 10 else if k = 4 then 99999 else 0
set_option maxRecDepth 20000 in
theorem r_init (l : Launch) {kd : am_kd} {rv : am_rv} {iv : am_iv} (hk0 : kd (30, 0, 0) = some (.inl 12)) (h30 : ∀ q k, (q.1 = 30 ∨ q.1 = 31) → rv q k = none ∧ iv q k = 0) (hF : ∀ s, kd (31, s, 0) = none) : am_Met l mX12_init (am_rm 2 12 1757) [am_P (30, 0, 0)] kd rv iv (fun v kd' rv' iv' => v = none ∧ moP kd rv iv kd' rv' iv') := by
  refine am_Met.of (by decide) (Nat.le_of_ble_eq_true rfl) rfl ?_
  refine A_aload_n (pc := 0) (i := 0) dX12_init_0 rfl rfl ?_
  refine A_objInit (pc := 1) co_X12_1 co_inst co_code (Nat.le_of_ble_eq_true rfl) (Nat.le_of_ble_eq_true rfl) dX12_init_1 ?_
  refine A_aload_n (pc := 4) (i := 0) dX12_init_4 rfl rfl ?_
  refine A_sipush (pc := 5) (300) dX12_init_5 (by decide) ?_
  refine A_newa (pc := 8) (31, 0, 0) (z := 300) co_arri (by (repeat rw [am_uk_o (by simp)]); exact hF 0) (by show 31 < 40; decide) (fun k => (h30 (31, 0, 0) k (Or.inr rfl)).2) (fun k => by (repeat rw [am_ur_o (by simp)]); exact (h30 (31, 0, 0) k (Or.inr rfl)).1) (by decide) (by decide) (by decide) (by decide) (by decide) dX12_init_8 ?_
  refine A_putr (pc := 10) 0 fl_X12_7_12 (by (repeat rw [am_uk_o (by simp)]); exact hk0) rfl (by decide +kernel) dX12_init_10 ?_
  refine A_aload_n (pc := 13) (i := 0) dX12_init_13 rfl rfl ?_
  refine A_sipush (pc := 14) (300) dX12_init_14 (by decide) ?_
  refine A_newa (pc := 17) (31, 1, 0) (z := 300) co_arri (by (repeat rw [am_uk_o (by simp)]); exact hF 1) (by show 31 < 40; decide) (fun k => (h30 (31, 1, 0) k (Or.inr rfl)).2) (fun k => by (repeat rw [am_ur_o (by simp)]); exact (h30 (31, 1, 0) k (Or.inr rfl)).1) (by decide) (by decide) (by decide) (by decide) (by decide) dX12_init_17 ?_
  refine A_putr (pc := 19) 1 fl_X12_13_12 (by (repeat rw [am_uk_o (by simp)]); exact hk0) rfl (by decide +kernel) dX12_init_19 ?_
  refine A_aload_n (pc := 22) (i := 0) dX12_init_22 rfl rfl ?_
  refine A_sipush (pc := 23) (300) dX12_init_23 (by decide) ?_
  refine A_newa (pc := 26) (31, 2, 0) (z := 300) co_arri (by (repeat rw [am_uk_o (by simp)]); exact hF 2) (by show 31 < 40; decide) (fun k => (h30 (31, 2, 0) k (Or.inr rfl)).2) (fun k => by (repeat rw [am_ur_o (by simp)]); exact (h30 (31, 2, 0) k (Or.inr rfl)).1) (by decide) (by decide) (by decide) (by decide) (by decide) dX12_init_26 ?_
  refine A_putr (pc := 28) 2 fl_X12_16_12 (by (repeat rw [am_uk_o (by simp)]); exact hk0) rfl (by decide +kernel) dX12_init_28 ?_
  refine A_aload_n (pc := 31) (i := 0) dX12_init_31 rfl rfl ?_
  refine A_sipush (pc := 32) (300) dX12_init_32 (by decide) ?_
  refine A_newa (pc := 35) (31, 3, 0) (z := 300) co_arri (by (repeat rw [am_uk_o (by simp)]); exact hF 3) (by show 31 < 40; decide) (fun k => (h30 (31, 3, 0) k (Or.inr rfl)).2) (fun k => by (repeat rw [am_ur_o (by simp)]); exact (h30 (31, 3, 0) k (Or.inr rfl)).1) (by decide) (by decide) (by decide) (by decide) (by decide) dX12_init_35 ?_
  refine A_putr (pc := 37) 3 fl_X12_19_12 (by (repeat rw [am_uk_o (by simp)]); exact hk0) rfl (by decide +kernel) dX12_init_37 ?_
  refine A_aload_n (pc := 40) (i := 0) dX12_init_40 rfl rfl ?_
  refine A_sipush (pc := 41) (300) dX12_init_41 (by decide) ?_
  refine A_newa (pc := 44) (31, 4, 0) (z := 300) co_arri (by (repeat rw [am_uk_o (by simp)]); exact hF 4) (by show 31 < 40; decide) (fun k => (h30 (31, 4, 0) k (Or.inr rfl)).2) (fun k => by (repeat rw [am_ur_o (by simp)]); exact (h30 (31, 4, 0) k (Or.inr rfl)).1) (by decide) (by decide) (by decide) (by decide) (by decide) dX12_init_44 ?_
  refine A_putr (pc := 46) 4 fl_X12_22_12 (by (repeat rw [am_uk_o (by simp)]); exact hk0) rfl (by decide +kernel) dX12_init_46 ?_
  refine A_aload_n (pc := 49) (i := 0) dX12_init_49 rfl rfl ?_
  refine A_bipush (pc := 50) (6) dX12_init_50 (by decide) ?_
  refine A_newa (pc := 52) (31, 6, 0) (z := 6) co_arri (by (repeat rw [am_uk_o (by simp)]); exact hF 6) (by show 31 < 40; decide) (fun k => (h30 (31, 6, 0) k (Or.inr rfl)).2) (fun k => by (repeat rw [am_ur_o (by simp)]); exact (h30 (31, 6, 0) k (Or.inr rfl)).1) (by decide) (by decide) (by decide) (by decide) (by decide) dX12_init_52 ?_
  refine A_putr (pc := 54) 6 fl_X12_25_12 (by (repeat rw [am_uk_o (by simp)]); exact hk0) rfl (by decide +kernel) dX12_init_54 ?_
  refine A_aload_n (pc := 57) (i := 0) dX12_init_57 rfl rfl ?_
  refine A_iconst (pc := 58) (3) dX12_init_58 (by decide) ?_
  refine A_newa (pc := 59) (31, 13, 0) (z := 3) co_arri (by (repeat rw [am_uk_o (by simp)]); exact hF 13) (by show 31 < 40; decide) (fun k => (h30 (31, 13, 0) k (Or.inr rfl)).2) (fun k => by (repeat rw [am_ur_o (by simp)]); exact (h30 (31, 13, 0) k (Or.inr rfl)).1) (by decide) (by decide) (by decide) (by decide) (by decide) dX12_init_59 ?_
  refine A_putr (pc := 61) 13 fl_X12_28_12 (by (repeat rw [am_uk_o (by simp)]); exact hk0) rfl (by decide +kernel) dX12_init_61 ?_
  refine A_aload_n (pc := 64) (i := 0) dX12_init_64 rfl rfl ?_
  refine A_bipush (pc := 65) (40) dX12_init_65 (by decide) ?_
  refine A_newa (pc := 67) (31, 14, 0) (z := 40) co_arri (by (repeat rw [am_uk_o (by simp)]); exact hF 14) (by show 31 < 40; decide) (fun k => (h30 (31, 14, 0) k (Or.inr rfl)).2) (fun k => by (repeat rw [am_ur_o (by simp)]); exact (h30 (31, 14, 0) k (Or.inr rfl)).1) (by decide) (by decide) (by decide) (by decide) (by decide) dX12_init_67 ?_
  refine A_putr (pc := 69) 14 fl_X12_31_12 (by (repeat rw [am_uk_o (by simp)]); exact hk0) rfl (by decide +kernel) dX12_init_69 ?_
  refine A_aload_n (pc := 72) (i := 0) dX12_init_72 rfl rfl ?_
  refine A_iconst (pc := 73) (4) dX12_init_73 (by decide) ?_
  refine A_newa (pc := 74) (31, 17, 0) (z := 4) co_arri (by (repeat rw [am_uk_o (by simp)]); exact hF 17) (by show 31 < 40; decide) (fun k => (h30 (31, 17, 0) k (Or.inr rfl)).2) (fun k => by (repeat rw [am_ur_o (by simp)]); exact (h30 (31, 17, 0) k (Or.inr rfl)).1) (by decide) (by decide) (by decide) (by decide) (by decide) dX12_init_74 ?_
  refine A_putr (pc := 76) 17 fl_X12_34_12 (by (repeat rw [am_uk_o (by simp)]); exact hk0) rfl (by decide +kernel) dX12_init_76 ?_
  refine A_aload_n (pc := 79) (i := 0) dX12_init_79 rfl rfl ?_
  refine A_iconst (pc := 80) (4) dX12_init_80 (by decide) ?_
  refine A_newa (pc := 81) (31, 18, 0) (z := 4) co_arri (by (repeat rw [am_uk_o (by simp)]); exact hF 18) (by show 31 < 40; decide) (fun k => (h30 (31, 18, 0) k (Or.inr rfl)).2) (fun k => by (repeat rw [am_ur_o (by simp)]); exact (h30 (31, 18, 0) k (Or.inr rfl)).1) (by decide) (by decide) (by decide) (by decide) (by decide) dX12_init_81 ?_
  refine A_putr (pc := 83) 18 fl_X12_37_12 (by (repeat rw [am_uk_o (by simp)]); exact hk0) rfl (by decide +kernel) dX12_init_83 ?_
  refine A_aload_n (pc := 86) (i := 0) dX12_init_86 rfl rfl ?_
  refine A_sipush (pc := 87) (160) dX12_init_87 (by decide) ?_
  refine A_newa (pc := 90) (31, 19, 0) (z := 160) co_arri (by (repeat rw [am_uk_o (by simp)]); exact hF 19) (by show 31 < 40; decide) (fun k => (h30 (31, 19, 0) k (Or.inr rfl)).2) (fun k => by (repeat rw [am_ur_o (by simp)]); exact (h30 (31, 19, 0) k (Or.inr rfl)).1) (by decide) (by decide) (by decide) (by decide) (by decide) dX12_init_90 ?_
  refine A_putr (pc := 92) 19 fl_X12_40_12 (by (repeat rw [am_uk_o (by simp)]); exact hk0) rfl (by decide +kernel) dX12_init_92 ?_
  refine A_aload_n (pc := 95) (i := 0) dX12_init_95 rfl rfl ?_
  refine A_bipush (pc := 96) (40) dX12_init_96 (by decide) ?_
  refine A_newa (pc := 98) (31, 20, 0) (z := 40) co_arri (by (repeat rw [am_uk_o (by simp)]); exact hF 20) (by show 31 < 40; decide) (fun k => (h30 (31, 20, 0) k (Or.inr rfl)).2) (fun k => by (repeat rw [am_ur_o (by simp)]); exact (h30 (31, 20, 0) k (Or.inr rfl)).1) (by decide) (by decide) (by decide) (by decide) (by decide) dX12_init_98 ?_
  refine A_putr (pc := 100) 20 fl_X12_43_12 (by (repeat rw [am_uk_o (by simp)]); exact hk0) rfl (by decide +kernel) dX12_init_100 ?_
  refine A_aload_n (pc := 103) (i := 0) dX12_init_103 rfl rfl ?_
  refine A_getr (pc := 104) 0 fl_X12_7_12 (by (repeat rw [am_uk_o (by simp)]); exact hk0) rfl (by (repeat (first | exact am_ur_t rfl rfl | rw [am_ur_n (by simp)]))) dX12_init_104 ?_
  refine A_iconst (pc := 107) (4) dX12_init_107 (by decide) ?_
  refine A_ldc (pc := 108) (List.mem_cons_of_mem _ kc_X12_46) dX12_init_108 ?_
  refine A_iastN (pc := 110) (j := 4) (z := 300) (by (repeat (first | exact am_uk_t rfl | rw [am_uk_o (by simp)]))) (by decide) (by decide) dX12_init_110 ?_
  refine A_aload_n (pc := 111) (i := 0) dX12_init_111 rfl rfl ?_
  refine A_getr (pc := 112) 0 fl_X12_7_12 (by (repeat rw [am_uk_o (by simp)]); exact hk0) rfl (by (repeat (first | exact am_ur_t rfl rfl | rw [am_ur_n (by simp)]))) dX12_init_112 ?_
  refine A_iconst (pc := 115) (5) dX12_init_115 (by decide) ?_
  refine A_bipush (pc := 116) (10) dX12_init_116 (by decide) ?_
  refine A_iastN (pc := 118) (j := 5) (z := 300) (by (repeat (first | exact am_uk_t rfl | rw [am_uk_o (by simp)]))) (by decide) (by decide) dX12_init_118 ?_
  refine A_aload_n (pc := 119) (i := 0) dX12_init_119 rfl rfl ?_
  refine A_getr (pc := 120) 0 fl_X12_7_12 (by (repeat rw [am_uk_o (by simp)]); exact hk0) rfl (by (repeat (first | exact am_ur_t rfl rfl | rw [am_ur_n (by simp)]))) dX12_init_120 ?_
  refine A_bipush (pc := 123) (6) dX12_init_123 (by decide) ?_
  refine A_iconst (pc := 125) (1) dX12_init_125 (by decide) ?_
  refine A_iastN (pc := 126) (j := 6) (z := 300) (by (repeat (first | exact am_uk_t rfl | rw [am_uk_o (by simp)]))) (by decide) (by decide) dX12_init_126 ?_
  refine A_vret (pc := 127) dX12_init_127 rfl (by decide) (by decide) ⟨rfl, ?_⟩
  refine ⟨fun q hq => ?_, ⟨(by (repeat rw [am_uk_o (by simp)]); exact hk0), ⟨(by (repeat (first | exact am_uk_t rfl | rw [am_uk_o (by simp)]))), (by (repeat (first | exact am_ur_t rfl rfl | rw [am_ur_n (by simp)])))⟩, ⟨(by (repeat (first | exact am_uk_t rfl | rw [am_uk_o (by simp)]))), (by (repeat (first | exact am_ur_t rfl rfl | rw [am_ur_n (by simp)])))⟩, ⟨(by (repeat (first | exact am_uk_t rfl | rw [am_uk_o (by simp)]))), (by (repeat (first | exact am_ur_t rfl rfl | rw [am_ur_n (by simp)])))⟩, ⟨(by (repeat (first | exact am_uk_t rfl | rw [am_uk_o (by simp)]))), (by (repeat (first | exact am_ur_t rfl rfl | rw [am_ur_n (by simp)])))⟩, ⟨(by (repeat (first | exact am_uk_t rfl | rw [am_uk_o (by simp)]))), (by (repeat (first | exact am_ur_t rfl rfl | rw [am_ur_n (by simp)])))⟩, ⟨(by (repeat (first | exact am_uk_t rfl | rw [am_uk_o (by simp)]))), (by (repeat (first | exact am_ur_t rfl rfl | rw [am_ur_n (by simp)])))⟩, ⟨(by (repeat (first | exact am_uk_t rfl | rw [am_uk_o (by simp)]))), (by (repeat (first | exact am_ur_t rfl rfl | rw [am_ur_n (by simp)])))⟩, ⟨(by (repeat (first | exact am_uk_t rfl | rw [am_uk_o (by simp)]))), (by (repeat (first | exact am_ur_t rfl rfl | rw [am_ur_n (by simp)])))⟩, ⟨(by (repeat (first | exact am_uk_t rfl | rw [am_uk_o (by simp)]))), (by (repeat (first | exact am_ur_t rfl rfl | rw [am_ur_n (by simp)])))⟩, ⟨(by (repeat (first | exact am_uk_t rfl | rw [am_uk_o (by simp)]))), (by (repeat (first | exact am_ur_t rfl rfl | rw [am_ur_n (by simp)])))⟩, ⟨(by (repeat (first | exact am_uk_t rfl | rw [am_uk_o (by simp)]))), (by (repeat (first | exact am_ur_t rfl rfl | rw [am_ur_n (by simp)])))⟩, ⟨(by (repeat (first | exact am_uk_t rfl | rw [am_uk_o (by simp)]))), (by (repeat (first | exact am_ur_t rfl rfl | rw [am_ur_n (by simp)])))⟩⟩, fun q k hq => ?_, fun k => ?_⟩
  · have n30 : q ≠ (30, 0, 0) := fun e => by subst e; simp at hq
    have n31 : ∀ s, q ≠ (31, s, 0) := fun s e => by subst e; simp at hq
    refine ⟨?_, fun k => ⟨?_, ?_⟩⟩
    · (repeat rw [am_uk_o (n31 _)])
    · (repeat rw [am_ur_o n30])
    · (repeat rw [am_ui_o (n31 _)])
  · have n31 : q ≠ (31, 0, 0) := fun e => by subst e; simp at hq
    (repeat rw [am_ui_o n31])
    exact (h30 q k (by rcases hq with e | e <;> simp [e])).2
  · simp only [am_ui, true_and]
    rw [(h30 (31, 0, 0) k (Or.inr rfl)).2]
theorem sh.c {kd : am_kd} {rv : am_rv} {kd' : am_kd} {rv' : am_rv} (h : sh kd rv) (e : ∀ q : am_N, q.1 < 30 → kd' q = kd q ∧ ∀ k, rv' q k = rv q k) : sh kd' rv' := by
  refine ⟨?_, ?_, ?_, ?_, ?_, ?_, ?_, ?_, ?_, ?_, ?_, ?_, ?_, ?_, ?_, ?_, ?_, ?_, ?_, ?_, ?_, ?_, ?_, ?_, ?_, ?_, ?_, ?_, ?_, ?_, ?_, ?_, ?_, ?_, ?_, ?_, ?_, ?_, ?_, ?_, ?_, ?_⟩
  · exact (e _ (by simp)).1.trans h.k1
  · intro i h0; exact (e _ (by simp)).1.trans (h.k2 h0)
  · intro i h0; exact (e _ (by simp)).1.trans (h.k3 h0)
  · intro i k h0 h1; exact (e _ (by simp)).1.trans (h.k4 h0 h1)
  · intro i h0; exact (e _ (by simp)).1.trans (h.k5 h0)
  · intro i k h0 h1; exact (e _ (by simp)).1.trans (h.k6 h0 h1)
  · intro i h0; exact (e _ (by simp)).1.trans (h.k7 h0)
  · intro i h0; exact (e _ (by simp)).1.trans (h.k8 h0)
  · intro i u h0; exact (e _ (by simp)).1.trans (h.k9 h0)
  · intro i u h0; exact (e _ (by simp)).1.trans (h.k10 h0)
  · intro i u h0; exact (e _ (by simp)).1.trans (h.k11 h0)
  · intro i h0; exact (e _ (by simp)).1.trans (h.k12 h0)
  · intro i h0; exact (e _ (by simp)).1.trans (h.k13 h0)
  · intro i h0; exact (e _ (by simp)).1.trans (h.k14 h0)
  · intro i h0; exact (e _ (by simp)).1.trans (h.k15 h0)
  · exact (e _ (by simp)).1.trans h.k16
  · intro i h0; exact (e _ (by simp)).1.trans (h.k17 h0)
  · intro i h0; exact (e _ (by simp)).1.trans (h.k18 h0)
  · exact (e _ (by simp)).1.trans h.k19
  · exact (e _ (by simp)).1.trans h.k20
  · exact (e _ (by simp)).1.trans h.k21
  · intro k h0; exact ((e _ (by simp)).2 _).trans (h.w1 h0)
  · exact ((e _ (by simp)).2 _).trans h.w1_5
  · exact ((e _ (by simp)).2 _).trans h.w1_6
  · exact ((e _ (by simp)).2 _).trans h.w1_7
  · exact ((e _ (by simp)).2 _).trans h.w1_8
  · intro i h0; exact ((e _ (by simp)).2 _).trans (h.w2_0 h0)
  · intro i h0; exact ((e _ (by simp)).2 _).trans (h.w2_2 h0)
  · intro i h0; exact ((e _ (by simp)).2 _).trans (h.w2_3 h0)
  · intro i h0; exact ((e _ (by simp)).2 _).trans (h.w2_10 h0)
  · intro i h0; exact ((e _ (by simp)).2 _).trans (h.w2_11 h0)
  · intro i h0; exact ((e _ (by simp)).2 _).trans (h.w2_12 h0)
  · intro i k h0 h1; exact ((e _ (by simp)).2 _).trans (h.w3 h0 h1)
  · intro i k h0 h1; exact ((e _ (by simp)).2 _).trans (h.w5 h0 h1)
  · intro i u h0 h1; exact ((e _ (by simp)).2 _).trans (h.w8 h0 h1)
  · intro i u h0; exact ((e _ (by simp)).2 _).trans (h.w9_0 h0)
  · intro i u h0; exact ((e _ (by simp)).2 _).trans (h.w9_2 h0)
  · intro i h0; exact ((e _ (by simp)).2 _).trans (h.w12 h0)
  · intro i h0; exact ((e _ (by simp)).2 _).trans (h.w14 h0)
  · intro k h0; exact ((e _ (by simp)).2 _).trans (h.w16 h0)
  · intro i h0; exact ((e _ (by simp)).2 _).trans (h.w17 h0)
  · exact ((e _ (by simp)).2 _).trans h.w19
theorem tRel_0 (use : Nat) (cd bt : Nat → Int32) : tRel use 0 0 cd bt := fun x y t nt => by
  unfold gv_pure gr_pure
  rw [if_neg (Nat.lt_irrefl 0), if_neg (Nat.lt_irrefl 0)]
theorem rel_start {kd0 : am_kd} {rv0 : am_rv} {iv0 : am_iv} {kd1 : am_kd} {rv1 : am_rv} {iv1 : am_iv} {kd : am_kd} {rv : am_rv} {iv : am_iv} (h40 : ∀ i, i < 2 → ∀ j, j < 2 → kd0 (40, i, j) = some (.inr (9, 0))) (h22 : ∀ q, kd0 (22, q, 0) = none ∧ ∀ k, rv0 (22, q, 0) k = none ∧ iv0 (22, q, 0) k = 0) (hS : siP kd0 rv0 iv0 kd1 rv1 iv1) {kdm : am_kd} (hm : ∀ q : am_N, q ≠ (30, 0, 0) → kdm q = kd1 q) (hM : moP kdm rv1 iv1 kd rv iv) : REL kd rv iv iv := by
  obtain ⟨s1, s2, s3, s4⟩ := hS
  obtain ⟨m1, m2, m3, m4⟩ := hM
  have e : ∀ q : am_N, q.1 < 30 → kd q = kd1 q ∧ ∀ k, rv q k = rv1 q k ∧ iv q k = iv1 q k := fun q hq => ⟨(m1 q (Or.inl hq)).1.trans (hm q (fun e => by subst e; simp at hq)), (m1 q (Or.inl hq)).2⟩
  have T : ∀ i, i < 4 → rmT i kd rv iv := fun i hi => (s3 i hi).c (fun q a b c => e q (by omega))
  have z : ∀ (q : am_N) k, (q.1 = 1 ∨ (16 ≤ q.1 ∧ q.1 ≤ 21)) → iv q k = 0 := fun q k hq => ((e q (by omega)).2 k).2.trans (s4 q k hq)
  have zu : ∀ i k, i ≠ 0 → iv (31, i, 0) k = 0 := fun i k hi => m3 _ _ (Or.inr ⟨rfl, hi⟩)
  have z30 : ∀ k, iv (30, 0, 0) k = 0 := fun k => m3 _ _ (Or.inl rfl)
  have t2 := (T 0 (by decide)).2.2.1
  have t7 := (T 0 (by decide)).2.2.2.2
  refine ⟨⟨s2.c (fun q hq => ⟨(e q hq).1, fun k => ((e q hq).2 k).1⟩), m2, fun i hi j hj => ?_, fun i hi j hj => Or.inl ((T i hi).2.1.2.2.2.2 j)⟩, ⟨fun s hs => ⟨?_, 0, by decide, ?_, ?_, fun k hk => absurd hk (by omega)⟩, ⟨0, by decide, ?_, ?_, fun k hk => absurd hk (by omega)⟩, fun k hk => ?_, fun i r hi hr => (T i hi).2.2.2.1 r hr, 0, fun q _ => ?_⟩, ⟨⟨0, ⟨?_, ?_, by decide⟩, fun r hr => absurd hr (by omega), fun r hr => absurd hr (by omega)⟩, ⟨0, fun _ => (22, 0, 0), fun _ => 0, ?_, ?_, by decide, fun j hj => absurd hj (by omega)⟩, ⟨?_, ⟨?_, ?_⟩, ⟨?_, ?_⟩, ?_, ?_⟩, ⟨⟨0, 0, ?_, by decide, ?_, by decide, tRel_0 _ _ _⟩, 0, 0, ?_, by decide, ?_, by decide, tRel_0 _ _ _⟩, ⟨0, ?_, ?_, by decide, fun k hk => absurd hk (by omega)⟩, 0, ?_, ?_, by decide, fun k hk => absurd hk (by omega)⟩, ?_, fun c => absurd (z _ _ (Or.inl rfl)) c⟩
  · rw [(m1 (40, i, j) (Or.inr (by simp))).1, hm _ (by simp), (s1 (40, i, j) (by simp)).1]; exact h40 i hi j hj
  · rw [z _ _ (Or.inr ⟨by simp, by simp⟩), zu _ _ (by decide)]
  · exact (z _ _ (Or.inr ⟨by simp, by simp⟩)).trans nI_0.symm
  · exact (zu _ _ (by decide)).trans nI_0.symm
  · exact (z _ _ (Or.inr ⟨by simp, by simp⟩)).trans nI_0.symm
  · exact (z30 _).trans nI_0.symm
  · rw [z _ _ (Or.inr ⟨by simp, by simp⟩), zu _ _ (by decide)]
  · have g := e (22, q, 0) (by simp)
    have g1 := s1 (22, q, 0) (by simp)
    have g0 := h22 q
    exact ⟨g.1.trans (g1.1.trans g0.1), fun k => ⟨(g.2 k).1.trans ((g1.2 k).1.trans (g0.2 k).1), (g.2 k).2.trans ((g1.2 k).2.trans (g0.2 k).2)⟩⟩
  · exact (t2 1).trans nI_0.symm
  · exact (m4 1).trans nI_0.symm
  · exact (t2 4).trans nI_0.symm
  · exact (m4 2).trans nI_0.symm
  · exact (t2 5).trans (m4 3).symm
  · exact (t2 6).trans (m4 4).symm
  · rw [t2 6]; decide
  · exact (t2 7).trans (m4 5).symm
  · rw [t2 7]; decide
  · exact (t2 8).trans (m4 0).symm
  · exact (t2 9).trans (m4 6).symm
  · exact (t7 _ _ (by simp) (by simp) rfl).trans nI_0.symm
  · exact (m4 40).trans nI_0.symm
  · exact (t7 _ _ (by simp) (by simp) rfl).trans nI_0.symm
  · exact (m4 41).trans nI_0.symm
  · exact (t7 _ _ (by simp) (by simp) rfl).trans nI_0.symm
  · exact (m4 7).trans nI_0.symm
  · exact (t7 _ _ (by simp) (by simp) rfl).trans nI_0.symm
  · exact (m4 8).trans nI_0.symm
  · rw [z _ _ (Or.inl rfl), z30]
