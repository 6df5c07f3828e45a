/-- what a room's constructor leaves -/
def rmT (i : Nat) (kd : am_kd) (rv : am_rv) (iv : am_iv) : Prop :=
  ((kd (3, i, 0) = some (.inr (1, 8)) ∧ kd (5, i, 0) = some (.inr (1, 8)) ∧ kd (7, i, 0) = some (.inr (2, 6)) ∧ kd (8, i, 0) = some (.inr (3, 2))) ∧ (∀ r, r < 8 → kd (4, i, r) = some (.inl 3) ∧ kd (6, i, r) = some (.inl 3)) ∧ (∀ u, u < 2 → kd (9, i, u) = some (.inl 7) ∧ kd (10, i, u) = some (.inr (0, 50)) ∧ kd (11, i, u) = some (.inr (0, 50))) ∧ (kd (12, i, 0) = some (.inl 5) ∧ kd (13, i, 0) = some (.inr (0, 50)) ∧ kd (14, i, 0) = some (.inl 5) ∧ kd (15, i, 0) = some (.inr (0, 20)))) ∧
  ((rv (2, i, 0) 0 = some (3, i, 0) ∧ rv (2, i, 0) 2 = some (5, i, 0) ∧ rv (2, i, 0) 3 = some (7, i, 0) ∧ rv (2, i, 0) 10 = some (8, i, 0) ∧ rv (2, i, 0) 11 = some (12, i, 0) ∧ rv (2, i, 0) 12 = some (14, i, 0)) ∧ (∀ r, r < 8 → rv (3, i, 0) r = some (4, i, r) ∧ rv (5, i, 0) r = some (6, i, r)) ∧ (∀ u, u < 2 → rv (8, i, 0) u = some (9, i, u) ∧ rv (9, i, u) 0 = some (10, i, u) ∧ rv (9, i, u) 2 = some (11, i, u)) ∧ (rv (12, i, 0) 0 = some (13, i, 0) ∧ rv (14, i, 0) 0 = some (15, i, 0)) ∧ ∀ j, rv (7, i, 0) j = none) ∧
  ((∀ k, iv (2, i, 0) k = if k = 9 then 1 else if k = 7 then 10 else if k = 6 then 99999 else 0) ∧ (∀ r, r < 8 → iv (4, i, r) 0 = nI r ∧ iv (6, i, r) 0 = nI r) ∧ ∀ q k, 7 ≤ q.1 → q.1 ≤ 15 → q.2.1 = i → iv q k = 0)
theorem rmT.c {i : Nat} {kd : am_kd} {rv : am_rv} {iv : am_iv} {kd' : am_kd} {rv' : am_rv} {iv' : am_iv} (h : rmT i kd rv iv) (e : ∀ q : am_N, 2 ≤ q.1 → q.1 ≤ 15 → q.2.1 = i → kd' q = kd q ∧ ∀ k, rv' q k = rv q k ∧ iv' q k = iv q k) : rmT i kd' rv' iv' := by
  have k2 : ∀ c, kd' (2, i, c) = kd (2, i, c) := fun c => (e _ (by simp) (by simp) rfl).1
  have r2 : ∀ c k, rv' (2, i, c) k = rv (2, i, c) k := fun c k => ((e _ (by simp) (by simp) rfl).2 k).1
  have i2 : ∀ c k, iv' (2, i, c) k = iv (2, i, c) k := fun c k => ((e _ (by simp) (by simp) rfl).2 k).2
  have k3 : ∀ c, kd' (3, i, c) = kd (3, i, c) := fun c => (e _ (by simp) (by simp) rfl).1
  have r3 : ∀ c k, rv' (3, i, c) k = rv (3, i, c) k := fun c k => ((e _ (by simp) (by simp) rfl).2 k).1
  have i3 : ∀ c k, iv' (3, i, c) k = iv (3, i, c) k := fun c k => ((e _ (by simp) (by simp) rfl).2 k).2
  have k4 : ∀ c, kd' (4, i, c) = kd (4, i, c) := fun c => (e _ (by simp) (by simp) rfl).1
  have r4 : ∀ c k, rv' (4, i, c) k = rv (4, i, c) k := fun c k => ((e _ (by simp) (by simp) rfl).2 k).1
  have i4 : ∀ c k, iv' (4, i, c) k = iv (4, i, c) k := fun c k => ((e _ (by simp) (by simp) rfl).2 k).2
  have k5 : ∀ c, kd' (5, i, c) = kd (5, i, c) := fun c => (e _ (by simp) (by simp) rfl).1
  have r5 : ∀ c k, rv' (5, i, c) k = rv (5, i, c) k := fun c k => ((e _ (by simp) (by simp) rfl).2 k).1
  have i5 : ∀ c k, iv' (5, i, c) k = iv (5, i, c) k := fun c k => ((e _ (by simp) (by simp) rfl).2 k).2
  have k6 : ∀ c, kd' (6, i, c) = kd (6, i, c) := fun c => (e _ (by simp) (by simp) rfl).1
  have r6 : ∀ c k, rv' (6, i, c) k = rv (6, i, c) k := fun c k => ((e _ (by simp) (by simp) rfl).2 k).1
  have i6 : ∀ c k, iv' (6, i, c) k = iv (6, i, c) k := fun c k => ((e _ (by simp) (by simp) rfl).2 k).2
  have k7 : ∀ c, kd' (7, i, c) = kd (7, i, c) := fun c => (e _ (by simp) (by simp) rfl).1
  have r7 : ∀ c k, rv' (7, i, c) k = rv (7, i, c) k := fun c k => ((e _ (by simp) (by simp) rfl).2 k).1
  have i7 : ∀ c k, iv' (7, i, c) k = iv (7, i, c) k := fun c k => ((e _ (by simp) (by simp) rfl).2 k).2
  have k8 : ∀ c, kd' (8, i, c) = kd (8, i, c) := fun c => (e _ (by simp) (by simp) rfl).1
  have r8 : ∀ c k, rv' (8, i, c) k = rv (8, i, c) k := fun c k => ((e _ (by simp) (by simp) rfl).2 k).1
  have i8 : ∀ c k, iv' (8, i, c) k = iv (8, i, c) k := fun c k => ((e _ (by simp) (by simp) rfl).2 k).2
  have k9 : ∀ c, kd' (9, i, c) = kd (9, i, c) := fun c => (e _ (by simp) (by simp) rfl).1
  have r9 : ∀ c k, rv' (9, i, c) k = rv (9, i, c) k := fun c k => ((e _ (by simp) (by simp) rfl).2 k).1
  have i9 : ∀ c k, iv' (9, i, c) k = iv (9, i, c) k := fun c k => ((e _ (by simp) (by simp) rfl).2 k).2
  have k10 : ∀ c, kd' (10, i, c) = kd (10, i, c) := fun c => (e _ (by simp) (by simp) rfl).1
  have r10 : ∀ c k, rv' (10, i, c) k = rv (10, i, c) k := fun c k => ((e _ (by simp) (by simp) rfl).2 k).1
  have i10 : ∀ c k, iv' (10, i, c) k = iv (10, i, c) k := fun c k => ((e _ (by simp) (by simp) rfl).2 k).2
  have k11 : ∀ c, kd' (11, i, c) = kd (11, i, c) := fun c => (e _ (by simp) (by simp) rfl).1
  have r11 : ∀ c k, rv' (11, i, c) k = rv (11, i, c) k := fun c k => ((e _ (by simp) (by simp) rfl).2 k).1
  have i11 : ∀ c k, iv' (11, i, c) k = iv (11, i, c) k := fun c k => ((e _ (by simp) (by simp) rfl).2 k).2
  have k12 : ∀ c, kd' (12, i, c) = kd (12, i, c) := fun c => (e _ (by simp) (by simp) rfl).1
  have r12 : ∀ c k, rv' (12, i, c) k = rv (12, i, c) k := fun c k => ((e _ (by simp) (by simp) rfl).2 k).1
  have i12 : ∀ c k, iv' (12, i, c) k = iv (12, i, c) k := fun c k => ((e _ (by simp) (by simp) rfl).2 k).2
  have k13 : ∀ c, kd' (13, i, c) = kd (13, i, c) := fun c => (e _ (by simp) (by simp) rfl).1
  have r13 : ∀ c k, rv' (13, i, c) k = rv (13, i, c) k := fun c k => ((e _ (by simp) (by simp) rfl).2 k).1
  have i13 : ∀ c k, iv' (13, i, c) k = iv (13, i, c) k := fun c k => ((e _ (by simp) (by simp) rfl).2 k).2
  have k14 : ∀ c, kd' (14, i, c) = kd (14, i, c) := fun c => (e _ (by simp) (by simp) rfl).1
  have r14 : ∀ c k, rv' (14, i, c) k = rv (14, i, c) k := fun c k => ((e _ (by simp) (by simp) rfl).2 k).1
  have i14 : ∀ c k, iv' (14, i, c) k = iv (14, i, c) k := fun c k => ((e _ (by simp) (by simp) rfl).2 k).2
  have k15 : ∀ c, kd' (15, i, c) = kd (15, i, c) := fun c => (e _ (by simp) (by simp) rfl).1
  have r15 : ∀ c k, rv' (15, i, c) k = rv (15, i, c) k := fun c k => ((e _ (by simp) (by simp) rfl).2 k).1
  have i15 : ∀ c k, iv' (15, i, c) k = iv (15, i, c) k := fun c k => ((e _ (by simp) (by simp) rfl).2 k).2
  obtain ⟨hB, hC, hD1, hD2, hD3⟩ := h
  unfold rmT
  simp only [k2, r2, i2, k3, r3, i3, k4, r4, i4, k5, r5, i5, k6, r6, i6, k7, r7, i7, k8, r8, i8, k9, r9, i9, k10, r10, i10, k11, r11, i11, k12, r12, i12, k13, r13, i13, k14, r14, i14, k15, r15, i15]
  exact ⟨hB, hC, hD1, hD2, fun q k h7 h15 hi => ((e q (by omega) h15 hi).2 k).2.trans (hD3 q k h7 h15 hi)⟩
/-- m rooms are made -/
def siI (m : Nat) (kd0 : am_kd) (rv0 : am_rv) (iv0 : am_iv) (kd : am_kd) (rv : am_rv) (iv : am_iv) : Prop := (∀ q : am_N, (q.1 < 2 ∨ 15 < q.1 ∨ m ≤ q.2.1) → kd q = kd0 q ∧ ∀ k, iv q k = iv0 q k ∧ (q ≠ (1, 0, 0) → rv q k = rv0 q k)) ∧ (∀ k, m ≤ k → rv (1, 0, 0) k = rv0 (1, 0, 0) k) ∧ ∀ j, j < m → rv (1, 0, 0) j = some (2, j, 0) ∧ kd (2, j, 0) = some (.inl 4) ∧ rmT j kd rv iv
theorem siI.step {i : Nat} {kd0 : am_kd} {rv0 : am_rv} {iv0 : am_iv} {kd : am_kd} {rv : am_rv} {iv : am_iv} {kd9 : am_kd} {rv9 : am_rv} {iv9 : am_iv} (h : siI i kd0 rv0 iv0 kd rv iv) (P : rmP i (am_uk kd (2, i, 0) (.inl 4)) rv iv kd9 rv9 iv9) : siI (i + 1) kd0 rv0 iv0 kd9 (am_ur rv9 (1, 0, 0) i (some (2, i, 0))) iv9 := by
  obtain ⟨h1, h2, h3⟩ := h
  obtain ⟨p1, p2⟩ := P
  have p2 : rmT i kd9 rv9 iv9 := p2
  have out : ∀ q : am_N, ¬ (3 ≤ q.1 ∧ q.1 ≤ 15 ∧ q.2.1 = i) → q ≠ (2, i, 0) → kd9 q = kd q ∧ ∀ k, rv9 q k = rv q k ∧ iv9 q k = iv q k := fun q hq n2 => ⟨(p1 q hq).1.trans (am_uk_o n2), (p1 q hq).2 n2⟩
  refine ⟨fun q hq => ?_, fun k hk => ?_, fun j hj => ?_⟩
  · have n2 : q ≠ (2, i, 0) := fun e => by subst e; simp at hq; omega
    obtain ⟨o1, o2⟩ := out q (by omega) n2
    obtain ⟨g1, g2⟩ := h1 q (by omega)
    exact ⟨o1.trans g1, fun k => ⟨(o2 k).2.trans (g2 k).1, fun n1 => by rw [am_ur_o n1, (o2 k).1]; exact (g2 k).2 n1⟩⟩
  · rw [am_ur_n (by simp; omega), ((out (1, 0, 0) (by simp) (by simp)).2 k).1]
    exact h2 k (by omega)
  · by_cases e : j = i
    · subst e
      exact ⟨am_ur_s, (p1 (2, j, 0) (by simp)).1.trans am_uk_s, p2.c (fun q a b c => ⟨rfl, fun k => ⟨am_ur_o (fun e => by subst e; simp at a), rfl⟩⟩)⟩
    · obtain ⟨g1, g2, g3⟩ := h3 j (by omega)
      refine ⟨?_, ?_, g3.c (fun q a b c => ?_)⟩
      · rw [am_ur_n (by simp [e]), ((out (1, 0, 0) (by simp) (by simp)).2 j).1]; exact g1
      · rw [(out (2, j, 0) (by simp) (by simp [e])).1]; exact g2
      · obtain ⟨o1, o2⟩ := out q (by omega) (fun z => by subst z; simp at c; omega)
        exact ⟨o1, fun k => ⟨by rw [am_ur_o (fun e => by subst e; simp at a)]; exact (o2 k).1, (o2 k).2⟩⟩
/-- j sheets are made -/
def stI (j : Nat) (kd0 : am_kd) (rv0 : am_rv) (kd : am_kd) (rv : am_rv) : Prop := (∀ q : am_N, ((q.1 ≠ 17 ∧ q.1 ≠ 18) ∨ j ≤ q.2.1) → kd q = kd0 q) ∧ (∀ (q : am_N) k, ((q.1 ≠ 17 ∧ q ≠ (16, 0, 0)) ∨ (q.1 = 17 ∧ j ≤ q.2.1) ∨ (q = (16, 0, 0) ∧ j ≤ k)) → rv q k = rv0 q k) ∧ ∀ r, r < j → (kd (17, r, 0) = some (.inl 5) ∧ kd (18, r, 0) = some (.inr (0, 40))) ∧ rv (16, 0, 0) r = some (17, r, 0) ∧ rv (17, r, 0) 0 = some (18, r, 0)
theorem stI.step {j : Nat} {kd0 : am_kd} {rv0 : am_rv} {kd : am_kd} {rv : am_rv} (h : stI j kd0 rv0 kd rv) : stI (j + 1) kd0 rv0 (am_uk (am_uk kd (17, j, 0) (.inl 5)) (18, j, 0) (.inr (0, 40))) (am_ur (am_ur rv (17, j, 0) 0 (some (18, j, 0))) (16, 0, 0) j (some (17, j, 0))) := by
  obtain ⟨h1, h2, h3⟩ := h
  refine ⟨fun q hq => ?_, fun q k hq => ?_, fun r hr => ?_⟩
  · have n1 : q ≠ (17, j, 0) := fun e => by subst e; simp at hq; omega
    have n2 : q ≠ (18, j, 0) := fun e => by subst e; simp at hq; omega
    rw [am_uk_o n2, am_uk_o n1]
    exact h1 q (by rcases hq with e | e <;> simp [e]; omega)
  · have n1 : ¬ (q = (17, j, 0) ∧ k = 0) := fun e => by have e1 := e.1; subst e1; simp at hq; omega
    have n2 : ¬ (q = (16, 0, 0) ∧ k = j) := fun e => by have e1 := e.1; subst e1; simp at hq; omega
    rw [am_ur_n n2, am_ur_n n1]
    refine h2 q k ?_
    rcases hq with e | ⟨e1, e2⟩ | ⟨e1, e2⟩
    · exact Or.inl e
    · exact Or.inr (Or.inl ⟨e1, by omega⟩)
    · exact Or.inr (Or.inr ⟨e1, by omega⟩)
  · by_cases e : r = j
    · subst e
      refine ⟨⟨by rw [am_uk_o (by simp), am_uk_s], am_uk_s⟩, am_ur_s, ?_⟩
      rw [am_ur_o (by simp), am_ur_s]
    · obtain ⟨⟨g1, g2⟩, g3, g4⟩ := h3 r (by omega)
      refine ⟨⟨?_, ?_⟩, ?_, ?_⟩
      · rw [am_uk_o (by simp), am_uk_o (by simp [e])]; exact g1
      · rw [am_uk_o (by simp [e]), am_uk_o (by simp)]; exact g2
      · rw [am_ur_n (by simp [e]), am_ur_n (by simp)]; exact g3
      · rw [am_ur_n (by simp), am_ur_n (by simp [e])]; exact g4
set_option maxRecDepth 20000 in
theorem st_loop (l : Launch) {post : am_Post} {kd0 : am_kd} {rv0 : am_rv} {iv : am_iv} (hk10 : kd0 (1, 0, 0) = some (.inl 11)) (hw5 : rv0 (1, 0, 0) 5 = some (16, 0, 0)) (hk16 : kd0 (16, 0, 0) = some (.inr (4, 4))) (hf : ∀ r, (kd0 (17, r, 0) = none ∧ kd0 (18, r, 0) = none) ∧ ∀ k, (rv0 (17, r, 0) k = none ∧ rv0 (18, r, 0) k = none) ∧ iv (17, r, 0) k = 0 ∧ iv (18, r, 0) k = 0) (d : Nat) : ∀ (j : Nat) (kd : am_kd) (rv : am_rv), stI j kd0 rv0 kd rv → j + d = 4 → (∀ kd rv, stI 4 kd0 rv0 kd rv → am_W l mX11_init (am_rm 5 139 2152) post 89 [some (am_P (1, 0, 0)), some (am_I (nI 4))] [] kd rv iv (125 + 2 * 4) (1824 + 43 * 4)) → am_W l mX11_init (am_rm 5 139 2152) post 63 [some (am_P (1, 0, 0)), some (am_I (nI j))] [] kd rv iv (125 + 2 * j) (1824 + 43 * j) := by
  induction d with
  | zero =>
    intro j kd rv hI hd K
    have ej : j = 4 := hd
    subst ej
    refine A_iload_n (pc := 63) (i := 1) dX11_init_63 rfl rfl ?_
    refine A_iconst (pc := 64) (4) dX11_init_64 (by decide) ?_
    refine A_icmpge (pc := 65) 89 dX11_init_65 (by decide) (fun hb65 => ?_) (fun hb65 => ?_)
    · exact K _ _ hI
    · exact absurd (show (4 : Int32) ≤ nI 4 by decide) hb65
  | succ d ih =>
    intro j kd rv hI hd K
    have hk1 : kd (1, 0, 0) = some (.inl 11) := (hI.1 _ (Or.inl ⟨by simp, by simp⟩)).trans hk10
    have w5 : rv (1, 0, 0) 5 = some (16, 0, 0) := (hI.2.1 _ _ (Or.inl ⟨by simp, by simp⟩)).trans hw5
    have k16 : kd (16, 0, 0) = some (.inr (4, 4)) := (hI.1 _ (Or.inl ⟨by simp, by simp⟩)).trans hk16
    have f17 := (hI.1 (17, j, 0) (Or.inr (Nat.le_refl j))).trans (hf j).1.1
    have f18 := (hI.1 (18, j, 0) (Or.inr (Nat.le_refl j))).trans (hf j).1.2
    have r17 : ∀ k, rv (17, j, 0) k = none := fun k => (hI.2.1 (17, j, 0) k (Or.inr (Or.inl ⟨rfl, Nat.le_refl j⟩))).trans (((hf j).2 k).1.1)
    have r18 : ∀ k, rv (18, j, 0) k = none := fun k => (hI.2.1 (18, j, 0) k (Or.inl ⟨by simp, by simp⟩)).trans (((hf j).2 k).1.2)
    have hcl : (nI j).toNatClampNeg = j := nI_clamp (by omega)
    refine A_iload_n (pc := 63) (i := 1) dX11_init_63 rfl rfl ?_
    refine A_iconst (pc := 64) (4) dX11_init_64 (by decide) ?_
    refine A_icmpge (pc := 65) 89 dX11_init_65 (by decide) (fun hb65 => ?_) (fun hb65 => ?_)
    · exact absurd (show nI 4 ≤ nI j from hb65) (nI_nge (by omega) (by decide))
    · refine A_aload_n (pc := 68) (i := 0) dX11_init_68 rfl rfl ?_
      refine A_getr (pc := 69) 5 fl_X11_31_11 hk1 rfl w5 dX11_init_69 ?_
      refine A_iload_n (pc := 72) (i := 1) dX11_init_72 rfl rfl ?_
      refine A_newW (pc := 73) (17, j, 0) (ci := 5) (r := (RX5, TX5, 3)) (w := 3) rfl rfl cl_X11_29 cz_5 cy_5 f17 (by simp) (fun k => ((hf j).2 k).2.1) r17 (by show _ ≤ 139; omega) (by show _ ≤ 2152; omega) dX11_init_73 ?_
      refine A_dup (pc := 76) dX11_init_76 rfl ?_
      refine A_bipush (pc := 77) (40) dX11_init_77 (by decide) ?_
      refine A_callIc (pc := 79) ci_X11_35 (s_rowInit l (17, j, 0) (18, j, 0) am_uk_s (by simp) ((am_uk_o (by simp)).trans f18) (by simp) (fun k => ((hf j).2 k).2.2) r18 40 (by decide)) rfl rfl (Nat.le_of_ble_eq_true rfl) ⟨(Nat.le_of_ble_eq_true rfl), (Nat.le_of_ble_eq_true rfl)⟩ ⟨by show _ ≤ 139; omega, by show _ ≤ 2152; omega⟩ dX11_init_79 ?_
      refine A_aast (pc := 82) (n := (16, 0, 0)) (t := 4) (z := 4) (ci := 5) (r := (RX5, TX5, 3)) (C0 := RX5) (by (repeat rw [am_uk_o (by simp)]); exact k16) (by decide) rfl (by (repeat (first | exact am_uk_t rfl | rw [am_uk_o (by simp)]))) rfl (Or.inl rfl) (vp_in_nI (show j < 4 by omega) (by decide)) dX11_init_82 ?_
      rw [hcl]
      refine A_inc1 (pc := 83) (nI (j + 1)) dX11_init_83 (nI_1 j) (Nat.le_of_ble_eq_true rfl) rfl ?_
      refine A_goto (pc := 86) 63 dX11_init_86 (by decide) ?_
      refine A_cu (cu' := 125 + 2 * (j + 1)) (su' := 1824 + 43 * (j + 1)) (by omega) (by omega) ?_
      exact ih (j + 1) _ _ hI.step (by omega) K
/-- what the constructor leaves -/
def siP (kd0 : am_kd) (rv0 : am_rv) (iv0 : am_iv) (kd : am_kd) (rv : am_rv) (iv : am_iv) : Prop := (∀ q : am_N, 22 ≤ q.1 → kd q = kd0 q ∧ ∀ k, rv q k = rv0 q k ∧ iv q k = iv0 q k) ∧ sh kd rv ∧ (∀ i, i < 4 → rmT i kd rv iv) ∧ ∀ (q : am_N) k, (q.1 = 1 ∨ (16 ≤ q.1 ∧ q.1 ≤ 21)) → iv q k = 0
theorem si_end {kd : am_kd} {rv : am_rv} {iv : am_iv} {kd3 : am_kd} {rw3 : am_rv} {iv3 : am_iv} {kd4 : am_kd} {rv4 : am_rv} (hF : ∀ q : am_N, 2 ≤ q.1 → q.1 ≤ 21 → kd q = none ∧ ∀ k, rv q k = none ∧ iv q k = 0) (h10 : ∀ k, rv (1, 0, 0) k = none ∧ iv (1, 0, 0) k = 0) (h1z : ∀ (q : am_N) k, q.1 = 1 → iv q k = 0) (I4 : siI 4 kd rv iv kd3 rw3 iv3) (hJ : stI 4 (am_uk kd3 (16, 0, 0) (.inr (4, 4))) (am_ur rw3 (1, 0, 0) 5 (some (16, 0, 0))) kd4 rv4) (hk1 : kd4 (1, 0, 0) = some (.inl 11)) (w1 : ∀ k, k ≠ 5 → rv4 (1, 0, 0) k = rw3 (1, 0, 0) k) (w15 : rv4 (1, 0, 0) 5 = some (16, 0, 0)) (k16 : kd4 (16, 0, 0) = some (.inr (4, 4))) (lo : ∀ q : am_N, q.1 < 16 → kd4 q = kd3 q ∧ (q ≠ (1, 0, 0) → ∀ k, rv4 q k = rw3 q k)) : siP kd rv iv (am_uk (am_uk (am_uk (am_uk (am_uk (am_uk kd4 (19, 0, 0) (.inl 5)) (20, 0, 0) (.inr (0, 40))) (9, 4, 0) (.inl 7)) (10, 4, 0) (.inr (0, 50))) (11, 4, 0) (.inr (0, 50))) (21, 0, 0) (.inr (0, 6))) (am_ur (am_ur (am_ur (am_ur (am_ur (am_ur rv4 (19, 0, 0) 0 (some (20, 0, 0))) (1, 0, 0) 6 (some (19, 0, 0))) (9, 4, 0) 0 (some (10, 4, 0))) (9, 4, 0) 2 (some (11, 4, 0))) (1, 0, 0) 7 (some (9, 4, 0))) (1, 0, 0) 8 (some (21, 0, 0))) (am_ui iv3 (1, 0, 0) 4 0) := by
  have Kn : ∀ q : am_N, q.1 ≠ 19 → q.1 ≠ 20 → q.1 ≠ 21 → ¬ (9 ≤ q.1 ∧ q.1 ≤ 11 ∧ q.2.1 = 4) → (am_uk (am_uk (am_uk (am_uk (am_uk (am_uk kd4 (19, 0, 0) (.inl 5)) (20, 0, 0) (.inr (0, 40))) (9, 4, 0) (.inl 7)) (10, 4, 0) (.inr (0, 50))) (11, 4, 0) (.inr (0, 50))) (21, 0, 0) (.inr (0, 6))) q = kd4 q := fun q n1 n2 n3 n4 => by
    rw [am_uk_o (fun e => n3 (by rw [e])), am_uk_o (fun e => n4 (by rw [e]; simp)), am_uk_o (fun e => n4 (by rw [e]; simp)), am_uk_o (fun e => n4 (by rw [e]; simp)), am_uk_o (fun e => n2 (by rw [e])), am_uk_o (fun e => n1 (by rw [e]))]
  have Rn : ∀ (q : am_N) k, q ≠ (1, 0, 0) → q.1 ≠ 19 → ¬ (q.1 = 9 ∧ q.2.1 = 4) → (am_ur (am_ur (am_ur (am_ur (am_ur (am_ur rv4 (19, 0, 0) 0 (some (20, 0, 0))) (1, 0, 0) 6 (some (19, 0, 0))) (9, 4, 0) 0 (some (10, 4, 0))) (9, 4, 0) 2 (some (11, 4, 0))) (1, 0, 0) 7 (some (9, 4, 0))) (1, 0, 0) 8 (some (21, 0, 0))) q k = rv4 q k := fun q k n1 n2 n3 => by
    rw [am_ur_o n1, am_ur_o n1, am_ur_o (fun e => n3 (by rw [e]; simp)), am_ur_o (fun e => n3 (by rw [e]; simp)), am_ur_o n1, am_ur_o (fun e => n2 (by rw [e]))]
  have Kr : ∀ a i c, 2 ≤ a → a ≤ 15 → i < 4 → (am_uk (am_uk (am_uk (am_uk (am_uk (am_uk kd4 (19, 0, 0) (.inl 5)) (20, 0, 0) (.inr (0, 40))) (9, 4, 0) (.inl 7)) (10, 4, 0) (.inr (0, 50))) (11, 4, 0) (.inr (0, 50))) (21, 0, 0) (.inr (0, 6))) (a, i, c) = kd3 (a, i, c) := fun a i c h2 h15 hi => by
    rw [Kn _ (by simp; omega) (by simp; omega) (by simp; omega) (by simp; omega)]
    exact (lo _ (by simp; omega)).1
  have Rr : ∀ a i c k, 2 ≤ a → a ≤ 15 → i < 4 → (am_ur (am_ur (am_ur (am_ur (am_ur (am_ur rv4 (19, 0, 0) 0 (some (20, 0, 0))) (1, 0, 0) 6 (some (19, 0, 0))) (9, 4, 0) 0 (some (10, 4, 0))) (9, 4, 0) 2 (some (11, 4, 0))) (1, 0, 0) 7 (some (9, 4, 0))) (1, 0, 0) 8 (some (21, 0, 0))) (a, i, c) k = rw3 (a, i, c) k := fun a i c k h2 h15 hi => by
    rw [Rn _ _ (by simp; omega) (by simp; omega) (by simp; omega)]
    exact (lo _ (by simp; omega)).2 (by simp; omega) k
  have w1k : ∀ k, k ≠ 6 → k ≠ 7 → k ≠ 8 → (am_ur (am_ur (am_ur (am_ur (am_ur (am_ur rv4 (19, 0, 0) 0 (some (20, 0, 0))) (1, 0, 0) 6 (some (19, 0, 0))) (9, 4, 0) 0 (some (10, 4, 0))) (9, 4, 0) 2 (some (11, 4, 0))) (1, 0, 0) 7 (some (9, 4, 0))) (1, 0, 0) 8 (some (21, 0, 0))) (1, 0, 0) k = rv4 (1, 0, 0) k := fun k h6 h7 h8 => by
    rw [am_ur_n (by simp [h8]), am_ur_n (by simp [h7]), am_ur_n (by simp), am_ur_n (by simp), am_ur_n (by simp [h6]), am_ur_n (by simp)]
  have hT : ∀ i, i < 4 → rmT i kd3 rw3 iv3 := fun i hi => (I4.2.2 i hi).2.2
  refine ⟨fun q hq => ?_, ?_, fun i hi => ?_, fun q k hq => ?_⟩
  · have n1 : q ≠ (1, 0, 0) := fun e => by subst e; simp at hq
    have n16 : q ≠ (16, 0, 0) := fun e => by subst e; simp at hq
    have g := I4.1 q (Or.inr (Or.inl (by omega)))
    refine ⟨?_, fun k => ⟨?_, ?_⟩⟩
    · rw [Kn q (by omega) (by omega) (by omega) (by omega), hJ.1 q (Or.inl ⟨by omega, by omega⟩), am_uk_o n16]; exact g.1
    · rw [Rn q k n1 (by omega) (by omega), hJ.2.1 q k (Or.inl ⟨by omega, n16⟩), am_ur_o n1]; exact (g.2 k).2 n1
    · rw [am_ui_o n1]; exact (g.2 k).1
  · refine ⟨?_, ?_, ?_, ?_, ?_, ?_, ?_, ?_, ?_, ?_, ?_, ?_, ?_, ?_, ?_, ?_, ?_, ?_, ?_, ?_, ?_, ?_, ?_, ?_, ?_, ?_, ?_, ?_, ?_, ?_, ?_, ?_, ?_, ?_, ?_, ?_, ?_, ?_, ?_, ?_, ?_, ?_⟩
    · exact (Kn _ (by simp) (by simp) (by simp) (by simp)).trans hk1
    · intro i hi; exact (Kr 2 i 0 (by decide) (by decide) hi).trans (I4.2.2 i hi).2.1
    · intro i hi; exact (Kr 3 i 0 (by decide) (by decide) hi).trans (hT i hi).1.1.1
    · intro i k hi hk; exact (Kr 4 i k (by decide) (by decide) hi).trans ((hT i hi).1.2.1 k hk).1
    · intro i hi; exact (Kr 5 i 0 (by decide) (by decide) hi).trans (hT i hi).1.1.2.1
    · intro i k hi hk; exact (Kr 6 i k (by decide) (by decide) hi).trans ((hT i hi).1.2.1 k hk).2
    · intro i hi; exact (Kr 7 i 0 (by decide) (by decide) hi).trans (hT i hi).1.1.2.2.1
    · intro i hi; exact (Kr 8 i 0 (by decide) (by decide) hi).trans (hT i hi).1.1.2.2.2
    · intro i u h; rcases h with ⟨hi, hu⟩ | ⟨e1, e2⟩
      · exact (Kr 9 i u (by decide) (by decide) hi).trans ((hT i hi).1.2.2.1 u hu).1
      · subst e1; subst e2; (repeat (first | exact am_uk_t rfl | rw [am_uk_o (by simp)]))
    · intro i u h; rcases h with ⟨hi, hu⟩ | ⟨e1, e2⟩
      · exact (Kr 10 i u (by decide) (by decide) hi).trans ((hT i hi).1.2.2.1 u hu).2.1
      · subst e1; subst e2; (repeat (first | exact am_uk_t rfl | rw [am_uk_o (by simp)]))
    · intro i u h; rcases h with ⟨hi, hu⟩ | ⟨e1, e2⟩
      · exact (Kr 11 i u (by decide) (by decide) hi).trans ((hT i hi).1.2.2.1 u hu).2.2
      · subst e1; subst e2; (repeat (first | exact am_uk_t rfl | rw [am_uk_o (by simp)]))
    · intro i hi; exact (Kr 12 i 0 (by decide) (by decide) hi).trans (hT i hi).1.2.2.2.1
    · intro i hi; exact (Kr 13 i 0 (by decide) (by decide) hi).trans (hT i hi).1.2.2.2.2.1
    · intro i hi; exact (Kr 14 i 0 (by decide) (by decide) hi).trans (hT i hi).1.2.2.2.2.2.1
    · intro i hi; exact (Kr 15 i 0 (by decide) (by decide) hi).trans (hT i hi).1.2.2.2.2.2.2
    · exact (Kn _ (by simp) (by simp) (by simp) (by simp)).trans k16
    · intro i hi; exact (Kn _ (by simp) (by simp) (by simp) (by simp)).trans (hJ.2.2 i hi).1.1
    · intro i hi; exact (Kn _ (by simp) (by simp) (by simp) (by simp)).trans (hJ.2.2 i hi).1.2
    · show am_uk _ _ _ _ = _; (repeat (first | exact am_uk_t rfl | rw [am_uk_o (by simp)]))
    · show am_uk _ _ _ _ = _; (repeat (first | exact am_uk_t rfl | rw [am_uk_o (by simp)]))
    · show am_uk _ _ _ _ = _; (repeat (first | exact am_uk_t rfl | rw [am_uk_o (by simp)]))
    · intro k hk; exact (w1k k (by omega) (by omega) (by omega)).trans ((w1 k (by omega)).trans (I4.2.2 k hk).1)
    · exact (w1k 5 (by decide) (by decide) (by decide)).trans w15
    · show am_ur _ _ _ _ _ _ = _; (repeat (first | exact am_ur_t rfl rfl | rw [am_ur_n (by simp)]))
    · show am_ur _ _ _ _ _ _ = _; (repeat (first | exact am_ur_t rfl rfl | rw [am_ur_n (by simp)]))
    · show am_ur _ _ _ _ _ _ = _; (repeat (first | exact am_ur_t rfl rfl | rw [am_ur_n (by simp)]))
    · intro i hi; exact (Rr 2 i 0 0 (by decide) (by decide) hi).trans (hT i hi).2.1.1.1
    · intro i hi; exact (Rr 2 i 0 2 (by decide) (by decide) hi).trans (hT i hi).2.1.1.2.1
    · intro i hi; exact (Rr 2 i 0 3 (by decide) (by decide) hi).trans (hT i hi).2.1.1.2.2.1
    · intro i hi; exact (Rr 2 i 0 10 (by decide) (by decide) hi).trans (hT i hi).2.1.1.2.2.2.1
    · intro i hi; exact (Rr 2 i 0 11 (by decide) (by decide) hi).trans (hT i hi).2.1.1.2.2.2.2.1
    · intro i hi; exact (Rr 2 i 0 12 (by decide) (by decide) hi).trans (hT i hi).2.1.1.2.2.2.2.2
    · intro i k hi hk; exact (Rr 3 i 0 k (by decide) (by decide) hi).trans ((hT i hi).2.1.2.1 k hk).1
    · intro i k hi hk; exact (Rr 5 i 0 k (by decide) (by decide) hi).trans ((hT i hi).2.1.2.1 k hk).2
    · intro i u hi hu; exact (Rr 8 i 0 u (by decide) (by decide) hi).trans ((hT i hi).2.1.2.2.1 u hu).1
    · intro i u h; rcases h with ⟨hi, hu⟩ | ⟨e1, e2⟩
      · exact (Rr 9 i u 0 (by decide) (by decide) hi).trans ((hT i hi).2.1.2.2.1 u hu).2.1
      · subst e1; subst e2; (repeat (first | exact am_ur_t rfl rfl | rw [am_ur_n (by simp)]))
    · intro i u h; rcases h with ⟨hi, hu⟩ | ⟨e1, e2⟩
      · exact (Rr 9 i u 2 (by decide) (by decide) hi).trans ((hT i hi).2.1.2.2.1 u hu).2.2
      · subst e1; subst e2; (repeat (first | exact am_ur_t rfl rfl | rw [am_ur_n (by simp)]))
    · intro i hi; exact (Rr 12 i 0 0 (by decide) (by decide) hi).trans (hT i hi).2.1.2.2.2.1.1
    · intro i hi; exact (Rr 14 i 0 0 (by decide) (by decide) hi).trans (hT i hi).2.1.2.2.2.1.2
    · intro k hk; exact (Rn _ _ (by simp) (by simp) (by simp)).trans (hJ.2.2 k hk).2.1
    · intro i hi; exact (Rn _ _ (by simp) (by simp) (by simp)).trans (hJ.2.2 i hi).2.2
    · show am_ur _ _ _ _ _ _ = _; (repeat (first | exact am_ur_t rfl rfl | rw [am_ur_n (by simp)]))
  · refine (hT i hi).c (fun q a b c => ?_)
    obtain ⟨a1, i1, c1⟩ := q
    simp only at a b c
    subst c
    exact ⟨Kr a1 i1 c1 a b hi, fun k => ⟨Rr a1 i1 c1 k a b hi, am_ui_o (fun e => by have := congrArg (fun z : am_N => z.1) e; simp at this; omega)⟩⟩
  · by_cases e : q = (1, 0, 0)
    · subst e
      by_cases e4 : k = 4
      · subst e4; exact am_ui_s _ _ _ _
      · rw [am_ui_n (by simp [e4])]
        exact ((I4.1 (1, 0, 0) (Or.inl (by simp))).2 k).1.trans (h10 k).2
    · rw [am_ui_o e]
      rcases hq with h1 | ⟨h16, h21⟩
      · exact ((I4.1 q (Or.inl (by omega))).2 k).1.trans (h1z q k h1)
      · exact ((I4.1 q (Or.inr (Or.inl (by omega)))).2 k).1.trans ((hF q (by omega) h21).2 k).2
set_option maxRecDepth 20000 in
theorem s_init (l : Launch) {kd : am_kd} {rv : am_rv} {iv : am_iv} (hk1 : kd (1, 0, 0) = some (.inl 11)) (h10 : ∀ k, rv (1, 0, 0) k = none ∧ iv (1, 0, 0) k = 0) (h1z : ∀ (q : am_N) k, q.1 = 1 → iv q k = 0) (hF : ∀ q : am_N, 2 ≤ q.1 → q.1 ≤ 21 → kd q = none ∧ ∀ k, rv q k = none ∧ iv q k = 0) : am_Met l mX11_init (am_rm 5 139 2152) [am_P (1, 0, 0)] kd rv iv (fun v kd' rv' iv' => v = none ∧ siP kd rv iv kd' rv' iv') := by
  refine am_Met.of (by decide) (Nat.le_of_ble_eq_true rfl) rfl ?_
  have hk10 := hk1
  have I0 : siI 0 kd rv iv kd rv iv := ⟨fun q _ => ⟨rfl, fun k => ⟨rfl, fun _ => rfl⟩⟩, fun k _ => rfl, fun j hj => absurd hj (by omega)⟩
  have fr : ∀ q : am_N, 2 ≤ q.1 → q.1 ≤ 15 → 0 ≤ q.2.1 → kd q = none ∧ ∀ k, rv q k = none ∧ iv q k = 0 := fun q a b _ => hF q a (by omega)
  refine A_aload_n (pc := 0) (i := 0) dX11_init_0 rfl rfl ?_
  refine A_objInit (pc := 1) co_X11_3 co_inst co_code (Nat.le_of_ble_eq_true rfl) (Nat.le_of_ble_eq_true rfl) dX11_init_1 ?_
  refine A_aload_n (pc := 4) (i := 0) dX11_init_4 rfl rfl ?_
  refine A_newW (pc := 5) (2, 0, 0) (ci := 4) (r := (RX4, TX4, 13)) (w := 13) rfl rfl cl_X11_9 cz_4 cy_4 (fr (2, 0, 0) (by simp) (by simp) (by simp)).1 (by simp) (fun k => ((fr (2, 0, 0) (by simp) (by simp) (by simp)).2 k).2) (fun k => ((fr (2, 0, 0) (by simp) (by simp) (by simp)).2 k).1) (by decide) (by decide) dX11_init_5 ?_
  refine A_dup (pc := 8) dX11_init_8 rfl ?_
  refine A_callI (pc := 9) ci_X11_11 (s_roomInit l 0 am_uk_s (fr (2, 0, 0) (by simp) (by simp) (by simp)).2 (fun q a b c => ⟨(am_uk_o (fun e => by subst e; simp at a)).trans (fr q (by omega) b (by omega)).1, (fr q (by omega) b (by omega)).2⟩)) rfl rfl (Nat.le_of_ble_eq_true rfl) ⟨(Nat.le_of_ble_eq_true rfl), (Nat.le_of_ble_eq_true rfl)⟩ ⟨by decide, by decide⟩ dX11_init_9 (fun v9 kd0 rv0 iv0 h9 => ?_)
  obtain ⟨e9, h9⟩ := h9
  subst e9
  have hk1 : kd0 (1, 0, 0) = some (.inl 11) := (h9.1 (1, 0, 0) (by simp)).1.trans ((am_uk_o (by simp)).trans hk1)
  refine A_putr (pc := 12) 0 fl_X11_12_11 hk1 rfl (by decide +kernel) dX11_init_12 ?_
  have I1 := I0.step h9
  generalize am_ur rv0 (1, 0, 0) 0 (some (2, 0, 0)) = rw0 at I1 ⊢
  have fr : ∀ q : am_N, 2 ≤ q.1 → q.1 ≤ 15 → 1 ≤ q.2.1 → kd0 q = none ∧ ∀ k, rw0 q k = none ∧ iv0 q k = 0 := fun q a b c => by
    have g := I1.1 q (Or.inr (Or.inr c))
    have g0 := hF q a (by omega)
    exact ⟨g.1.trans g0.1, fun k => ⟨((g.2 k).2 (fun e => by subst e; simp at a)).trans (g0.2 k).1, (g.2 k).1.trans (g0.2 k).2⟩⟩
  refine A_aload_n (pc := 15) (i := 0) dX11_init_15 rfl rfl ?_
  refine A_newW (pc := 16) (2, 1, 0) (ci := 4) (r := (RX4, TX4, 13)) (w := 13) rfl rfl cl_X11_9 cz_4 cy_4 (fr (2, 1, 0) (by simp) (by simp) (by simp)).1 (by simp) (fun k => ((fr (2, 1, 0) (by simp) (by simp) (by simp)).2 k).2) (fun k => ((fr (2, 1, 0) (by simp) (by simp) (by simp)).2 k).1) (by decide) (by decide) dX11_init_16 ?_
  refine A_dup (pc := 19) dX11_init_19 rfl ?_
  refine A_callI (pc := 20) ci_X11_11 (s_roomInit l 1 am_uk_s (fr (2, 1, 0) (by simp) (by simp) (by simp)).2 (fun q a b c => ⟨(am_uk_o (fun e => by subst e; simp at a)).trans (fr q (by omega) b (by omega)).1, (fr q (by omega) b (by omega)).2⟩)) rfl rfl (Nat.le_of_ble_eq_true rfl) ⟨(Nat.le_of_ble_eq_true rfl), (Nat.le_of_ble_eq_true rfl)⟩ ⟨by decide, by decide⟩ dX11_init_20 (fun v9 kd1 rv1 iv1 h9 => ?_)
  obtain ⟨e9, h9⟩ := h9
  subst e9
  have hk1 : kd1 (1, 0, 0) = some (.inl 11) := (h9.1 (1, 0, 0) (by simp)).1.trans ((am_uk_o (by simp)).trans hk1)
  refine A_putr (pc := 23) 1 fl_X11_16_11 hk1 rfl (by decide +kernel) dX11_init_23 ?_
  have I2 := I1.step h9
  generalize am_ur rv1 (1, 0, 0) 1 (some (2, 1, 0)) = rw1 at I2 ⊢
  have fr : ∀ q : am_N, 2 ≤ q.1 → q.1 ≤ 15 → 2 ≤ q.2.1 → kd1 q = none ∧ ∀ k, rw1 q k = none ∧ iv1 q k = 0 := fun q a b c => by
    have g := I2.1 q (Or.inr (Or.inr c))
    have g0 := hF q a (by omega)
    exact ⟨g.1.trans g0.1, fun k => ⟨((g.2 k).2 (fun e => by subst e; simp at a)).trans (g0.2 k).1, (g.2 k).1.trans (g0.2 k).2⟩⟩
  refine A_aload_n (pc := 26) (i := 0) dX11_init_26 rfl rfl ?_
  refine A_newW (pc := 27) (2, 2, 0) (ci := 4) (r := (RX4, TX4, 13)) (w := 13) rfl rfl cl_X11_9 cz_4 cy_4 (fr (2, 2, 0) (by simp) (by simp) (by simp)).1 (by simp) (fun k => ((fr (2, 2, 0) (by simp) (by simp) (by simp)).2 k).2) (fun k => ((fr (2, 2, 0) (by simp) (by simp) (by simp)).2 k).1) (by decide) (by decide) dX11_init_27 ?_
  refine A_dup (pc := 30) dX11_init_30 rfl ?_
  refine A_callI (pc := 31) ci_X11_11 (s_roomInit l 2 am_uk_s (fr (2, 2, 0) (by simp) (by simp) (by simp)).2 (fun q a b c => ⟨(am_uk_o (fun e => by subst e; simp at a)).trans (fr q (by omega) b (by omega)).1, (fr q (by omega) b (by omega)).2⟩)) rfl rfl (Nat.le_of_ble_eq_true rfl) ⟨(Nat.le_of_ble_eq_true rfl), (Nat.le_of_ble_eq_true rfl)⟩ ⟨by decide, by decide⟩ dX11_init_31 (fun v9 kd2 rv2 iv2 h9 => ?_)
  obtain ⟨e9, h9⟩ := h9
  subst e9
  have hk1 : kd2 (1, 0, 0) = some (.inl 11) := (h9.1 (1, 0, 0) (by simp)).1.trans ((am_uk_o (by simp)).trans hk1)
  refine A_putr (pc := 34) 2 fl_X11_19_11 hk1 rfl (by decide +kernel) dX11_init_34 ?_
  have I3 := I2.step h9
  generalize am_ur rv2 (1, 0, 0) 2 (some (2, 2, 0)) = rw2 at I3 ⊢
  have fr : ∀ q : am_N, 2 ≤ q.1 → q.1 ≤ 15 → 3 ≤ q.2.1 → kd2 q = none ∧ ∀ k, rw2 q k = none ∧ iv2 q k = 0 := fun q a b c => by
    have g := I3.1 q (Or.inr (Or.inr c))
    have g0 := hF q a (by omega)
    exact ⟨g.1.trans g0.1, fun k => ⟨((g.2 k).2 (fun e => by subst e; simp at a)).trans (g0.2 k).1, (g.2 k).1.trans (g0.2 k).2⟩⟩
  refine A_aload_n (pc := 37) (i := 0) dX11_init_37 rfl rfl ?_
  refine A_newW (pc := 38) (2, 3, 0) (ci := 4) (r := (RX4, TX4, 13)) (w := 13) rfl rfl cl_X11_9 cz_4 cy_4 (fr (2, 3, 0) (by simp) (by simp) (by simp)).1 (by simp) (fun k => ((fr (2, 3, 0) (by simp) (by simp) (by simp)).2 k).2) (fun k => ((fr (2, 3, 0) (by simp) (by simp) (by simp)).2 k).1) (by decide) (by decide) dX11_init_38 ?_
  refine A_dup (pc := 41) dX11_init_41 rfl ?_
  refine A_callI (pc := 42) ci_X11_11 (s_roomInit l 3 am_uk_s (fr (2, 3, 0) (by simp) (by simp) (by simp)).2 (fun q a b c => ⟨(am_uk_o (fun e => by subst e; simp at a)).trans (fr q (by omega) b (by omega)).1, (fr q (by omega) b (by omega)).2⟩)) rfl rfl (Nat.le_of_ble_eq_true rfl) ⟨(Nat.le_of_ble_eq_true rfl), (Nat.le_of_ble_eq_true rfl)⟩ ⟨by decide, by decide⟩ dX11_init_42 (fun v9 kd3 rv3 iv3 h9 => ?_)
  obtain ⟨e9, h9⟩ := h9
  subst e9
  have hk1 : kd3 (1, 0, 0) = some (.inl 11) := (h9.1 (1, 0, 0) (by simp)).1.trans ((am_uk_o (by simp)).trans hk1)
  refine A_putr (pc := 45) 3 fl_X11_22_11 hk1 rfl (by decide +kernel) dX11_init_45 ?_
  have I4 := I3.step h9
  generalize am_ur rv3 (1, 0, 0) 3 (some (2, 3, 0)) = rw3 at I4 ⊢
  have fr : ∀ q : am_N, 2 ≤ q.1 → q.1 ≤ 15 → 4 ≤ q.2.1 → kd3 q = none ∧ ∀ k, rw3 q k = none ∧ iv3 q k = 0 := fun q a b c => by
    have g := I4.1 q (Or.inr (Or.inr c))
    have g0 := hF q a (by omega)
    exact ⟨g.1.trans g0.1, fun k => ⟨((g.2 k).2 (fun e => by subst e; simp at a)).trans (g0.2 k).1, (g.2 k).1.trans (g0.2 k).2⟩⟩
  have hi : ∀ q : am_N, 16 ≤ q.1 → q.1 ≤ 21 → kd3 q = none ∧ ∀ k, rw3 q k = none ∧ iv3 q k = 0 := fun q a b => by
    have g := I4.1 q (Or.inr (Or.inl (by omega)))
    have g0 := hF q (by omega) b
    exact ⟨g.1.trans g0.1, fun k => ⟨((g.2 k).2 (fun e => by subst e; simp at a)).trans (g0.2 k).1, (g.2 k).1.trans (g0.2 k).2⟩⟩
  refine A_aload_n (pc := 48) (i := 0) dX11_init_48 rfl rfl ?_
  refine A_iconst (pc := 49) (0) dX11_init_49 (by decide) ?_
  refine A_puti (pc := 50) 4 fl_X11_25_11 hk1 rfl (by decide +kernel) rfl rfl dX11_init_50 ?_
  refine A_aload_n (pc := 53) (i := 0) dX11_init_53 rfl rfl ?_
  refine A_iconst (pc := 54) (4) dX11_init_54 (by decide) ?_
  refine A_anew (pc := 55) (16, 0, 0) (t := 4) (z := 4) (C0 := RX5) (by decide) rfl (by simp) cl_X11_29 (hi (16, 0, 0) (by simp) (by simp)).1 (by simp) (fun k => ((hi (16, 0, 0) (by simp) (by simp)).2 k).1) (by decide) (by decide) (by decide) (by decide) (by decide) dX11_init_55 ?_
  refine A_putr (pc := 58) 5 fl_X11_31_11 hk1 rfl (by decide +kernel) dX11_init_58 ?_
  refine A_iconst (pc := 61) (0) dX11_init_61 (by decide) ?_
  refine A_ist1 (pc := 62) dX11_init_62 (Nat.le_of_ble_eq_true rfl) rfl ?_
  refine A_cu (cu' := 125 + 2 * 0) (su' := 1824 + 43 * 0) rfl rfl ?_
  refine st_loop l (by (repeat rw [am_uk_o (by simp)]); exact hk1) (by (repeat (first | exact am_ur_t rfl rfl | rw [am_ur_n (by simp)]))) (by (repeat (first | exact am_uk_t rfl | rw [am_uk_o (by simp)]))) (fun r => ⟨⟨(am_uk_o (by simp)).trans (hi _ (by simp) (by simp)).1, (am_uk_o (by simp)).trans (hi _ (by simp) (by simp)).1⟩, fun k => ⟨⟨(am_ur_o (by simp)).trans ((hi _ (by simp) (by simp)).2 k).1, (am_ur_o (by simp)).trans ((hi _ (by simp) (by simp)).2 k).1⟩, (am_ui_o (by simp)).trans ((hi _ (by simp) (by simp)).2 k).2, (am_ui_o (by simp)).trans ((hi _ (by simp) (by simp)).2 k).2⟩⟩) 4 0 _ _ ⟨fun q _ => rfl, fun q k _ => rfl, fun r hr => absurd hr (by omega)⟩ rfl (fun kd4 rv4 hJ => ?_)
  have hk1 : kd4 (1, 0, 0) = some (.inl 11) := (hJ.1 _ (Or.inl ⟨by simp, by simp⟩)).trans ((am_uk_o (by simp)).trans hk1)
  have lo : ∀ q : am_N, q.1 < 16 → kd4 q = kd3 q ∧ (q ≠ (1, 0, 0) → ∀ k, rv4 q k = rw3 q k) := fun q a => by
    have n1 : q ≠ (16, 0, 0) := fun e => by subst e; simp at a
    refine ⟨(hJ.1 q (Or.inl ⟨by omega, by omega⟩)).trans (am_uk_o n1), fun n0 k => ?_⟩
    rw [hJ.2.1 q k (Or.inl ⟨by omega, n1⟩), am_ur_o n0]
  have w1 : ∀ k, k ≠ 5 → rv4 (1, 0, 0) k = rw3 (1, 0, 0) k := fun k hk => by
    rw [hJ.2.1 (1, 0, 0) k (Or.inl ⟨by simp, by simp⟩), am_ur_n (by simp [hk])]
  have w15 : rv4 (1, 0, 0) 5 = some (16, 0, 0) := (hJ.2.1 (1, 0, 0) 5 (Or.inl ⟨by simp, by simp⟩)).trans am_ur_s
  have k16 : kd4 (16, 0, 0) = some (.inr (4, 4)) := (hJ.1 (16, 0, 0) (Or.inl ⟨by simp, by simp⟩)).trans am_uk_s
  have fh : ∀ q : am_N, 19 ≤ q.1 → q.1 ≤ 21 → kd4 q = none ∧ ∀ k, rv4 q k = none ∧ iv3 q k = 0 := fun q a b => by
    have g := hi q (by omega) b
    have n1 : q ≠ (16, 0, 0) := fun e => by subst e; simp at a
    exact ⟨(hJ.1 q (Or.inl ⟨by omega, by omega⟩)).trans ((am_uk_o n1).trans g.1), fun k => ⟨(hJ.2.1 q k (Or.inl ⟨by omega, n1⟩)).trans ((am_ur_o (fun e => by subst e; simp at a)).trans (g.2 k).1), (g.2 k).2⟩⟩
  have ft : ∀ q : am_N, 9 ≤ q.1 → q.1 ≤ 11 → q.2.1 = 4 → kd4 q = none ∧ ∀ k, rv4 q k = none ∧ iv3 q k = 0 := fun q a b c => by
    have g := fr q (by omega) (by omega) (by omega)
    have z := lo q (by omega)
    exact ⟨z.1.trans g.1, fun k => ⟨(z.2 (fun e => by subst e; simp at a) k).trans (g.2 k).1, (g.2 k).2⟩⟩
  refine A_aload_n (pc := 89) (i := 0) dX11_init_89 rfl rfl ?_
  refine A_newW (pc := 90) (19, 0, 0) (ci := 5) (r := (RX5, TX5, 3)) (w := 3) rfl rfl cl_X11_29 cz_5 cy_5 (by (repeat rw [am_uk_o (by simp)]); exact (fh (19, 0, 0) (by simp) (by simp)).1) (by simp) (fun k => by (repeat rw [am_ui_o (by simp)]); exact ((fh (19, 0, 0) (by simp) (by simp)).2 k).2) (fun k => by (repeat rw [am_ur_o (by simp)]); exact ((fh (19, 0, 0) (by simp) (by simp)).2 k).1) (by decide) (by decide) dX11_init_90 ?_
  refine A_dup (pc := 93) dX11_init_93 rfl ?_
  refine A_bipush (pc := 94) (40) dX11_init_94 (by decide) ?_
  refine A_callIc (pc := 96) ci_X11_35 (s_rowInit l (19, 0, 0) (20, 0, 0) am_uk_s (by simp) (by (repeat rw [am_uk_o (by simp)]); exact (fh (20, 0, 0) (by simp) (by simp)).1) (by simp) (fun k => by (repeat rw [am_ui_o (by simp)]); exact ((fh (20, 0, 0) (by simp) (by simp)).2 k).2) (fun k => by (repeat rw [am_ur_o (by simp)]); exact ((fh (20, 0, 0) (by simp) (by simp)).2 k).1) 40 (by decide)) rfl rfl (Nat.le_of_ble_eq_true rfl) ⟨(Nat.le_of_ble_eq_true rfl), (Nat.le_of_ble_eq_true rfl)⟩ ⟨by decide, by decide⟩ dX11_init_96 ?_
  refine A_putr (pc := 99) 6 fl_X11_38_11 (by (repeat rw [am_uk_o (by simp)]); exact hk1) rfl (by decide +kernel) dX11_init_99 ?_
  refine A_aload_n (pc := 102) (i := 0) dX11_init_102 rfl rfl ?_
  refine A_newW (pc := 103) (9, 4, 0) (ci := 7) (r := (RX7, TX7, 7)) (w := 7) rfl rfl cl_X11_42 cz_7 cy_7 (by (repeat rw [am_uk_o (by simp)]); exact (ft (9, 4, 0) (by simp) (by simp) rfl).1) (by simp) (fun k => by (repeat rw [am_ui_o (by simp)]); exact ((ft (9, 4, 0) (by simp) (by simp) rfl).2 k).2) (fun k => by (repeat rw [am_ur_o (by simp)]); exact ((ft (9, 4, 0) (by simp) (by simp) rfl).2 k).1) (by decide) (by decide) dX11_init_103 ?_
  refine A_dup (pc := 106) dX11_init_106 rfl ?_
  refine A_callIc (pc := 107) ci_X11_44 (s_textInit l 4 0 am_uk_s (by (repeat rw [am_uk_o (by simp)]); exact (ft (10, 4, 0) (by simp) (by simp) rfl).1) (fun k => by (repeat rw [am_ui_o (by simp)]); exact ((ft (10, 4, 0) (by simp) (by simp) rfl).2 k).2) (fun k => by (repeat rw [am_ur_o (by simp)]); exact ((ft (10, 4, 0) (by simp) (by simp) rfl).2 k).1) (by (repeat rw [am_uk_o (by simp)]); exact (ft (11, 4, 0) (by simp) (by simp) rfl).1) (fun k => by (repeat rw [am_ui_o (by simp)]); exact ((ft (11, 4, 0) (by simp) (by simp) rfl).2 k).2) (fun k => by (repeat rw [am_ur_o (by simp)]); exact ((ft (11, 4, 0) (by simp) (by simp) rfl).2 k).1)) rfl rfl (Nat.le_of_ble_eq_true rfl) ⟨(Nat.le_of_ble_eq_true rfl), (Nat.le_of_ble_eq_true rfl)⟩ ⟨by decide, by decide⟩ dX11_init_107 ?_
  refine A_putr (pc := 110) 7 fl_X11_45_11 (by (repeat rw [am_uk_o (by simp)]); exact hk1) rfl (by decide +kernel) dX11_init_110 ?_
  refine A_aload_n (pc := 113) (i := 0) dX11_init_113 rfl rfl ?_
  refine A_bipush (pc := 114) (6) dX11_init_114 (by decide) ?_
  refine A_newa (pc := 116) (21, 0, 0) (z := 6) co_arri (by (repeat rw [am_uk_o (by simp)]); exact (fh (21, 0, 0) (by simp) (by simp)).1) (by decide) (fun k => by (repeat rw [am_ui_o (by simp)]); exact ((fh (21, 0, 0) (by simp) (by simp)).2 k).2) (fun k => by (repeat rw [am_ur_o (by simp)]); exact ((fh (21, 0, 0) (by simp) (by simp)).2 k).1) (by decide) (by decide) (by decide) (by decide) (by decide) dX11_init_116 ?_
  refine A_putr (pc := 118) 8 fl_X11_49_11 (by (repeat rw [am_uk_o (by simp)]); exact hk1) rfl (by decide +kernel) dX11_init_118 ?_
  refine A_vret (pc := 121) dX11_init_121 rfl (by decide) (by decide) ⟨rfl, ?_⟩
  exact si_end hF h10 h1z I4 hJ hk1 w1 w15 k16 lo
