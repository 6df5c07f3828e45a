/-- rooms 1 and 2 of the class alone changed; rows 1 and 2 of the reference and what it works with -/
def chT (w w' : am_iv) : Prop := ∀ q k, (¬ inR 1 q ∧ ¬ inR 2 q) ∨ ((q.1 = 4 ∨ q.1 = 6) ∧ k = 0) → w' q k = w q k
def chV (u u' : am_iv) : Prop := ∀ q k, q ≠ (31, 1, 0) → q ≠ (31, 2, 0) → q ≠ (31, 3, 0) → q ≠ (31, 13, 0) → ¬ (q = (30, 0, 0) ∧ 7 ≤ k ∧ k ≤ 12) → u' q k = u q k
theorem chT.rf (w : am_iv) : chT w w := fun _ _ _ => rfl
theorem chT.tr {a b c : am_iv} (h1 : chT a b) (h2 : chT b c) : chT a c := fun q k h => (h2 q k h).trans (h1 q k h)
theorem chV.rf (w : am_iv) : chV w w := fun _ _ _ _ _ _ _ => rfl
theorem chV.tr {a b c : am_iv} (h1 : chV a b) (h2 : chV b c) : chV a c := fun q k n1 n2 n3 n4 n5 => (h2 q k n1 n2 n3 n4 n5).trans (h1 q k n1 n2 n3 n4 n5)
theorem chg.T {i : Nat} (hi : i = 1 ∨ i = 2) {w w' : am_iv} (h : chg i w w') : chT w w' := fun q k z => h q k (by
  rcases z with ⟨z1, z2⟩ | z
  · left
    rcases hi with rfl | rfl
    · exact z1
    · exact z2
  · exact Or.inr z)
theorem chg.T1 {w w' : am_iv} (h : chg 1 w w') : chT w w' := h.T (Or.inl rfl)
theorem chU.V {a : Nat} (ha : a = 1 ∨ a = 2) {w w' : am_iv} (h : chU a w w') : chV w w' := fun q k n1 n2 n3 n4 n5 => h q k (by
  rcases ha with rfl | rfl
  · exact n1
  · exact n2) n3 n4 n5
theorem chU.V1 {w w' : am_iv} (h : chU 1 w w') : chV w w' := h.V (Or.inl rfl)
theorem chT.u {w w' : am_iv} (h : chT w w') {q : am_N} {k : Nat} (hq : uN q) : w' q k = w q k := h q k (Or.inl ⟨fun e => by unfold uN at hq; have := e.2.1; omega, fun e => by unfold uN at hq; have := e.2.1; omega⟩)
theorem chV.c {w w' : am_iv} (h : chV w w') {q : am_N} {k : Nat} (hq : cN q) : w' q k = w q k := h q k (fun e => by subst e; unfold cN at hq; simp at hq) (fun e => by subst e; unfold cN at hq; simp at hq) (fun e => by subst e; unfold cN at hq; simp at hq) (fun e => by subst e; unfold cN at hq; simp at hq) (fun e => by have e1 := e.1; subst e1; unfold cN at hq; simp at hq)
theorem chV.d {u u' : am_iv} (h : chV u u') {q : am_N} {k : Nat} (z : dU q k ∨ q = (31, 4, 0) ∨ q = (31, 0, 0)) : u' q k = u q k := by
  have z1 : (dU q k ∨ q = (31, 4, 0)) ∨ q = (31, 0, 0) := by rcases z with z | z | z <;> simp [z]
  rcases z1 with z | z
  · have n := dU_ne z
    refine h q k n.2.1 n.2.2.1 n.2.2.2.1 n.2.2.2.2.1 (fun e => ?_)
    obtain ⟨e1, e2⟩ := e
    subst e1
    unfold dU at z
    simp at z
    omega
  · subst z
    exact h _ _ (by simp) (by simp) (by simp) (by simp) (by simp)
theorem chV.r0 {u u' : am_iv} (h : chV u u') (k : Nat) : u' (31, 0, 0) k = u (31, 0, 0) k := h.d (Or.inr (Or.inr rfl))
theorem REL.chTV {kd : am_kd} {rv : am_rv} {w u w' u' : am_iv} (h : REL kd rv w u) (hw : chT w w') (hu : chV u u') : REL kd rv w' u' := by
  refine h.congr (fun q k z => hw q k ?_) (fun q k z => hu.d z)
  rcases z with z | z | z | z
  · left; constructor <;> (intro e; unfold dG at z; have := e.2.1; have := e.1; omega)
  · left; constructor <;> (intro e; unfold dR at z; have e1 := e.2.2; have e2 := e.2.1; rcases z with z | z <;> omega)
  · left; constructor <;> (intro e; unfold dR at z; have e1 := e.2.2; have e2 := e.2.1; rcases z with z | z <;> omega)
  · exact Or.inr z
/-- the same answer, and nothing else that matters changed, or the same error counted -/
def same1 (w u : am_iv) (C D : Int32 × am_iv) : Prop := C.1 = D.1 ∧ ∃ w' u', chT w w' ∧ chV u u' ∧ ((C.2 = w' ∧ D.2 = u') ∨ ∃ j, j < 6 ∧ C.2 = er_heap j w' ∧ D.2 = rx_find j u')
theorem same1.ok {w u w' u' : am_iv} {a b : Int32} (e : a = b) (hw : chT w w') (hu : chV u u') : same1 w u (a, w') (b, u') := ⟨e, w', u', hw, hu, Or.inl ⟨rfl, rfl⟩⟩
theorem same1.err {w u w' u' : am_iv} (a : Int32) (j : Nat) (hj : j < 6) (hw : chT w w') (hu : chV u u') : same1 w u (a, er_heap j w') (a, rx_find j u') := ⟨rfl, w', u', hw, hu, Or.inr ⟨j, hj, rfl, rfl⟩⟩
theorem same1.st {w u w' u' : am_iv} {C D : Int32 × am_iv} (hw : chT w w') (hu : chV u u') (h : same1 w' u' C D) : same1 w u C D := by
  obtain ⟨e, w2, u2, h1, h2, h3⟩ := h
  exact ⟨e, w2, u2, hw.tr h1, hu.tr h2, h3⟩
def SM (kd : am_kd) (rv : am_rv) (iv u : am_iv) (C : Int32 × am_rv × am_iv) (D : Int32 × am_iv) : Prop := C.1 = D.1 ∧ REL kd C.2.1 C.2.2 D.2 ∧ (∀ q k, uN q → C.2.2 q k = iv q k) ∧ ∀ q k, cN q → D.2 q k = u q k
theorem SM.err {kd : am_kd} {rv : am_rv} {iv u : am_iv} (h : REL kd rv iv u) (a : Int32) (j : Nat) (hj : j < 6) : SM kd rv iv u (a, rv, er_heap j iv) (a, rx_find j u) := ⟨rfl, h.err j hj, fun _ _ hq => er_u hq, fun _ _ hq => rx_c hq⟩
theorem SM.of {kd : am_kd} {rv : am_rv} {iv u : am_iv} (h : REL kd rv iv u) {C D : Int32 × am_iv} (hs : same1 iv u C D) : SM kd rv iv u (C.1, lw_cp 1 0 rv 6, C.2) D := by
  obtain ⟨e, w', u', hw, hu, h3⟩ := hs
  have hR := (h.cp (i := 1) (o := 0) (Or.inl rfl) (by decide)).chTV hw hu
  rcases h3 with ⟨e1, e2⟩ | ⟨j, hj, e1, e2⟩
  · refine ⟨e, ?_, fun q k hq => ?_, fun q k hq => ?_⟩
    · show REL kd (lw_cp 1 0 rv 6) C.2 D.2
      rw [e1, e2]; exact hR
    · show C.2 q k = _
      rw [e1]; exact hw.u hq
    · rw [e2]; exact hu.c hq
  · refine ⟨e, ?_, fun q k hq => ?_, fun q k hq => ?_⟩
    · show REL kd (lw_cp 1 0 rv 6) C.2 D.2
      rw [e1, e2]; exact hR.err j hj
    · show C.2 q k = _
      rw [e1, er_u hq]; exact hw.u hq
    · rw [e2, rx_c hq]; exact hu.c hq
theorem CALL.fs {l : Launch} {kd : am_kd} {rv : am_rv} {iv : am_iv} {mc mr : am_M} {args : List am_V} {d1 d2 : Nat} (h : REL kd rv iv iv) (C : Int32 × am_rv × am_iv) (R : am_iv → Int32 × am_iv) (hc : am_Met l mc (am_rm d1 0 0) (am_P (1, 0, 0) :: args) kd rv iv (am_ret (some (am_I C.1)) kd C.2.1 C.2.2)) (hr : shr kd C.2.1 → REL kd rv iv C.2.2 → (∀ q k, uN q → C.2.2 q k = iv q k) → am_Met l mr (am_rm d2 0 0) (am_P (30, 0, 0) :: args) kd C.2.1 C.2.2 (am_ret (some (am_I (R C.2.2).1)) kd C.2.1 (R C.2.2).2)) (b1 : d1 ≤ 60) (b2 : d2 ≤ 60) (hp : ∀ u, REL kd rv iv u → (∀ q k, uN q → u q k = iv q k) → SM kd rv iv u C (R u)) : CALL l kd rv iv mc mr args := by
  have fc := (hp iv h (fun _ _ _ => rfl)).2.2.1
  have h1 : REL kd rv iv C.2.2 := h.same (fun _ _ _ => rfl) fc
  obtain ⟨e, h2, -, h4⟩ := hp _ h1 fc
  exact CALL.of hc (hr h2.R h1 fc) b1 b2 e h2 h4
theorem s_tk1 (l : Launch) {kd : am_kd} {rv : am_rv} {iv w : am_iv} (hS : sh kd rv) {a n nl z : Nat} {ln : Nat → am_N} {lk : Nat → Nat} (hl : rm_laws kd rv iv 1 nl ln lk) (hq : tQ a n nl z ln lk w) : am_Met l mX4_tick (am_rm 6 0 0) [am_P (2, 1, 0)] kd rv w (am_ret none kd rv (rm_tick 1 n z nl ln lk w)) := by
  obtain ⟨h1, h2, h3, h4, h5, h6⟩ := tQ.cls w hq
  exact s_tick l hS 1 (by decide) nl ln lk ⟨h5, hl.2⟩ n h1 h2 z h3 h4 h6
noncomputable def kn (T : am_iv → am_iv) (n : am_N) (t : Int32) : Nat → am_iv → Int32 × am_iv
  | 0, w => (-1000000002, er_heap 2 w)
  | d + 1, w => if w n 7 = 0 then (-1000000002, er_heap 2 w) else if w n 1 < t then kn T n t d (T w) else (sr_q (w n 4 * 100) (w n 5), w)
noncomputable def kr (T : am_iv → am_iv) (m : am_N) (r : Nat) (t : Int32) : Nat → am_iv → Int32 × am_iv
  | 0, u => (-1000000002, rx_find 2 u)
  | d + 1, u => if sr_b (rf u m r 7 = 1) = 0 then kr T m r t d (T u) else if rf u m r 1 < t then kr T m r t d (T u) else (rf u m r 4 * 100 / rf u m r 5, u)
set_option maxRecDepth 20000 in
theorem kn_loop (l : Launch) {kd : am_kd} {rv : am_rv} {iv : am_iv} (hS : sh kd rv) (n nl z1 : Nat) (ln : Nat → am_N) (lk : Nat → Nat) (hl : rm_laws kd rv iv 1 nl ln lk) (y t : Int32) (r : Nat) (hr : r < 8) (N : Nat) (hN : N < 1000) (d : Nat) : ∀ (w : am_iv), tQ 1 n nl z1 ln lk w → d ≤ N + 1 → am_W l mX11_knock (am_rm 8 0 0) (am_ret (some (am_I (kn (rm_tick 1 n z1 nl ln lk) (4, 1, r) t d w).1)) kd rv (kn (rm_tick 1 n z1 nl ln lk) (4, 1, r) t d w).2) 61 [some (am_P (1, 0, 0)), some (am_I (nI N)), some (am_I y), some (am_I t), some (am_P (4, 1, r)), some (am_I (nI (N + 1 - d)))] [] kd rv w 0 0 := by
  induction d with
  | zero =>
    intro w hq hd
    refine A_iload (pc := 61) (i := 5) dX11_knock_61 rfl ?_
    refine A_iload_n (pc := 63) (i := 1) dX11_knock_63 rfl rfl ?_
    refine A_icmpgt (pc := 64) 114 dX11_knock_64 (by decide) (fun hb64 => ?_) (fun hb64 => ?_)
    · refine A_aload_n (pc := 114) (i := 0) dX11_knock_114 rfl rfl ?_
      refine A_ldc (pc := 115) (List.mem_cons_of_mem _ kc_X11_210) dX11_knock_115 ?_
      refine A_callV1 (pc := 117) cv_X11_61 (s_err2 l hS) hS.k1 rfl rfl rfl rfl (Nat.le_of_ble_eq_true rfl) ⟨(Nat.le_of_ble_eq_true rfl), (Nat.le_of_ble_eq_true rfl)⟩ ⟨Nat.zero_le _, Nat.zero_le _⟩ dX11_knock_117 ?_
      exact A_iretE (pc := 120) dX11_knock_120 rfl (Nat.zero_le _) (Nat.zero_le _) ((rfl)) ((rfl))
    · exact absurd ((nI_ltn (by omega) (by omega)).mpr (by omega)) hb64
  | succ d ih =>
    intro w hq hd
    refine A_iload (pc := 61) (i := 5) dX11_knock_61 rfl ?_
    refine A_iload_n (pc := 63) (i := 1) dX11_knock_63 rfl rfl ?_
    refine A_icmpgt (pc := 64) 114 dX11_knock_64 (by decide) (fun hb64 => ?_) (fun hb64 => ?_)
    · exact absurd ((nI_ltn (by omega) (by omega)).mp hb64) (by omega)
    · refine A_aload (pc := 67) (i := 4) dX11_knock_67 rfl ?_
      refine A_geti (pc := 69) 7 fl_X11_87_3 (hS.k4 (by decide) hr) rfl dX11_knock_69 ?_
      refine A_ifeq (pc := 72) 114 dX11_knock_72 (by decide) (fun hb72 => ?_) (fun hb72 => ?_)
      · refine A_aload_n (pc := 114) (i := 0) dX11_knock_114 rfl rfl ?_
        refine A_ldc (pc := 115) (List.mem_cons_of_mem _ kc_X11_210) dX11_knock_115 ?_
        refine A_callV1 (pc := 117) cv_X11_61 (s_err2 l hS) hS.k1 rfl rfl rfl rfl (Nat.le_of_ble_eq_true rfl) ⟨(Nat.le_of_ble_eq_true rfl), (Nat.le_of_ble_eq_true rfl)⟩ ⟨Nat.zero_le _, Nat.zero_le _⟩ dX11_knock_117 ?_
        rw [kn, if_pos hb72]
        exact A_iretE (pc := 120) dX11_knock_120 rfl (Nat.zero_le _) (Nat.zero_le _) ((rfl)) ((rfl))
      · refine A_aload (pc := 75) (i := 4) dX11_knock_75 rfl ?_
        refine A_geti (pc := 77) 1 fl_X11_229_3 (hS.k4 (by decide) hr) rfl dX11_knock_77 ?_
        refine A_iload_n (pc := 80) (i := 3) dX11_knock_80 rfl rfl ?_
        refine A_icmplt (pc := 81) 101 dX11_knock_81 (by decide) (fun hb81 => ?_) (fun hb81 => ?_)
        · refine A_aload_n (pc := 101) (i := 0) dX11_knock_101 rfl rfl ?_
          refine A_getr (pc := 102) 1 fl_X11_16_11 hS.k1 rfl (hS.w1 (k := 1) (by decide)) dX11_knock_102 ?_
          refine A_callV0 (pc := 105) cv_X11_241 (s_tk1 l hS hl hq) (hS.k2 (by decide)) rfl rfl rfl rfl (Nat.le_of_ble_eq_true rfl) ⟨(Nat.le_of_ble_eq_true rfl), (Nat.le_of_ble_eq_true rfl)⟩ ⟨Nat.zero_le _, Nat.zero_le _⟩ dX11_knock_105 ?_
          refine A_inc5 (pc := 108) (nI (N + 1 - d)) dX11_knock_108 (nI_sub1 hd) (Nat.le_of_ble_eq_true rfl) rfl ?_
          refine A_goto (pc := 111) 61 dX11_knock_111 (by decide) ?_
          rw [kn, if_neg hb72, if_pos hb81]
          exact ih _ (tQ.tick (by decide) _ hq) (by omega)
        · refine A_aload (pc := 84) (i := 4) dX11_knock_84 rfl ?_
          refine A_geti (pc := 86) 4 fl_X11_232_3 (hS.k4 (by decide) hr) rfl dX11_knock_86 ?_
          refine A_bipush (pc := 89) (100) dX11_knock_89 (by decide) ?_
          refine A_imul (pc := 91) dX11_knock_91 ?_
          refine A_aload (pc := 92) (i := 4) dX11_knock_92 rfl ?_
          refine A_geti (pc := 94) 5 fl_X11_235_3 (hS.k4 (by decide) hr) rfl dX11_knock_94 ?_
          refine A_callS1 (pc := 97) cs_X11_238 (s_quotient l _ _) rfl rfl (Nat.le_of_ble_eq_true rfl) ⟨(Nat.le_of_ble_eq_true rfl), (Nat.le_of_ble_eq_true rfl)⟩ ⟨Nat.zero_le _, Nat.zero_le _⟩ dX11_knock_97 ?_
          rw [kn, if_neg hb72, if_neg hb81]
          exact A_iretE (pc := 100) dX11_knock_100 rfl (Nat.zero_le _) (Nat.zero_le _) ((rfl)) ((rfl))
noncomputable def c_knock (x y t : Int32) (n nl z0 z1 zt zw : Nat) (ln : Nat → am_N) (lk : Nat → Nat) (rv : am_rv) (iv : am_iv) : Int32 × am_rv × am_iv := if sr_b (0 ≤ x ∧ x ≤ 60) = 0 then (-1000000001, rv, er_heap 1 iv) else if sr_b (0 ≤ y ∧ y < iv (2, 0, 0) 1) = 0 then (-1000000001, rv, er_heap 1 iv) else if sr_b (-99999 ≤ t ∧ t ≤ 99999) = 0 then (-1000000001, rv, er_heap 1 iv) else ((kn (rm_tick 1 n z1 nl ln lk) (4, 1, y.toNatClampNeg) t (x.toNatClampNeg + 1) (rb_heap 1 0 n z0 z1 zt zw iv)).1, (lw_cp 1 0 rv 6), (kn (rm_tick 1 n z1 nl ln lk) (4, 1, y.toNatClampNeg) t (x.toNatClampNeg + 1) (rb_heap 1 0 n z0 z1 zt zw iv)).2)
set_option maxRecDepth 20000 in
theorem p_knock (l : Launch) {kd : am_kd} {rv : am_rv} {iv : am_iv} (hS : sh kd rv) (x y t : Int32) (n nl z0 z1 zt zw : Nat) (ln : Nat → am_N) (lk : Nat → Nat) (hA : AH kd rv n z0 z1 zt zw iv) (hl : rm_laws kd (lw_cp 1 0 rv 6) (rb_heap 1 0 n z0 z1 zt zw iv) 1 nl ln lk) (hq : tQ 1 n nl z1 ln lk (rb_heap 1 0 n z0 z1 zt zw iv)) : am_Met l mX11_knock (am_rm 8 0 0) [am_P (1, 0, 0), am_I x, am_I y, am_I t] kd rv iv (am_ret (some (am_I (c_knock x y t n nl z0 z1 zt zw ln lk rv iv).1)) kd (c_knock x y t n nl z0 z1 zt zw ln lk rv iv).2.1 (c_knock x y t n nl z0 z1 zt zw ln lk rv iv).2.2) := by
  refine am_Met.of (by decide) (Nat.le_of_ble_eq_true rfl) rfl ?_
  have hn := hA.1.1
  have hn8 := hA.1.2.1
  refine A_iload_n (pc := 0) (i := 1) dX11_knock_0 rfl rfl ?_
  refine A_callS1 (pc := 1) cs_X11_211 (s_isAhead l _) rfl rfl (Nat.le_of_ble_eq_true rfl) ⟨(Nat.le_of_ble_eq_true rfl), (Nat.le_of_ble_eq_true rfl)⟩ ⟨Nat.zero_le _, Nat.zero_le _⟩ dX11_knock_1 ?_
  refine A_ifeq (pc := 4) 29 dX11_knock_4 (by decide) (fun hb4 => ?_) (fun hb4 => ?_)
  · refine A_aload_n (pc := 29) (i := 0) dX11_knock_29 rfl rfl ?_
    refine A_ldc (pc := 30) (List.mem_cons_of_mem _ kc_X11_60) dX11_knock_30 ?_
    refine A_callV1 (pc := 32) cv_X11_61 (s_err1 l hS) hS.k1 rfl rfl rfl rfl (Nat.le_of_ble_eq_true rfl) ⟨(Nat.le_of_ble_eq_true rfl), (Nat.le_of_ble_eq_true rfl)⟩ ⟨Nat.zero_le _, Nat.zero_le _⟩ dX11_knock_32 ?_
    rw [c_knock, if_pos hb4]
    exact A_iretE (pc := 35) dX11_knock_35 rfl (Nat.zero_le _) (Nat.zero_le _) ((rfl)) ((rfl))
  · refine A_aload_n (pc := 7) (i := 0) dX11_knock_7 rfl rfl ?_
    refine A_getr (pc := 8) 0 fl_X11_12_11 hS.k1 rfl (hS.w1 (k := 0) (by decide)) dX11_knock_8 ?_
    refine A_iload_n (pc := 11) (i := 2) dX11_knock_11 rfl rfl ?_
    refine A_callV1 (pc := 12) cv_X11_74 (s_hasRing l hS _ (by decide) _) (hS.k2 (by decide)) rfl rfl rfl rfl (Nat.le_of_ble_eq_true rfl) ⟨(Nat.le_of_ble_eq_true rfl), (Nat.le_of_ble_eq_true rfl)⟩ ⟨Nat.zero_le _, Nat.zero_le _⟩ dX11_knock_12 ?_
    refine A_ifeq (pc := 15) 29 dX11_knock_15 (by decide) (fun hb15 => ?_) (fun hb15 => ?_)
    · refine A_aload_n (pc := 29) (i := 0) dX11_knock_29 rfl rfl ?_
      refine A_ldc (pc := 30) (List.mem_cons_of_mem _ kc_X11_60) dX11_knock_30 ?_
      refine A_callV1 (pc := 32) cv_X11_61 (s_err1 l hS) hS.k1 rfl rfl rfl rfl (Nat.le_of_ble_eq_true rfl) ⟨(Nat.le_of_ble_eq_true rfl), (Nat.le_of_ble_eq_true rfl)⟩ ⟨Nat.zero_le _, Nat.zero_le _⟩ dX11_knock_32 ?_
      rw [c_knock, if_neg hb4, if_pos hb15]
      exact A_iretE (pc := 35) dX11_knock_35 rfl (Nat.zero_le _) (Nat.zero_le _) ((rfl)) ((rfl))
    · refine A_iload_n (pc := 18) (i := 3) dX11_knock_18 rfl rfl ?_
      refine A_ldc (pc := 19) (List.mem_cons_of_mem _ kc_X11_54) dX11_knock_19 ?_
      refine A_ldc (pc := 21) (List.mem_cons_of_mem _ kc_X11_55) dX11_knock_21 ?_
      refine A_callS1 (pc := 23) cs_X11_56 (s_isHeld l _ _ _) rfl rfl (Nat.le_of_ble_eq_true rfl) ⟨(Nat.le_of_ble_eq_true rfl), (Nat.le_of_ble_eq_true rfl)⟩ ⟨Nat.zero_le _, Nat.zero_le _⟩ dX11_knock_23 ?_
      refine A_ifne (pc := 26) 36 dX11_knock_26 (by decide) (fun hb26 => ?_) (fun hb26 => ?_)
      · have hx := (sr_b_1 _).mp hb4
        have hy := (sr_b_1 _).mp hb15
        have hyn : y.toNatClampNeg < n := nI_cl_lt hy.1 (hn ▸ hy.2) (by omega)
        have hy8 : y.toNatClampNeg < 8 := by omega
        refine A_aload_n (pc := 36) (i := 0) dX11_knock_36 rfl rfl ?_
        refine A_getr (pc := 37) 1 fl_X11_16_11 hS.k1 rfl (hS.w1 (k := 1) (by decide)) dX11_knock_37 ?_
        refine A_aload_n (pc := 40) (i := 0) dX11_knock_40 rfl rfl ?_
        refine A_getr (pc := 41) 0 fl_X11_12_11 hS.k1 rfl (hS.w1 (k := 0) (by decide)) dX11_knock_41 ?_
        refine A_callV0 (pc := 44) cv_X11_220 (s_bec l hS hA) (hS.k2 (by decide)) rfl rfl rfl rfl (Nat.le_of_ble_eq_true rfl) ⟨(Nat.le_of_ble_eq_true rfl), (Nat.le_of_ble_eq_true rfl)⟩ ⟨Nat.zero_le _, Nat.zero_le _⟩ dX11_knock_44 ?_
        have hS := lw_cp_sh (i := 1) (o := 0) hS 6
        refine A_aload_n (pc := 47) (i := 0) dX11_knock_47 rfl rfl ?_
        refine A_getr (pc := 48) 1 fl_X11_16_11 hS.k1 rfl (hS.w1 (k := 1) (by decide)) dX11_knock_48 ?_
        refine A_getr (pc := 51) 0 fl_X11_78_4 (hS.k2 (by decide)) rfl (hS.w2_0 (by decide)) dX11_knock_51 ?_
        refine A_iload_n (pc := 54) (i := 2) dX11_knock_54 rfl rfl ?_
        refine A_top (nI_cl hy.1) ?_
        refine A_aaldN (pc := 55) (hS.k3 (by decide)) (by decide) (by decide) hy8 (by decide) (hS.w3 (by decide) hy8) dX11_knock_55 ?_
        refine A_ast4 (pc := 56) dX11_knock_56 (Nat.le_of_ble_eq_true rfl) rfl ?_
        refine A_iconst (pc := 58) (0) dX11_knock_58 (by decide) ?_
        refine A_ist5 (pc := 59) dX11_knock_59 (Nat.le_of_ble_eq_true rfl) rfl ?_
        rw [c_knock, if_neg hb4, if_neg hb15, if_neg hb26]
        have h9 := kn_loop l hS n nl z1 ln lk hl y t y.toNatClampNeg hy8 x.toNatClampNeg (Nat.lt_of_le_of_lt (ah60 hx) (by decide)) (x.toNatClampNeg + 1) (rb_heap 1 0 n z0 z1 zt zw iv) hq (Nat.le_refl _)
        rw [Nat.sub_self, ← nI_cl hx.1] at h9
        exact h9
      · refine A_aload_n (pc := 29) (i := 0) dX11_knock_29 rfl rfl ?_
        refine A_ldc (pc := 30) (List.mem_cons_of_mem _ kc_X11_60) dX11_knock_30 ?_
        refine A_callV1 (pc := 32) cv_X11_61 (s_err1 l hS) hS.k1 rfl rfl rfl rfl (Nat.le_of_ble_eq_true rfl) ⟨(Nat.le_of_ble_eq_true rfl), (Nat.le_of_ble_eq_true rfl)⟩ ⟨Nat.zero_le _, Nat.zero_le _⟩ dX11_knock_32 ?_
        rw [c_knock, if_neg hb4, if_neg hb15, if_pos hb26]
        exact A_iretE (pc := 35) dX11_knock_35 rfl (Nat.zero_le _) (Nat.zero_le _) ((rfl)) ((rfl))
set_option maxRecDepth 20000 in
theorem kr_loop (l : Launch) {kd : am_kd} {rv : am_rv} (hR : shr kd rv) (n nl z : Nat) (lk : Nat → Nat) (t : Int32) (r : Nat) (hr : r < 8) (hrn : r < n) (N : Nat) (hN : N < 1000) (d : Nat) : ∀ (w : am_iv), rQ 1 n nl z lk w → d ≤ N + 1 → am_W l mX12_knock (am_rm 50 0 0) (am_ret (some (am_I (kr (rt_tick 1 n nl z lk) (31, 1, 0) r t d w).1)) kd rv (kr (rt_tick 1 n nl z lk) (31, 1, 0) r t d w).2) 49 [some (am_P (30, 0, 0)), some (am_I (nI N)), some (am_I (nI r)), some (am_I t), some (am_I (nI (N + 1 - d)))] [] kd rv w 0 0 := by
  induction d with
  | zero =>
    intro w hq hd
    refine A_iload (pc := 49) (i := 4) dX12_knock_49 rfl ?_
    refine A_iload_n (pc := 51) (i := 1) dX12_knock_51 rfl rfl ?_
    refine A_icmpgt (pc := 52) 116 dX12_knock_52 (by decide) (fun hb52 => ?_) (fun hb52 => ?_)
    · refine A_aload_n (pc := 116) (i := 0) dX12_knock_116 rfl rfl ?_
      refine A_iconst (pc := 117) (2) dX12_knock_117 (by decide) ?_
      refine A_callV1 (pc := 118) cv_X12_65 (r_fnd2 l hR) hR.1 rfl rfl rfl rfl (Nat.le_of_ble_eq_true rfl) ⟨(Nat.le_of_ble_eq_true rfl), (Nat.le_of_ble_eq_true rfl)⟩ ⟨Nat.zero_le _, Nat.zero_le _⟩ dX12_knock_118 ?_
      exact A_iretE (pc := 121) dX12_knock_121 rfl (Nat.zero_le _) (Nat.zero_le _) ((rfl)) ((rfl))
    · exact absurd ((nI_ltn (by omega) (by omega)).mpr (by omega)) hb52
  | succ d ih =>
    intro w hq hd
    have g5 := (hq.rok r hrn).2.2.2.2.1
    refine A_iload (pc := 49) (i := 4) dX12_knock_49 rfl ?_
    refine A_iload_n (pc := 51) (i := 1) dX12_knock_51 rfl rfl ?_
    refine A_icmpgt (pc := 52) 116 dX12_knock_52 (by decide) (fun hb52 => ?_) (fun hb52 => ?_)
    · exact absurd ((nI_ltn (by omega) (by omega)).mp hb52) (by omega)
    · refine A_aload_n (pc := 55) (i := 0) dX12_knock_55 rfl rfl ?_
      refine A_getr (pc := 56) 1 fl_X12_13_12 hR.1 rfl hR.w1 dX12_knock_56 ?_
      refine A_iload_n (pc := 59) (i := 2) dX12_knock_59 rfl rfl ?_
      refine A_callS1 (pc := 60) cs_X12_209 (r_isWhole l (31, 1, 0) hR.k1 r hr) rfl rfl (Nat.le_of_ble_eq_true rfl) ⟨(Nat.le_of_ble_eq_true rfl), (Nat.le_of_ble_eq_true rfl)⟩ ⟨Nat.zero_le _, Nat.zero_le _⟩ dX12_knock_60 ?_
      refine A_ifeq (pc := 63) 102 dX12_knock_63 (by decide) (fun hb63 => ?_) (fun hb63 => ?_)
      · refine A_aload_n (pc := 102) (i := 0) dX12_knock_102 rfl rfl ?_
        refine A_aload_n (pc := 103) (i := 0) dX12_knock_103 rfl rfl ?_
        refine A_getr (pc := 104) 1 fl_X12_13_12 hR.1 rfl hR.w1 dX12_knock_104 ?_
        refine A_callV0 (pc := 107) cv_X12_224 (r_goesBy l hR 1 (by decide) hR.k1 n nl z lk (rQ.ref _ hq)) hR.1 rfl rfl rfl rfl (Nat.le_of_ble_eq_true rfl) ⟨(Nat.le_of_ble_eq_true rfl), (Nat.le_of_ble_eq_true rfl)⟩ ⟨Nat.zero_le _, Nat.zero_le _⟩ dX12_knock_107 ?_
        refine A_inc4 (pc := 110) (nI (N + 1 - d)) dX12_knock_110 (nI_sub1 hd) (Nat.le_of_ble_eq_true rfl) rfl ?_
        refine A_goto (pc := 113) 49 dX12_knock_113 (by decide) ?_
        rw [kr, if_pos hb63]
        exact ih _ (rQ.tick (by decide) _ hq) (by omega)
      · refine A_aload_n (pc := 66) (i := 0) dX12_knock_66 rfl rfl ?_
        refine A_getr (pc := 67) 1 fl_X12_13_12 hR.1 rfl hR.w1 dX12_knock_67 ?_
        refine A_iload_n (pc := 70) (i := 2) dX12_knock_70 rfl rfl ?_
        refine A_iconst (pc := 71) (0) dX12_knock_71 (by decide) ?_
        refine A_top (y := nI 0) rfl ?_
        refine A_callS1 (pc := 72) cs_X12_73 (r_of l (31, 1, 0) hR.k1 r hr 0 _ rfl (by decide)) rfl rfl (Nat.le_of_ble_eq_true rfl) ⟨(Nat.le_of_ble_eq_true rfl), (Nat.le_of_ble_eq_true rfl)⟩ ⟨Nat.zero_le _, Nat.zero_le _⟩ dX12_knock_72 ?_
        refine A_iload_n (pc := 75) (i := 3) dX12_knock_75 rfl rfl ?_
        refine A_icmplt (pc := 76) 102 dX12_knock_76 (by decide) (fun hb76 => ?_) (fun hb76 => ?_)
        · refine A_aload_n (pc := 102) (i := 0) dX12_knock_102 rfl rfl ?_
          refine A_aload_n (pc := 103) (i := 0) dX12_knock_103 rfl rfl ?_
          refine A_getr (pc := 104) 1 fl_X12_13_12 hR.1 rfl hR.w1 dX12_knock_104 ?_
          refine A_callV0 (pc := 107) cv_X12_224 (r_goesBy l hR 1 (by decide) hR.k1 n nl z lk (rQ.ref _ hq)) hR.1 rfl rfl rfl rfl (Nat.le_of_ble_eq_true rfl) ⟨(Nat.le_of_ble_eq_true rfl), (Nat.le_of_ble_eq_true rfl)⟩ ⟨Nat.zero_le _, Nat.zero_le _⟩ dX12_knock_107 ?_
          refine A_inc4 (pc := 110) (nI (N + 1 - d)) dX12_knock_110 (nI_sub1 hd) (Nat.le_of_ble_eq_true rfl) rfl ?_
          refine A_goto (pc := 113) 49 dX12_knock_113 (by decide) ?_
          rw [kr, if_neg hb63, if_pos hb76]
          exact ih _ (rQ.tick (by decide) _ hq) (by omega)
        · refine A_aload_n (pc := 79) (i := 0) dX12_knock_79 rfl rfl ?_
          refine A_getr (pc := 80) 1 fl_X12_13_12 hR.1 rfl hR.w1 dX12_knock_80 ?_
          refine A_iload_n (pc := 83) (i := 2) dX12_knock_83 rfl rfl ?_
          refine A_iconst (pc := 84) (3) dX12_knock_84 (by decide) ?_
          refine A_top (y := nI 3) rfl ?_
          refine A_callS1 (pc := 85) cs_X12_73 (r_of l (31, 1, 0) hR.k1 r hr 3 _ rfl (by decide)) rfl rfl (Nat.le_of_ble_eq_true rfl) ⟨(Nat.le_of_ble_eq_true rfl), (Nat.le_of_ble_eq_true rfl)⟩ ⟨Nat.zero_le _, Nat.zero_le _⟩ dX12_knock_85 ?_
          refine A_bipush (pc := 88) (100) dX12_knock_88 (by decide) ?_
          refine A_imul (pc := 90) dX12_knock_90 ?_
          refine A_aload_n (pc := 91) (i := 0) dX12_knock_91 rfl rfl ?_
          refine A_getr (pc := 92) 1 fl_X12_13_12 hR.1 rfl hR.w1 dX12_knock_92 ?_
          refine A_iload_n (pc := 95) (i := 2) dX12_knock_95 rfl rfl ?_
          refine A_iconst (pc := 96) (4) dX12_knock_96 (by decide) ?_
          refine A_top (y := nI 4) rfl ?_
          refine A_callS1 (pc := 97) cs_X12_73 (r_of l (31, 1, 0) hR.k1 r hr 4 _ rfl (by decide)) rfl rfl (Nat.le_of_ble_eq_true rfl) ⟨(Nat.le_of_ble_eq_true rfl), (Nat.le_of_ble_eq_true rfl)⟩ ⟨Nat.zero_le _, Nat.zero_le _⟩ dX12_knock_97 ?_
          refine A_idiv (pc := 100) dX12_knock_100 (fun e => by rw [e] at g5; have := g5.1; simp at this) ?_
          rw [kr, if_neg hb63, if_neg hb76]
          exact A_iretE (pc := 101) dX12_knock_101 rfl (Nat.zero_le _) (Nat.zero_le _) ((rfl)) ((rfl))
noncomputable def d_knock (x y t : Int32) (n nl z : Nat) (lk : Nat → Nat) (iv : am_iv) : Int32 × am_iv := if sr_b (0 ≤ x ∧ x ≤ 60) = 0 then (-1000000001, rx_find 1 iv) else if sr_b (0 ≤ y ∧ y ≤ iv (31, 0, 0) 1 - 1) = 0 then (-1000000001, rx_find 1 iv) else if sr_b (-99999 ≤ t ∧ t ≤ 99999) = 0 then (-1000000001, rx_find 1 iv) else (kr (rt_tick 1 n nl z lk) (31, 1, 0) y.toNatClampNeg t (x.toNatClampNeg + 1) (rx_cp (31, 0, 0) (31, 1, 0) iv 300))
set_option maxRecDepth 20000 in
theorem q_knock (l : Launch) {kd : am_kd} {rv : am_rv} {iv : am_iv} (hR : shr kd rv) (x y t : Int32) (n nl z : Nat) (lk : Nat → Nat) (hn : iv (31, 0, 0) 1 = nI n) (hn8 : n ≤ 8) (hq : rQ 1 n nl z lk (rx_cp (31, 0, 0) (31, 1, 0) iv 300)) : am_Met l mX12_knock (am_rm 50 0 0) [am_P (30, 0, 0), am_I x, am_I y, am_I t] kd rv iv (am_ret (some (am_I (d_knock x y t n nl z lk iv).1)) kd rv (d_knock x y t n nl z lk iv).2) := by
  refine am_Met.of (by decide) (Nat.le_of_ble_eq_true rfl) rfl ?_
  refine A_iload_n (pc := 0) (i := 1) dX12_knock_0 rfl rfl ?_
  refine A_callS1 (pc := 1) cs_X12_244 (r_isAhead l _) rfl rfl (Nat.le_of_ble_eq_true rfl) ⟨(Nat.le_of_ble_eq_true rfl), (Nat.le_of_ble_eq_true rfl)⟩ ⟨Nat.zero_le _, Nat.zero_le _⟩ dX12_knock_1 ?_
  refine A_ifeq (pc := 4) 29 dX12_knock_4 (by decide) (fun hb4 => ?_) (fun hb4 => ?_)
  · refine A_aload_n (pc := 29) (i := 0) dX12_knock_29 rfl rfl ?_
    refine A_iconst (pc := 30) (1) dX12_knock_30 (by decide) ?_
    refine A_callV1 (pc := 31) cv_X12_65 (r_fnd1 l hR) hR.1 rfl rfl rfl rfl (Nat.le_of_ble_eq_true rfl) ⟨(Nat.le_of_ble_eq_true rfl), (Nat.le_of_ble_eq_true rfl)⟩ ⟨Nat.zero_le _, Nat.zero_le _⟩ dX12_knock_31 ?_
    exact A_iretE (pc := 34) dX12_knock_34 rfl (Nat.zero_le _) (Nat.zero_le _) (by rw [d_knock, if_pos hb4]) (by rw [d_knock, if_pos hb4])
  · refine A_aload_n (pc := 7) (i := 0) dX12_knock_7 rfl rfl ?_
    refine A_iload_n (pc := 8) (i := 2) dX12_knock_8 rfl rfl ?_
    refine A_callV1 (pc := 9) cv_X12_77 (r_isRing l hR _) hR.1 rfl rfl rfl rfl (Nat.le_of_ble_eq_true rfl) ⟨(Nat.le_of_ble_eq_true rfl), (Nat.le_of_ble_eq_true rfl)⟩ ⟨Nat.zero_le _, Nat.zero_le _⟩ dX12_knock_9 ?_
    refine A_ifeq (pc := 12) 29 dX12_knock_12 (by decide) (fun hb12 => ?_) (fun hb12 => ?_)
    · refine A_aload_n (pc := 29) (i := 0) dX12_knock_29 rfl rfl ?_
      refine A_iconst (pc := 30) (1) dX12_knock_30 (by decide) ?_
      refine A_callV1 (pc := 31) cv_X12_65 (r_fnd1 l hR) hR.1 rfl rfl rfl rfl (Nat.le_of_ble_eq_true rfl) ⟨(Nat.le_of_ble_eq_true rfl), (Nat.le_of_ble_eq_true rfl)⟩ ⟨Nat.zero_le _, Nat.zero_le _⟩ dX12_knock_31 ?_
      exact A_iretE (pc := 34) dX12_knock_34 rfl (Nat.zero_le _) (Nat.zero_le _) (by rw [d_knock, if_neg hb4, if_pos hb12]) (by rw [d_knock, if_neg hb4, if_pos hb12])
    · refine A_iload_n (pc := 15) (i := 3) dX12_knock_15 rfl rfl ?_
      refine A_i2l (pc := 16) dX12_knock_16 ?_
      refine A_ldc2 (pc := 17) (List.mem_cons_of_mem _ kc_X12_53) dX12_knock_17 ?_
      refine A_topJ (y := Int32.toInt64 (-99999)) (by decide +kernel) ?_
      refine A_ldc2 (pc := 20) (List.mem_cons_of_mem _ kc_X12_55) dX12_knock_20 ?_
      refine A_topJ (y := Int32.toInt64 (99999)) (by decide +kernel) ?_
      refine A_callS1 (pc := 23) cs_X12_48 (r_in l _ _ _) rfl rfl (Nat.le_of_ble_eq_true rfl) ⟨(Nat.le_of_ble_eq_true rfl), (Nat.le_of_ble_eq_true rfl)⟩ ⟨Nat.zero_le _, Nat.zero_le _⟩ dX12_knock_23 ?_
      refine A_ifne (pc := 26) 35 dX12_knock_26 (by decide) (fun hb26 => ?_) (fun hb26 => ?_)
      · have hx := (sr_b_1 _).mp hb4
        have hy := (sr_b_1 _).mp hb12
        have hyn : y.toNatClampNeg < n := nI_m1n hn8 hy.1 (hn ▸ hy.2)
        have hy8 : y.toNatClampNeg < 8 := by omega
        refine A_aload_n (pc := 35) (i := 0) dX12_knock_35 rfl rfl ?_
        refine A_getr (pc := 36) 0 fl_X12_7_12 hR.1 rfl hR.w0 dX12_knock_36 ?_
        refine A_aload_n (pc := 39) (i := 0) dX12_knock_39 rfl rfl ?_
        refine A_getr (pc := 40) 1 fl_X12_13_12 hR.1 rfl hR.w1 dX12_knock_40 ?_
        refine A_callS0 (pc := 43) cs_X12_240 (r_copies l (31, 0, 0) (31, 1, 0) hR.k0 hR.k1 (by simp)) rfl rfl (Nat.le_of_ble_eq_true rfl) ⟨(Nat.le_of_ble_eq_true rfl), (Nat.le_of_ble_eq_true rfl)⟩ ⟨Nat.zero_le _, Nat.zero_le _⟩ dX12_knock_43 ?_
        refine A_iconst (pc := 46) (0) dX12_knock_46 (by decide) ?_
        refine A_ist4 (pc := 47) dX12_knock_47 (Nat.le_of_ble_eq_true rfl) rfl ?_
        rw [show (d_knock x y t n nl z lk iv) = (kr (rt_tick 1 n nl z lk) (31, 1, 0) y.toNatClampNeg t (x.toNatClampNeg + 1) (rx_cp (31, 0, 0) (31, 1, 0) iv 300)) from by rw [d_knock, if_neg hb4, if_neg hb12, if_neg hb26]]
        have h9 := kr_loop l hR n nl z lk t y.toNatClampNeg hy8 hyn x.toNatClampNeg (Nat.lt_of_le_of_lt (ah60 hx) (by decide)) (x.toNatClampNeg + 1) (rx_cp (31, 0, 0) (31, 1, 0) iv 300) hq (Nat.le_refl _)
        rw [Nat.sub_self, ← nI_cl hx.1, ← nI_cl hy.1] at h9
        exact h9
      · refine A_aload_n (pc := 29) (i := 0) dX12_knock_29 rfl rfl ?_
        refine A_iconst (pc := 30) (1) dX12_knock_30 (by decide) ?_
        refine A_callV1 (pc := 31) cv_X12_65 (r_fnd1 l hR) hR.1 rfl rfl rfl rfl (Nat.le_of_ble_eq_true rfl) ⟨(Nat.le_of_ble_eq_true rfl), (Nat.le_of_ble_eq_true rfl)⟩ ⟨Nat.zero_le _, Nat.zero_le _⟩ dX12_knock_31 ?_
        exact A_iretE (pc := 34) dX12_knock_34 rfl (Nat.zero_le _) (Nat.zero_le _) (by rw [d_knock, if_neg hb4, if_neg hb12, if_pos hb26]) (by rw [d_knock, if_neg hb4, if_neg hb12, if_pos hb26])
theorem kr_dead {n nl z1 y1 : Nat} {ln : Nat → am_N} {lk : Nat → Nat} {r : Nat} (hr : r < n) (t : Int32) (d : Nat) : ∀ (w u : am_iv), tR 1 1 n nl z1 y1 ln lk w u → w (4, 1, r) 7 = 0 → ∃ u', chU 1 u u' ∧ kr (rt_tick 1 n nl y1 lk) (31, 1, 0) r t d u = (-1000000002, rx_find 2 u') := by
  induction d with
  | zero => intro w u h h7; exact ⟨u, chU.rf _ _, rfl⟩
  | succ d ih =>
    intro w u h h7
    have e7 : rf u (31, 1, 0) r 7 = 0 := (h.at hr 7 (by decide)).symm.trans h7
    have w7 : rm_tick 1 n z1 nl ln lk w (4, 1, r) 7 = 0 := by
      rcases le7_tick (i := 1) (n := n) (z := z1) (nl := nl) (ln := ln) (lk := lk) (w := w) r with e | e
      · exact e
      · exact e.trans h7
    obtain ⟨u', h1, h2⟩ := ih _ _ (h.tick (by decide)) w7
    refine ⟨u', chU.tick.tr h1, ?_⟩
    rw [kr, if_pos (by rw [e7]; decide)]
    exact h2
theorem knock_alike {n nl z1 y1 : Nat} {ln : Nat → am_N} {lk : Nat → Nat} {r : Nat} (hr : r < n) (t : Int32) (d : Nat) : ∀ (w u : am_iv), tR 1 1 n nl z1 y1 ln lk w u → same1 w u (kn (rm_tick 1 n z1 nl ln lk) (4, 1, r) t d w) (kr (rt_tick 1 n nl y1 lk) (31, 1, 0) r t d u) := by
  induction d with
  | zero => intro w u h; exact same1.err _ 2 (by decide) (chT.rf _) (chV.rf _)
  | succ d ih =>
    intro w u h
    have ok := h.1.2.2.1 r hr
    have e : ∀ k, 1 ≤ k → k ≤ 7 → rf u (31, 1, 0) r k = w (4, 1, r) k := fun k _ hk => (h.at hr k hk).symm
    by_cases c : w (4, 1, r) 7 = 0
    · obtain ⟨u', h1, h2⟩ := kr_dead hr t (d + 1) w u h c
      rw [h2, kn, if_pos c]
      exact same1.err _ 2 (by decide) (chT.rf _) h1.V1
    · have c1 := ok.2.2.2.2.2.2.resolve_left c
      have c3 : ¬ sr_b (rf u (31, 1, 0) r 7 = 1) = 0 := by rw [e 7 (by decide) (by decide), c1]; decide
      rw [kn, if_neg c, kr, if_neg c3, e 1 (by decide) (by decide)]
      by_cases c2 : w (4, 1, r) 1 < t
      · rw [if_pos c2, if_pos c2]
        exact (ih _ _ (h.tick (by decide))).st chg.tick.T1 chU.tick.V1
      · rw [if_neg c2, if_neg c2, e 4 (by decide) (by decide), e 5 (by decide) (by decide)]
        refine same1.ok ?_ (chT.rf _) (chV.rf _)
        unfold sr_q
        rw [if_neg (fun z => by have := ok.2.2.2.2.1.1; rw [z] at this; simp at this)]
theorem call_knock (l : Launch) {kd : am_kd} {rv : am_rv} {iv : am_iv} (h : REL kd rv iv iv) (x : Int32) (y : Int32) (t : Int32) : CALL l kd rv iv mX11_knock mX12_knock [am_I x, am_I y, am_I t] := by
  obtain ⟨n, nl, ln, lk, z0, y0, z1, y1, zt, zw, hX⟩ := h.n
  have hA := hX.AH h.1
  have hn8 := hX.1.1.2.2
  have hB := hX.b0 (h.z (i := 1) (by decide))
  have hl := hB.1.laws
  have hq : tQ 1 n nl z1 ln lk (rb_heap 1 0 n z0 z1 zt zw iv) := ⟨y1, _, ah_tR hX (h.z (i := 1) (by decide))⟩
  refine CALL.fs (d2 := 50) h (c_knock x y t n nl z0 z1 zt zw ln lk rv iv) (d_knock x y t n nl y1 lk) (p_knock l h.S x y t n nl z0 z1 zt zw ln lk hA hl hq) (fun hR h1 eu => ?_) (by decide) (by decide) (fun u hu eu => ?_)
  · have hX := hX.u eu
    have hq : rQ 1 n nl y1 lk (rx_cp (31, 0, 0) (31, 1, 0) _ 300) := ⟨z1, ln, _, ah_tR hX (h.z (i := 1) (by decide))⟩
    exact q_knock l hR x y t n nl y1 lk hX.1.1.2.1 hn8 hq
  · have hX := hX.u eu
    have hz := hu.z (i := 1) (by decide)
    have hT := ah_tR hX hz
    unfold c_knock d_knock
    rw [← hX.has y]
    by_cases c0 : sr_b (0 ≤ x ∧ x ≤ 60) = 0
    · rw [if_pos c0, if_pos c0]; exact SM.err hu _ 1 (by decide)
    · rw [if_neg c0, if_neg c0]
      by_cases c1 : sr_b (0 ≤ y ∧ y < iv (2, 0, 0) 1) = 0
      · rw [if_pos c1, if_pos c1]; exact SM.err hu _ 1 (by decide)
      · rw [if_neg c1, if_neg c1]
        by_cases c2 : sr_b (-99999 ≤ t ∧ t ≤ 99999) = 0
        · rw [if_pos c2, if_pos c2]; exact SM.err hu _ 1 (by decide)
        · rw [if_neg c2, if_neg c2]
          obtain ⟨hy0, hyn⟩ := hX.idx c1
          exact SM.of hu ((knock_alike hyn t _ _ _ hT).st chg.rb.T1 chU.cp.V1)
