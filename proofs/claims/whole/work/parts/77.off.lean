section AL
variable {l : Launch} {M : am_M} {R : Room} {post : am_Post} {pc : Nat} {ls : List (Option am_V)} {st : List am_V} {kd : am_kd} {rv : am_rv} {iv : am_iv} {cu su : Nat}
theorem A_mminL {idx : Nat} {x y : Int64} (hl : Cond.methodLink M.1.cls idx Lib.MathLoose.min_long.x ∈ am_T) (hf : 1 ≤ R.frames) (hw : am_wt st + 15 ≤ R.locals) (hc : cu ≤ R.cells) (hs : su ≤ R.slots) (hd : decode M.2.1 pc = .ok (.invokestatic idx, 3)) (k : am_W l M R post (pc + 3) ls (am_J (if y < x then y else x) :: st) kd rv iv cu su) : am_W l M R post pc ls (am_J y :: am_J x :: st) kd rv iv cu su := by
  intro p e s m args below meth c D A ad0 kd0 H locs lsA ad C Rr
  have hts : ∀ w ∈ am_T, w.before args s = true := fun w hw => C.2.2.2.2.2.1 w (List.mem_cons_of_mem _ hw)
  exact va_mmin_long C.1 C.2.1 (C.2.2.2.1.trans Rr.2.2.2.2.1.1.symm) C.2.2.2.2.1 (hts _ hl) (hts _ am_sminl) (hts _ am_mi) (hts _ ce_J9_min_f86c9.1) hf (by rw [am_wt_ok]; exact hw) hc hs hd (k p e s m args below meth c D A ad0 kd0 H locs lsA ad C (Rr.stk (am_l0 (am_l1 (am_l1 Rr.2.2.2.2.2.2)))))
end AL
theorem s_err12 (l : Launch) {kd : am_kd} {rv : am_rv} {iv : am_iv} (hS : sh kd rv) {v : Int32} (h : v = -1000000001 ∨ v = -1000000002) : am_Met l mX11_error (am_rm 1 0 0) [am_P (1, 0, 0), am_I v] kd rv iv (am_ret (some (am_I v)) kd rv (er_heap (if v = -1000000001 then 1 else 2) iv)) := by
  rcases h with rfl | rfl
  · rw [if_pos rfl]; exact s_err1 l hS
  · rw [if_neg (by decide)]; exact s_err2 l hS
theorem r_fnd12 (l : Launch) {kd : am_kd} {rv : am_rv} {iv : am_iv} (hR : shr kd rv) {v : Int32} (h : v = 1 ∨ v = 2) : am_Met l mX12_finds (am_rm 0 0 0) [am_P (30, 0, 0), am_I v] kd rv iv (am_ret (some (am_I (if v = 1 then -1000000001 else -1000000002))) kd rv (rx_find (if v = 1 then 1 else 2) iv)) := by
  rcases h with rfl | rfl
  · rw [if_pos rfl, if_pos rfl]; exact r_fnd1 l hR
  · rw [if_neg (by decide), if_neg (by decide)]; exact r_fnd2 l hR
/-- why it is no film -/
def fe_c (x : Int32) (iv : am_iv) : Int32 := if 0 ≤ x ∧ x ≤ 3 then (if iv (17, x.toNatClampNeg, 0) 2 = 0 ∨ iv (2, 0, 0) 1 = 0 then -1000000002 else 0) else -1000000001
def fe_r (x : Int32) (iv : am_iv) : Int32 := if 0 ≤ x ∧ x ≤ 3 then (if iv (31, 17, 0) x.toNatClampNeg = 0 ∨ iv (31, 0, 0) 1 = 0 then 2 else 0) else 1
theorem fe_c12 {x : Int32} {iv : am_iv} (h : ¬ fe_c x iv = 0) : fe_c x iv = -1000000001 ∨ fe_c x iv = -1000000002 := by
  unfold fe_c at h ⊢
  by_cases c : 0 ≤ x ∧ x ≤ 3
  · rw [if_pos c] at h ⊢
    split at h
    · next c2 => rw [if_pos c2]; exact Or.inr rfl
    · exact absurd rfl h
  · rw [if_neg c]; exact Or.inl rfl
theorem fe_r12 {x : Int32} {iv : am_iv} (h : ¬ fe_r x iv = 0) : fe_r x iv = 1 ∨ fe_r x iv = 2 := by
  unfold fe_r at h ⊢
  by_cases c : 0 ≤ x ∧ x ≤ 3
  · rw [if_pos c] at h ⊢
    split at h
    · next c2 => rw [if_pos c2]; exact Or.inr rfl
    · exact absurd rfl h
  · rw [if_neg c]; exact Or.inl rfl
theorem fe_x {x : Int32} {iv : am_iv} (h : fe_c x iv = 0) : (0 ≤ x ∧ x ≤ 3) ∧ x.toNatClampNeg < 4 ∧ ¬ iv (2, 0, 0) 1 = 0 := by
  unfold fe_c at h
  by_cases c : 0 ≤ x ∧ x ≤ 3
  · rw [if_pos c] at h
    refine ⟨c, Nat.lt_of_le_of_lt (nI_cl_le (n := 3) c.1 c.2 (by decide)) (by decide), fun z => ?_⟩
    rw [if_pos (Or.inr z)] at h
    exact absurd h (by decide)
  · rw [if_neg c] at h
    exact absurd h (by decide)
theorem fe_y {x : Int32} {iv : am_iv} (h : fe_r x iv = 0) : (0 ≤ x ∧ x ≤ 3) ∧ x.toNatClampNeg < 4 := by
  unfold fe_r at h
  by_cases c : 0 ≤ x ∧ x ≤ 3
  · exact ⟨c, Nat.lt_of_le_of_lt (nI_cl_le (n := 3) c.1 c.2 (by decide)) (by decide)⟩
  · rw [if_neg c] at h
    exact absurd h (by decide)
theorem fe_cr {x : Int32} {iv u : am_iv} (hs : ∀ s, s < 4 → iv (17, s, 0) 2 = u (31, 17, 0) s) (hn : iv (2, 0, 0) 1 = u (31, 0, 0) 1) : (fe_c x iv = 0 ∧ fe_r x u = 0) ∨ (fe_c x iv = -1000000001 ∧ fe_r x u = 1) ∨ (fe_c x iv = -1000000002 ∧ fe_r x u = 2) := by
  unfold fe_c fe_r
  by_cases c : 0 ≤ x ∧ x ≤ 3
  · rw [if_pos c, if_pos c, hs _ (Nat.lt_of_le_of_lt (nI_cl_le (n := 3) c.1 c.2 (by decide)) (by decide)), hn]
    split
    · exact Or.inr (Or.inr ⟨rfl, rfl⟩)
    · exact Or.inl ⟨rfl, rfl⟩
  · rw [if_neg c, if_neg c]; exact Or.inr (Or.inl ⟨rfl, rfl⟩)
/-- how far off: the class' -/
def oc_a (x t : Int32) : Int64 := if 0 < x.toInt64 - t.toInt64 then x.toInt64 - t.toInt64 else -(x.toInt64 - t.toInt64)
def oc_1 (x t : Int32) : Int32 := (if 1000000 < oc_a x t then 1000000 else oc_a x t).toInt32
def ob (T : am_iv → am_iv) (s : Nat) (e : Int32) : Nat → Nat → Int32 → am_iv → Int32 × am_iv
  | 0, _, off, w => (off, w)
  | d + 1, k, off, w => if w (4, 1, 0) 7 = 0 then (off, w) else if e ≤ off then (off, w) else ob T s e d (k + 1) (if T w (4, 1, 0) 7 = 0 then off else off + oc_1 (T w (4, 1, 0) 1) (T w (18, s, 0) k)) (T w)
theorem oc_of (x t : Int32) : oc_1 x t = of_1 (x.toInt64 - t.toInt64) := by
  have ea : oc_a x t = of_a (x.toInt64 - t.toInt64) := by
    unfold oc_a of_a
    generalize x.toInt64 - t.toInt64 = v
    by_cases c : 0 < v
    · rw [if_pos c, if_pos (Int64.le_of_lt c)]
    · rw [if_neg c]
      by_cases c2 : 0 ≤ v
      · have e : v = 0 := Int64.le_antisymm (Int64.not_lt.mp c) c2
        rw [if_pos c2, e]; decide
      · rw [if_neg c2]
  unfold oc_1 of_1
  rw [ea]
  generalize of_a (x.toInt64 - t.toInt64) = a
  by_cases c : a ≤ 1000000
  · rw [if_pos c, if_neg (Int64.not_lt.mpr c)]
  · rw [if_neg c, if_pos (Int64.not_le.mp c)]; decide
theorem of_rng (x t : Int32) : 0 ≤ (of_1 (x.toInt64 - t.toInt64)).toInt ∧ (of_1 (x.toInt64 - t.toInt64)).toInt ≤ 1000000 := by
  have h1 := Int32.le_toInt x
  have h2 := Int32.toInt_lt x
  have h3 := Int32.le_toInt t
  have h4 := Int32.toInt_lt t
  have ev : (x.toInt64 - t.toInt64).toInt = x.toInt - t.toInt := by
    rw [Int64.toInt_sub, Int32.toInt_toInt64, Int32.toInt_toInt64]
    exact fb_bmodL (by omega) (by omega)
  generalize x.toInt64 - t.toInt64 = v at ev ⊢
  have ea : (of_a v).toInt = if 0 ≤ v.toInt then v.toInt else -v.toInt := by
    unfold of_a
    by_cases c : 0 ≤ v
    · have c1 := Int64.le_iff_toInt_le.mp c
      rw [show (0 : Int64).toInt = 0 by decide] at c1
      rw [if_pos c, if_pos c1]
    · have c1 : ¬ 0 ≤ v.toInt := fun z => c (Int64.le_iff_toInt_le.mpr (by rw [show (0 : Int64).toInt = 0 by decide]; exact z))
      rw [if_neg c, if_neg c1, Int64.toInt_neg]
      exact fb_bmodL (by omega) (by omega)
  have ea0 : 0 ≤ (of_a v).toInt := by
    rw [ea]; split <;> omega
  unfold of_1
  by_cases c : of_a v ≤ 1000000
  · have c1 := Int64.le_iff_toInt_le.mp c
    rw [show (1000000 : Int64).toInt = 1000000 by decide] at c1
    rw [if_pos c, Int64.toInt_toInt32, fb_bmod (by omega) (by omega)]
    exact ⟨ea0, c1⟩
  · rw [if_neg c]; decide
theorem of_0 : of_1 0 = 0 := by decide
/-- the class and the reference watch the same film -/
def gF (n nl z1 y1 : Nat) (ln : Nat → am_N) (lk : Nat → Nat) (s sz : Nat) (w u : am_iv) : Prop := tR 1 1 n nl z1 y1 ln lk w u ∧ ∀ k, k < sz → w (18, s, 0) k = u (31, 19, 0) (40 * s + k)
theorem gF.tick {n nl z1 y1 : Nat} {ln : Nat → am_N} {lk : Nat → Nat} {s sz : Nat} {w u : am_iv} (h : gF n nl z1 y1 ln lk s sz w u) : gF n nl z1 y1 ln lk s sz (rm_tick 1 n z1 nl ln lk w) (rt_tick 1 n nl y1 lk u) := ⟨h.1.tick (by decide), fun k hk => by
  rw [chg.tick (18, s, 0) k (Or.inl (fun e => by have := e.2.1; simp at this)), chU.tick (31, 19, 0) (40 * s + k) (by simp) (by simp) (by simp) (by simp)]
  exact h.2 k hk⟩
theorem fo_dead {n nl z1 y1 : Nat} {ln : Nat → am_N} {lk : Nat → Nat} (hn : 0 < n) (s : Nat) (d : Nat) : ∀ (k : Nat) (off : Int32) (w u : am_iv), tR 1 1 n nl z1 y1 ln lk w u → w (4, 1, 0) 7 = 0 → (fo (rt_tick 1 n nl y1 lk) (31, 1, 0) s d k off u).1 = off := by
  induction d with
  | zero => intro k off w u h h7; rfl
  | succ d ih =>
    intro k off w u h h7
    have w7 : rm_tick 1 n z1 nl ln lk w (4, 1, 0) 7 = 0 := by
      rcases le7_tick (i := 1) (n := n) (z := z1) (nl := nl) (ln := ln) (lk := lk) (w := w) 0 with e | e
      · exact e
      · exact e.trans h7
    have ht := h.tick (a := 1) (by decide)
    have e7 : rf (rt_tick 1 n nl y1 lk u) (31, 1, 0) 0 7 = 0 := (ht.at hn 7 (by decide)).symm.trans w7
    rw [fo]
    refine (ih _ _ _ _ ht w7).trans ?_
    unfold of_v
    rw [if_neg (by rw [e7]; decide), of_0, Int32.add_zero]
theorem ob_fo {n nl z1 y1 : Nat} {ln : Nat → am_N} {lk : Nat → Nat} (hn : 0 < n) (s sz : Nat) (hsz : sz ≤ 40) (e : Int32) (d : Nat) : ∀ (k : Nat) (off : Int32) (w u : am_iv), gF n nl z1 y1 ln lk s sz w u → k + d = sz → 0 ≤ off.toInt → off.toInt ≤ 1000000 * k → ((ob (rm_tick 1 n z1 nl ln lk) s e d k off w).1 = (fo (rt_tick 1 n nl y1 lk) (31, 1, 0) s d k off u).1 ∨ (e ≤ (ob (rm_tick 1 n z1 nl ln lk) s e d k off w).1 ∧ e ≤ (fo (rt_tick 1 n nl y1 lk) (31, 1, 0) s d k off u).1)) ∧ off.toInt ≤ (fo (rt_tick 1 n nl y1 lk) (31, 1, 0) s d k off u).1.toInt ∧ (fo (rt_tick 1 n nl y1 lk) (31, 1, 0) s d k off u).1.toInt ≤ 40000000 := by
  induction d with
  | zero => intro k off w u h hk h0 h1; exact ⟨Or.inl rfl, Int.le_refl _, by show off.toInt ≤ 40000000; omega⟩
  | succ d ih =>
    intro k off w u h hk h0 h1
    have ht := h.tick
    have t7 := ht.1.at hn 7 (by decide)
    have t1 := ht.1.at hn 1 (by decide)
    have b7 := (ht.1.1.2.2.1 0 hn).2.2.2.2.2.2
    have tk := ht.2 k (by omega)
    have en : (off + of_1 (of_v (rf (rt_tick 1 n nl y1 lk u) (31, 1, 0) 0) (rt_tick 1 n nl y1 lk u (31, 19, 0) (40 * s + k)))).toInt = off.toInt + (of_1 (of_v (rf (rt_tick 1 n nl y1 lk u) (31, 1, 0) 0) (rt_tick 1 n nl y1 lk u (31, 19, 0) (40 * s + k)))).toInt ∧ 0 ≤ (of_1 (of_v (rf (rt_tick 1 n nl y1 lk u) (31, 1, 0) 0) (rt_tick 1 n nl y1 lk u (31, 19, 0) (40 * s + k)))).toInt ∧ (of_1 (of_v (rf (rt_tick 1 n nl y1 lk u) (31, 1, 0) 0) (rt_tick 1 n nl y1 lk u (31, 19, 0) (40 * s + k)))).toInt ≤ 1000000 := by
      have r : 0 ≤ (of_1 (of_v (rf (rt_tick 1 n nl y1 lk u) (31, 1, 0) 0) (rt_tick 1 n nl y1 lk u (31, 19, 0) (40 * s + k)))).toInt ∧ (of_1 (of_v (rf (rt_tick 1 n nl y1 lk u) (31, 1, 0) 0) (rt_tick 1 n nl y1 lk u (31, 19, 0) (40 * s + k)))).toInt ≤ 1000000 := by
        unfold of_v
        split
        · exact of_rng _ _
        · rw [of_0]; decide
      refine ⟨?_, r⟩
      rw [Int32.toInt_add]
      exact fb_bmod (by omega) (by omega)
    have es : (if rm_tick 1 n z1 nl ln lk w (4, 1, 0) 7 = 0 then off else off + oc_1 (rm_tick 1 n z1 nl ln lk w (4, 1, 0) 1) (rm_tick 1 n z1 nl ln lk w (18, s, 0) k)) = off + of_1 (of_v (rf (rt_tick 1 n nl y1 lk u) (31, 1, 0) 0) (rt_tick 1 n nl y1 lk u (31, 19, 0) (40 * s + k))) := by
      unfold of_v
      rw [← t7, ← t1, ← tk, oc_of]
      rcases b7 with b | b
      · rw [if_pos b, if_neg (by rw [b]; decide), of_0, Int32.add_zero]
      · rw [if_neg (by rw [b]; decide), if_pos b]
    obtain ⟨i1, i2, i3⟩ := ih (k + 1) _ _ _ ht (by omega) (by rw [en.1]; omega) (by rw [en.1]; have := en.2.2; omega)
    have j2 : off.toInt ≤ (fo (rt_tick 1 n nl y1 lk) (31, 1, 0) s (d + 1) k off u).1.toInt := by
      rw [fo]
      have := en.1
      have := en.2.1
      omega
    refine ⟨?_, j2, i3⟩
    by_cases c : w (4, 1, 0) 7 = 0
    · rw [ob, if_pos c, fo_dead hn s (d + 1) k off w u h.1 c]
      exact Or.inl rfl
    · by_cases c2 : e ≤ off
      · rw [ob, if_neg c, if_pos c2]
        exact Or.inr ⟨c2, Int32.le_trans c2 (Int32.le_iff_toInt_le.mpr j2)⟩
      · rw [ob, if_neg c, if_neg c2, es]
        exact i1
theorem chg.ob {T : am_iv → am_iv} {s : Nat} {e : Int32} (hT : ∀ w, chg 1 w (T w)) (d : Nat) : ∀ k off w, chg 1 w (_root_.Jvm.Pilot.CSmokeRingsLaw_law_r5279_9afc0a.ob T s e d k off w).2 := by
  induction d with
  | zero => intro k off w; exact chg.rf _ _
  | succ d ih =>
    intro k off w
    rw [_root_.Jvm.Pilot.CSmokeRingsLaw_law_r5279_9afc0a.ob]
    repeat' split
    all_goals first
      | exact chg.rf _ _
      | exact (hT w).tr (ih _ _ _)
theorem chB.ob {T : am_iv → am_iv} {s : Nat} {e : Int32} (hT : ∀ w, chB w (T w)) (d : Nat) : ∀ k off w, chB w (_root_.Jvm.Pilot.CSmokeRingsLaw_law_r5279_9afc0a.ob T s e d k off w).2 := by
  induction d with
  | zero => intro k off w; exact chB.rf _
  | succ d ih =>
    intro k off w
    rw [_root_.Jvm.Pilot.CSmokeRingsLaw_law_r5279_9afc0a.ob]
    repeat' split
    all_goals first
      | exact chB.rf _
      | exact (hT w).tr (ih _ _ _)
theorem chU.fo {T : am_iv → am_iv} {m : am_N} {s : Nat} (hT : ∀ w, chU 1 w (T w)) (d : Nat) : ∀ k off w, chU 1 w (_root_.Jvm.Pilot.CSmokeRingsLaw_law_r5279_9afc0a.fo T m s d k off w).2 := by
  induction d with
  | zero => intro k off w; exact chU.rf _ _
  | succ d ih => intro k off w; exact (hT w).tr (ih _ _ _)
set_option maxRecDepth 20000 in
theorem ob_loop (l : Launch) {kd : am_kd} {rv : am_rv} {iv : am_iv} (hS : sh kd rv) (n nl z1 : Nat) (ln : Nat → am_N) (lk : Nat → Nat) (hl : rm_laws kd rv iv 1 nl ln lk) (s : Nat) (hs : s < 4) (sz : Nat) (hsz : sz ≤ 40) (e : Int32) (d : Nat) : ∀ (k : Nat) (off : Int32) (w : am_iv) (p6 p7 : Option am_V), tQ 1 n nl z1 ln lk w → w (17, s, 0) 1 = nI sz → k + d = sz → am_W l mX11_offBy (am_rm 7 0 0) (am_ret (some (am_I (ob (rm_tick 1 n z1 nl ln lk) s e d k off w).1)) kd rv (ob (rm_tick 1 n z1 nl ln lk) s e d k off w).2) 16 [some (am_P (1, 0, 0)), some (am_P (17, s, 0)), some (am_I e), some (am_P (4, 1, 0)), some (am_I off), some (am_I (nI k)), p6, p7] [] kd rv w 0 0 := by
  induction d with
  | zero =>
    intro k off w p6 p7 hq hz hd
    refine A_iload (pc := 16) (i := 5) dX11_offBy_16 rfl ?_
    refine A_aload_n (pc := 18) (i := 1) dX11_offBy_18 rfl rfl ?_
    refine A_geti (pc := 19) 1 fl_X11_174_5 (hS.k17 hs) rfl dX11_offBy_19 ?_
    refine A_top hz ?_
    refine A_icmpge (pc := 22) 91 dX11_offBy_22 (by decide) (fun hb22 => ?_) (fun hb22 => ?_)
    · refine A_iload (pc := 91) (i := 4) dX11_offBy_91 rfl ?_
      exact A_iretE (pc := 93) dX11_offBy_93 rfl (Nat.zero_le _) (Nat.zero_le _) ((rfl)) ((rfl))
    · exact absurd (nI_le (show sz ≤ k by omega) (by omega)) hb22
  | succ d ih =>
    intro k off w p6 p7 hq hz hd
    have hq2 := tQ.tick (by decide) _ hq
    have hz2 : rm_tick 1 n z1 nl ln lk w (17, s, 0) 1 = nI sz := (chg.tick (17, s, 0) 1 (Or.inl (fun e => by have := e.2.1; simp at this))).trans hz
    refine A_iload (pc := 16) (i := 5) dX11_offBy_16 rfl ?_
    refine A_aload_n (pc := 18) (i := 1) dX11_offBy_18 rfl rfl ?_
    refine A_geti (pc := 19) 1 fl_X11_174_5 (hS.k17 hs) rfl dX11_offBy_19 ?_
    refine A_top hz ?_
    refine A_icmpge (pc := 22) 91 dX11_offBy_22 (by decide) (fun hb22 => ?_) (fun hb22 => ?_)
    · exact absurd hb22 (nI_nge (by omega) (by omega))
    · refine A_aload_n (pc := 25) (i := 3) dX11_offBy_25 rfl rfl ?_
      refine A_geti (pc := 26) 7 fl_X11_87_3 (hS.k4 (by decide) (by decide)) rfl dX11_offBy_26 ?_
      refine A_ifeq (pc := 29) 91 dX11_offBy_29 (by decide) (fun hb29 => ?_) (fun hb29 => ?_)
      · rw [ob, if_pos hb29]
        refine A_iload (pc := 91) (i := 4) dX11_offBy_91 rfl ?_
        exact A_iretE (pc := 93) dX11_offBy_93 rfl (Nat.zero_le _) (Nat.zero_le _) ((rfl)) ((rfl))
      · refine A_iload (pc := 32) (i := 4) dX11_offBy_32 rfl ?_
        refine A_iload_n (pc := 34) (i := 2) dX11_offBy_34 rfl rfl ?_
        refine A_icmpge (pc := 35) 91 dX11_offBy_35 (by decide) (fun hb35 => ?_) (fun hb35 => ?_)
        · rw [ob, if_neg hb29, if_pos hb35]
          refine A_iload (pc := 91) (i := 4) dX11_offBy_91 rfl ?_
          exact A_iretE (pc := 93) dX11_offBy_93 rfl (Nat.zero_le _) (Nat.zero_le _) ((rfl)) ((rfl))
        · refine A_aload_n (pc := 38) (i := 0) dX11_offBy_38 rfl rfl ?_
          refine A_getr (pc := 39) 1 fl_X11_16_11 hS.k1 rfl (hS.w1 (k := 1) (by decide)) dX11_offBy_39 ?_
          refine A_callV0 (pc := 42) cv_X11_241 (s_tk1 l hS hl hq) (hS.k2 (by decide)) rfl rfl rfl rfl (Nat.le_of_ble_eq_true rfl) ⟨(Nat.le_of_ble_eq_true rfl), (Nat.le_of_ble_eq_true rfl)⟩ ⟨Nat.zero_le _, Nat.zero_le _⟩ dX11_offBy_42 ?_
          refine A_aload_n (pc := 45) (i := 3) dX11_offBy_45 rfl rfl ?_
          refine A_geti (pc := 46) 7 fl_X11_87_3 (hS.k4 (by decide) (by decide)) rfl dX11_offBy_46 ?_
          refine A_ifeq (pc := 49) 85 dX11_offBy_49 (by decide) (fun hb49 => ?_) (fun hb49 => ?_)
          · refine A_inc5 (pc := 85) (nI (k + 1)) dX11_offBy_85 (nI_1 k) (Nat.le_of_ble_eq_true rfl) rfl ?_
            refine A_goto (pc := 88) 16 dX11_offBy_88 (by decide) ?_
            rw [ob, if_neg hb29, if_neg hb35, if_pos hb49]
            exact ih (k + 1) _ _ _ _ hq2 hz2 (by omega)
          · refine A_aload_n (pc := 52) (i := 3) dX11_offBy_52 rfl rfl ?_
            refine A_geti (pc := 53) 1 fl_X11_229_3 (hS.k4 (by decide) (by decide)) rfl dX11_offBy_53 ?_
            refine A_i2l (pc := 56) dX11_offBy_56 ?_
            refine A_aload_n (pc := 57) (i := 1) dX11_offBy_57 rfl rfl ?_
            refine A_getr (pc := 58) 0 fl_X11_282_5 (hS.k17 hs) rfl (hS.w17 hs) dX11_offBy_58 ?_
            refine A_iload (pc := 61) (i := 5) dX11_offBy_61 rfl ?_
            refine A_ialdN (pc := 63) (hS.k18 hs) (show k < 40 by omega) (Nat.le_of_ble_eq_true rfl) dX11_offBy_63 ?_
            refine A_i2l (pc := 64) dX11_offBy_64 ?_
            refine A_lsub (pc := 65) dX11_offBy_65 ?_
            refine A_mabsL (pc := 66) cm_X11_326 (Nat.le_of_ble_eq_true rfl) (Nat.le_of_ble_eq_true rfl) (Nat.zero_le _) (Nat.zero_le _) dX11_offBy_66 ?_
            refine A_lst6 (pc := 69) dX11_offBy_69 (Nat.le_of_ble_eq_true rfl) rfl ?_
            refine A_iload (pc := 71) (i := 4) dX11_offBy_71 rfl ?_
            refine A_lload (pc := 73) (i := 6) dX11_offBy_73 rfl ?_
            refine A_ldc2 (pc := 75) (List.mem_cons_of_mem _ kc_X11_330) dX11_offBy_75 ?_
            refine A_mminL (pc := 78) cm_X11_332 (Nat.le_of_ble_eq_true rfl) (Nat.le_of_ble_eq_true rfl) (Nat.zero_le _) (Nat.zero_le _) dX11_offBy_78 ?_
            refine A_l2i (pc := 81) dX11_offBy_81 ?_
            refine A_iadd (pc := 82) dX11_offBy_82 ?_
            refine A_ist4 (pc := 83) dX11_offBy_83 (Nat.le_of_ble_eq_true rfl) rfl ?_
            refine A_inc5 (pc := 85) (nI (k + 1)) dX11_offBy_85 (nI_1 k) (Nat.le_of_ble_eq_true rfl) rfl ?_
            refine A_goto (pc := 88) 16 dX11_offBy_88 (by decide) ?_
            rw [ob, if_neg hb29, if_neg hb35, if_neg hb49]
            exact ih (k + 1) _ _ _ _ hq2 hz2 (by omega)
set_option maxRecDepth 20000 in
theorem s_offBy (l : Launch) {kd : am_kd} {rv : am_rv} {iv w : am_iv} (hS : sh kd rv) (n nl z1 : Nat) (ln : Nat → am_N) (lk : Nat → Nat) (hl : rm_laws kd rv iv 1 nl ln lk) (s : Nat) (hs : s < 4) (sz : Nat) (hsz : sz ≤ 40) (e : Int32) (hq : tQ 1 n nl z1 ln lk w) (hz : w (17, s, 0) 1 = nI sz) : am_Met l mX11_offBy (am_rm 7 0 0) [am_P (1, 0, 0), am_P (17, s, 0), am_I e] kd rv w (am_ret (some (am_I (ob (rm_tick 1 n z1 nl ln lk) s e sz 0 0 w).1)) kd rv (ob (rm_tick 1 n z1 nl ln lk) s e sz 0 0 w).2) := by
  refine am_Met.of (by decide) (Nat.le_of_ble_eq_true rfl) rfl ?_
  refine A_aload_n (pc := 0) (i := 0) dX11_offBy_0 rfl rfl ?_
  refine A_getr (pc := 1) 1 fl_X11_16_11 hS.k1 rfl (hS.w1 (k := 1) (by decide)) dX11_offBy_1 ?_
  refine A_getr (pc := 4) 0 fl_X11_78_4 (hS.k2 (by decide)) rfl (hS.w2_0 (by decide)) dX11_offBy_4 ?_
  refine A_iconst (pc := 7) (0) dX11_offBy_7 (by decide) ?_
  refine A_aaldN (pc := 8) (hS.k3 (by decide)) (by decide) (by decide) (by decide) (by decide) (hS.w3 (by decide) (by decide)) dX11_offBy_8 ?_
  refine A_ast3 (pc := 9) dX11_offBy_9 (Nat.le_of_ble_eq_true rfl) rfl ?_
  refine A_iconst (pc := 10) (0) dX11_offBy_10 (by decide) ?_
  refine A_ist4 (pc := 11) dX11_offBy_11 (Nat.le_of_ble_eq_true rfl) rfl ?_
  refine A_iconst (pc := 13) (0) dX11_offBy_13 (by decide) ?_
  refine A_ist5 (pc := 14) dX11_offBy_14 (Nat.le_of_ble_eq_true rfl) rfl ?_
  exact ob_loop l hS n nl z1 ln lk hl s hs sz hsz e sz 0 0 w none none hq hz (Nat.zero_add sz)
theorem fe_err {kd : am_kd} {rv : am_rv} {iv u : am_iv} (hu : REL kd rv iv u) {a b : Int32} (h : (a = -1000000001 ∧ b = 1) ∨ (a = -1000000002 ∧ b = 2)) : SM kd rv iv u (a, rv, er_heap (if a = -1000000001 then 1 else 2) iv) (if b = 1 then -1000000001 else -1000000002, rx_find (if b = 1 then 1 else 2) u) := by
  rcases h with ⟨rfl, rfl⟩ | ⟨rfl, rfl⟩
  · rw [if_pos rfl, if_pos rfl, if_pos rfl]; exact SM.err hu _ 1 (by decide)
  · rw [if_neg (by decide), if_neg (by decide), if_neg (by decide)]; exact SM.err hu _ 2 (by decide)
theorem film_0 {kd : am_kd} {rv : am_rv} {n nl : Nat} {ln : Nat → am_N} {lk : Nat → Nat} {z0 y0 z1 y1 zt zw : Nat} {w u : am_iv} (h : rX kd rv 0 0 n nl ln lk z0 y0 z1 y1 zt zw w u) (hn : ¬ w (2, 0, 0) 1 = 0) : 0 < n := by
  rcases Nat.eq_zero_or_pos n with e | e
  · subst e
    exact absurd (h.1.1.1.trans nI_0) hn
  · exact e
noncomputable def c_off (x : Int32) (sz n nl z0 z1 zt zw : Nat) (ln : Nat → am_N) (lk : Nat → Nat) (rv : am_rv) (iv : am_iv) : Int32 × am_rv × am_iv := if fe_c x iv = 0 then ((ob (rm_tick 1 n z1 nl ln lk) x.toNatClampNeg 40000001 sz 0 0 (rb_heap 1 0 n z0 z1 zt zw iv)).1, (lw_cp 1 0 rv 6), (ob (rm_tick 1 n z1 nl ln lk) x.toNatClampNeg 40000001 sz 0 0 (rb_heap 1 0 n z0 z1 zt zw iv)).2) else (fe_c x iv, rv, er_heap (if fe_c x iv = -1000000001 then 1 else 2) iv)
set_option maxRecDepth 20000 in
theorem p_off (l : Launch) {kd : am_kd} {rv : am_rv} {iv : am_iv} (hS : sh kd rv) (x : Int32) (sz : Nat) (hz : x.toNatClampNeg < 4 → sz ≤ 40 ∧ iv (17, x.toNatClampNeg, 0) 1 = nI sz) (n nl z0 z1 zt zw : Nat) (ln : Nat → am_N) (lk : Nat → Nat) (hA : AH kd rv n z0 z1 zt zw iv) (hl : rm_laws kd (lw_cp 1 0 rv 6) (rb_heap 1 0 n z0 z1 zt zw iv) 1 nl ln lk) (hq : tQ 1 n nl z1 ln lk (rb_heap 1 0 n z0 z1 zt zw iv)) : am_Met l mX11_off (am_rm 8 0 0) [am_P (1, 0, 0), am_I x] kd rv iv (am_ret (some (am_I (c_off x sz n nl z0 z1 zt zw ln lk rv iv).1)) kd (c_off x sz n nl z0 z1 zt zw ln lk rv iv).2.1 (c_off x sz n nl z0 z1 zt zw ln lk rv iv).2.2) := by
  refine am_Met.of (by decide) (Nat.le_of_ble_eq_true rfl) rfl ?_
  refine A_aload_n (pc := 0) (i := 0) dX11_off_0 rfl rfl ?_
  refine A_iload_n (pc := 1) (i := 1) dX11_off_1 rfl rfl ?_
  refine A_callV1 (pc := 2) cv_X11_255 (s_filmError l hS x) hS.k1 rfl rfl rfl rfl (Nat.le_of_ble_eq_true rfl) ⟨(Nat.le_of_ble_eq_true rfl), (Nat.le_of_ble_eq_true rfl)⟩ ⟨Nat.zero_le _, Nat.zero_le _⟩ dX11_off_2 ?_
  refine A_top (y := fe_c x iv) rfl ?_
  refine A_ist2 (pc := 5) dX11_off_5 (Nat.le_of_ble_eq_true rfl) rfl ?_
  refine A_iload_n (pc := 6) (i := 2) dX11_off_6 rfl rfl ?_
  refine A_ifeq (pc := 7) 16 dX11_off_7 (by decide) (fun hb7 => ?_) (fun hb7 => ?_)
  · obtain ⟨hx, hx4, -⟩ := fe_x hb7
    obtain ⟨hz40, hz1⟩ := hz hx4
    refine A_aload_n (pc := 16) (i := 0) dX11_off_16 rfl rfl ?_
    refine A_getr (pc := 17) 1 fl_X11_16_11 hS.k1 rfl (hS.w1 (k := 1) (by decide)) dX11_off_17 ?_
    refine A_aload_n (pc := 20) (i := 0) dX11_off_20 rfl rfl ?_
    refine A_getr (pc := 21) 0 fl_X11_12_11 hS.k1 rfl (hS.w1 (k := 0) (by decide)) dX11_off_21 ?_
    refine A_callV0 (pc := 24) cv_X11_220 (s_bec l hS hA) (hS.k2 (by decide)) rfl rfl rfl rfl (Nat.le_of_ble_eq_true rfl) ⟨(Nat.le_of_ble_eq_true rfl), (Nat.le_of_ble_eq_true rfl)⟩ ⟨Nat.zero_le _, Nat.zero_le _⟩ dX11_off_24 ?_
    have hS := lw_cp_sh (i := 1) (o := 0) hS 6
    refine A_aload_n (pc := 27) (i := 0) dX11_off_27 rfl rfl ?_
    refine A_aload_n (pc := 28) (i := 0) dX11_off_28 rfl rfl ?_
    refine A_getr (pc := 29) 5 fl_X11_31_11 hS.k1 rfl hS.w1_5 dX11_off_29 ?_
    refine A_iload_n (pc := 32) (i := 1) dX11_off_32 rfl rfl ?_
    refine A_top (nI_cl hx.1) ?_
    refine A_aaldN (pc := 33) hS.k16 (by decide) (by decide) hx4 (by decide) (hS.w16 hx4) dX11_off_33 ?_
    refine A_ldcw (pc := 34) (List.mem_cons_of_mem _ kc_X11_258) dX11_off_34 ?_
    refine A_callV1 (pc := 37) cv_X11_259 (s_offBy l hS n nl z1 ln lk hl x.toNatClampNeg hx4 sz hz40 _ hq ((chg.rb (17, x.toNatClampNeg, 0) 1 (Or.inl (fun e => by have := e.2.1; simp at this))).trans hz1)) hS.k1 rfl rfl rfl rfl (Nat.le_of_ble_eq_true rfl) ⟨(Nat.le_of_ble_eq_true rfl), (Nat.le_of_ble_eq_true rfl)⟩ ⟨Nat.zero_le _, Nat.zero_le _⟩ dX11_off_37 ?_
    rw [c_off, if_pos hb7]
    exact A_iretE (pc := 40) dX11_off_40 rfl (Nat.zero_le _) (Nat.zero_le _) ((rfl)) ((rfl))
  · refine A_aload_n (pc := 10) (i := 0) dX11_off_10 rfl rfl ?_
    refine A_iload_n (pc := 11) (i := 2) dX11_off_11 rfl rfl ?_
    refine A_callV1 (pc := 12) cv_X11_61 (s_err12 l hS (fe_c12 hb7)) hS.k1 rfl rfl rfl rfl (Nat.le_of_ble_eq_true rfl) ⟨(Nat.le_of_ble_eq_true rfl), (Nat.le_of_ble_eq_true rfl)⟩ ⟨Nat.zero_le _, Nat.zero_le _⟩ dX11_off_12 ?_
    rw [c_off, if_neg hb7]
    exact A_iretE (pc := 15) dX11_off_15 rfl (Nat.zero_le _) (Nat.zero_le _) ((rfl)) ((rfl))
noncomputable def d_off (x : Int32) (sz n nl z : Nat) (lk : Nat → Nat) (iv : am_iv) : Int32 × am_iv := if fe_r x iv = 0 then (fo (rt_tick 1 n nl z lk) (31, 1, 0) x.toNatClampNeg sz 0 0 (rx_cp (31, 0, 0) (31, 1, 0) iv 300)) else (if fe_r x iv = 1 then -1000000001 else -1000000002, rx_find (if fe_r x iv = 1 then 1 else 2) iv)
set_option maxRecDepth 20000 in
theorem q_off (l : Launch) {kd : am_kd} {rv : am_rv} {iv : am_iv} (hR : shr kd rv) (x : Int32) (sz : Nat) (hz : x.toNatClampNeg < 4 → sz ≤ 40 ∧ iv (31, 18, 0) x.toNatClampNeg = nI sz) (n nl z : Nat) (lk : Nat → Nat) (hn : iv (31, 0, 0) 1 = nI n) (hn8 : n ≤ 8) (hq : rQ 1 n nl z lk (rx_cp (31, 0, 0) (31, 1, 0) iv 300)) : am_Met l mX12_off (am_rm 50 0 0) [am_P (30, 0, 0), am_I x] kd rv iv (am_ret (some (am_I (d_off x sz n nl z lk iv).1)) kd rv (d_off x sz n nl z lk iv).2) := by
  refine am_Met.of (by decide) (Nat.le_of_ble_eq_true rfl) rfl ?_
  refine A_aload_n (pc := 0) (i := 0) dX12_off_0 rfl rfl ?_
  refine A_iload_n (pc := 1) (i := 1) dX12_off_1 rfl rfl ?_
  refine A_callV1 (pc := 2) cv_X12_270 (r_whyNoFilm l hR x) hR.1 rfl rfl rfl rfl (Nat.le_of_ble_eq_true rfl) ⟨(Nat.le_of_ble_eq_true rfl), (Nat.le_of_ble_eq_true rfl)⟩ ⟨Nat.zero_le _, Nat.zero_le _⟩ dX12_off_2 ?_
  refine A_top (y := fe_r x iv) rfl ?_
  refine A_ist2 (pc := 5) dX12_off_5 (Nat.le_of_ble_eq_true rfl) rfl ?_
  refine A_iload_n (pc := 6) (i := 2) dX12_off_6 rfl rfl ?_
  refine A_ifeq (pc := 7) 16 dX12_off_7 (by decide) (fun hb7 => ?_) (fun hb7 => ?_)
  · obtain ⟨hx, hx4⟩ := fe_y hb7
    obtain ⟨hz40, hz1⟩ := hz hx4
    refine A_aload_n (pc := 16) (i := 0) dX12_off_16 rfl rfl ?_
    refine A_getr (pc := 17) 0 fl_X12_7_12 hR.1 rfl hR.w0 dX12_off_17 ?_
    refine A_aload_n (pc := 20) (i := 0) dX12_off_20 rfl rfl ?_
    refine A_getr (pc := 21) 1 fl_X12_13_12 hR.1 rfl hR.w1 dX12_off_21 ?_
    refine A_callS0 (pc := 24) cs_X12_240 (r_copies l (31, 0, 0) (31, 1, 0) hR.k0 hR.k1 (by simp)) rfl rfl (Nat.le_of_ble_eq_true rfl) ⟨(Nat.le_of_ble_eq_true rfl), (Nat.le_of_ble_eq_true rfl)⟩ ⟨Nat.zero_le _, Nat.zero_le _⟩ dX12_off_24 ?_
    refine A_aload_n (pc := 27) (i := 0) dX12_off_27 rfl rfl ?_
    refine A_aload_n (pc := 28) (i := 0) dX12_off_28 rfl rfl ?_
    refine A_getr (pc := 29) 1 fl_X12_13_12 hR.1 rfl hR.w1 dX12_off_29 ?_
    refine A_iload_n (pc := 32) (i := 1) dX12_off_32 rfl rfl ?_
    refine A_top (nI_cl hx.1) ?_
    refine A_callV1 (pc := 33) cv_X12_273 (r_offIn l hR 1 (by decide) hR.k1 n nl z lk (fun w => rQ 1 n nl z lk w ∧ w (31, 18, 0) x.toNatClampNeg = nI sz) (fun w h => rQ.ref w h.1) (fun w h => ⟨rQ.tick (by decide) w h.1, (chU.tick (31, 18, 0) x.toNatClampNeg (by simp) (by simp) (by simp) (by simp)).trans h.2⟩) ⟨hq, (rx_cp_o (by simp)).trans hz1⟩ x.toNatClampNeg sz hx4 hz40 (fun w h => h.2)) hR.1 rfl rfl rfl rfl (Nat.le_of_ble_eq_true rfl) ⟨(Nat.le_of_ble_eq_true rfl), (Nat.le_of_ble_eq_true rfl)⟩ ⟨Nat.zero_le _, Nat.zero_le _⟩ dX12_off_33 ?_
    exact A_iretE (pc := 36) dX12_off_36 rfl (Nat.zero_le _) (Nat.zero_le _) (by rw [d_off, if_pos hb7]) (by rw [d_off, if_pos hb7])
  · refine A_aload_n (pc := 10) (i := 0) dX12_off_10 rfl rfl ?_
    refine A_iload_n (pc := 11) (i := 2) dX12_off_11 rfl rfl ?_
    refine A_callV1 (pc := 12) cv_X12_65 (r_fnd12 l hR (fe_r12 hb7)) hR.1 rfl rfl rfl rfl (Nat.le_of_ble_eq_true rfl) ⟨(Nat.le_of_ble_eq_true rfl), (Nat.le_of_ble_eq_true rfl)⟩ ⟨Nat.zero_le _, Nat.zero_le _⟩ dX12_off_12 ?_
    exact A_iretE (pc := 15) dX12_off_15 rfl (Nat.zero_le _) (Nat.zero_le _) (by rw [d_off, if_neg hb7]) (by rw [d_off, if_neg hb7])
theorem call_off (l : Launch) {kd : am_kd} {rv : am_rv} {iv : am_iv} (h : REL kd rv iv iv) (x : Int32) : CALL l kd rv iv mX11_off mX12_off [am_I x] := by
  obtain ⟨n, nl, ln, lk, z0, y0, z1, y1, zt, zw, hX⟩ := h.n
  obtain ⟨sz, hsz⟩ := h.2.1.1.f
  have hA := hX.AH h.1
  have hn8 := hX.1.1.2.2
  have hB := hX.b0 (h.z (i := 1) (by decide))
  have hl := hB.1.laws
  have hq : tQ 1 n nl z1 ln lk (rb_heap 1 0 n z0 z1 zt zw iv) := ⟨y1, _, ah_tR hX (h.z (i := 1) (by decide))⟩
  refine CALL.fs (d2 := 50) h (c_off x (sz x.toNatClampNeg) n nl z0 z1 zt zw ln lk rv iv) (d_off x (sz x.toNatClampNeg) n nl y1 lk) (p_off l h.S x (sz x.toNatClampNeg) (fun hx => ⟨(hsz _ hx).2.1, (hsz _ hx).2.2.1⟩) n nl z0 z1 zt zw ln lk hA hl hq) (fun hR h1 eu => ?_) (by decide) (by decide) (fun u hu eu => ?_)
  · have hX := hX.u eu
    have hz := h1.z (i := 1) (by decide)
    have hq : rQ 1 n nl y1 lk (rx_cp (31, 0, 0) (31, 1, 0) _ 300) := ⟨z1, ln, _, ah_tR hX (h.z (i := 1) (by decide))⟩
    exact q_off l hR x (sz x.toNatClampNeg) (fun hx => ⟨(hsz _ hx).2.1, (eu _ _ (Or.inr rfl)).trans (hsz _ hx).2.2.2.1⟩) n nl y1 lk hX.1.1.2.1 hn8 hq
  · have hX := hX.u eu
    have hz := hu.z (i := 1) (by decide)
    have hT := ah_tR hX hz
    have hs17 : ∀ s, u (31, 17, 0) s = iv (31, 17, 0) s := fun s => eu _ _ (Or.inr rfl)
    have hs18 : ∀ s, u (31, 18, 0) s = iv (31, 18, 0) s := fun s => eu _ _ (Or.inr rfl)
    have hs19 : ∀ s, u (31, 19, 0) s = iv (31, 19, 0) s := fun s => eu _ _ (Or.inr rfl)
    unfold c_off d_off
    rcases fe_cr (x := x) (iv := iv) (u := u) (fun s hs => (hsz s hs).1.trans (hs17 s).symm) (hX.1.1.1.trans hX.1.1.2.1.symm) with ⟨e1, e2⟩ | e12
    · rw [if_pos e1, if_pos e2]
      obtain ⟨hx, hx4, hn0⟩ := fe_x e1
      have hn := film_0 hX hn0
      obtain ⟨b1, b2, b3, b4, b5⟩ := hsz _ hx4
      have hG : gF n nl z1 y1 ln lk x.toNatClampNeg (sz x.toNatClampNeg) (rb_heap 1 0 n z0 z1 zt zw iv) (rx_cp (31, 0, 0) (31, 1, 0) u 300) := ⟨hT, fun k hk => by
        rw [chg.rb (18, x.toNatClampNeg, 0) k (Or.inl (fun e => by have := e.2.1; simp at this)), rx_cp_o (by simp), hs19]
        exact b5 k hk⟩
      obtain ⟨g1, g2, g3⟩ := ob_fo hn x.toNatClampNeg (sz x.toNatClampNeg) b2 40000001 (sz x.toNatClampNeg) 0 0 _ _ hG (Nat.zero_add _) (by decide) (by decide)
      refine SM.of hu ⟨?_, _, _, (chg.rb.tr (chg.ob (fun w => chg.tick) _ _ _ _)).T1, (chU.cp.tr (chU.fo (fun w => chU.tick) _ _ _ _)).V1, Or.inl ⟨rfl, rfl⟩⟩
      rcases g1 with g | ⟨-, g⟩
      · exact g
      · have g4 := Int32.le_iff_toInt_le.mp g
        rw [show (40000001 : Int32).toInt = 40000001 by decide] at g4
        omega
    · have n1 : ¬ fe_c x iv = 0 := fun z => by rcases e12 with e | e <;> rw [e.1] at z <;> exact absurd z (by decide)
      have n2 : ¬ fe_r x u = 0 := fun z => by rcases e12 with e | e <;> rw [e.2] at z <;> exact absurd z (by decide)
      rw [if_neg n1, if_neg n2]
      exact fe_err hu e12
