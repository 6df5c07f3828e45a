/-! The reader of the reference: a state is the place, the fault (below 0: none), how many are open -/
abbrev ps : Type := Nat × Int32 × Nat
def ph (t : Nat → Int32) (n : Nat) (s : ps) : Int32 := if s.1 < n then (if s.2.1 < 0 then t s.1 else -1) else -1
def pw (s : ps) : ps := (s.1, (if s.2.1 < 0 then nI s.1 else s.2.1), s.2.2)
def pa (s : ps) : ps := (s.1 + 1, s.2.1, s.2.2)
def pl (t : Nat → Int32) (n : Nat) (h : Int32 → Bool) (U : ps → Int32 × ps) : Nat → Int32 × ps → Int32 × ps
  | 0, x => x
  | k + 1, x => if h (ph t n x.2) = true then pl t n h U k (tx_res (ph t n x.2) x.1 (U (pa x.2)).1, (U (pa x.2)).2) else x
def isM (c : Int32) : Bool := decide (c = 42 ∨ c = 47 ∨ c = 37)
def isA (c : Int32) : Bool := decide (c = 43 ∨ c = 45)
def isC (c : Int32) : Bool := decide (c = 60 ∨ c = 61 ∨ c = 62)
def isN (c : Int32) : Bool := decide (c = 38)
def isO (c : Int32) : Bool := decide (c = 124)
def pP (t : Nat → Int32) (n : Nat) (U : ps → Int32 × ps) (s : ps) : Int32 × ps := pl t n isM U n (U s)
def pS (t : Nat → Int32) (n : Nat) (U : ps → Int32 × ps) (s : ps) : Int32 × ps := pl t n isA U n (U s)
def pC (t : Nat → Int32) (n : Nat) (U : ps → Int32 × ps) (s : ps) : Int32 × ps := if isC (ph t n (U s).2) = true then (tx_res (ph t n (U s).2) (U s).1 (U (pa (U s).2)).1, (U (pa (U s).2)).2) else U s
def pB (t : Nat → Int32) (n : Nat) (U : ps → Int32 × ps) (s : ps) : Int32 × ps := pl t n isN U n (U s)
def pO (t : Nat → Int32) (n : Nat) (U : ps → Int32 × ps) (s : ps) : Int32 × ps := pl t n isO U n (U s)
def pE (t : Nat → Int32) (n : Nat) (U : ps → Int32 × ps) (s : ps) : Int32 × ps := pO t n (pB t n (pC t n (pS t n (pP t n U)))) s
def pnm (g c : Int32) : Int32 := if g = 0 then (if c = 116 then 0 else if c = 119 then 1 else if c = 107 then 2 else -1) else (if c = 108 then 0 else if c = 113 then 1 else if c = 104 then 2 else -1)
def pd (t : Nat → Int32) (n : Nat) (f : Int32) (o : Nat) : Nat → Int32 → Nat → Int32 × Nat
  | 0, v, p => (v, p)
  | k + 1, v, p => if 48 ≤ ph t n (p, f, o) ∧ ph t n (p, f, o) ≤ 57 then pd t n f o k (10 * v + ph t n (p, f, o) - 48) (p + 1) else (v, p)
def pnum (t : Nat → Int32) (n : Nat) (s : ps) : Int32 × ps := if (pd t n s.2.1 s.2.2 4 0 s.1).2 = s.1 then (0, pw s) else ((pd t n s.2.1 s.2.2 4 0 s.1).1, ((pd t n s.2.1 s.2.2 4 0 s.1).2, s.2.1, s.2.2))
def pleaf (t : Nat → Int32) (n : Nat) (g : Int32) (nm : Nat → Int32) (s : ps) : Int32 × ps := if pnm g (ph t n s) < 0 then pnum t n s else (nm (pnm g (ph t n s)).toNatClampNeg, pa s)
def pin (t : Nat → Int32) (n : Nat) (U : ps → Int32 × ps) (s : ps) : Int32 × ps :=
  if ph t n s = 40 then (if ph t n (pE t n U (s.1 + 1, s.2.1, s.2.2 + 1)).2 = 41 then ((pE t n U (s.1 + 1, s.2.1, s.2.2 + 1)).1, ((pE t n U (s.1 + 1, s.2.1, s.2.2 + 1)).2.1 + 1, (pE t n U (s.1 + 1, s.2.1, s.2.2 + 1)).2.2.1, (pE t n U (s.1 + 1, s.2.1, s.2.2 + 1)).2.2.2 - 1)) else (0, pw (pE t n U (s.1 + 1, s.2.1, s.2.2 + 1)).2))
  else (sr_b ((U (s.1 + 1, s.2.1, s.2.2 + 1)).1 = 0), ((U (s.1 + 1, s.2.1, s.2.2 + 1)).2.1, (U (s.1 + 1, s.2.1, s.2.2 + 1)).2.2.1, (U (s.1 + 1, s.2.1, s.2.2 + 1)).2.2.2 - 1))
def pU (t : Nat → Int32) (n : Nat) (g : Int32) (nm : Nat → Int32) : Nat → ps → Int32 × ps
  | 0, s => if ph t n s = 33 ∨ ph t n s = 40 then (0, pw s) else pleaf t n g nm s
  | D + 1, s => if ph t n s = 33 ∨ ph t n s = 40 then (if s.2.2 = 5 then (0, pw s) else pin t n (pU t n g nm D) s) else pleaf t n g nm s
/-- where a reading leads: on, not beyond the end -/
def pg (n : Nat) (s s' : ps) : Prop := s.1 ≤ s'.1 ∧ s'.1 ≤ n ∧ s.2.2 ≤ s'.2.2 ∧ s'.2.2 ≤ 5
def pG (n : Nat) (U : ps → Int32 × ps) : Prop := ∀ s : ps, s.1 ≤ n → s.2.2 ≤ 5 → pg n s (U s).2
theorem ph_in {t : Nat → Int32} {n : Nat} {s : ps} (h : ¬ ph t n s = -1) : s.1 < n := by
  rcases Nat.lt_or_ge s.1 n with q | q
  · exact q
  · exact absurd (show ph t n s = -1 by rw [ph, if_neg (by omega)]) h
theorem ph_out {t : Nat → Int32} {n : Nat} {s : ps} (h : n ≤ s.1) : ph t n s = -1 := by rw [ph, if_neg (by omega)]
theorem pg.trans {n : Nat} {a b c : ps} (h1 : pg n a b) (h2 : pg n b c) : pg n a c := ⟨Nat.le_trans h1.1 h2.1, h2.2.1, Nat.le_trans h1.2.2.1 h2.2.2.1, h2.2.2.2⟩
theorem pg_pa {t : Nat → Int32} {n : Nat} {s : ps} (h : ¬ ph t n s = -1) (h5 : s.2.2 ≤ 5) : pg n s (pa s) := ⟨Nat.le_succ _, ph_in h, Nat.le_refl _, h5⟩
theorem pl_G {t : Nat → Int32} {n : Nat} {h : Int32 → Bool} {U : ps → Int32 × ps} (hU : pG n U) (hh : h (-1) = false) : ∀ (k : Nat) (x : Int32 × ps), x.2.1 ≤ n → x.2.2.2 ≤ 5 → pg n x.2 (pl t n h U k x).2 := by
  intro k
  induction k with
  | zero => intro x h1 h2; exact ⟨Nat.le_refl _, h1, Nat.le_refl _, h2⟩
  | succ k ih =>
    intro x h1 h2
    unfold pl
    split
    · rename_i q
      have g1 : pg n x.2 (pa x.2) := pg_pa (t := t) (fun e => by rw [e, hh] at q; exact absurd q (by decide)) h2
      have g2 := hU (pa x.2) g1.2.1 g1.2.2.2
      exact (g1.trans g2).trans (ih (tx_res (ph t n x.2) x.1 (U (pa x.2)).1, (U (pa x.2)).2) g2.2.1 g2.2.2.2)
    · exact ⟨Nat.le_refl _, h1, Nat.le_refl _, h2⟩
theorem pl0_G {t : Nat → Int32} {n : Nat} {h : Int32 → Bool} {U : ps → Int32 × ps} (hU : pG n U) (hh : h (-1) = false) : pG n (fun s => pl t n h U n (U s)) := fun s h1 h2 =>
  (hU s h1 h2).trans (pl_G hU hh n (U s) (hU s h1 h2).2.1 (hU s h1 h2).2.2.2)
theorem pP_G {t : Nat → Int32} {n : Nat} {U : ps → Int32 × ps} (hU : pG n U) : pG n (pP t n U) := pl0_G hU (by decide)
theorem pS_G {t : Nat → Int32} {n : Nat} {U : ps → Int32 × ps} (hU : pG n U) : pG n (pS t n U) := pl0_G hU (by decide)
theorem pB_G {t : Nat → Int32} {n : Nat} {U : ps → Int32 × ps} (hU : pG n U) : pG n (pB t n U) := pl0_G hU (by decide)
theorem pO_G {t : Nat → Int32} {n : Nat} {U : ps → Int32 × ps} (hU : pG n U) : pG n (pO t n U) := pl0_G hU (by decide)
theorem pC_G {t : Nat → Int32} {n : Nat} {U : ps → Int32 × ps} (hU : pG n U) : pG n (pC t n U) := fun s h1 h2 => by
  have g := hU s h1 h2
  unfold pC
  split
  · rename_i q
    have g1 : pg n (U s).2 (pa (U s).2) := pg_pa (t := t) (fun e => by rw [e] at q; exact absurd q (by decide)) g.2.2.2
    exact (g.trans g1).trans (hU _ g1.2.1 g1.2.2.2)
  · exact g
theorem pE_G {t : Nat → Int32} {n : Nat} {U : ps → Int32 × ps} (hU : pG n U) : pG n (pE t n U) := pO_G (pB_G (pC_G (pS_G (pP_G hU))))
theorem pd_G {t : Nat → Int32} {n : Nat} {f : Int32} {o : Nat} : ∀ (k : Nat) (v : Int32) (p : Nat), p ≤ n → p ≤ (pd t n f o k v p).2 ∧ (pd t n f o k v p).2 ≤ n ∧ (pd t n f o k v p).2 ≤ p + k := by
  intro k
  induction k with
  | zero => intro v p h; exact ⟨Nat.le_refl _, h, Nat.le_refl _⟩
  | succ k ih =>
    intro v p h
    unfold pd
    split
    · rename_i q
      have h1 : p < n := ph_in (t := t) (s := (p, f, o)) (fun e => by rw [e] at q; exact absurd q (by decide))
      have := ih (10 * v + ph t n (p, f, o) - 48) (p + 1) h1
      omega
    · exact ⟨Nat.le_refl _, h, by omega⟩
theorem pnm_neg (g : Int32) : pnm g (-1) = -1 := by
  unfold pnm
  split <;> decide
theorem pleaf_G {t : Nat → Int32} {n : Nat} {g : Int32} {nm : Nat → Int32} : pG n (pleaf t n g nm) := fun s h1 h2 => by
  unfold pleaf
  split
  · unfold pnum
    split
    · exact ⟨Nat.le_refl _, h1, Nat.le_refl _, h2⟩
    · have := pd_G (t := t) (n := n) (f := s.2.1) (o := s.2.2) 4 0 s.1 h1
      exact ⟨this.1, this.2.1, Nat.le_refl _, h2⟩
  · rename_i q
    exact pg_pa (t := t) (fun e => q (by rw [e, pnm_neg]; decide)) h2
theorem pin_G {t : Nat → Int32} {n : Nat} {U : ps → Int32 × ps} (hU : pG n U) {s : ps} (hs : s.1 < n) (h5 : s.2.2 < 5) : pg n s (pin t n U s).2 := by
  have ge := pE_G (t := t) hU (s.1 + 1, s.2.1, s.2.2 + 1) hs h5
  have gu := hU (s.1 + 1, s.2.1, s.2.2 + 1) hs h5
  obtain ⟨e1, e2, e3, e4⟩ := ge
  obtain ⟨u1, u2, u3, u4⟩ := gu
  simp only at e1 e3 u1 u3
  unfold pin
  split
  · split
    · rename_i q
      have := ph_in (t := t) (fun e => by rw [e] at q; exact absurd q (by decide))
      exact ⟨by simp only; omega, this, by simp only; omega, by simp only; omega⟩
    · exact ⟨by simp only [pw]; omega, e2, by simp only [pw]; omega, e4⟩
  · exact ⟨by simp only; omega, u2, by simp only; omega, by simp only; omega⟩
theorem pU_G {t : Nat → Int32} {n : Nat} {g : Int32} {nm : Nat → Int32} (D : Nat) : pG n (pU t n g nm D) := by
  induction D with
  | zero =>
    intro s h1 h2
    unfold pU
    split
    · exact ⟨Nat.le_refl _, h1, Nat.le_refl _, h2⟩
    · exact pleaf_G s h1 h2
  | succ D ih =>
    intro s h1 h2
    unfold pU
    split
    · rename_i q
      split
      · exact ⟨Nat.le_refl _, h1, Nat.le_refl _, h2⟩
      · exact pin_G ih (ph_in (t := t) (fun e => by rw [e] at q; exact absurd q (by decide))) (by omega)
    · exact pleaf_G s h1 h2
/-- the heap in which the reader stands at s -/
def hp (iv : am_iv) (s : ps) : am_iv := fun n k => if n = (30, 0, 0) then (if k = 8 then nI s.1 else if k = 10 then s.2.1 else if k = 11 then nI s.2.2 else iv n k) else iv n k
theorem hp_8 {iv : am_iv} {s : ps} (x : Nat) : am_ui (hp iv s) (30, 0, 0) 8 (nI x) = hp iv (x, s.2.1, s.2.2) := by
  funext n k
  simp only [am_ui, hp]
  by_cases e : n = (30, 0, 0)
  · by_cases q : k = 8 <;> simp [e, q]
  · simp [e]
theorem hp_10 {iv : am_iv} {s : ps} (x : Int32) : am_ui (hp iv s) (30, 0, 0) 10 x = hp iv (s.1, x, s.2.2) := by
  funext n k
  simp only [am_ui, hp]
  by_cases e : n = (30, 0, 0)
  · by_cases q : k = 10 <;> simp [e, q]
  · simp [e]
theorem hp_11 {iv : am_iv} {s : ps} (x : Nat) : am_ui (hp iv s) (30, 0, 0) 11 (nI x) = hp iv (s.1, s.2.1, x) := by
  funext n k
  simp only [am_ui, hp]
  by_cases e : n = (30, 0, 0)
  · by_cases q : k = 11 <;> simp [e, q]
  · simp [e]
theorem hp_o {iv : am_iv} {s : ps} {n : am_N} {k : Nat} (h : n ≠ (30, 0, 0)) : hp iv s n k = iv n k := if_neg h
theorem hp_k {iv : am_iv} {s : ps} {k : Nat} (h8 : k ≠ 8) (h10 : k ≠ 10) (h11 : k ≠ 11) : hp iv s (30, 0, 0) k = iv (30, 0, 0) k := by simp [hp, h8, h10, h11]
theorem hp_r8 {iv : am_iv} {s : ps} : hp iv s (30, 0, 0) 8 = nI s.1 := by simp [hp]
theorem hp_r10 {iv : am_iv} {s : ps} : hp iv s (30, 0, 0) 10 = s.2.1 := by simp [hp]
theorem hp_r11 {iv : am_iv} {s : ps} : hp iv s (30, 0, 0) 11 = nI s.2.2 := by simp [hp]
theorem rm_ge {a L d : Nat} (h : a ≤ d) (hL : L ≤ 41) : a + 1 ≤ (am_rm (d + 1) 0 0).frames ∧ 8 + (L + 11) + 60 * a ≤ (am_rm (d + 1) 0 0).locals := ⟨by show a + 1 ≤ d + 1; omega, by show _ ≤ 60 * (d + 1); omega⟩
set_option maxRecDepth 20000 in
theorem r_here (l : Launch) {kd : am_kd} {rv : am_rv} {iv : am_iv} (hR : shr kd rv) (b n : Nat) (h7 : iv (30, 0, 0) 7 = nI b) (h9 : iv (30, 0, 0) 9 = nI n) (hbn : b + n ≤ 300) (s : ps) (hs : s.1 ≤ n) : am_Met l mX12_here (am_rm 0 0 0) [am_P (30, 0, 0)] kd rv (hp iv s) (am_ret (some (am_I (ph (fun p => iv (31, 0, 0) (b + p)) n s))) kd rv (hp iv s)) := by
  refine am_Met.of (by decide) (Nat.le_of_ble_eq_true rfl) rfl ?_
  refine A_aload_n (pc := 0) (i := 0) dX12_here_0 rfl rfl ?_
  refine A_geti (pc := 1) 8 fl_X12_130_12 hR.1 rfl dX12_here_1 ?_
  refine A_top hp_r8 ?_
  refine A_aload_n (pc := 4) (i := 0) dX12_here_4 rfl rfl ?_
  refine A_geti (pc := 5) 9 fl_X12_134_12 hR.1 rfl dX12_here_5 ?_
  refine A_top ((hp_k (by decide) (by decide) (by decide)).trans h9) ?_
  refine A_icmpge (pc := 8) 35 dX12_here_8 (by decide) (fun hb8 => ?_) (fun hb8 => ?_)
  · refine A_iconst (pc := 35) (-1) dX12_here_35 (by decide) ?_
    exact A_iretE (pc := 36) dX12_here_36 rfl (Nat.zero_le _) (Nat.zero_le _) ((if_neg (fun h => nI_ge h (by omega) hb8)).symm) (rfl)
  · refine A_aload_n (pc := 11) (i := 0) dX12_here_11 rfl rfl ?_
    refine A_geti (pc := 12) 10 fl_X12_137_12 hR.1 rfl dX12_here_12 ?_
    refine A_top hp_r10 ?_
    refine A_ifge (pc := 15) 35 dX12_here_15 (by decide) (fun hb15 => ?_) (fun hb15 => ?_)
    · refine A_iconst (pc := 35) (-1) dX12_here_35 (by decide) ?_
      exact A_iretE (pc := 36) dX12_here_36 rfl (Nat.zero_le _) (Nat.zero_le _) (by rw [ph, if_pos (nI_dec hb8 hs (by omega)), if_neg (Int32.not_lt.mpr hb15)]) (rfl)
    · refine A_aload_n (pc := 18) (i := 0) dX12_here_18 rfl rfl ?_
      refine A_getr (pc := 19) 0 fl_X12_7_12 hR.1 rfl hR.w0 dX12_here_19 ?_
      refine A_aload_n (pc := 22) (i := 0) dX12_here_22 rfl rfl ?_
      refine A_geti (pc := 23) 7 fl_X12_140_12 hR.1 rfl dX12_here_23 ?_
      refine A_top ((hp_k (by decide) (by decide) (by decide)).trans h7) ?_
      refine A_aload_n (pc := 26) (i := 0) dX12_here_26 rfl rfl ?_
      refine A_geti (pc := 27) 8 fl_X12_130_12 hR.1 rfl dX12_here_27 ?_
      refine A_top hp_r8 ?_
      refine A_iadd (pc := 30) dX12_here_30 ?_
      refine A_top (mI_add b s.1) ?_
      refine A_ialdN (pc := 31) hR.k0 (show b + s.1 < 300 by have := nI_dec hb8 hs (by omega); omega) (by decide) dX12_here_31 ?_
      refine A_top (hp_o (by decide)) ?_
      refine A_goto (pc := 32) 36 dX12_here_32 (by decide) ?_
      exact A_iretE (pc := 36) dX12_here_36 rfl (Nat.zero_le _) (Nat.zero_le _) (by rw [ph, if_pos (nI_dec hb8 hs (by omega)), if_pos (Int32.not_le.mp hb15)]) (rfl)
set_option maxRecDepth 20000 in
theorem r_wrong (l : Launch) {kd : am_kd} {rv : am_rv} {iv : am_iv} (hR : shr kd rv) (s : ps) : am_Met l mX12_wrong (am_rm 0 0 0) [am_P (30, 0, 0)] kd rv (hp iv s) (am_ret (some (am_I 0)) kd rv (hp iv (pw s))) := by
  refine am_Met.of (by decide) (Nat.le_of_ble_eq_true rfl) rfl ?_
  refine A_aload_n (pc := 0) (i := 0) dX12_wrong_0 rfl rfl ?_
  refine A_aload_n (pc := 1) (i := 0) dX12_wrong_1 rfl rfl ?_
  refine A_geti (pc := 2) 10 fl_X12_137_12 hR.1 rfl dX12_wrong_2 ?_
  refine A_top hp_r10 ?_
  refine A_ifge (pc := 5) 15 dX12_wrong_5 (by decide) (fun hb5 => ?_) (fun hb5 => ?_)
  · refine A_aload_n (pc := 15) (i := 0) dX12_wrong_15 rfl rfl ?_
    refine A_geti (pc := 16) 10 fl_X12_137_12 hR.1 rfl dX12_wrong_16 ?_
    refine A_top hp_r10 ?_
    refine A_puti (pc := 19) 10 fl_X12_137_12 hR.1 rfl (by decide +kernel) rfl rfl dX12_wrong_19 ?_
    refine A_iconst (pc := 22) (0) dX12_wrong_22 (by decide) ?_
    exact A_iretE (pc := 23) dX12_wrong_23 rfl (Nat.zero_le _) (Nat.zero_le _) (rfl) (by rw [hp_10, pw, if_neg (Int32.not_lt.mpr hb5)])
  · refine A_aload_n (pc := 8) (i := 0) dX12_wrong_8 rfl rfl ?_
    refine A_geti (pc := 9) 8 fl_X12_130_12 hR.1 rfl dX12_wrong_9 ?_
    refine A_top hp_r8 ?_
    refine A_goto (pc := 12) 19 dX12_wrong_12 (by decide) ?_
    refine A_puti (pc := 19) 10 fl_X12_137_12 hR.1 rfl (by decide +kernel) rfl rfl dX12_wrong_19 ?_
    refine A_iconst (pc := 22) (0) dX12_wrong_22 (by decide) ?_
    exact A_iretE (pc := 23) dX12_wrong_23 rfl (Nat.zero_le _) (Nat.zero_le _) (rfl) (by rw [hp_10, pw, if_pos (Int32.not_le.mp hb5)])
set_option maxRecDepth 20000 in
theorem r_takes (l : Launch) {kd : am_kd} {rv : am_rv} {iv : am_iv} (hR : shr kd rv) (b n : Nat) (h7 : iv (30, 0, 0) 7 = nI b) (h9 : iv (30, 0, 0) 9 = nI n) (hbn : b + n ≤ 300) (s : ps) (hs : s.1 ≤ n) (c : Int32) : am_Met l mX12_takes (am_rm 1 0 0) [am_P (30, 0, 0), am_I c] kd rv (hp iv s) (am_ret (some (am_I (sr_b (ph (fun p => iv (31, 0, 0) (b + p)) n s = c)))) kd rv (hp iv (if ph (fun p => iv (31, 0, 0) (b + p)) n s = c then pa s else s))) := by
  refine am_Met.of (by decide) (Nat.le_of_ble_eq_true rfl) rfl ?_
  refine A_aload_n (pc := 0) (i := 0) dX12_takes_0 rfl rfl ?_
  refine A_callV1 (pc := 1) cv_X12_143 (r_here l hR b n h7 h9 hbn s hs) hR.1 rfl rfl rfl rfl (Nat.le_of_ble_eq_true rfl) ⟨(Nat.le_of_ble_eq_true rfl), (Nat.le_of_ble_eq_true rfl)⟩ ⟨Nat.zero_le _, Nat.zero_le _⟩ dX12_takes_1 ?_
  refine A_iload_n (pc := 4) (i := 1) dX12_takes_4 rfl rfl ?_
  refine A_icmpeq (pc := 5) 10 dX12_takes_5 (by decide) (fun hb5 => ?_) (fun hb5 => ?_)
  · refine A_aload_n (pc := 10) (i := 0) dX12_takes_10 rfl rfl ?_
    refine A_dup (pc := 11) dX12_takes_11 rfl ?_
    refine A_geti (pc := 12) 8 fl_X12_130_12 hR.1 rfl dX12_takes_12 ?_
    refine A_top hp_r8 ?_
    refine A_iconst (pc := 15) (1) dX12_takes_15 (by decide) ?_
    refine A_iadd (pc := 16) dX12_takes_16 ?_
    refine A_top (nI_1 s.1) ?_
    refine A_puti (pc := 17) 8 fl_X12_130_12 hR.1 rfl (by decide +kernel) rfl rfl dX12_takes_17 ?_
    refine A_iconst (pc := 20) (1) dX12_takes_20 (by decide) ?_
    exact A_zretE (pc := 21) dX12_takes_21 rfl (by first | exact A_zn0 | exact A_zn1 | exact A_znif _) (Nat.zero_le _) (Nat.zero_le _) ((if_pos hb5).symm) (by rw [if_pos hb5, hp_8]; rfl)
  · refine A_iconst (pc := 8) (0) dX12_takes_8 (by decide) ?_
    exact A_zretE (pc := 9) dX12_takes_9 rfl (by first | exact A_zn0 | exact A_zn1 | exact A_znif _) (Nat.zero_le _) (Nat.zero_le _) ((if_neg hb5).symm) (by rw [if_neg hb5])
set_option maxRecDepth 20000 in
theorem r_nameOf (l : Launch) {kd : am_kd} {rv : am_rv} {iv : am_iv} (hR : shr kd rv) (c : Int32) : am_Met l mX12_nameOf (am_rm 0 0 0) [am_P (30, 0, 0), am_I c] kd rv iv (am_ret (some (am_I (pnm (iv (30, 0, 0) 12) c))) kd rv iv) := by
  refine am_Met.of (by decide) (Nat.le_of_ble_eq_true rfl) rfl ?_
  refine A_aload_n (pc := 0) (i := 0) dX12_nameOf_0 rfl rfl ?_
  refine A_geti (pc := 1) 12 fl_X12_147_12 hR.1 rfl dX12_nameOf_1 ?_
  refine A_ifeq (pc := 4) 39 dX12_nameOf_4 (by decide) (fun hb4 => ?_) (fun hb4 => ?_)
  · refine A_iload_n (pc := 39) (i := 1) dX12_nameOf_39 rfl rfl ?_
    refine A_bipush (pc := 40) (116) dX12_nameOf_40 (by decide) ?_
    refine A_icmpne (pc := 42) 49 dX12_nameOf_42 (by decide) (fun hb42 => ?_) (fun hb42 => ?_)
    · refine A_iload_n (pc := 49) (i := 1) dX12_nameOf_49 rfl rfl ?_
      refine A_bipush (pc := 50) (119) dX12_nameOf_50 (by decide) ?_
      refine A_icmpne (pc := 52) 59 dX12_nameOf_52 (by decide) (fun hb52 => ?_) (fun hb52 => ?_)
      · refine A_iload_n (pc := 59) (i := 1) dX12_nameOf_59 rfl rfl ?_
        refine A_bipush (pc := 60) (107) dX12_nameOf_60 (by decide) ?_
        refine A_icmpne (pc := 62) 69 dX12_nameOf_62 (by decide) (fun hb62 => ?_) (fun hb62 => ?_)
        · refine A_iconst (pc := 69) (-1) dX12_nameOf_69 (by decide) ?_
          exact A_iretE (pc := 70) dX12_nameOf_70 rfl (Nat.zero_le _) (Nat.zero_le _) (by unfold pnm; simp_all) (rfl)
        · refine A_iconst (pc := 65) (2) dX12_nameOf_65 (by decide) ?_
          refine A_goto (pc := 66) 70 dX12_nameOf_66 (by decide) ?_
          exact A_iretE (pc := 70) dX12_nameOf_70 rfl (Nat.zero_le _) (Nat.zero_le _) (by unfold pnm; simp_all) (rfl)
      · refine A_iconst (pc := 55) (1) dX12_nameOf_55 (by decide) ?_
        refine A_goto (pc := 56) 70 dX12_nameOf_56 (by decide) ?_
        exact A_iretE (pc := 70) dX12_nameOf_70 rfl (Nat.zero_le _) (Nat.zero_le _) (by unfold pnm; simp_all) (rfl)
    · refine A_iconst (pc := 45) (0) dX12_nameOf_45 (by decide) ?_
      refine A_goto (pc := 46) 70 dX12_nameOf_46 (by decide) ?_
      exact A_iretE (pc := 70) dX12_nameOf_70 rfl (Nat.zero_le _) (Nat.zero_le _) (by unfold pnm; simp_all) (rfl)
  · refine A_iload_n (pc := 7) (i := 1) dX12_nameOf_7 rfl rfl ?_
    refine A_bipush (pc := 8) (108) dX12_nameOf_8 (by decide) ?_
    refine A_icmpne (pc := 10) 17 dX12_nameOf_10 (by decide) (fun hb10 => ?_) (fun hb10 => ?_)
    · refine A_iload_n (pc := 17) (i := 1) dX12_nameOf_17 rfl rfl ?_
      refine A_bipush (pc := 18) (113) dX12_nameOf_18 (by decide) ?_
      refine A_icmpne (pc := 20) 27 dX12_nameOf_20 (by decide) (fun hb20 => ?_) (fun hb20 => ?_)
      · refine A_iload_n (pc := 27) (i := 1) dX12_nameOf_27 rfl rfl ?_
        refine A_bipush (pc := 28) (104) dX12_nameOf_28 (by decide) ?_
        refine A_icmpne (pc := 30) 37 dX12_nameOf_30 (by decide) (fun hb30 => ?_) (fun hb30 => ?_)
        · refine A_iconst (pc := 37) (-1) dX12_nameOf_37 (by decide) ?_
          exact A_iretE (pc := 38) dX12_nameOf_38 rfl (Nat.zero_le _) (Nat.zero_le _) (by unfold pnm; simp_all) (rfl)
        · refine A_iconst (pc := 33) (2) dX12_nameOf_33 (by decide) ?_
          refine A_goto (pc := 34) 38 dX12_nameOf_34 (by decide) ?_
          exact A_iretE (pc := 38) dX12_nameOf_38 rfl (Nat.zero_le _) (Nat.zero_le _) (by unfold pnm; simp_all) (rfl)
      · refine A_iconst (pc := 23) (1) dX12_nameOf_23 (by decide) ?_
        refine A_goto (pc := 24) 38 dX12_nameOf_24 (by decide) ?_
        exact A_iretE (pc := 38) dX12_nameOf_38 rfl (Nat.zero_le _) (Nat.zero_le _) (by unfold pnm; simp_all) (rfl)
    · refine A_iconst (pc := 13) (0) dX12_nameOf_13 (by decide) ?_
      refine A_goto (pc := 14) 38 dX12_nameOf_14 (by decide) ?_
      exact A_iretE (pc := 38) dX12_nameOf_38 rfl (Nat.zero_le _) (Nat.zero_le _) (by unfold pnm; simp_all) (rfl)
set_option maxRecDepth 20000 in
theorem r_product (l : Launch) {kd : am_kd} {rv : am_rv} {iv : am_iv} (hR : shr kd rv) (b n : Nat) (h7 : iv (30, 0, 0) 7 = nI b) (h9 : iv (30, 0, 0) 9 = nI n) (hbn : b + n ≤ 300) (U : ps → Int32 × ps) (hG : pG n U) (e d : Nat) (hd : 1 ≤ d) (hU : ∀ s : ps, s.1 ≤ n → e ≤ s.2.2 → s.2.2 ≤ 5 → am_Met l mX12_unit (am_rm d 0 0) [am_P (30, 0, 0)] kd rv (hp iv s) (am_ret (some (am_I (U s).1)) kd rv (hp iv (U s).2))) : ∀ s : ps, s.1 ≤ n → e ≤ s.2.2 → s.2.2 ≤ 5 → am_Met l mX12_product (am_rm (d + 1) 0 0) [am_P (30, 0, 0)] kd rv (hp iv s) (am_ret (some (am_I ((pP (fun p => iv (31, 0, 0) (b + p)) n U) s).1)) kd rv (hp iv ((pP (fun p => iv (31, 0, 0) (b + p)) n U) s).2)) := by
  intro s hs he h5
  refine am_Met.of (by decide) (Nat.le_of_ble_eq_true rfl) rfl ?_
  have g0 := hG s hs h5
  have loop : ∀ (k : Nat) (x : Int32 × ps) (y2 y3 : Option am_V), x.2.1 ≤ n → e ≤ x.2.2.2 → x.2.2.2 ≤ 5 → n ≤ x.2.1 + k → am_W l mX12_product (am_rm (d + 1) 0 0) (am_ret (some (am_I (pl (fun p => iv (31, 0, 0) (b + p)) n isM U k x).1)) kd rv (hp iv (pl (fun p => iv (31, 0, 0) (b + p)) n isM U k x).2)) 5 [some (am_P (30, 0, 0)), some (am_I x.1), y2, y3] [] kd rv (hp iv x.2) 0 0 := by
    intro k
    induction k with
    | zero =>
      intro x y2 y3 hx1 hx2 hx3 hx4
      have hm1 : ph (fun p => iv (31, 0, 0) (b + p)) n x.2 = -1 := ph_out (by omega)
      refine A_aload_n (pc := 5) (i := 0) dX12_product_5 rfl rfl ?_
      refine A_callV1 (pc := 6) cv_X12_143 (r_here l hR b n h7 h9 hbn x.2 hx1) hR.1 rfl rfl rfl rfl (Nat.le_of_ble_eq_true rfl) (rm_ge (Nat.zero_le d) (by decide)) ⟨Nat.zero_le _, Nat.zero_le _⟩ dX12_product_6 ?_
      refine A_bipush (pc := 9) (42) dX12_product_9 (by decide) ?_
      refine A_icmpeq (pc := 11) 32 dX12_product_11 (by decide) (fun hb11 => ?_) (fun hb11 => ?_)
      · exact absurd hb11 (by rw [hm1]; decide)
      · refine A_aload_n (pc := 14) (i := 0) dX12_product_14 rfl rfl ?_
        refine A_callV1 (pc := 15) cv_X12_143 (r_here l hR b n h7 h9 hbn x.2 hx1) hR.1 rfl rfl rfl rfl (Nat.le_of_ble_eq_true rfl) (rm_ge (Nat.zero_le d) (by decide)) ⟨Nat.zero_le _, Nat.zero_le _⟩ dX12_product_15 ?_
        refine A_bipush (pc := 18) (47) dX12_product_18 (by decide) ?_
        refine A_icmpeq (pc := 20) 32 dX12_product_20 (by decide) (fun hb20 => ?_) (fun hb20 => ?_)
        · exact absurd hb20 (by rw [hm1]; decide)
        · refine A_aload_n (pc := 23) (i := 0) dX12_product_23 rfl rfl ?_
          refine A_callV1 (pc := 24) cv_X12_143 (r_here l hR b n h7 h9 hbn x.2 hx1) hR.1 rfl rfl rfl rfl (Nat.le_of_ble_eq_true rfl) (rm_ge (Nat.zero_le d) (by decide)) ⟨Nat.zero_le _, Nat.zero_le _⟩ dX12_product_24 ?_
          refine A_bipush (pc := 27) (37) dX12_product_27 (by decide) ?_
          refine A_icmpne (pc := 29) 91 dX12_product_29 (by decide) (fun hb29 => ?_) (fun hb29 => ?_)
          · refine A_iload_n (pc := 91) (i := 1) dX12_product_91 rfl rfl ?_
            exact A_iretE (pc := 92) dX12_product_92 rfl (Nat.zero_le _) (Nat.zero_le _) (rfl) (rfl)
          · exact absurd hb29 (by rw [hm1]; decide)
    | succ k ih =>
      intro x y2 y3 hx1 hx2 hx3 hx4
      refine A_aload_n (pc := 5) (i := 0) dX12_product_5 rfl rfl ?_
      refine A_callV1 (pc := 6) cv_X12_143 (r_here l hR b n h7 h9 hbn x.2 hx1) hR.1 rfl rfl rfl rfl (Nat.le_of_ble_eq_true rfl) (rm_ge (Nat.zero_le d) (by decide)) ⟨Nat.zero_le _, Nat.zero_le _⟩ dX12_product_6 ?_
      refine A_bipush (pc := 9) (42) dX12_product_9 (by decide) ?_
      refine A_icmpeq (pc := 11) 32 dX12_product_11 (by decide) (fun hb11 => ?_) (fun hb11 => ?_)
      · have ec : ph (fun p => iv (31, 0, 0) (b + p)) n x.2 = 42 := hb11
        have hq : isM (ph (fun p => iv (31, 0, 0) (b + p)) n x.2) = true := by rw [ec]; decide
        have g1 : pg n x.2 (pa x.2) := pg_pa (t := (fun p => iv (31, 0, 0) (b + p))) (fun h => by rw [h] at hq; exact absurd hq (by decide)) hx3
        have g2 := hG (pa x.2) g1.2.1 g1.2.2.2
        refine A_aload_n (pc := 32) (i := 0) dX12_product_32 rfl rfl ?_
        refine A_callV1 (pc := 33) cv_X12_143 (r_here l hR b n h7 h9 hbn x.2 hx1) hR.1 rfl rfl rfl rfl (Nat.le_of_ble_eq_true rfl) (rm_ge (Nat.zero_le d) (by decide)) ⟨Nat.zero_le _, Nat.zero_le _⟩ dX12_product_33 ?_
        refine A_ist2 (pc := 36) dX12_product_36 (Nat.le_of_ble_eq_true rfl) rfl ?_
        refine A_aload_n (pc := 37) (i := 0) dX12_product_37 rfl rfl ?_
        refine A_dup (pc := 38) dX12_product_38 rfl ?_
        refine A_geti (pc := 39) 8 fl_X12_130_12 hR.1 rfl dX12_product_39 ?_
        refine A_top hp_r8 ?_
        refine A_iconst (pc := 42) (1) dX12_product_42 (by decide) ?_
        refine A_iadd (pc := 43) dX12_product_43 ?_
        refine A_top (nI_1 x.2.1) ?_
        refine A_puti (pc := 44) 8 fl_X12_130_12 hR.1 rfl (by decide +kernel) rfl rfl dX12_product_44 ?_
        rw [hp_8]
        refine A_aload_n (pc := 47) (i := 0) dX12_product_47 rfl rfl ?_
        refine A_callV1 (pc := 48) cv_X12_166 (hU (pa x.2) g1.2.1 (Nat.le_trans hx2 g1.2.2.1) g1.2.2.2) hR.1 rfl rfl rfl rfl (Nat.le_of_ble_eq_true rfl) (rm_ge (Nat.le_refl d) (by decide)) ⟨Nat.zero_le _, Nat.zero_le _⟩ dX12_product_48 ?_
        refine A_ist3 (pc := 51) dX12_product_51 (Nat.le_of_ble_eq_true rfl) rfl ?_
        refine A_iload_n (pc := 52) (i := 2) dX12_product_52 rfl rfl ?_
        refine A_bipush (pc := 53) (42) dX12_product_53 (by decide) ?_
        refine A_icmpne (pc := 55) 64 dX12_product_55 (by decide) (fun hb55 => ?_) (fun hb55 => ?_)
        · exact absurd ec hb55
        · refine A_iload_n (pc := 58) (i := 1) dX12_product_58 rfl rfl ?_
          refine A_iload_n (pc := 59) (i := 3) dX12_product_59 rfl rfl ?_
          refine A_imul (pc := 60) dX12_product_60 ?_
          refine A_goto (pc := 61) 87 dX12_product_61 (by decide) ?_
          refine A_ist1 (pc := 87) dX12_product_87 (Nat.le_of_ble_eq_true rfl) rfl ?_
          refine A_goto (pc := 88) 5 dX12_product_88 (by decide) ?_
          rw [pl, if_pos hq]
          have ih2 := fun y2 y3 => ih (tx_res (ph (fun p => iv (31, 0, 0) (b + p)) n x.2) x.1 (U (pa x.2)).1, (U (pa x.2)).2) y2 y3 g2.2.1 (Nat.le_trans hx2 (g1.trans g2).2.2.1) g2.2.2.2 (by have h1 := g2.1; have h2 : (pa x.2).1 = x.2.1 + 1 := rfl; have h3 : (U (pa x.2)).2.1 = (tx_res (ph (fun p => iv (31, 0, 0) (b + p)) n x.2) x.1 (U (pa x.2)).1, (U (pa x.2)).2).2.1 := rfl; omega)
          have er : tx_res (ph (fun p => iv (31, 0, 0) (b + p)) n x.2) x.1 (U (pa x.2)).1 = x.1 * (U (pa x.2)).1 := by rw [ec]; rfl
          rw [er] at ih2 ⊢
          exact ih2 _ _
      · refine A_aload_n (pc := 14) (i := 0) dX12_product_14 rfl rfl ?_
        refine A_callV1 (pc := 15) cv_X12_143 (r_here l hR b n h7 h9 hbn x.2 hx1) hR.1 rfl rfl rfl rfl (Nat.le_of_ble_eq_true rfl) (rm_ge (Nat.zero_le d) (by decide)) ⟨Nat.zero_le _, Nat.zero_le _⟩ dX12_product_15 ?_
        refine A_bipush (pc := 18) (47) dX12_product_18 (by decide) ?_
        refine A_icmpeq (pc := 20) 32 dX12_product_20 (by decide) (fun hb20 => ?_) (fun hb20 => ?_)
        · have ec : ph (fun p => iv (31, 0, 0) (b + p)) n x.2 = 47 := hb20
          have hq : isM (ph (fun p => iv (31, 0, 0) (b + p)) n x.2) = true := by rw [ec]; decide
          have g1 : pg n x.2 (pa x.2) := pg_pa (t := (fun p => iv (31, 0, 0) (b + p))) (fun h => by rw [h] at hq; exact absurd hq (by decide)) hx3
          have g2 := hG (pa x.2) g1.2.1 g1.2.2.2
          refine A_aload_n (pc := 32) (i := 0) dX12_product_32 rfl rfl ?_
          refine A_callV1 (pc := 33) cv_X12_143 (r_here l hR b n h7 h9 hbn x.2 hx1) hR.1 rfl rfl rfl rfl (Nat.le_of_ble_eq_true rfl) (rm_ge (Nat.zero_le d) (by decide)) ⟨Nat.zero_le _, Nat.zero_le _⟩ dX12_product_33 ?_
          refine A_ist2 (pc := 36) dX12_product_36 (Nat.le_of_ble_eq_true rfl) rfl ?_
          refine A_aload_n (pc := 37) (i := 0) dX12_product_37 rfl rfl ?_
          refine A_dup (pc := 38) dX12_product_38 rfl ?_
          refine A_geti (pc := 39) 8 fl_X12_130_12 hR.1 rfl dX12_product_39 ?_
          refine A_top hp_r8 ?_
          refine A_iconst (pc := 42) (1) dX12_product_42 (by decide) ?_
          refine A_iadd (pc := 43) dX12_product_43 ?_
          refine A_top (nI_1 x.2.1) ?_
          refine A_puti (pc := 44) 8 fl_X12_130_12 hR.1 rfl (by decide +kernel) rfl rfl dX12_product_44 ?_
          rw [hp_8]
          refine A_aload_n (pc := 47) (i := 0) dX12_product_47 rfl rfl ?_
          refine A_callV1 (pc := 48) cv_X12_166 (hU (pa x.2) g1.2.1 (Nat.le_trans hx2 g1.2.2.1) g1.2.2.2) hR.1 rfl rfl rfl rfl (Nat.le_of_ble_eq_true rfl) (rm_ge (Nat.le_refl d) (by decide)) ⟨Nat.zero_le _, Nat.zero_le _⟩ dX12_product_48 ?_
          refine A_ist3 (pc := 51) dX12_product_51 (Nat.le_of_ble_eq_true rfl) rfl ?_
          refine A_iload_n (pc := 52) (i := 2) dX12_product_52 rfl rfl ?_
          refine A_bipush (pc := 53) (42) dX12_product_53 (by decide) ?_
          refine A_icmpne (pc := 55) 64 dX12_product_55 (by decide) (fun hb55 => ?_) (fun hb55 => ?_)
          · refine A_iload_n (pc := 64) (i := 3) dX12_product_64 rfl rfl ?_
            refine A_ifne (pc := 65) 72 dX12_product_65 (by decide) (fun hb65 => ?_) (fun hb65 => ?_)
            · refine A_iload_n (pc := 72) (i := 2) dX12_product_72 rfl rfl ?_
              refine A_bipush (pc := 73) (47) dX12_product_73 (by decide) ?_
              refine A_icmpne (pc := 75) 84 dX12_product_75 (by decide) (fun hb75 => ?_) (fun hb75 => ?_)
              · exact absurd ec hb75
              · refine A_iload_n (pc := 78) (i := 1) dX12_product_78 rfl rfl ?_
                refine A_iload_n (pc := 79) (i := 3) dX12_product_79 rfl rfl ?_
                refine A_idiv (pc := 80) dX12_product_80 hb65 ?_
                refine A_goto (pc := 81) 87 dX12_product_81 (by decide) ?_
                refine A_ist1 (pc := 87) dX12_product_87 (Nat.le_of_ble_eq_true rfl) rfl ?_
                refine A_goto (pc := 88) 5 dX12_product_88 (by decide) ?_
                rw [pl, if_pos hq]
                have ih2 := fun y2 y3 => ih (tx_res (ph (fun p => iv (31, 0, 0) (b + p)) n x.2) x.1 (U (pa x.2)).1, (U (pa x.2)).2) y2 y3 g2.2.1 (Nat.le_trans hx2 (g1.trans g2).2.2.1) g2.2.2.2 (by have h1 := g2.1; have h2 : (pa x.2).1 = x.2.1 + 1 := rfl; have h3 : (U (pa x.2)).2.1 = (tx_res (ph (fun p => iv (31, 0, 0) (b + p)) n x.2) x.1 (U (pa x.2)).1, (U (pa x.2)).2).2.1 := rfl; omega)
                have er : tx_res (ph (fun p => iv (31, 0, 0) (b + p)) n x.2) x.1 (U (pa x.2)).1 = x.1 / (U (pa x.2)).1 := by rw [ec]; exact if_neg hb65
                rw [er] at ih2 ⊢
                exact ih2 _ _
            · refine A_iconst (pc := 68) (0) dX12_product_68 (by decide) ?_
              refine A_goto (pc := 69) 87 dX12_product_69 (by decide) ?_
              refine A_ist1 (pc := 87) dX12_product_87 (Nat.le_of_ble_eq_true rfl) rfl ?_
              refine A_goto (pc := 88) 5 dX12_product_88 (by decide) ?_
              rw [pl, if_pos hq]
              have ih2 := fun y2 y3 => ih (tx_res (ph (fun p => iv (31, 0, 0) (b + p)) n x.2) x.1 (U (pa x.2)).1, (U (pa x.2)).2) y2 y3 g2.2.1 (Nat.le_trans hx2 (g1.trans g2).2.2.1) g2.2.2.2 (by have h1 := g2.1; have h2 : (pa x.2).1 = x.2.1 + 1 := rfl; have h3 : (U (pa x.2)).2.1 = (tx_res (ph (fun p => iv (31, 0, 0) (b + p)) n x.2) x.1 (U (pa x.2)).1, (U (pa x.2)).2).2.1 := rfl; omega)
              have er : tx_res (ph (fun p => iv (31, 0, 0) (b + p)) n x.2) x.1 (U (pa x.2)).1 = 0 := by rw [ec]; exact if_pos hb65
              rw [er] at ih2 ⊢
              exact ih2 _ _
          · exact absurd (ec.symm.trans hb55) (by decide)
        · refine A_aload_n (pc := 23) (i := 0) dX12_product_23 rfl rfl ?_
          refine A_callV1 (pc := 24) cv_X12_143 (r_here l hR b n h7 h9 hbn x.2 hx1) hR.1 rfl rfl rfl rfl (Nat.le_of_ble_eq_true rfl) (rm_ge (Nat.zero_le d) (by decide)) ⟨Nat.zero_le _, Nat.zero_le _⟩ dX12_product_24 ?_
          refine A_bipush (pc := 27) (37) dX12_product_27 (by decide) ?_
          refine A_icmpne (pc := 29) 91 dX12_product_29 (by decide) (fun hb29 => ?_) (fun hb29 => ?_)
          · have hq : ¬ isM (ph (fun p => iv (31, 0, 0) (b + p)) n x.2) = true := fun h => by
              have h2 := of_decide_eq_true h
              exact h2.elim hb11 (fun h3 => h3.elim hb20 hb29)
            rw [pl, if_neg hq]
            refine A_iload_n (pc := 91) (i := 1) dX12_product_91 rfl rfl ?_
            exact A_iretE (pc := 92) dX12_product_92 rfl (Nat.zero_le _) (Nat.zero_le _) (rfl) (rfl)
          · have ec : ph (fun p => iv (31, 0, 0) (b + p)) n x.2 = 37 := hb29
            have hq : isM (ph (fun p => iv (31, 0, 0) (b + p)) n x.2) = true := by rw [ec]; decide
            have g1 : pg n x.2 (pa x.2) := pg_pa (t := (fun p => iv (31, 0, 0) (b + p))) (fun h => by rw [h] at hq; exact absurd hq (by decide)) hx3
            have g2 := hG (pa x.2) g1.2.1 g1.2.2.2
            refine A_aload_n (pc := 32) (i := 0) dX12_product_32 rfl rfl ?_
            refine A_callV1 (pc := 33) cv_X12_143 (r_here l hR b n h7 h9 hbn x.2 hx1) hR.1 rfl rfl rfl rfl (Nat.le_of_ble_eq_true rfl) (rm_ge (Nat.zero_le d) (by decide)) ⟨Nat.zero_le _, Nat.zero_le _⟩ dX12_product_33 ?_
            refine A_ist2 (pc := 36) dX12_product_36 (Nat.le_of_ble_eq_true rfl) rfl ?_
            refine A_aload_n (pc := 37) (i := 0) dX12_product_37 rfl rfl ?_
            refine A_dup (pc := 38) dX12_product_38 rfl ?_
            refine A_geti (pc := 39) 8 fl_X12_130_12 hR.1 rfl dX12_product_39 ?_
            refine A_top hp_r8 ?_
            refine A_iconst (pc := 42) (1) dX12_product_42 (by decide) ?_
            refine A_iadd (pc := 43) dX12_product_43 ?_
            refine A_top (nI_1 x.2.1) ?_
            refine A_puti (pc := 44) 8 fl_X12_130_12 hR.1 rfl (by decide +kernel) rfl rfl dX12_product_44 ?_
            rw [hp_8]
            refine A_aload_n (pc := 47) (i := 0) dX12_product_47 rfl rfl ?_
            refine A_callV1 (pc := 48) cv_X12_166 (hU (pa x.2) g1.2.1 (Nat.le_trans hx2 g1.2.2.1) g1.2.2.2) hR.1 rfl rfl rfl rfl (Nat.le_of_ble_eq_true rfl) (rm_ge (Nat.le_refl d) (by decide)) ⟨Nat.zero_le _, Nat.zero_le _⟩ dX12_product_48 ?_
            refine A_ist3 (pc := 51) dX12_product_51 (Nat.le_of_ble_eq_true rfl) rfl ?_
            refine A_iload_n (pc := 52) (i := 2) dX12_product_52 rfl rfl ?_
            refine A_bipush (pc := 53) (42) dX12_product_53 (by decide) ?_
            refine A_icmpne (pc := 55) 64 dX12_product_55 (by decide) (fun hb55 => ?_) (fun hb55 => ?_)
            · refine A_iload_n (pc := 64) (i := 3) dX12_product_64 rfl rfl ?_
              refine A_ifne (pc := 65) 72 dX12_product_65 (by decide) (fun hb65 => ?_) (fun hb65 => ?_)
              · refine A_iload_n (pc := 72) (i := 2) dX12_product_72 rfl rfl ?_
                refine A_bipush (pc := 73) (47) dX12_product_73 (by decide) ?_
                refine A_icmpne (pc := 75) 84 dX12_product_75 (by decide) (fun hb75 => ?_) (fun hb75 => ?_)
                · refine A_iload_n (pc := 84) (i := 1) dX12_product_84 rfl rfl ?_
                  refine A_iload_n (pc := 85) (i := 3) dX12_product_85 rfl rfl ?_
                  refine A_irem (pc := 86) dX12_product_86 hb65 ?_
                  refine A_ist1 (pc := 87) dX12_product_87 (Nat.le_of_ble_eq_true rfl) rfl ?_
                  refine A_goto (pc := 88) 5 dX12_product_88 (by decide) ?_
                  rw [pl, if_pos hq]
                  have ih2 := fun y2 y3 => ih (tx_res (ph (fun p => iv (31, 0, 0) (b + p)) n x.2) x.1 (U (pa x.2)).1, (U (pa x.2)).2) y2 y3 g2.2.1 (Nat.le_trans hx2 (g1.trans g2).2.2.1) g2.2.2.2 (by have h1 := g2.1; have h2 : (pa x.2).1 = x.2.1 + 1 := rfl; have h3 : (U (pa x.2)).2.1 = (tx_res (ph (fun p => iv (31, 0, 0) (b + p)) n x.2) x.1 (U (pa x.2)).1, (U (pa x.2)).2).2.1 := rfl; omega)
                  have er : tx_res (ph (fun p => iv (31, 0, 0) (b + p)) n x.2) x.1 (U (pa x.2)).1 = x.1 - x.1 / (U (pa x.2)).1 * (U (pa x.2)).1 := by rw [ec]; exact if_neg hb65
                  rw [er] at ih2 ⊢
                  exact ih2 _ _
                · exact absurd (ec.symm.trans hb75) (by decide)
              · refine A_iconst (pc := 68) (0) dX12_product_68 (by decide) ?_
                refine A_goto (pc := 69) 87 dX12_product_69 (by decide) ?_
                refine A_ist1 (pc := 87) dX12_product_87 (Nat.le_of_ble_eq_true rfl) rfl ?_
                refine A_goto (pc := 88) 5 dX12_product_88 (by decide) ?_
                rw [pl, if_pos hq]
                have ih2 := fun y2 y3 => ih (tx_res (ph (fun p => iv (31, 0, 0) (b + p)) n x.2) x.1 (U (pa x.2)).1, (U (pa x.2)).2) y2 y3 g2.2.1 (Nat.le_trans hx2 (g1.trans g2).2.2.1) g2.2.2.2 (by have h1 := g2.1; have h2 : (pa x.2).1 = x.2.1 + 1 := rfl; have h3 : (U (pa x.2)).2.1 = (tx_res (ph (fun p => iv (31, 0, 0) (b + p)) n x.2) x.1 (U (pa x.2)).1, (U (pa x.2)).2).2.1 := rfl; omega)
                have er : tx_res (ph (fun p => iv (31, 0, 0) (b + p)) n x.2) x.1 (U (pa x.2)).1 = 0 := by rw [ec]; exact if_pos hb65
                rw [er] at ih2 ⊢
                exact ih2 _ _
            · exact absurd (ec.symm.trans hb55) (by decide)
  refine A_aload_n (pc := 0) (i := 0) dX12_product_0 rfl rfl ?_
  refine A_callV1 (pc := 1) cv_X12_166 (hU s hs he h5) hR.1 rfl rfl rfl rfl (Nat.le_of_ble_eq_true rfl) (rm_ge (Nat.le_refl d) (by decide)) ⟨Nat.zero_le _, Nat.zero_le _⟩ dX12_product_1 ?_
  refine A_ist1 (pc := 4) dX12_product_4 (Nat.le_of_ble_eq_true rfl) rfl ?_
  exact loop n (U s) _ _ g0.2.1 (Nat.le_trans he g0.2.2.1) g0.2.2.2 (Nat.le_add_left n _)
set_option maxRecDepth 20000 in
theorem r_sum (l : Launch) {kd : am_kd} {rv : am_rv} {iv : am_iv} (hR : shr kd rv) (b n : Nat) (h7 : iv (30, 0, 0) 7 = nI b) (h9 : iv (30, 0, 0) 9 = nI n) (hbn : b + n ≤ 300) (U : ps → Int32 × ps) (hG : pG n U) (e d : Nat) (hd : 1 ≤ d) (hU : ∀ s : ps, s.1 ≤ n → e ≤ s.2.2 → s.2.2 ≤ 5 → am_Met l mX12_product (am_rm d 0 0) [am_P (30, 0, 0)] kd rv (hp iv s) (am_ret (some (am_I (U s).1)) kd rv (hp iv (U s).2))) : ∀ s : ps, s.1 ≤ n → e ≤ s.2.2 → s.2.2 ≤ 5 → am_Met l mX12_sum (am_rm (d + 1) 0 0) [am_P (30, 0, 0)] kd rv (hp iv s) (am_ret (some (am_I ((pS (fun p => iv (31, 0, 0) (b + p)) n U) s).1)) kd rv (hp iv ((pS (fun p => iv (31, 0, 0) (b + p)) n U) s).2)) := by
  intro s hs he h5
  refine am_Met.of (by decide) (Nat.le_of_ble_eq_true rfl) rfl ?_
  have g0 := hG s hs h5
  have loop : ∀ (k : Nat) (x : Int32 × ps) (y2 y3 : Option am_V), x.2.1 ≤ n → e ≤ x.2.2.2 → x.2.2.2 ≤ 5 → n ≤ x.2.1 + k → am_W l mX12_sum (am_rm (d + 1) 0 0) (am_ret (some (am_I (pl (fun p => iv (31, 0, 0) (b + p)) n isA U k x).1)) kd rv (hp iv (pl (fun p => iv (31, 0, 0) (b + p)) n isA U k x).2)) 5 [some (am_P (30, 0, 0)), some (am_I x.1), y2, y3] [] kd rv (hp iv x.2) 0 0 := by
    intro k
    induction k with
    | zero =>
      intro x y2 y3 hx1 hx2 hx3 hx4
      have hm1 : ph (fun p => iv (31, 0, 0) (b + p)) n x.2 = -1 := ph_out (by omega)
      refine A_aload_n (pc := 5) (i := 0) dX12_sum_5 rfl rfl ?_
      refine A_callV1 (pc := 6) cv_X12_143 (r_here l hR b n h7 h9 hbn x.2 hx1) hR.1 rfl rfl rfl rfl (Nat.le_of_ble_eq_true rfl) (rm_ge (Nat.zero_le d) (by decide)) ⟨Nat.zero_le _, Nat.zero_le _⟩ dX12_sum_6 ?_
      refine A_bipush (pc := 9) (43) dX12_sum_9 (by decide) ?_
      refine A_icmpeq (pc := 11) 23 dX12_sum_11 (by decide) (fun hb11 => ?_) (fun hb11 => ?_)
      · exact absurd hb11 (by rw [hm1]; decide)
      · refine A_aload_n (pc := 14) (i := 0) dX12_sum_14 rfl rfl ?_
        refine A_callV1 (pc := 15) cv_X12_143 (r_here l hR b n h7 h9 hbn x.2 hx1) hR.1 rfl rfl rfl rfl (Nat.le_of_ble_eq_true rfl) (rm_ge (Nat.zero_le d) (by decide)) ⟨Nat.zero_le _, Nat.zero_le _⟩ dX12_sum_15 ?_
        refine A_bipush (pc := 18) (45) dX12_sum_18 (by decide) ?_
        refine A_icmpne (pc := 20) 62 dX12_sum_20 (by decide) (fun hb20 => ?_) (fun hb20 => ?_)
        · refine A_iload_n (pc := 62) (i := 1) dX12_sum_62 rfl rfl ?_
          exact A_iretE (pc := 63) dX12_sum_63 rfl (Nat.zero_le _) (Nat.zero_le _) (rfl) (rfl)
        · exact absurd hb20 (by rw [hm1]; decide)
    | succ k ih =>
      intro x y2 y3 hx1 hx2 hx3 hx4
      refine A_aload_n (pc := 5) (i := 0) dX12_sum_5 rfl rfl ?_
      refine A_callV1 (pc := 6) cv_X12_143 (r_here l hR b n h7 h9 hbn x.2 hx1) hR.1 rfl rfl rfl rfl (Nat.le_of_ble_eq_true rfl) (rm_ge (Nat.zero_le d) (by decide)) ⟨Nat.zero_le _, Nat.zero_le _⟩ dX12_sum_6 ?_
      refine A_bipush (pc := 9) (43) dX12_sum_9 (by decide) ?_
      refine A_icmpeq (pc := 11) 23 dX12_sum_11 (by decide) (fun hb11 => ?_) (fun hb11 => ?_)
      · have ec : ph (fun p => iv (31, 0, 0) (b + p)) n x.2 = 43 := hb11
        have hq : isA (ph (fun p => iv (31, 0, 0) (b + p)) n x.2) = true := by rw [ec]; decide
        have g1 : pg n x.2 (pa x.2) := pg_pa (t := (fun p => iv (31, 0, 0) (b + p))) (fun h => by rw [h] at hq; exact absurd hq (by decide)) hx3
        have g2 := hG (pa x.2) g1.2.1 g1.2.2.2
        refine A_aload_n (pc := 23) (i := 0) dX12_sum_23 rfl rfl ?_
        refine A_callV1 (pc := 24) cv_X12_143 (r_here l hR b n h7 h9 hbn x.2 hx1) hR.1 rfl rfl rfl rfl (Nat.le_of_ble_eq_true rfl) (rm_ge (Nat.zero_le d) (by decide)) ⟨Nat.zero_le _, Nat.zero_le _⟩ dX12_sum_24 ?_
        refine A_ist2 (pc := 27) dX12_sum_27 (Nat.le_of_ble_eq_true rfl) rfl ?_
        refine A_aload_n (pc := 28) (i := 0) dX12_sum_28 rfl rfl ?_
        refine A_dup (pc := 29) dX12_sum_29 rfl ?_
        refine A_geti (pc := 30) 8 fl_X12_130_12 hR.1 rfl dX12_sum_30 ?_
        refine A_top hp_r8 ?_
        refine A_iconst (pc := 33) (1) dX12_sum_33 (by decide) ?_
        refine A_iadd (pc := 34) dX12_sum_34 ?_
        refine A_top (nI_1 x.2.1) ?_
        refine A_puti (pc := 35) 8 fl_X12_130_12 hR.1 rfl (by decide +kernel) rfl rfl dX12_sum_35 ?_
        rw [hp_8]
        refine A_aload_n (pc := 38) (i := 0) dX12_sum_38 rfl rfl ?_
        refine A_callV1 (pc := 39) cv_X12_163 (hU (pa x.2) g1.2.1 (Nat.le_trans hx2 g1.2.2.1) g1.2.2.2) hR.1 rfl rfl rfl rfl (Nat.le_of_ble_eq_true rfl) (rm_ge (Nat.le_refl d) (by decide)) ⟨Nat.zero_le _, Nat.zero_le _⟩ dX12_sum_39 ?_
        refine A_ist3 (pc := 42) dX12_sum_42 (Nat.le_of_ble_eq_true rfl) rfl ?_
        refine A_iload_n (pc := 43) (i := 2) dX12_sum_43 rfl rfl ?_
        refine A_bipush (pc := 44) (43) dX12_sum_44 (by decide) ?_
        refine A_icmpne (pc := 46) 55 dX12_sum_46 (by decide) (fun hb46 => ?_) (fun hb46 => ?_)
        · exact absurd ec hb46
        · refine A_iload_n (pc := 49) (i := 1) dX12_sum_49 rfl rfl ?_
          refine A_iload_n (pc := 50) (i := 3) dX12_sum_50 rfl rfl ?_
          refine A_iadd (pc := 51) dX12_sum_51 ?_
          refine A_goto (pc := 52) 58 dX12_sum_52 (by decide) ?_
          refine A_ist1 (pc := 58) dX12_sum_58 (Nat.le_of_ble_eq_true rfl) rfl ?_
          refine A_goto (pc := 59) 5 dX12_sum_59 (by decide) ?_
          rw [pl, if_pos hq]
          have ih2 := fun y2 y3 => ih (tx_res (ph (fun p => iv (31, 0, 0) (b + p)) n x.2) x.1 (U (pa x.2)).1, (U (pa x.2)).2) y2 y3 g2.2.1 (Nat.le_trans hx2 (g1.trans g2).2.2.1) g2.2.2.2 (by have h1 := g2.1; have h2 : (pa x.2).1 = x.2.1 + 1 := rfl; have h3 : (U (pa x.2)).2.1 = (tx_res (ph (fun p => iv (31, 0, 0) (b + p)) n x.2) x.1 (U (pa x.2)).1, (U (pa x.2)).2).2.1 := rfl; omega)
          have er : tx_res (ph (fun p => iv (31, 0, 0) (b + p)) n x.2) x.1 (U (pa x.2)).1 = x.1 + (U (pa x.2)).1 := by rw [ec]; rfl
          rw [er] at ih2 ⊢
          exact ih2 _ _
      · refine A_aload_n (pc := 14) (i := 0) dX12_sum_14 rfl rfl ?_
        refine A_callV1 (pc := 15) cv_X12_143 (r_here l hR b n h7 h9 hbn x.2 hx1) hR.1 rfl rfl rfl rfl (Nat.le_of_ble_eq_true rfl) (rm_ge (Nat.zero_le d) (by decide)) ⟨Nat.zero_le _, Nat.zero_le _⟩ dX12_sum_15 ?_
        refine A_bipush (pc := 18) (45) dX12_sum_18 (by decide) ?_
        refine A_icmpne (pc := 20) 62 dX12_sum_20 (by decide) (fun hb20 => ?_) (fun hb20 => ?_)
        · have hq : ¬ isA (ph (fun p => iv (31, 0, 0) (b + p)) n x.2) = true := fun h => by
            have h2 := of_decide_eq_true h
            exact h2.elim hb11 hb20
          rw [pl, if_neg hq]
          refine A_iload_n (pc := 62) (i := 1) dX12_sum_62 rfl rfl ?_
          exact A_iretE (pc := 63) dX12_sum_63 rfl (Nat.zero_le _) (Nat.zero_le _) (rfl) (rfl)
        · have ec : ph (fun p => iv (31, 0, 0) (b + p)) n x.2 = 45 := hb20
          have hq : isA (ph (fun p => iv (31, 0, 0) (b + p)) n x.2) = true := by rw [ec]; decide
          have g1 : pg n x.2 (pa x.2) := pg_pa (t := (fun p => iv (31, 0, 0) (b + p))) (fun h => by rw [h] at hq; exact absurd hq (by decide)) hx3
          have g2 := hG (pa x.2) g1.2.1 g1.2.2.2
          refine A_aload_n (pc := 23) (i := 0) dX12_sum_23 rfl rfl ?_
          refine A_callV1 (pc := 24) cv_X12_143 (r_here l hR b n h7 h9 hbn x.2 hx1) hR.1 rfl rfl rfl rfl (Nat.le_of_ble_eq_true rfl) (rm_ge (Nat.zero_le d) (by decide)) ⟨Nat.zero_le _, Nat.zero_le _⟩ dX12_sum_24 ?_
          refine A_ist2 (pc := 27) dX12_sum_27 (Nat.le_of_ble_eq_true rfl) rfl ?_
          refine A_aload_n (pc := 28) (i := 0) dX12_sum_28 rfl rfl ?_
          refine A_dup (pc := 29) dX12_sum_29 rfl ?_
          refine A_geti (pc := 30) 8 fl_X12_130_12 hR.1 rfl dX12_sum_30 ?_
          refine A_top hp_r8 ?_
          refine A_iconst (pc := 33) (1) dX12_sum_33 (by decide) ?_
          refine A_iadd (pc := 34) dX12_sum_34 ?_
          refine A_top (nI_1 x.2.1) ?_
          refine A_puti (pc := 35) 8 fl_X12_130_12 hR.1 rfl (by decide +kernel) rfl rfl dX12_sum_35 ?_
          rw [hp_8]
          refine A_aload_n (pc := 38) (i := 0) dX12_sum_38 rfl rfl ?_
          refine A_callV1 (pc := 39) cv_X12_163 (hU (pa x.2) g1.2.1 (Nat.le_trans hx2 g1.2.2.1) g1.2.2.2) hR.1 rfl rfl rfl rfl (Nat.le_of_ble_eq_true rfl) (rm_ge (Nat.le_refl d) (by decide)) ⟨Nat.zero_le _, Nat.zero_le _⟩ dX12_sum_39 ?_
          refine A_ist3 (pc := 42) dX12_sum_42 (Nat.le_of_ble_eq_true rfl) rfl ?_
          refine A_iload_n (pc := 43) (i := 2) dX12_sum_43 rfl rfl ?_
          refine A_bipush (pc := 44) (43) dX12_sum_44 (by decide) ?_
          refine A_icmpne (pc := 46) 55 dX12_sum_46 (by decide) (fun hb46 => ?_) (fun hb46 => ?_)
          · refine A_iload_n (pc := 55) (i := 1) dX12_sum_55 rfl rfl ?_
            refine A_iload_n (pc := 56) (i := 3) dX12_sum_56 rfl rfl ?_
            refine A_isub (pc := 57) dX12_sum_57 ?_
            refine A_ist1 (pc := 58) dX12_sum_58 (Nat.le_of_ble_eq_true rfl) rfl ?_
            refine A_goto (pc := 59) 5 dX12_sum_59 (by decide) ?_
            rw [pl, if_pos hq]
            have ih2 := fun y2 y3 => ih (tx_res (ph (fun p => iv (31, 0, 0) (b + p)) n x.2) x.1 (U (pa x.2)).1, (U (pa x.2)).2) y2 y3 g2.2.1 (Nat.le_trans hx2 (g1.trans g2).2.2.1) g2.2.2.2 (by have h1 := g2.1; have h2 : (pa x.2).1 = x.2.1 + 1 := rfl; have h3 : (U (pa x.2)).2.1 = (tx_res (ph (fun p => iv (31, 0, 0) (b + p)) n x.2) x.1 (U (pa x.2)).1, (U (pa x.2)).2).2.1 := rfl; omega)
            have er : tx_res (ph (fun p => iv (31, 0, 0) (b + p)) n x.2) x.1 (U (pa x.2)).1 = x.1 - (U (pa x.2)).1 := by rw [ec]; rfl
            rw [er] at ih2 ⊢
            exact ih2 _ _
          · exact absurd (ec.symm.trans hb46) (by decide)
  refine A_aload_n (pc := 0) (i := 0) dX12_sum_0 rfl rfl ?_
  refine A_callV1 (pc := 1) cv_X12_163 (hU s hs he h5) hR.1 rfl rfl rfl rfl (Nat.le_of_ble_eq_true rfl) (rm_ge (Nat.le_refl d) (by decide)) ⟨Nat.zero_le _, Nat.zero_le _⟩ dX12_sum_1 ?_
  refine A_ist1 (pc := 4) dX12_sum_4 (Nat.le_of_ble_eq_true rfl) rfl ?_
  exact loop n (U s) _ _ g0.2.1 (Nat.le_trans he g0.2.2.1) g0.2.2.2 (Nat.le_add_left n _)
set_option maxRecDepth 20000 in
theorem r_both (l : Launch) {kd : am_kd} {rv : am_rv} {iv : am_iv} (hR : shr kd rv) (b n : Nat) (h7 : iv (30, 0, 0) 7 = nI b) (h9 : iv (30, 0, 0) 9 = nI n) (hbn : b + n ≤ 300) (U : ps → Int32 × ps) (hG : pG n U) (e d : Nat) (hd : 1 ≤ d) (hU : ∀ s : ps, s.1 ≤ n → e ≤ s.2.2 → s.2.2 ≤ 5 → am_Met l mX12_compared (am_rm d 0 0) [am_P (30, 0, 0)] kd rv (hp iv s) (am_ret (some (am_I (U s).1)) kd rv (hp iv (U s).2))) : ∀ s : ps, s.1 ≤ n → e ≤ s.2.2 → s.2.2 ≤ 5 → am_Met l mX12_both (am_rm (d + 1) 0 0) [am_P (30, 0, 0)] kd rv (hp iv s) (am_ret (some (am_I ((pB (fun p => iv (31, 0, 0) (b + p)) n U) s).1)) kd rv (hp iv ((pB (fun p => iv (31, 0, 0) (b + p)) n U) s).2)) := by
  intro s hs he h5
  refine am_Met.of (by decide) (Nat.le_of_ble_eq_true rfl) rfl ?_
  have g0 := hG s hs h5
  have loop : ∀ (k : Nat) (x : Int32 × ps) (y2 : Option am_V), x.2.1 ≤ n → e ≤ x.2.2.2 → x.2.2.2 ≤ 5 → n ≤ x.2.1 + k → am_W l mX12_both (am_rm (d + 1) 0 0) (am_ret (some (am_I (pl (fun p => iv (31, 0, 0) (b + p)) n isN U k x).1)) kd rv (hp iv (pl (fun p => iv (31, 0, 0) (b + p)) n isN U k x).2)) 5 [some (am_P (30, 0, 0)), some (am_I x.1), y2] [] kd rv (hp iv x.2) 0 0 := by
    intro k
    induction k with
    | zero =>
      intro x y2 hx1 hx2 hx3 hx4
      have hm1 : ph (fun p => iv (31, 0, 0) (b + p)) n x.2 = -1 := ph_out (by omega)
      refine A_aload_n (pc := 5) (i := 0) dX12_both_5 rfl rfl ?_
      refine A_bipush (pc := 6) (38) dX12_both_6 (by decide) ?_
      refine A_callV1 (pc := 8) cv_X12_154 (r_takes l hR b n h7 h9 hbn x.2 hx1 38) hR.1 rfl rfl rfl rfl (Nat.le_of_ble_eq_true rfl) (rm_ge hd (by decide)) ⟨Nat.zero_le _, Nat.zero_le _⟩ dX12_both_8 ?_
      rw [if_neg (show ¬ ph (fun p => iv (31, 0, 0) (b + p)) n x.2 = 38 by rw [hm1]; decide)]
      refine A_ifeq (pc := 11) 36 dX12_both_11 (by decide) (fun hb11 => ?_) (fun hb11 => ?_)
      · refine A_iload_n (pc := 36) (i := 1) dX12_both_36 rfl rfl ?_
        exact A_iretE (pc := 37) dX12_both_37 rfl (Nat.zero_le _) (Nat.zero_le _) (rfl) (rfl)
      · exact absurd ((sr_b_0 _).mpr (show ¬ ph (fun p => iv (31, 0, 0) (b + p)) n x.2 = 38 by rw [hm1]; decide)) hb11
    | succ k ih =>
      intro x y2 hx1 hx2 hx3 hx4
      refine A_aload_n (pc := 5) (i := 0) dX12_both_5 rfl rfl ?_
      refine A_bipush (pc := 6) (38) dX12_both_6 (by decide) ?_
      refine A_callV1 (pc := 8) cv_X12_154 (r_takes l hR b n h7 h9 hbn x.2 hx1 38) hR.1 rfl rfl rfl rfl (Nat.le_of_ble_eq_true rfl) (rm_ge hd (by decide)) ⟨Nat.zero_le _, Nat.zero_le _⟩ dX12_both_8 ?_
      refine A_ifeq (pc := 11) 36 dX12_both_11 (by decide) (fun hb11 => ?_) (fun hb11 => ?_)
      · have ec := (sr_b_0 _).mp hb11
        rw [if_neg ec]
        have hq : ¬ isN (ph (fun p => iv (31, 0, 0) (b + p)) n x.2) = true := fun h => ec (of_decide_eq_true h)
        rw [pl, if_neg hq]
        refine A_iload_n (pc := 36) (i := 1) dX12_both_36 rfl rfl ?_
        exact A_iretE (pc := 37) dX12_both_37 rfl (Nat.zero_le _) (Nat.zero_le _) (rfl) (rfl)
      · have ec : ph (fun p => iv (31, 0, 0) (b + p)) n x.2 = 38 := Classical.not_not.mp (fun h => hb11 ((sr_b_0 _).mpr h))
        have hq : isN (ph (fun p => iv (31, 0, 0) (b + p)) n x.2) = true := by rw [ec]; decide
        rw [if_pos ec]
        have g1 : pg n x.2 (pa x.2) := pg_pa (t := (fun p => iv (31, 0, 0) (b + p))) (fun h => by rw [h] at hq; exact absurd hq (by decide)) hx3
        have g2 := hG (pa x.2) g1.2.1 g1.2.2.2
        refine A_aload_n (pc := 14) (i := 0) dX12_both_14 rfl rfl ?_
        refine A_callV1 (pc := 15) cv_X12_157 (hU (pa x.2) g1.2.1 (Nat.le_trans hx2 g1.2.2.1) g1.2.2.2) hR.1 rfl rfl rfl rfl (Nat.le_of_ble_eq_true rfl) (rm_ge (Nat.le_refl d) (by decide)) ⟨Nat.zero_le _, Nat.zero_le _⟩ dX12_both_15 ?_
        refine A_ist2 (pc := 18) dX12_both_18 (Nat.le_of_ble_eq_true rfl) rfl ?_
        refine A_iload_n (pc := 19) (i := 1) dX12_both_19 rfl rfl ?_
        refine A_ifeq (pc := 20) 31 dX12_both_20 (by decide) (fun hb20 => ?_) (fun hb20 => ?_)
        · refine A_iconst (pc := 31) (0) dX12_both_31 (by decide) ?_
          refine A_ist1 (pc := 32) dX12_both_32 (Nat.le_of_ble_eq_true rfl) rfl ?_
          refine A_goto (pc := 33) 5 dX12_both_33 (by decide) ?_
          rw [pl, if_pos hq]
          have ih2 := fun y2 => ih (tx_res (ph (fun p => iv (31, 0, 0) (b + p)) n x.2) x.1 (U (pa x.2)).1, (U (pa x.2)).2) y2 g2.2.1 (Nat.le_trans hx2 (g1.trans g2).2.2.1) g2.2.2.2 (by have h1 := g2.1; have h2 : (pa x.2).1 = x.2.1 + 1 := rfl; have h3 : (U (pa x.2)).2.1 = (tx_res (ph (fun p => iv (31, 0, 0) (b + p)) n x.2) x.1 (U (pa x.2)).1, (U (pa x.2)).2).2.1 := rfl; omega)
          have er : tx_res (ph (fun p => iv (31, 0, 0) (b + p)) n x.2) x.1 (U (pa x.2)).1 = 0 := by rw [ec]; show sr_b (¬ x.1 = 0 ∧ ¬ (U (pa x.2)).1 = 0) = 0; exact if_neg (fun h => h.1 hb20)
          rw [er] at ih2 ⊢
          exact ih2 _
        · refine A_iload_n (pc := 23) (i := 2) dX12_both_23 rfl rfl ?_
          refine A_ifeq (pc := 24) 31 dX12_both_24 (by decide) (fun hb24 => ?_) (fun hb24 => ?_)
          · refine A_iconst (pc := 31) (0) dX12_both_31 (by decide) ?_
            refine A_ist1 (pc := 32) dX12_both_32 (Nat.le_of_ble_eq_true rfl) rfl ?_
            refine A_goto (pc := 33) 5 dX12_both_33 (by decide) ?_
            rw [pl, if_pos hq]
            have ih2 := fun y2 => ih (tx_res (ph (fun p => iv (31, 0, 0) (b + p)) n x.2) x.1 (U (pa x.2)).1, (U (pa x.2)).2) y2 g2.2.1 (Nat.le_trans hx2 (g1.trans g2).2.2.1) g2.2.2.2 (by have h1 := g2.1; have h2 : (pa x.2).1 = x.2.1 + 1 := rfl; have h3 : (U (pa x.2)).2.1 = (tx_res (ph (fun p => iv (31, 0, 0) (b + p)) n x.2) x.1 (U (pa x.2)).1, (U (pa x.2)).2).2.1 := rfl; omega)
            have er : tx_res (ph (fun p => iv (31, 0, 0) (b + p)) n x.2) x.1 (U (pa x.2)).1 = 0 := by rw [ec]; show sr_b (¬ x.1 = 0 ∧ ¬ (U (pa x.2)).1 = 0) = 0; exact if_neg (fun h => h.2 hb24)
            rw [er] at ih2 ⊢
            exact ih2 _
          · refine A_iconst (pc := 27) (1) dX12_both_27 (by decide) ?_
            refine A_goto (pc := 28) 32 dX12_both_28 (by decide) ?_
            refine A_ist1 (pc := 32) dX12_both_32 (Nat.le_of_ble_eq_true rfl) rfl ?_
            refine A_goto (pc := 33) 5 dX12_both_33 (by decide) ?_
            rw [pl, if_pos hq]
            have ih2 := fun y2 => ih (tx_res (ph (fun p => iv (31, 0, 0) (b + p)) n x.2) x.1 (U (pa x.2)).1, (U (pa x.2)).2) y2 g2.2.1 (Nat.le_trans hx2 (g1.trans g2).2.2.1) g2.2.2.2 (by have h1 := g2.1; have h2 : (pa x.2).1 = x.2.1 + 1 := rfl; have h3 : (U (pa x.2)).2.1 = (tx_res (ph (fun p => iv (31, 0, 0) (b + p)) n x.2) x.1 (U (pa x.2)).1, (U (pa x.2)).2).2.1 := rfl; omega)
            have er : tx_res (ph (fun p => iv (31, 0, 0) (b + p)) n x.2) x.1 (U (pa x.2)).1 = 1 := by rw [ec]; show sr_b (¬ x.1 = 0 ∧ ¬ (U (pa x.2)).1 = 0) = 1; exact if_pos ⟨hb20, hb24⟩
            rw [er] at ih2 ⊢
            exact ih2 _
  refine A_aload_n (pc := 0) (i := 0) dX12_both_0 rfl rfl ?_
  refine A_callV1 (pc := 1) cv_X12_157 (hU s hs he h5) hR.1 rfl rfl rfl rfl (Nat.le_of_ble_eq_true rfl) (rm_ge (Nat.le_refl d) (by decide)) ⟨Nat.zero_le _, Nat.zero_le _⟩ dX12_both_1 ?_
  refine A_ist1 (pc := 4) dX12_both_4 (Nat.le_of_ble_eq_true rfl) rfl ?_
  exact loop n (U s) _ g0.2.1 (Nat.le_trans he g0.2.2.1) g0.2.2.2 (Nat.le_add_left n _)
set_option maxRecDepth 20000 in
theorem r_either (l : Launch) {kd : am_kd} {rv : am_rv} {iv : am_iv} (hR : shr kd rv) (b n : Nat) (h7 : iv (30, 0, 0) 7 = nI b) (h9 : iv (30, 0, 0) 9 = nI n) (hbn : b + n ≤ 300) (U : ps → Int32 × ps) (hG : pG n U) (e d : Nat) (hd : 1 ≤ d) (hU : ∀ s : ps, s.1 ≤ n → e ≤ s.2.2 → s.2.2 ≤ 5 → am_Met l mX12_both (am_rm d 0 0) [am_P (30, 0, 0)] kd rv (hp iv s) (am_ret (some (am_I (U s).1)) kd rv (hp iv (U s).2))) : ∀ s : ps, s.1 ≤ n → e ≤ s.2.2 → s.2.2 ≤ 5 → am_Met l mX12_either (am_rm (d + 1) 0 0) [am_P (30, 0, 0)] kd rv (hp iv s) (am_ret (some (am_I ((pO (fun p => iv (31, 0, 0) (b + p)) n U) s).1)) kd rv (hp iv ((pO (fun p => iv (31, 0, 0) (b + p)) n U) s).2)) := by
  intro s hs he h5
  refine am_Met.of (by decide) (Nat.le_of_ble_eq_true rfl) rfl ?_
  have g0 := hG s hs h5
  have loop : ∀ (k : Nat) (x : Int32 × ps) (y2 : Option am_V), x.2.1 ≤ n → e ≤ x.2.2.2 → x.2.2.2 ≤ 5 → n ≤ x.2.1 + k → am_W l mX12_either (am_rm (d + 1) 0 0) (am_ret (some (am_I (pl (fun p => iv (31, 0, 0) (b + p)) n isO U k x).1)) kd rv (hp iv (pl (fun p => iv (31, 0, 0) (b + p)) n isO U k x).2)) 5 [some (am_P (30, 0, 0)), some (am_I x.1), y2] [] kd rv (hp iv x.2) 0 0 := by
    intro k
    induction k with
    | zero =>
      intro x y2 hx1 hx2 hx3 hx4
      have hm1 : ph (fun p => iv (31, 0, 0) (b + p)) n x.2 = -1 := ph_out (by omega)
      refine A_aload_n (pc := 5) (i := 0) dX12_either_5 rfl rfl ?_
      refine A_bipush (pc := 6) (124) dX12_either_6 (by decide) ?_
      refine A_callV1 (pc := 8) cv_X12_154 (r_takes l hR b n h7 h9 hbn x.2 hx1 124) hR.1 rfl rfl rfl rfl (Nat.le_of_ble_eq_true rfl) (rm_ge hd (by decide)) ⟨Nat.zero_le _, Nat.zero_le _⟩ dX12_either_8 ?_
      rw [if_neg (show ¬ ph (fun p => iv (31, 0, 0) (b + p)) n x.2 = 124 by rw [hm1]; decide)]
      refine A_ifeq (pc := 11) 36 dX12_either_11 (by decide) (fun hb11 => ?_) (fun hb11 => ?_)
      · refine A_iload_n (pc := 36) (i := 1) dX12_either_36 rfl rfl ?_
        exact A_iretE (pc := 37) dX12_either_37 rfl (Nat.zero_le _) (Nat.zero_le _) (rfl) (rfl)
      · exact absurd ((sr_b_0 _).mpr (show ¬ ph (fun p => iv (31, 0, 0) (b + p)) n x.2 = 124 by rw [hm1]; decide)) hb11
    | succ k ih =>
      intro x y2 hx1 hx2 hx3 hx4
      refine A_aload_n (pc := 5) (i := 0) dX12_either_5 rfl rfl ?_
      refine A_bipush (pc := 6) (124) dX12_either_6 (by decide) ?_
      refine A_callV1 (pc := 8) cv_X12_154 (r_takes l hR b n h7 h9 hbn x.2 hx1 124) hR.1 rfl rfl rfl rfl (Nat.le_of_ble_eq_true rfl) (rm_ge hd (by decide)) ⟨Nat.zero_le _, Nat.zero_le _⟩ dX12_either_8 ?_
      refine A_ifeq (pc := 11) 36 dX12_either_11 (by decide) (fun hb11 => ?_) (fun hb11 => ?_)
      · have ec := (sr_b_0 _).mp hb11
        rw [if_neg ec]
        have hq : ¬ isO (ph (fun p => iv (31, 0, 0) (b + p)) n x.2) = true := fun h => ec (of_decide_eq_true h)
        rw [pl, if_neg hq]
        refine A_iload_n (pc := 36) (i := 1) dX12_either_36 rfl rfl ?_
        exact A_iretE (pc := 37) dX12_either_37 rfl (Nat.zero_le _) (Nat.zero_le _) (rfl) (rfl)
      · have ec : ph (fun p => iv (31, 0, 0) (b + p)) n x.2 = 124 := Classical.not_not.mp (fun h => hb11 ((sr_b_0 _).mpr h))
        have hq : isO (ph (fun p => iv (31, 0, 0) (b + p)) n x.2) = true := by rw [ec]; decide
        rw [if_pos ec]
        have g1 : pg n x.2 (pa x.2) := pg_pa (t := (fun p => iv (31, 0, 0) (b + p))) (fun h => by rw [h] at hq; exact absurd hq (by decide)) hx3
        have g2 := hG (pa x.2) g1.2.1 g1.2.2.2
        refine A_aload_n (pc := 14) (i := 0) dX12_either_14 rfl rfl ?_
        refine A_callV1 (pc := 15) cv_X12_151 (hU (pa x.2) g1.2.1 (Nat.le_trans hx2 g1.2.2.1) g1.2.2.2) hR.1 rfl rfl rfl rfl (Nat.le_of_ble_eq_true rfl) (rm_ge (Nat.le_refl d) (by decide)) ⟨Nat.zero_le _, Nat.zero_le _⟩ dX12_either_15 ?_
        refine A_ist2 (pc := 18) dX12_either_18 (Nat.le_of_ble_eq_true rfl) rfl ?_
        refine A_iload_n (pc := 19) (i := 1) dX12_either_19 rfl rfl ?_
        refine A_ifne (pc := 20) 27 dX12_either_20 (by decide) (fun hb20 => ?_) (fun hb20 => ?_)
        · refine A_iconst (pc := 27) (1) dX12_either_27 (by decide) ?_
          refine A_goto (pc := 28) 32 dX12_either_28 (by decide) ?_
          refine A_ist1 (pc := 32) dX12_either_32 (Nat.le_of_ble_eq_true rfl) rfl ?_
          refine A_goto (pc := 33) 5 dX12_either_33 (by decide) ?_
          rw [pl, if_pos hq]
          have ih2 := fun y2 => ih (tx_res (ph (fun p => iv (31, 0, 0) (b + p)) n x.2) x.1 (U (pa x.2)).1, (U (pa x.2)).2) y2 g2.2.1 (Nat.le_trans hx2 (g1.trans g2).2.2.1) g2.2.2.2 (by have h1 := g2.1; have h2 : (pa x.2).1 = x.2.1 + 1 := rfl; have h3 : (U (pa x.2)).2.1 = (tx_res (ph (fun p => iv (31, 0, 0) (b + p)) n x.2) x.1 (U (pa x.2)).1, (U (pa x.2)).2).2.1 := rfl; omega)
          have er : tx_res (ph (fun p => iv (31, 0, 0) (b + p)) n x.2) x.1 (U (pa x.2)).1 = 1 := by rw [ec]; show sr_b (¬ x.1 = 0 ∨ ¬ (U (pa x.2)).1 = 0) = 1; exact if_pos (Or.inl hb20)
          rw [er] at ih2 ⊢
          exact ih2 _
        · refine A_iload_n (pc := 23) (i := 2) dX12_either_23 rfl rfl ?_
          refine A_ifeq (pc := 24) 31 dX12_either_24 (by decide) (fun hb24 => ?_) (fun hb24 => ?_)
          · refine A_iconst (pc := 31) (0) dX12_either_31 (by decide) ?_
            refine A_ist1 (pc := 32) dX12_either_32 (Nat.le_of_ble_eq_true rfl) rfl ?_
            refine A_goto (pc := 33) 5 dX12_either_33 (by decide) ?_
            rw [pl, if_pos hq]
            have ih2 := fun y2 => ih (tx_res (ph (fun p => iv (31, 0, 0) (b + p)) n x.2) x.1 (U (pa x.2)).1, (U (pa x.2)).2) y2 g2.2.1 (Nat.le_trans hx2 (g1.trans g2).2.2.1) g2.2.2.2 (by have h1 := g2.1; have h2 : (pa x.2).1 = x.2.1 + 1 := rfl; have h3 : (U (pa x.2)).2.1 = (tx_res (ph (fun p => iv (31, 0, 0) (b + p)) n x.2) x.1 (U (pa x.2)).1, (U (pa x.2)).2).2.1 := rfl; omega)
            have er : tx_res (ph (fun p => iv (31, 0, 0) (b + p)) n x.2) x.1 (U (pa x.2)).1 = 0 := by rw [ec]; show sr_b (¬ x.1 = 0 ∨ ¬ (U (pa x.2)).1 = 0) = 0; exact if_neg (fun h => h.elim (fun h => h hb20) (fun h => h hb24))
            rw [er] at ih2 ⊢
            exact ih2 _
          · refine A_iconst (pc := 27) (1) dX12_either_27 (by decide) ?_
            refine A_goto (pc := 28) 32 dX12_either_28 (by decide) ?_
            refine A_ist1 (pc := 32) dX12_either_32 (Nat.le_of_ble_eq_true rfl) rfl ?_
            refine A_goto (pc := 33) 5 dX12_either_33 (by decide) ?_
            rw [pl, if_pos hq]
            have ih2 := fun y2 => ih (tx_res (ph (fun p => iv (31, 0, 0) (b + p)) n x.2) x.1 (U (pa x.2)).1, (U (pa x.2)).2) y2 g2.2.1 (Nat.le_trans hx2 (g1.trans g2).2.2.1) g2.2.2.2 (by have h1 := g2.1; have h2 : (pa x.2).1 = x.2.1 + 1 := rfl; have h3 : (U (pa x.2)).2.1 = (tx_res (ph (fun p => iv (31, 0, 0) (b + p)) n x.2) x.1 (U (pa x.2)).1, (U (pa x.2)).2).2.1 := rfl; omega)
            have er : tx_res (ph (fun p => iv (31, 0, 0) (b + p)) n x.2) x.1 (U (pa x.2)).1 = 1 := by rw [ec]; show sr_b (¬ x.1 = 0 ∨ ¬ (U (pa x.2)).1 = 0) = 1; exact if_pos (Or.inr hb24)
            rw [er] at ih2 ⊢
            exact ih2 _
  refine A_aload_n (pc := 0) (i := 0) dX12_either_0 rfl rfl ?_
  refine A_callV1 (pc := 1) cv_X12_151 (hU s hs he h5) hR.1 rfl rfl rfl rfl (Nat.le_of_ble_eq_true rfl) (rm_ge (Nat.le_refl d) (by decide)) ⟨Nat.zero_le _, Nat.zero_le _⟩ dX12_either_1 ?_
  refine A_ist1 (pc := 4) dX12_either_4 (Nat.le_of_ble_eq_true rfl) rfl ?_
  exact loop n (U s) _ g0.2.1 (Nat.le_trans he g0.2.2.1) g0.2.2.2 (Nat.le_add_left n _)
set_option maxRecDepth 20000 in
theorem r_compared (l : Launch) {kd : am_kd} {rv : am_rv} {iv : am_iv} (hR : shr kd rv) (b n : Nat) (h7 : iv (30, 0, 0) 7 = nI b) (h9 : iv (30, 0, 0) 9 = nI n) (hbn : b + n ≤ 300) (U : ps → Int32 × ps) (hG : pG n U) (e d : Nat) (hd : 1 ≤ d) (hU : ∀ s : ps, s.1 ≤ n → e ≤ s.2.2 → s.2.2 ≤ 5 → am_Met l mX12_sum (am_rm d 0 0) [am_P (30, 0, 0)] kd rv (hp iv s) (am_ret (some (am_I (U s).1)) kd rv (hp iv (U s).2))) : ∀ s : ps, s.1 ≤ n → e ≤ s.2.2 → s.2.2 ≤ 5 → am_Met l mX12_compared (am_rm (d + 1) 0 0) [am_P (30, 0, 0)] kd rv (hp iv s) (am_ret (some (am_I ((pC (fun p => iv (31, 0, 0) (b + p)) n U) s).1)) kd rv (hp iv ((pC (fun p => iv (31, 0, 0) (b + p)) n U) s).2)) := by
  intro s hs he h5
  refine am_Met.of (by decide) (Nat.le_of_ble_eq_true rfl) rfl ?_
  have g0 := hG s hs h5
  refine A_aload_n (pc := 0) (i := 0) dX12_compared_0 rfl rfl ?_
  refine A_callV1 (pc := 1) cv_X12_160 (hU s hs he h5) hR.1 rfl rfl rfl rfl (Nat.le_of_ble_eq_true rfl) (rm_ge (Nat.le_refl d) (by decide)) ⟨Nat.zero_le _, Nat.zero_le _⟩ dX12_compared_1 ?_
  refine A_ist1 (pc := 4) dX12_compared_4 (Nat.le_of_ble_eq_true rfl) rfl ?_
  refine A_aload_n (pc := 5) (i := 0) dX12_compared_5 rfl rfl ?_
  refine A_callV1 (pc := 6) cv_X12_143 (r_here l hR b n h7 h9 hbn (U s).2 g0.2.1) hR.1 rfl rfl rfl rfl (Nat.le_of_ble_eq_true rfl) (rm_ge (Nat.zero_le d) (by decide)) ⟨Nat.zero_le _, Nat.zero_le _⟩ dX12_compared_6 ?_
  refine A_ist2 (pc := 9) dX12_compared_9 (Nat.le_of_ble_eq_true rfl) rfl ?_
  refine A_iload_n (pc := 10) (i := 2) dX12_compared_10 rfl rfl ?_
  refine A_bipush (pc := 11) (60) dX12_compared_11 (by decide) ?_
  refine A_icmpeq (pc := 13) 30 dX12_compared_13 (by decide) (fun hb13 => ?_) (fun hb13 => ?_)
  · have ec : ph (fun p => iv (31, 0, 0) (b + p)) n (U s).2 = 60 := hb13
    have hq : isC (ph (fun p => iv (31, 0, 0) (b + p)) n (U s).2) = true := by rw [ec]; decide
    have g1 : pg n (U s).2 (pa (U s).2) := pg_pa (t := (fun p => iv (31, 0, 0) (b + p))) (fun h => by rw [h] at hq; exact absurd hq (by decide)) g0.2.2.2
    refine A_aload_n (pc := 30) (i := 0) dX12_compared_30 rfl rfl ?_
    refine A_dup (pc := 31) dX12_compared_31 rfl ?_
    refine A_geti (pc := 32) 8 fl_X12_130_12 hR.1 rfl dX12_compared_32 ?_
    refine A_top hp_r8 ?_
    refine A_iconst (pc := 35) (1) dX12_compared_35 (by decide) ?_
    refine A_iadd (pc := 36) dX12_compared_36 ?_
    refine A_top (nI_1 (U s).2.1) ?_
    refine A_puti (pc := 37) 8 fl_X12_130_12 hR.1 rfl (by decide +kernel) rfl rfl dX12_compared_37 ?_
    rw [hp_8]
    refine A_aload_n (pc := 40) (i := 0) dX12_compared_40 rfl rfl ?_
    refine A_callV1 (pc := 41) cv_X12_160 (hU (pa (U s).2) g1.2.1 (Nat.le_trans he (g0.trans g1).2.2.1) g1.2.2.2) hR.1 rfl rfl rfl rfl (Nat.le_of_ble_eq_true rfl) (rm_ge (Nat.le_refl d) (by decide)) ⟨Nat.zero_le _, Nat.zero_le _⟩ dX12_compared_41 ?_
    refine A_ist3 (pc := 44) dX12_compared_44 (Nat.le_of_ble_eq_true rfl) rfl ?_
    refine A_iload_n (pc := 45) (i := 2) dX12_compared_45 rfl rfl ?_
    refine A_bipush (pc := 46) (60) dX12_compared_46 (by decide) ?_
    refine A_icmpne (pc := 48) 59 dX12_compared_48 (by decide) (fun hb48 => ?_) (fun hb48 => ?_)
    · exact absurd ec hb48
    · refine A_iload_n (pc := 51) (i := 1) dX12_compared_51 rfl rfl ?_
      refine A_iload_n (pc := 52) (i := 3) dX12_compared_52 rfl rfl ?_
      refine A_icmpge (pc := 53) 82 dX12_compared_53 (by decide) (fun hb53 => ?_) (fun hb53 => ?_)
      · refine A_iconst (pc := 82) (0) dX12_compared_82 (by decide) ?_
        exact A_iretE (pc := 83) dX12_compared_83 rfl (Nat.zero_le _) (Nat.zero_le _) (by rw [pC, if_pos hq]; show 0 = tx_res (ph (fun p => iv (31, 0, 0) (b + p)) n (U s).2) ((U s).1) ((U (pa (U s).2)).1); rw [ec]; show 0 = sr_b (((U s).1) < ((U (pa (U s).2)).1)); exact (if_neg (Int32.not_lt.mpr hb53)).symm) (by rw [pC, if_pos hq])
      · refine A_goto (pc := 56) 78 dX12_compared_56 (by decide) ?_
        refine A_iconst (pc := 78) (1) dX12_compared_78 (by decide) ?_
        refine A_goto (pc := 79) 83 dX12_compared_79 (by decide) ?_
        exact A_iretE (pc := 83) dX12_compared_83 rfl (Nat.zero_le _) (Nat.zero_le _) (by rw [pC, if_pos hq]; show 1 = tx_res (ph (fun p => iv (31, 0, 0) (b + p)) n (U s).2) ((U s).1) ((U (pa (U s).2)).1); rw [ec]; show 1 = sr_b (((U s).1) < ((U (pa (U s).2)).1)); exact (if_pos (Int32.not_le.mp hb53)).symm) (by rw [pC, if_pos hq])
  · refine A_iload_n (pc := 16) (i := 2) dX12_compared_16 rfl rfl ?_
    refine A_bipush (pc := 17) (61) dX12_compared_17 (by decide) ?_
    refine A_icmpeq (pc := 19) 30 dX12_compared_19 (by decide) (fun hb19 => ?_) (fun hb19 => ?_)
    · have ec : ph (fun p => iv (31, 0, 0) (b + p)) n (U s).2 = 61 := hb19
      have hq : isC (ph (fun p => iv (31, 0, 0) (b + p)) n (U s).2) = true := by rw [ec]; decide
      have g1 : pg n (U s).2 (pa (U s).2) := pg_pa (t := (fun p => iv (31, 0, 0) (b + p))) (fun h => by rw [h] at hq; exact absurd hq (by decide)) g0.2.2.2
      refine A_aload_n (pc := 30) (i := 0) dX12_compared_30 rfl rfl ?_
      refine A_dup (pc := 31) dX12_compared_31 rfl ?_
      refine A_geti (pc := 32) 8 fl_X12_130_12 hR.1 rfl dX12_compared_32 ?_
      refine A_top hp_r8 ?_
      refine A_iconst (pc := 35) (1) dX12_compared_35 (by decide) ?_
      refine A_iadd (pc := 36) dX12_compared_36 ?_
      refine A_top (nI_1 (U s).2.1) ?_
      refine A_puti (pc := 37) 8 fl_X12_130_12 hR.1 rfl (by decide +kernel) rfl rfl dX12_compared_37 ?_
      rw [hp_8]
      refine A_aload_n (pc := 40) (i := 0) dX12_compared_40 rfl rfl ?_
      refine A_callV1 (pc := 41) cv_X12_160 (hU (pa (U s).2) g1.2.1 (Nat.le_trans he (g0.trans g1).2.2.1) g1.2.2.2) hR.1 rfl rfl rfl rfl (Nat.le_of_ble_eq_true rfl) (rm_ge (Nat.le_refl d) (by decide)) ⟨Nat.zero_le _, Nat.zero_le _⟩ dX12_compared_41 ?_
      refine A_ist3 (pc := 44) dX12_compared_44 (Nat.le_of_ble_eq_true rfl) rfl ?_
      refine A_iload_n (pc := 45) (i := 2) dX12_compared_45 rfl rfl ?_
      refine A_bipush (pc := 46) (60) dX12_compared_46 (by decide) ?_
      refine A_icmpne (pc := 48) 59 dX12_compared_48 (by decide) (fun hb48 => ?_) (fun hb48 => ?_)
      · refine A_iload_n (pc := 59) (i := 2) dX12_compared_59 rfl rfl ?_
        refine A_bipush (pc := 60) (61) dX12_compared_60 (by decide) ?_
        refine A_icmpne (pc := 62) 73 dX12_compared_62 (by decide) (fun hb62 => ?_) (fun hb62 => ?_)
        · exact absurd ec hb62
        · refine A_iload_n (pc := 65) (i := 1) dX12_compared_65 rfl rfl ?_
          refine A_iload_n (pc := 66) (i := 3) dX12_compared_66 rfl rfl ?_
          refine A_icmpne (pc := 67) 82 dX12_compared_67 (by decide) (fun hb67 => ?_) (fun hb67 => ?_)
          · refine A_iconst (pc := 82) (0) dX12_compared_82 (by decide) ?_
            exact A_iretE (pc := 83) dX12_compared_83 rfl (Nat.zero_le _) (Nat.zero_le _) (by rw [pC, if_pos hq]; show 0 = tx_res (ph (fun p => iv (31, 0, 0) (b + p)) n (U s).2) ((U s).1) ((U (pa (U s).2)).1); rw [ec]; show 0 = sr_b (((U s).1) = ((U (pa (U s).2)).1)); exact (if_neg hb67).symm) (by rw [pC, if_pos hq])
          · refine A_goto (pc := 70) 78 dX12_compared_70 (by decide) ?_
            refine A_iconst (pc := 78) (1) dX12_compared_78 (by decide) ?_
            refine A_goto (pc := 79) 83 dX12_compared_79 (by decide) ?_
            exact A_iretE (pc := 83) dX12_compared_83 rfl (Nat.zero_le _) (Nat.zero_le _) (by rw [pC, if_pos hq]; show 1 = tx_res (ph (fun p => iv (31, 0, 0) (b + p)) n (U s).2) ((U s).1) ((U (pa (U s).2)).1); rw [ec]; show 1 = sr_b (((U s).1) = ((U (pa (U s).2)).1)); exact (if_pos hb67).symm) (by rw [pC, if_pos hq])
      · exact absurd (ec.symm.trans hb48) (by decide)
    · refine A_iload_n (pc := 22) (i := 2) dX12_compared_22 rfl rfl ?_
      refine A_bipush (pc := 23) (62) dX12_compared_23 (by decide) ?_
      refine A_icmpeq (pc := 25) 30 dX12_compared_25 (by decide) (fun hb25 => ?_) (fun hb25 => ?_)
      · have ec : ph (fun p => iv (31, 0, 0) (b + p)) n (U s).2 = 62 := hb25
        have hq : isC (ph (fun p => iv (31, 0, 0) (b + p)) n (U s).2) = true := by rw [ec]; decide
        have g1 : pg n (U s).2 (pa (U s).2) := pg_pa (t := (fun p => iv (31, 0, 0) (b + p))) (fun h => by rw [h] at hq; exact absurd hq (by decide)) g0.2.2.2
        refine A_aload_n (pc := 30) (i := 0) dX12_compared_30 rfl rfl ?_
        refine A_dup (pc := 31) dX12_compared_31 rfl ?_
        refine A_geti (pc := 32) 8 fl_X12_130_12 hR.1 rfl dX12_compared_32 ?_
        refine A_top hp_r8 ?_
        refine A_iconst (pc := 35) (1) dX12_compared_35 (by decide) ?_
        refine A_iadd (pc := 36) dX12_compared_36 ?_
        refine A_top (nI_1 (U s).2.1) ?_
        refine A_puti (pc := 37) 8 fl_X12_130_12 hR.1 rfl (by decide +kernel) rfl rfl dX12_compared_37 ?_
        rw [hp_8]
        refine A_aload_n (pc := 40) (i := 0) dX12_compared_40 rfl rfl ?_
        refine A_callV1 (pc := 41) cv_X12_160 (hU (pa (U s).2) g1.2.1 (Nat.le_trans he (g0.trans g1).2.2.1) g1.2.2.2) hR.1 rfl rfl rfl rfl (Nat.le_of_ble_eq_true rfl) (rm_ge (Nat.le_refl d) (by decide)) ⟨Nat.zero_le _, Nat.zero_le _⟩ dX12_compared_41 ?_
        refine A_ist3 (pc := 44) dX12_compared_44 (Nat.le_of_ble_eq_true rfl) rfl ?_
        refine A_iload_n (pc := 45) (i := 2) dX12_compared_45 rfl rfl ?_
        refine A_bipush (pc := 46) (60) dX12_compared_46 (by decide) ?_
        refine A_icmpne (pc := 48) 59 dX12_compared_48 (by decide) (fun hb48 => ?_) (fun hb48 => ?_)
        · refine A_iload_n (pc := 59) (i := 2) dX12_compared_59 rfl rfl ?_
          refine A_bipush (pc := 60) (61) dX12_compared_60 (by decide) ?_
          refine A_icmpne (pc := 62) 73 dX12_compared_62 (by decide) (fun hb62 => ?_) (fun hb62 => ?_)
          · refine A_iload_n (pc := 73) (i := 1) dX12_compared_73 rfl rfl ?_
            refine A_iload_n (pc := 74) (i := 3) dX12_compared_74 rfl rfl ?_
            refine A_icmple (pc := 75) 82 dX12_compared_75 (by decide) (fun hb75 => ?_) (fun hb75 => ?_)
            · refine A_iconst (pc := 82) (0) dX12_compared_82 (by decide) ?_
              exact A_iretE (pc := 83) dX12_compared_83 rfl (Nat.zero_le _) (Nat.zero_le _) (by rw [pC, if_pos hq]; show 0 = tx_res (ph (fun p => iv (31, 0, 0) (b + p)) n (U s).2) ((U s).1) ((U (pa (U s).2)).1); rw [ec]; show 0 = sr_b (((U (pa (U s).2)).1) < ((U s).1)); exact (if_neg (Int32.not_lt.mpr hb75)).symm) (by rw [pC, if_pos hq])
            · refine A_iconst (pc := 78) (1) dX12_compared_78 (by decide) ?_
              refine A_goto (pc := 79) 83 dX12_compared_79 (by decide) ?_
              exact A_iretE (pc := 83) dX12_compared_83 rfl (Nat.zero_le _) (Nat.zero_le _) (by rw [pC, if_pos hq]; show 1 = tx_res (ph (fun p => iv (31, 0, 0) (b + p)) n (U s).2) ((U s).1) ((U (pa (U s).2)).1); rw [ec]; show 1 = sr_b (((U (pa (U s).2)).1) < ((U s).1)); exact (if_pos (Int32.not_le.mp hb75)).symm) (by rw [pC, if_pos hq])
          · exact absurd (ec.symm.trans hb62) (by decide)
        · exact absurd (ec.symm.trans hb48) (by decide)
      · have hq : ¬ isC (ph (fun p => iv (31, 0, 0) (b + p)) n (U s).2) = true := fun h => by
          have h2 := of_decide_eq_true h
          exact h2.elim hb13 (fun h3 => h3.elim hb19 hb25)
        refine A_iload_n (pc := 28) (i := 1) dX12_compared_28 rfl rfl ?_
        exact A_iretE (pc := 29) dX12_compared_29 rfl (Nat.zero_le _) (Nat.zero_le _) (by rw [pC, if_neg hq]) (by rw [pC, if_neg hq])
def pUx (t : Nat → Int32) (n : Nat) (g : Int32) (nm : Nat → Int32) (U : ps → Int32 × ps) (s : ps) : Int32 × ps := if ph t n s = 33 ∨ ph t n s = 40 then (if s.2.2 = 5 then (0, pw s) else pin t n U s) else pleaf t n g nm s
theorem nI_m1 {o : Nat} (h : 1 ≤ o) : nI o - 1 = nI (o - 1) := by
  obtain ⟨q, rfl⟩ : ∃ q, o = q + 1 := ⟨o - 1, by omega⟩
  exact nI_p1 q
theorem pnm_in {g c : Int32} (h : ¬ pnm g c < 0) : ∃ q, q < 3 ∧ pnm g c = nI q := by
  unfold pnm at *
  by_cases hg : g = 0
  · rw [if_pos hg] at *
    by_cases h1 : c = 116
    · exact ⟨0, by decide, if_pos h1⟩
    · rw [if_neg h1] at *
      by_cases h2 : c = 119
      · exact ⟨1, by decide, if_pos h2⟩
      · rw [if_neg h2] at *
        by_cases h3 : c = 107
        · exact ⟨2, by decide, if_pos h3⟩
        · rw [if_neg h3] at h; exact absurd (by decide) h
  · rw [if_neg hg] at *
    by_cases h1 : c = 108
    · exact ⟨0, by decide, if_pos h1⟩
    · rw [if_neg h1] at *
      by_cases h2 : c = 113
      · exact ⟨1, by decide, if_pos h2⟩
      · rw [if_neg h2] at *
        by_cases h3 : c = 104
        · exact ⟨2, by decide, if_pos h3⟩
        · rw [if_neg h3] at h; exact absurd (by decide) h
set_option maxRecDepth 20000 in
theorem r_unitx (l : Launch) {kd : am_kd} {rv : am_rv} {iv : am_iv} (hR : shr kd rv) (b n : Nat) (h7 : iv (30, 0, 0) 7 = nI b) (h9 : iv (30, 0, 0) 9 = nI n) (hbn : b + n ≤ 300) (U : ps → Int32 × ps) (hG : pG n U) (e d d2 : Nat) (hd : 1 ≤ d) (hd2 : d2 ≤ d) (hE : ∀ s : ps, s.1 ≤ n → e + 1 ≤ s.2.2 → s.2.2 ≤ 5 → am_Met l mX12_either (am_rm d 0 0) [am_P (30, 0, 0)] kd rv (hp iv s) (am_ret (some (am_I ((pE (fun p => iv (31, 0, 0) (b + p)) n U) s).1)) kd rv (hp iv ((pE (fun p => iv (31, 0, 0) (b + p)) n U) s).2))) (hU : ∀ s : ps, s.1 ≤ n → e + 1 ≤ s.2.2 → s.2.2 ≤ 5 → am_Met l mX12_unit (am_rm d2 0 0) [am_P (30, 0, 0)] kd rv (hp iv s) (am_ret (some (am_I (U s).1)) kd rv (hp iv (U s).2))) : ∀ s : ps, s.1 ≤ n → e ≤ s.2.2 → s.2.2 ≤ 5 → am_Met l mX12_unit (am_rm (d + 1) 0 0) [am_P (30, 0, 0)] kd rv (hp iv s) (am_ret (some (am_I ((pUx (fun p => iv (31, 0, 0) (b + p)) n (iv (30, 0, 0) 12) (fun q => iv (31, 13, 0) q) U) s).1)) kd rv (hp iv ((pUx (fun p => iv (31, 0, 0) (b + p)) n (iv (30, 0, 0) 12) (fun q => iv (31, 13, 0) q) U) s).2)) := by
  intro s hs he h5
  refine am_Met.of (by decide) (Nat.le_of_ble_eq_true rfl) rfl ?_
  have out : ∀ (y : Int32), (pUx (fun p => iv (31, 0, 0) (b + p)) n (iv (30, 0, 0) 12) (fun q => iv (31, 13, 0) q) U s) = pnum (fun p => iv (31, 0, 0) (b + p)) n s → ∀ (k : Nat) (v : Int32) (p : Nat), k ≤ 4 → p + k = s.1 + 4 → (v, p) = pd (fun p => iv (31, 0, 0) (b + p)) n s.2.1 s.2.2 4 0 s.1 → am_W l mX12_unit (am_rm (d + 1) 0 0) (am_ret (some (am_I (pUx (fun p => iv (31, 0, 0) (b + p)) n (iv (30, 0, 0) 12) (fun q => iv (31, 13, 0) q) U s).1)) kd rv (hp iv (pUx (fun p => iv (31, 0, 0) (b + p)) n (iv (30, 0, 0) 12) (fun q => iv (31, 13, 0) q) U s).2)) 202 [some (am_P (30, 0, 0)), some (am_I (ph (fun p => iv (31, 0, 0) (b + p)) n s)), some (am_I y), some (am_I v), some (am_I (nI (4 - k)))] [] kd rv (hp iv (p, s.2.1, s.2.2)) 0 0 := by
    intro y hx k v p hk hp hv
    have e1 : (pd (fun p => iv (31, 0, 0) (b + p)) n s.2.1 s.2.2 4 0 s.1).1 = v := by rw [← hv]
    have e2 : (pd (fun p => iv (31, 0, 0) (b + p)) n s.2.1 s.2.2 4 0 s.1).2 = p := by rw [← hv]
    rw [hx, pnum, e1, e2]
    refine A_iload (pc := 202) (i := 4) dX12_unit_202 rfl ?_
    refine A_ifne (pc := 204) 214 dX12_unit_204 (by decide) (fun hb204 => ?_) (fun hb204 => ?_)
    · have ep : ¬ p = s.1 := fun h => hb204 (by rw [show 4 - k = 0 by omega]; rfl)
      rw [if_neg ep]
      refine A_iload_n (pc := 214) (i := 3) dX12_unit_214 rfl rfl ?_
      exact A_iretE (pc := 215) dX12_unit_215 rfl (Nat.zero_le _) (Nat.zero_le _) (rfl) (rfl)
    · have h4 : 4 - k = 0 := by have := (nI_k 0 (by decide) (K := 4 - k) (by omega)).mp hb204; exact this
      have ep : p = s.1 := by omega
      rw [if_pos ep, ep]
      refine A_aload_n (pc := 207) (i := 0) dX12_unit_207 rfl rfl ?_
      refine A_callV1 (pc := 208) cv_X12_172 (r_wrong l hR (s.1, s.2.1, s.2.2)) hR.1 rfl rfl rfl rfl (Nat.le_of_ble_eq_true rfl) (rm_ge (Nat.zero_le d) (by decide)) ⟨Nat.zero_le _, Nat.zero_le _⟩ dX12_unit_208 ?_
      refine A_goto (pc := 211) 215 dX12_unit_211 (by decide) ?_
      exact A_iretE (pc := 215) dX12_unit_215 rfl (Nat.zero_le _) (Nat.zero_le _) (rfl) (rfl)
  have loop : ∀ (y : Int32), (pUx (fun p => iv (31, 0, 0) (b + p)) n (iv (30, 0, 0) 12) (fun q => iv (31, 13, 0) q) U s) = pnum (fun p => iv (31, 0, 0) (b + p)) n s → ∀ (k : Nat) (v : Int32) (p : Nat), k ≤ 4 → p + k = s.1 + 4 → p ≤ n → pd (fun p => iv (31, 0, 0) (b + p)) n s.2.1 s.2.2 k v p = pd (fun p => iv (31, 0, 0) (b + p)) n s.2.1 s.2.2 4 0 s.1 → am_W l mX12_unit (am_rm (d + 1) 0 0) (am_ret (some (am_I (pUx (fun p => iv (31, 0, 0) (b + p)) n (iv (30, 0, 0) 12) (fun q => iv (31, 13, 0) q) U s).1)) kd rv (hp iv (pUx (fun p => iv (31, 0, 0) (b + p)) n (iv (30, 0, 0) 12) (fun q => iv (31, 13, 0) q) U s).2)) 150 [some (am_P (30, 0, 0)), some (am_I (ph (fun p => iv (31, 0, 0) (b + p)) n s)), some (am_I y), some (am_I v), some (am_I (nI (4 - k)))] [] kd rv (hp iv (p, s.2.1, s.2.2)) 0 0 := by
    intro y hx k
    induction k with
    | zero =>
      intro v p hk hp hpn hv
      refine A_iload (pc := 150) (i := 4) dX12_unit_150 rfl ?_
      refine A_iconst (pc := 152) (4) dX12_unit_152 (by decide) ?_
      refine A_icmpge (pc := 153) 202 dX12_unit_153 (by decide) (fun hb153 => ?_) (fun hb153 => ?_)
      · exact out y hx 0 v p hk hp hv
      · exact absurd (show (4 : Int32) ≤ nI (4 - 0) by decide) hb153
    | succ k ih =>
      intro v p hk hp hpn hv
      rw [pd] at hv
      refine A_iload (pc := 150) (i := 4) dX12_unit_150 rfl ?_
      refine A_iconst (pc := 152) (4) dX12_unit_152 (by decide) ?_
      refine A_icmpge (pc := 153) 202 dX12_unit_153 (by decide) (fun hb153 => ?_) (fun hb153 => ?_)
      · exact absurd hb153 (show ¬ (4 : Int32) ≤ nI (4 - (k + 1)) from nI_ge (show 4 - (k + 1) < 4 by omega) (by decide))
      · refine A_aload_n (pc := 156) (i := 0) dX12_unit_156 rfl rfl ?_
        refine A_callV1 (pc := 157) cv_X12_143 (r_here l hR b n h7 h9 hbn (p, s.2.1, s.2.2) hpn) hR.1 rfl rfl rfl rfl (Nat.le_of_ble_eq_true rfl) (rm_ge (Nat.zero_le d) (by decide)) ⟨Nat.zero_le _, Nat.zero_le _⟩ dX12_unit_157 ?_
        refine A_i2l (pc := 160) dX12_unit_160 ?_
        refine A_ldc2 (pc := 161) (List.mem_cons_of_mem _ kc_X12_181) dX12_unit_161 ?_
        refine A_topJ (y := Int32.toInt64 (48)) (by decide +kernel) ?_
        refine A_ldc2 (pc := 164) (List.mem_cons_of_mem _ kc_X12_183) dX12_unit_164 ?_
        refine A_topJ (y := Int32.toInt64 (57)) (by decide +kernel) ?_
        refine A_callS1 (pc := 167) cs_X12_48 (r_in l (ph (fun p => iv (31, 0, 0) (b + p)) n (p, s.2.1, s.2.2)) 48 57) rfl rfl (Nat.le_of_ble_eq_true rfl) (rm_ge (Nat.zero_le d) (by decide)) ⟨Nat.zero_le _, Nat.zero_le _⟩ dX12_unit_167 ?_
        refine A_ifeq (pc := 170) 202 dX12_unit_170 (by decide) (fun hb170 => ?_) (fun hb170 => ?_)
        · have hc := (sr_b_0 _).mp hb170
          rw [if_neg hc] at hv
          exact out y hx (k + 1) v p hk hp hv
        · have hc := Classical.not_not.mp (fun h => hb170 ((sr_b_0 _).mpr h))
          rw [if_pos hc] at hv
          have hpl : p < n := ph_in (t := (fun p => iv (31, 0, 0) (b + p))) (s := (p, s.2.1, s.2.2)) (fun h => by rw [h] at hc; exact absurd hc (by decide))
          refine A_bipush (pc := 173) (10) dX12_unit_173 (by decide) ?_
          refine A_iload_n (pc := 175) (i := 3) dX12_unit_175 rfl rfl ?_
          refine A_imul (pc := 176) dX12_unit_176 ?_
          refine A_aload_n (pc := 177) (i := 0) dX12_unit_177 rfl rfl ?_
          refine A_callV1 (pc := 178) cv_X12_143 (r_here l hR b n h7 h9 hbn (p, s.2.1, s.2.2) hpn) hR.1 rfl rfl rfl rfl (Nat.le_of_ble_eq_true rfl) (rm_ge (Nat.zero_le d) (by decide)) ⟨Nat.zero_le _, Nat.zero_le _⟩ dX12_unit_178 ?_
          refine A_iadd (pc := 181) dX12_unit_181 ?_
          refine A_bipush (pc := 182) (48) dX12_unit_182 (by decide) ?_
          refine A_isub (pc := 184) dX12_unit_184 ?_
          refine A_ist3 (pc := 185) dX12_unit_185 (Nat.le_of_ble_eq_true rfl) rfl ?_
          refine A_aload_n (pc := 186) (i := 0) dX12_unit_186 rfl rfl ?_
          refine A_dup (pc := 187) dX12_unit_187 rfl ?_
          refine A_geti (pc := 188) 8 fl_X12_130_12 hR.1 rfl dX12_unit_188 ?_
          refine A_top hp_r8 ?_
          refine A_iconst (pc := 191) (1) dX12_unit_191 (by decide) ?_
          refine A_iadd (pc := 192) dX12_unit_192 ?_
          refine A_top (nI_1 p) ?_
          refine A_puti (pc := 193) 8 fl_X12_130_12 hR.1 rfl (by decide +kernel) rfl rfl dX12_unit_193 ?_
          rw [hp_8]
          refine A_inc4 (pc := 196) (nI (4 - k)) dX12_unit_196 ((nI_1 (4 - (k + 1))).trans (congrArg nI (by omega))) (Nat.le_of_ble_eq_true rfl) rfl ?_
          refine A_goto (pc := 199) 150 dX12_unit_199 (by decide) ?_
          exact ih _ (p + 1) (by omega) (by omega) hpl hv
  refine A_aload_n (pc := 0) (i := 0) dX12_unit_0 rfl rfl ?_
  refine A_callV1 (pc := 1) cv_X12_143 (r_here l hR b n h7 h9 hbn s hs) hR.1 rfl rfl rfl rfl (Nat.le_of_ble_eq_true rfl) (rm_ge (Nat.zero_le d) (by decide)) ⟨Nat.zero_le _, Nat.zero_le _⟩ dX12_unit_1 ?_
  refine A_ist1 (pc := 4) dX12_unit_4 (Nat.le_of_ble_eq_true rfl) rfl ?_
  refine A_iload_n (pc := 5) (i := 1) dX12_unit_5 rfl rfl ?_
  refine A_bipush (pc := 6) (33) dX12_unit_6 (by decide) ?_
  refine A_icmpeq (pc := 8) 17 dX12_unit_8 (by decide) (fun hb8 => ?_) (fun hb8 => ?_)
  · have ec : ph (fun p => iv (31, 0, 0) (b + p)) n s = 33 := hb8
    have hcc : ph (fun p => iv (31, 0, 0) (b + p)) n s = 33 ∨ ph (fun p => iv (31, 0, 0) (b + p)) n s = 40 := by rw [ec]; decide
    have hsn : s.1 < n := ph_in (t := (fun p => iv (31, 0, 0) (b + p))) (fun h => by rw [h] at ec; exact absurd ec (by decide))
    refine A_aload_n (pc := 17) (i := 0) dX12_unit_17 rfl rfl ?_
    refine A_geti (pc := 18) 11 fl_X12_169_12 hR.1 rfl dX12_unit_18 ?_
    refine A_top hp_r11 ?_
    refine A_iconst (pc := 21) (5) dX12_unit_21 (by decide) ?_
    refine A_icmpne (pc := 22) 30 dX12_unit_22 (by decide) (fun hb22 => ?_) (fun hb22 => ?_)
    · have ho : ¬ s.2.2 = 5 := fun h => hb22 (by rw [h]; rfl)
      have hux : pUx (fun p => iv (31, 0, 0) (b + p)) n (iv (30, 0, 0) 12) (fun q => iv (31, 13, 0) q) U s = pin (fun p => iv (31, 0, 0) (b + p)) n U s := by rw [pUx, if_pos hcc, if_neg ho]
      refine A_aload_n (pc := 30) (i := 0) dX12_unit_30 rfl rfl ?_
      refine A_dup (pc := 31) dX12_unit_31 rfl ?_
      refine A_geti (pc := 32) 11 fl_X12_169_12 hR.1 rfl dX12_unit_32 ?_
      refine A_top hp_r11 ?_
      refine A_iconst (pc := 35) (1) dX12_unit_35 (by decide) ?_
      refine A_iadd (pc := 36) dX12_unit_36 ?_
      refine A_top (nI_1 s.2.2) ?_
      refine A_puti (pc := 37) 11 fl_X12_169_12 hR.1 rfl (by decide +kernel) rfl rfl dX12_unit_37 ?_
      rw [hp_11]
      refine A_aload_n (pc := 40) (i := 0) dX12_unit_40 rfl rfl ?_
      refine A_dup (pc := 41) dX12_unit_41 rfl ?_
      refine A_geti (pc := 42) 8 fl_X12_130_12 hR.1 rfl dX12_unit_42 ?_
      refine A_top hp_r8 ?_
      refine A_iconst (pc := 45) (1) dX12_unit_45 (by decide) ?_
      refine A_iadd (pc := 46) dX12_unit_46 ?_
      refine A_top (nI_1 s.1) ?_
      refine A_puti (pc := 47) 8 fl_X12_130_12 hR.1 rfl (by decide +kernel) rfl rfl dX12_unit_47 ?_
      rw [hp_8]
      refine A_iload_n (pc := 50) (i := 1) dX12_unit_50 rfl rfl ?_
      refine A_bipush (pc := 51) (40) dX12_unit_51 (by decide) ?_
      refine A_icmpne (pc := 53) 63 dX12_unit_53 (by decide) (fun hb53 => ?_) (fun hb53 => ?_)
      · have gu := hG (s.1 + 1, s.2.1, s.2.2 + 1) hsn (show s.2.2 + 1 ≤ 5 by omega)
        refine A_aload_n (pc := 63) (i := 0) dX12_unit_63 rfl rfl ?_
        refine A_callV1 (pc := 64) cv_X12_166 (hU (s.1 + 1, s.2.1, s.2.2 + 1) hsn (show e + 1 ≤ s.2.2 + 1 by omega) (show s.2.2 + 1 ≤ 5 by omega)) hR.1 rfl rfl rfl rfl (Nat.le_of_ble_eq_true rfl) (rm_ge hd2 (by decide)) ⟨Nat.zero_le _, Nat.zero_le _⟩ dX12_unit_64 ?_
        refine A_ist2 (pc := 67) dX12_unit_67 (Nat.le_of_ble_eq_true rfl) rfl ?_
        refine A_iload_n (pc := 68) (i := 1) dX12_unit_68 rfl rfl ?_
        refine A_bipush (pc := 69) (40) dX12_unit_69 (by decide) ?_
        refine A_icmpne (pc := 71) 88 dX12_unit_71 (by decide) (fun hb71 => ?_) (fun hb71 => ?_)
        · refine A_aload_n (pc := 88) (i := 0) dX12_unit_88 rfl rfl ?_
          refine A_dup (pc := 89) dX12_unit_89 rfl ?_
          refine A_geti (pc := 90) 11 fl_X12_169_12 hR.1 rfl dX12_unit_90 ?_
          refine A_top hp_r11 ?_
          refine A_iconst (pc := 93) (1) dX12_unit_93 (by decide) ?_
          refine A_isub (pc := 94) dX12_unit_94 ?_
          refine A_top (nI_m1 (show 1 ≤ (U (s.1 + 1, s.2.1, s.2.2 + 1)).2.2.2 by have := gu.2.2.1; simp only at this; omega)) ?_
          refine A_puti (pc := 95) 11 fl_X12_169_12 hR.1 rfl (by decide +kernel) rfl rfl dX12_unit_95 ?_
          rw [hp_11]
          refine A_iload_n (pc := 98) (i := 1) dX12_unit_98 rfl rfl ?_
          refine A_bipush (pc := 99) (40) dX12_unit_99 (by decide) ?_
          refine A_icmpne (pc := 101) 108 dX12_unit_101 (by decide) (fun hb101 => ?_) (fun hb101 => ?_)
          · refine A_iload_n (pc := 108) (i := 2) dX12_unit_108 rfl rfl ?_
            refine A_ifne (pc := 109) 116 dX12_unit_109 (by decide) (fun hb109 => ?_) (fun hb109 => ?_)
            · refine A_iconst (pc := 116) (0) dX12_unit_116 (by decide) ?_
              exact A_iretE (pc := 117) dX12_unit_117 rfl (Nat.zero_le _) (Nat.zero_le _) (by rw [hux, pin, if_neg (by rw [ec]; decide)]; show _ = sr_b ((U (s.1 + 1, s.2.1, s.2.2 + 1)).1 = 0); exact (if_neg hb109).symm) (by rw [hux, pin, if_neg (by rw [ec]; decide)])
            · refine A_iconst (pc := 112) (1) dX12_unit_112 (by decide) ?_
              refine A_goto (pc := 113) 117 dX12_unit_113 (by decide) ?_
              exact A_iretE (pc := 117) dX12_unit_117 rfl (Nat.zero_le _) (Nat.zero_le _) (by rw [hux, pin, if_neg (by rw [ec]; decide)]; show _ = sr_b ((U (s.1 + 1, s.2.1, s.2.2 + 1)).1 = 0); exact (if_pos hb109).symm) (by rw [hux, pin, if_neg (by rw [ec]; decide)])
          · exact absurd (ec.symm.trans hb101) (by decide)
        · exact absurd (ec.symm.trans hb71) (by decide)
      · exact absurd (ec.symm.trans hb53) (by decide)
    · have ho : s.2.2 = 5 := by have := (nI_k 5 (by decide) (K := s.2.2) (by omega)).mp hb22; exact this
      refine A_aload_n (pc := 25) (i := 0) dX12_unit_25 rfl rfl ?_
      refine A_callV1 (pc := 26) cv_X12_172 (r_wrong l hR s) hR.1 rfl rfl rfl rfl (Nat.le_of_ble_eq_true rfl) (rm_ge (Nat.zero_le d) (by decide)) ⟨Nat.zero_le _, Nat.zero_le _⟩ dX12_unit_26 ?_
      exact A_iretE (pc := 29) dX12_unit_29 rfl (Nat.zero_le _) (Nat.zero_le _) (by rw [pUx, if_pos hcc, if_pos ho]) (by rw [pUx, if_pos hcc, if_pos ho])
  · refine A_iload_n (pc := 11) (i := 1) dX12_unit_11 rfl rfl ?_
    refine A_bipush (pc := 12) (40) dX12_unit_12 (by decide) ?_
    refine A_icmpne (pc := 14) 118 dX12_unit_14 (by decide) (fun hb14 => ?_) (fun hb14 => ?_)
    · have hcc : ¬ (ph (fun p => iv (31, 0, 0) (b + p)) n s = 33 ∨ ph (fun p => iv (31, 0, 0) (b + p)) n s = 40) := fun h => h.elim hb8 hb14
      refine A_aload_n (pc := 118) (i := 0) dX12_unit_118 rfl rfl ?_
      refine A_iload_n (pc := 119) (i := 1) dX12_unit_119 rfl rfl ?_
      refine A_callV1 (pc := 120) cv_X12_178 (r_nameOf l hR (ph (fun p => iv (31, 0, 0) (b + p)) n s)) hR.1 rfl rfl rfl rfl (Nat.le_of_ble_eq_true rfl) (rm_ge (Nat.zero_le d) (by decide)) ⟨Nat.zero_le _, Nat.zero_le _⟩ dX12_unit_120 ?_
      refine A_top (y := pnm (iv (30, 0, 0) 12) (ph (fun p => iv (31, 0, 0) (b + p)) n s)) (by rw [hp_k (by decide) (by decide) (by decide)]) ?_
      refine A_ist2 (pc := 123) dX12_unit_123 (Nat.le_of_ble_eq_true rfl) rfl ?_
      refine A_iload_n (pc := 124) (i := 2) dX12_unit_124 rfl rfl ?_
      refine A_iflt (pc := 125) 145 dX12_unit_125 (by decide) (fun hb125 => ?_) (fun hb125 => ?_)
      · refine A_iconst (pc := 145) (0) dX12_unit_145 (by decide) ?_
        refine A_ist3 (pc := 146) dX12_unit_146 (Nat.le_of_ble_eq_true rfl) rfl ?_
        refine A_iconst (pc := 147) (0) dX12_unit_147 (by decide) ?_
        refine A_ist4 (pc := 148) dX12_unit_148 (Nat.le_of_ble_eq_true rfl) rfl ?_
        exact loop _ (by rw [pUx, if_neg hcc, pleaf, if_pos hb125]) 4 0 s.1 (Nat.le_refl 4) rfl hs rfl
      · obtain ⟨q, hq, eq⟩ := pnm_in hb125
        refine A_aload_n (pc := 128) (i := 0) dX12_unit_128 rfl rfl ?_
        refine A_dup (pc := 129) dX12_unit_129 rfl ?_
        refine A_geti (pc := 130) 8 fl_X12_130_12 hR.1 rfl dX12_unit_130 ?_
        refine A_top hp_r8 ?_
        refine A_iconst (pc := 133) (1) dX12_unit_133 (by decide) ?_
        refine A_iadd (pc := 134) dX12_unit_134 ?_
        refine A_top (nI_1 s.1) ?_
        refine A_puti (pc := 135) 8 fl_X12_130_12 hR.1 rfl (by decide +kernel) rfl rfl dX12_unit_135 ?_
        rw [hp_8]
        refine A_aload_n (pc := 138) (i := 0) dX12_unit_138 rfl rfl ?_
        refine A_getr (pc := 139) 13 fl_X12_28_12 hR.1 rfl hR.w13 dX12_unit_139 ?_
        refine A_iload_n (pc := 142) (i := 2) dX12_unit_142 rfl rfl ?_
        refine A_top eq ?_
        refine A_ialdN (pc := 143) hR.k13 hq (by decide) dX12_unit_143 ?_
        refine A_top (hp_o (by decide)) ?_
        exact A_iretE (pc := 144) dX12_unit_144 rfl (Nat.zero_le _) (Nat.zero_le _) (by rw [pUx, if_neg hcc, pleaf, if_neg hb125]; show _ = iv (31, 13, 0) (pnm (iv (30, 0, 0) 12) (ph (fun p => iv (31, 0, 0) (b + p)) n s)).toNatClampNeg; rw [eq, nI_clamp (by omega)]) (by rw [pUx, if_neg hcc, pleaf, if_neg hb125]; rfl)
    · have ec : ph (fun p => iv (31, 0, 0) (b + p)) n s = 40 := hb14
      have hcc : ph (fun p => iv (31, 0, 0) (b + p)) n s = 33 ∨ ph (fun p => iv (31, 0, 0) (b + p)) n s = 40 := by rw [ec]; decide
      have hsn : s.1 < n := ph_in (t := (fun p => iv (31, 0, 0) (b + p))) (fun h => by rw [h] at ec; exact absurd ec (by decide))
      refine A_aload_n (pc := 17) (i := 0) dX12_unit_17 rfl rfl ?_
      refine A_geti (pc := 18) 11 fl_X12_169_12 hR.1 rfl dX12_unit_18 ?_
      refine A_top hp_r11 ?_
      refine A_iconst (pc := 21) (5) dX12_unit_21 (by decide) ?_
      refine A_icmpne (pc := 22) 30 dX12_unit_22 (by decide) (fun hb22 => ?_) (fun hb22 => ?_)
      · have ho : ¬ s.2.2 = 5 := fun h => hb22 (by rw [h]; rfl)
        have hux : pUx (fun p => iv (31, 0, 0) (b + p)) n (iv (30, 0, 0) 12) (fun q => iv (31, 13, 0) q) U s = pin (fun p => iv (31, 0, 0) (b + p)) n U s := by rw [pUx, if_pos hcc, if_neg ho]
        refine A_aload_n (pc := 30) (i := 0) dX12_unit_30 rfl rfl ?_
        refine A_dup (pc := 31) dX12_unit_31 rfl ?_
        refine A_geti (pc := 32) 11 fl_X12_169_12 hR.1 rfl dX12_unit_32 ?_
        refine A_top hp_r11 ?_
        refine A_iconst (pc := 35) (1) dX12_unit_35 (by decide) ?_
        refine A_iadd (pc := 36) dX12_unit_36 ?_
        refine A_top (nI_1 s.2.2) ?_
        refine A_puti (pc := 37) 11 fl_X12_169_12 hR.1 rfl (by decide +kernel) rfl rfl dX12_unit_37 ?_
        rw [hp_11]
        refine A_aload_n (pc := 40) (i := 0) dX12_unit_40 rfl rfl ?_
        refine A_dup (pc := 41) dX12_unit_41 rfl ?_
        refine A_geti (pc := 42) 8 fl_X12_130_12 hR.1 rfl dX12_unit_42 ?_
        refine A_top hp_r8 ?_
        refine A_iconst (pc := 45) (1) dX12_unit_45 (by decide) ?_
        refine A_iadd (pc := 46) dX12_unit_46 ?_
        refine A_top (nI_1 s.1) ?_
        refine A_puti (pc := 47) 8 fl_X12_130_12 hR.1 rfl (by decide +kernel) rfl rfl dX12_unit_47 ?_
        rw [hp_8]
        refine A_iload_n (pc := 50) (i := 1) dX12_unit_50 rfl rfl ?_
        refine A_bipush (pc := 51) (40) dX12_unit_51 (by decide) ?_
        refine A_icmpne (pc := 53) 63 dX12_unit_53 (by decide) (fun hb53 => ?_) (fun hb53 => ?_)
        · exact absurd ec hb53
        · have ge := pE_G (t := (fun p => iv (31, 0, 0) (b + p))) hG (s.1 + 1, s.2.1, s.2.2 + 1) hsn (show s.2.2 + 1 ≤ 5 by omega)
          refine A_aload_n (pc := 56) (i := 0) dX12_unit_56 rfl rfl ?_
          refine A_callV1 (pc := 57) cv_X12_175 (hE (s.1 + 1, s.2.1, s.2.2 + 1) hsn (show e + 1 ≤ s.2.2 + 1 by omega) (show s.2.2 + 1 ≤ 5 by omega)) hR.1 rfl rfl rfl rfl (Nat.le_of_ble_eq_true rfl) (rm_ge (Nat.le_refl d) (by decide)) ⟨Nat.zero_le _, Nat.zero_le _⟩ dX12_unit_57 ?_
          refine A_goto (pc := 60) 67 dX12_unit_60 (by decide) ?_
          refine A_ist2 (pc := 67) dX12_unit_67 (Nat.le_of_ble_eq_true rfl) rfl ?_
          refine A_iload_n (pc := 68) (i := 1) dX12_unit_68 rfl rfl ?_
          refine A_bipush (pc := 69) (40) dX12_unit_69 (by decide) ?_
          refine A_icmpne (pc := 71) 88 dX12_unit_71 (by decide) (fun hb71 => ?_) (fun hb71 => ?_)
          · exact absurd ec hb71
          · refine A_aload_n (pc := 74) (i := 0) dX12_unit_74 rfl rfl ?_
            refine A_bipush (pc := 75) (41) dX12_unit_75 (by decide) ?_
            refine A_callV1 (pc := 77) cv_X12_154 (r_takes l hR b n h7 h9 hbn (pE (fun p => iv (31, 0, 0) (b + p)) n U (s.1 + 1, s.2.1, s.2.2 + 1)).2 ge.2.1 41) hR.1 rfl rfl rfl rfl (Nat.le_of_ble_eq_true rfl) (rm_ge hd (by decide)) ⟨Nat.zero_le _, Nat.zero_le _⟩ dX12_unit_77 ?_
            refine A_ifne (pc := 80) 88 dX12_unit_80 (by decide) (fun hb80 => ?_) (fun hb80 => ?_)
            · have e41 : ph (fun p => iv (31, 0, 0) (b + p)) n (pE (fun p => iv (31, 0, 0) (b + p)) n U (s.1 + 1, s.2.1, s.2.2 + 1)).2 = 41 := Classical.not_not.mp (fun h => hb80 ((sr_b_0 _).mpr h))
              rw [if_pos e41]
              refine A_aload_n (pc := 88) (i := 0) dX12_unit_88 rfl rfl ?_
              refine A_dup (pc := 89) dX12_unit_89 rfl ?_
              refine A_geti (pc := 90) 11 fl_X12_169_12 hR.1 rfl dX12_unit_90 ?_
              refine A_top hp_r11 ?_
              refine A_iconst (pc := 93) (1) dX12_unit_93 (by decide) ?_
              refine A_isub (pc := 94) dX12_unit_94 ?_
              refine A_top (nI_m1 (show 1 ≤ (pa (pE (fun p => iv (31, 0, 0) (b + p)) n U (s.1 + 1, s.2.1, s.2.2 + 1)).2).2.2 by have := ge.2.2.1; show 1 ≤ (pE (fun p => iv (31, 0, 0) (b + p)) n U (s.1 + 1, s.2.1, s.2.2 + 1)).2.2.2; simp only at this; omega)) ?_
              refine A_puti (pc := 95) 11 fl_X12_169_12 hR.1 rfl (by decide +kernel) rfl rfl dX12_unit_95 ?_
              rw [hp_11]
              refine A_iload_n (pc := 98) (i := 1) dX12_unit_98 rfl rfl ?_
              refine A_bipush (pc := 99) (40) dX12_unit_99 (by decide) ?_
              refine A_icmpne (pc := 101) 108 dX12_unit_101 (by decide) (fun hb101 => ?_) (fun hb101 => ?_)
              · exact absurd ec hb101
              · refine A_iload_n (pc := 104) (i := 2) dX12_unit_104 rfl rfl ?_
                refine A_goto (pc := 105) 117 dX12_unit_105 (by decide) ?_
                exact A_iretE (pc := 117) dX12_unit_117 rfl (Nat.zero_le _) (Nat.zero_le _) (by rw [hux, pin, if_pos ec, if_pos e41]) (by rw [hux, pin, if_pos ec, if_pos e41]; rfl)
            · have e41 := (sr_b_0 _).mp hb80
              rw [if_neg e41]
              refine A_aload_n (pc := 83) (i := 0) dX12_unit_83 rfl rfl ?_
              refine A_callV1 (pc := 84) cv_X12_172 (r_wrong l hR (pE (fun p => iv (31, 0, 0) (b + p)) n U (s.1 + 1, s.2.1, s.2.2 + 1)).2) hR.1 rfl rfl rfl rfl (Nat.le_of_ble_eq_true rfl) (rm_ge (Nat.zero_le d) (by decide)) ⟨Nat.zero_le _, Nat.zero_le _⟩ dX12_unit_84 ?_
              exact A_iretE (pc := 87) dX12_unit_87 rfl (Nat.zero_le _) (Nat.zero_le _) (by rw [hux, pin, if_pos ec, if_neg e41]) (by rw [hux, pin, if_pos ec, if_neg e41])
      · have ho : s.2.2 = 5 := by have := (nI_k 5 (by decide) (K := s.2.2) (by omega)).mp hb22; exact this
        refine A_aload_n (pc := 25) (i := 0) dX12_unit_25 rfl rfl ?_
        refine A_callV1 (pc := 26) cv_X12_172 (r_wrong l hR s) hR.1 rfl rfl rfl rfl (Nat.le_of_ble_eq_true rfl) (rm_ge (Nat.zero_le d) (by decide)) ⟨Nat.zero_le _, Nat.zero_le _⟩ dX12_unit_26 ?_
        exact A_iretE (pc := 29) dX12_unit_29 rfl (Nat.zero_le _) (Nat.zero_le _) (by rw [pUx, if_pos hcc, if_pos ho]) (by rw [pUx, if_pos hcc, if_pos ho])
