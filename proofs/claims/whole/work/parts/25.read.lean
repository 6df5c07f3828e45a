/-! The reader of the reference: a state is the place, the fault (below 0: none), how many are open -/
abbrev ps : Type := Nat × Int32 × Nat
def ph (t : Nat → Int32) (n : Nat) (s : ps) : Int32 := if s.1 < n then (if s.2.1 < 0 then t s.1 else -1) else -1
def pw (s : ps) : ps := (s.1, (if s.2.1 < 0 then nI s.1 else s.2.1), s.2.2)
def pa (s : ps) : ps := (s.1 + 1, s.2.1, s.2.2)
def pl (t : Nat → Int32) (n : Nat) (h : Int32 → Bool) (U : ps → Int32 × ps) : Nat → Int32 × ps → Int32 × ps
  | 0, x => x
  | k + 1, x => if h (ph t n x.2) = true then pl t n h U k (tx_res (ph t n x.2) x.1 (U (pa x.2)).1, (U (pa x.2)).2) else x
def isM (c : Int32) : Bool := decide (c = 42 ∨ c = 47 ∨ c = 37)
def isA (c : Int32) : Bool := decide (c = 43 ∨ c = 45)
def isC (c : Int32) : Bool := decide (c = 60 ∨ c = 61 ∨ c = 62)
def isN (c : Int32) : Bool := decide (c = 38)
def isO (c : Int32) : Bool := decide (c = 124)
def pP (t : Nat → Int32) (n : Nat) (U : ps → Int32 × ps) (s : ps) : Int32 × ps := pl t n isM U n (U s)
def pS (t : Nat → Int32) (n : Nat) (U : ps → Int32 × ps) (s : ps) : Int32 × ps := pl t n isA U n (U s)
def pC (t : Nat → Int32) (n : Nat) (U : ps → Int32 × ps) (s : ps) : Int32 × ps := if isC (ph t n (U s).2) = true then (tx_res (ph t n (U s).2) (U s).1 (U (pa (U s).2)).1, (U (pa (U s).2)).2) else U s
def pB (t : Nat → Int32) (n : Nat) (U : ps → Int32 × ps) (s : ps) : Int32 × ps := pl t n isN U n (U s)
def pO (t : Nat → Int32) (n : Nat) (U : ps → Int32 × ps) (s : ps) : Int32 × ps := pl t n isO U n (U s)
def pE (t : Nat → Int32) (n : Nat) (U : ps → Int32 × ps) (s : ps) : Int32 × ps := pO t n (pB t n (pC t n (pS t n (pP t n U)))) s
def pnm (g c : Int32) : Int32 := if g = 0 then (if c = 116 then 0 else if c = 119 then 1 else if c = 107 then 2 else -1) else (if c = 108 then 0 else if c = 113 then 1 else if c = 104 then 2 else -1)
def pd (t : Nat → Int32) (n : Nat) (f : Int32) (o : Nat) : Nat → Int32 → Nat → Int32 × Nat
  | 0, v, p => (v, p)
  | k + 1, v, p => if 48 ≤ ph t n (p, f, o) ∧ ph t n (p, f, o) ≤ 57 then pd t n f o k (10 * v + ph t n (p, f, o) - 48) (p + 1) else (v, p)
def pnum (t : Nat → Int32) (n : Nat) (s : ps) : Int32 × ps := if (pd t n s.2.1 s.2.2 4 0 s.1).2 = s.1 then (0, pw s) else ((pd t n s.2.1 s.2.2 4 0 s.1).1, ((pd t n s.2.1 s.2.2 4 0 s.1).2, s.2.1, s.2.2))
def pleaf (t : Nat → Int32) (n : Nat) (g : Int32) (nm : Nat → Int32) (s : ps) : Int32 × ps := if pnm g (ph t n s) < 0 then pnum t n s else (nm (pnm g (ph t n s)).toNatClampNeg, pa s)
def pin (t : Nat → Int32) (n : Nat) (U : ps → Int32 × ps) (s : ps) : Int32 × ps :=
  if ph t n s = 40 then (if ph t n (pE t n U (s.1 + 1, s.2.1, s.2.2 + 1)).2 = 41 then ((pE t n U (s.1 + 1, s.2.1, s.2.2 + 1)).1, ((pE t n U (s.1 + 1, s.2.1, s.2.2 + 1)).2.1 + 1, (pE t n U (s.1 + 1, s.2.1, s.2.2 + 1)).2.2.1, (pE t n U (s.1 + 1, s.2.1, s.2.2 + 1)).2.2.2 - 1)) else (0, pw (pE t n U (s.1 + 1, s.2.1, s.2.2 + 1)).2))
  else (sr_b ((U (s.1 + 1, s.2.1, s.2.2 + 1)).1 = 0), ((U (s.1 + 1, s.2.1, s.2.2 + 1)).2.1, (U (s.1 + 1, s.2.1, s.2.2 + 1)).2.2.1, (U (s.1 + 1, s.2.1, s.2.2 + 1)).2.2.2 - 1))
def pU (t : Nat → Int32) (n : Nat) (g : Int32) (nm : Nat → Int32) : Nat → ps → Int32 × ps
  | 0, s => if ph t n s = 33 ∨ ph t n s = 40 then (0, pw s) else pleaf t n g nm s
  | D + 1, s => if ph t n s = 33 ∨ ph t n s = 40 then (if s.2.2 = 5 then (0, pw s) else pin t n (pU t n g nm D) s) else pleaf t n g nm s
/-- where a reading leads: on, not beyond the end -/
def pg (n : Nat) (s s' : ps) : Prop := s.1 ≤ s'.1 ∧ s'.1 ≤ n ∧ s.2.2 ≤ s'.2.2 ∧ s'.2.2 ≤ 5
def pG (n : Nat) (U : ps → Int32 × ps) : Prop := ∀ s : ps, s.1 ≤ n → s.2.2 ≤ 5 → pg n s (U s).2
theorem ph_in {t : Nat → Int32} {n : Nat} {s : ps} (h : ¬ ph t n s = -1) : s.1 < n := by
  rcases Nat.lt_or_ge s.1 n with q | q
  · exact q
  · exact absurd (show ph t n s = -1 by rw [ph, if_neg (by omega)]) h
theorem ph_out {t : Nat → Int32} {n : Nat} {s : ps} (h : n ≤ s.1) : ph t n s = -1 := by rw [ph, if_neg (by omega)]
theorem pg.trans {n : Nat} {a b c : ps} (h1 : pg n a b) (h2 : pg n b c) : pg n a c := ⟨Nat.le_trans h1.1 h2.1, h2.2.1, Nat.le_trans h1.2.2.1 h2.2.2.1, h2.2.2.2⟩
theorem pg_pa {t : Nat → Int32} {n : Nat} {s : ps} (h : ¬ ph t n s = -1) (h5 : s.2.2 ≤ 5) : pg n s (pa s) := ⟨Nat.le_succ _, ph_in h, Nat.le_refl _, h5⟩
theorem pl_G {t : Nat → Int32} {n : Nat} {h : Int32 → Bool} {U : ps → Int32 × ps} (hU : pG n U) (hh : h (-1) = false) : ∀ (k : Nat) (x : Int32 × ps), x.2.1 ≤ n → x.2.2.2 ≤ 5 → pg n x.2 (pl t n h U k x).2 := by
  intro k
  induction k with
  | zero => intro x h1 h2; exact ⟨Nat.le_refl _, h1, Nat.le_refl _, h2⟩
  | succ k ih =>
    intro x h1 h2
    unfold pl
    split
    · rename_i q
      have g1 : pg n x.2 (pa x.2) := pg_pa (t := t) (fun e => by rw [e, hh] at q; exact absurd q (by decide)) h2
      have g2 := hU (pa x.2) g1.2.1 g1.2.2.2
      exact (g1.trans g2).trans (ih _ g2.2.1 g2.2.2.2)
    · exact ⟨Nat.le_refl _, h1, Nat.le_refl _, h2⟩
theorem pl0_G {t : Nat → Int32} {n : Nat} {h : Int32 → Bool} {U : ps → Int32 × ps} (hU : pG n U) (hh : h (-1) = false) : pG n (fun s => pl t n h U n (U s)) := fun s h1 h2 =>
  (hU s h1 h2).trans (pl_G hU hh n (U s) (hU s h1 h2).2.1 (hU s h1 h2).2.2.2)
theorem pP_G {t : Nat → Int32} {n : Nat} {U : ps → Int32 × ps} (hU : pG n U) : pG n (pP t n U) := pl0_G hU (by decide)
theorem pS_G {t : Nat → Int32} {n : Nat} {U : ps → Int32 × ps} (hU : pG n U) : pG n (pS t n U) := pl0_G hU (by decide)
theorem pB_G {t : Nat → Int32} {n : Nat} {U : ps → Int32 × ps} (hU : pG n U) : pG n (pB t n U) := pl0_G hU (by decide)
theorem pO_G {t : Nat → Int32} {n : Nat} {U : ps → Int32 × ps} (hU : pG n U) : pG n (pO t n U) := pl0_G hU (by decide)
theorem pC_G {t : Nat → Int32} {n : Nat} {U : ps → Int32 × ps} (hU : pG n U) : pG n (pC t n U) := fun s h1 h2 => by
  have g := hU s h1 h2
  unfold pC
  split
  · rename_i q
    have g1 : pg n (U s).2 (pa (U s).2) := pg_pa (t := t) (fun e => by rw [e] at q; exact absurd q (by decide)) g.2.2.2
    exact (g.trans g1).trans (hU _ g1.2.1 g1.2.2.2)
  · exact g
theorem pE_G {t : Nat → Int32} {n : Nat} {U : ps → Int32 × ps} (hU : pG n U) : pG n (pE t n U) := pO_G (pB_G (pC_G (pS_G (pP_G hU))))
theorem pd_G {t : Nat → Int32} {n : Nat} {f : Int32} {o : Nat} : ∀ (k : Nat) (v : Int32) (p : Nat), p ≤ n → p ≤ (pd t n f o k v p).2 ∧ (pd t n f o k v p).2 ≤ n ∧ (pd t n f o k v p).2 ≤ p + k := by
  intro k
  induction k with
  | zero => intro v p h; exact ⟨Nat.le_refl _, h, Nat.le_refl _⟩
  | succ k ih =>
    intro v p h
    unfold pd
    split
    · rename_i q
      have h1 : p < n := ph_in (t := t) (s := (p, f, o)) (fun e => by rw [e] at q; exact absurd q (by decide))
      have := ih (10 * v + ph t n (p, f, o) - 48) (p + 1) h1
      omega
    · exact ⟨Nat.le_refl _, h, by omega⟩
theorem pnm_neg (g : Int32) : pnm g (-1) = -1 := by
  unfold pnm
  split <;> decide
theorem pleaf_G {t : Nat → Int32} {n : Nat} {g : Int32} {nm : Nat → Int32} : pG n (pleaf t n g nm) := fun s h1 h2 => by
  unfold pleaf
  split
  · unfold pnum
    split
    · exact ⟨Nat.le_refl _, h1, Nat.le_refl _, h2⟩
    · have := pd_G (t := t) (n := n) (f := s.2.1) (o := s.2.2) 4 0 s.1 h1
      exact ⟨this.1, this.2.1, Nat.le_refl _, h2⟩
  · rename_i q
    exact pg_pa (t := t) (fun e => q (by rw [e, pnm_neg]; decide)) h2
theorem pin_G {t : Nat → Int32} {n : Nat} {U : ps → Int32 × ps} (hU : pG n U) {s : ps} (hs : s.1 < n) (h5 : s.2.2 < 5) : pg n s (pin t n U s).2 := by
  have ge := pE_G (t := t) hU (s.1 + 1, s.2.1, s.2.2 + 1) hs h5
  have gu := hU (s.1 + 1, s.2.1, s.2.2 + 1) hs h5
  obtain ⟨e1, e2, e3, e4⟩ := ge
  obtain ⟨u1, u2, u3, u4⟩ := gu
  simp only at e1 e3 u1 u3
  unfold pin
  split
  · split
    · rename_i q
      have := ph_in (t := t) (fun e => by rw [e] at q; exact absurd q (by decide))
      exact ⟨by simp only; omega, this, by simp only; omega, by simp only; omega⟩
    · exact ⟨by simp only [pw]; omega, e2, by simp only [pw]; omega, e4⟩
  · exact ⟨by simp only; omega, u2, by simp only; omega, by simp only; omega⟩
theorem pU_G {t : Nat → Int32} {n : Nat} {g : Int32} {nm : Nat → Int32} (D : Nat) : pG n (pU t n g nm D) := by
  induction D with
  | zero =>
    intro s h1 h2
    unfold pU
    split
    · exact ⟨Nat.le_refl _, h1, Nat.le_refl _, h2⟩
    · exact pleaf_G s h1 h2
  | succ D ih =>
    intro s h1 h2
    unfold pU
    split
    · rename_i q
      split
      · exact ⟨Nat.le_refl _, h1, Nat.le_refl _, h2⟩
      · exact pin_G ih (ph_in (t := t) (fun e => by rw [e] at q; exact absurd q (by decide))) (by omega)
    · exact pleaf_G s h1 h2
/-- the heap in which the reader stands at s -/
def hp (iv : am_iv) (s : ps) : am_iv := fun n k => if n = (30, 0, 0) then (if k = 8 then nI s.1 else if k = 10 then s.2.1 else if k = 11 then nI s.2.2 else iv n k) else iv n k
theorem hp_8 {iv : am_iv} {s : ps} (x : Nat) : am_ui (hp iv s) (30, 0, 0) 8 (nI x) = hp iv (x, s.2.1, s.2.2) := by
  funext n k
  simp only [am_ui, hp]
  by_cases e : n = (30, 0, 0)
  · by_cases q : k = 8 <;> simp [e, q]
  · simp [e]
theorem hp_10 {iv : am_iv} {s : ps} (x : Int32) : am_ui (hp iv s) (30, 0, 0) 10 x = hp iv (s.1, x, s.2.2) := by
  funext n k
  simp only [am_ui, hp]
  by_cases e : n = (30, 0, 0)
  · by_cases q : k = 10 <;> simp [e, q]
  · simp [e]
theorem hp_11 {iv : am_iv} {s : ps} (x : Nat) : am_ui (hp iv s) (30, 0, 0) 11 (nI x) = hp iv (s.1, s.2.1, x) := by
  funext n k
  simp only [am_ui, hp]
  by_cases e : n = (30, 0, 0)
  · by_cases q : k = 11 <;> simp [e, q]
  · simp [e]
theorem hp_o {iv : am_iv} {s : ps} {n : am_N} {k : Nat} (h : n ≠ (30, 0, 0)) : hp iv s n k = iv n k := if_neg h
theorem hp_k {iv : am_iv} {s : ps} {k : Nat} (h8 : k ≠ 8) (h10 : k ≠ 10) (h11 : k ≠ 11) : hp iv s (30, 0, 0) k = iv (30, 0, 0) k := by simp [hp, h8, h10, h11]
theorem hp_r8 {iv : am_iv} {s : ps} : hp iv s (30, 0, 0) 8 = nI s.1 := by simp [hp]
theorem hp_r10 {iv : am_iv} {s : ps} : hp iv s (30, 0, 0) 10 = s.2.1 := by simp [hp]
theorem hp_r11 {iv : am_iv} {s : ps} : hp iv s (30, 0, 0) 11 = nI s.2.2 := by simp [hp]
theorem rm_ge {a L d : Nat} (h : a ≤ d) (hL : L ≤ 41) : a + 1 ≤ (am_rm (d + 1) 0 0).frames ∧ 8 + (L + 11) + 60 * a ≤ (am_rm (d + 1) 0 0).locals := ⟨by show a + 1 ≤ d + 1; omega, by show _ ≤ 60 * (d + 1); omega⟩
set_option maxRecDepth 20000 in
theorem r_here (l : Launch) {kd : am_kd} {rv : am_rv} {iv : am_iv} (hR : shr kd rv) (b n : Nat) (h7 : iv (30, 0, 0) 7 = nI b) (h9 : iv (30, 0, 0) 9 = nI n) (hbn : b + n ≤ 300) (s : ps) (hs : s.1 ≤ n) : am_Met l mX12_here (am_rm 0 0 0) [am_P (30, 0, 0)] kd rv (hp iv s) (am_ret (some (am_I (ph (fun p => iv (31, 0, 0) (b + p)) n s))) kd rv (hp iv s)) := by
  refine am_Met.of (by decide) (Nat.le_of_ble_eq_true rfl) rfl ?_
  refine A_aload_n (pc := 0) (i := 0) dX12_here_0 rfl rfl ?_
  refine A_geti (pc := 1) 8 fl_X12_130_12 hR.1 rfl dX12_here_1 ?_
  refine A_top hp_r8 ?_
  refine A_aload_n (pc := 4) (i := 0) dX12_here_4 rfl rfl ?_
  refine A_geti (pc := 5) 9 fl_X12_134_12 hR.1 rfl dX12_here_5 ?_
  refine A_top ((hp_k (by decide) (by decide) (by decide)).trans h9) ?_
  refine A_icmpge (pc := 8) 35 dX12_here_8 (by decide) (fun hb8 => ?_) (fun hb8 => ?_)
  · refine A_iconst (pc := 35) (-1) dX12_here_35 (by decide) ?_
    exact A_iretE (pc := 36) dX12_here_36 rfl (Nat.zero_le _) (Nat.zero_le _) ((if_neg (fun h => nI_ge h (by omega) hb8)).symm) (rfl)
  · refine A_aload_n (pc := 11) (i := 0) dX12_here_11 rfl rfl ?_
    refine A_geti (pc := 12) 10 fl_X12_137_12 hR.1 rfl dX12_here_12 ?_
    refine A_top hp_r10 ?_
    refine A_ifge (pc := 15) 35 dX12_here_15 (by decide) (fun hb15 => ?_) (fun hb15 => ?_)
    · refine A_iconst (pc := 35) (-1) dX12_here_35 (by decide) ?_
      exact A_iretE (pc := 36) dX12_here_36 rfl (Nat.zero_le _) (Nat.zero_le _) (by rw [ph, if_pos (nI_dec hb8 hs (by omega)), if_neg (Int32.not_lt.mpr hb15)]) (rfl)
    · refine A_aload_n (pc := 18) (i := 0) dX12_here_18 rfl rfl ?_
      refine A_getr (pc := 19) 0 fl_X12_7_12 hR.1 rfl hR.w0 dX12_here_19 ?_
      refine A_aload_n (pc := 22) (i := 0) dX12_here_22 rfl rfl ?_
      refine A_geti (pc := 23) 7 fl_X12_140_12 hR.1 rfl dX12_here_23 ?_
      refine A_top ((hp_k (by decide) (by decide) (by decide)).trans h7) ?_
      refine A_aload_n (pc := 26) (i := 0) dX12_here_26 rfl rfl ?_
      refine A_geti (pc := 27) 8 fl_X12_130_12 hR.1 rfl dX12_here_27 ?_
      refine A_top hp_r8 ?_
      refine A_iadd (pc := 30) dX12_here_30 ?_
      refine A_top (mI_add b s.1) ?_
      refine A_ialdN (pc := 31) hR.k0 (show b + s.1 < 300 by have := nI_dec hb8 hs (by omega); omega) (by decide) dX12_here_31 ?_
      refine A_top (hp_o (by decide)) ?_
      refine A_goto (pc := 32) 36 dX12_here_32 (by decide) ?_
      exact A_iretE (pc := 36) dX12_here_36 rfl (Nat.zero_le _) (Nat.zero_le _) (by rw [ph, if_pos (nI_dec hb8 hs (by omega)), if_pos (Int32.not_le.mp hb15)]) (rfl)
set_option maxRecDepth 20000 in
theorem r_wrong (l : Launch) {kd : am_kd} {rv : am_rv} {iv : am_iv} (hR : shr kd rv) (s : ps) : am_Met l mX12_wrong (am_rm 0 0 0) [am_P (30, 0, 0)] kd rv (hp iv s) (am_ret (some (am_I 0)) kd rv (hp iv (pw s))) := by
  refine am_Met.of (by decide) (Nat.le_of_ble_eq_true rfl) rfl ?_
  refine A_aload_n (pc := 0) (i := 0) dX12_wrong_0 rfl rfl ?_
  refine A_aload_n (pc := 1) (i := 0) dX12_wrong_1 rfl rfl ?_
  refine A_geti (pc := 2) 10 fl_X12_137_12 hR.1 rfl dX12_wrong_2 ?_
  refine A_top hp_r10 ?_
  refine A_ifge (pc := 5) 15 dX12_wrong_5 (by decide) (fun hb5 => ?_) (fun hb5 => ?_)
  · refine A_aload_n (pc := 15) (i := 0) dX12_wrong_15 rfl rfl ?_
    refine A_geti (pc := 16) 10 fl_X12_137_12 hR.1 rfl dX12_wrong_16 ?_
    refine A_top hp_r10 ?_
    refine A_puti (pc := 19) 10 fl_X12_137_12 hR.1 rfl (by decide +kernel) rfl rfl dX12_wrong_19 ?_
    refine A_iconst (pc := 22) (0) dX12_wrong_22 (by decide) ?_
    exact A_iretE (pc := 23) dX12_wrong_23 rfl (Nat.zero_le _) (Nat.zero_le _) (rfl) (by rw [hp_10, pw, if_neg (Int32.not_lt.mpr hb5)])
  · refine A_aload_n (pc := 8) (i := 0) dX12_wrong_8 rfl rfl ?_
    refine A_geti (pc := 9) 8 fl_X12_130_12 hR.1 rfl dX12_wrong_9 ?_
    refine A_top hp_r8 ?_
    refine A_goto (pc := 12) 19 dX12_wrong_12 (by decide) ?_
    refine A_puti (pc := 19) 10 fl_X12_137_12 hR.1 rfl (by decide +kernel) rfl rfl dX12_wrong_19 ?_
    refine A_iconst (pc := 22) (0) dX12_wrong_22 (by decide) ?_
    exact A_iretE (pc := 23) dX12_wrong_23 rfl (Nat.zero_le _) (Nat.zero_le _) (rfl) (by rw [hp_10, pw, if_pos (Int32.not_le.mp hb5)])
set_option maxRecDepth 20000 in
theorem r_takes (l : Launch) {kd : am_kd} {rv : am_rv} {iv : am_iv} (hR : shr kd rv) (b n : Nat) (h7 : iv (30, 0, 0) 7 = nI b) (h9 : iv (30, 0, 0) 9 = nI n) (hbn : b + n ≤ 300) (s : ps) (hs : s.1 ≤ n) (c : Int32) : am_Met l mX12_takes (am_rm 1 0 0) [am_P (30, 0, 0), am_I c] kd rv (hp iv s) (am_ret (some (am_I (sr_b (ph (fun p => iv (31, 0, 0) (b + p)) n s = c)))) kd rv (hp iv (if ph (fun p => iv (31, 0, 0) (b + p)) n s = c then pa s else s))) := by
  refine am_Met.of (by decide) (Nat.le_of_ble_eq_true rfl) rfl ?_
  refine A_aload_n (pc := 0) (i := 0) dX12_takes_0 rfl rfl ?_
  refine A_callV1 (pc := 1) cv_X12_143 (r_here l hR b n h7 h9 hbn s hs) hR.1 rfl rfl rfl rfl (Nat.le_of_ble_eq_true rfl) ⟨(Nat.le_of_ble_eq_true rfl), (Nat.le_of_ble_eq_true rfl)⟩ ⟨Nat.zero_le _, Nat.zero_le _⟩ dX12_takes_1 ?_
  refine A_iload_n (pc := 4) (i := 1) dX12_takes_4 rfl rfl ?_
  refine A_icmpeq (pc := 5) 10 dX12_takes_5 (by decide) (fun hb5 => ?_) (fun hb5 => ?_)
  · refine A_aload_n (pc := 10) (i := 0) dX12_takes_10 rfl rfl ?_
    refine A_dup (pc := 11) dX12_takes_11 rfl ?_
    refine A_geti (pc := 12) 8 fl_X12_130_12 hR.1 rfl dX12_takes_12 ?_
    refine A_top hp_r8 ?_
    refine A_iconst (pc := 15) (1) dX12_takes_15 (by decide) ?_
    refine A_iadd (pc := 16) dX12_takes_16 ?_
    refine A_top (nI_1 s.1) ?_
    refine A_puti (pc := 17) 8 fl_X12_130_12 hR.1 rfl (by decide +kernel) rfl rfl dX12_takes_17 ?_
    refine A_iconst (pc := 20) (1) dX12_takes_20 (by decide) ?_
    exact A_zretE (pc := 21) dX12_takes_21 rfl (by first | exact A_zn0 | exact A_zn1 | exact A_znif _) (Nat.zero_le _) (Nat.zero_le _) ((if_pos hb5).symm) (by rw [if_pos hb5, hp_8]; rfl)
  · refine A_iconst (pc := 8) (0) dX12_takes_8 (by decide) ?_
    exact A_zretE (pc := 9) dX12_takes_9 rfl (by first | exact A_zn0 | exact A_zn1 | exact A_znif _) (Nat.zero_le _) (Nat.zero_le _) ((if_neg hb5).symm) (by rw [if_neg hb5])
set_option maxRecDepth 20000 in
theorem r_nameOf (l : Launch) {kd : am_kd} {rv : am_rv} {iv : am_iv} (hR : shr kd rv) (c : Int32) : am_Met l mX12_nameOf (am_rm 0 0 0) [am_P (30, 0, 0), am_I c] kd rv iv (am_ret (some (am_I (pnm (iv (30, 0, 0) 12) c))) kd rv iv) := by
  refine am_Met.of (by decide) (Nat.le_of_ble_eq_true rfl) rfl ?_
  refine A_aload_n (pc := 0) (i := 0) dX12_nameOf_0 rfl rfl ?_
  refine A_geti (pc := 1) 12 fl_X12_147_12 hR.1 rfl dX12_nameOf_1 ?_
  refine A_ifeq (pc := 4) 39 dX12_nameOf_4 (by decide) (fun hb4 => ?_) (fun hb4 => ?_)
  · refine A_iload_n (pc := 39) (i := 1) dX12_nameOf_39 rfl rfl ?_
    refine A_bipush (pc := 40) (116) dX12_nameOf_40 (by decide) ?_
    refine A_icmpne (pc := 42) 49 dX12_nameOf_42 (by decide) (fun hb42 => ?_) (fun hb42 => ?_)
    · refine A_iload_n (pc := 49) (i := 1) dX12_nameOf_49 rfl rfl ?_
      refine A_bipush (pc := 50) (119) dX12_nameOf_50 (by decide) ?_
      refine A_icmpne (pc := 52) 59 dX12_nameOf_52 (by decide) (fun hb52 => ?_) (fun hb52 => ?_)
      · refine A_iload_n (pc := 59) (i := 1) dX12_nameOf_59 rfl rfl ?_
        refine A_bipush (pc := 60) (107) dX12_nameOf_60 (by decide) ?_
        refine A_icmpne (pc := 62) 69 dX12_nameOf_62 (by decide) (fun hb62 => ?_) (fun hb62 => ?_)
        · refine A_iconst (pc := 69) (-1) dX12_nameOf_69 (by decide) ?_
          exact A_iretE (pc := 70) dX12_nameOf_70 rfl (Nat.zero_le _) (Nat.zero_le _) (by unfold pnm; simp_all) (rfl)
        · refine A_iconst (pc := 65) (2) dX12_nameOf_65 (by decide) ?_
          refine A_goto (pc := 66) 70 dX12_nameOf_66 (by decide) ?_
          exact A_iretE (pc := 70) dX12_nameOf_70 rfl (Nat.zero_le _) (Nat.zero_le _) (by unfold pnm; simp_all) (rfl)
      · refine A_iconst (pc := 55) (1) dX12_nameOf_55 (by decide) ?_
        refine A_goto (pc := 56) 70 dX12_nameOf_56 (by decide) ?_
        exact A_iretE (pc := 70) dX12_nameOf_70 rfl (Nat.zero_le _) (Nat.zero_le _) (by unfold pnm; simp_all) (rfl)
    · refine A_iconst (pc := 45) (0) dX12_nameOf_45 (by decide) ?_
      refine A_goto (pc := 46) 70 dX12_nameOf_46 (by decide) ?_
      exact A_iretE (pc := 70) dX12_nameOf_70 rfl (Nat.zero_le _) (Nat.zero_le _) (by unfold pnm; simp_all) (rfl)
  · refine A_iload_n (pc := 7) (i := 1) dX12_nameOf_7 rfl rfl ?_
    refine A_bipush (pc := 8) (108) dX12_nameOf_8 (by decide) ?_
    refine A_icmpne (pc := 10) 17 dX12_nameOf_10 (by decide) (fun hb10 => ?_) (fun hb10 => ?_)
    · refine A_iload_n (pc := 17) (i := 1) dX12_nameOf_17 rfl rfl ?_
      refine A_bipush (pc := 18) (113) dX12_nameOf_18 (by decide) ?_
      refine A_icmpne (pc := 20) 27 dX12_nameOf_20 (by decide) (fun hb20 => ?_) (fun hb20 => ?_)
      · refine A_iload_n (pc := 27) (i := 1) dX12_nameOf_27 rfl rfl ?_
        refine A_bipush (pc := 28) (104) dX12_nameOf_28 (by decide) ?_
        refine A_icmpne (pc := 30) 37 dX12_nameOf_30 (by decide) (fun hb30 => ?_) (fun hb30 => ?_)
        · refine A_iconst (pc := 37) (-1) dX12_nameOf_37 (by decide) ?_
          exact A_iretE (pc := 38) dX12_nameOf_38 rfl (Nat.zero_le _) (Nat.zero_le _) (by unfold pnm; simp_all) (rfl)
        · refine A_iconst (pc := 33) (2) dX12_nameOf_33 (by decide) ?_
          refine A_goto (pc := 34) 38 dX12_nameOf_34 (by decide) ?_
          exact A_iretE (pc := 38) dX12_nameOf_38 rfl (Nat.zero_le _) (Nat.zero_le _) (by unfold pnm; simp_all) (rfl)
      · refine A_iconst (pc := 23) (1) dX12_nameOf_23 (by decide) ?_
        refine A_goto (pc := 24) 38 dX12_nameOf_24 (by decide) ?_
        exact A_iretE (pc := 38) dX12_nameOf_38 rfl (Nat.zero_le _) (Nat.zero_le _) (by unfold pnm; simp_all) (rfl)
    · refine A_iconst (pc := 13) (0) dX12_nameOf_13 (by decide) ?_
      refine A_goto (pc := 14) 38 dX12_nameOf_14 (by decide) ?_
      exact A_iretE (pc := 38) dX12_nameOf_38 rfl (Nat.zero_le _) (Nat.zero_le _) (by unfold pnm; simp_all) (rfl)
set_option maxRecDepth 20000 in
theorem r_product (l : Launch) {kd : am_kd} {rv : am_rv} {iv : am_iv} (hR : shr kd rv) (b n : Nat) (h7 : iv (30, 0, 0) 7 = nI b) (h9 : iv (30, 0, 0) 9 = nI n) (hbn : b + n ≤ 300) (U : ps → Int32 × ps) (hG : pG n U) (e d : Nat) (hd : 1 ≤ d) (hU : ∀ s : ps, s.1 ≤ n → e ≤ s.2.2 → s.2.2 ≤ 5 → am_Met l mX12_unit (am_rm d 0 0) [am_P (30, 0, 0)] kd rv (hp iv s) (am_ret (some (am_I (U s).1)) kd rv (hp iv (U s).2))) : ∀ s : ps, s.1 ≤ n → e ≤ s.2.2 → s.2.2 ≤ 5 → am_Met l mX12_product (am_rm (d + 1) 0 0) [am_P (30, 0, 0)] kd rv (hp iv s) (am_ret (some (am_I ((pP (fun p => iv (31, 0, 0) (b + p)) n U) s).1)) kd rv (hp iv ((pP (fun p => iv (31, 0, 0) (b + p)) n U) s).2)) := by
  intro s hs he h5
  refine am_Met.of (by decide) (Nat.le_of_ble_eq_true rfl) rfl ?_
  have g0 := hG s hs h5
  have loop : ∀ (k : Nat) (x : Int32 × ps) (y2 y3 : Option am_V), x.2.1 ≤ n → e ≤ x.2.2.2 → x.2.2.2 ≤ 5 → n ≤ x.2.1 + k → am_W l mX12_product (am_rm (d + 1) 0 0) (am_ret (some (am_I (pl (fun p => iv (31, 0, 0) (b + p)) n isM U k x).1)) kd rv (hp iv (pl (fun p => iv (31, 0, 0) (b + p)) n isM U k x).2)) 5 [some (am_P (30, 0, 0)), some (am_I x.1), y2, y3] [] kd rv (hp iv x.2) 0 0 := by
    intro k
    induction k with
    | zero =>
      intro x y2 y3 hx1 hx2 hx3 hx4
      have hm1 : ph (fun p => iv (31, 0, 0) (b + p)) n x.2 = -1 := ph_out (by omega)
      refine A_aload_n (pc := 5) (i := 0) dX12_product_5 rfl rfl ?_
      refine A_callV1 (pc := 6) cv_X12_143 (r_here l hR b n h7 h9 hbn x.2 hx1) hR.1 rfl rfl rfl rfl (Nat.le_of_ble_eq_true rfl) (rm_ge (Nat.zero_le d) (by decide)) ⟨Nat.zero_le _, Nat.zero_le _⟩ dX12_product_6 ?_
      refine A_bipush (pc := 9) (42) dX12_product_9 (by decide) ?_
      refine A_icmpeq (pc := 11) 32 dX12_product_11 (by decide) (fun hb11 => ?_) (fun hb11 => ?_)
      · exact absurd hb11 (by rw [hm1]; decide)
      · refine A_aload_n (pc := 14) (i := 0) dX12_product_14 rfl rfl ?_
        refine A_callV1 (pc := 15) cv_X12_143 (r_here l hR b n h7 h9 hbn x.2 hx1) hR.1 rfl rfl rfl rfl (Nat.le_of_ble_eq_true rfl) (rm_ge (Nat.zero_le d) (by decide)) ⟨Nat.zero_le _, Nat.zero_le _⟩ dX12_product_15 ?_
        refine A_bipush (pc := 18) (47) dX12_product_18 (by decide) ?_
        refine A_icmpeq (pc := 20) 32 dX12_product_20 (by decide) (fun hb20 => ?_) (fun hb20 => ?_)
        · exact absurd hb20 (by rw [hm1]; decide)
        · refine A_aload_n (pc := 23) (i := 0) dX12_product_23 rfl rfl ?_
          refine A_callV1 (pc := 24) cv_X12_143 (r_here l hR b n h7 h9 hbn x.2 hx1) hR.1 rfl rfl rfl rfl (Nat.le_of_ble_eq_true rfl) (rm_ge (Nat.zero_le d) (by decide)) ⟨Nat.zero_le _, Nat.zero_le _⟩ dX12_product_24 ?_
          refine A_bipush (pc := 27) (37) dX12_product_27 (by decide) ?_
          refine A_icmpne (pc := 29) 91 dX12_product_29 (by decide) (fun hb29 => ?_) (fun hb29 => ?_)
          · refine A_iload_n (pc := 91) (i := 1) dX12_product_91 rfl rfl ?_
            exact A_iretE (pc := 92) dX12_product_92 rfl (Nat.zero_le _) (Nat.zero_le _) (rfl) (rfl)
          · exact absurd hb29 (by rw [hm1]; decide)
    | succ k ih =>
      intro x y2 y3 hx1 hx2 hx3 hx4
      refine A_aload_n (pc := 5) (i := 0) dX12_product_5 rfl rfl ?_
      refine A_callV1 (pc := 6) cv_X12_143 (r_here l hR b n h7 h9 hbn x.2 hx1) hR.1 rfl rfl rfl rfl (Nat.le_of_ble_eq_true rfl) (rm_ge (Nat.zero_le d) (by decide)) ⟨Nat.zero_le _, Nat.zero_le _⟩ dX12_product_6 ?_
      refine A_bipush (pc := 9) (42) dX12_product_9 (by decide) ?_
      refine A_icmpeq (pc := 11) 32 dX12_product_11 (by decide) (fun hb11 => ?_) (fun hb11 => ?_)
      · have ec : ph (fun p => iv (31, 0, 0) (b + p)) n x.2 = 42 := hb11
        have hq : isM (ph (fun p => iv (31, 0, 0) (b + p)) n x.2) = true := by rw [ec]; decide
        have g1 : pg n x.2 (pa x.2) := pg_pa (t := (fun p => iv (31, 0, 0) (b + p))) (fun h => by rw [h] at hq; exact absurd hq (by decide)) hx3
        have g2 := hG (pa x.2) g1.2.1 g1.2.2.2
        refine A_aload_n (pc := 32) (i := 0) dX12_product_32 rfl rfl ?_
        refine A_callV1 (pc := 33) cv_X12_143 (r_here l hR b n h7 h9 hbn x.2 hx1) hR.1 rfl rfl rfl rfl (Nat.le_of_ble_eq_true rfl) (rm_ge (Nat.zero_le d) (by decide)) ⟨Nat.zero_le _, Nat.zero_le _⟩ dX12_product_33 ?_
        refine A_ist2 (pc := 36) dX12_product_36 (Nat.le_of_ble_eq_true rfl) rfl ?_
        refine A_aload_n (pc := 37) (i := 0) dX12_product_37 rfl rfl ?_
        refine A_dup (pc := 38) dX12_product_38 rfl ?_
        refine A_geti (pc := 39) 8 fl_X12_130_12 hR.1 rfl dX12_product_39 ?_
        refine A_top hp_r8 ?_
        refine A_iconst (pc := 42) (1) dX12_product_42 (by decide) ?_
        refine A_iadd (pc := 43) dX12_product_43 ?_
        refine A_top (nI_1 x.2.1) ?_
        refine A_puti (pc := 44) 8 fl_X12_130_12 hR.1 rfl (by decide +kernel) rfl rfl dX12_product_44 ?_
        rw [hp_8]
        refine A_aload_n (pc := 47) (i := 0) dX12_product_47 rfl rfl ?_
        refine A_callV1 (pc := 48) cv_X12_166 (hU (pa x.2) g1.2.1 (Nat.le_trans hx2 g1.2.2.1) g1.2.2.2) hR.1 rfl rfl rfl rfl (Nat.le_of_ble_eq_true rfl) (rm_ge (Nat.le_refl d) (by decide)) ⟨Nat.zero_le _, Nat.zero_le _⟩ dX12_product_48 ?_
        refine A_ist3 (pc := 51) dX12_product_51 (Nat.le_of_ble_eq_true rfl) rfl ?_
        refine A_iload_n (pc := 52) (i := 2) dX12_product_52 rfl rfl ?_
        refine A_bipush (pc := 53) (42) dX12_product_53 (by decide) ?_
        refine A_icmpne (pc := 55) 64 dX12_product_55 (by decide) (fun hb55 => ?_) (fun hb55 => ?_)
        · exact absurd ec hb55
        · refine A_iload_n (pc := 58) (i := 1) dX12_product_58 rfl rfl ?_
          refine A_iload_n (pc := 59) (i := 3) dX12_product_59 rfl rfl ?_
          refine A_imul (pc := 60) dX12_product_60 ?_
          refine A_goto (pc := 61) 87 dX12_product_61 (by decide) ?_
          refine A_ist1 (pc := 87) dX12_product_87 (Nat.le_of_ble_eq_true rfl) rfl ?_
          refine A_goto (pc := 88) 5 dX12_product_88 (by decide) ?_
          rw [pl, if_pos hq]
          have ih2 := ih (tx_res (ph (fun p => iv (31, 0, 0) (b + p)) n x.2) x.1 (U (pa x.2)).1, (U (pa x.2)).2) _ _ g2.2.1 (Nat.le_trans hx2 (g1.trans g2).2.2.1) g2.2.2.2 (by have h1 := g2.1; have h2 : (pa x.2).1 = x.2.1 + 1 := rfl; have h3 : (U (pa x.2)).2.1 = (tx_res (ph (fun p => iv (31, 0, 0) (b + p)) n x.2) x.1 (U (pa x.2)).1, (U (pa x.2)).2).2.1 := rfl; omega)
          have er : tx_res (ph (fun p => iv (31, 0, 0) (b + p)) n x.2) x.1 (U (pa x.2)).1 = x.1 * (U (pa x.2)).1 := by rw [ec]; rfl
          rw [er] at ih2 ⊢
          exact ih2
      · refine A_aload_n (pc := 14) (i := 0) dX12_product_14 rfl rfl ?_
        refine A_callV1 (pc := 15) cv_X12_143 (r_here l hR b n h7 h9 hbn x.2 hx1) hR.1 rfl rfl rfl rfl (Nat.le_of_ble_eq_true rfl) (rm_ge (Nat.zero_le d) (by decide)) ⟨Nat.zero_le _, Nat.zero_le _⟩ dX12_product_15 ?_
        refine A_bipush (pc := 18) (47) dX12_product_18 (by decide) ?_
        refine A_icmpeq (pc := 20) 32 dX12_product_20 (by decide) (fun hb20 => ?_) (fun hb20 => ?_)
        · have ec : ph (fun p => iv (31, 0, 0) (b + p)) n x.2 = 47 := hb20
          have hq : isM (ph (fun p => iv (31, 0, 0) (b + p)) n x.2) = true := by rw [ec]; decide
          have g1 : pg n x.2 (pa x.2) := pg_pa (t := (fun p => iv (31, 0, 0) (b + p))) (fun h => by rw [h] at hq; exact absurd hq (by decide)) hx3
          have g2 := hG (pa x.2) g1.2.1 g1.2.2.2
          refine A_aload_n (pc := 32) (i := 0) dX12_product_32 rfl rfl ?_
          refine A_callV1 (pc := 33) cv_X12_143 (r_here l hR b n h7 h9 hbn x.2 hx1) hR.1 rfl rfl rfl rfl (Nat.le_of_ble_eq_true rfl) (rm_ge (Nat.zero_le d) (by decide)) ⟨Nat.zero_le _, Nat.zero_le _⟩ dX12_product_33 ?_
          refine A_ist2 (pc := 36) dX12_product_36 (Nat.le_of_ble_eq_true rfl) rfl ?_
          refine A_aload_n (pc := 37) (i := 0) dX12_product_37 rfl rfl ?_
          refine A_dup (pc := 38) dX12_product_38 rfl ?_
          refine A_geti (pc := 39) 8 fl_X12_130_12 hR.1 rfl dX12_product_39 ?_
          refine A_top hp_r8 ?_
          refine A_iconst (pc := 42) (1) dX12_product_42 (by decide) ?_
          refine A_iadd (pc := 43) dX12_product_43 ?_
          refine A_top (nI_1 x.2.1) ?_
          refine A_puti (pc := 44) 8 fl_X12_130_12 hR.1 rfl (by decide +kernel) rfl rfl dX12_product_44 ?_
          rw [hp_8]
          refine A_aload_n (pc := 47) (i := 0) dX12_product_47 rfl rfl ?_
          refine A_callV1 (pc := 48) cv_X12_166 (hU (pa x.2) g1.2.1 (Nat.le_trans hx2 g1.2.2.1) g1.2.2.2) hR.1 rfl rfl rfl rfl (Nat.le_of_ble_eq_true rfl) (rm_ge (Nat.le_refl d) (by decide)) ⟨Nat.zero_le _, Nat.zero_le _⟩ dX12_product_48 ?_
          refine A_ist3 (pc := 51) dX12_product_51 (Nat.le_of_ble_eq_true rfl) rfl ?_
          refine A_iload_n (pc := 52) (i := 2) dX12_product_52 rfl rfl ?_
          refine A_bipush (pc := 53) (42) dX12_product_53 (by decide) ?_
          refine A_icmpne (pc := 55) 64 dX12_product_55 (by decide) (fun hb55 => ?_) (fun hb55 => ?_)
          · refine A_iload_n (pc := 64) (i := 3) dX12_product_64 rfl rfl ?_
            refine A_ifne (pc := 65) 72 dX12_product_65 (by decide) (fun hb65 => ?_) (fun hb65 => ?_)
            · refine A_iload_n (pc := 72) (i := 2) dX12_product_72 rfl rfl ?_
              refine A_bipush (pc := 73) (47) dX12_product_73 (by decide) ?_
              refine A_icmpne (pc := 75) 84 dX12_product_75 (by decide) (fun hb75 => ?_) (fun hb75 => ?_)
              · exact absurd ec hb75
              · refine A_iload_n (pc := 78) (i := 1) dX12_product_78 rfl rfl ?_
                refine A_iload_n (pc := 79) (i := 3) dX12_product_79 rfl rfl ?_
                refine A_idiv (pc := 80) dX12_product_80 hb65 ?_
                refine A_goto (pc := 81) 87 dX12_product_81 (by decide) ?_
                refine A_ist1 (pc := 87) dX12_product_87 (Nat.le_of_ble_eq_true rfl) rfl ?_
                refine A_goto (pc := 88) 5 dX12_product_88 (by decide) ?_
                rw [pl, if_pos hq]
                have ih2 := ih (tx_res (ph (fun p => iv (31, 0, 0) (b + p)) n x.2) x.1 (U (pa x.2)).1, (U (pa x.2)).2) _ _ g2.2.1 (Nat.le_trans hx2 (g1.trans g2).2.2.1) g2.2.2.2 (by have h1 := g2.1; have h2 : (pa x.2).1 = x.2.1 + 1 := rfl; have h3 : (U (pa x.2)).2.1 = (tx_res (ph (fun p => iv (31, 0, 0) (b + p)) n x.2) x.1 (U (pa x.2)).1, (U (pa x.2)).2).2.1 := rfl; omega)
                have er : tx_res (ph (fun p => iv (31, 0, 0) (b + p)) n x.2) x.1 (U (pa x.2)).1 = x.1 / (U (pa x.2)).1 := by rw [ec]; exact if_neg hb65
                rw [er] at ih2 ⊢
                exact ih2
            · refine A_iconst (pc := 68) (0) dX12_product_68 (by decide) ?_
              refine A_goto (pc := 69) 87 dX12_product_69 (by decide) ?_
              refine A_ist1 (pc := 87) dX12_product_87 (Nat.le_of_ble_eq_true rfl) rfl ?_
              refine A_goto (pc := 88) 5 dX12_product_88 (by decide) ?_
              rw [pl, if_pos hq]
              have ih2 := ih (tx_res (ph (fun p => iv (31, 0, 0) (b + p)) n x.2) x.1 (U (pa x.2)).1, (U (pa x.2)).2) _ _ g2.2.1 (Nat.le_trans hx2 (g1.trans g2).2.2.1) g2.2.2.2 (by have h1 := g2.1; have h2 : (pa x.2).1 = x.2.1 + 1 := rfl; have h3 : (U (pa x.2)).2.1 = (tx_res (ph (fun p => iv (31, 0, 0) (b + p)) n x.2) x.1 (U (pa x.2)).1, (U (pa x.2)).2).2.1 := rfl; omega)
              have er : tx_res (ph (fun p => iv (31, 0, 0) (b + p)) n x.2) x.1 (U (pa x.2)).1 = 0 := by rw [ec]; exact if_pos hb65
              rw [er] at ih2 ⊢
              exact ih2
          · exact absurd (ec.symm.trans hb55) (by decide)
        · refine A_aload_n (pc := 23) (i := 0) dX12_product_23 rfl rfl ?_
          refine A_callV1 (pc := 24) cv_X12_143 (r_here l hR b n h7 h9 hbn x.2 hx1) hR.1 rfl rfl rfl rfl (Nat.le_of_ble_eq_true rfl) (rm_ge (Nat.zero_le d) (by decide)) ⟨Nat.zero_le _, Nat.zero_le _⟩ dX12_product_24 ?_
          refine A_bipush (pc := 27) (37) dX12_product_27 (by decide) ?_
          refine A_icmpne (pc := 29) 91 dX12_product_29 (by decide) (fun hb29 => ?_) (fun hb29 => ?_)
          · have hq : ¬ isM (ph (fun p => iv (31, 0, 0) (b + p)) n x.2) = true := fun h => by
              have h2 := of_decide_eq_true h
              exact h2.elim hb11 (fun h3 => h3.elim hb20 hb29)
            rw [pl, if_neg hq]
            refine A_iload_n (pc := 91) (i := 1) dX12_product_91 rfl rfl ?_
            exact A_iretE (pc := 92) dX12_product_92 rfl (Nat.zero_le _) (Nat.zero_le _) (rfl) (rfl)
          · have ec : ph (fun p => iv (31, 0, 0) (b + p)) n x.2 = 37 := hb29
            have hq : isM (ph (fun p => iv (31, 0, 0) (b + p)) n x.2) = true := by rw [ec]; decide
            have g1 : pg n x.2 (pa x.2) := pg_pa (t := (fun p => iv (31, 0, 0) (b + p))) (fun h => by rw [h] at hq; exact absurd hq (by decide)) hx3
            have g2 := hG (pa x.2) g1.2.1 g1.2.2.2
            refine A_aload_n (pc := 32) (i := 0) dX12_product_32 rfl rfl ?_
            refine A_callV1 (pc := 33) cv_X12_143 (r_here l hR b n h7 h9 hbn x.2 hx1) hR.1 rfl rfl rfl rfl (Nat.le_of_ble_eq_true rfl) (rm_ge (Nat.zero_le d) (by decide)) ⟨Nat.zero_le _, Nat.zero_le _⟩ dX12_product_33 ?_
            refine A_ist2 (pc := 36) dX12_product_36 (Nat.le_of_ble_eq_true rfl) rfl ?_
            refine A_aload_n (pc := 37) (i := 0) dX12_product_37 rfl rfl ?_
            refine A_dup (pc := 38) dX12_product_38 rfl ?_
            refine A_geti (pc := 39) 8 fl_X12_130_12 hR.1 rfl dX12_product_39 ?_
            refine A_top hp_r8 ?_
            refine A_iconst (pc := 42) (1) dX12_product_42 (by decide) ?_
            refine A_iadd (pc := 43) dX12_product_43 ?_
            refine A_top (nI_1 x.2.1) ?_
            refine A_puti (pc := 44) 8 fl_X12_130_12 hR.1 rfl (by decide +kernel) rfl rfl dX12_product_44 ?_
            rw [hp_8]
            refine A_aload_n (pc := 47) (i := 0) dX12_product_47 rfl rfl ?_
            refine A_callV1 (pc := 48) cv_X12_166 (hU (pa x.2) g1.2.1 (Nat.le_trans hx2 g1.2.2.1) g1.2.2.2) hR.1 rfl rfl rfl rfl (Nat.le_of_ble_eq_true rfl) (rm_ge (Nat.le_refl d) (by decide)) ⟨Nat.zero_le _, Nat.zero_le _⟩ dX12_product_48 ?_
            refine A_ist3 (pc := 51) dX12_product_51 (Nat.le_of_ble_eq_true rfl) rfl ?_
            refine A_iload_n (pc := 52) (i := 2) dX12_product_52 rfl rfl ?_
            refine A_bipush (pc := 53) (42) dX12_product_53 (by decide) ?_
            refine A_icmpne (pc := 55) 64 dX12_product_55 (by decide) (fun hb55 => ?_) (fun hb55 => ?_)
            · refine A_iload_n (pc := 64) (i := 3) dX12_product_64 rfl rfl ?_
              refine A_ifne (pc := 65) 72 dX12_product_65 (by decide) (fun hb65 => ?_) (fun hb65 => ?_)
              · refine A_iload_n (pc := 72) (i := 2) dX12_product_72 rfl rfl ?_
                refine A_bipush (pc := 73) (47) dX12_product_73 (by decide) ?_
                refine A_icmpne (pc := 75) 84 dX12_product_75 (by decide) (fun hb75 => ?_) (fun hb75 => ?_)
                · refine A_iload_n (pc := 84) (i := 1) dX12_product_84 rfl rfl ?_
                  refine A_iload_n (pc := 85) (i := 3) dX12_product_85 rfl rfl ?_
                  refine A_irem (pc := 86) dX12_product_86 hb65 ?_
                  refine A_ist1 (pc := 87) dX12_product_87 (Nat.le_of_ble_eq_true rfl) rfl ?_
                  refine A_goto (pc := 88) 5 dX12_product_88 (by decide) ?_
                  rw [pl, if_pos hq]
                  have ih2 := ih (tx_res (ph (fun p => iv (31, 0, 0) (b + p)) n x.2) x.1 (U (pa x.2)).1, (U (pa x.2)).2) _ _ g2.2.1 (Nat.le_trans hx2 (g1.trans g2).2.2.1) g2.2.2.2 (by have h1 := g2.1; have h2 : (pa x.2).1 = x.2.1 + 1 := rfl; have h3 : (U (pa x.2)).2.1 = (tx_res (ph (fun p => iv (31, 0, 0) (b + p)) n x.2) x.1 (U (pa x.2)).1, (U (pa x.2)).2).2.1 := rfl; omega)
                  have er : tx_res (ph (fun p => iv (31, 0, 0) (b + p)) n x.2) x.1 (U (pa x.2)).1 = x.1 - x.1 / (U (pa x.2)).1 * (U (pa x.2)).1 := by rw [ec]; exact if_neg hb65
                  rw [er] at ih2 ⊢
                  exact ih2
                · exact absurd (ec.symm.trans hb75) (by decide)
              · refine A_iconst (pc := 68) (0) dX12_product_68 (by decide) ?_
                refine A_goto (pc := 69) 87 dX12_product_69 (by decide) ?_
                refine A_ist1 (pc := 87) dX12_product_87 (Nat.le_of_ble_eq_true rfl) rfl ?_
                refine A_goto (pc := 88) 5 dX12_product_88 (by decide) ?_
                rw [pl, if_pos hq]
                have ih2 := ih (tx_res (ph (fun p => iv (31, 0, 0) (b + p)) n x.2) x.1 (U (pa x.2)).1, (U (pa x.2)).2) _ _ g2.2.1 (Nat.le_trans hx2 (g1.trans g2).2.2.1) g2.2.2.2 (by have h1 := g2.1; have h2 : (pa x.2).1 = x.2.1 + 1 := rfl; have h3 : (U (pa x.2)).2.1 = (tx_res (ph (fun p => iv (31, 0, 0) (b + p)) n x.2) x.1 (U (pa x.2)).1, (U (pa x.2)).2).2.1 := rfl; omega)
                have er : tx_res (ph (fun p => iv (31, 0, 0) (b + p)) n x.2) x.1 (U (pa x.2)).1 = 0 := by rw [ec]; exact if_pos hb65
                rw [er] at ih2 ⊢
                exact ih2
            · exact absurd (ec.symm.trans hb55) (by decide)
  refine A_aload_n (pc := 0) (i := 0) dX12_product_0 rfl rfl ?_
  refine A_callV1 (pc := 1) cv_X12_166 (hU s hs he h5) hR.1 rfl rfl rfl rfl (Nat.le_of_ble_eq_true rfl) (rm_ge (Nat.le_refl d) (by decide)) ⟨Nat.zero_le _, Nat.zero_le _⟩ dX12_product_1 ?_
  refine A_ist1 (pc := 4) dX12_product_4 (Nat.le_of_ble_eq_true rfl) rfl ?_
  exact loop n (U s) _ _ g0.2.1 (Nat.le_trans he g0.2.2.1) g0.2.2.2 (Nat.le_add_left n _)
set_option maxRecDepth 20000 in
theorem r_sum (l : Launch) {kd : am_kd} {rv : am_rv} {iv : am_iv} (hR : shr kd rv) (b n : Nat) (h7 : iv (30, 0, 0) 7 = nI b) (h9 : iv (30, 0, 0) 9 = nI n) (hbn : b + n ≤ 300) (U : ps → Int32 × ps) (hG : pG n U) (e d : Nat) (hd : 1 ≤ d) (hU : ∀ s : ps, s.1 ≤ n → e ≤ s.2.2 → s.2.2 ≤ 5 → am_Met l mX12_product (am_rm d 0 0) [am_P (30, 0, 0)] kd rv (hp iv s) (am_ret (some (am_I (U s).1)) kd rv (hp iv (U s).2))) : ∀ s : ps, s.1 ≤ n → e ≤ s.2.2 → s.2.2 ≤ 5 → am_Met l mX12_sum (am_rm (d + 1) 0 0) [am_P (30, 0, 0)] kd rv (hp iv s) (am_ret (some (am_I ((pS (fun p => iv (31, 0, 0) (b + p)) n U) s).1)) kd rv (hp iv ((pS (fun p => iv (31, 0, 0) (b + p)) n U) s).2)) := by
  intro s hs he h5
  refine am_Met.of (by decide) (Nat.le_of_ble_eq_true rfl) rfl ?_
  have g0 := hG s hs h5
  have loop : ∀ (k : Nat) (x : Int32 × ps) (y2 y3 : Option am_V), x.2.1 ≤ n → e ≤ x.2.2.2 → x.2.2.2 ≤ 5 → n ≤ x.2.1 + k → am_W l mX12_sum (am_rm (d + 1) 0 0) (am_ret (some (am_I (pl (fun p => iv (31, 0, 0) (b + p)) n isA U k x).1)) kd rv (hp iv (pl (fun p => iv (31, 0, 0) (b + p)) n isA U k x).2)) 5 [some (am_P (30, 0, 0)), some (am_I x.1), y2, y3] [] kd rv (hp iv x.2) 0 0 := by
    intro k
    induction k with
    | zero =>
      intro x y2 y3 hx1 hx2 hx3 hx4
      have hm1 : ph (fun p => iv (31, 0, 0) (b + p)) n x.2 = -1 := ph_out (by omega)
      refine A_aload_n (pc := 5) (i := 0) dX12_sum_5 rfl rfl ?_
      refine A_callV1 (pc := 6) cv_X12_143 (r_here l hR b n h7 h9 hbn x.2 hx1) hR.1 rfl rfl rfl rfl (Nat.le_of_ble_eq_true rfl) (rm_ge (Nat.zero_le d) (by decide)) ⟨Nat.zero_le _, Nat.zero_le _⟩ dX12_sum_6 ?_
      refine A_bipush (pc := 9) (43) dX12_sum_9 (by decide) ?_
      refine A_icmpeq (pc := 11) 23 dX12_sum_11 (by decide) (fun hb11 => ?_) (fun hb11 => ?_)
      · exact absurd hb11 (by rw [hm1]; decide)
      · refine A_aload_n (pc := 14) (i := 0) dX12_sum_14 rfl rfl ?_
        refine A_callV1 (pc := 15) cv_X12_143 (r_here l hR b n h7 h9 hbn x.2 hx1) hR.1 rfl rfl rfl rfl (Nat.le_of_ble_eq_true rfl) (rm_ge (Nat.zero_le d) (by decide)) ⟨Nat.zero_le _, Nat.zero_le _⟩ dX12_sum_15 ?_
        refine A_bipush (pc := 18) (45) dX12_sum_18 (by decide) ?_
        refine A_icmpne (pc := 20) 62 dX12_sum_20 (by decide) (fun hb20 => ?_) (fun hb20 => ?_)
        · refine A_iload_n (pc := 62) (i := 1) dX12_sum_62 rfl rfl ?_
          exact A_iretE (pc := 63) dX12_sum_63 rfl (Nat.zero_le _) (Nat.zero_le _) (rfl) (rfl)
        · exact absurd hb20 (by rw [hm1]; decide)
    | succ k ih =>
      intro x y2 y3 hx1 hx2 hx3 hx4
      refine A_aload_n (pc := 5) (i := 0) dX12_sum_5 rfl rfl ?_
      refine A_callV1 (pc := 6) cv_X12_143 (r_here l hR b n h7 h9 hbn x.2 hx1) hR.1 rfl rfl rfl rfl (Nat.le_of_ble_eq_true rfl) (rm_ge (Nat.zero_le d) (by decide)) ⟨Nat.zero_le _, Nat.zero_le _⟩ dX12_sum_6 ?_
      refine A_bipush (pc := 9) (43) dX12_sum_9 (by decide) ?_
      refine A_icmpeq (pc := 11) 23 dX12_sum_11 (by decide) (fun hb11 => ?_) (fun hb11 => ?_)
      · have ec : ph (fun p => iv (31, 0, 0) (b + p)) n x.2 = 43 := hb11
        have hq : isA (ph (fun p => iv (31, 0, 0) (b + p)) n x.2) = true := by rw [ec]; decide
        have g1 : pg n x.2 (pa x.2) := pg_pa (t := (fun p => iv (31, 0, 0) (b + p))) (fun h => by rw [h] at hq; exact absurd hq (by decide)) hx3
        have g2 := hG (pa x.2) g1.2.1 g1.2.2.2
        refine A_aload_n (pc := 23) (i := 0) dX12_sum_23 rfl rfl ?_
        refine A_callV1 (pc := 24) cv_X12_143 (r_here l hR b n h7 h9 hbn x.2 hx1) hR.1 rfl rfl rfl rfl (Nat.le_of_ble_eq_true rfl) (rm_ge (Nat.zero_le d) (by decide)) ⟨Nat.zero_le _, Nat.zero_le _⟩ dX12_sum_24 ?_
        refine A_ist2 (pc := 27) dX12_sum_27 (Nat.le_of_ble_eq_true rfl) rfl ?_
        refine A_aload_n (pc := 28) (i := 0) dX12_sum_28 rfl rfl ?_
        refine A_dup (pc := 29) dX12_sum_29 rfl ?_
        refine A_geti (pc := 30) 8 fl_X12_130_12 hR.1 rfl dX12_sum_30 ?_
        refine A_top hp_r8 ?_
        refine A_iconst (pc := 33) (1) dX12_sum_33 (by decide) ?_
        refine A_iadd (pc := 34) dX12_sum_34 ?_
        refine A_top (nI_1 x.2.1) ?_
        refine A_puti (pc := 35) 8 fl_X12_130_12 hR.1 rfl (by decide +kernel) rfl rfl dX12_sum_35 ?_
        rw [hp_8]
        refine A_aload_n (pc := 38) (i := 0) dX12_sum_38 rfl rfl ?_
        refine A_callV1 (pc := 39) cv_X12_163 (hU (pa x.2) g1.2.1 (Nat.le_trans hx2 g1.2.2.1) g1.2.2.2) hR.1 rfl rfl rfl rfl (Nat.le_of_ble_eq_true rfl) (rm_ge (Nat.le_refl d) (by decide)) ⟨Nat.zero_le _, Nat.zero_le _⟩ dX12_sum_39 ?_
        refine A_ist3 (pc := 42) dX12_sum_42 (Nat.le_of_ble_eq_true rfl) rfl ?_
        refine A_iload_n (pc := 43) (i := 2) dX12_sum_43 rfl rfl ?_
        refine A_bipush (pc := 44) (43) dX12_sum_44 (by decide) ?_
        refine A_icmpne (pc := 46) 55 dX12_sum_46 (by decide) (fun hb46 => ?_) (fun hb46 => ?_)
        · exact absurd ec hb46
        · refine A_iload_n (pc := 49) (i := 1) dX12_sum_49 rfl rfl ?_
          refine A_iload_n (pc := 50) (i := 3) dX12_sum_50 rfl rfl ?_
          refine A_iadd (pc := 51) dX12_sum_51 ?_
          refine A_goto (pc := 52) 58 dX12_sum_52 (by decide) ?_
          refine A_ist1 (pc := 58) dX12_sum_58 (Nat.le_of_ble_eq_true rfl) rfl ?_
          refine A_goto (pc := 59) 5 dX12_sum_59 (by decide) ?_
          rw [pl, if_pos hq]
          have ih2 := ih (tx_res (ph (fun p => iv (31, 0, 0) (b + p)) n x.2) x.1 (U (pa x.2)).1, (U (pa x.2)).2) _ _ g2.2.1 (Nat.le_trans hx2 (g1.trans g2).2.2.1) g2.2.2.2 (by have h1 := g2.1; have h2 : (pa x.2).1 = x.2.1 + 1 := rfl; have h3 : (U (pa x.2)).2.1 = (tx_res (ph (fun p => iv (31, 0, 0) (b + p)) n x.2) x.1 (U (pa x.2)).1, (U (pa x.2)).2).2.1 := rfl; omega)
          have er : tx_res (ph (fun p => iv (31, 0, 0) (b + p)) n x.2) x.1 (U (pa x.2)).1 = x.1 + (U (pa x.2)).1 := by rw [ec]; rfl
          rw [er] at ih2 ⊢
          exact ih2
      · refine A_aload_n (pc := 14) (i := 0) dX12_sum_14 rfl rfl ?_
        refine A_callV1 (pc := 15) cv_X12_143 (r_here l hR b n h7 h9 hbn x.2 hx1) hR.1 rfl rfl rfl rfl (Nat.le_of_ble_eq_true rfl) (rm_ge (Nat.zero_le d) (by decide)) ⟨Nat.zero_le _, Nat.zero_le _⟩ dX12_sum_15 ?_
        refine A_bipush (pc := 18) (45) dX12_sum_18 (by decide) ?_
        refine A_icmpne (pc := 20) 62 dX12_sum_20 (by decide) (fun hb20 => ?_) (fun hb20 => ?_)
        · have hq : ¬ isA (ph (fun p => iv (31, 0, 0) (b + p)) n x.2) = true := fun h => by
            have h2 := of_decide_eq_true h
            exact h2.elim hb11 hb20
          rw [pl, if_neg hq]
          refine A_iload_n (pc := 62) (i := 1) dX12_sum_62 rfl rfl ?_
          exact A_iretE (pc := 63) dX12_sum_63 rfl (Nat.zero_le _) (Nat.zero_le _) (rfl) (rfl)
        · have ec : ph (fun p => iv (31, 0, 0) (b + p)) n x.2 = 45 := hb20
          have hq : isA (ph (fun p => iv (31, 0, 0) (b + p)) n x.2) = true := by rw [ec]; decide
          have g1 : pg n x.2 (pa x.2) := pg_pa (t := (fun p => iv (31, 0, 0) (b + p))) (fun h => by rw [h] at hq; exact absurd hq (by decide)) hx3
          have g2 := hG (pa x.2) g1.2.1 g1.2.2.2
          refine A_aload_n (pc := 23) (i := 0) dX12_sum_23 rfl rfl ?_
          refine A_callV1 (pc := 24) cv_X12_143 (r_here l hR b n h7 h9 hbn x.2 hx1) hR.1 rfl rfl rfl rfl (Nat.le_of_ble_eq_true rfl) (rm_ge (Nat.zero_le d) (by decide)) ⟨Nat.zero_le _, Nat.zero_le _⟩ dX12_sum_24 ?_
          refine A_ist2 (pc := 27) dX12_sum_27 (Nat.le_of_ble_eq_true rfl) rfl ?_
          refine A_aload_n (pc := 28) (i := 0) dX12_sum_28 rfl rfl ?_
          refine A_dup (pc := 29) dX12_sum_29 rfl ?_
          refine A_geti (pc := 30) 8 fl_X12_130_12 hR.1 rfl dX12_sum_30 ?_
          refine A_top hp_r8 ?_
          refine A_iconst (pc := 33) (1) dX12_sum_33 (by decide) ?_
          refine A_iadd (pc := 34) dX12_sum_34 ?_
          refine A_top (nI_1 x.2.1) ?_
          refine A_puti (pc := 35) 8 fl_X12_130_12 hR.1 rfl (by decide +kernel) rfl rfl dX12_sum_35 ?_
          rw [hp_8]
          refine A_aload_n (pc := 38) (i := 0) dX12_sum_38 rfl rfl ?_
          refine A_callV1 (pc := 39) cv_X12_163 (hU (pa x.2) g1.2.1 (Nat.le_trans hx2 g1.2.2.1) g1.2.2.2) hR.1 rfl rfl rfl rfl (Nat.le_of_ble_eq_true rfl) (rm_ge (Nat.le_refl d) (by decide)) ⟨Nat.zero_le _, Nat.zero_le _⟩ dX12_sum_39 ?_
          refine A_ist3 (pc := 42) dX12_sum_42 (Nat.le_of_ble_eq_true rfl) rfl ?_
          refine A_iload_n (pc := 43) (i := 2) dX12_sum_43 rfl rfl ?_
          refine A_bipush (pc := 44) (43) dX12_sum_44 (by decide) ?_
          refine A_icmpne (pc := 46) 55 dX12_sum_46 (by decide) (fun hb46 => ?_) (fun hb46 => ?_)
          · refine A_iload_n (pc := 55) (i := 1) dX12_sum_55 rfl rfl ?_
            refine A_iload_n (pc := 56) (i := 3) dX12_sum_56 rfl rfl ?_
            refine A_isub (pc := 57) dX12_sum_57 ?_
            refine A_ist1 (pc := 58) dX12_sum_58 (Nat.le_of_ble_eq_true rfl) rfl ?_
            refine A_goto (pc := 59) 5 dX12_sum_59 (by decide) ?_
            rw [pl, if_pos hq]
            have ih2 := ih (tx_res (ph (fun p => iv (31, 0, 0) (b + p)) n x.2) x.1 (U (pa x.2)).1, (U (pa x.2)).2) _ _ g2.2.1 (Nat.le_trans hx2 (g1.trans g2).2.2.1) g2.2.2.2 (by have h1 := g2.1; have h2 : (pa x.2).1 = x.2.1 + 1 := rfl; have h3 : (U (pa x.2)).2.1 = (tx_res (ph (fun p => iv (31, 0, 0) (b + p)) n x.2) x.1 (U (pa x.2)).1, (U (pa x.2)).2).2.1 := rfl; omega)
            have er : tx_res (ph (fun p => iv (31, 0, 0) (b + p)) n x.2) x.1 (U (pa x.2)).1 = x.1 - (U (pa x.2)).1 := by rw [ec]; rfl
            rw [er] at ih2 ⊢
            exact ih2
          · exact absurd (ec.symm.trans hb46) (by decide)
  refine A_aload_n (pc := 0) (i := 0) dX12_sum_0 rfl rfl ?_
  refine A_callV1 (pc := 1) cv_X12_163 (hU s hs he h5) hR.1 rfl rfl rfl rfl (Nat.le_of_ble_eq_true rfl) (rm_ge (Nat.le_refl d) (by decide)) ⟨Nat.zero_le _, Nat.zero_le _⟩ dX12_sum_1 ?_
  refine A_ist1 (pc := 4) dX12_sum_4 (Nat.le_of_ble_eq_true rfl) rfl ?_
  exact loop n (U s) _ _ g0.2.1 (Nat.le_trans he g0.2.2.1) g0.2.2.2 (Nat.le_add_left n _)
set_option maxRecDepth 20000 in
theorem r_both (l : Launch) {kd : am_kd} {rv : am_rv} {iv : am_iv} (hR : shr kd rv) (b n : Nat) (h7 : iv (30, 0, 0) 7 = nI b) (h9 : iv (30, 0, 0) 9 = nI n) (hbn : b + n ≤ 300) (U : ps → Int32 × ps) (hG : pG n U) (e d : Nat) (hd : 1 ≤ d) (hU : ∀ s : ps, s.1 ≤ n → e ≤ s.2.2 → s.2.2 ≤ 5 → am_Met l mX12_compared (am_rm d 0 0) [am_P (30, 0, 0)] kd rv (hp iv s) (am_ret (some (am_I (U s).1)) kd rv (hp iv (U s).2))) : ∀ s : ps, s.1 ≤ n → e ≤ s.2.2 → s.2.2 ≤ 5 → am_Met l mX12_both (am_rm (d + 1) 0 0) [am_P (30, 0, 0)] kd rv (hp iv s) (am_ret (some (am_I ((pB (fun p => iv (31, 0, 0) (b + p)) n U) s).1)) kd rv (hp iv ((pB (fun p => iv (31, 0, 0) (b + p)) n U) s).2)) := by
  intro s hs he h5
  refine am_Met.of (by decide) (Nat.le_of_ble_eq_true rfl) rfl ?_
  have g0 := hG s hs h5
  have loop : ∀ (k : Nat) (x : Int32 × ps) (y2 : Option am_V), x.2.1 ≤ n → e ≤ x.2.2.2 → x.2.2.2 ≤ 5 → n ≤ x.2.1 + k → am_W l mX12_both (am_rm (d + 1) 0 0) (am_ret (some (am_I (pl (fun p => iv (31, 0, 0) (b + p)) n isN U k x).1)) kd rv (hp iv (pl (fun p => iv (31, 0, 0) (b + p)) n isN U k x).2)) 5 [some (am_P (30, 0, 0)), some (am_I x.1), y2] [] kd rv (hp iv x.2) 0 0 := by
    intro k
    induction k with
    | zero =>
      intro x y2 hx1 hx2 hx3 hx4
      have hm1 : ph (fun p => iv (31, 0, 0) (b + p)) n x.2 = -1 := ph_out (by omega)
      refine A_aload_n (pc := 5) (i := 0) dX12_both_5 rfl rfl ?_
      refine A_bipush (pc := 6) (38) dX12_both_6 (by decide) ?_
      refine A_callV1 (pc := 8) cv_X12_154 (r_takes l hR b n h7 h9 hbn x.2 hx1 38) hR.1 rfl rfl rfl rfl (Nat.le_of_ble_eq_true rfl) (rm_ge hd (by decide)) ⟨Nat.zero_le _, Nat.zero_le _⟩ dX12_both_8 ?_
      rw [if_neg (show ¬ ph (fun p => iv (31, 0, 0) (b + p)) n x.2 = 38 by rw [hm1]; decide)]
      refine A_ifeq (pc := 11) 36 dX12_both_11 (by decide) (fun hb11 => ?_) (fun hb11 => ?_)
      · refine A_iload_n (pc := 36) (i := 1) dX12_both_36 rfl rfl ?_
        exact A_iretE (pc := 37) dX12_both_37 rfl (Nat.zero_le _) (Nat.zero_le _) (rfl) (rfl)
      · exact absurd ((sr_b_0 _).mpr (show ¬ ph (fun p => iv (31, 0, 0) (b + p)) n x.2 = 38 by rw [hm1]; decide)) hb11
    | succ k ih =>
      intro x y2 hx1 hx2 hx3 hx4
      refine A_aload_n (pc := 5) (i := 0) dX12_both_5 rfl rfl ?_
      refine A_bipush (pc := 6) (38) dX12_both_6 (by decide) ?_
      refine A_callV1 (pc := 8) cv_X12_154 (r_takes l hR b n h7 h9 hbn x.2 hx1 38) hR.1 rfl rfl rfl rfl (Nat.le_of_ble_eq_true rfl) (rm_ge hd (by decide)) ⟨Nat.zero_le _, Nat.zero_le _⟩ dX12_both_8 ?_
      refine A_ifeq (pc := 11) 36 dX12_both_11 (by decide) (fun hb11 => ?_) (fun hb11 => ?_)
      · have ec := (sr_b_0 _).mp hb11
        rw [if_neg ec]
        have hq : ¬ isN (ph (fun p => iv (31, 0, 0) (b + p)) n x.2) = true := fun h => ec (of_decide_eq_true h)
        rw [pl, if_neg hq]
        refine A_iload_n (pc := 36) (i := 1) dX12_both_36 rfl rfl ?_
        exact A_iretE (pc := 37) dX12_both_37 rfl (Nat.zero_le _) (Nat.zero_le _) (rfl) (rfl)
      · have ec : ph (fun p => iv (31, 0, 0) (b + p)) n x.2 = 38 := Classical.not_not.mp (fun h => hb11 ((sr_b_0 _).mpr h))
        have hq : isN (ph (fun p => iv (31, 0, 0) (b + p)) n x.2) = true := by rw [ec]; decide
        rw [if_pos ec]
        have g1 : pg n x.2 (pa x.2) := pg_pa (t := (fun p => iv (31, 0, 0) (b + p))) (fun h => by rw [h] at hq; exact absurd hq (by decide)) hx3
        have g2 := hG (pa x.2) g1.2.1 g1.2.2.2
        refine A_aload_n (pc := 14) (i := 0) dX12_both_14 rfl rfl ?_
        refine A_callV1 (pc := 15) cv_X12_157 (hU (pa x.2) g1.2.1 (Nat.le_trans hx2 g1.2.2.1) g1.2.2.2) hR.1 rfl rfl rfl rfl (Nat.le_of_ble_eq_true rfl) (rm_ge (Nat.le_refl d) (by decide)) ⟨Nat.zero_le _, Nat.zero_le _⟩ dX12_both_15 ?_
        refine A_ist2 (pc := 18) dX12_both_18 (Nat.le_of_ble_eq_true rfl) rfl ?_
        refine A_iload_n (pc := 19) (i := 1) dX12_both_19 rfl rfl ?_
        refine A_ifeq (pc := 20) 31 dX12_both_20 (by decide) (fun hb20 => ?_) (fun hb20 => ?_)
        · refine A_iconst (pc := 31) (0) dX12_both_31 (by decide) ?_
          refine A_ist1 (pc := 32) dX12_both_32 (Nat.le_of_ble_eq_true rfl) rfl ?_
          refine A_goto (pc := 33) 5 dX12_both_33 (by decide) ?_
          rw [pl, if_pos hq]
          have ih2 := ih (tx_res (ph (fun p => iv (31, 0, 0) (b + p)) n x.2) x.1 (U (pa x.2)).1, (U (pa x.2)).2) _ g2.2.1 (Nat.le_trans hx2 (g1.trans g2).2.2.1) g2.2.2.2 (by have h1 := g2.1; have h2 : (pa x.2).1 = x.2.1 + 1 := rfl; have h3 : (U (pa x.2)).2.1 = (tx_res (ph (fun p => iv (31, 0, 0) (b + p)) n x.2) x.1 (U (pa x.2)).1, (U (pa x.2)).2).2.1 := rfl; omega)
          have er : tx_res (ph (fun p => iv (31, 0, 0) (b + p)) n x.2) x.1 (U (pa x.2)).1 = 0 := by rw [ec]; exact if_neg (fun h => h.1 hb20)
          rw [er] at ih2 ⊢
          exact ih2
        · refine A_iload_n (pc := 23) (i := 2) dX12_both_23 rfl rfl ?_
          refine A_ifeq (pc := 24) 31 dX12_both_24 (by decide) (fun hb24 => ?_) (fun hb24 => ?_)
          · refine A_iconst (pc := 31) (0) dX12_both_31 (by decide) ?_
            refine A_ist1 (pc := 32) dX12_both_32 (Nat.le_of_ble_eq_true rfl) rfl ?_
            refine A_goto (pc := 33) 5 dX12_both_33 (by decide) ?_
            rw [pl, if_pos hq]
            have ih2 := ih (tx_res (ph (fun p => iv (31, 0, 0) (b + p)) n x.2) x.1 (U (pa x.2)).1, (U (pa x.2)).2) _ g2.2.1 (Nat.le_trans hx2 (g1.trans g2).2.2.1) g2.2.2.2 (by have h1 := g2.1; have h2 : (pa x.2).1 = x.2.1 + 1 := rfl; have h3 : (U (pa x.2)).2.1 = (tx_res (ph (fun p => iv (31, 0, 0) (b + p)) n x.2) x.1 (U (pa x.2)).1, (U (pa x.2)).2).2.1 := rfl; omega)
            have er : tx_res (ph (fun p => iv (31, 0, 0) (b + p)) n x.2) x.1 (U (pa x.2)).1 = 0 := by rw [ec]; exact if_neg (fun h => h.2 hb24)
            rw [er] at ih2 ⊢
            exact ih2
          · refine A_iconst (pc := 27) (1) dX12_both_27 (by decide) ?_
            refine A_goto (pc := 28) 32 dX12_both_28 (by decide) ?_
            refine A_ist1 (pc := 32) dX12_both_32 (Nat.le_of_ble_eq_true rfl) rfl ?_
            refine A_goto (pc := 33) 5 dX12_both_33 (by decide) ?_
            rw [pl, if_pos hq]
            have ih2 := ih (tx_res (ph (fun p => iv (31, 0, 0) (b + p)) n x.2) x.1 (U (pa x.2)).1, (U (pa x.2)).2) _ g2.2.1 (Nat.le_trans hx2 (g1.trans g2).2.2.1) g2.2.2.2 (by have h1 := g2.1; have h2 : (pa x.2).1 = x.2.1 + 1 := rfl; have h3 : (U (pa x.2)).2.1 = (tx_res (ph (fun p => iv (31, 0, 0) (b + p)) n x.2) x.1 (U (pa x.2)).1, (U (pa x.2)).2).2.1 := rfl; omega)
            have er : tx_res (ph (fun p => iv (31, 0, 0) (b + p)) n x.2) x.1 (U (pa x.2)).1 = 1 := by rw [ec]; exact if_pos ⟨hb20, hb24⟩
            rw [er] at ih2 ⊢
            exact ih2
  refine A_aload_n (pc := 0) (i := 0) dX12_both_0 rfl rfl ?_
  refine A_callV1 (pc := 1) cv_X12_157 (hU s hs he h5) hR.1 rfl rfl rfl rfl (Nat.le_of_ble_eq_true rfl) (rm_ge (Nat.le_refl d) (by decide)) ⟨Nat.zero_le _, Nat.zero_le _⟩ dX12_both_1 ?_
  refine A_ist1 (pc := 4) dX12_both_4 (Nat.le_of_ble_eq_true rfl) rfl ?_
  exact loop n (U s) _ g0.2.1 (Nat.le_trans he g0.2.2.1) g0.2.2.2 (Nat.le_add_left n _)
set_option maxRecDepth 20000 in
theorem r_either (l : Launch) {kd : am_kd} {rv : am_rv} {iv : am_iv} (hR : shr kd rv) (b n : Nat) (h7 : iv (30, 0, 0) 7 = nI b) (h9 : iv (30, 0, 0) 9 = nI n) (hbn : b + n ≤ 300) (U : ps → Int32 × ps) (hG : pG n U) (e d : Nat) (hd : 1 ≤ d) (hU : ∀ s : ps, s.1 ≤ n → e ≤ s.2.2 → s.2.2 ≤ 5 → am_Met l mX12_both (am_rm d 0 0) [am_P (30, 0, 0)] kd rv (hp iv s) (am_ret (some (am_I (U s).1)) kd rv (hp iv (U s).2))) : ∀ s : ps, s.1 ≤ n → e ≤ s.2.2 → s.2.2 ≤ 5 → am_Met l mX12_either (am_rm (d + 1) 0 0) [am_P (30, 0, 0)] kd rv (hp iv s) (am_ret (some (am_I ((pO (fun p => iv (31, 0, 0) (b + p)) n U) s).1)) kd rv (hp iv ((pO (fun p => iv (31, 0, 0) (b + p)) n U) s).2)) := by
  intro s hs he h5
  refine am_Met.of (by decide) (Nat.le_of_ble_eq_true rfl) rfl ?_
  have g0 := hG s hs h5
  have loop : ∀ (k : Nat) (x : Int32 × ps) (y2 : Option am_V), x.2.1 ≤ n → e ≤ x.2.2.2 → x.2.2.2 ≤ 5 → n ≤ x.2.1 + k → am_W l mX12_either (am_rm (d + 1) 0 0) (am_ret (some (am_I (pl (fun p => iv (31, 0, 0) (b + p)) n isO U k x).1)) kd rv (hp iv (pl (fun p => iv (31, 0, 0) (b + p)) n isO U k x).2)) 5 [some (am_P (30, 0, 0)), some (am_I x.1), y2] [] kd rv (hp iv x.2) 0 0 := by
    intro k
    induction k with
    | zero =>
      intro x y2 hx1 hx2 hx3 hx4
      have hm1 : ph (fun p => iv (31, 0, 0) (b + p)) n x.2 = -1 := ph_out (by omega)
      refine A_aload_n (pc := 5) (i := 0) dX12_either_5 rfl rfl ?_
      refine A_bipush (pc := 6) (124) dX12_either_6 (by decide) ?_
      refine A_callV1 (pc := 8) cv_X12_154 (r_takes l hR b n h7 h9 hbn x.2 hx1 124) hR.1 rfl rfl rfl rfl (Nat.le_of_ble_eq_true rfl) (rm_ge hd (by decide)) ⟨Nat.zero_le _, Nat.zero_le _⟩ dX12_either_8 ?_
      rw [if_neg (show ¬ ph (fun p => iv (31, 0, 0) (b + p)) n x.2 = 124 by rw [hm1]; decide)]
      refine A_ifeq (pc := 11) 36 dX12_either_11 (by decide) (fun hb11 => ?_) (fun hb11 => ?_)
      · refine A_iload_n (pc := 36) (i := 1) dX12_either_36 rfl rfl ?_
        exact A_iretE (pc := 37) dX12_either_37 rfl (Nat.zero_le _) (Nat.zero_le _) (rfl) (rfl)
      · exact absurd ((sr_b_0 _).mpr (show ¬ ph (fun p => iv (31, 0, 0) (b + p)) n x.2 = 124 by rw [hm1]; decide)) hb11
    | succ k ih =>
      intro x y2 hx1 hx2 hx3 hx4
      refine A_aload_n (pc := 5) (i := 0) dX12_either_5 rfl rfl ?_
      refine A_bipush (pc := 6) (124) dX12_either_6 (by decide) ?_
      refine A_callV1 (pc := 8) cv_X12_154 (r_takes l hR b n h7 h9 hbn x.2 hx1 124) hR.1 rfl rfl rfl rfl (Nat.le_of_ble_eq_true rfl) (rm_ge hd (by decide)) ⟨Nat.zero_le _, Nat.zero_le _⟩ dX12_either_8 ?_
      refine A_ifeq (pc := 11) 36 dX12_either_11 (by decide) (fun hb11 => ?_) (fun hb11 => ?_)
      · have ec := (sr_b_0 _).mp hb11
        rw [if_neg ec]
        have hq : ¬ isO (ph (fun p => iv (31, 0, 0) (b + p)) n x.2) = true := fun h => ec (of_decide_eq_true h)
        rw [pl, if_neg hq]
        refine A_iload_n (pc := 36) (i := 1) dX12_either_36 rfl rfl ?_
        exact A_iretE (pc := 37) dX12_either_37 rfl (Nat.zero_le _) (Nat.zero_le _) (rfl) (rfl)
      · have ec : ph (fun p => iv (31, 0, 0) (b + p)) n x.2 = 124 := Classical.not_not.mp (fun h => hb11 ((sr_b_0 _).mpr h))
        have hq : isO (ph (fun p => iv (31, 0, 0) (b + p)) n x.2) = true := by rw [ec]; decide
        rw [if_pos ec]
        have g1 : pg n x.2 (pa x.2) := pg_pa (t := (fun p => iv (31, 0, 0) (b + p))) (fun h => by rw [h] at hq; exact absurd hq (by decide)) hx3
        have g2 := hG (pa x.2) g1.2.1 g1.2.2.2
        refine A_aload_n (pc := 14) (i := 0) dX12_either_14 rfl rfl ?_
        refine A_callV1 (pc := 15) cv_X12_151 (hU (pa x.2) g1.2.1 (Nat.le_trans hx2 g1.2.2.1) g1.2.2.2) hR.1 rfl rfl rfl rfl (Nat.le_of_ble_eq_true rfl) (rm_ge (Nat.le_refl d) (by decide)) ⟨Nat.zero_le _, Nat.zero_le _⟩ dX12_either_15 ?_
        refine A_ist2 (pc := 18) dX12_either_18 (Nat.le_of_ble_eq_true rfl) rfl ?_
        refine A_iload_n (pc := 19) (i := 1) dX12_either_19 rfl rfl ?_
        refine A_ifne (pc := 20) 27 dX12_either_20 (by decide) (fun hb20 => ?_) (fun hb20 => ?_)
        · refine A_iconst (pc := 27) (1) dX12_either_27 (by decide) ?_
          refine A_goto (pc := 28) 32 dX12_either_28 (by decide) ?_
          refine A_ist1 (pc := 32) dX12_either_32 (Nat.le_of_ble_eq_true rfl) rfl ?_
          refine A_goto (pc := 33) 5 dX12_either_33 (by decide) ?_
          rw [pl, if_pos hq]
          have ih2 := ih (tx_res (ph (fun p => iv (31, 0, 0) (b + p)) n x.2) x.1 (U (pa x.2)).1, (U (pa x.2)).2) _ g2.2.1 (Nat.le_trans hx2 (g1.trans g2).2.2.1) g2.2.2.2 (by have h1 := g2.1; have h2 : (pa x.2).1 = x.2.1 + 1 := rfl; have h3 : (U (pa x.2)).2.1 = (tx_res (ph (fun p => iv (31, 0, 0) (b + p)) n x.2) x.1 (U (pa x.2)).1, (U (pa x.2)).2).2.1 := rfl; omega)
          have er : tx_res (ph (fun p => iv (31, 0, 0) (b + p)) n x.2) x.1 (U (pa x.2)).1 = 1 := by rw [ec]; exact if_pos (Or.inl hb20)
          rw [er] at ih2 ⊢
          exact ih2
        · refine A_iload_n (pc := 23) (i := 2) dX12_either_23 rfl rfl ?_
          refine A_ifeq (pc := 24) 31 dX12_either_24 (by decide) (fun hb24 => ?_) (fun hb24 => ?_)
          · refine A_iconst (pc := 31) (0) dX12_either_31 (by decide) ?_
            refine A_ist1 (pc := 32) dX12_either_32 (Nat.le_of_ble_eq_true rfl) rfl ?_
            refine A_goto (pc := 33) 5 dX12_either_33 (by decide) ?_
            rw [pl, if_pos hq]
            have ih2 := ih (tx_res (ph (fun p => iv (31, 0, 0) (b + p)) n x.2) x.1 (U (pa x.2)).1, (U (pa x.2)).2) _ g2.2.1 (Nat.le_trans hx2 (g1.trans g2).2.2.1) g2.2.2.2 (by have h1 := g2.1; have h2 : (pa x.2).1 = x.2.1 + 1 := rfl; have h3 : (U (pa x.2)).2.1 = (tx_res (ph (fun p => iv (31, 0, 0) (b + p)) n x.2) x.1 (U (pa x.2)).1, (U (pa x.2)).2).2.1 := rfl; omega)
            have er : tx_res (ph (fun p => iv (31, 0, 0) (b + p)) n x.2) x.1 (U (pa x.2)).1 = 0 := by rw [ec]; exact if_neg (fun h => h.elim (fun h => h hb20) (fun h => h hb24))
            rw [er] at ih2 ⊢
            exact ih2
          · refine A_iconst (pc := 27) (1) dX12_either_27 (by decide) ?_
            refine A_goto (pc := 28) 32 dX12_either_28 (by decide) ?_
            refine A_ist1 (pc := 32) dX12_either_32 (Nat.le_of_ble_eq_true rfl) rfl ?_
            refine A_goto (pc := 33) 5 dX12_either_33 (by decide) ?_
            rw [pl, if_pos hq]
            have ih2 := ih (tx_res (ph (fun p => iv (31, 0, 0) (b + p)) n x.2) x.1 (U (pa x.2)).1, (U (pa x.2)).2) _ g2.2.1 (Nat.le_trans hx2 (g1.trans g2).2.2.1) g2.2.2.2 (by have h1 := g2.1; have h2 : (pa x.2).1 = x.2.1 + 1 := rfl; have h3 : (U (pa x.2)).2.1 = (tx_res (ph (fun p => iv (31, 0, 0) (b + p)) n x.2) x.1 (U (pa x.2)).1, (U (pa x.2)).2).2.1 := rfl; omega)
            have er : tx_res (ph (fun p => iv (31, 0, 0) (b + p)) n x.2) x.1 (U (pa x.2)).1 = 1 := by rw [ec]; exact if_pos (Or.inr hb24)
            rw [er] at ih2 ⊢
            exact ih2
  refine A_aload_n (pc := 0) (i := 0) dX12_either_0 rfl rfl ?_
  refine A_callV1 (pc := 1) cv_X12_151 (hU s hs he h5) hR.1 rfl rfl rfl rfl (Nat.le_of_ble_eq_true rfl) (rm_ge (Nat.le_refl d) (by decide)) ⟨Nat.zero_le _, Nat.zero_le _⟩ dX12_either_1 ?_
  refine A_ist1 (pc := 4) dX12_either_4 (Nat.le_of_ble_eq_true rfl) rfl ?_
  exact loop n (U s) _ g0.2.1 (Nat.le_trans he g0.2.2.1) g0.2.2.2 (Nat.le_add_left n _)
