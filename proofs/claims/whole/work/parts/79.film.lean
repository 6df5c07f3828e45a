theorem tR.c18 {i a n nl zc zr : Nat} {ln : Nat → am_N} {lk : Nat → Nat} {w u w' u' : am_iv} (ha : a < 3) (h : tR i a n nl zc zr ln lk w u) (hw : ∀ q k, q.1 ≠ 18 → w' q k = w q k) (hu : ∀ q k, q ≠ (31, 19, 0) → u' q k = u q k) : tR i a n nl zc zr ln lk w' u' := by
  have e2 : w' (2, i, 0) = w (2, i, 0) := funext fun k => hw _ _ (by simp)
  have e4 : ∀ r, w' (4, i, r) = w (4, i, r) := fun r => funext fun k => hw _ _ (by simp)
  have e6 : ∀ r, w' (6, i, r) = w (6, i, r) := fun r => funext fun k => hw _ _ (by simp)
  have e9 : w' (9, i, 1) = w (9, i, 1) := funext fun k => hw _ _ (by simp)
  have e10 : w' (10, i, 1) = w (10, i, 1) := funext fun k => hw _ _ (by simp)
  have ua : u' (31, a, 0) = u (31, a, 0) := funext fun k => hu _ _ (by simp; omega)
  have u0 : u' (31, 0, 0) = u (31, 0, 0) := funext fun k => hu _ _ (by simp)
  have u13 : u' (31, 13, 0) = u (31, 13, 0) := funext fun k => hu _ _ (by simp)
  obtain ⟨⟨c1, c2, c3, c4, c5, c6, c7, c8, c9, c10⟩, d2, d3, d4, d5, d6⟩ := h
  unfold tR al_pre
  simp only [e2, e4, e6, e9, e10, ua, u0, u13]
  refine ⟨⟨c1, c2, c3, c4, c5, c6, fun j hj => ?_, fun _ => trivial, fun _ => trivial, fun _ _ => trivial⟩, d2, d3, d4, d5, d6⟩
  rw [hw _ _ (by rw [d4 j hj]; decide)]
  exact c7 j hj
theorem gR_s.c {w u w' u' : am_iv} (h : gR_s w u) (hw : ∀ i s k, (i = 17 ∨ i = 18) → w' (i, s, 0) k = w (i, s, 0) k) (hu : ∀ i k, (i = 17 ∨ i = 18 ∨ i = 19) → u' (31, i, 0) k = u (31, i, 0) k) : gR_s w' u' := fun s hs => by
  obtain ⟨a1, z, a2, a3, a4, a5⟩ := h s hs
  refine ⟨by rw [hw 17 s _ (Or.inl rfl), hu 17 _ (Or.inl rfl)]; exact a1, z, a2, by rw [hw 17 s _ (Or.inl rfl)]; exact a3, by rw [hu 18 _ (Or.inr (Or.inl rfl))]; exact a4, fun k hk => ?_⟩
  rw [hw 18 s _ (Or.inr rfl), hu 19 _ (Or.inr (Or.inr rfl))]
  exact a5 k hk
theorem gR_s.put {w u : am_iv} (h : gR_s w u) {s k : Nat} (hk : k < 40) (v : Int32) : gR_s (am_ui w (18, s, 0) k v) (am_ui u (31, 19, 0) (40 * s + k) v) := fun t ht => by
  obtain ⟨a1, z, a2, a3, a4, a5⟩ := h t ht
  refine ⟨by rw [am_ui_o (by simp), am_ui_o (by simp)]; exact a1, z, a2, by rw [am_ui_o (by simp)]; exact a3, by rw [am_ui_o (by simp)]; exact a4, fun j hj => ?_⟩
  by_cases e : t = s ∧ j = k
  · obtain ⟨e1, e2⟩ := e
    subst e1; subst e2
    rw [am_ui_s, am_ui_s]
  · rw [am_ui_n (fun z => e ⟨by simpa using z.1, z.2⟩), am_ui_n (fun z => e (by omega))]
    exact a5 j hj
def ch18 (w w' : am_iv) : Prop := ∀ q k, ¬ inR 1 q ∨ ((q.1 = 4 ∨ q.1 = 6) ∧ k = 0) → q.1 ≠ 18 → w' q k = w q k
def chU19 (u u' : am_iv) : Prop := ∀ q k, q ≠ (31, 1, 0) → q ≠ (31, 3, 0) → q ≠ (31, 13, 0) → ¬ (q = (30, 0, 0) ∧ 7 ≤ k ∧ k ≤ 12) → q ≠ (31, 19, 0) → u' q k = u q k
noncomputable def flc (T : am_iv → am_iv) (s : Nat) : Nat → Nat → am_iv → am_iv
  | 0, _, w => w
  | d + 1, k, w => flc T s d (k + 1) (am_ui (T w) (18, s, 0) k (rw_nar (T w (17, s, 0) 2) (if T w (4, 1, 0) 7 = 0 then 0 else T w (4, 1, 0) 1)))
noncomputable def flr (T : am_iv → am_iv) (s : Nat) : Nat → Nat → am_iv → am_iv
  | 0, _, w => w
  | d + 1, k, w => flr T s d (k + 1) (am_ui (T w) (31, 19, 0) (40 * s + k) (rw_nar (T w (31, 17, 0) s) (if sr_b (rf (T w) (31, 1, 0) 0 7 = 1) = 0 then 0 else rf (T w) (31, 1, 0) 0 1)))
theorem flc_18 {T : am_iv → am_iv} {s : Nat} (hT : ∀ w, chg 1 w (T w)) (d : Nat) : ∀ k w, ch18 w (flc T s d k w) := by
  induction d with
  | zero => intro k w q j _ _; rfl
  | succ d ih =>
    intro k w q j h1 h2
    refine (ih _ _ q j h1 h2).trans ?_
    rw [am_ui_o (fun e => h2 (by rw [e]))]
    exact hT w q j h1
theorem flr_19 {T : am_iv → am_iv} {s : Nat} (hT : ∀ w, chU 1 w (T w)) (d : Nat) : ∀ k w, chU19 w (flr T s d k w) := by
  induction d with
  | zero => intro k w q j _ _ _ _ _; rfl
  | succ d ih =>
    intro k w q j h1 h2 h3 h4 h5
    refine (ih _ _ q j h1 h2 h3 h4 h5).trans ?_
    rw [am_ui_o h5]
    exact hT w q j h1 h2 h3 h4
theorem film_same {n nl z1 y1 : Nat} {ln : Nat → am_N} {lk : Nat → Nat} (hn : 0 < n) (s : Nat) (hs : s < 4) (d : Nat) : ∀ (k : Nat) (w u : am_iv), k + d ≤ 40 → tR 1 1 n nl z1 y1 ln lk w u → gR_s w u → gR_s (flc (rm_tick 1 n z1 nl ln lk) s d k w) (flr (rt_tick 1 n nl y1 lk) s d k u) := by
  induction d with
  | zero => intro k w u hk h hg; exact hg
  | succ d ih =>
    intro k w u hk h hg
    have ht := h.tick (a := 1) (by decide)
    have hg1 : gR_s ((rm_tick 1 n z1 nl ln lk) w) ((rt_tick 1 n nl y1 lk) u) := hg.c (fun i s k hi => chg.tick _ _ (Or.inl (fun e => by have := e.2.1; simp at this; omega))) (fun i k hi => chU.tick _ _ (by simp; omega) (by simp; omega) (by simp; omega) (by simp))
    have ev : rw_nar ((rt_tick 1 n nl y1 lk) u (31, 17, 0) s) (if sr_b (rf ((rt_tick 1 n nl y1 lk) u) (31, 1, 0) 0 7 = 1) = 0 then 0 else rf ((rt_tick 1 n nl y1 lk) u) (31, 1, 0) 0 1) = rw_nar ((rm_tick 1 n z1 nl ln lk) w (17, s, 0) 2) (if (rm_tick 1 n z1 nl ln lk) w (4, 1, 0) 7 = 0 then 0 else (rm_tick 1 n z1 nl ln lk) w (4, 1, 0) 1) := by
      rw [(hg1 s hs).1, ht.at hn 7 (by decide), ht.at hn 1 (by decide)]
      have b7 := (ht.1.2.2.1 0 hn).2.2.2.2.2.2
      rw [ht.at hn 7 (by decide)] at b7
      rcases b7 with b | b
      · rw [b, if_pos (by decide), if_pos rfl]
      · rw [b, if_neg (by decide), if_neg (by decide)]
    rw [flc, flr, ev]
    exact ih (k + 1) _ _ (by omega) (ht.c18 (by decide) (fun q j hq => am_ui_o (fun e => hq (by rw [e]))) (fun q j hq => am_ui_o hq)) (hg1.put (by omega) _)
theorem tQ.c18 {n nl z : Nat} {ln : Nat → am_N} {lk : Nat → Nat} {w w' : am_iv} (h : tQ 1 n nl z ln lk w) (hw : ∀ q k, q.1 ≠ 18 → w' q k = w q k) : tQ 1 n nl z ln lk w' := by
  obtain ⟨y, u, h⟩ := h
  exact ⟨y, u, h.c18 (by decide) hw (fun _ _ _ => rfl)⟩
theorem rQ.c18 {n nl z : Nat} {lk : Nat → Nat} {u u' : am_iv} (h : rQ 1 n nl z lk u) (hu : ∀ q k, q ≠ (31, 19, 0) → u' q k = u q k) : rQ 1 n nl z lk u' := by
  obtain ⟨y, ln, w, h⟩ := h
  exact ⟨y, ln, w, h.c18 (by decide) (fun _ _ _ => rfl) hu⟩
/-- films are told, nothing else that matters changed -/
theorem REL.film {kd : am_kd} {rv : am_rv} {w u w' u' : am_iv} (h : REL kd rv w u) (hw : ch18 w w') (hu : chU19 u u') (hs : gR_s w' u') : REL kd rv w' u' := by
  have h1 : REL kd rv (fun q k => if q.1 = 18 then w q k else w' q k) (fun q k => if q = (31, 19, 0) then u q k else u' q k) := by
    refine h.chTV (fun q k z => ?_) (fun q k n1 n2 n3 n4 n5 => ?_)
    · by_cases e : q.1 = 18
      · simp only [if_pos e]
      · simp only [if_neg e]
        exact hw q k (z.elim (fun z => Or.inl z.1) Or.inr) e
    · by_cases e : q = (31, 19, 0)
      · simp only [if_pos e]
      · simp only [if_neg e]
        exact hu q k n1 n3 n4 n5 e
  refine h1.sh (fun q k _ z => ?_) (fun q k _ _ z _ => ?_) hs
  · simp only [if_neg z]
  · simp only [if_neg z]
set_option maxRecDepth 20000 in
theorem flc_loop (l : Launch) {kd : am_kd} {rv : am_rv} {iv : am_iv} (hS : sh kd rv) (n nl z1 : Nat) (ln : Nat → am_N) (lk : Nat → Nat) (hl : rm_laws kd rv iv 1 nl ln lk) (x c2 : Int32) (s : Nat) (hs : s < 4) (sz : Nat) (hsz : sz ≤ 40) (d : Nat) : ∀ (k : Nat) (w : am_iv), tQ 1 n nl z1 ln lk w → w (17, s, 0) 1 = nI sz → k + d = sz → am_W l mX11_film (am_rm 8 0 0) (am_ret (some (am_I (nI sz))) kd rv (flc (rm_tick 1 n z1 nl ln lk) s d k w)) 48 [some (am_P (1, 0, 0)), some (am_I x), some (am_I c2), some (am_P (17, s, 0)), some (am_P (4, 1, 0)), some (am_I (nI k))] [] kd rv w 0 0 := by
  induction d with
  | zero =>
    intro k w hq hz hd
    refine A_iload (pc := 48) (i := 5) dX11_film_48 rfl ?_
    refine A_aload_n (pc := 50) (i := 3) dX11_film_50 rfl rfl ?_
    refine A_geti (pc := 51) 1 fl_X11_174_5 (hS.k17 hs) rfl dX11_film_51 ?_
    refine A_top hz ?_
    refine A_icmpge (pc := 54) 93 dX11_film_54 (by decide) (fun hb54 => ?_) (fun hb54 => ?_)
    · refine A_aload_n (pc := 93) (i := 3) dX11_film_93 rfl rfl ?_
      refine A_geti (pc := 94) 1 fl_X11_174_5 (hS.k17 hs) rfl dX11_film_94 ?_
      refine A_top hz ?_
      exact A_iretE (pc := 97) dX11_film_97 rfl (Nat.zero_le _) (Nat.zero_le _) ((rfl)) ((rfl))
    · exact absurd (nI_le (show sz ≤ k by omega) (by omega)) hb54
  | succ d ih =>
    intro k w hq hz hd
    have hq2 := tQ.tick (by decide) _ hq
    have hz2 : (rm_tick 1 n z1 nl ln lk) w (17, s, 0) 1 = nI sz := (chg.tick (17, s, 0) 1 (Or.inl (fun e => by have := e.2.1; simp at this))).trans hz
    have hi : 0 ≤ nI k ∧ nI k < (rm_tick 1 n z1 nl ln lk) w (17, s, 0) 1 := ⟨nI_pos' (by omega), by rw [hz2]; exact nI_lt (by omega) (by omega)⟩
    have hc : (nI k).toNatClampNeg = k := nI_clamp (by omega)
    refine A_iload (pc := 48) (i := 5) dX11_film_48 rfl ?_
    refine A_aload_n (pc := 50) (i := 3) dX11_film_50 rfl rfl ?_
    refine A_geti (pc := 51) 1 fl_X11_174_5 (hS.k17 hs) rfl dX11_film_51 ?_
    refine A_top hz ?_
    refine A_icmpge (pc := 54) 93 dX11_film_54 (by decide) (fun hb54 => ?_) (fun hb54 => ?_)
    · exact absurd hb54 (nI_nge (by omega) (by omega))
    · refine A_aload_n (pc := 57) (i := 0) dX11_film_57 rfl rfl ?_
      refine A_getr (pc := 58) 1 fl_X11_16_11 hS.k1 rfl (hS.w1 (k := 1) (by decide)) dX11_film_58 ?_
      refine A_callV0 (pc := 61) cv_X11_241 (s_tk1 l hS hl hq) (hS.k2 (by decide)) rfl rfl rfl rfl (Nat.le_of_ble_eq_true rfl) ⟨(Nat.le_of_ble_eq_true rfl), (Nat.le_of_ble_eq_true rfl)⟩ ⟨Nat.zero_le _, Nat.zero_le _⟩ dX11_film_61 ?_
      refine A_aload_n (pc := 64) (i := 3) dX11_film_64 rfl rfl ?_
      refine A_iload (pc := 65) (i := 5) dX11_film_65 rfl ?_
      refine A_aload (pc := 67) (i := 4) dX11_film_67 rfl ?_
      refine A_geti (pc := 69) 7 fl_X11_87_3 (hS.k4 (by decide) (by decide)) rfl dX11_film_69 ?_
      refine A_ifeq (pc := 72) 83 dX11_film_72 (by decide) (fun hb72 => ?_) (fun hb72 => ?_)
      · refine A_iconst (pc := 83) (0) dX11_film_83 (by decide) ?_
        refine A_top (y := (if (rm_tick 1 n z1 nl ln lk) w (4, 1, 0) 7 = 0 then 0 else (rm_tick 1 n z1 nl ln lk) w (4, 1, 0) 1)) (by rw [if_pos hb72]) ?_
        refine A_callV0 (pc := 84) cv_X11_296 (s_rwwrite l (17, s, 0) (18, s, 0) 40 sz (hS.k17 hs) (hS.w17 hs) (hS.k18 hs) (by decide) hz2 hsz _ _) (hS.k17 hs) rfl rfl rfl rfl (Nat.le_of_ble_eq_true rfl) ⟨(Nat.le_of_ble_eq_true rfl), (Nat.le_of_ble_eq_true rfl)⟩ ⟨Nat.zero_le _, Nat.zero_le _⟩ dX11_film_84 ?_
        refine A_heap (iv' := (am_ui ((rm_tick 1 n z1 nl ln lk) w) (18, s, 0) k (rw_nar ((rm_tick 1 n z1 nl ln lk) w (17, s, 0) 2) (if (rm_tick 1 n z1 nl ln lk) w (4, 1, 0) 7 = 0 then 0 else (rm_tick 1 n z1 nl ln lk) w (4, 1, 0) 1)))) (by rw [if_pos hi, hc]) ?_
        refine A_inc5 (pc := 87) (nI (k + 1)) dX11_film_87 (nI_1 k) (Nat.le_of_ble_eq_true rfl) rfl ?_
        refine A_goto (pc := 90) 48 dX11_film_90 (by decide) ?_
        exact ih (k + 1) _ (hq2.c18 (fun q j hq => am_ui_o (fun e => hq (by rw [e])))) ((am_ui_o (by simp)).trans hz2) (by omega)
      · refine A_aload (pc := 75) (i := 4) dX11_film_75 rfl ?_
        refine A_geti (pc := 77) 1 fl_X11_229_3 (hS.k4 (by decide) (by decide)) rfl dX11_film_77 ?_
        refine A_goto (pc := 80) 84 dX11_film_80 (by decide) ?_
        refine A_top (y := (if (rm_tick 1 n z1 nl ln lk) w (4, 1, 0) 7 = 0 then 0 else (rm_tick 1 n z1 nl ln lk) w (4, 1, 0) 1)) (by rw [if_neg hb72]) ?_
        refine A_callV0 (pc := 84) cv_X11_296 (s_rwwrite l (17, s, 0) (18, s, 0) 40 sz (hS.k17 hs) (hS.w17 hs) (hS.k18 hs) (by decide) hz2 hsz _ _) (hS.k17 hs) rfl rfl rfl rfl (Nat.le_of_ble_eq_true rfl) ⟨(Nat.le_of_ble_eq_true rfl), (Nat.le_of_ble_eq_true rfl)⟩ ⟨Nat.zero_le _, Nat.zero_le _⟩ dX11_film_84 ?_
        refine A_heap (iv' := (am_ui ((rm_tick 1 n z1 nl ln lk) w) (18, s, 0) k (rw_nar ((rm_tick 1 n z1 nl ln lk) w (17, s, 0) 2) (if (rm_tick 1 n z1 nl ln lk) w (4, 1, 0) 7 = 0 then 0 else (rm_tick 1 n z1 nl ln lk) w (4, 1, 0) 1)))) (by rw [if_pos hi, hc]) ?_
        refine A_inc5 (pc := 87) (nI (k + 1)) dX11_film_87 (nI_1 k) (Nat.le_of_ble_eq_true rfl) rfl ?_
        refine A_goto (pc := 90) 48 dX11_film_90 (by decide) ?_
        exact ih (k + 1) _ (hq2.c18 (fun q j hq => am_ui_o (fun e => hq (by rw [e])))) ((am_ui_o (by simp)).trans hz2) (by omega)
noncomputable def c_film (x : Int32) (sz n nl z0 z1 zt zw : Nat) (ln : Nat → am_N) (lk : Nat → Nat) (rv : am_rv) (iv : am_iv) : Int32 × am_rv × am_iv := if fe_c x iv = 0 then (nI sz, (lw_cp 1 0 rv 6), (flc (rm_tick 1 n z1 nl ln lk) x.toNatClampNeg sz 0 (rb_heap 1 0 n z0 z1 zt zw iv))) else (fe_c x iv, rv, er_heap (if fe_c x iv = -1000000001 then 1 else 2) iv)
set_option maxRecDepth 20000 in
theorem p_film (l : Launch) {kd : am_kd} {rv : am_rv} {iv : am_iv} (hS : sh kd rv) (x : Int32) (sz : Nat) (hz : x.toNatClampNeg < 4 → sz ≤ 40 ∧ iv (17, x.toNatClampNeg, 0) 1 = nI sz) (n nl z0 z1 zt zw : Nat) (ln : Nat → am_N) (lk : Nat → Nat) (hA : AH kd rv n z0 z1 zt zw iv) (hl : rm_laws kd (lw_cp 1 0 rv 6) (rb_heap 1 0 n z0 z1 zt zw iv) 1 nl ln lk) (hq : tQ 1 n nl z1 ln lk (rb_heap 1 0 n z0 z1 zt zw iv)) : am_Met l mX11_film (am_rm 8 0 0) [am_P (1, 0, 0), am_I x] kd rv iv (am_ret (some (am_I (c_film x sz n nl z0 z1 zt zw ln lk rv iv).1)) kd (c_film x sz n nl z0 z1 zt zw ln lk rv iv).2.1 (c_film x sz n nl z0 z1 zt zw ln lk rv iv).2.2) := by
  refine am_Met.of (by decide) (Nat.le_of_ble_eq_true rfl) rfl ?_
  refine A_aload_n (pc := 0) (i := 0) dX11_film_0 rfl rfl ?_
  refine A_iload_n (pc := 1) (i := 1) dX11_film_1 rfl rfl ?_
  refine A_callV1 (pc := 2) cv_X11_255 (s_filmError l hS x) hS.k1 rfl rfl rfl rfl (Nat.le_of_ble_eq_true rfl) ⟨(Nat.le_of_ble_eq_true rfl), (Nat.le_of_ble_eq_true rfl)⟩ ⟨Nat.zero_le _, Nat.zero_le _⟩ dX11_film_2 ?_
  refine A_top (y := fe_c x iv) rfl ?_
  refine A_ist2 (pc := 5) dX11_film_5 (Nat.le_of_ble_eq_true rfl) rfl ?_
  refine A_iload_n (pc := 6) (i := 2) dX11_film_6 rfl rfl ?_
  refine A_ifeq (pc := 7) 16 dX11_film_7 (by decide) (fun hb7 => ?_) (fun hb7 => ?_)
  · obtain ⟨hx, hx4, -⟩ := fe_x hb7
    obtain ⟨hz40, hz1⟩ := hz hx4
    refine A_aload_n (pc := 16) (i := 0) dX11_film_16 rfl rfl ?_
    refine A_getr (pc := 17) 5 fl_X11_31_11 hS.k1 rfl hS.w1_5 dX11_film_17 ?_
    refine A_iload_n (pc := 20) (i := 1) dX11_film_20 rfl rfl ?_
    refine A_top (nI_cl hx.1) ?_
    refine A_aaldN (pc := 21) hS.k16 (by decide) (by decide) hx4 (by decide) (hS.w16 hx4) dX11_film_21 ?_
    refine A_ast3 (pc := 22) dX11_film_22 (Nat.le_of_ble_eq_true rfl) rfl ?_
    refine A_aload_n (pc := 23) (i := 0) dX11_film_23 rfl rfl ?_
    refine A_getr (pc := 24) 1 fl_X11_16_11 hS.k1 rfl (hS.w1 (k := 1) (by decide)) dX11_film_24 ?_
    refine A_aload_n (pc := 27) (i := 0) dX11_film_27 rfl rfl ?_
    refine A_getr (pc := 28) 0 fl_X11_12_11 hS.k1 rfl (hS.w1 (k := 0) (by decide)) dX11_film_28 ?_
    refine A_callV0 (pc := 31) cv_X11_220 (s_bec l hS hA) (hS.k2 (by decide)) rfl rfl rfl rfl (Nat.le_of_ble_eq_true rfl) ⟨(Nat.le_of_ble_eq_true rfl), (Nat.le_of_ble_eq_true rfl)⟩ ⟨Nat.zero_le _, Nat.zero_le _⟩ dX11_film_31 ?_
    have hS := lw_cp_sh (i := 1) (o := 0) hS 6
    refine A_aload_n (pc := 34) (i := 0) dX11_film_34 rfl rfl ?_
    refine A_getr (pc := 35) 1 fl_X11_16_11 hS.k1 rfl (hS.w1 (k := 1) (by decide)) dX11_film_35 ?_
    refine A_getr (pc := 38) 0 fl_X11_78_4 (hS.k2 (by decide)) rfl (hS.w2_0 (by decide)) dX11_film_38 ?_
    refine A_iconst (pc := 41) (0) dX11_film_41 (by decide) ?_
    refine A_aaldN (pc := 42) (hS.k3 (by decide)) (by decide) (by decide) (by decide) (by decide) (hS.w3 (by decide) (by decide)) dX11_film_42 ?_
    refine A_ast4 (pc := 43) dX11_film_43 (Nat.le_of_ble_eq_true rfl) rfl ?_
    refine A_iconst (pc := 45) (0) dX11_film_45 (by decide) ?_
    refine A_ist5 (pc := 46) dX11_film_46 (Nat.le_of_ble_eq_true rfl) rfl ?_
    rw [c_film, if_pos hb7]
    exact flc_loop l hS n nl z1 ln lk hl x (fe_c x iv) x.toNatClampNeg hx4 sz hz40 sz 0 (rb_heap 1 0 n z0 z1 zt zw iv) hq ((chg.rb (17, x.toNatClampNeg, 0) 1 (Or.inl (fun e => by have := e.2.1; simp at this))).trans hz1) (Nat.zero_add sz)
  · refine A_aload_n (pc := 10) (i := 0) dX11_film_10 rfl rfl ?_
    refine A_iload_n (pc := 11) (i := 2) dX11_film_11 rfl rfl ?_
    refine A_callV1 (pc := 12) cv_X11_61 (s_err12 l hS (fe_c12 hb7)) hS.k1 rfl rfl rfl rfl (Nat.le_of_ble_eq_true rfl) ⟨(Nat.le_of_ble_eq_true rfl), (Nat.le_of_ble_eq_true rfl)⟩ ⟨Nat.zero_le _, Nat.zero_le _⟩ dX11_film_12 ?_
    rw [c_film, if_neg hb7]
    exact A_iretE (pc := 15) dX11_film_15 rfl (Nat.zero_le _) (Nat.zero_le _) ((rfl)) ((rfl))
set_option maxRecDepth 20000 in
theorem flr_loop (l : Launch) {kd : am_kd} {rv : am_rv} (hR : shr kd rv) (n nl z : Nat) (lk : Nat → Nat) (c2 : Int32) (s : Nat) (hs : s < 4) (sz : Nat) (hsz : sz ≤ 40) (d : Nat) : ∀ (k : Nat) (w : am_iv) (p4 : Option am_V), rQ 1 n nl z lk w → w (31, 18, 0) s = nI sz → k + d = sz → am_W l mX12_film (am_rm 50 0 0) (am_ret (some (am_I (nI sz))) kd rv (flr (rt_tick 1 n nl z lk) s d k w)) 29 [some (am_P (30, 0, 0)), some (am_I (nI s)), some (am_I c2), some (am_I (nI k)), p4] [] kd rv w 0 0 := by
  induction d with
  | zero =>
    intro k w p4 hq hz hd
    refine A_iload_n (pc := 29) (i := 3) dX12_film_29 rfl rfl ?_
    refine A_aload_n (pc := 30) (i := 0) dX12_film_30 rfl rfl ?_
    refine A_getr (pc := 31) 18 fl_X12_37_12 hR.1 rfl hR.w18 dX12_film_31 ?_
    refine A_iload_n (pc := 34) (i := 1) dX12_film_34 rfl rfl ?_
    refine A_ialdN (pc := 35) (j := s) hR.k18 hs (by decide) dX12_film_35 ?_
    refine A_top hz ?_
    refine A_icmpge (pc := 36) 126 dX12_film_36 (by decide) (fun hb36 => ?_) (fun hb36 => ?_)
    · refine A_aload_n (pc := 126) (i := 0) dX12_film_126 rfl rfl ?_
      refine A_getr (pc := 127) 18 fl_X12_37_12 hR.1 rfl hR.w18 dX12_film_127 ?_
      refine A_iload_n (pc := 130) (i := 1) dX12_film_130 rfl rfl ?_
      refine A_ialdN (pc := 131) (j := s) hR.k18 hs (by decide) dX12_film_131 ?_
      refine A_top hz ?_
      exact A_iretE (pc := 132) dX12_film_132 rfl (Nat.zero_le _) (Nat.zero_le _) ((rfl)) ((rfl))
    · exact absurd (nI_le (show sz ≤ k by omega) (by omega)) hb36
  | succ d ih =>
    intro k w p4 hq hz hd
    have hq2 := rQ.tick (by decide) _ hq
    have hz2 : (rt_tick 1 n nl z lk) w (31, 18, 0) s = nI sz := (chU.tick (31, 18, 0) s (by simp) (by simp) (by simp) (by simp)).trans hz
    refine A_iload_n (pc := 29) (i := 3) dX12_film_29 rfl rfl ?_
    refine A_aload_n (pc := 30) (i := 0) dX12_film_30 rfl rfl ?_
    refine A_getr (pc := 31) 18 fl_X12_37_12 hR.1 rfl hR.w18 dX12_film_31 ?_
    refine A_iload_n (pc := 34) (i := 1) dX12_film_34 rfl rfl ?_
    refine A_ialdN (pc := 35) (j := s) hR.k18 hs (by decide) dX12_film_35 ?_
    refine A_top hz ?_
    refine A_icmpge (pc := 36) 126 dX12_film_36 (by decide) (fun hb36 => ?_) (fun hb36 => ?_)
    · exact absurd hb36 (nI_nge (by omega) (by omega))
    · refine A_aload_n (pc := 39) (i := 0) dX12_film_39 rfl rfl ?_
      refine A_aload_n (pc := 40) (i := 0) dX12_film_40 rfl rfl ?_
      refine A_getr (pc := 41) 1 fl_X12_13_12 hR.1 rfl hR.w1 dX12_film_41 ?_
      refine A_callV0 (pc := 44) cv_X12_224 (r_goesBy l hR 1 (by decide) hR.k1 n nl z lk (rQ.ref _ hq)) hR.1 rfl rfl rfl rfl (Nat.le_of_ble_eq_true rfl) ⟨(Nat.le_of_ble_eq_true rfl), (Nat.le_of_ble_eq_true rfl)⟩ ⟨Nat.zero_le _, Nat.zero_le _⟩ dX12_film_44 ?_
      refine A_aload_n (pc := 47) (i := 0) dX12_film_47 rfl rfl ?_
      refine A_getr (pc := 48) 1 fl_X12_13_12 hR.1 rfl hR.w1 dX12_film_48 ?_
      refine A_iconst (pc := 51) (0) dX12_film_51 (by decide) ?_
      refine A_top (y := nI 0) rfl ?_
      refine A_callS1 (pc := 52) cs_X12_209 (r_isWhole l (31, 1, 0) hR.k1 0 (by decide)) rfl rfl (Nat.le_of_ble_eq_true rfl) ⟨(Nat.le_of_ble_eq_true rfl), (Nat.le_of_ble_eq_true rfl)⟩ ⟨Nat.zero_le _, Nat.zero_le _⟩ dX12_film_52 ?_
      refine A_ifeq (pc := 55) 70 dX12_film_55 (by decide) (fun hb55 => ?_) (fun hb55 => ?_)
      · refine A_iconst (pc := 70) (0) dX12_film_70 (by decide) ?_
        refine A_top (y := (if sr_b (rf ((rt_tick 1 n nl z lk) w) (31, 1, 0) 0 7 = 1) = 0 then 0 else rf ((rt_tick 1 n nl z lk) w) (31, 1, 0) 0 1)) (by rw [if_pos hb55]) ?_
        refine A_ist4 (pc := 71) dX12_film_71 (Nat.le_of_ble_eq_true rfl) rfl ?_
        refine A_aload_n (pc := 73) (i := 0) dX12_film_73 rfl rfl ?_
        refine A_getr (pc := 74) 19 fl_X12_40_12 hR.1 rfl hR.w19 dX12_film_74 ?_
        refine A_bipush (pc := 77) (40) dX12_film_77 (by decide) ?_
        refine A_iload_n (pc := 79) (i := 1) dX12_film_79 rfl rfl ?_
        refine A_imul (pc := 80) dX12_film_80 ?_
        refine A_iload_n (pc := 81) (i := 3) dX12_film_81 rfl rfl ?_
        refine A_iadd (pc := 82) dX12_film_82 ?_
        refine A_top (rx_no s k) ?_
        refine A_aload_n (pc := 83) (i := 0) dX12_film_83 rfl rfl ?_
        refine A_getr (pc := 84) 17 fl_X12_34_12 hR.1 rfl hR.w17 dX12_film_84 ?_
        refine A_iload_n (pc := 87) (i := 1) dX12_film_87 rfl rfl ?_
        refine A_ialdN (pc := 88) (j := s) hR.k17 hs (by decide) dX12_film_88 ?_
        refine A_bipush (pc := 89) (8) dX12_film_89 (by decide) ?_
        refine A_icmpne (pc := 91) 100 dX12_film_91 (by decide) (fun hb91 => ?_) (fun hb91 => ?_)
        · refine A_aload_n (pc := 100) (i := 0) dX12_film_100 rfl rfl ?_
          refine A_getr (pc := 101) 17 fl_X12_34_12 hR.1 rfl hR.w17 dX12_film_101 ?_
          refine A_iload_n (pc := 104) (i := 1) dX12_film_104 rfl rfl ?_
          refine A_ialdN (pc := 105) (j := s) hR.k17 hs (by decide) dX12_film_105 ?_
          refine A_bipush (pc := 106) (16) dX12_film_106 (by decide) ?_
          refine A_icmpne (pc := 108) 117 dX12_film_108 (by decide) (fun hb108 => ?_) (fun hb108 => ?_)
          · refine A_iload (pc := 117) (i := 4) dX12_film_117 rfl ?_
            refine A_top (y := rw_nar ((rt_tick 1 n nl z lk) w (31, 17, 0) s) (if sr_b (rf ((rt_tick 1 n nl z lk) w) (31, 1, 0) 0 7 = 1) = 0 then 0 else rf ((rt_tick 1 n nl z lk) w) (31, 1, 0) 0 1)) (by rw [rw_nar, if_neg hb91, if_neg hb108]) ?_
            refine A_iastN (pc := 119) (j := 40 * s + k) hR.k19 (by omega) (by decide) dX12_film_119 ?_
            refine A_inc3 (pc := 120) (nI (k + 1)) dX12_film_120 (nI_1 k) (Nat.le_of_ble_eq_true rfl) rfl ?_
            refine A_goto (pc := 123) 29 dX12_film_123 (by decide) ?_
            exact ih (k + 1) _ _ (hq2.c18 (fun q j hq => am_ui_o hq)) ((am_ui_o (by simp)).trans hz2) (by omega)
          · refine A_iload (pc := 111) (i := 4) dX12_film_111 rfl ?_
            refine A_i2s (pc := 113) dX12_film_113 ?_
            refine A_goto (pc := 114) 119 dX12_film_114 (by decide) ?_
            refine A_top (y := rw_nar ((rt_tick 1 n nl z lk) w (31, 17, 0) s) (if sr_b (rf ((rt_tick 1 n nl z lk) w) (31, 1, 0) 0 7 = 1) = 0 then 0 else rf ((rt_tick 1 n nl z lk) w) (31, 1, 0) 0 1)) (by rw [rw_nar, if_neg hb91, if_pos hb108]) ?_
            refine A_iastN (pc := 119) (j := 40 * s + k) hR.k19 (by omega) (by decide) dX12_film_119 ?_
            refine A_inc3 (pc := 120) (nI (k + 1)) dX12_film_120 (nI_1 k) (Nat.le_of_ble_eq_true rfl) rfl ?_
            refine A_goto (pc := 123) 29 dX12_film_123 (by decide) ?_
            exact ih (k + 1) _ _ (hq2.c18 (fun q j hq => am_ui_o hq)) ((am_ui_o (by simp)).trans hz2) (by omega)
        · refine A_iload (pc := 94) (i := 4) dX12_film_94 rfl ?_
          refine A_i2b (pc := 96) dX12_film_96 ?_
          refine A_goto (pc := 97) 119 dX12_film_97 (by decide) ?_
          refine A_top (y := rw_nar ((rt_tick 1 n nl z lk) w (31, 17, 0) s) (if sr_b (rf ((rt_tick 1 n nl z lk) w) (31, 1, 0) 0 7 = 1) = 0 then 0 else rf ((rt_tick 1 n nl z lk) w) (31, 1, 0) 0 1)) (by rw [rw_nar, if_pos hb91]) ?_
          refine A_iastN (pc := 119) (j := 40 * s + k) hR.k19 (by omega) (by decide) dX12_film_119 ?_
          refine A_inc3 (pc := 120) (nI (k + 1)) dX12_film_120 (nI_1 k) (Nat.le_of_ble_eq_true rfl) rfl ?_
          refine A_goto (pc := 123) 29 dX12_film_123 (by decide) ?_
          exact ih (k + 1) _ _ (hq2.c18 (fun q j hq => am_ui_o hq)) ((am_ui_o (by simp)).trans hz2) (by omega)
      · refine A_aload_n (pc := 58) (i := 0) dX12_film_58 rfl rfl ?_
        refine A_getr (pc := 59) 1 fl_X12_13_12 hR.1 rfl hR.w1 dX12_film_59 ?_
        refine A_iconst (pc := 62) (0) dX12_film_62 (by decide) ?_
        refine A_iconst (pc := 63) (0) dX12_film_63 (by decide) ?_
        refine A_top (y := nI 0) rfl ?_
        refine A_callS1 (pc := 64) cs_X12_73 (r_of l (31, 1, 0) hR.k1 0 (by decide) 0 1 rfl (by decide)) rfl rfl (Nat.le_of_ble_eq_true rfl) ⟨(Nat.le_of_ble_eq_true rfl), (Nat.le_of_ble_eq_true rfl)⟩ ⟨Nat.zero_le _, Nat.zero_le _⟩ dX12_film_64 ?_
        refine A_goto (pc := 67) 71 dX12_film_67 (by decide) ?_
        refine A_top (y := (if sr_b (rf ((rt_tick 1 n nl z lk) w) (31, 1, 0) 0 7 = 1) = 0 then 0 else rf ((rt_tick 1 n nl z lk) w) (31, 1, 0) 0 1)) (by rw [if_neg hb55]) ?_
        refine A_ist4 (pc := 71) dX12_film_71 (Nat.le_of_ble_eq_true rfl) rfl ?_
        refine A_aload_n (pc := 73) (i := 0) dX12_film_73 rfl rfl ?_
        refine A_getr (pc := 74) 19 fl_X12_40_12 hR.1 rfl hR.w19 dX12_film_74 ?_
        refine A_bipush (pc := 77) (40) dX12_film_77 (by decide) ?_
        refine A_iload_n (pc := 79) (i := 1) dX12_film_79 rfl rfl ?_
        refine A_imul (pc := 80) dX12_film_80 ?_
        refine A_iload_n (pc := 81) (i := 3) dX12_film_81 rfl rfl ?_
        refine A_iadd (pc := 82) dX12_film_82 ?_
        refine A_top (rx_no s k) ?_
        refine A_aload_n (pc := 83) (i := 0) dX12_film_83 rfl rfl ?_
        refine A_getr (pc := 84) 17 fl_X12_34_12 hR.1 rfl hR.w17 dX12_film_84 ?_
        refine A_iload_n (pc := 87) (i := 1) dX12_film_87 rfl rfl ?_
        refine A_ialdN (pc := 88) (j := s) hR.k17 hs (by decide) dX12_film_88 ?_
        refine A_bipush (pc := 89) (8) dX12_film_89 (by decide) ?_
        refine A_icmpne (pc := 91) 100 dX12_film_91 (by decide) (fun hb91 => ?_) (fun hb91 => ?_)
        · refine A_aload_n (pc := 100) (i := 0) dX12_film_100 rfl rfl ?_
          refine A_getr (pc := 101) 17 fl_X12_34_12 hR.1 rfl hR.w17 dX12_film_101 ?_
          refine A_iload_n (pc := 104) (i := 1) dX12_film_104 rfl rfl ?_
          refine A_ialdN (pc := 105) (j := s) hR.k17 hs (by decide) dX12_film_105 ?_
          refine A_bipush (pc := 106) (16) dX12_film_106 (by decide) ?_
          refine A_icmpne (pc := 108) 117 dX12_film_108 (by decide) (fun hb108 => ?_) (fun hb108 => ?_)
          · refine A_iload (pc := 117) (i := 4) dX12_film_117 rfl ?_
            refine A_top (y := rw_nar ((rt_tick 1 n nl z lk) w (31, 17, 0) s) (if sr_b (rf ((rt_tick 1 n nl z lk) w) (31, 1, 0) 0 7 = 1) = 0 then 0 else rf ((rt_tick 1 n nl z lk) w) (31, 1, 0) 0 1)) (by rw [rw_nar, if_neg hb91, if_neg hb108]) ?_
            refine A_iastN (pc := 119) (j := 40 * s + k) hR.k19 (by omega) (by decide) dX12_film_119 ?_
            refine A_inc3 (pc := 120) (nI (k + 1)) dX12_film_120 (nI_1 k) (Nat.le_of_ble_eq_true rfl) rfl ?_
            refine A_goto (pc := 123) 29 dX12_film_123 (by decide) ?_
            exact ih (k + 1) _ _ (hq2.c18 (fun q j hq => am_ui_o hq)) ((am_ui_o (by simp)).trans hz2) (by omega)
          · refine A_iload (pc := 111) (i := 4) dX12_film_111 rfl ?_
            refine A_i2s (pc := 113) dX12_film_113 ?_
            refine A_goto (pc := 114) 119 dX12_film_114 (by decide) ?_
            refine A_top (y := rw_nar ((rt_tick 1 n nl z lk) w (31, 17, 0) s) (if sr_b (rf ((rt_tick 1 n nl z lk) w) (31, 1, 0) 0 7 = 1) = 0 then 0 else rf ((rt_tick 1 n nl z lk) w) (31, 1, 0) 0 1)) (by rw [rw_nar, if_neg hb91, if_pos hb108]) ?_
            refine A_iastN (pc := 119) (j := 40 * s + k) hR.k19 (by omega) (by decide) dX12_film_119 ?_
            refine A_inc3 (pc := 120) (nI (k + 1)) dX12_film_120 (nI_1 k) (Nat.le_of_ble_eq_true rfl) rfl ?_
            refine A_goto (pc := 123) 29 dX12_film_123 (by decide) ?_
            exact ih (k + 1) _ _ (hq2.c18 (fun q j hq => am_ui_o hq)) ((am_ui_o (by simp)).trans hz2) (by omega)
        · refine A_iload (pc := 94) (i := 4) dX12_film_94 rfl ?_
          refine A_i2b (pc := 96) dX12_film_96 ?_
          refine A_goto (pc := 97) 119 dX12_film_97 (by decide) ?_
          refine A_top (y := rw_nar ((rt_tick 1 n nl z lk) w (31, 17, 0) s) (if sr_b (rf ((rt_tick 1 n nl z lk) w) (31, 1, 0) 0 7 = 1) = 0 then 0 else rf ((rt_tick 1 n nl z lk) w) (31, 1, 0) 0 1)) (by rw [rw_nar, if_pos hb91]) ?_
          refine A_iastN (pc := 119) (j := 40 * s + k) hR.k19 (by omega) (by decide) dX12_film_119 ?_
          refine A_inc3 (pc := 120) (nI (k + 1)) dX12_film_120 (nI_1 k) (Nat.le_of_ble_eq_true rfl) rfl ?_
          refine A_goto (pc := 123) 29 dX12_film_123 (by decide) ?_
          exact ih (k + 1) _ _ (hq2.c18 (fun q j hq => am_ui_o hq)) ((am_ui_o (by simp)).trans hz2) (by omega)
noncomputable def d_film (x : Int32) (sz n nl z : Nat) (lk : Nat → Nat) (iv : am_iv) : Int32 × am_iv := if fe_r x iv = 0 then (nI sz, (flr (rt_tick 1 n nl z lk) x.toNatClampNeg sz 0 (rx_cp (31, 0, 0) (31, 1, 0) iv 300))) else (if fe_r x iv = 1 then -1000000001 else -1000000002, rx_find (if fe_r x iv = 1 then 1 else 2) iv)
set_option maxRecDepth 20000 in
theorem q_film (l : Launch) {kd : am_kd} {rv : am_rv} {iv : am_iv} (hR : shr kd rv) (x : Int32) (sz : Nat) (hz : x.toNatClampNeg < 4 → sz ≤ 40 ∧ iv (31, 18, 0) x.toNatClampNeg = nI sz) (n nl z : Nat) (lk : Nat → Nat) (hn : iv (31, 0, 0) 1 = nI n) (hn8 : n ≤ 8) (hq : rQ 1 n nl z lk (rx_cp (31, 0, 0) (31, 1, 0) iv 300)) : am_Met l mX12_film (am_rm 50 0 0) [am_P (30, 0, 0), am_I x] kd rv iv (am_ret (some (am_I (d_film x sz n nl z lk iv).1)) kd rv (d_film x sz n nl z lk iv).2) := by
  refine am_Met.of (by decide) (Nat.le_of_ble_eq_true rfl) rfl ?_
  refine A_aload_n (pc := 0) (i := 0) dX12_film_0 rfl rfl ?_
  refine A_iload_n (pc := 1) (i := 1) dX12_film_1 rfl rfl ?_
  refine A_callV1 (pc := 2) cv_X12_270 (r_whyNoFilm l hR x) hR.1 rfl rfl rfl rfl (Nat.le_of_ble_eq_true rfl) ⟨(Nat.le_of_ble_eq_true rfl), (Nat.le_of_ble_eq_true rfl)⟩ ⟨Nat.zero_le _, Nat.zero_le _⟩ dX12_film_2 ?_
  refine A_top (y := fe_r x iv) rfl ?_
  refine A_ist2 (pc := 5) dX12_film_5 (Nat.le_of_ble_eq_true rfl) rfl ?_
  refine A_iload_n (pc := 6) (i := 2) dX12_film_6 rfl rfl ?_
  refine A_ifeq (pc := 7) 16 dX12_film_7 (by decide) (fun hb7 => ?_) (fun hb7 => ?_)
  · obtain ⟨hx, hx4⟩ := fe_y hb7
    obtain ⟨hz40, hz1⟩ := hz hx4
    refine A_aload_n (pc := 16) (i := 0) dX12_film_16 rfl rfl ?_
    refine A_getr (pc := 17) 0 fl_X12_7_12 hR.1 rfl hR.w0 dX12_film_17 ?_
    refine A_aload_n (pc := 20) (i := 0) dX12_film_20 rfl rfl ?_
    refine A_getr (pc := 21) 1 fl_X12_13_12 hR.1 rfl hR.w1 dX12_film_21 ?_
    refine A_callS0 (pc := 24) cs_X12_240 (r_copies l (31, 0, 0) (31, 1, 0) hR.k0 hR.k1 (by simp)) rfl rfl (Nat.le_of_ble_eq_true rfl) ⟨(Nat.le_of_ble_eq_true rfl), (Nat.le_of_ble_eq_true rfl)⟩ ⟨Nat.zero_le _, Nat.zero_le _⟩ dX12_film_24 ?_
    refine A_iconst (pc := 27) (0) dX12_film_27 (by decide) ?_
    refine A_ist3 (pc := 28) dX12_film_28 (Nat.le_of_ble_eq_true rfl) rfl ?_
    rw [show (d_film x sz n nl z lk iv) = (nI sz, (flr (rt_tick 1 n nl z lk) x.toNatClampNeg sz 0 (rx_cp (31, 0, 0) (31, 1, 0) iv 300))) from by rw [d_film, if_pos hb7]]
    have h9 := flr_loop l hR n nl z lk (fe_r x iv) x.toNatClampNeg hx4 sz hz40 sz 0 (rx_cp (31, 0, 0) (31, 1, 0) iv 300) none hq ((rx_cp_o (by simp)).trans hz1) (Nat.zero_add sz)
    rw [← nI_cl hx.1] at h9
    exact h9
  · refine A_aload_n (pc := 10) (i := 0) dX12_film_10 rfl rfl ?_
    refine A_iload_n (pc := 11) (i := 2) dX12_film_11 rfl rfl ?_
    refine A_callV1 (pc := 12) cv_X12_65 (r_fnd12 l hR (fe_r12 hb7)) hR.1 rfl rfl rfl rfl (Nat.le_of_ble_eq_true rfl) ⟨(Nat.le_of_ble_eq_true rfl), (Nat.le_of_ble_eq_true rfl)⟩ ⟨Nat.zero_le _, Nat.zero_le _⟩ dX12_film_12 ?_
    exact A_iretE (pc := 15) dX12_film_15 rfl (Nat.zero_le _) (Nat.zero_le _) (by rw [d_film, if_neg hb7]) (by rw [d_film, if_neg hb7])
theorem call_film (l : Launch) {kd : am_kd} {rv : am_rv} {iv : am_iv} (h : REL kd rv iv iv) (x : Int32) : CALL l kd rv iv mX11_film mX12_film [am_I x] := by
  obtain ⟨n, nl, ln, lk, z0, y0, z1, y1, zt, zw, hX⟩ := h.n
  obtain ⟨sz, hsz⟩ := h.2.1.1.f
  have hA := hX.AH h.1
  have hn8 := hX.1.1.2.2
  have hB := hX.b0 (h.z (i := 1) (by decide))
  have hl := hB.1.laws
  have hq : tQ 1 n nl z1 ln lk (rb_heap 1 0 n z0 z1 zt zw iv) := ⟨y1, _, ah_tR hX (h.z (i := 1) (by decide))⟩
  refine CALL.fs (d2 := 50) h (c_film x (sz x.toNatClampNeg) n nl z0 z1 zt zw ln lk rv iv) (d_film x (sz x.toNatClampNeg) n nl y1 lk) (p_film l h.S x (sz x.toNatClampNeg) (fun hx => ⟨(hsz _ hx).2.1, (hsz _ hx).2.2.1⟩) n nl z0 z1 zt zw ln lk hA hl hq) (fun hR h1 eu => ?_) (by decide) (by decide) (fun u hu eu => ?_)
  · have hX := hX.u eu
    have hz := h1.z (i := 1) (by decide)
    have hq : rQ 1 n nl y1 lk (rx_cp (31, 0, 0) (31, 1, 0) _ 300) := ⟨z1, ln, _, ah_tR hX (h.z (i := 1) (by decide))⟩
    exact q_film l hR x (sz x.toNatClampNeg) (fun hx => ⟨(hsz _ hx).2.1, (eu _ _ (Or.inr rfl)).trans (hsz _ hx).2.2.2.1⟩) n nl y1 lk hX.1.1.2.1 hn8 hq
  · have hX := hX.u eu
    have hz := hu.z (i := 1) (by decide)
    have hT := ah_tR hX hz
    have hs17 : ∀ s, u (31, 17, 0) s = iv (31, 17, 0) s := fun s => eu _ _ (Or.inr rfl)
    have hs18 : ∀ s, u (31, 18, 0) s = iv (31, 18, 0) s := fun s => eu _ _ (Or.inr rfl)
    have hs19 : ∀ s, u (31, 19, 0) s = iv (31, 19, 0) s := fun s => eu _ _ (Or.inr rfl)
    unfold c_film d_film
    rcases fe_cr (x := x) (iv := iv) (u := u) (fun s hs => (hsz s hs).1.trans (hs17 s).symm) (hX.1.1.1.trans hX.1.1.2.1.symm) with ⟨e1, e2⟩ | e12
    · rw [if_pos e1, if_pos e2]
      obtain ⟨hx, hx4, hn0⟩ := fe_x e1
      have hn := film_0 hX hn0
      obtain ⟨b1, b2, b3, b4, b5⟩ := hsz _ hx4
      have hg0 : gR_s (rb_heap 1 0 n z0 z1 zt zw iv) (rx_cp (31, 0, 0) (31, 1, 0) u 300) := hu.2.1.1.c (fun i s k hi => chg.rb _ _ (Or.inl (fun e => by have := e.2.1; simp at this; omega))) (fun i k hi => rx_cp_o (by simp; omega))
      have hg := film_same hn x.toNatClampNeg hx4 (sz x.toNatClampNeg) 0 _ _ (by omega) hT hg0
      have hw : ch18 iv (flc (rm_tick 1 n z1 nl ln lk) x.toNatClampNeg (sz x.toNatClampNeg) 0 (rb_heap 1 0 n z0 z1 zt zw iv)) := fun q k z z2 => (flc_18 (fun w => chg.tick) _ _ _ q k z z2).trans (chg.rb q k z)
      have hv : chU19 u (flr (rt_tick 1 n nl y1 lk) x.toNatClampNeg (sz x.toNatClampNeg) 0 (rx_cp (31, 0, 0) (31, 1, 0) u 300)) := fun q k n1 n2 n3 n4 n5 => (flr_19 (fun w => chU.tick) _ _ _ q k n1 n2 n3 n4 n5).trans (chU.cp q k n1 n2 n3 n4)
      refine ⟨rfl, (hu.cp (Or.inl rfl) (by decide)).film hw hv hg, fun q k hq => hw q k (Or.inl (fun e => by unfold uN at hq; have := e.2.1; omega)) (by unfold uN at hq; omega), fun q k hq => hv q k (fun e => by subst e; unfold cN at hq; simp at hq) (fun e => by subst e; unfold cN at hq; simp at hq) (fun e => by subst e; unfold cN at hq; simp at hq) (fun e => by have e1 := e.1; subst e1; unfold cN at hq; simp at hq) (fun e => by subst e; unfold cN at hq; simp at hq)⟩
    · have n1 : ¬ fe_c x iv = 0 := fun z => by rcases e12 with e | e <;> rw [e.1] at z <;> exact absurd z (by decide)
      have n2 : ¬ fe_r x u = 0 := fun z => by rcases e12 with e | e <;> rw [e.2] at z <;> exact absurd z (by decide)
      rw [if_neg n1, if_neg n2]
      exact fe_err hu e12
