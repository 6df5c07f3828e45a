def gr_pure (u n : Nat) (x y t : Int32) (bt nt : Nat → Int32) : Int32 := if 0 < n then (pV bt n (if nI u = 0 then 1 else 0) (fun q => if q = 0 then x else if q = 1 then y else if q = 2 then t else nt q)).1 else if u = 0 then (if x < t * 4 then y * x / 4 else y * t) else x / 50 + y / 100
theorem gr_raw_p {u n : Nat} {x y t : Int32} {iv : am_iv} {bt nt : Nat → Int32} (hb : ∀ p, iv (31, 0, 0) (150 + 50 * u + p) = bt p) (hn : ∀ k, 3 ≤ k → iv (31, 13, 0) k = nt k) : gr_raw u n x y t iv = gr_pure u n x y t bt nt := by
  have e1 : (fun p => iv (31, 0, 0) (150 + 50 * u + p)) = bt := funext hb
  have e2 : (fun q => gr_names x y t iv (31, 13, 0) q) = (fun q => if q = 0 then x else if q = 1 then y else if q = 2 then t else nt q) := by
    funext q
    unfold gr_names
    by_cases h2 : q = 2
    · subst h2; simp [am_ui]
    · by_cases h1 : q = 1
      · subst h1; simp [am_ui]
      · by_cases h0 : q = 0
        · subst h0; simp [am_ui]
        · simp [am_ui, h0, h1, h2, hn q (by omega)]
  unfold gr_raw gr_pure
  rw [e1, e2]
theorem gr_heap_13 {u n : Nat} {x y t : Int32} {iv : am_iv} {k : Nat} (hk : 3 ≤ k) : gr_heap u n x y t iv (31, 13, 0) k = iv (31, 13, 0) k := by
  unfold gr_heap
  split
  · rw [hp_o (by simp)]
    unfold wk_iv gr_names
    rw [am_ui_o (by simp), am_ui_o (by simp), am_ui_o (by simp), am_ui_n (by omega), am_ui_n (by omega), am_ui_n (by omega)]
  · rfl
/-- while a tick goes by: room i of the class (heap w), row a of the reference (heap u) -/
def al_ok (i a n nl : Nat) (ln : Nat → am_N) (cd bt nt : Nat → Int32) (w u : am_iv) : Prop :=
  (∀ r, r < n → ∀ k, 1 ≤ k → k ≤ 7 → w (4, i, r) k = u (31, a, 0) (79 + 8 * r + k)) ∧ (∀ r, r < n → a7 (w (6, i, r)) (rf u (31, 3, 0) r)) ∧ (∀ r, r < n → rok (w (4, i, r))) ∧ (∀ r, r < n → rok (w (6, i, r))) ∧ w (2, i, 0) 5 = u (31, a, 0) 3 ∧ w (2, i, 0) 6 = u (31, 3, 0) 4 ∧ w (2, i, 0) 6 = u (31, a, 0) 4 ∧ (-99999 ≤ (w (2, i, 0) 6).toInt ∧ (w (2, i, 0) 6).toInt ≤ 99999) ∧ (∀ j, j < nl → w (ln j) 2 = u (31, 3, 0) (21 + 2 * j)) ∧ (∀ k, w (10, i, 1) k = cd k) ∧ (∀ p, u (31, 0, 0) (200 + p) = bt p) ∧ (∀ k, 3 ≤ k → u (31, 13, 0) k = nt k)
theorem hA_n {i r z nl : Nat} {ln : Nat → am_N} {lk : Nat → Nat} {w : am_iv} {q : am_N} {k : Nat} (h : ¬ gb q k) (h4 : q ≠ (4, i, r)) : rm_hA i r z nl ln lk w q k = w q k := by
  unfold rm_hA rm_adv
  rw [am_ui_o h4, am_ui_o h4, am_ui_o h4, gv_heap_o h]
theorem hA_1 {i r z nl : Nat} {ln : Nat → am_N} {lk : Nat → Nat} {w : am_iv} : rm_hA i r z nl ln lk w (4, i, r) 1 = sr_held (w (6, i, r) 1 + rg_pace (w (6, i, r)) * w (6, i, r) 3) (-99999) 99999 := by
  unfold rm_hA rm_adv
  rw [am_ui_n (by simp), am_ui_n (by simp), am_ui_s]
theorem hA_2 {i r z nl : Nat} {ln : Nat → am_N} {lk : Nat → Nat} {w : am_iv} : rm_hA i r z nl ln lk w (4, i, r) 2 = sr_held (w (6, i, r) 2 + rm_lift (w (2, i, 0) 5) (w (2, i, 0) 6) lk (fun j => w (ln j) 2) (w (6, i, r)) nl) (-999) 999 := by
  unfold rm_hA rm_adv
  rw [am_ui_n (by simp), am_ui_s]
theorem hA_4 {i r z nl : Nat} {ln : Nat → am_N} {lk : Nat → Nat} {w : am_iv} : rm_hA i r z nl ln lk w (4, i, r) 4 = sr_held (w (6, i, r) 4 - rm_loss i z (w (6, i, r)) w) 0 999 := by
  unfold rm_hA rm_adv
  rw [am_ui_s]
theorem hA_k {i r z nl : Nat} {ln : Nat → am_N} {lk : Nat → Nat} {w : am_iv} {k : Nat} (h1 : k ≠ 1) (h2 : k ≠ 2) (h4 : k ≠ 4) : rm_hA i r z nl ln lk w (4, i, r) k = w (4, i, r) k := by
  unfold rm_hA rm_adv
  rw [am_ui_n (fun e => h4 e.2), am_ui_n (fun e => h2 e.2), am_ui_n (fun e => h1 e.2), gv_heap_o (by simp [gb])]
theorem held_rng {v a b : Int32} (h : a.toInt ≤ b.toInt) : a.toInt ≤ (sr_held v a b).toInt ∧ (sr_held v a b).toInt ≤ b.toInt := by
  unfold sr_held
  split
  · exact ⟨Int.le_refl _, h⟩
  · split
    · exact ⟨h, Int.le_refl _⟩
    · rename_i h1 h2
      rw [fa_lt] at h1 h2
      omega
theorem t_m99999 : (-99999 : Int32).toInt = -99999 := by decide
theorem t_99999 : (99999 : Int32).toInt = 99999 := by decide
theorem t_m999 : (-999 : Int32).toInt = -999 := by decide
theorem t_999 : (999 : Int32).toInt = 999 := by decide
theorem t_200 : (200 : Int32).toInt = 200 := by decide
theorem t_0 : (0 : Int32).toInt = 0 := by decide
theorem t_1 : (1 : Int32).toInt = 1 := by decide
/-- one ring goes on, in both -/
theorem al_go {i a n nl zc zr : Nat} {ln : Nat → am_N} {lk : Nat → Nat} {cd bt nt : Nat → Int32} {w u : am_iv} (ha : a < 3) (hn8 : n ≤ 8) (hl22 : ∀ j, j < nl → (ln j).1 = 22) (hzc : zc ≤ 50) (hloss : ∀ x y t, sr_held (gv_pure 1 zc x y t cd) 0 999 = sr_held (gr_pure 1 zr x y t bt nt) 0 999) (h : al_ok i a n nl ln cd bt nt w u) (r : Nat) (hr : r < n) : al_ok i a n nl ln cd bt nt (rm_hW i r n nl ln lk (rm_hA i r zc nl ln lk w)) (rt_on u a n nl zr r lk) := by
  obtain ⟨c1, c2, c3, c4, c5, c6, c7, c8, c9, c10, c11, c12⟩ := h
  have hr8 : r < 8 := by omega
  have wN : ∀ q k, ¬ gb q k → q ≠ (4, i, r) → rm_hW i r n nl ln lk (rm_hA i r zc nl ln lk w) q k = w q k := fun q k h1 h2 => (am_ui_o h2).trans (hA_n h1 h2)
  have w6 : ∀ q, rm_hA i r zc nl ln lk w (6, i, q) = w (6, i, q) := fun q => funext fun k => hA_n (by simp [gb]) (by simp)
  have w5 : rm_hW i r n nl ln lk (rm_hA i r zc nl ln lk w) (4, i, r) 5 = sr_held (rm_wid (w (2, i, 0) 5) (w (2, i, 0) 6) lk (fun j => w (ln j) 2) n (w (6, i, r)) (fun k => w (6, i, k)) nl) 1 200 := by
    unfold rm_hW
    rw [am_ui_s, hA_n (gb2 i 5) (by simp), hA_n (gb2 i 6) (by simp)]
    have e : (fun k => rm_hA i r zc nl ln lk w (6, i, k)) = fun k => w (6, i, k) := funext w6
    rw [w6 r, e, rm_wid_c (lm' := fun j => w (ln j) 2) (fun k _ => rfl) (fun k _ q _ => rfl) nl (fun j hj => hA_n (by simp [gb, hl22 j hj]) (fun e => by have := hl22 j hj; rw [e] at this; simp at this))]
  have wk : ∀ k, k ≠ 5 → rm_hW i r n nl ln lk (rm_hA i r zc nl ln lk w) (4, i, r) k = rm_hA i r zc nl ln lk w (4, i, r) k := fun k hk => am_ui_n (fun e => hk e.2)
  have uN : ∀ q k, rfr a q k → rt_on u a n nl zr r lk q k = u q k := fun q k h => rt_on_o h.1 hr8 h.2.1 h.2.2
  have f3 : ∀ k, rfr a (31, 3, 0) k := fun k => ⟨fun q => by simp at q; omega, by simp, by simp⟩
  have fa : ∀ k, (k < 80 ∨ 144 ≤ k) → rfr a (31, a, 0) k := fun k hk => ⟨fun q => by omega, by simp, by simp; omega⟩
  have h13 : ∀ k, 3 ≤ k → rt_h3 u a n nl r lk (31, 13, 0) k = nt k := fun k hk => (rt_h3_o (by simp; omega) hr8).trans (c12 k hk)
  have hbt : ∀ p, rt_h3 u a n nl r lk (31, 0, 0) (150 + 50 * 1 + p) = bt p := fun p => (rt_h3_o (fun e => by omega) hr8).trans (c11 p)
  have g6 := c2 r hr
  have uo : ∀ k, k ≠ 79 + 8 * r + 4 → rt_on u a n nl zr r lk (31, a, 0) k = rt_h3 u a n nl r lk (31, a, 0) k := fun k hk => by
    unfold rt_on
    rw [am_ui_n (fun e => hk e.2), gr_heap_o (by simp) (by simp; omega)]
  have hm : ∀ j, j < nl → (fun j => w (ln j) 2) j = (fun j => u (31, 3, 0) (21 + 2 * j)) j := c9
  have u1 : rt_on u a n nl zr r lk (31, a, 0) (79 + 8 * r + 1) = sr_held (w (6, i, r) 1 + rg_pace (w (6, i, r)) * w (6, i, r) 3) (-99999) 99999 := by
    rw [uo _ (by omega), rg_pace_c g6, g6.at 1, g6.at 3]
    unfold rt_h3
    rw [am_ui_n (by omega), am_ui_n (by omega), am_ui_s]
  have u2 : rt_on u a n nl zr r lk (31, a, 0) (79 + 8 * r + 2) = sr_held (w (6, i, r) 2 + rm_lift (w (2, i, 0) 5) (w (2, i, 0) 6) lk (fun j => w (ln j) 2) (w (6, i, r)) nl) (-999) 999 := by
    rw [uo _ (by omega), rm_lift_c g6 nl hm, g6.at 2, c5, c6]
    unfold rt_h3
    rw [am_ui_s]
  have u5 : rt_on u a n nl zr r lk (31, a, 0) (79 + 8 * r + 5) = sr_held (rm_wid (w (2, i, 0) 5) (w (2, i, 0) 6) lk (fun j => w (ln j) 2) n (w (6, i, r)) (fun k => w (6, i, k)) nl) 1 200 := by
    rw [uo _ (by omega), rm_wid_c (G' := fun k => rf u (31, 3, 0) k) g6 c2 nl hm, c5, c6]
    unfold rt_h3
    rw [am_ui_n (by omega), am_ui_s]
  have u4 : rt_on u a n nl zr r lk (31, a, 0) (79 + 8 * r + 4) = sr_held (w (6, i, r) 4 - rm_loss i zc (w (6, i, r)) w) 0 999 := by
    unfold rt_on rm_loss
    rw [am_ui_s, gr_raw_p hbt h13, gv_raw_p i 1 zc hzc, show w (10, i, 1) = cd from funext c10, hloss, g6.at 4, g6.at 5, g6.at 6]
  have uk : ∀ k, 1 ≤ k → k ≤ 7 → k ≠ 1 → k ≠ 2 → k ≠ 4 → k ≠ 5 → rt_on u a n nl zr r lk (31, a, 0) (79 + 8 * r + k) = u (31, a, 0) (79 + 8 * r + k) := fun k h1 h7 n1 n2 n4 n5 => by
    rw [uo _ (by omega)]
    unfold rt_h3
    rw [am_ui_n (by omega), am_ui_n (by omega), am_ui_n (by omega)]
  have ur : ∀ q k, q < n → q ≠ r → 1 ≤ k → k ≤ 7 → rt_on u a n nl zr r lk (31, a, 0) (79 + 8 * q + k) = u (31, a, 0) (79 + 8 * q + k) := fun q k hq hqr h1 h7 => by
    rw [uo _ (by omega)]
    unfold rt_h3
    rw [am_ui_n (by omega), am_ui_n (by omega), am_ui_n (by omega)]
  have n2 : ∀ k, rm_hW i r n nl ln lk (rm_hA i r zc nl ln lk w) (2, i, 0) k = w (2, i, 0) k := fun k => wN _ _ (gb2 i k) (by simp)
  refine ⟨fun q hq k h1 h7 => ?_, fun q hq k hk => ?_, fun q hq => ?_, fun q hq => ?_, ?_, ?_, ?_, ?_, fun j hj => ?_, fun k => ?_, fun p => ?_, fun k hk => ?_⟩
  · by_cases e : q = r
    · subst e
      by_cases k5 : k = 5
      · subst k5; rw [w5, u5]
      · rw [wk k k5]
        by_cases k1 : k = 1
        · subst k1; rw [hA_1, u1]
        · by_cases k2 : k = 2
          · subst k2; rw [hA_2, u2]
          · by_cases k4 : k = 4
            · subst k4; rw [hA_4, u4]
            · rw [hA_k k1 k2 k4, uk k h1 h7 k1 k2 k4 k5]; exact c1 q hq k h1 h7
    · rw [wN _ _ (by simp [gb]) (by simp [e]), ur q k hq e h1 h7]; exact c1 q hq k h1 h7
  · rw [wN _ _ (by simp [gb]) (by simp)]
    have e : rf (rt_on u a n nl zr r lk) (31, 3, 0) q k = rf u (31, 3, 0) q k := by
      simp only [rf]; rw [uN _ _ (f3 _)]
    rw [e]; exact c2 q hq k hk
  · by_cases e : q = r
    · subst e
      have g := c3 q hq
      obtain ⟨g1, g2, g3, g4, g5, g6', g7⟩ := g
      refine ⟨?_, ?_, ?_, ?_, ?_, ?_, ?_⟩
      · rw [wk 1 (by decide), hA_1]; have := held_rng (v := w (6, i, q) 1 + rg_pace (w (6, i, q)) * w (6, i, q) 3) (a := -99999) (b := 99999) (by decide); rw [t_m99999, t_99999] at this; exact this
      · rw [wk 2 (by decide), hA_2]; have := held_rng (v := w (6, i, q) 2 + rm_lift (w (2, i, 0) 5) (w (2, i, 0) 6) lk (fun j => w (ln j) 2) (w (6, i, q)) nl) (a := -999) (b := 999) (by decide); rw [t_m999, t_999] at this; exact this
      · rw [wk 3 (by decide), hA_k (by decide) (by decide) (by decide)]; exact g3
      · rw [wk 4 (by decide), hA_4]; have := held_rng (v := w (6, i, q) 4 - rm_loss i zc (w (6, i, q)) w) (a := 0) (b := 999) (by decide); rw [t_0, t_999] at this; exact this
      · rw [w5]; have := held_rng (v := rm_wid (w (2, i, 0) 5) (w (2, i, 0) 6) lk (fun j => w (ln j) 2) n (w (6, i, q)) (fun k => w (6, i, k)) nl) (a := 1) (b := 200) (by decide); rw [t_1, t_200] at this; exact this
      · rw [wk 6 (by decide), hA_k (by decide) (by decide) (by decide)]; exact g6'
      · rw [wk 7 (by decide), hA_k (by decide) (by decide) (by decide)]; exact g7
    · have : rm_hW i r n nl ln lk (rm_hA i r zc nl ln lk w) (4, i, q) = w (4, i, q) := funext fun k => wN _ _ (by simp [gb]) (by simp [e])
      rw [this]; exact c3 q hq
  · have : rm_hW i r n nl ln lk (rm_hA i r zc nl ln lk w) (6, i, q) = w (6, i, q) := funext fun k => wN _ _ (by simp [gb]) (by simp)
    rw [this]; exact c4 q hq
  · rw [n2 5, uN _ _ (fa 3 (by omega))]; exact c5
  · rw [n2 6, uN _ _ (f3 4)]; exact c6
  · rw [n2 6, uN _ _ (fa 4 (by omega))]; exact c7
  · rw [n2 6]; exact c8
  · rw [wN _ _ (by simp [gb, hl22 j hj]) (fun e => by have := hl22 j hj; rw [e] at this; simp at this), uN _ _ (f3 _)]; exact c9 j hj
  · rw [wN _ _ (by simp [gb]) (by simp)]; exact c10 k
  · have : rfr a (31, 0, 0) (200 + p) := ⟨fun q => by omega, by simp, by simp⟩
    rw [uN _ _ this]; exact c11 p
  · have e : rt_on u a n nl zr r lk (31, 13, 0) k = rt_h3 u a n nl r lk (31, 13, 0) k := by
      unfold rt_on
      rw [am_ui_o (by simp; omega), gr_heap_13 hk]
    rw [e]; exact h13 k hk
