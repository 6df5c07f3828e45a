def rs_heap (a n z : Nat) (x y : Int32) (iv : am_iv) : am_iv := rx_add (31, a, 0) n 0 0 1 (sr_held (gr_raw 0 z x y (iv (31, a, 0) 5) iv) 0 999) (iv (31, a, 0) 5) (1 + iv (31, a, 0) 5 / 5) (gr_heap 0 z x y (iv (31, a, 0) 5) iv)
theorem r7_pre {iv : am_iv} {a n nl z : Nat} {lk : Nat → Nat} (h : rt_pre iv a n nl z lk) : ∀ r, r < n → rf iv (31, a, 0) r 7 = 0 ∨ rf iv (31, a, 0) r 7 = 1 := fun r hr => (h.2.2.2.2.2.2.1 r hr).2.2.2.2.2.2
set_option maxRecDepth 20000 in
theorem r_strokes (l : Launch) {kd : am_kd} {rv : am_rv} {iv : am_iv} (hR : shr kd rv) (a : Nat) (ha : a < 3) (hm : kd (31, a, 0) = some (.inr (0, 300))) (n : Nat) (hn : iv (31, a, 0) 1 = nI n) (hn8 : n < 8) (z : Nat) (hz : iv (31, 0, 0) 40 = nI z) (hz50 : z ≤ 50) (x y : Int32) : am_Met l mX12_strokes (am_rm 40 0 0) [am_P (30, 0, 0), am_P (31, a, 0), am_I x, am_I y] kd rv iv (am_ret (some (am_I (nI n))) kd rv (rs_heap a n z x y iv)) := by
  refine am_Met.of (by decide) (Nat.le_of_ble_eq_true rfl) rfl ?_
  refine A_aload_n (pc := 0) (i := 1) dX12_strokes_0 rfl rfl ?_
  refine A_iconst (pc := 1) (0) dX12_strokes_1 (by decide) ?_
  refine A_iconst (pc := 2) (0) dX12_strokes_2 (by decide) ?_
  refine A_iconst (pc := 3) (1) dX12_strokes_3 (by decide) ?_
  refine A_aload_n (pc := 4) (i := 0) dX12_strokes_4 rfl rfl ?_
  refine A_iconst (pc := 5) (0) dX12_strokes_5 (by decide) ?_
  refine A_iload_n (pc := 6) (i := 2) dX12_strokes_6 rfl rfl ?_
  refine A_iload_n (pc := 7) (i := 3) dX12_strokes_7 rfl rfl ?_
  refine A_aload_n (pc := 8) (i := 1) dX12_strokes_8 rfl rfl ?_
  refine A_iconst (pc := 9) (5) dX12_strokes_9 (by decide) ?_
  refine A_ialdN (pc := 10) (j := 5) hm (by decide) (by decide) dX12_strokes_10 ?_
  refine A_callV1 (pc := 11) cv_X12_197 (r_givesOf l hR 0 (by decide) z hz hz50 x y (iv (31, a, 0) 5)) hR.1 rfl rfl rfl rfl (Nat.le_of_ble_eq_true rfl) ⟨(Nat.le_of_ble_eq_true rfl), (Nat.le_of_ble_eq_true rfl)⟩ ⟨Nat.zero_le _, Nat.zero_le _⟩ dX12_strokes_11 ?_
  refine A_aload_n (pc := 14) (i := 1) dX12_strokes_14 rfl rfl ?_
  refine A_iconst (pc := 15) (5) dX12_strokes_15 (by decide) ?_
  refine A_ialdN (pc := 16) (j := 5) hm (by decide) (by decide) dX12_strokes_16 ?_
  refine A_top (gr_heap_o (by simp) (by simp; omega)) ?_
  refine A_iconst (pc := 17) (1) dX12_strokes_17 (by decide) ?_
  refine A_aload_n (pc := 18) (i := 1) dX12_strokes_18 rfl rfl ?_
  refine A_iconst (pc := 19) (5) dX12_strokes_19 (by decide) ?_
  refine A_ialdN (pc := 20) (j := 5) hm (by decide) (by decide) dX12_strokes_20 ?_
  refine A_top (gr_heap_o (by simp) (by simp; omega)) ?_
  refine A_iconst (pc := 21) (5) dX12_strokes_21 (by decide) ?_
  refine A_idiv (pc := 22) dX12_strokes_22 (by decide) ?_
  refine A_iadd (pc := 23) dX12_strokes_23 ?_
  refine A_callS1 (pc := 24) cs_X12_69 (r_adds l (31, a, 0) hm n ((gr_heap_o (by simp) (by simp; omega)).trans hn) hn8 _ _ _ _ _ _) rfl rfl (Nat.le_of_ble_eq_true rfl) ⟨(Nat.le_of_ble_eq_true rfl), (Nat.le_of_ble_eq_true rfl)⟩ ⟨Nat.zero_le _, Nat.zero_le _⟩ dX12_strokes_24 ?_
  exact A_iretE (pc := 27) dX12_strokes_27 rfl (Nat.zero_le _) (Nat.zero_le _) (rfl) (rfl)
def it (T : am_iv → am_iv) : Nat → am_iv → am_iv
  | 0, w => w
  | d + 1, w => it T d (T w)
set_option maxRecDepth 20000 in
theorem ga_loop (l : Launch) {kd : am_kd} {rv : am_rv} (hR : shr kd rv) (a : Nat) (ha : a < 3) (hm : kd (31, a, 0) = some (.inr (0, 300))) (n nl z : Nat) (lk : Nat → Nat) (Q : am_iv → Prop) (hQ : ∀ w, Q w → rt_pre w a n nl z lk) (hT : ∀ w, Q w → Q (rt_tick a n nl z lk w)) (N : Nat) (hN : N < 2 ^ 31) (d : Nat) : ∀ (w : am_iv), Q w → d ≤ N → am_W l mX12_goesAhead (am_rm 42 0 0) (am_ret none kd rv (it (rt_tick a n nl z lk) d w)) 2 [some (am_P (30, 0, 0)), some (am_P (31, a, 0)), some (am_I (nI N)), some (am_I (nI (N - d)))] [] kd rv w 0 0 := by
  induction d with
  | zero =>
    intro w hq hd
    refine A_iload_n (pc := 2) (i := 3) dX12_goesAhead_2 rfl rfl ?_
    refine A_iload_n (pc := 3) (i := 2) dX12_goesAhead_3 rfl rfl ?_
    refine A_icmpge (pc := 4) 18 dX12_goesAhead_4 (by decide) (fun hb4 => ?_) (fun hb4 => ?_)
    · exact A_vretE (pc := 18) dX12_goesAhead_18 rfl (Nat.zero_le _) (Nat.zero_le _) (rfl)
    · exact absurd (nI_le (Nat.le_refl N) hN) hb4
  | succ d ih =>
    intro w hq hd
    refine A_iload_n (pc := 2) (i := 3) dX12_goesAhead_2 rfl rfl ?_
    refine A_iload_n (pc := 3) (i := 2) dX12_goesAhead_3 rfl rfl ?_
    refine A_icmpge (pc := 4) 18 dX12_goesAhead_4 (by decide) (fun hb4 => ?_) (fun hb4 => ?_)
    · exact absurd hb4 (nI_nge (by omega) hN)
    · refine A_aload_n (pc := 7) (i := 0) dX12_goesAhead_7 rfl rfl ?_
      refine A_aload_n (pc := 8) (i := 1) dX12_goesAhead_8 rfl rfl ?_
      refine A_callV0 (pc := 9) cv_X12_224 (r_goesBy l hR a ha hm n nl z lk (hQ w hq)) hR.1 rfl rfl rfl rfl (Nat.le_of_ble_eq_true rfl) ⟨(Nat.le_of_ble_eq_true rfl), (Nat.le_of_ble_eq_true rfl)⟩ ⟨Nat.zero_le _, Nat.zero_le _⟩ dX12_goesAhead_9 ?_
      refine A_inc3 (pc := 12) (nI (N - d)) dX12_goesAhead_12 (nI_sub1 hd) (Nat.le_of_ble_eq_true rfl) rfl ?_
      refine A_goto (pc := 15) 2 dX12_goesAhead_15 (by decide) ?_
      exact ih _ (hT w hq) (by omega)
set_option maxRecDepth 20000 in
theorem r_goesAhead (l : Launch) {kd : am_kd} {rv : am_rv} {iv : am_iv} (hR : shr kd rv) (a : Nat) (ha : a < 3) (hm : kd (31, a, 0) = some (.inr (0, 300))) (n nl z : Nat) (lk : Nat → Nat) (Q : am_iv → Prop) (hQ : ∀ w, Q w → rt_pre w a n nl z lk) (hT : ∀ w, Q w → Q (rt_tick a n nl z lk w)) (hq : Q iv) (N : Nat) (hN : N < 2 ^ 31) : am_Met l mX12_goesAhead (am_rm 42 0 0) [am_P (30, 0, 0), am_P (31, a, 0), am_I (nI N)] kd rv iv (am_ret none kd rv (it (rt_tick a n nl z lk) N iv)) := by
  refine am_Met.of (by decide) (Nat.le_of_ble_eq_true rfl) rfl ?_
  refine A_iconst (pc := 0) (0) dX12_goesAhead_0 (by decide) ?_
  refine A_ist3 (pc := 1) dX12_goesAhead_1 (Nat.le_of_ble_eq_true rfl) rfl ?_
  have h0 := ga_loop l hR a ha hm n nl z lk Q hQ hT N hN N iv hq (Nat.le_refl N)
  rw [Nat.sub_self] at h0
  exact h0
def tf (T : am_iv → am_iv) (F : am_iv → Int32) : Nat → Int32 → Int32 → am_iv → Int32 × am_iv
  | 0, c, _, w => (c, w)
  | d + 1, c, f, w => if f < 0 then (c, w) else tf T F d (c + (if ¬ F (T w) < 0 ∧ ¬ F (T w) = f then 1 else 0)) (F (T w)) (T w)
def fi (T : am_iv → am_iv) (n : am_N) (r : Nat) : Nat → Int32 → am_iv → Int32 × am_iv
  | 0, g, w => if rf w n r 7 = 1 then ((if rf w n r 1 ≤ g then g else rf w n r 1), w) else (g, w)
  | d + 1, g, w => if rf w n r 7 = 1 then fi T n r d (if rf w n r 1 ≤ g then g else rf w n r 1) (T w) else (g, w)
set_option maxRecDepth 20000 in
theorem tf_loop (l : Launch) {kd : am_kd} {rv : am_rv} (hR : shr kd rv) (a : Nat) (ha : a < 3) (hm : kd (31, a, 0) = some (.inr (0, 300))) (n nl z : Nat) (lk : Nat → Nat) (Q : am_iv → Prop) (hQ : ∀ w, Q w → rt_pre w a n nl z lk) (hT : ∀ w, Q w → Q (rt_tick a n nl z lk w)) (N : Nat) (hN : N < 2 ^ 31) (d : Nat) : ∀ (c f : Int32) (w : am_iv) (x : Option am_V), Q w → d ≤ N → am_W l mX12_turnsIn (am_rm 42 0 0) (am_ret (some (am_I (tf (rt_tick a n nl z lk) (fun w => rm_front (fun r => rf w (31, a, 0) r) n) d c f w).1)) kd rv (tf (rt_tick a n nl z lk) (fun w => rm_front (fun r => rf w (31, a, 0) r) n) d c f w).2) 11 [some (am_P (30, 0, 0)), some (am_P (31, a, 0)), some (am_I (nI N)), some (am_I c), some (am_I f), some (am_I (nI (N - d))), x] [] kd rv w 0 0 := by
  induction d with
  | zero =>
    intro c f w x hq hd
    refine A_iload (pc := 11) (i := 5) dX12_turnsIn_11 rfl ?_
    refine A_iload_n (pc := 13) (i := 2) dX12_turnsIn_13 rfl rfl ?_
    refine A_icmpge (pc := 14) 68 dX12_turnsIn_14 (by decide) (fun hb14 => ?_) (fun hb14 => ?_)
    · refine A_iload_n (pc := 68) (i := 3) dX12_turnsIn_68 rfl rfl ?_
      exact A_iretE (pc := 69) dX12_turnsIn_69 rfl (Nat.zero_le _) (Nat.zero_le _) (rfl) (rfl)
    · exact absurd (nI_le (Nat.le_refl N) hN) hb14
  | succ d ih =>
    intro c f w x hq hd
    have hq2 := hT w hq
    refine A_iload (pc := 11) (i := 5) dX12_turnsIn_11 rfl ?_
    refine A_iload_n (pc := 13) (i := 2) dX12_turnsIn_13 rfl rfl ?_
    refine A_icmpge (pc := 14) 68 dX12_turnsIn_14 (by decide) (fun hb14 => ?_) (fun hb14 => ?_)
    · exact absurd hb14 (nI_nge (by omega) hN)
    · refine A_iload (pc := 17) (i := 4) dX12_turnsIn_17 rfl ?_
      refine A_iflt (pc := 19) 68 dX12_turnsIn_19 (by decide) (fun hb19 => ?_) (fun hb19 => ?_)
      · refine A_iload_n (pc := 68) (i := 3) dX12_turnsIn_68 rfl rfl ?_
        exact A_iretE (pc := 69) dX12_turnsIn_69 rfl (Nat.zero_le _) (Nat.zero_le _) (by rw [tf, if_pos hb19]) (by rw [tf, if_pos hb19])
      · refine A_aload_n (pc := 22) (i := 0) dX12_turnsIn_22 rfl rfl ?_
        refine A_aload_n (pc := 23) (i := 1) dX12_turnsIn_23 rfl rfl ?_
        refine A_callV0 (pc := 24) cv_X12_224 (r_goesBy l hR a ha hm n nl z lk (hQ w hq)) hR.1 rfl rfl rfl rfl (Nat.le_of_ble_eq_true rfl) ⟨(Nat.le_of_ble_eq_true rfl), (Nat.le_of_ble_eq_true rfl)⟩ ⟨Nat.zero_le _, Nat.zero_le _⟩ dX12_turnsIn_24 ?_
        refine A_aload_n (pc := 27) (i := 1) dX12_turnsIn_27 rfl rfl ?_
        refine A_callS1 (pc := 28) cs_X12_234 (r_frontOf l (31, a, 0) hm n (hQ _ hq2).1 (hQ _ hq2).2.1 (r7_pre (hQ _ hq2))) rfl rfl (Nat.le_of_ble_eq_true rfl) ⟨(Nat.le_of_ble_eq_true rfl), (Nat.le_of_ble_eq_true rfl)⟩ ⟨Nat.zero_le _, Nat.zero_le _⟩ dX12_turnsIn_28 ?_
        refine A_ist6 (pc := 31) dX12_turnsIn_31 (Nat.le_of_ble_eq_true rfl) rfl ?_
        refine A_iload_n (pc := 33) (i := 3) dX12_turnsIn_33 rfl rfl ?_
        refine A_iload (pc := 34) (i := 4) dX12_turnsIn_34 rfl ?_
        refine A_iflt (pc := 36) 55 dX12_turnsIn_36 (by decide) (fun hb36 => ?_) (fun hb36 => ?_)
        · exact absurd hb36 hb19
        · refine A_iload (pc := 39) (i := 6) dX12_turnsIn_39 rfl ?_
          refine A_iflt (pc := 41) 55 dX12_turnsIn_41 (by decide) (fun hb41 => ?_) (fun hb41 => ?_)
          · refine A_iconst (pc := 55) (0) dX12_turnsIn_55 (by decide) ?_
            refine A_iadd (pc := 56) dX12_turnsIn_56 ?_
            refine A_ist3 (pc := 57) dX12_turnsIn_57 (Nat.le_of_ble_eq_true rfl) rfl ?_
            refine A_iload (pc := 58) (i := 6) dX12_turnsIn_58 rfl ?_
            refine A_ist4 (pc := 60) dX12_turnsIn_60 (Nat.le_of_ble_eq_true rfl) rfl ?_
            refine A_inc5 (pc := 62) (nI (N - d)) dX12_turnsIn_62 (nI_sub1 hd) (Nat.le_of_ble_eq_true rfl) rfl ?_
            refine A_goto (pc := 65) 11 dX12_turnsIn_65 (by decide) ?_
            rw [tf, if_neg hb19, if_neg (fun h => h.1 hb41)]
            exact ih _ _ _ _ hq2 (by omega)
          · refine A_iload (pc := 44) (i := 6) dX12_turnsIn_44 rfl ?_
            refine A_iload (pc := 46) (i := 4) dX12_turnsIn_46 rfl ?_
            refine A_icmpeq (pc := 48) 55 dX12_turnsIn_48 (by decide) (fun hb48 => ?_) (fun hb48 => ?_)
            · refine A_iconst (pc := 55) (0) dX12_turnsIn_55 (by decide) ?_
              refine A_iadd (pc := 56) dX12_turnsIn_56 ?_
              refine A_ist3 (pc := 57) dX12_turnsIn_57 (Nat.le_of_ble_eq_true rfl) rfl ?_
              refine A_iload (pc := 58) (i := 6) dX12_turnsIn_58 rfl ?_
              refine A_ist4 (pc := 60) dX12_turnsIn_60 (Nat.le_of_ble_eq_true rfl) rfl ?_
              refine A_inc5 (pc := 62) (nI (N - d)) dX12_turnsIn_62 (nI_sub1 hd) (Nat.le_of_ble_eq_true rfl) rfl ?_
              refine A_goto (pc := 65) 11 dX12_turnsIn_65 (by decide) ?_
              rw [tf, if_neg hb19, if_neg (fun h => h.2 hb48)]
              exact ih _ _ _ _ hq2 (by omega)
            · refine A_iconst (pc := 51) (1) dX12_turnsIn_51 (by decide) ?_
              refine A_goto (pc := 52) 56 dX12_turnsIn_52 (by decide) ?_
              refine A_iadd (pc := 56) dX12_turnsIn_56 ?_
              refine A_ist3 (pc := 57) dX12_turnsIn_57 (Nat.le_of_ble_eq_true rfl) rfl ?_
              refine A_iload (pc := 58) (i := 6) dX12_turnsIn_58 rfl ?_
              refine A_ist4 (pc := 60) dX12_turnsIn_60 (Nat.le_of_ble_eq_true rfl) rfl ?_
              refine A_inc5 (pc := 62) (nI (N - d)) dX12_turnsIn_62 (nI_sub1 hd) (Nat.le_of_ble_eq_true rfl) rfl ?_
              refine A_goto (pc := 65) 11 dX12_turnsIn_65 (by decide) ?_
              rw [tf, if_neg hb19, if_pos ⟨hb41, hb48⟩]
              exact ih _ _ _ _ hq2 (by omega)
set_option maxRecDepth 20000 in
theorem r_turnsIn (l : Launch) {kd : am_kd} {rv : am_rv} {iv : am_iv} (hR : shr kd rv) (a : Nat) (ha : a < 3) (hm : kd (31, a, 0) = some (.inr (0, 300))) (n nl z : Nat) (lk : Nat → Nat) (Q : am_iv → Prop) (hQ : ∀ w, Q w → rt_pre w a n nl z lk) (hT : ∀ w, Q w → Q (rt_tick a n nl z lk w)) (hq2 : Q iv) (N : Nat) (hN : N < 2 ^ 31) : am_Met l mX12_turnsIn (am_rm 42 0 0) [am_P (30, 0, 0), am_P (31, a, 0), am_I (nI N)] kd rv iv (am_ret (some (am_I (tf (rt_tick a n nl z lk) (fun w => rm_front (fun r => rf w (31, a, 0) r) n) N 0 (rm_front (fun r => rf iv (31, a, 0) r) n) iv).1)) kd rv (tf (rt_tick a n nl z lk) (fun w => rm_front (fun r => rf w (31, a, 0) r) n) N 0 (rm_front (fun r => rf iv (31, a, 0) r) n) iv).2) := by
  refine am_Met.of (by decide) (Nat.le_of_ble_eq_true rfl) rfl ?_
  refine A_iconst (pc := 0) (0) dX12_turnsIn_0 (by decide) ?_
  refine A_ist3 (pc := 1) dX12_turnsIn_1 (Nat.le_of_ble_eq_true rfl) rfl ?_
  refine A_aload_n (pc := 2) (i := 1) dX12_turnsIn_2 rfl rfl ?_
  refine A_callS1 (pc := 3) cs_X12_234 (r_frontOf l (31, a, 0) hm n (hQ _ hq2).1 (hQ _ hq2).2.1 (r7_pre (hQ _ hq2))) rfl rfl (Nat.le_of_ble_eq_true rfl) ⟨(Nat.le_of_ble_eq_true rfl), (Nat.le_of_ble_eq_true rfl)⟩ ⟨Nat.zero_le _, Nat.zero_le _⟩ dX12_turnsIn_3 ?_
  refine A_ist4 (pc := 6) dX12_turnsIn_6 (Nat.le_of_ble_eq_true rfl) rfl ?_
  refine A_iconst (pc := 8) (0) dX12_turnsIn_8 (by decide) ?_
  refine A_ist5 (pc := 9) dX12_turnsIn_9 (Nat.le_of_ble_eq_true rfl) rfl ?_
  have h0 := tf_loop l hR a ha hm n nl z lk Q hQ hT N hN N 0 (rm_front (fun r => rf iv (31, a, 0) r) n) iv none hq2 (Nat.le_refl N)
  rw [Nat.sub_self] at h0
  exact h0
set_option maxRecDepth 20000 in
theorem fi_loop (l : Launch) {kd : am_kd} {rv : am_rv} (hR : shr kd rv) (a : Nat) (ha : a < 3) (hm : kd (31, a, 0) = some (.inr (0, 300))) (n nl z : Nat) (lk : Nat → Nat) (Q : am_iv → Prop) (hQ : ∀ w, Q w → rt_pre w a n nl z lk) (hT : ∀ w, Q w → Q (rt_tick a n nl z lk w)) (N : Nat) (hN : N < 1000) (r : Nat) (hr : r < 8) (d : Nat) : ∀ (g : Int32) (w : am_iv), Q w → d ≤ N → am_W l mX12_farIn (am_rm 42 0 0) (am_ret (some (am_I (fi (rt_tick a n nl z lk) (31, a, 0) r d g w).1)) kd rv (fi (rt_tick a n nl z lk) (31, a, 0) r d g w).2) 7 [some (am_P (30, 0, 0)), some (am_P (31, a, 0)), some (am_I (nI N)), some (am_I (nI r)), some (am_I g), some (am_I (nI (N - d)))] [] kd rv w 0 0 := by
  induction d with
  | zero =>
    intro g w hq hd
    rw [fi]
    refine A_iload (pc := 7) (i := 5) dX12_farIn_7 rfl ?_
    refine A_iload_n (pc := 9) (i := 2) dX12_farIn_9 rfl rfl ?_
    refine A_icmpgt (pc := 10) 62 dX12_farIn_10 (by decide) (fun hb10 => ?_) (fun hb10 => ?_)
    · exact absurd hb10 (by rw [fa_lt, nI_toInt (by omega), nI_toInt (by omega)]; omega)
    · refine A_aload_n (pc := 13) (i := 1) dX12_farIn_13 rfl rfl ?_
      refine A_iload_n (pc := 14) (i := 3) dX12_farIn_14 rfl rfl ?_
      refine A_callS1 (pc := 15) cs_X12_209 (r_isWhole l (31, a, 0) hm r hr) rfl rfl (Nat.le_of_ble_eq_true rfl) ⟨(Nat.le_of_ble_eq_true rfl), (Nat.le_of_ble_eq_true rfl)⟩ ⟨Nat.zero_le _, Nat.zero_le _⟩ dX12_farIn_15 ?_
      refine A_ifeq (pc := 18) 62 dX12_farIn_18 (by decide) (fun hb18 => ?_) (fun hb18 => ?_)
      · refine A_iload (pc := 62) (i := 4) dX12_farIn_62 rfl ?_
        exact A_iretE (pc := 64) dX12_farIn_64 rfl (Nat.zero_le _) (Nat.zero_le _) (by rw [if_neg ((sr_b_0 _).mp hb18)]) (by rw [if_neg ((sr_b_0 _).mp hb18)])
      · refine A_aload_n (pc := 21) (i := 1) dX12_farIn_21 rfl rfl ?_
        refine A_iload_n (pc := 22) (i := 3) dX12_farIn_22 rfl rfl ?_
        refine A_iconst (pc := 23) (0) dX12_farIn_23 (by decide) ?_
        refine A_callS1 (pc := 24) cs_X12_73 (r_of l (31, a, 0) hm r hr 0 1 rfl (by decide)) rfl rfl (Nat.le_of_ble_eq_true rfl) ⟨(Nat.le_of_ble_eq_true rfl), (Nat.le_of_ble_eq_true rfl)⟩ ⟨Nat.zero_le _, Nat.zero_le _⟩ dX12_farIn_24 ?_
        refine A_iload (pc := 27) (i := 4) dX12_farIn_27 rfl ?_
        refine A_icmple (pc := 29) 41 dX12_farIn_29 (by decide) (fun hb29 => ?_) (fun hb29 => ?_)
        · refine A_iload (pc := 41) (i := 4) dX12_farIn_41 rfl ?_
          refine A_ist4 (pc := 43) dX12_farIn_43 (Nat.le_of_ble_eq_true rfl) rfl ?_
          refine A_iload (pc := 45) (i := 5) dX12_farIn_45 rfl ?_
          refine A_iload_n (pc := 47) (i := 2) dX12_farIn_47 rfl rfl ?_
          refine A_icmpge (pc := 48) 56 dX12_farIn_48 (by decide) (fun hb48 => ?_) (fun hb48 => ?_)
          · refine A_inc5 (pc := 56) (nI (N + 1)) dX12_farIn_56 (nI_1 N) (Nat.le_of_ble_eq_true rfl) rfl ?_
            refine A_goto (pc := 59) 7 dX12_farIn_59 (by decide) ?_
            rw [if_pos (Classical.not_not.mp (fun h => hb18 ((sr_b_0 _).mpr h))), if_pos hb29]
            refine A_iload (pc := 7) (i := 5) dX12_farIn_7 rfl ?_
            refine A_iload_n (pc := 9) (i := 2) dX12_farIn_9 rfl rfl ?_
            refine A_icmpgt (pc := 10) 62 dX12_farIn_10 (by decide) (fun hb10 => ?_) (fun hb10 => ?_)
            · refine A_iload (pc := 62) (i := 4) dX12_farIn_62 rfl ?_
              exact A_iretE (pc := 64) dX12_farIn_64 rfl (Nat.zero_le _) (Nat.zero_le _) (rfl) (rfl)
            · exact absurd (show nI N < nI (N + 1) by rw [fa_lt, nI_toInt (by omega), nI_toInt (by omega)]; omega) hb10
          · exact absurd (nI_le (Nat.le_refl N) (by omega)) hb48
        · refine A_aload_n (pc := 32) (i := 1) dX12_farIn_32 rfl rfl ?_
          refine A_iload_n (pc := 33) (i := 3) dX12_farIn_33 rfl rfl ?_
          refine A_iconst (pc := 34) (0) dX12_farIn_34 (by decide) ?_
          refine A_callS1 (pc := 35) cs_X12_73 (r_of l (31, a, 0) hm r hr 0 1 rfl (by decide)) rfl rfl (Nat.le_of_ble_eq_true rfl) ⟨(Nat.le_of_ble_eq_true rfl), (Nat.le_of_ble_eq_true rfl)⟩ ⟨Nat.zero_le _, Nat.zero_le _⟩ dX12_farIn_35 ?_
          refine A_goto (pc := 38) 43 dX12_farIn_38 (by decide) ?_
          refine A_ist4 (pc := 43) dX12_farIn_43 (Nat.le_of_ble_eq_true rfl) rfl ?_
          refine A_iload (pc := 45) (i := 5) dX12_farIn_45 rfl ?_
          refine A_iload_n (pc := 47) (i := 2) dX12_farIn_47 rfl rfl ?_
          refine A_icmpge (pc := 48) 56 dX12_farIn_48 (by decide) (fun hb48 => ?_) (fun hb48 => ?_)
          · refine A_inc5 (pc := 56) (nI (N + 1)) dX12_farIn_56 (nI_1 N) (Nat.le_of_ble_eq_true rfl) rfl ?_
            refine A_goto (pc := 59) 7 dX12_farIn_59 (by decide) ?_
            rw [if_pos (Classical.not_not.mp (fun h => hb18 ((sr_b_0 _).mpr h))), if_neg hb29]
            refine A_iload (pc := 7) (i := 5) dX12_farIn_7 rfl ?_
            refine A_iload_n (pc := 9) (i := 2) dX12_farIn_9 rfl rfl ?_
            refine A_icmpgt (pc := 10) 62 dX12_farIn_10 (by decide) (fun hb10 => ?_) (fun hb10 => ?_)
            · refine A_iload (pc := 62) (i := 4) dX12_farIn_62 rfl ?_
              exact A_iretE (pc := 64) dX12_farIn_64 rfl (Nat.zero_le _) (Nat.zero_le _) (rfl) (rfl)
            · exact absurd (show nI N < nI (N + 1) by rw [fa_lt, nI_toInt (by omega), nI_toInt (by omega)]; omega) hb10
          · exact absurd (nI_le (Nat.le_refl N) (by omega)) hb48
  | succ d ih =>
    intro g w hq hd
    rw [fi]
    refine A_iload (pc := 7) (i := 5) dX12_farIn_7 rfl ?_
    refine A_iload_n (pc := 9) (i := 2) dX12_farIn_9 rfl rfl ?_
    refine A_icmpgt (pc := 10) 62 dX12_farIn_10 (by decide) (fun hb10 => ?_) (fun hb10 => ?_)
    · exact absurd hb10 (by rw [fa_lt, nI_toInt (by omega), nI_toInt (by omega)]; omega)
    · refine A_aload_n (pc := 13) (i := 1) dX12_farIn_13 rfl rfl ?_
      refine A_iload_n (pc := 14) (i := 3) dX12_farIn_14 rfl rfl ?_
      refine A_callS1 (pc := 15) cs_X12_209 (r_isWhole l (31, a, 0) hm r hr) rfl rfl (Nat.le_of_ble_eq_true rfl) ⟨(Nat.le_of_ble_eq_true rfl), (Nat.le_of_ble_eq_true rfl)⟩ ⟨Nat.zero_le _, Nat.zero_le _⟩ dX12_farIn_15 ?_
      refine A_ifeq (pc := 18) 62 dX12_farIn_18 (by decide) (fun hb18 => ?_) (fun hb18 => ?_)
      · refine A_iload (pc := 62) (i := 4) dX12_farIn_62 rfl ?_
        exact A_iretE (pc := 64) dX12_farIn_64 rfl (Nat.zero_le _) (Nat.zero_le _) (by rw [if_neg ((sr_b_0 _).mp hb18)]) (by rw [if_neg ((sr_b_0 _).mp hb18)])
      · refine A_aload_n (pc := 21) (i := 1) dX12_farIn_21 rfl rfl ?_
        refine A_iload_n (pc := 22) (i := 3) dX12_farIn_22 rfl rfl ?_
        refine A_iconst (pc := 23) (0) dX12_farIn_23 (by decide) ?_
        refine A_callS1 (pc := 24) cs_X12_73 (r_of l (31, a, 0) hm r hr 0 1 rfl (by decide)) rfl rfl (Nat.le_of_ble_eq_true rfl) ⟨(Nat.le_of_ble_eq_true rfl), (Nat.le_of_ble_eq_true rfl)⟩ ⟨Nat.zero_le _, Nat.zero_le _⟩ dX12_farIn_24 ?_
        refine A_iload (pc := 27) (i := 4) dX12_farIn_27 rfl ?_
        refine A_icmple (pc := 29) 41 dX12_farIn_29 (by decide) (fun hb29 => ?_) (fun hb29 => ?_)
        · refine A_iload (pc := 41) (i := 4) dX12_farIn_41 rfl ?_
          refine A_ist4 (pc := 43) dX12_farIn_43 (Nat.le_of_ble_eq_true rfl) rfl ?_
          refine A_iload (pc := 45) (i := 5) dX12_farIn_45 rfl ?_
          refine A_iload_n (pc := 47) (i := 2) dX12_farIn_47 rfl rfl ?_
          refine A_icmpge (pc := 48) 56 dX12_farIn_48 (by decide) (fun hb48 => ?_) (fun hb48 => ?_)
          · exact absurd hb48 (nI_nge (by omega) (by omega))
          · refine A_aload_n (pc := 51) (i := 0) dX12_farIn_51 rfl rfl ?_
            refine A_aload_n (pc := 52) (i := 1) dX12_farIn_52 rfl rfl ?_
            refine A_callV0 (pc := 53) cv_X12_224 (r_goesBy l hR a ha hm n nl z lk (hQ w hq)) hR.1 rfl rfl rfl rfl (Nat.le_of_ble_eq_true rfl) ⟨(Nat.le_of_ble_eq_true rfl), (Nat.le_of_ble_eq_true rfl)⟩ ⟨Nat.zero_le _, Nat.zero_le _⟩ dX12_farIn_53 ?_
            refine A_inc5 (pc := 56) (nI (N - d)) dX12_farIn_56 (nI_sub1 hd) (Nat.le_of_ble_eq_true rfl) rfl ?_
            refine A_goto (pc := 59) 7 dX12_farIn_59 (by decide) ?_
            rw [if_pos (Classical.not_not.mp (fun h => hb18 ((sr_b_0 _).mpr h))), if_pos hb29]
            exact ih _ _ (hT w hq) (by omega)
        · refine A_aload_n (pc := 32) (i := 1) dX12_farIn_32 rfl rfl ?_
          refine A_iload_n (pc := 33) (i := 3) dX12_farIn_33 rfl rfl ?_
          refine A_iconst (pc := 34) (0) dX12_farIn_34 (by decide) ?_
          refine A_callS1 (pc := 35) cs_X12_73 (r_of l (31, a, 0) hm r hr 0 1 rfl (by decide)) rfl rfl (Nat.le_of_ble_eq_true rfl) ⟨(Nat.le_of_ble_eq_true rfl), (Nat.le_of_ble_eq_true rfl)⟩ ⟨Nat.zero_le _, Nat.zero_le _⟩ dX12_farIn_35 ?_
          refine A_goto (pc := 38) 43 dX12_farIn_38 (by decide) ?_
          refine A_ist4 (pc := 43) dX12_farIn_43 (Nat.le_of_ble_eq_true rfl) rfl ?_
          refine A_iload (pc := 45) (i := 5) dX12_farIn_45 rfl ?_
          refine A_iload_n (pc := 47) (i := 2) dX12_farIn_47 rfl rfl ?_
          refine A_icmpge (pc := 48) 56 dX12_farIn_48 (by decide) (fun hb48 => ?_) (fun hb48 => ?_)
          · exact absurd hb48 (nI_nge (by omega) (by omega))
          · refine A_aload_n (pc := 51) (i := 0) dX12_farIn_51 rfl rfl ?_
            refine A_aload_n (pc := 52) (i := 1) dX12_farIn_52 rfl rfl ?_
            refine A_callV0 (pc := 53) cv_X12_224 (r_goesBy l hR a ha hm n nl z lk (hQ w hq)) hR.1 rfl rfl rfl rfl (Nat.le_of_ble_eq_true rfl) ⟨(Nat.le_of_ble_eq_true rfl), (Nat.le_of_ble_eq_true rfl)⟩ ⟨Nat.zero_le _, Nat.zero_le _⟩ dX12_farIn_53 ?_
            refine A_inc5 (pc := 56) (nI (N - d)) dX12_farIn_56 (nI_sub1 hd) (Nat.le_of_ble_eq_true rfl) rfl ?_
            refine A_goto (pc := 59) 7 dX12_farIn_59 (by decide) ?_
            rw [if_pos (Classical.not_not.mp (fun h => hb18 ((sr_b_0 _).mpr h))), if_neg hb29]
            exact ih _ _ (hT w hq) (by omega)
set_option maxRecDepth 20000 in
theorem r_farIn (l : Launch) {kd : am_kd} {rv : am_rv} {iv : am_iv} (hR : shr kd rv) (a : Nat) (ha : a < 3) (hm : kd (31, a, 0) = some (.inr (0, 300))) (n nl z : Nat) (lk : Nat → Nat) (Q : am_iv → Prop) (hQ : ∀ w, Q w → rt_pre w a n nl z lk) (hT : ∀ w, Q w → Q (rt_tick a n nl z lk w)) (hq : Q iv) (N : Nat) (hN : N < 1000) (r : Nat) (hr : r < 8) : am_Met l mX12_farIn (am_rm 42 0 0) [am_P (30, 0, 0), am_P (31, a, 0), am_I (nI N), am_I (nI r)] kd rv iv (am_ret (some (am_I (fi (rt_tick a n nl z lk) (31, a, 0) r N (-99999) iv).1)) kd rv (fi (rt_tick a n nl z lk) (31, a, 0) r N (-99999) iv).2) := by
  refine am_Met.of (by decide) (Nat.le_of_ble_eq_true rfl) rfl ?_
  refine A_ldc (pc := 0) (List.mem_cons_of_mem _ kc_X12_213) dX12_farIn_0 ?_
  refine A_ist4 (pc := 2) dX12_farIn_2 (Nat.le_of_ble_eq_true rfl) rfl ?_
  refine A_iconst (pc := 4) (0) dX12_farIn_4 (by decide) ?_
  refine A_ist5 (pc := 5) dX12_farIn_5 (Nat.le_of_ble_eq_true rfl) rfl ?_
  have h0 := fi_loop l hR a ha hm n nl z lk Q hQ hT N hN r hr N (-99999) iv hq (Nat.le_refl N)
  rw [Nat.sub_self] at h0
  exact h0
set_option maxRecDepth 20000 in
theorem r_above (l : Launch) {kd : am_kd} {rv : am_rv} {iv : am_iv} (k : Int32) : am_Met l mX12_above (am_rm 0 0 0) [am_I k] kd rv iv (am_ret (some (am_I (if k = 4 then 3 else if k = 6 then 5 else 0))) kd rv iv) := by
  refine am_Met.of (by decide) (Nat.le_of_ble_eq_true rfl) rfl ?_
  refine A_iload_n (pc := 0) (i := 0) dX12_above_0 rfl rfl ?_
  refine A_iconst (pc := 1) (4) dX12_above_1 (by decide) ?_
  refine A_icmpne (pc := 2) 9 dX12_above_2 (by decide) (fun hb2 => ?_) (fun hb2 => ?_)
  · refine A_iload_n (pc := 9) (i := 0) dX12_above_9 rfl rfl ?_
    refine A_bipush (pc := 10) (6) dX12_above_10 (by decide) ?_
    refine A_icmpne (pc := 12) 19 dX12_above_12 (by decide) (fun hb12 => ?_) (fun hb12 => ?_)
    · refine A_iconst (pc := 19) (0) dX12_above_19 (by decide) ?_
      exact A_iretE (pc := 20) dX12_above_20 rfl (Nat.zero_le _) (Nat.zero_le _) (by simp_all) (rfl)
    · refine A_iconst (pc := 15) (5) dX12_above_15 (by decide) ?_
      refine A_goto (pc := 16) 20 dX12_above_16 (by decide) ?_
      exact A_iretE (pc := 20) dX12_above_20 rfl (Nat.zero_le _) (Nat.zero_le _) (by simp_all) (rfl)
  · refine A_iconst (pc := 5) (3) dX12_above_5 (by decide) ?_
    refine A_goto (pc := 6) 20 dX12_above_6 (by decide) ?_
    exact A_iretE (pc := 20) dX12_above_20 rfl (Nat.zero_le _) (Nat.zero_le _) (by simp_all) (rfl)
set_option maxRecDepth 20000 in
theorem r_isOf (l : Launch) {kd : am_kd} {rv : am_rv} {iv : am_iv} (o k : Int32) : am_Met l mX12_isOf (am_rm 0 0 0) [am_I o, am_I k] kd rv iv (am_ret (some (am_I (sr_b (k = 0 ∨ k = o ∨ (k = 3 ∧ o = 4) ∨ (k = 5 ∧ o = 6))))) kd rv iv) := by
  refine am_Met.of (by decide) (Nat.le_of_ble_eq_true rfl) rfl ?_
  refine A_iload_n (pc := 0) (i := 1) dX12_isOf_0 rfl rfl ?_
  refine A_ifeq (pc := 1) 30 dX12_isOf_1 (by decide) (fun hb1 => ?_) (fun hb1 => ?_)
  · refine A_iconst (pc := 30) (1) dX12_isOf_30 (by decide) ?_
    refine A_goto (pc := 31) 35 dX12_isOf_31 (by decide) ?_
    exact A_zretE (pc := 35) dX12_isOf_35 rfl (by first | exact A_zn0 | exact A_zn1 | exact A_znif _) (Nat.zero_le _) (Nat.zero_le _) (by simp_all [sr_b]) (rfl)
  · refine A_iload_n (pc := 4) (i := 1) dX12_isOf_4 rfl rfl ?_
    refine A_iload_n (pc := 5) (i := 0) dX12_isOf_5 rfl rfl ?_
    refine A_icmpeq (pc := 6) 30 dX12_isOf_6 (by decide) (fun hb6 => ?_) (fun hb6 => ?_)
    · refine A_iconst (pc := 30) (1) dX12_isOf_30 (by decide) ?_
      refine A_goto (pc := 31) 35 dX12_isOf_31 (by decide) ?_
      exact A_zretE (pc := 35) dX12_isOf_35 rfl (by first | exact A_zn0 | exact A_zn1 | exact A_znif _) (Nat.zero_le _) (Nat.zero_le _) (by simp_all [sr_b]) (rfl)
    · refine A_iload_n (pc := 9) (i := 1) dX12_isOf_9 rfl rfl ?_
      refine A_iconst (pc := 10) (3) dX12_isOf_10 (by decide) ?_
      refine A_icmpne (pc := 11) 19 dX12_isOf_11 (by decide) (fun hb11 => ?_) (fun hb11 => ?_)
      · refine A_iload_n (pc := 19) (i := 1) dX12_isOf_19 rfl rfl ?_
        refine A_iconst (pc := 20) (5) dX12_isOf_20 (by decide) ?_
        refine A_icmpne (pc := 21) 34 dX12_isOf_21 (by decide) (fun hb21 => ?_) (fun hb21 => ?_)
        · refine A_iconst (pc := 34) (0) dX12_isOf_34 (by decide) ?_
          exact A_zretE (pc := 35) dX12_isOf_35 rfl (by first | exact A_zn0 | exact A_zn1 | exact A_znif _) (Nat.zero_le _) (Nat.zero_le _) (by simp_all [sr_b]) (rfl)
        · refine A_iload_n (pc := 24) (i := 0) dX12_isOf_24 rfl rfl ?_
          refine A_bipush (pc := 25) (6) dX12_isOf_25 (by decide) ?_
          refine A_icmpne (pc := 27) 34 dX12_isOf_27 (by decide) (fun hb27 => ?_) (fun hb27 => ?_)
          · refine A_iconst (pc := 34) (0) dX12_isOf_34 (by decide) ?_
            exact A_zretE (pc := 35) dX12_isOf_35 rfl (by first | exact A_zn0 | exact A_zn1 | exact A_znif _) (Nat.zero_le _) (Nat.zero_le _) (by simp_all [sr_b]) (rfl)
          · refine A_iconst (pc := 30) (1) dX12_isOf_30 (by decide) ?_
            refine A_goto (pc := 31) 35 dX12_isOf_31 (by decide) ?_
            exact A_zretE (pc := 35) dX12_isOf_35 rfl (by first | exact A_zn0 | exact A_zn1 | exact A_znif _) (Nat.zero_le _) (Nat.zero_le _) (by simp_all [sr_b]) (rfl)
      · refine A_iload_n (pc := 14) (i := 0) dX12_isOf_14 rfl rfl ?_
        refine A_iconst (pc := 15) (4) dX12_isOf_15 (by decide) ?_
        refine A_icmpeq (pc := 16) 30 dX12_isOf_16 (by decide) (fun hb16 => ?_) (fun hb16 => ?_)
        · refine A_iconst (pc := 30) (1) dX12_isOf_30 (by decide) ?_
          refine A_goto (pc := 31) 35 dX12_isOf_31 (by decide) ?_
          exact A_zretE (pc := 35) dX12_isOf_35 rfl (by first | exact A_zn0 | exact A_zn1 | exact A_znif _) (Nat.zero_le _) (Nat.zero_le _) (by simp_all [sr_b]) (rfl)
        · refine A_iload_n (pc := 19) (i := 1) dX12_isOf_19 rfl rfl ?_
          refine A_iconst (pc := 20) (5) dX12_isOf_20 (by decide) ?_
          refine A_icmpne (pc := 21) 34 dX12_isOf_21 (by decide) (fun hb21 => ?_) (fun hb21 => ?_)
          · refine A_iconst (pc := 34) (0) dX12_isOf_34 (by decide) ?_
            exact A_zretE (pc := 35) dX12_isOf_35 rfl (by first | exact A_zn0 | exact A_zn1 | exact A_znif _) (Nat.zero_le _) (Nat.zero_le _) (by simp_all [sr_b]) (rfl)
          · refine A_iload_n (pc := 24) (i := 0) dX12_isOf_24 rfl rfl ?_
            refine A_bipush (pc := 25) (6) dX12_isOf_25 (by decide) ?_
            refine A_icmpne (pc := 27) 34 dX12_isOf_27 (by decide) (fun hb27 => ?_) (fun hb27 => ?_)
            · refine A_iconst (pc := 34) (0) dX12_isOf_34 (by decide) ?_
              exact A_zretE (pc := 35) dX12_isOf_35 rfl (by first | exact A_zn0 | exact A_zn1 | exact A_znif _) (Nat.zero_le _) (Nat.zero_le _) (by simp_all [sr_b]) (rfl)
            · refine A_iconst (pc := 30) (1) dX12_isOf_30 (by decide) ?_
              refine A_goto (pc := 31) 35 dX12_isOf_31 (by decide) ?_
              exact A_zretE (pc := 35) dX12_isOf_35 rfl (by first | exact A_zn0 | exact A_zn1 | exact A_znif _) (Nat.zero_le _) (Nat.zero_le _) (by simp_all [sr_b]) (rfl)
set_option maxRecDepth 20000 in
theorem r_own (l : Launch) {kd : am_kd} {rv : am_rv} {iv : am_iv} (hR : shr kd rv) (q : Nat) (hw : iv (30, 0, 0) 16 = nI q) (hq6 : q < 6) : am_Met l mX12_own (am_rm 0 0 0) [am_P (30, 0, 0)] kd rv iv (am_ret (some (am_I (iv (31, 0, 0) (20 + 2 * q)))) kd rv iv) := by
  refine am_Met.of (by decide) (Nat.le_of_ble_eq_true rfl) rfl ?_
  refine A_aload_n (pc := 0) (i := 0) dX12_own_0 rfl rfl ?_
  refine A_getr (pc := 1) 0 fl_X12_7_12 hR.1 rfl hR.w0 dX12_own_1 ?_
  refine A_bipush (pc := 4) (20) dX12_own_4 (by decide) ?_
  refine A_iconst (pc := 6) (2) dX12_own_6 (by decide) ?_
  refine A_aload_n (pc := 7) (i := 0) dX12_own_7 rfl rfl ?_
  refine A_geti (pc := 8) 16 fl_X12_281_12 hR.1 rfl dX12_own_8 ?_
  refine A_top hw ?_
  refine A_imul (pc := 11) dX12_own_11 ?_
  refine A_iadd (pc := 12) dX12_own_12 ?_
  refine A_top (rx_law q) ?_
  refine A_ialdN (pc := 13) hR.k0 (by omega) (by decide) dX12_own_13 ?_
  exact A_iretE (pc := 14) dX12_own_14 rfl (Nat.zero_le _) (Nat.zero_le _) (rfl) (rfl)
set_option maxRecDepth 20000 in
theorem r_toldM (l : Launch) {kd : am_kd} {rv : am_rv} {iv : am_iv} (hR : shr kd rv) (q : Nat) (hw : iv (30, 0, 0) 16 = nI q) (hq6 : q < 6) : am_Met l mX12_toldM (am_rm 0 0 0) [am_P (30, 0, 0)] kd rv iv (am_ret (some (am_I (iv (31, 0, 0) (21 + 2 * q)))) kd rv iv) := by
  refine am_Met.of (by decide) (Nat.le_of_ble_eq_true rfl) rfl ?_
  refine A_aload_n (pc := 0) (i := 0) dX12_toldM_0 rfl rfl ?_
  refine A_getr (pc := 1) 0 fl_X12_7_12 hR.1 rfl hR.w0 dX12_toldM_1 ?_
  refine A_bipush (pc := 4) (20) dX12_toldM_4 (by decide) ?_
  refine A_iconst (pc := 6) (2) dX12_toldM_6 (by decide) ?_
  refine A_aload_n (pc := 7) (i := 0) dX12_toldM_7 rfl rfl ?_
  refine A_geti (pc := 8) 16 fl_X12_281_12 hR.1 rfl dX12_toldM_8 ?_
  refine A_top hw ?_
  refine A_imul (pc := 11) dX12_toldM_11 ?_
  refine A_iadd (pc := 12) dX12_toldM_12 ?_
  refine A_iconst (pc := 13) (1) dX12_toldM_13 (by decide) ?_
  refine A_iadd (pc := 14) dX12_toldM_14 ?_
  refine A_top (rx_lawm q) ?_
  refine A_ialdN (pc := 15) hR.k0 (by omega) (by decide) dX12_toldM_15 ?_
  exact A_iretE (pc := 16) dX12_toldM_16 rfl (Nat.zero_le _) (Nat.zero_le _) (rfl) (rfl)
def rr_add (s : Nat) (v : Int32) (iv : am_iv) : am_iv := if s < 40 then am_ui (am_ui iv (31, 14, 0) s v) (30, 0, 0) 15 (nI (s + 1)) else iv
set_option maxRecDepth 20000 in
theorem r_ran (l : Launch) {kd : am_kd} {rv : am_rv} {iv : am_iv} (hR : shr kd rv) (s : Nat) (hs : iv (30, 0, 0) 15 = nI s) (hs40 : s ≤ 40) (v : Int32) : am_Met l mX12_ran (am_rm 0 0 0) [am_P (30, 0, 0), am_I v] kd rv iv (am_ret none kd rv (rr_add s v iv)) := by
  refine am_Met.of (by decide) (Nat.le_of_ble_eq_true rfl) rfl ?_
  refine A_aload_n (pc := 0) (i := 0) dX12_ran_0 rfl rfl ?_
  refine A_geti (pc := 1) 15 fl_X12_278_12 hR.1 rfl dX12_ran_1 ?_
  refine A_top hs ?_
  refine A_bipush (pc := 4) (40) dX12_ran_4 (by decide) ?_
  refine A_icmpge (pc := 6) 29 dX12_ran_6 (by decide) (fun hb6 => ?_) (fun hb6 => ?_)
  · exact A_vretE (pc := 29) dX12_ran_29 rfl (Nat.zero_le _) (Nat.zero_le _) (by rw [rr_add, if_neg (fun h => nI_nge h (by decide) hb6)])
  · have hs4 : s < 40 := by
      rcases Nat.lt_or_ge s 40 with h | h
      · exact h
      · exact absurd (show nI 40 ≤ nI s from nI_le h (by omega)) hb6
    refine A_aload_n (pc := 9) (i := 0) dX12_ran_9 rfl rfl ?_
    refine A_getr (pc := 10) 14 fl_X12_31_12 hR.1 rfl hR.w14 dX12_ran_10 ?_
    refine A_aload_n (pc := 13) (i := 0) dX12_ran_13 rfl rfl ?_
    refine A_geti (pc := 14) 15 fl_X12_278_12 hR.1 rfl dX12_ran_14 ?_
    refine A_iload_n (pc := 17) (i := 1) dX12_ran_17 rfl rfl ?_
    refine A_top2 hs ?_
    refine A_iastN (pc := 18) hR.k14 hs4 (by decide) dX12_ran_18 ?_
    refine A_aload_n (pc := 19) (i := 0) dX12_ran_19 rfl rfl ?_
    refine A_dup (pc := 20) dX12_ran_20 rfl ?_
    refine A_geti (pc := 21) 15 fl_X12_278_12 hR.1 rfl dX12_ran_21 ?_
    refine A_iconst (pc := 24) (1) dX12_ran_24 (by decide) ?_
    refine A_iadd (pc := 25) dX12_ran_25 ?_
    refine A_top (y := nI (s + 1)) (by rw [am_ui_o (by simp), hs]; exact nI_1 s) ?_
    refine A_puti (pc := 26) 15 fl_X12_278_12 hR.1 rfl (by decide +kernel) rfl rfl dX12_ran_26 ?_
    exact A_vretE (pc := 29) dX12_ran_29 rfl (Nat.zero_le _) (Nat.zero_le _) (by rw [rr_add, if_pos hs4])
