theorem pnm_ge {g c : Int32} (h : ¬ pnm g c < 0) : ¬ (48 ≤ c ∧ c ≤ 57) ∧ (pnm g c = 0 ∨ pnm g c = 1 ∨ pnm g c = 2) := by
  unfold pnm at *
  by_cases hg : g = 0
  · rw [if_pos hg] at *
    by_cases h1 : c = 116
    · rw [if_pos h1]; subst h1; exact ⟨by decide, Or.inl rfl⟩
    · rw [if_neg h1] at *
      by_cases h2 : c = 119
      · rw [if_pos h2]; subst h2; exact ⟨by decide, Or.inr (Or.inl rfl)⟩
      · rw [if_neg h2] at *
        by_cases h3 : c = 107
        · rw [if_pos h3]; subst h3; exact ⟨by decide, Or.inr (Or.inr rfl)⟩
        · rw [if_neg h3] at h; exact absurd (by decide) h
  · rw [if_neg hg] at *
    by_cases h1 : c = 108
    · rw [if_pos h1]; subst h1; exact ⟨by decide, Or.inl rfl⟩
    · rw [if_neg h1] at *
      by_cases h2 : c = 113
      · rw [if_pos h2]; subst h2; exact ⟨by decide, Or.inr (Or.inl rfl)⟩
      · rw [if_neg h2] at *
        by_cases h3 : c = 104
        · rw [if_pos h3]; subst h3; exact ⟨by decide, Or.inr (Or.inr rfl)⟩
        · rw [if_neg h3] at h; exact absurd (by decide) h
theorem pnm_sx {u : Nat} (hu : u < 2) (c : Int32) : sx_ix u c = pnm (if nI u = 0 then 1 else 0) c := by
  match u, hu with
  | 0, _ =>
    rw [if_pos (by decide)]
    unfold pnm sx_ix
    rw [if_neg (show ¬ (1 : Int32) = 0 by decide)]
    rfl
  | 1, _ =>
    rw [if_neg (by decide)]
    unfold pnm sx_ix
    rw [if_pos (show (0 : Int32) = 0 from rfl)]
    rfl
section LU
variable {u : Nat} {t : Nat → Int32} {n : Nat} {a b d : Int32}
theorem lQ5 {cs os : List Int32} {o dg : Int32} {p : Nat} (h : p < n → 48 ≤ t p ∧ t p ≤ 57 → dg = 0 ∨ 4 ≤ dg) : lQ u t n 5 p (cs, os, o, dg, 0) := by
  intro hp
  by_cases hd : 48 ≤ t p ∧ t p ≤ 57
  · left
    unfold lstep loper
    rw [if_pos rfl, if_pos hd]
    unfold ldig
    cases cs with
    | nil => rfl
    | cons x r =>
      simp only
      rw [if_pos (h hp hd)]
  · by_cases h41 : t p = 41
    · exact Or.inr (Or.inl h41)
    · by_cases h0 : lk (t p) = 0 ∨ t p = 33
      · left
        unfold lstep loper
        rw [if_pos rfl, if_neg hd, if_neg h41, if_pos h0]
      · refine Or.inr (Or.inr ⟨by have : lk (t p) ≠ 0 := fun e => h0 (Or.inl e); omega, ?_⟩)
        have h6 := lk_le (t p)
        rcases Nat.lt_or_ge 5 (lk (t p)) with q | q
        · exfalso
          have e6 : lk (t p) = 6 := by omega
          refine h0 (Or.inr ?_)
          unfold lk at e6
          by_cases a1 : t p = 124
          · rw [if_pos a1] at e6; omega
          rw [if_neg a1] at e6
          by_cases a2 : t p = 38
          · rw [if_pos a2] at e6; omega
          rw [if_neg a2] at e6
          by_cases a3 : t p = 60 ∨ t p = 61 ∨ t p = 62
          · rw [if_pos a3] at e6; omega
          rw [if_neg a3] at e6
          by_cases a4 : t p = 43 ∨ t p = 45
          · rw [if_pos a4] at e6; omega
          rw [if_neg a4] at e6
          by_cases a5 : t p = 42 ∨ t p = 47 ∨ t p = 37
          · rw [if_pos a5] at e6; omega
          rw [if_neg a5] at e6
          by_cases a6 : t p = 33
          · exact a6
          · rw [if_neg a6] at e6; omega
        · exact q
theorem dig_n {g : Int32} (h : 48 ≤ g ∧ g ≤ 57) : ∃ m : Nat, m ≤ 9 ∧ g = nI (m + 48) := by
  obtain ⟨k, hk, rfl⟩ := sx_n (c := g) (Int32.le_trans (by decide) h.1) (Int32.le_trans h.2 (by decide))
  have h1 : ¬ k < 48 := fun q => absurd h.1 (nI_ge (a := k) (b := 48) q (by decide))
  have h2 : ¬ 57 < k := fun q => absurd h.2 (nI_ge (a := 57) (b := k) q (by omega))
  exact ⟨k - 48, by omega, by rw [show k - 48 + 48 = k by omega]⟩
theorem dig_v (m q : Nat) : 10 * nI m + nI (q + 48) - 48 = nI (10 * m + q) := by
  have e1 : nI (10 * m + q) = 10 * nI m + nI q := by
    show Int32.ofNat (10 * m + q) = _
    rw [Int32.ofNat_add, Int32.ofNat_mul]
    rfl
  have e2 : nI (q + 48) = nI q + 48 := by
    show Int32.ofNat (q + 48) = _
    rw [Int32.ofNat_add]
    rfl
  rw [e1, e2, ← Int32.add_assoc, Int32.add_sub_cancel]
theorem pd_ok {cs os : List Int32} {o : Nat} : ∀ (k j : Nat) (v : Int32) (p : Nat), j + k = 4 → 1 ≤ j → p ≤ n → (∃ m, m < 10 ^ j ∧ v = nI m) → ∃ j', lr u t n p (v :: cs, os, nI o, nI j, 0) = lr u t n (pd t n (-1) o k v p).2 ((pd t n (-1) o k v p).1 :: cs, os, nI o, nI j', 0) ∧ p ≤ (pd t n (-1) o k v p).2 ∧ (pd t n (-1) o k v p).2 ≤ n ∧ (∃ m, m < 10000 ∧ (pd t n (-1) o k v p).1 = nI m) ∧ ((pd t n (-1) o k v p).2 < n → 48 ≤ t (pd t n (-1) o k v p).2 ∧ t (pd t n (-1) o k v p).2 ≤ 57 → (nI j' = 0 ∨ (4 : Int32) ≤ nI j')) := by
  intro k
  induction k with
  | zero =>
    intro j v p hj h1 hp hv
    have e4 : j = 4 := by omega
    subst e4
    obtain ⟨m, hm, rfl⟩ := hv
    exact ⟨4, rfl, Nat.le_refl _, hp, ⟨m, by simpa using hm, rfl⟩, fun _ _ => Or.inr (by decide)⟩
  | succ k ih =>
    intro j v p hj h1 hp hv
    unfold pd
    by_cases hd : 48 ≤ ph t n (p, -1, o) ∧ ph t n (p, -1, o) ≤ 57
    · rw [if_pos hd]
      have hpn : p < n := ph_in (t := t) (s := (p, -1, o)) (fun e => by rw [e] at hd; exact absurd hd (by decide))
      rw [ph_at hpn] at *
      obtain ⟨m, hm, rfl⟩ := hv
      obtain ⟨q, hq, eg⟩ := dig_n hd
      have e5 : j ≤ 3 := by omega
      have hstep : lstep u (nI m :: cs, os, nI o, nI j, 0) (t p) = (1, ((10 * nI m + t p - 48) :: cs, os, nI o, nI (j + 1), 0)) := by
        unfold lstep loper
        rw [if_pos rfl, if_pos hd]
        unfold ldig
        simp only
        rw [if_neg (fun z => z.elim (fun z => absurd ((nI_lit (a := j) (c := 0) (by omega) (by decide)).mp z) (by omega)) (fun z => absurd z (nI_ge (a := j) (b := 4) (by omega) (by decide)))), Int32.mul_comm, nI_succ]
      obtain ⟨j', z1, z2, z3, z4, z5⟩ := ih (j + 1) (10 * nI m + t p - 48) (p + 1) (by omega) (by omega) hpn ⟨10 * m + q, by rw [Nat.pow_succ]; omega, by rw [eg]; exact dig_v m q⟩
      exact ⟨j', (lr_go hpn hstep).trans z1, by omega, z3, z4, z5⟩
    · rw [if_neg hd]
      obtain ⟨m, hm, rfl⟩ := hv
      refine ⟨j, rfl, Nat.le_refl _, hp, ⟨m, Nat.lt_of_lt_of_le hm (Nat.le_trans (Nat.pow_le_pow_right (by decide) (show j ≤ 4 by omega)) (by decide)), rfl⟩, fun hpn z => ?_⟩
      rw [ph_at hpn] at hd
      exact absurd z hd
theorem pleaf_ok {g : Int32} {nm : Nat → Int32} (hg : ∀ c, sx_ix u c = pnm g c) (h0 : nm 0 = a) (h1 : nm 1 = b) (h2 : nm 2 = d) {p o : Nat} {cs os : List Int32} (hp : p ≤ n) (hn31 : n < 2 ^ 31) (ho : o ≤ 5) (hc : ¬ (ph t n (p, -1, o) = 33 ∨ ph t n (p, -1, o) = 40)) : lF u t n a b d 5 o cs os p (cs, os, nI o, 0, 1) (p + 1) (pleaf t n g nm (p, -1, o)) := by
  unfold pleaf
  by_cases hpn : p < n
  · rw [ph_at hpn] at *
    by_cases hn : pnm g (t p) < 0
    · rw [if_pos hn]
      by_cases hd : 48 ≤ t p ∧ t p ≤ 57
      · have ed : pd t n (-1) o 4 0 p = pd t n (-1) o 3 (10 * 0 + t p - 48) (p + 1) := by
          show (if 48 ≤ ph t n (p, -1, o) ∧ ph t n (p, -1, o) ≤ 57 then pd t n (-1) o 3 (10 * 0 + ph t n (p, -1, o) - 48) (p + 1) else (0, p)) = _
          rw [ph_at hpn, if_pos hd]
        obtain ⟨q, hq, eg⟩ := dig_n hd
        have ev : 10 * 0 + t p - 48 = nI q := by
          rw [eg]
          have := dig_v 0 q
          rw [Nat.mul_zero, Nat.zero_add] at this
          exact this
        have e48 : t p - 48 = nI q := by
          rw [← ev]
          rw [show (10 : Int32) * 0 = 0 by decide, Int32.zero_add]
        have hstep : lstep u (cs, os, nI o, 0, 1) (t p) = (1, (nI q :: cs, os, nI o, nI 1, 0)) := by
          unfold lstep
          rw [if_neg (show ¬ (1 : Int32) = 0 by decide)]
          unfold lopnd
          rw [if_neg hc, if_pos hd]
          simp only
          rw [e48]
          rfl
        obtain ⟨j', z1, z2, z3, ⟨m, hm, z4⟩, z5⟩ := pd_ok (u := u) (t := t) (n := n) (cs := cs) (os := os) (o := o) 3 1 (nI q) (p + 1) rfl (by decide) hpn ⟨q, by omega, rfl⟩
        rw [ev] at ed
        unfold pnum
        simp only
        rw [ed]
        rw [if_neg (by omega)]
        refine ⟨fun _ => ⟨rfl, rfl, z3, z2, _, [], nI o, nI j', (lr_go hpn hstep).trans z1, fun s hs => (by cases hs), rfl, ?_, lQ5 z5⟩, fun h => absurd (show (-1 : Int32) < 0 by decide) h⟩
        show sv_step a b d _ (svr a b d cs) = _
        rw [z4]
        unfold sv_step
        rw [if_pos (show (0 : Int32) ≤ nI m from nI_le (a := 0) (by omega) (by omega))]
      · have ed : pd t n (-1) o 4 0 p = (0, p) := by
          show (if 48 ≤ ph t n (p, -1, o) ∧ ph t n (p, -1, o) ≤ 57 then pd t n (-1) o 3 (10 * 0 + ph t n (p, -1, o) - 48) (p + 1) else (0, p)) = _
          rw [ph_at hpn, if_neg hd]
        have hstep : (lstep u (cs, os, nI o, 0, 1) (t p)).1 = 0 := by
          unfold lstep
          rw [if_neg (show ¬ (1 : Int32) = 0 by decide)]
          unfold lopnd
          rw [if_neg hc, if_neg hd]
          simp only
          rw [hg, if_pos hn]
        unfold pnum
        simp only
        rw [ed]
        rw [if_pos rfl]
        unfold pw
        simp only
        rw [if_pos (show (-1 : Int32) < 0 by decide)]
        exact ⟨fun h => absurd h (nI_pos (by omega)), fun _ => lr_no hpn hstep⟩
    · rw [if_neg hn]
      obtain ⟨hd, hv⟩ := pnm_ge hn
      have hstep : lstep u (cs, os, nI o, 0, 1) (t p) = (1, ((-1 - pnm g (t p)) :: cs, os, nI o, 0, 0)) := by
        unfold lstep
        rw [if_neg (show ¬ (1 : Int32) = 0 by decide)]
        unfold lopnd
        rw [if_neg hc, if_neg hd]
        simp only
        rw [hg, if_neg hn]
      refine ⟨fun _ => ⟨rfl, rfl, hpn, Nat.le_refl _, _, [], nI o, 0, lr_go hpn hstep, fun s hs => (by cases hs), rfl, ?_, lQ5 (fun _ _ => Or.inl rfl)⟩, fun h => absurd (show (-1 : Int32) < 0 by decide) h⟩
      show sv_step a b d (-1 - pnm g (t p)) (svr a b d cs) = nm (pnm g (t p)).toNatClampNeg :: _
      rcases hv with e | e | e
      · rw [e, show ((0 : Int32)).toNatClampNeg = 0 by decide, h0]
        unfold sv_step
        rw [if_neg (by decide), if_pos (by decide), if_pos (by decide)]
      · rw [e, show ((1 : Int32)).toNatClampNeg = 1 by decide, h1]
        unfold sv_step
        rw [if_neg (by decide), if_pos (by decide), if_neg (by decide), if_pos (by decide)]
      · rw [e, show ((2 : Int32)).toNatClampNeg = 2 by decide, h2]
        unfold sv_step
        rw [if_neg (by decide), if_pos (by decide), if_neg (by decide), if_neg (by decide)]
  · have epn : p = n := by omega
    have em : ph t n (p, -1, o) = -1 := ph_out (by show n ≤ p; omega)
    rw [em, pnm_neg, if_pos (by decide)]
    have ed : pd t n (-1) o 4 0 p = (0, p) := by
      show (if 48 ≤ ph t n (p, -1, o) ∧ ph t n (p, -1, o) ≤ 57 then pd t n (-1) o 3 (10 * 0 + ph t n (p, -1, o) - 48) (p + 1) else (0, p)) = _
      rw [em, if_neg (by decide)]
    unfold pnum
    simp only
    rw [ed]
    rw [if_pos rfl]
    unfold pw
    simp only
    rw [if_pos (show (-1 : Int32) < 0 by decide)]
    refine ⟨fun h => absurd h (nI_pos (by omega)), fun _ => ?_⟩
    rw [epn, lr_end]
    simp only
    rw [if_neg (fun q => absurd q.1 (by decide))]
end LU
