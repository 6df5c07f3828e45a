section LV
variable {u : Nat} {t : Nat → Int32} {n : Nat} {a b d : Int32}
theorem op_no {p : Nat} {cs os : List Int32} (hpn : p < n) (hc : t p = 33 ∨ t p = 40) : (lr u t n p (cs, os, nI 5, 0, 1)).1 = nI p := by
  refine lr_no hpn ?_
  unfold lstep
  rw [if_neg (show ¬ (1 : Int32) = 0 by decide)]
  unfold lopnd
  rw [if_pos hc]
  simp only
  rw [if_neg (by decide)]
theorem op_go {p o : Nat} {cs os : List Int32} (hpn : p < n) (hc : t p = 33 ∨ t p = 40) (ho : o < 5) : lr u t n p (cs, os, nI o, 0, 1) = lr u t n (p + 1) (cs, t p :: os, nI (o + 1), 0, 1) := by
  refine lr_go hpn ?_
  unfold lstep
  rw [if_neg (show ¬ (1 : Int32) = 0 by decide)]
  unfold lopnd
  rw [if_pos hc]
  simp only
  rw [← nI_succ, if_pos (show nI (o + 1) ≤ 5 from nI_le (b := 5) (by omega) (by decide))]
theorem lk40 : lk 40 = 0 := by decide
theorem lk33 : lk 33 = 6 := by decide
theorem pin_ok {D : Nat} {U : ps → Int32 × ps} (hn31 : n < 2 ^ 31) (hU : okF u t n a b d D 6 5 U) {p o : Nat} {cs os : List Int32} (hpn : p < n) (ho : o < 5) (hD : 5 ≤ o + (D + 1)) (hc : t p = 33 ∨ t p = 40) : lF u t n a b d 5 o cs os p (cs, os, nI o, 0, 1) (p + 1) (pin t n U (p, -1, o)) := by
  have e1 := op_go (u := u) (t := t) (n := n) (cs := cs) (os := os) hpn hc ho
  unfold pin
  rw [ph_at hpn]
  by_cases h40 : t p = 40
  · rw [if_pos h40]
    rw [h40] at e1
    have y := pE_ok hU (p + 1) (o + 1) cs (40 :: os) hpn (by omega) (by omega) (ltop_cons (by rw [lk40]; omega))
    simp only
    generalize pE t n U (p + 1, -1, o + 1) = z at y ⊢
    obtain ⟨w, p2, f2, o2⟩ := z
    by_cases hf : f2 < 0
    · obtain ⟨q1, q2, q3, q4, cs3, A3, o3, dg3, e3, hA3, hpk3, hsv3, hQ3⟩ := y.1 hf
      simp only at q1 q2 q3 q4 e3 hsv3 hQ3
      subst q1; subst q2
      simp only
      have elb : lab 0 (A3 ++ 40 :: os) cs3 o3 = ((lpk A3 cs3 o3).1, 40 :: os, (lpk A3 cs3 o3).2) := by
        rw [lab_pk A3 (40 :: os) cs3 o3 hA3]
        exact lab_stop (ltop_cons (by rw [lk40]; omega))
      by_cases h41 : ph t n (p2, -1, o + 1) = 41
      · rw [if_pos h41]
        have hp2 : p2 < n := ph_in (t := t) (s := (p2, -1, o + 1)) (fun e => by rw [e] at h41; exact absurd h41 (by decide))
        rw [ph_at hp2] at h41
        have hstep : lstep u (cs3, A3 ++ 40 :: os, o3, dg3, 0) (t p2) = (1, ((lpk A3 cs3 o3).1, os, nI o, 0, 0)) := by
          unfold lstep loper
          rw [if_pos rfl, h41, if_neg (by decide), if_pos rfl]
          simp only
          rw [elb]
          unfold lclose
          simp only
          rw [hpk3, nI_m1 (show 1 ≤ o + 1 by omega)]
          rfl
        refine ⟨fun _ => ⟨rfl, rfl, hp2, by simp only; omega, _, [], nI o, 0, e1.trans (e3.trans (lr_go hp2 hstep)), fun s hs => (by cases hs), rfl, hsv3, lQ5 (fun _ _ => Or.inl rfl)⟩, fun h => absurd (show (-1 : Int32) < 0 by decide) h⟩
      · rw [if_neg h41]
        unfold pw
        simp only
        rw [if_pos (show (-1 : Int32) < 0 by decide)]
        refine ⟨fun h => absurd h (nI_pos (by omega)), fun _ => ?_⟩
        rw [e1, e3]
        by_cases hp2 : p2 < n
        · rw [ph_at hp2] at h41
          rcases hQ3 hp2 with q | q | q
          · exact lr_no hp2 q
          · exact absurd q h41
          · omega
        · have ep : p2 = n := by omega
          subst ep
          rw [lr_end]
          simp only
          rw [if_neg (fun q => by
            have q2 := q.2
            unfold lend at q2
            simp only at q2
            rw [elb] at q2
            cases q2)]
    · simp only
      rw [if_neg (by rw [ph_ft hf]; decide)]
      unfold pw
      simp only
      rw [if_neg hf]
      refine ⟨fun h => absurd h hf, fun _ => ?_⟩
      rw [e1]
      exact y.2 hf
  · rw [if_neg h40]
    have h33 : t p = 33 := hc.resolve_right h40
    rw [h33] at e1
    have y := hU (p + 1) (o + 1) cs (33 :: os) hpn (by omega) (by omega) (ltop_cons (by rw [lk33]; omega))
    simp only
    generalize U (p + 1, -1, o + 1) = z at y ⊢
    obtain ⟨w, p2, f2, o2⟩ := z
    by_cases hf : f2 < 0
    · obtain ⟨q1, q2, q3, q4, cs3, A3, o3, dg3, e3, hA3, hpk3, hsv3, hQ3⟩ := y.1 hf
      simp only at q1 q2 q3 q4 e3 hsv3 hQ3
      subst q1; subst q2
      simp only
      have ea : A3 ++ 33 :: os = (A3 ++ [33]) ++ os := by rw [List.append_assoc]; rfl
      rw [ea] at e3 hQ3
      refine ⟨fun _ => ⟨rfl, rfl, q3, by simp only; omega, cs3, A3 ++ [33], o3, dg3, e1.trans e3, fun s hs => ?_, ?_, ?_, hQ3⟩, fun h => absurd (show (-1 : Int32) < 0 by decide) h⟩
      · rcases List.mem_append.mp hs with q | q
        · exact hA3 s q
        · rw [List.mem_singleton] at q; subst q; rw [lk33]; omega
      · rw [lpk_app]
        show lo1 33 (lpk A3 cs3 o3).2 = nI o
        rw [hpk3]
        unfold lo1
        rw [if_pos rfl]
        exact nI_m1 (show 1 ≤ o + 1 by omega)
      · rw [lpk_app]
        show sv_step a b d (-33) (svr a b d (lpk A3 cs3 o3).1) = _
        rw [hsv3]
        unfold sv_step sr_b
        rw [if_neg (by decide), if_neg (by decide)]
        simp only
        rw [if_pos trivial]
    · simp only
      refine ⟨fun h => absurd h hf, fun _ => ?_⟩
      rw [e1]
      exact y.2 hf
theorem pU_ok {g : Int32} {nm : Nat → Int32} (hn31 : n < 2 ^ 31) (hg : ∀ c, sx_ix u c = pnm g c) (h0 : nm 0 = a) (h1 : nm 1 = b) (h2 : nm 2 = d) (D : Nat) : okF u t n a b d D 6 5 (pU t n g nm D) := by
  have full : ∀ (p : Nat) (cs os : List Int32), (ph t n (p, -1, 5) = 33 ∨ ph t n (p, -1, 5) = 40) → lF u t n a b d 5 5 cs os p (cs, os, nI 5, 0, 1) (p + 1) (0, pw (p, -1, 5)) := by
    intro p cs os hc
    have hpn : p < n := ph_in (t := t) (s := (p, -1, 5)) (fun e => by rw [e] at hc; exact absurd hc (by decide))
    rw [ph_at hpn] at hc
    unfold pw
    simp only
    rw [if_pos (show (-1 : Int32) < 0 by decide)]
    exact ⟨fun h => absurd h (nI_pos (by omega)), fun _ => op_no hpn hc⟩
  induction D with
  | zero =>
    intro p o cs os hp ho hD ht
    have e5 : o = 5 := by omega
    subst e5
    unfold pU
    by_cases hc : ph t n (p, -1, 5) = 33 ∨ ph t n (p, -1, 5) = 40
    · rw [if_pos hc]
      exact full p cs os hc
    · rw [if_neg hc]
      exact pleaf_ok hg h0 h1 h2 hp hn31 ho hc
  | succ D ih =>
    intro p o cs os hp ho hD ht
    unfold pU
    by_cases hc : ph t n (p, -1, o) = 33 ∨ ph t n (p, -1, o) = 40
    · rw [if_pos hc]
      by_cases e5 : o = 5
      · subst e5
        rw [if_pos rfl]
        exact full p cs os hc
      · rw [if_neg e5]
        have hpn : p < n := ph_in (t := t) (s := (p, -1, o)) (fun e => by rw [e] at hc; exact absurd hc (by decide))
        rw [ph_at hpn] at hc
        exact pin_ok hn31 ih hpn (by omega) (by omega) hc
    · rw [if_neg hc]
      exact pleaf_ok hg h0 h1 h2 hp hn31 ho hc
/-- a text read by the class and by the reference -/
theorem read_alike {g : Int32} {nm : Nat → Int32} (hn31 : n < 2 ^ 31) (hg : ∀ c, sx_ix u c = pnm g c) (h0 : nm 0 = a) (h1 : nm 1 = b) (h2 : nm 2 = d) : ((pV t n g nm).2.2.1 < 0 → (lread u t n 0 ([], [], 0, 0, 1)).1 = -1 ∧ svr a b d (lread u t n 0 ([], [], 0, 0, 1)).2 = [(pV t n g nm).1]) ∧ (¬ (pV t n g nm).2.2.1 < 0 → (lread u t n 0 ([], [], 0, 0, 1)).1 = (pV t n g nm).2.2.1) := by
  have y := pE_ok (pU_ok (u := u) (t := t) (n := n) (a := a) (b := b) (d := d) hn31 hg h0 h1 h2 5) 0 0 [] [] (Nat.zero_le _) (by decide) (by decide) (fun s r e => by cases e)
  have el : lread u t n 0 ([], [], 0, 0, 1) = lr u t n 0 ([], [], nI 0, 0, 1) := rfl
  rw [el]
  unfold pV pT
  generalize pE t n (pU t n g nm 5) (0, -1, 0) = z at y ⊢
  obtain ⟨w, p2, f2, o2⟩ := z
  by_cases hf : f2 < 0
  · obtain ⟨q1, q2, q3, q4, cs3, A3, o3, dg3, e3, hA3, hpk3, hsv3, hQ3⟩ := y.1 hf
    simp only at q1 q2 q3 q4 e3 hsv3 hQ3
    subst q1; subst q2
    simp only
    have elb : lab 0 (A3 ++ []) cs3 o3 = ((lpk A3 cs3 o3).1, [], (lpk A3 cs3 o3).2) := by
      rw [lab_pk A3 [] cs3 o3 hA3]
      rfl
    by_cases hp2 : p2 < n
    · rw [if_pos ⟨by decide, hp2⟩]
      unfold pw
      simp only
      rw [if_pos (show (-1 : Int32) < 0 by decide)]
      refine ⟨fun h => absurd h (nI_pos (by omega)), fun _ => ?_⟩
      rw [e3]
      rcases hQ3 hp2 with q | q | q
      · exact lr_no hp2 q
      · refine lr_no hp2 ?_
        unfold lstep loper
        rw [if_pos rfl, q, if_neg (by decide), if_pos rfl]
        simp only
        rw [elb]
        rfl
      · omega
    · rw [if_neg (fun q => hp2 q.2)]
      have ep : p2 = n := by omega
      subst ep
      refine ⟨fun _ => ?_, fun h => absurd (show (-1 : Int32) < 0 by decide) h⟩
      rw [e3, lr_end]
      unfold lend
      simp only
      rw [elb]
      exact ⟨if_pos ⟨trivial, rfl⟩, hsv3⟩
  · simp only
    rw [if_neg (fun q => hf q.1)]
    exact ⟨fun h => absurd h hf, fun _ => y.2 hf⟩
end LV
