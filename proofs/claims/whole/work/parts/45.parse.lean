theorem lk_mem {c : Int32} (h1 : 1 ≤ lk c) (h5 : lk c ≤ 5) : c = 124 ∨ c = 38 ∨ c = 60 ∨ c = 61 ∨ c = 62 ∨ c = 43 ∨ c = 45 ∨ c = 42 ∨ c = 47 ∨ c = 37 := by
  unfold lk at h1 h5
  by_cases a1 : c = 124
  · exact Or.inl a1
  rw [if_neg a1] at h1 h5
  by_cases a2 : c = 38
  · exact Or.inr (Or.inl a2)
  rw [if_neg a2] at h1 h5
  by_cases a3 : c = 60 ∨ c = 61 ∨ c = 62
  · rcases a3 with q | q | q
    · exact Or.inr (Or.inr (Or.inl q))
    · exact Or.inr (Or.inr (Or.inr (Or.inl q)))
    · exact Or.inr (Or.inr (Or.inr (Or.inr (Or.inl q))))
  rw [if_neg a3] at h1 h5
  by_cases a4 : c = 43 ∨ c = 45
  · rcases a4 with q | q
    · exact Or.inr (Or.inr (Or.inr (Or.inr (Or.inr (Or.inl q)))))
    · exact Or.inr (Or.inr (Or.inr (Or.inr (Or.inr (Or.inr (Or.inl q))))))
  rw [if_neg a4] at h1 h5
  by_cases a5 : c = 42 ∨ c = 47 ∨ c = 37
  · rcases a5 with q | q | q
    · exact Or.inr (Or.inr (Or.inr (Or.inr (Or.inr (Or.inr (Or.inr (Or.inl q)))))))
    · exact Or.inr (Or.inr (Or.inr (Or.inr (Or.inr (Or.inr (Or.inr (Or.inr (Or.inl q))))))))
    · exact Or.inr (Or.inr (Or.inr (Or.inr (Or.inr (Or.inr (Or.inr (Or.inr (Or.inr q))))))))
  rw [if_neg a5] at h1 h5
  by_cases a6 : c = 33
  · rw [if_pos a6] at h5; omega
  · rw [if_neg a6] at h1; omega
theorem lk_bin {c : Int32} (h1 : 1 ≤ lk c) (h5 : lk c ≤ 5) : ¬ (48 ≤ c ∧ c ≤ 57) ∧ c ≠ 41 ∧ c ≠ 33 ∧ ∀ (a b d x y : Int32) (r : List Int32), sv_step a b d (-c) (y :: x :: r) = tx_res c x y :: r := by
  rcases lk_mem h1 h5 with rfl | rfl | rfl | rfl | rfl | rfl | rfl | rfl | rfl | rfl <;> (refine ⟨by decide, by decide, by decide, fun a b d x y r => ?_⟩; unfold sv_step; rw [if_neg (by decide), if_neg (by decide)]; rfl)
theorem isM_lk (c : Int32) : isM c = true ↔ lk c = 5 := by
  unfold isM
  rw [decide_eq_true_iff]
  refine ⟨fun h => by rcases h with rfl | rfl | rfl <;> decide, fun h => ?_⟩
  rcases lk_mem (c := c) (by omega) (by omega) with rfl | rfl | rfl | rfl | rfl | rfl | rfl | rfl | rfl | rfl <;> first | exact absurd h (by decide) | decide
theorem isA_lk (c : Int32) : isA c = true ↔ lk c = 4 := by
  unfold isA
  rw [decide_eq_true_iff]
  refine ⟨fun h => by rcases h with rfl | rfl <;> decide, fun h => ?_⟩
  rcases lk_mem (c := c) (by omega) (by omega) with rfl | rfl | rfl | rfl | rfl | rfl | rfl | rfl | rfl | rfl <;> first | exact absurd h (by decide) | decide
theorem isC_lk (c : Int32) : isC c = true ↔ lk c = 3 := by
  unfold isC
  rw [decide_eq_true_iff]
  refine ⟨fun h => by rcases h with rfl | rfl | rfl <;> decide, fun h => ?_⟩
  rcases lk_mem (c := c) (by omega) (by omega) with rfl | rfl | rfl | rfl | rfl | rfl | rfl | rfl | rfl | rfl <;> first | exact absurd h (by decide) | decide
theorem isN_lk (c : Int32) : isN c = true ↔ lk c = 2 := by
  unfold isN
  rw [decide_eq_true_iff]
  refine ⟨fun h => by subst h; decide, fun h => ?_⟩
  rcases lk_mem (c := c) (by omega) (by omega) with rfl | rfl | rfl | rfl | rfl | rfl | rfl | rfl | rfl | rfl <;> first | exact absurd h (by decide) | decide
theorem isO_lk (c : Int32) : isO c = true ↔ lk c = 1 := by
  unfold isO
  rw [decide_eq_true_iff]
  refine ⟨fun h => by subst h; decide, fun h => ?_⟩
  rcases lk_mem (c := c) (by omega) (by omega) with rfl | rfl | rfl | rfl | rfl | rfl | rfl | rfl | rfl | rfl <;> first | exact absurd h (by decide) | decide
theorem lk_m1 : lk (-1) = 0 := by decide
/-- the values that codes leave, the latest first -/
def svr (a b d : Int32) : List Int32 → List Int32
  | [] => []
  | x :: r => sv_step a b d x (svr a b d r)
theorem svr_run {a b d : Int32} {c : am_N} {iv : am_iv} (cs : List Int32) (h : sv_ok c iv cs) : sv_run a b d (iv c) cs.length = svr a b d cs := by
  induction cs with
  | nil => rfl
  | cons x r ih =>
    show sv_step a b d (iv c r.length) (sv_run a b d (iv c) r.length) = sv_step a b d x (svr a b d r)
    rw [h.hd, ih h.tail]
def lpk : List Int32 → List Int32 → Int32 → List Int32 × Int32
  | [], cs, o => (cs, o)
  | s :: A, cs, o => lpk A (-s :: cs) (lo1 s o)
theorem lpk_app (A B : List Int32) : ∀ (cs : List Int32) (o : Int32), lpk (A ++ B) cs o = lpk B (lpk A cs o).1 (lpk A cs o).2 := by
  induction A with
  | nil => intro cs o; rfl
  | cons s A ih => intro cs o; exact ih _ _
theorem lab_pk {r : Nat} (A B : List Int32) : ∀ (cs : List Int32) (o : Int32), (∀ s ∈ A, r < lk s) → lab r (A ++ B) cs o = lab r B (lpk A cs o).1 (lpk A cs o).2 := by
  induction A with
  | nil => intro cs o _; rfl
  | cons s A ih =>
    intro cs o h
    show (if r < lk s then lab r (A ++ B) (-s :: cs) (lo1 s o) else (cs, s :: (A ++ B), o)) = _
    rw [if_pos (h s List.mem_cons_self)]
    exact ih _ _ (fun x hx => h x (List.mem_cons_of_mem _ hx))
def ltop (m : Nat) (os : List Int32) : Prop := ∀ s r, os = s :: r → lk s ≤ m
theorem ltop.up {m m' : Nat} {os : List Int32} (h : ltop m os) (hm : m ≤ m') : ltop m' os := fun s r e => Nat.le_trans (h s r e) hm
theorem lab_stop {r : Nat} {os cs : List Int32} {o : Int32} (h : ltop r os) : lab r os cs o = (cs, os, o) := by
  cases os with
  | nil => rfl
  | cons s os =>
    show (if r < lk s then lab r os (-s :: cs) (lo1 s o) else (cs, s :: os, o)) = _
    rw [if_neg (by have := h s os rfl; omega)]
theorem ltop_cons {m : Nat} {c : Int32} {os : List Int32} (h : lk c ≤ m) : ltop m (c :: os) := fun s r e => by cases e; exact h
section LR
variable (u : Nat) (t : Nat → Int32) (n : Nat) (a b d : Int32)
def lr (i : Nat) (S : lt) : Int32 × List Int32 := lread u t (n - i) i S
def lQ (r p : Nat) (T : lt) : Prop := p < n → (lstep u T (t p)).1 = 0 ∨ t p = 41 ∨ (1 ≤ lk (t p) ∧ lk (t p) ≤ r)
def lF (r o : Nat) (cs os : List Int32) (p : Nat) (T : lt) (q : Nat) (x : Int32 × ps) : Prop :=
  (x.2.2.1 < 0 → x.2.2.1 = -1 ∧ x.2.2.2 = o ∧ x.2.1 ≤ n ∧ q ≤ x.2.1 ∧ ∃ cs' A o' dg', lr u t n p T = lr u t n x.2.1 (cs', A ++ os, o', dg', 0) ∧ (∀ s ∈ A, r < lk s) ∧ (lpk A cs' o').2 = nI o ∧ svr a b d (lpk A cs' o').1 = x.1 :: svr a b d cs ∧ lQ u t n r x.2.1 (cs', A ++ os, o', dg', 0)) ∧
  (¬ x.2.2.1 < 0 → (lr u t n p T).1 = x.2.2.1)
def okF (D m r : Nat) (F : ps → Int32 × ps) : Prop := ∀ (p o : Nat) (cs os : List Int32), p ≤ n → o ≤ 5 → 5 ≤ o + D → ltop m os → lF u t n a b d r o cs os p (cs, os, nI o, 0, 1) (p + 1) (F (p, -1, o))
end LR
section LS
variable {u : Nat} {t : Nat → Int32} {n : Nat} {a b d : Int32}
theorem lr_go {i : Nat} {S S' : lt} (h : i < n) (hs : lstep u S (t i) = (1, S')) : lr u t n i S = lr u t n (i + 1) S' := by
  unfold lr
  rw [show n - i = (n - (i + 1)) + 1 by omega]
  show (if (lstep u S (t i)).1 = 0 then (nI i, []) else lread u t (n - (i + 1)) (i + 1) (lstep u S (t i)).2) = _
  rw [hs, if_neg (show ¬ (1 : Int32) = 0 by decide)]
theorem lr_no {i : Nat} {S : lt} (h : i < n) (hs : (lstep u S (t i)).1 = 0) : (lr u t n i S).1 = nI i := by
  unfold lr
  rw [show n - i = (n - (i + 1)) + 1 by omega]
  show (if (lstep u S (t i)).1 = 0 then (nI i, []) else lread u t (n - (i + 1)) (i + 1) (lstep u S (t i)).2).1 = _
  rw [if_pos hs]
theorem lr_end {S : lt} : lr u t n n S = ((if S.2.2.2.2 = 0 ∧ (lend S).2.1 = [] then -1 else nI n), (lend S).1) := by
  unfold lr
  rw [Nat.sub_self]
  rfl
theorem lF.tr {r o : Nat} {cs os : List Int32} {p p' q q' : Nat} {T T' : lt} {x : Int32 × ps} (h : lF u t n a b d r o cs os p' T' q' x) (e : lr u t n p T = lr u t n p' T') (hq : q ≤ q') : lF u t n a b d r o cs os p T q x := by
  refine ⟨fun hf => ?_, fun hf => by rw [e]; exact h.2 hf⟩
  obtain ⟨h1, h2, h3, h4, cs', A, o', dg', h5, h6⟩ := h.1 hf
  exact ⟨h1, h2, h3, Nat.le_trans hq h4, cs', A, o', dg', e.trans h5, h6⟩
theorem ph_at {p o : Nat} (h : p < n) : ph t n (p, -1, o) = t p := by
  unfold ph
  rw [if_pos h, if_pos (show (-1 : Int32) < 0 by decide)]
theorem ph_ft {p o : Nat} {f : Int32} (h : ¬ f < 0) : ph t n (p, f, o) = -1 := by
  show (if p < n then (if f < 0 then t p else -1) else -1) = -1
  rw [if_neg h, ite_self]
theorem pl_ft {h : Int32 → Bool} {U : ps → Int32 × ps} (hh : h (-1) = false) {v f : Int32} {p o : Nat} (hf : ¬ f < 0) (k : Nat) : pl t n h U k (v, (p, f, o)) = (v, (p, f, o)) := by
  cases k with
  | zero => rfl
  | succ k =>
    unfold pl
    rw [if_neg (by rw [ph_ft hf, hh]; decide)]
theorem lstep_bin {R : Nat} {c o' dg' : Int32} {A B os cs' : List Int32} (hR1 : 1 ≤ R) (hR5 : R ≤ 5) (hc : lk c = R) (hA : ∀ s ∈ A, R < lk s) (hB : B = [] ∨ (R ≠ 3 ∧ ∃ s, B = [s] ∧ lk s = R)) (ht : ltop (R - 1) os) : lstep u (cs', A ++ (B ++ os), o', dg', 0) c = (1, ((lpk (A ++ B) cs' o').1, c :: os, (lpk (A ++ B) cs' o').2, 0, 1)) := by
  obtain ⟨h1, h2, h3, -⟩ := lk_bin (c := c) (by omega) (by omega)
  unfold lstep
  rw [if_pos rfl]
  unfold loper
  rw [if_neg h1, if_neg h2, if_neg (fun q => q.elim (fun q => by omega) h3)]
  simp only
  rw [hc, lab_pk A (B ++ os) cs' o' hA, lpk_app]
  generalize lpk A cs' o' = X
  obtain ⟨cs1, o1⟩ := X
  simp only
  rcases hB with rfl | ⟨h33, s, rfl, hs⟩
  · rw [List.nil_append, lab_stop (ht.up (by omega))]
    unfold lfin
    cases os with
    | nil => rfl
    | cons y r =>
      simp only
      rw [if_neg (by have := ht y r rfl; omega)]
      rfl
  · have e : lab R ([s] ++ os) cs1 o1 = (cs1, s :: os, o1) := lab_stop (os := s :: os) (ltop_cons (by omega))
    rw [e]
    unfold lfin
    simp only
    rw [if_pos (by omega), if_neg (by omega)]
    rfl
theorem lF_ret {R o : Nat} {v : Int32} {p : Nat} {cs0 os A B cs' : List Int32} {o' dg' : Int32} (hR1 : 1 ≤ R) (hp : p ≤ n) (hA : ∀ s ∈ A, R < lk s) (hB : B = [] ∨ (∃ s, B = [s] ∧ lk s = R)) (hpk : (lpk (A ++ B) cs' o').2 = nI o) (hsv : svr a b d (lpk (A ++ B) cs' o').1 = v :: svr a b d cs0) (hQ : lQ u t n R p (cs', A ++ (B ++ os), o', dg', 0)) (hst : p < n → lk (t p) ≠ R ∨ (lstep u (cs', A ++ (B ++ os), o', dg', 0) (t p)).1 = 0) : lF u t n a b d (R - 1) o cs0 os p (cs', A ++ (B ++ os), o', dg', 0) p (v, (p, -1, o)) := by
  refine ⟨fun _ => ⟨rfl, rfl, hp, Nat.le_refl _, cs', A ++ B, o', dg', by rw [List.append_assoc], fun s hs => ?_, hpk, hsv, fun h => ?_⟩, fun h => absurd (show (-1 : Int32) < 0 by decide) h⟩
  · rcases List.mem_append.mp hs with q | q
    · have := hA s q; omega
    · rcases hB with rfl | ⟨y, rfl, hy⟩
      · cases q
      · rw [List.mem_singleton] at q
        subst q; omega
  · rw [List.append_assoc]
    rcases hQ h with q | q | q
    · exact Or.inl q
    · exact Or.inr (Or.inl q)
    · rcases hst h with z | z
      · exact Or.inr (Or.inr ⟨q.1, by have := q.2; simp only at *; omega⟩)
      · exact Or.inl z
theorem lo1_n {s o : Int32} (h : s ≠ 33) : lo1 s o = o := if_neg h
theorem pl_ok {D m R : Nat} {h : Int32 → Bool} {U : ps → Int32 × ps} (hR1 : 1 ≤ R) (hR5 : R ≤ 5) (hR3 : R ≠ 3) (hh : ∀ c, h c = true ↔ lk c = R) (hU : okF u t n a b d D m R U) (hm : R ≤ m) : ∀ (k : Nat) (v : Int32) (p o : Nat) (cs0 os A B cs' : List Int32) (o' dg' : Int32), p ≤ n → n ≤ p + k → o ≤ 5 → 5 ≤ o + D → ltop (R - 1) os → (∀ s ∈ A, R < lk s) → (B = [] ∨ (∃ s, B = [s] ∧ lk s = R)) → (lpk (A ++ B) cs' o').2 = nI o → svr a b d (lpk (A ++ B) cs' o').1 = v :: svr a b d cs0 → lQ u t n R p (cs', A ++ (B ++ os), o', dg', 0) → lF u t n a b d (R - 1) o cs0 os p (cs', A ++ (B ++ os), o', dg', 0) p (pl t n h U k (v, (p, -1, o))) := by
  have hh1 : h (-1) = false := by
    have q : ¬ h (-1) = true := fun q => by have e := (hh (-1)).mp q; rw [lk_m1] at e; omega
    simpa using q
  intro k
  induction k with
  | zero =>
    intro v p o cs0 os A B cs' o' dg' hp hn ho hD ht hA hB hpk hsv hQ
    exact lF_ret hR1 hp hA hB hpk hsv hQ (fun z => by omega)
  | succ k ih =>
    intro v p o cs0 os A B cs' o' dg' hp hn ho hD ht hA hB hpk hsv hQ
    unfold pl
    by_cases hc : h (ph t n (p, -1, o)) = true
    · rw [if_pos hc]
      have hk := (hh _).mp hc
      have hpn : p < n := ph_in (t := t) (s := (p, -1, o)) (fun e => by rw [e, lk_m1] at hk; omega)
      simp only [ph_at hpn] at hk ⊢
      have hstep := lstep_bin (u := u) (c := t p) (o' := o') (dg' := dg') (cs' := cs') hR1 hR5 hk hA (hB.imp id (fun q => ⟨hR3, q⟩)) ht
      have e1 := lr_go hpn hstep
      rw [hpk] at e1
      have y := hU (p + 1) o (lpk (A ++ B) cs' o').1 (t p :: os) hpn ho hD (ltop_cons (by omega))
      have ep : pa (p, -1, o) = (p + 1, -1, o) := rfl
      rw [ep]
      generalize U (p + 1, -1, o) = z at y ⊢
      obtain ⟨w, p2, f2, o2⟩ := z
      by_cases hf : f2 < 0
      · obtain ⟨q1, q2, q3, q4, cs3, A3, o3, dg3, e3, hA3, hpk3, hsv3, hQ3⟩ := y.1 hf
        simp only at q1 q2 q3 q4 e3 hsv3 hQ3
        subst q1; subst q2
        obtain ⟨-, -, hn33, hsvb⟩ := lk_bin (c := t p) (by omega) (by omega)
        have r := ih (tx_res (t p) v w) p2 o2 cs0 os A3 [t p] cs3 o3 dg3 q3 (by omega) ho hD ht hA3 (Or.inr ⟨t p, rfl, hk⟩) (by
            rw [lpk_app]
            show lo1 (t p) _ = _
            rw [lo1_n hn33]; exact hpk3) (by
            rw [lpk_app]
            show sv_step a b d (-(t p)) (svr a b d (lpk A3 cs3 o3).1) = _
            rw [hsv3, hsv]; exact hsvb a b d v w _) hQ3
        exact r.tr (e1.trans e3) (by omega)
      · rw [pl_ft hh1 hf]
        refine ⟨fun q => absurd q hf, fun _ => ?_⟩
        rw [e1]
        exact y.2 hf
    · rw [if_neg hc]
      refine lF_ret hR1 hp hA hB hpk hsv hQ (fun z => Or.inl (fun e => hc ?_))
      rw [ph_at z]
      exact (hh _).mpr e
theorem lev_ok {D m R : Nat} {h : Int32 → Bool} {U : ps → Int32 × ps} (hR1 : 1 ≤ R) (hR5 : R ≤ 5) (hR3 : R ≠ 3) (hh : ∀ c, h c = true ↔ lk c = R) (hU : okF u t n a b d D m R U) (hm : R ≤ m) : okF u t n a b d D (R - 1) (R - 1) (fun s => pl t n h U n (U s)) := by
  intro p o cs os hp ho hD ht
  have y := hU p o cs os hp ho hD (ht.up (by omega))
  show lF u t n a b d (R - 1) o cs os p (cs, os, nI o, 0, 1) (p + 1) (pl t n h U n (U (p, -1, o)))
  generalize U (p, -1, o) = z at y ⊢
  obtain ⟨w, p2, f2, o2⟩ := z
  by_cases hf : f2 < 0
  · obtain ⟨q1, q2, q3, q4, cs3, A3, o3, dg3, e3, hA3, hpk3, hsv3, hQ3⟩ := y.1 hf
    simp only at q1 q2 q3 q4 e3 hsv3 hQ3
    subst q1; subst q2
    have r := pl_ok hR1 hR5 hR3 hh hU hm n w p2 o2 cs os A3 [] cs3 o3 dg3 q3 (by omega) ho hD ht hA3 (Or.inl rfl) (by rw [List.append_nil]; exact hpk3) (by rw [List.append_nil]; exact hsv3) hQ3
    refine ⟨fun q => ?_, fun q => by rw [e3]; exact r.2 q⟩
    obtain ⟨h1, h2, h3, h4, cs', A, o', dg', h5, h6⟩ := r.1 q
    exact ⟨h1, h2, h3, by omega, cs', A, o', dg', e3.trans h5, h6⟩
  · have hh1 : h (-1) = false := by
      have q : ¬ h (-1) = true := fun q => by have e := (hh (-1)).mp q; rw [lk_m1] at e; omega
      simpa using q
    rw [pl_ft hh1 hf]
    exact ⟨fun q => absurd q hf, fun _ => y.2 hf⟩
theorem pC_ok {D : Nat} {U : ps → Int32 × ps} (hU : okF u t n a b d D 3 3 U) : okF u t n a b d D 2 2 (pC t n U) := by
  intro p o cs os hp ho hD ht
  have y := hU p o cs os hp ho hD (ht.up (by omega))
  unfold pC
  generalize U (p, -1, o) = z at y ⊢
  obtain ⟨w, p2, f2, o2⟩ := z
  by_cases hf : f2 < 0
  · obtain ⟨q1, q2, q3, q4, cs3, A3, o3, dg3, e3, hA3, hpk3, hsv3, hQ3⟩ := y.1 hf
    simp only at q1 q2 q3 q4 e3 hsv3 hQ3
    subst q1; subst q2
    simp only
    by_cases hc : isC (ph t n (p2, -1, o2)) = true
    · rw [if_pos hc]
      have hk := (isC_lk _).mp hc
      have hpn : p2 < n := ph_in (t := t) (s := (p2, -1, o2)) (fun e => by rw [e, lk_m1] at hk; omega)
      simp only [ph_at hpn] at hk ⊢
      have hstep := lstep_bin (u := u) (R := 3) (B := []) (c := t p2) (o' := o3) (dg' := dg3) (cs' := cs3) (by decide) (by decide) hk hA3 (Or.inl rfl) ht
      rw [List.append_nil, List.nil_append] at hstep
      have e1 := lr_go hpn hstep
      rw [hpk3] at e1
      have y2 := hU (p2 + 1) o2 (lpk A3 cs3 o3).1 (t p2 :: os) hpn ho hD (ltop_cons (by omega))
      have ep : pa (p2, -1, o2) = (p2 + 1, -1, o2) := rfl
      rw [ep]
      generalize U (p2 + 1, -1, o2) = z2 at y2 ⊢
      obtain ⟨w4, p4, f4, o4⟩ := z2
      by_cases hf4 : f4 < 0
      · obtain ⟨r1, r2, r3, r4, cs5, A5, o5, dg5, e5, hA5, hpk5, hsv5, hQ5⟩ := y2.1 hf4
        simp only at r1 r2 r3 r4 e5 hsv5 hQ5
        subst r1; subst r2
        obtain ⟨-, -, hn33, hsvb⟩ := lk_bin (c := t p2) (by omega) (by omega)
        have r := lF_ret (u := u) (t := t) (n := n) (a := a) (b := b) (d := d) (R := 3) (o := o4) (v := tx_res (t p2) w w4) (p := p4) (cs0 := cs) (os := os) (A := A5) (B := [t p2]) (cs' := cs5) (o' := o5) (dg' := dg5) (by decide) r3 hA5 (Or.inr ⟨t p2, rfl, hk⟩) (by
            rw [lpk_app]
            show lo1 (t p2) _ = _
            rw [lo1_n hn33]; exact hpk5) (by
            rw [lpk_app]
            show sv_step a b d (-(t p2)) (svr a b d (lpk A5 cs5 o5).1) = _
            rw [hsv5, hsv3]; exact hsvb a b d w w4 _) hQ5 (fun hlt => by
            by_cases hk4 : lk (t p4) = 3
            · right
              obtain ⟨n1, n2, n3, -⟩ := lk_bin (c := t p4) (by omega) (by omega)
              unfold lstep
              rw [if_pos rfl]
              unfold loper
              rw [if_neg n1, if_neg n2, if_neg (fun q => q.elim (fun q => by omega) n3)]
              simp only
              rw [hk4, lab_pk A5 ([t p2] ++ os) cs5 o5 hA5, lab_stop (os := [t p2] ++ os) (ltop_cons (by omega))]
              unfold lfin
              simp only [List.cons_append, List.nil_append]
              rw [if_pos (by omega), if_pos hk4]
            · exact Or.inl hk4)
        exact r.tr (e3.trans (e1.trans e5)) (by omega)
      · refine ⟨fun q => absurd q hf4, fun _ => ?_⟩
        rw [e3, e1]
        exact y2.2 hf4
    · rw [if_neg hc]
      have r := lF_ret (u := u) (t := t) (n := n) (a := a) (b := b) (d := d) (R := 3) (o := o2) (v := w) (p := p2) (cs0 := cs) (os := os) (A := A3) (B := []) (cs' := cs3) (o' := o3) (dg' := dg3) (by decide) q3 hA3 (Or.inl rfl) (by rw [List.append_nil]; exact hpk3) (by rw [List.append_nil]; exact hsv3) hQ3 (fun hlt => Or.inl (fun e => hc (by rw [ph_at hlt]; exact (isC_lk _).mpr e)))
      exact r.tr e3 (by omega)
  · simp only
    rw [if_neg (by rw [ph_ft hf]; decide)]
    exact ⟨fun q => absurd q hf, fun _ => y.2 hf⟩
theorem pE_ok {D : Nat} {U : ps → Int32 × ps} (hU : okF u t n a b d D 6 5 U) : okF u t n a b d D 0 0 (pE t n U) := by
  have h5 : okF u t n a b d D 4 4 (pP t n U) := lev_ok (R := 5) (by decide) (by decide) (by decide) isM_lk hU (by decide)
  have h4 : okF u t n a b d D 3 3 (pS t n (pP t n U)) := lev_ok (R := 4) (by decide) (by decide) (by decide) isA_lk h5 (by decide)
  have h3 := pC_ok h4
  have h2 : okF u t n a b d D 1 1 (pB t n (pC t n (pS t n (pP t n U)))) := lev_ok (R := 2) (by decide) (by decide) (by decide) isN_lk h3 (by decide)
  have h1 : okF u t n a b d D 0 0 (pO t n (pB t n (pC t n (pS t n (pP t n U))))) := lev_ok (R := 1) (by decide) (by decide) (by decide) isO_lk h2 (by decide)
  exact h1
end LS
