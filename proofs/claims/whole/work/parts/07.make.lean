/-! what makes objects; stores of references; instanceof; the script; the texts' names; Math; arraycopy -/
def am_na (ad : am_N → Nat) (n : am_N) (a : Nat) : am_N → Nat := fun n' => if n' = n then a else ad n'
theorem am_at.ad {D : am_D} {ad ad' : am_N → Nat} {rv : am_rv} {iv : am_iv} {n : am_N} {K : am_K} {H : Heap} (h : am_at D ad rv iv n K H) (hn : ad' n = ad n) (hr : ∀ k o, rv n k = some o → ad' o = ad o) : am_at D ad' rv iv n K H := by
  have hs : ∀ r k, am_sv ad' rv iv r n k = am_sv ad rv iv r n k := fun r k => by
    simp only [am_sv]
    cases ho : rv n k with
    | none => rfl
    | some o => simp only [Option.map_some, hr k o ho]
  cases K with
  | inl ci =>
    obtain ⟨r, h1, h2⟩ := h
    refine ⟨r, h1, ?_⟩
    rw [hn]
    exact h2.to (fun k _ => (hs _ k).symm)
  | inr a =>
    refine ⟨fun h9 => ?_, fun h9 => hn.trans (h.2.1 h9), fun h9 => hn.trans (h.2.2 h9)⟩
    have e : (fun j => am_sv ad' rv iv (am_isr (am_aty a.1)) n j) = fun j => am_sv ad rv iv (am_isr (am_aty a.1)) n j := funext fun j => hs _ j
    rw [hn, e]
    exact h.1 h9
theorem am_HR.new {D : am_D} {ad : am_N → Nat} {kd : am_kd} {rv : am_rv} {iv : am_iv} {H H1 : Heap} (h : am_HR D ad kd rv iv H) {n : am_N} {K : am_K} (hk : kd n = none) (ht : n.1 < 40) (ho : ¬ am_op K) (hr0 : ∀ k, rv n k = none) (o1 : ∀ q : Nat, q < H.size → H1[q]? = H[q]?) (hn : am_at D (am_na ad n H.size) rv iv n K H1) : am_HR D (am_na ad n H.size) (am_uk kd n K) rv iv H1 := by
  have had : ∀ n', kd n' ≠ none → am_na ad n H.size n' = ad n' := fun n' h' => by
    have : n' ≠ n := fun e => h' (by rw [e]; exact hk)
    simp [am_na, this]
  have hs : am_na ad n H.size n = H.size := by simp [am_na]
  have hnop : ∀ n' K', kd n' = some K' → n'.1 < 40 → ¬ am_op K' := fun n' K' h1 h2 h3 => by
    have := (h.2.2.2 n' K' h1).mpr h3
    omega
  have hlt : ∀ n', kd n' ≠ none → n'.1 < 40 → ad n' < H.size := fun n' h1 h2 => by
    cases h3 : kd n' with
    | none => exact absurd h3 h1
    | some K' => exact h.lt h3 (hnop n' K' h3 h2)
  refine ⟨fun n' K' hk' => ?_, fun n1 n2 h1 h2 t1 t2 e => ?_, fun n' k o h1 h2 => ?_, fun n' K' hk' => ?_⟩
  · by_cases hn' : n' = n
    · subst hn'
      simp [am_uk] at hk'; subst hk'
      exact hn
    · simp [am_uk, hn'] at hk'
      refine ((h.1 n' K' hk').to (H' := H1) (fun hop => o1 _ (h.lt hk' hop)) (fun _ => rfl) (fun _ => rfl)).ad (had n' (by rw [hk']; exact fun h => by cases h)) (fun k o ho' => had o (h.2.2.1 n' k o (by rw [hk']; exact fun h => by cases h) ho'))
  · by_cases e1 : n1 = n <;> by_cases e2 : n2 = n
    · rw [e1, e2]
    · simp [am_uk, e2] at h2
      rw [e1, hs, had n2 h2] at e
      have := hlt n2 h2 t2
      omega
    · simp [am_uk, e1] at h1
      rw [e2, hs, had n1 h1] at e
      have := hlt n1 h1 t1
      omega
    · simp [am_uk, e1] at h1
      simp [am_uk, e2] at h2
      rw [had n1 h1, had n2 h2] at e
      exact h.2.1 n1 n2 h1 h2 t1 t2 e
  · by_cases e1 : o = n
    · simp [am_uk, e1]
    · by_cases e2 : n' = n
      · rw [e2, hr0] at h2; cases h2
      · simp [am_uk, e2] at h1
        simp only [am_uk, e1, if_false]
        exact h.2.2.1 n' k o h1 h2
  · by_cases hn' : n' = n
    · subst hn'
      simp [am_uk] at hk'; subst hk'
      exact ⟨fun h => by omega, fun h => absurd h ho⟩
    · simp [am_uk, hn'] at hk'
      exact h.2.2.2 n' K' hk'
theorem am_R.new {M : am_M} {ls : List (Option am_V)} {st st' : List am_V} {kd : am_kd} {rv : am_rv} {iv : am_iv} {s : State} {D : am_D} {A : Nat → Prop} {ad0 : am_N → Nat} {kd0 : am_kd} {H H1 : Heap} {locs : List Loc} {lsA : Array Slot} {ad : am_N → Nat} (h : am_R M s D A ad0 kd0 H locs lsA ad ls st kd rv iv) (hA : ∀ q, s.heap.size ≤ q → A q) {n : am_N} {K : am_K} (hk : kd n = none) (ht : n.1 < 40) (ho : ¬ am_op K) (hr0 : ∀ k, rv n k = none) (hz : H1.size = H.size + 1) (o1 : ∀ q : Nat, q < H.size → H1[q]? = H[q]?) (hn : am_at D (am_na ad n H.size) rv iv n K H1) (hst : ∀ v ∈ st', am_lv kd v) : am_R M s D A ad0 kd0 H1 locs lsA (am_na ad n H.size) ls (am_P n :: st') (am_uk kd n K) rv iv := by
  have had : ∀ n', kd n' ≠ none → am_na ad n H.size n' = ad n' ∧ am_uk kd n K n' ≠ none := fun n' h' => by
    have : n' ≠ n := fun e => h' (by rw [e]; exact hk)
    simp [am_na, am_uk, this, h']
  refine h.move (h.1.new hk ht ho hr0 o1 hn) (fun n' h1 h2 => ?_) ⟨Nat.le_trans h.2.2.1.1 (by omega), fun q h1 h2 => (o1 q (Nat.lt_of_lt_of_le h1 h.2.2.1.1)).trans (h.2.2.1.2.1 q h1 h2), h.2.2.1.2.2⟩ had (am_lc ?_ (fun v hv => am_lv_mono (fun n' h' => (had n' h').2) (hst v hv)))
  · by_cases hn' : n' = n
    · subst hn'
      simp only [am_na, if_true]
      exact hA _ h.2.2.1.1
    · simp [am_uk, hn'] at h1
      rw [(had n' h1).1]
      exact h.2.1 n' h1 h2
  · show am_uk kd n K n ≠ none
    simp [am_uk]
theorem am_st_eq {kd : am_kd} {K : am_K} {n : am_N} (hk : kd n = none) (ad : am_N → Nat) (a : Nat) {st : List am_V} (h : ∀ v ∈ st, am_lv kd v) : (am_P n :: st).map (am_cv (am_na ad n a)) = .ref a :: st.map (am_cv ad) := by
  rw [List.map_cons]
  congr 1
  · simp [am_cv, am_na]
  · refine List.map_congr_left (fun v hv => am_cv_eq (kd := kd) (fun n' h' => ?_) (h v hv))
    have : n' ≠ n := fun e => h' (by rw [e]; exact hk)
    simp [am_na, this]
section AN
variable {l : Launch} {M : am_M} {R : Room} {post : am_Post} {pc : Nat} {ls : List (Option am_V)} {st : List am_V} {kd : am_kd} {rv : am_rv} {iv : am_iv} {cu su : Nat}
theorem am_dflt {t : FieldType} (h : am_okty t = true) : defaultValue t = if am_isr t = true then .null else .int 0 := by
  cases t <;> first | rfl | cases h
set_option maxHeartbeats 1000000 in
theorem A_new (n : am_N) {ci idx : Nat} {r : vw_C} (hr : vwCl[ci]? = some r) (h1 : Cond.classLink M.1.cls idx r.1 ∈ am_T) (h2 : Cond.instantiable r.1 r.2.2 ∈ am_T) (h3 : Cond.initialized r.1 ∈ am_T) (hk : kd n = none) (ht : n.1 < 40) (hi0 : ∀ k, iv n k = 0) (hr0 : ∀ k, rv n k = none) (hcu : cu + 1 ≤ R.cells) (hsu : su + r.2.2 ≤ R.slots) (hd : decode M.2.1 pc = .ok (.new idx, 3)) (k : am_W l M R post (pc + 3) ls (am_P n :: st) (am_uk kd n (.inl ci)) rv iv (cu + 1) (su + r.2.2)) : am_W l M R post pc ls st kd rv iv cu su := by
  intro p e s m args below meth c D A ad0 kd0 H locs lsA ad C Rr
  have hL := Rr.2.2.2.2.2.2
  have hts : ∀ w ∈ am_T, w.before args s = true := fun w hw => C.2.2.2.2.2.1 w (List.mem_cons_of_mem _ hw)
  have hKn := C.2.2.2.2.2.2.2.2.1.1.1 ci r hr
  obtain ⟨c1, c2, -, c4⟩ := am_cls_ok ci r hr
  refine W.newcK C.1 C.2.1 C.2.2.2.2.1 (hts _ h1) (hts _ h2) (hts _ h3) rfl hd hcu hsu hKn.2.1 rfl fun H1 kC hkC e1 z1 o1 => ?_
  have hat : am_at D (am_na ad n H.size) rv iv n (.inl ci) H1 := by
    refine ⟨r, hr, ?_⟩
    have e9 : am_na ad n H.size n = H.size := by simp [am_na]
    rw [e9]
    refine (u_born (am_fty ci) hts c1 hKn hkC e1 c2).to (fun k hk => ?_)
    rw [am_dflt (c4 k hk)]
    simp [am_sv, hi0, hr0, va_rf]
  have K := k p e s m args below meth c D A ad0 kd0 H1 locs lsA (am_na ad n H.size) C (Rr.new C.2.2.2.2.2.2.2.2.2 hk ht (fun h => h) hr0 z1 o1 hat hL)
  rw [am_st_eq (K := .inl ci) hk ad H.size hL] at K
  exact K
set_option maxHeartbeats 1000000 in
theorem A_newa (n : am_N) {z : Nat} (h1 : Cond.arrayClass .int ∈ am_T) (hk : kd n = none) (ht : n.1 < 40) (hi0 : ∀ k, iv n k = 0) (hr0 : ∀ k, rv n k = none) {x : Int32} (hx : ¬ x < 0) (hxz : x.toNatClampNeg = z) (hz : z * 4 ≤ 536870912) (hcu : cu + 1 ≤ R.cells) (hsu : su + z ≤ R.slots) (hd : decode M.2.1 pc = .ok (.newarray .int, 2)) (k : am_W l M R post (pc + 2) ls (am_P n :: st) (am_uk kd n (.inr (0, z))) rv iv (cu + 1) (su + z)) : am_W l M R post pc ls (am_I x :: st) kd rv iv cu su := by
  intro p e s m args below meth c D A ad0 kd0 H locs lsA ad C Rr
  have hL := am_l1 Rr.2.2.2.2.2.2
  have hts : ∀ w ∈ am_T, w.before args s = true := fun w hw => C.2.2.2.2.2.1 w (List.mem_cons_of_mem _ hw)
  refine va_newaK (atype := .int) C.1 C.2.1 (hts _ h1) rfl hd rfl hx hxz hz hcu hsu rfl fun H1 cA e1 z1 o1 hAr hNm => ?_
  have hcA : cA = D.2.1 0 := by
    have h := (am_arr C.2.2.2.2.2.2.2.2.1 (t := 0) (by decide)).2
    exact Option.some.inj (hNm.symm.trans h)
  have hat : am_at D (am_na ad n H.size) rv iv n (.inr (0, z)) H1 := by
    have e9 : am_na ad n H.size n = H.size := by simp [am_na]
    refine ⟨fun _ => ?_, ⟨fun h => ?_, fun h => ?_⟩⟩
    · rw [e9, e1, hcA]
      congr 2
      funext j
      simp [am_sv, hi0, am_isr, am_aty]
      rfl
    · simp at h
    · simp at h
  have K := k p e s m args below meth c D A ad0 kd0 H1 locs lsA (am_na ad n H.size) C (Rr.new C.2.2.2.2.2.2.2.2.2 hk ht (fun h => by simp [am_op] at h) hr0 z1 o1 hat hL)
  rw [am_st_eq (K := .inr (0, z)) hk ad H.size hL] at K
  exact K
set_option maxHeartbeats 1000000 in
theorem A_anew (n : am_N) {t z idx : Nat} {C0 : String} (ht5 : t < 5) (hty : am_aty t = .object C0) (hC0 : C0 ∈ [RX3, RX2, RX7, RX5]) (h1 : Cond.classLink M.1.cls idx C0 ∈ am_T) (hk : kd n = none) (ht : n.1 < 40) (hr0 : ∀ k, rv n k = none) {x : Int32} (hx : ¬ x < 0) (hxz : x.toNatClampNeg = z) (hz : z * 4 ≤ 536870912) (hcu : cu + 1 ≤ R.cells) (hsu : su + z ≤ R.slots) (hd : decode M.2.1 pc = .ok (.anewarray idx, 3)) (k : am_W l M R post (pc + 3) ls (am_P n :: st) (am_uk kd n (.inr (t, z))) rv iv (cu + 1) (su + z)) : am_W l M R post pc ls (am_I x :: st) kd rv iv cu su := by
  intro p e s m args below meth c D A ad0 kd0 H locs lsA ad C Rr
  subst hxz
  have hL := am_l1 Rr.2.2.2.2.2.2
  have hts : ∀ w ∈ am_T, w.before args s = true := fun w hw => C.2.2.2.2.2.1 w (List.mem_cons_of_mem _ hw)
  refine W.anew C.1 C.2.1 C.2.2.2.2.1 (hts _ h1) (va_AO.use (C.2.2.2.2.2.2.2.2.1.2.2.1.2.2 C0 hC0)) rfl hd rfl hx hz hcu hsu fun cA kA comp f1 f2 f3 f4 => ?_
  generalize hH1 : H.push ({ cls := cA, slots := Array.replicate x.toNatClampNeg .null, vm := .none } : Cell) = H1
  have z1 : H1.size = H.size + 1 := by rw [← hH1]; simp
  have o1 : ∀ q : Nat, q < H.size → H1[q]? = H[q]? := fun q hq => by rw [← hH1, Array.getElem?_push, if_neg (Nat.ne_of_lt hq)]
  have e1 : H1[H.size]? = some (arrV cA x.toNatClampNeg (fun _ => .null)) := by rw [← hH1, ← arrV_new]; simp
  have hcA : cA = D.2.1 t := by
    have h := (am_arr C.2.2.2.2.2.2.2.2.1 ht5).2
    rw [hty] at h
    obtain ⟨_, _, _, _, _, h4⟩ := h
    exact Option.some.inj (f1.symm.trans h4)
  have hat : am_at D (am_na ad n H.size) rv iv n (.inr (t, x.toNatClampNeg)) H1 := by
    have e9 : am_na ad n H.size n = H.size := by simp [am_na]
    refine ⟨fun _ => ?_, ⟨fun h => ?_, fun h => ?_⟩⟩
    · rw [e9, e1, hcA]
      congr 2
      funext j
      simp [am_sv, hr0, am_isr, hty, va_rf]
    · simp at h; omega
    · simp at h; omega
  have K := k p e s m args below meth c D A ad0 kd0 H1 locs lsA (am_na ad n H.size) C (Rr.new C.2.2.2.2.2.2.2.2.2 hk ht (fun h => by simp [am_op] at h; omega) hr0 z1 o1 hat hL)
  rw [am_st_eq (K := .inr (t, x.toNatClampNeg)) hk ad H.size hL] at K
  exact K
theorem am_aat {D : am_D} {ad : am_N → Nat} {n : am_N} {t z j : Nat} {H1 : Heap} {o : Option am_N} (ht : t < 5) (hr : am_isr (am_aty t) = true) (e1 : H1[ad n]? = some (arrV (D.2.1 t) z (updV (fun j => am_sv ad rv iv (am_isr (am_aty t)) n j) j (va_rf (o.map ad))))) : am_at D ad (am_ur rv n j o) iv n (.inr (t, z)) H1 := by
  refine ⟨fun _ => ?_, ⟨fun h => ?_, fun h => ?_⟩⟩
  · rw [e1]
    congr 2
    funext q
    by_cases hq : q = j
    · subst hq; simp [updV, am_sv, am_ur, hr]
    · simp [updV, am_sv, am_ur, hq]
  · simp at h; omega
  · simp at h; omega
set_option maxHeartbeats 1000000 in
theorem A_aast {n o : am_N} {t z ci : Nat} {r : vw_C} {C0 : String} {i : Int32} (hk : kd n = some (.inr (t, z))) (ht5 : t < 5) (hty : am_aty t = .object C0) (ho : kd o = some (.inl ci)) (hr : vwCl[ci]? = some r) (hsub : r.1 = C0 ∨ (r.1, C0) ∈ am_yc) (hin : vp_in i z) (hd : decode M.2.1 pc = .ok (.aastore, 1)) (k : am_W l M R post (pc + 1) ls st kd (am_ur rv n i.toNatClampNeg (some o)) iv cu su) : am_W l M R post pc ls (am_P o :: am_I i :: am_P n :: st) kd rv iv cu su := by
  intro p e s m args below meth c D A ad0 kd0 H locs lsA ad C Rr
  have hL := Rr.2.2.2.2.2.2
  have hKF := C.2.2.2.2.2.2.2.2.1
  have hlt : i.toNatClampNeg < z := Nat.not_le.mp fun q => hin (Or.inr q)
  have h0 : ¬ i < 0 := fun q => hin (Or.inl q)
  have hne : ¬ am_op (.inr (t, z) : am_K) := by simp only [am_op]; omega
  have hisr : am_isr (am_aty t) = true := by rw [hty]; rfl
  obtain ⟨r', hr', cellV, g1, g2, g3, -⟩ := Rr.1.1 o _ ho
  cases hr.symm.trans hr'
  have hcls := (hKF.1.1 ci r hr).2
  have hra := (am_arr hKF ht5).2
  rw [hty] at hra
  obtain ⟨kA, comp, k1, k2, k3, -⟩ := hra
  obtain ⟨kE, hkE, -⟩ := Vm.findClass_spec k3
  obtain ⟨kC, hkC, -⟩ := hcls.2
  have hasg : s.vm.assignable (D.1.1 ci) comp = true := by
    rcases hsub with h | h
    · have e1 : comp = D.1.1 ci := by rw [← h] at k3; exact Option.some.inj (k3.symm.trans hcls.1)
      rw [e1]; exact va_assign hcls
    · obtain ⟨c1, t1, f1, f2, f3⟩ := hKF.2.2.1.2.1 _ h
      cases hcls.1.symm.trans f1
      cases k3.symm.trans f2
      exact f3
  have hv := (Rr.1.1 n _ hk).1 ht5
  refine W.aast C.1 C.2.1 hv (fun q h => by cases h) (fun h => by cases h) k1 k2 rfl hkE ⟨h0, by rw [arrV_size]; exact hlt⟩ g1 (fun q h => by rw [g3] at h; cases h) (by rw [g2]; exact hkC) (by rw [g2]; exact hasg) rfl rfl hd fun H1 e1 z1 oq => ?_
  rw [arrV_store] at e1
  exact k p e s m args below meth c D A ad0 kd0 H1 _ lsA ad C (Rr.heap (Rr.1.set hk hne oq (am_aat (o := some o) ht5 hisr e1) (fun n' k hn => by simp [am_ur, hn]) (fun _ _ _ => rfl) (fun k o' h => by
    by_cases hj : k = i.toNatClampNeg
    · subst hj; simp [am_ur] at h; subst h; rw [ho]; exact fun h => by cases h
    · simp [am_ur, hj] at h
      exact Rr.1.2.2.1 n k o' (by rw [hk]; exact fun h => by cases h) h)) (Rr.2.2.1.put z1 oq (Rr.2.1 n (by rw [hk]; exact fun h => by cases h) (am_tag Rr.1 hk hne))) (am_l1 (am_l1 (am_l1 hL))))
set_option maxHeartbeats 1000000 in
theorem A_aast0 {n : am_N} {t z : Nat} {C0 : String} {i : Int32} (hk : kd n = some (.inr (t, z))) (ht5 : t < 5) (hty : am_aty t = .object C0) (hin : vp_in i z) (hd : decode M.2.1 pc = .ok (.aastore, 1)) (k : am_W l M R post (pc + 1) ls st kd (am_ur rv n i.toNatClampNeg none) iv cu su) : am_W l M R post pc ls (am_0 :: am_I i :: am_P n :: st) kd rv iv cu su := by
  intro p e s m args below meth c D A ad0 kd0 H locs lsA ad C Rr
  have hL := Rr.2.2.2.2.2.2
  have hKF := C.2.2.2.2.2.2.2.2.1
  have hne : ¬ am_op (.inr (t, z) : am_K) := by simp only [am_op]; omega
  have hisr : am_isr (am_aty t) = true := by rw [hty]; rfl
  have hv := (Rr.1.1 n _ hk).1 ht5
  have hao := (am_arr hKF ht5).1 z (fun j => am_sv ad rv iv (am_isr (am_aty t)) n j)
  rw [hty] at hao
  refine va_WaastN (C := C0) C.1 C.2.1 hv (by rw [← hty] at hao ⊢; exact hao) (fun h => by cases h) (by rw [arrV_size]; exact hin) rfl rfl hd fun H1 e1 z1 oq => ?_
  rw [arrV_store] at e1
  exact k p e s m args below meth c D A ad0 kd0 H1 _ lsA ad C (Rr.heap (Rr.1.set hk hne oq (am_aat (o := none) ht5 hisr e1) (fun n' k hn => by simp [am_ur, hn]) (fun _ _ _ => rfl) (fun k o' h => by
    by_cases hj : k = i.toNatClampNeg
    · subst hj; simp [am_ur] at h
    · simp [am_ur, hj] at h
      exact Rr.1.2.2.1 n k o' (by rw [hk]; exact fun h => by cases h) h)) (Rr.2.2.1.put z1 oq (Rr.2.1 n (by rw [hk]; exact fun h => by cases h) (am_tag Rr.1 hk hne))) (am_l1 (am_l1 (am_l1 hL))))
theorem A_instY {n : am_N} {ci idx : Nat} {r : vw_C} {nm : String} (hcl : Cond.classLink M.1.cls idx nm ∈ am_T) (hk : kd n = some (.inl ci)) (hr : vwCl[ci]? = some r) (hsub : r.1 = nm ∨ (r.1, nm) ∈ am_yc) (hd : decode M.2.1 pc = .ok (.instanceof idx, 3)) (k : am_W l M R post (pc + 3) ls (am_I 1 :: st) kd rv iv cu su) : am_W l M R post pc ls (am_P n :: st) kd rv iv cu su := by
  intro p e s m args below meth c D A ad0 kd0 H locs lsA ad C Rr
  have hL := Rr.2.2.2.2.2.2
  have hKF := C.2.2.2.2.2.2.2.2.1
  have hts : ∀ w ∈ am_T, w.before args s = true := fun w hw => C.2.2.2.2.2.1 w (List.mem_cons_of_mem _ hw)
  obtain ⟨cell, h1, h2, h3⟩ := am_recv hKF Rr.1 hk hr
  have K := k p e s m args below meth c D A ad0 kd0 H locs lsA ad C (Rr.stk (am_l0 (am_l1 hL)))
  have hcls := (hKF.1.1 ci r hr).2
  have hf : ∃ t1, s.vm.findClass nm = some t1 ∧ s.vm.assignable cell.cls t1 = true := by
    have ec : cell.cls = D.1.1 ci := Option.some.inj (h3.symm.trans hcls.1)
    rcases hsub with h | h
    · exact ⟨D.1.1 ci, by rw [← h]; exact hcls.1, by rw [ec]; exact va_assign hcls⟩
    · obtain ⟨c1, t1, f1, f2, f3⟩ := hKF.2.2.1.2.1 _ h
      cases h3.symm.trans f1
      exact ⟨t1, f2, f3⟩
  obtain ⟨t1, f2, f3⟩ := hf
  intro T hT X
  obtain ⟨vm', X', st'⟩ := X.instanceofYes C.1 C.2.2.2.2.1 (hts _ hcl) (by rw [hT]; exact h1) h2 f2 f3 (g := F0 m pc lsA (.ref (ad n) :: st.map (am_cv ad))) rfl rfl (by rw [C.2.1]; exact hd)
  obtain ⟨t, a1, b1⟩ := K (T.setVm vm') hT X'
  exact ⟨t, st' t a1, b1⟩
theorem A_instN {n : am_N} {ci idx : Nat} {r : vw_C} {nm : String} (hcl : Cond.classLink M.1.cls idx nm ∈ am_T) (hk : kd n = some (.inl ci)) (hr : vwCl[ci]? = some r) (hno : (r.1, nm) ∈ am_nc) (hd : decode M.2.1 pc = .ok (.instanceof idx, 3)) (k : am_W l M R post (pc + 3) ls (am_I 0 :: st) kd rv iv cu su) : am_W l M R post pc ls (am_P n :: st) kd rv iv cu su := by
  intro p e s m args below meth c D A ad0 kd0 H locs lsA ad C Rr
  have hL := Rr.2.2.2.2.2.2
  have hKF := C.2.2.2.2.2.2.2.2.1
  have hts : ∀ w ∈ am_T, w.before args s = true := fun w hw => C.2.2.2.2.2.1 w (List.mem_cons_of_mem _ hw)
  exact va_instNo C.1 C.2.1 C.2.2.2.2.1 (hts _ hcl) (hKF.2.2.1.1 _ hno) (am_recv hKF Rr.1 hk hr) hd (k p e s m args below meth c D A ad0 kd0 H locs lsA ad C (Rr.stk (am_l0 (am_l1 hL))))
end AN
