/-! returns, calls, what makes objects -/
section AC
variable {l : Launch} {M : am_M} {R : Room} {post : am_Post} {pc : Nat} {ls : List (Option am_V)} {st : List am_V} {kd : am_kd} {rv : am_rv} {iv : am_iv} {cu su : Nat}
theorem A_iret {v : Int32} (hd : decode M.2.1 pc = .ok (.ireturn, 1)) (hret : M.2.2.2 = some .int) (hc : cu ≤ R.cells) (hs : su ≤ R.slots) (hp : post (some (am_I v)) kd rv iv) : am_W l M R post pc ls [am_I v] kd rv iv cu su := by
  intro p e s m args below meth c D A ad0 kd0 H locs lsA ad C Rr
  refine W.widen hc hs ?_
  exact W.iret C.1 C.2.1 (C.2.2.1.trans hret) (fun t ht hW => ⟨⟨some (am_I v), kd, rv, iv, ad, rfl, hp, by rw [ht]; exact Rr.1, Rr.2.1, Rr.2.2.2.1, fun w hw => by cases hw; trivial⟩, Rr.2.2.1.F ht⟩) Rr.2.2.1.2.2 hd C.2.2.2.2.2.2.1
theorem A_zret {v : Int32} (hd : decode M.2.1 pc = .ok (.ireturn, 1)) (hret : M.2.2.2 = some .boolean) (hn : narrow .boolean (.int v) = .int v) (hc : cu ≤ R.cells) (hs : su ≤ R.slots) (hp : post (some (am_I v)) kd rv iv) : am_W l M R post pc ls [am_I v] kd rv iv cu su := by
  intro p e s m args below meth c D A ad0 kd0 H locs lsA ad C Rr
  refine W.widen hc hs ?_
  exact W.zret C.1 C.2.1 (C.2.2.1.trans hret) hn (fun t ht hW => ⟨⟨some (am_I v), kd, rv, iv, ad, rfl, hp, by rw [ht]; exact Rr.1, Rr.2.1, Rr.2.2.2.1, fun w hw => by cases hw; trivial⟩, Rr.2.2.1.F ht⟩) Rr.2.2.1.2.2 hd C.2.2.2.2.2.2.1
theorem A_vret (hd : decode M.2.1 pc = .ok (.return_, 1)) (hret : M.2.2.2 = none) (hc : cu ≤ R.cells) (hs : su ≤ R.slots) (hp : post none kd rv iv) : am_W l M R post pc ls [] kd rv iv cu su := by
  intro p e s m args below meth c D A ad0 kd0 H locs lsA ad C Rr
  refine W.widen hc hs ?_
  exact W.vret C.1 C.2.1 (C.2.2.1.trans hret) (fun t ht hW => ⟨⟨none, kd, rv, iv, ad, rfl, hp, by rw [ht]; exact Rr.1, Rr.2.1, Rr.2.2.2.1, fun w hw => by cases hw⟩, Rr.2.2.1.F ht⟩) Rr.2.2.1.2.2 hd C.2.2.2.2.2.2.1
theorem A_aret {o : Option am_N} {C0 : String} (hd : decode M.2.1 pc = .ok (.areturn, 1)) (hret : M.2.2.2 = some (.object C0)) (hc : cu ≤ R.cells) (hs : su ≤ R.slots) (hp : post (some (am_rf o)) kd rv iv) : am_W l M R post pc ls [am_rf o] kd rv iv cu su := by
  intro p e s m args below meth c D A ad0 kd0 H locs lsA ad C Rr
  refine W.widen hc hs ?_
  have hL := Rr.2.2.2.2.2.2
  exact W.aret C.1 C.2.1 (C.2.2.1.trans hret) (Or.inl ⟨_, rfl⟩) (by cases o with | none => exact Or.inl rfl | some n => exact Or.inr ⟨_, rfl⟩) (fun t ht hW => ⟨⟨some (am_rf o), kd, rv, iv, ad, rfl, hp, by rw [ht]; exact Rr.1, Rr.2.1, Rr.2.2.2.1, fun w hw => by cases hw; exact hL _ List.mem_cons_self⟩, Rr.2.2.1.F ht⟩) Rr.2.2.1.2.2 hd C.2.2.2.2.2.2.1
theorem am_good {M M' : am_M} (h : Cond.code M'.1 M'.2.1 M'.2.2.1 M'.2.2.2 ∈ am_T) : GoodIn (am_ws M) (am_ws M') := fun w hw => by
  rcases List.mem_cons.mp hw with h1 | h1
  · subst h1; exact ⟨List.mem_cons_of_mem _ h, good_of_word (List.mem_filter.mp h).2⟩
  · exact ⟨List.mem_cons_of_mem _ h1, good_of_word (List.mem_filter.mp h1).2⟩
def am_wt (st : List am_V) : Nat := (st.map (fun v => if am_c2 v = true then 2 else 1)).sum
theorem am_wt_ok (ad : am_N → Nat) (st : List am_V) : ((st.map (am_cv ad)).map fun v => v.category).sum = am_wt st := by
  unfold am_wt
  rw [List.map_map]
  congr 1
  exact List.map_congr_left (fun v _ => am_c2_cat ad v)
theorem am_cv_eq {ad ad' : am_N → Nat} {kd : am_kd} (h : ∀ n, kd n ≠ none → ad' n = ad n) {v : am_V} (hv : am_lv kd v) : am_cv ad' v = am_cv ad v := by
  cases v with
  | inl n => simp only [am_cv, h n hv]
  | inr v => rfl
theorem am_lv_mono {kd kd' : am_kd} (h : ∀ n, kd n ≠ none → kd' n ≠ none) {v : am_V} (hv : am_lv kd v) : am_lv kd' v := by
  cases v with
  | inl n => exact h n hv
  | inr v => trivial
/-- names get addresses anew: what was alive keeps its own -/
theorem am_R.move {s : State} {D : am_D} {A : Nat → Prop} {ad0 : am_N → Nat} {kd0 : am_kd} {H H' : Heap} {locs locs' : List Loc} {lsA : Array Slot} {ad ad' : am_N → Nat} {kd' : am_kd} {rv' : am_rv} {iv' : am_iv} {st' : List am_V} (h : am_R M s D A ad0 kd0 H locs lsA ad ls st kd rv iv) (hH : am_HR D ad' kd' rv' iv' H') (hA : ∀ n, kd' n ≠ none → n.1 < 40 → A (ad' n)) (hS : va_S A s.heap H' locs') (had : ∀ n, kd n ≠ none → ad' n = ad n ∧ kd' n ≠ none) (hst : ∀ v ∈ st', am_lv kd' v) : am_R M s D A ad0 kd0 H' locs' lsA ad' ls st' kd' rv' iv' := by
  refine ⟨hH, hA, hS, fun n hn => ?_, ⟨h.2.2.2.2.1.1, h.2.2.2.2.1.2.1, fun i v hi => ?_⟩, fun v hv => am_lv_mono (fun n hn => (had n hn).2) (h.2.2.2.2.2.1 v hv), hst⟩
  · have h1 := h.2.2.2.1 n hn
    exact ⟨(had n h1.2).1.trans h1.1, (had n h1.2).2⟩
  · rw [am_cv_eq (fun n hn => (had n hn).1) (h.2.2.2.2.2.1 v (List.mem_of_getElem? hi))]
    exact h.2.2.2.2.1.2.2 i v hi
/-- behind a call -/
theorem am_after {p : Program} {e : Env} {s : State} {m : MethodId} {args : Array Value} {below : List Frame} {meth : Method} {c : Code} {D : am_D} {A : Nat → Prop} {ad0 : am_N → Nat} {kd0 : am_kd} {H : Heap} {locs : List Loc} {lsA : Array Slot} {ad : am_N → Nat} {R' : Room} {post' : am_Post} {aa : Array Value} {st0 : List Value} {rest : List am_V} (C : am_C M p s m args meth c D A) (Rr : am_R M s D A ad0 kd0 H locs lsA ad ls st kd rv iv) (hrest : ∀ v ∈ rest, am_lv kd v)
    (hr : va_Run p l e R s m args below meth c H locs cu su R'.cells R'.slots (F0 m pc lsA st0) (rest.map (am_cv ad)) (am_Qc D (am_A kd ad H.size) ad kd post' aa) (am_A kd ad H.size))
    (kk : ∀ (v : Option am_V) (kd' : am_kd) (rv' : am_rv) (iv' : am_iv), post' v kd' rv' iv' → am_W l M R post (pc + 3) ls (v.toList ++ rest) kd' rv' iv' (cu + R'.cells) (su + R'.slots)) :
    W p l e R s m args below meth c H locs cu su (MQ below (am_Qc D A ad0 kd0 post) args s R.cells R.slots A) (F0 m pc lsA st0) := by
  intro T hT X
  obtain ⟨v, s₀, t, T', L, h0, X', hL, e1, e2, ⟨⟨v', kd', rv', iv', ad', hv, hpost, hHR, hA', had, hlv⟩, hz, hk⟩, go⟩ := hr T hT X
  cases hv
  rw [h0] at hz hk
  have hAA : ∀ q, am_A kd ad H.size q → A q := by
    intro q hq
    rcases hq with ⟨n, h1, h2, h3⟩ | h1
    · rw [← h3]; exact Rr.2.1 n h1 h2
    · exact C.2.2.2.2.2.2.2.2.2 q (Nat.le_trans Rr.2.2.1.1 h1)
  have hS : va_S A s.heap T'.heap (locs ++ L) := ⟨Nat.le_trans Rr.2.2.1.1 (by rw [e1]; exact hz), fun q h1 h2 => by rw [e1, hk q (Nat.lt_of_lt_of_le h1 Rr.2.2.1.1) (fun z => h2 (hAA q z))]; exact Rr.2.2.1.2.1 q h1 h2, fun q hq => by
    rcases List.mem_append.mp hq with h | h
    · exact Rr.2.2.1.2.2 q h
    · exact hAA _ (hL q h)⟩
  have hst : ∀ w ∈ v'.toList ++ rest, am_lv kd' w := by
    intro w hw
    rcases List.mem_append.mp hw with h | h
    · cases v' with
      | none => cases h
      | some v0 =>
        rw [Option.toList_some, List.mem_singleton] at h
        subst h; exact hlv _ rfl
    · exact am_lv_mono (fun n hn => (had n hn).2) (hrest w h)
  have K := kk v' kd' rv' iv' hpost p e s m args below meth c D A ad0 kd0 T'.heap (locs ++ L) lsA ad' C (Rr.move (by rw [e1]; exact hHR) (fun n h1 h2 => hAA _ (hA' n h1 h2)) hS had hst)
  have hmap : (v'.toList ++ rest).map (am_cv ad') = (v'.map (am_cv ad')).toList ++ rest.map (am_cv ad) := by
    rw [List.map_append]
    congr 1
    · cases v' <;> rfl
    · exact List.map_congr_left (fun w hw => am_cv_eq (fun n hn => (had n hn).1) (hrest w hw))
  rw [hmap] at K
  obtain ⟨t2, a1, b1⟩ := K T' rfl X'
  exact ⟨t2, go t2 a1, b1⟩
theorem am_pre {p : Program} {s : State} {m : MethodId} {args : Array Value} {meth : Method} {c : Code} {D : am_D} {A : Nat → Prop} {ad0 : am_N → Nat} {kd0 : am_kd} {H : Heap} {locs : List Loc} {lsA : Array Slot} {ad : am_N → Nat} {av : List am_V} (C : am_C M p s m args meth c D A) (Rr : am_R M s D A ad0 kd0 H locs lsA ad ls st kd rv iv) (hav : ∀ v ∈ av, am_lv kd v) : ∀ U : State, U.heap = H → s.WarmedH U.vm → am_Pc D ad H.size av kd rv iv (av.map (am_cv ad)).toArray U := by
  intro U hU hW
  have hAA : ∀ q, am_A kd ad H.size q → A q := by
    intro q hq
    rcases hq with ⟨n, h1, h2, h3⟩ | h1
    · rw [← h3]; exact Rr.2.1 n h1 h2
    · exact C.2.2.2.2.2.2.2.2.2 q (Nat.le_trans Rr.2.2.1.1 h1)
  exact ⟨rfl, by rw [hU], am_KF.call C.2.2.2.2.2.2.2.2.1 Rr.2.2.1 hAA hU hW, by rw [hU]; exact Rr.1, hav⟩
/-- what the tables say of a callee -/
def am_Ce (M' : am_M) (n : Nat) : Prop := Cond.code M'.1 M'.2.1 M'.2.2.1 M'.2.2.2 ∈ am_T ∧ Cond.initialized M'.1.cls ∈ am_T ∧ (M'.1.cls ≠ "java/lang/invoke/MethodHandle" ∧ M'.1.cls ≠ "java/lang/invoke/VarHandle" ∧ (parseMethodDescriptor M'.1.desc).map (fun d => d.parameters.length) = some n)
def am_CS (own : String) (idx : Nat) (M' : am_M) (n : Nat) : Prop := am_Ce M' n ∧ Cond.methodLink own idx M'.1 ∈ am_T ∧ Cond.static M'.1 ∈ am_T
def am_CN (own : String) (idx : Nat) (M' : am_M) (n : Nat) : Prop := am_Ce M' n ∧ (∃ host, Cond.methodLinkNest own idx M'.1 host ∈ am_nw) ∧ Cond.static M'.1 ∈ am_T
def am_CV (own : String) (idx : Nat) (M' : am_M) (n : Nat) : Prop := am_Ce M' n ∧ Cond.methodLink own idx M'.1 ∈ am_T ∧ Cond.instanceMethod M'.1 ∈ am_T ∧ Cond.selects M'.1.cls M'.1 M'.1 ∈ am_T
def am_CI (own : String) (idx : Nat) (M' : am_M) (n : Nat) : Prop := am_Ce M' n ∧ Cond.methodLink own idx M'.1 ∈ am_T ∧ Cond.instanceMethod M'.1 ∈ am_T ∧ M'.1.name = "<init>" ∧ M'.2.2.2 = none
def am_CU (own : String) (idx : Nat) (x : MethodName) (owner C : String) (M' : am_M) (n : Nat) : Prop := am_Ce M' n ∧ Cond.methodLink own idx x ∈ am_T ∧ Cond.sameMethod x.cls owner x.name x.desc ∈ am_T ∧ Cond.instanceMethod ⟨owner, x.name, x.desc⟩ ∈ am_T ∧ (∃ b0 m0 r0, Cond.code ⟨owner, x.name, x.desc⟩ b0 m0 r0 ∈ am_T) ∧ Cond.selects C x M'.1 ∈ am_T ∧ Cond.instanceMethod M'.1 ∈ am_T ∧ (owner ≠ "java/lang/invoke/MethodHandle" ∧ owner ≠ "java/lang/invoke/VarHandle" ∧ (parseMethodDescriptor x.desc).map (fun d => d.parameters.length) = some n)
def am_CP (own : String) (idx : Nat) (M' : am_M) (n : Nat) : Prop := am_Ce M' n ∧ Cond.methodLink own idx M'.1 ∈ am_T ∧ Cond.sameMethod M'.1.cls M'.1.cls M'.1.name M'.1.desc ∈ am_T ∧ Cond.superclass own M'.1.cls ∈ am_T ∧ Cond.instanceMethod M'.1 ∈ am_T ∧ M'.1.name ≠ "<init>"
set_option maxHeartbeats 1000000 in
theorem A_callS {M' : am_M} {R' : Room} {post' : am_Post} {idx n : Nat} {av rest : List am_V} (hC : am_CS M.1.cls idx M' n) (hM : am_Met l M' R' av kd rv iv post') (hn : av.length = n) (hst : av.reverse ++ rest = st) (hw : am_wt rest ≤ 8) (hroom : R'.frames + 1 ≤ R.frames ∧ 8 + (M'.2.2.1 + 11) + R'.locals ≤ R.locals) (hcs : cu + R'.cells ≤ R.cells ∧ su + R'.slots ≤ R.slots) (hd : decode M.2.1 pc = .ok (.invokestatic idx, 3))
    (kk : ∀ (v : Option am_V) (kd' : am_kd) (rv' : am_rv) (iv' : am_iv), post' v kd' rv' iv' → am_W l M R post (pc + 3) ls (v.toList ++ rest) kd' rv' iv' (cu + R'.cells) (su + R'.slots)) : am_W l M R post pc ls st kd rv iv cu su := by
  intro p e s m args below meth c D A ad0 kd0 H locs lsA ad C Rr
  have hL := Rr.2.2.2.2.2.2
  subst hst
  obtain ⟨⟨h1, h2, h3⟩, h4, h5⟩ := hC
  have hts : ∀ w ∈ am_T, w.before args s = true := fun w hw => C.2.2.2.2.2.1 w (List.mem_cons_of_mem _ hw)
  have hrest : ∀ v ∈ rest, am_lv kd v := fun v hv => hL v (List.mem_append_right _ hv)
  have hav : ∀ v ∈ av, am_lv kd v := fun v hv => hL v (List.mem_append_left _ (List.mem_reverse.mpr hv))
  refine am_after C Rr hrest (va_runS (As := av.map (am_cv ad)) (rest := rest.map (am_cv ad)) (n := n) ⟨C.1, C.2.1, C.2.2.2.1, C.2.2.2.2.1, C.2.2.2.2.2.1⟩ (hM D ad H.size) ⟨callB_of (ws' := am_T) n C.2.2.2.2.2.1 (am_good h1) rfl rfl rfl (hts _ h2) (hts _ h4) h3 hroom, hts _ h5⟩ ⟨am_Pc_blind, am_pre C Rr hav⟩ rfl (by rw [List.length_map]; exact hn) Rr.2.2.2.2.1.1 (by simp) (lv_room (by rw [am_wt_ok]; exact hw)) hd hcs) kk
set_option maxHeartbeats 1000000 in
theorem A_callN {M' : am_M} {R' : Room} {post' : am_Post} {idx n : Nat} {av rest : List am_V} (hC : am_CN M.1.cls idx M' n) (hM : am_Met l M' R' av kd rv iv post') (hn : av.length = n) (hst : av.reverse ++ rest = st) (hw : am_wt rest ≤ 8) (hroom : R'.frames + 1 ≤ R.frames ∧ 8 + (M'.2.2.1 + 11) + R'.locals ≤ R.locals) (hcs : cu + R'.cells ≤ R.cells ∧ su + R'.slots ≤ R.slots) (hd : decode M.2.1 pc = .ok (.invokestatic idx, 3))
    (kk : ∀ (v : Option am_V) (kd' : am_kd) (rv' : am_rv) (iv' : am_iv), post' v kd' rv' iv' → am_W l M R post (pc + 3) ls (v.toList ++ rest) kd' rv' iv' (cu + R'.cells) (su + R'.slots)) : am_W l M R post pc ls st kd rv iv cu su := by
  intro p e s m args below meth c D A ad0 kd0 H locs lsA ad C Rr
  have hL := Rr.2.2.2.2.2.2
  subst hst
  obtain ⟨⟨h1, h2, h3⟩, ⟨host, h4⟩, h5⟩ := hC
  have hts : ∀ w ∈ am_T, w.before args s = true := fun w hw => C.2.2.2.2.2.1 w (List.mem_cons_of_mem _ hw)
  have hrest : ∀ v ∈ rest, am_lv kd v := fun v hv => hL v (List.mem_append_right _ hv)
  have hav : ∀ v ∈ av, am_lv kd v := fun v hv => hL v (List.mem_append_left _ (List.mem_reverse.mpr hv))
  refine am_after C Rr hrest (va_runSN (As := av.map (am_cv ad)) (rest := rest.map (am_cv ad)) (n := n) ⟨C.1, C.2.1, C.2.2.2.1, C.2.2.2.2.1, C.2.2.2.2.2.1⟩ (hM D ad H.size) ⟨va_cnB (ws' := am_T) n C.2.2.2.2.2.1 (am_good h1) rfl rfl rfl (C.2.2.2.2.2.2.2.2.1.2.1 _ h4) (hts _ h2) h3 hroom, hts _ h5, trivial⟩ ⟨am_Pc_blind, am_pre C Rr hav⟩ rfl (by rw [List.length_map]; exact hn) Rr.2.2.2.2.1.1 (by simp) (lv_room (by rw [am_wt_ok]; exact hw)) hd hcs) kk
theorem am_recv {s : State} {D : am_D} {A : Nat → Prop} {H : Heap} {ad : am_N → Nat} {n : am_N} {ci : Nat} {r : vw_C} (hK : am_KF D A s) (hR : am_HR D ad kd rv iv H) (hk : kd n = some (.inl ci)) (hr : vwCl[ci]? = some r) : ∃ cell : Cell, H[ad n]? = some cell ∧ cell.vm.isStatics = false ∧ s.vm.findClass r.1 = some cell.cls := by
  obtain ⟨r', hr', cell, q1, q2, q3, -⟩ := hR.1 n _ hk
  exact ⟨cell, q1, by rw [q3]; rfl, by rw [q2]; exact (hK.1.1 ci r hr).2.1⟩
set_option maxHeartbeats 1000000 in
theorem A_callV {M' : am_M} {R' : Room} {post' : am_Post} {idx n ci : Nat} {o : am_N} {r : vw_C} {av rest : List am_V} (hC : am_CV M.1.cls idx M' n) (hM : am_Met l M' R' (am_P o :: av) kd rv iv post') (hk : kd o = some (.inl ci)) (hr : vwCl[ci]? = some r) (hrc : r.1 = M'.1.cls) (hn : av.length = n) (hst : av.reverse ++ am_P o :: rest = st) (hw : am_wt rest ≤ 8) (hroom : R'.frames + 1 ≤ R.frames ∧ 8 + (M'.2.2.1 + 11) + R'.locals ≤ R.locals) (hcs : cu + R'.cells ≤ R.cells ∧ su + R'.slots ≤ R.slots) (hd : decode M.2.1 pc = .ok (.invokevirtual idx, 3))
    (kk : ∀ (v : Option am_V) (kd' : am_kd) (rv' : am_rv) (iv' : am_iv), post' v kd' rv' iv' → am_W l M R post (pc + 3) ls (v.toList ++ rest) kd' rv' iv' (cu + R'.cells) (su + R'.slots)) : am_W l M R post pc ls st kd rv iv cu su := by
  intro p e s m args below meth c D A ad0 kd0 H locs lsA ad C Rr
  have hL := Rr.2.2.2.2.2.2
  subst hst
  obtain ⟨⟨h1, h2, h3⟩, h4, h5, h6⟩ := hC
  have hts : ∀ w ∈ am_T, w.before args s = true := fun w hw => C.2.2.2.2.2.1 w (List.mem_cons_of_mem _ hw)
  have hrest : ∀ v ∈ rest, am_lv kd v := fun v hv => hL v (List.mem_append_right _ (List.mem_cons_of_mem _ hv))
  have hav : ∀ v ∈ am_P o :: av, am_lv kd v := fun v hv => by
    rcases List.mem_cons.mp hv with h | h
    · subst h; exact hL _ (List.mem_append_right _ List.mem_cons_self)
    · exact hL v (List.mem_append_left _ (List.mem_reverse.mpr h))
  have hrv := am_recv C.2.2.2.2.2.2.2.2.1 Rr.1 hk hr
  rw [hrc] at hrv
  refine am_after C Rr hrest (va_runV (As := av.map (am_cv ad)) (rest := rest.map (am_cv ad)) (n := n) (C := M'.1.cls) (b := ad o) ⟨C.1, C.2.1, C.2.2.2.1, C.2.2.2.2.1, C.2.2.2.2.2.1⟩ (hM D ad H.size) ⟨callB_of (ws' := am_T) n C.2.2.2.2.2.1 (am_good h1) rfl rfl rfl (hts _ h2) (hts _ h4) h3 hroom, hts _ h5, hts _ h6⟩ ⟨am_Pc_blind, hrv, am_pre C Rr hav⟩ rfl (by rw [List.length_map]; exact hn) Rr.2.2.2.2.1.1 (by simp [am_cv]) (lv_room (by rw [am_wt_ok]; exact hw)) hd hcs) kk
set_option maxHeartbeats 1000000 in
theorem A_callU {M' : am_M} {R' : Room} {post' : am_Post} {idx n ci : Nat} {x : MethodName} {owner : String} {o : am_N} {r : vw_C} {av rest : List am_V} (hC : am_CU M.1.cls idx x owner r.1 M' n) (hM : am_Met l M' R' (am_P o :: av) kd rv iv post') (hk : kd o = some (.inl ci)) (hr : vwCl[ci]? = some r) (hn : av.length = n) (hst : av.reverse ++ am_P o :: rest = st) (hw : am_wt rest ≤ 8) (hroom : R'.frames + 1 ≤ R.frames ∧ 8 + (M'.2.2.1 + 11) + R'.locals ≤ R.locals) (hcs : cu + R'.cells ≤ R.cells ∧ su + R'.slots ≤ R.slots) (hd : decode M.2.1 pc = .ok (.invokevirtual idx, 3))
    (kk : ∀ (v : Option am_V) (kd' : am_kd) (rv' : am_rv) (iv' : am_iv), post' v kd' rv' iv' → am_W l M R post (pc + 3) ls (v.toList ++ rest) kd' rv' iv' (cu + R'.cells) (su + R'.slots)) : am_W l M R post pc ls st kd rv iv cu su := by
  intro p e s m args below meth c D A ad0 kd0 H locs lsA ad C Rr
  have hL := Rr.2.2.2.2.2.2
  subst hst
  obtain ⟨⟨h1, h2, h3⟩, h4, h5, h6, ⟨b0, m0, r0, h7⟩, h8, h9, h10, h11, h12⟩ := hC
  have hts : ∀ w ∈ am_T, w.before args s = true := fun w hw => C.2.2.2.2.2.1 w (List.mem_cons_of_mem _ hw)
  have hrest : ∀ v ∈ rest, am_lv kd v := fun v hv => hL v (List.mem_append_right _ (List.mem_cons_of_mem _ hv))
  have hav : ∀ v ∈ am_P o :: av, am_lv kd v := fun v hv => by
    rcases List.mem_cons.mp hv with h | h
    · subst h; exact hL _ (List.mem_append_right _ List.mem_cons_self)
    · exact hL v (List.mem_append_left _ (List.mem_reverse.mpr h))
  have hrv := am_recv C.2.2.2.2.2.2.2.2.1 Rr.1 hk hr
  have hG := am_good (M := M) h1
  refine am_after C Rr hrest (va_runU (x := x) (owner := owner) (bytes := M'.2.1) (maxL := M'.2.2.1) (ret := M'.2.2.2) (As := av.map (am_cv ad)) (rest := rest.map (am_cv ad)) (n := n) (C := r.1) (b := ad o) ⟨C.1, C.2.1, C.2.2.2.1, C.2.2.2.2.1, C.2.2.2.2.2.1⟩ (hM D ad H.size) ⟨⟨rfl, rfl, hroom.1, hroom.2, pay_in C.2.2.2.2.2.1 hG, List.mem_cons_self⟩, hts _ h1, hts _ h2, ⟨h10, h11⟩, fun sig h => ?_, hts _ h4, hts _ h5, va_Decl.of (hts _ h6) (hts _ h7), hts _ h8, hts _ h9⟩ ⟨am_Pc_blind, hrv, am_pre C Rr hav⟩ rfl (by rw [List.length_map]; exact hn) Rr.2.2.2.2.1.1 (by simp [am_cv]) (lv_room (by rw [am_wt_ok]; exact hw)) hd hcs) kk
  rw [h] at h12
  exact (Option.some.inj h12).symm
set_option maxHeartbeats 1000000 in
theorem A_callP {M' : am_M} {R' : Room} {post' : am_Post} {idx n ci : Nat} {o : am_N} {r : vw_C} {av rest : List am_V} (hC : am_CP M.1.cls idx M' n) (hM : am_Met l M' R' (am_P o :: av) kd rv iv post') (hk : kd o = some (.inl ci)) (hr : vwCl[ci]? = some r) (hn : av.length = n) (hst : av.reverse ++ am_P o :: rest = st) (hw : am_wt rest ≤ 8) (hroom : R'.frames + 1 ≤ R.frames ∧ 8 + (M'.2.2.1 + 11) + R'.locals ≤ R.locals) (hcs : cu + R'.cells ≤ R.cells ∧ su + R'.slots ≤ R.slots) (hd : decode M.2.1 pc = .ok (.invokespecial idx, 3))
    (kk : ∀ (v : Option am_V) (kd' : am_kd) (rv' : am_rv) (iv' : am_iv), post' v kd' rv' iv' → am_W l M R post (pc + 3) ls (v.toList ++ rest) kd' rv' iv' (cu + R'.cells) (su + R'.slots)) : am_W l M R post pc ls st kd rv iv cu su := by
  intro p e s m args below meth c D A ad0 kd0 H locs lsA ad C Rr
  have hL := Rr.2.2.2.2.2.2
  subst hst
  obtain ⟨⟨h1, h2, h3, h3b, h3c⟩, h4, h5, h6, h7, h8⟩ := hC
  have hts : ∀ w ∈ am_T, w.before args s = true := fun w hw => C.2.2.2.2.2.1 w (List.mem_cons_of_mem _ hw)
  have hrest : ∀ v ∈ rest, am_lv kd v := fun v hv => hL v (List.mem_append_right _ (List.mem_cons_of_mem _ hv))
  have hav : ∀ v ∈ am_P o :: av, am_lv kd v := fun v hv => by
    rcases List.mem_cons.mp hv with h | h
    · subst h; exact hL _ (List.mem_append_right _ List.mem_cons_self)
    · exact hL v (List.mem_append_left _ (List.mem_reverse.mpr h))
  have hrv := am_recv C.2.2.2.2.2.2.2.2.1 Rr.1 hk hr
  have hat := (C.2.2.2.2.2.2.2.2.1.1.1 ci r hr).2
  have hG := am_good (M := M) h1
  refine am_after C Rr hrest (va_runSU (C := r.1) hat (bytes := M'.2.1) (maxL := M'.2.2.1) (ret := M'.2.2.2) (As := av.map (am_cv ad)) (rest := rest.map (am_cv ad)) (n := n) (b := ad o) ⟨C.1, C.2.1, C.2.2.2.1, C.2.2.2.2.1, C.2.2.2.2.2.1⟩ (hM D ad H.size) ⟨⟨rfl, rfl, hroom.1, hroom.2, pay_in C.2.2.2.2.2.1 hG, List.mem_cons_self⟩, hts _ h4, hts _ h5, hts _ h6, hts _ h7, hts _ h2, hts _ h1, h8, fun sig h => ?_⟩ ⟨am_Pc_blind, hrv, am_pre C Rr hav⟩ rfl (by rw [List.length_map]; exact hn) Rr.2.2.2.2.1.1 (by simp [am_cv]) (lv_room (by rw [am_wt_ok]; exact hw)) hd hcs) kk
  rw [h] at h3c
  exact (Option.some.inj h3c).symm
set_option maxHeartbeats 1000000 in
theorem A_callI {y : MethodName} {cc : ByteArray} {mL : Nat} {R' : Room} {post' : am_Post} {idx n : Nat} {o : am_N} {av rest : List am_V} (hC : am_CI M.1.cls idx (y, cc, mL, none) n) (hM : am_Met l (y, cc, mL, none) R' (am_P o :: av) kd rv iv post') (hn : av.length = n) (hst : av.reverse ++ am_P o :: rest = st) (hw : am_wt rest ≤ 8) (hroom : R'.frames + 1 ≤ R.frames ∧ 8 + (mL + 11) + R'.locals ≤ R.locals) (hcs : cu + R'.cells ≤ R.cells ∧ su + R'.slots ≤ R.slots) (hd : decode M.2.1 pc = .ok (.invokespecial idx, 3))
    (kk : ∀ (v : Option am_V) (kd' : am_kd) (rv' : am_rv) (iv' : am_iv), post' v kd' rv' iv' → am_W l M R post (pc + 3) ls (v.toList ++ rest) kd' rv' iv' (cu + R'.cells) (su + R'.slots)) : am_W l M R post pc ls st kd rv iv cu su := by
  intro p e s m args below meth c D A ad0 kd0 H locs lsA ad C Rr
  have hL := Rr.2.2.2.2.2.2
  subst hst
  obtain ⟨⟨h1, h2, h3⟩, h4, h5, h6, h7⟩ := hC
  have hts : ∀ w ∈ am_T, w.before args s = true := fun w hw => C.2.2.2.2.2.1 w (List.mem_cons_of_mem _ hw)
  have hrest : ∀ v ∈ rest, am_lv kd v := fun v hv => hL v (List.mem_append_right _ (List.mem_cons_of_mem _ hv))
  have hav : ∀ v ∈ am_P o :: av, am_lv kd v := fun v hv => by
    rcases List.mem_cons.mp hv with h | h
    · subst h; exact hL _ (List.mem_append_right _ List.mem_cons_self)
    · exact hL v (List.mem_append_left _ (List.mem_reverse.mpr h))
  refine am_after C Rr hrest (va_runI (As := av.map (am_cv ad)) (rest := rest.map (am_cv ad)) (n := n) (b := ad o) ⟨C.1, C.2.1, C.2.2.2.1, C.2.2.2.2.1, C.2.2.2.2.2.1⟩ (hM D ad H.size) ⟨callB_of (ws' := am_T) n C.2.2.2.2.2.1 (am_good (M' := (y, cc, mL, none)) h1) rfl rfl rfl (hts _ h2) (hts _ h4) h3 hroom, h6, hts _ h5⟩ ⟨am_Pc_blind, am_pre C Rr hav⟩ rfl (by rw [List.length_map]; exact hn) Rr.2.2.2.2.1.1 (by simp [am_cv]) (lv_room (by rw [am_wt_ok]; exact hw)) hd hcs) kk
theorem A_objInit {idx : Nat} {v : am_N} (h1 : Cond.methodLink M.1.cls idx Lib.objectInit ∈ am_T) (h2 : Cond.instanceMethod Lib.objectInit ∈ am_T) (h3 : Cond.code Lib.objectInit ⟨#[0xb1]⟩ 1 none ∈ am_T) (hR : 1 ≤ R.frames) (hw : am_wt st + 12 ≤ R.locals) (hd : decode M.2.1 pc = .ok (.invokespecial idx, 3)) (k : am_W l M R post (pc + 3) ls st kd rv iv cu su) : am_W l M R post pc ls (am_P v :: st) kd rv iv cu su := by
  intro p e s m args below meth c D A ad0 kd0 H locs lsA ad C Rr
  have hts : ∀ w ∈ am_T, w.before args s = true := fun w hw => C.2.2.2.2.2.1 w (List.mem_cons_of_mem _ hw)
  refine W.objInit C.1 C.2.1 C.2.2.2.2.1 (hts _ h1) (hts _ h2) (hts _ h3) rfl (Rr.2.2.2.2.1.1.trans C.2.2.2.1.symm) rfl hd hR ?_ (k p e s m args below meth c D A ad0 kd0 H locs lsA ad C (Rr.stk (am_l1 Rr.2.2.2.2.2.2)))
  show 2 * 0 + _ + 12 ≤ R.locals
  rw [am_wt_ok]
  omega
end AC
