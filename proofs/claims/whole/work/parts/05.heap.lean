/-! the classes' words in the tables, by their places -/
theorem am_u0 : ∀ w ∈ u_ws RX0 TX0 3, w ∈ am_T := by
  have e : u_ws RX0 TX0 3 = ([394, 395, 396] : List Nat).filterMap (fun i => lw_tbl[i]?) := by decide +kernel
  have g : (u_ws RX0 TX0 3).all goodWord = true := by decide +kernel
  intro w hw
  refine List.mem_filter.mpr ⟨?_, List.all_eq_true.mp g w hw⟩
  rw [e] at hw
  obtain ⟨i, -, hi⟩ := List.mem_filterMap.mp hw
  exact List.mem_of_getElem? hi
theorem am_u1 : ∀ w ∈ u_ws RX1 TX1 3, w ∈ am_T := by
  have e : u_ws RX1 TX1 3 = ([384, 385, 386] : List Nat).filterMap (fun i => lw_tbl[i]?) := by decide +kernel
  have g : (u_ws RX1 TX1 3).all goodWord = true := by decide +kernel
  intro w hw
  refine List.mem_filter.mpr ⟨?_, List.all_eq_true.mp g w hw⟩
  rw [e] at hw
  obtain ⟨i, -, hi⟩ := List.mem_filterMap.mp hw
  exact List.mem_of_getElem? hi
theorem am_u2 : ∀ w ∈ u_ws RX2 TX2 3, w ∈ am_T := by
  have e : u_ws RX2 TX2 3 = ([431, 432, 433] : List Nat).filterMap (fun i => lw_tbl[i]?) := by decide +kernel
  have g : (u_ws RX2 TX2 3).all goodWord = true := by decide +kernel
  intro w hw
  refine List.mem_filter.mpr ⟨?_, List.all_eq_true.mp g w hw⟩
  rw [e] at hw
  obtain ⟨i, -, hi⟩ := List.mem_filterMap.mp hw
  exact List.mem_of_getElem? hi
theorem am_u3 : ∀ w ∈ u_ws RX3 TX3 8, w ∈ am_T := by
  have e : u_ws RX3 TX3 8 = ([126, 128, 130, 132, 134, 136, 138, 140] : List Nat).filterMap (fun i => lw_tbl[i]?) := by decide +kernel
  have g : (u_ws RX3 TX3 8).all goodWord = true := by decide +kernel
  intro w hw
  refine List.mem_filter.mpr ⟨?_, List.all_eq_true.mp g w hw⟩
  rw [e] at hw
  obtain ⟨i, -, hi⟩ := List.mem_filterMap.mp hw
  exact List.mem_of_getElem? hi
theorem am_u4 : ∀ w ∈ u_ws RX4 TX4 13, w ∈ am_T := by
  have e : u_ws RX4 TX4 13 = ([223, 225, 227, 229, 231, 233, 235, 237, 239, 241, 243, 245, 247] : List Nat).filterMap (fun i => lw_tbl[i]?) := by decide +kernel
  have g : (u_ws RX4 TX4 13).all goodWord = true := by decide +kernel
  intro w hw
  refine List.mem_filter.mpr ⟨?_, List.all_eq_true.mp g w hw⟩
  rw [e] at hw
  obtain ⟨i, -, hi⟩ := List.mem_filterMap.mp hw
  exact List.mem_of_getElem? hi
theorem am_u5 : ∀ w ∈ u_ws RX5 TX5 3, w ∈ am_T := by
  have e : u_ws RX5 TX5 3 = ([191, 193, 195] : List Nat).filterMap (fun i => lw_tbl[i]?) := by decide +kernel
  have g : (u_ws RX5 TX5 3).all goodWord = true := by decide +kernel
  intro w hw
  refine List.mem_filter.mpr ⟨?_, List.all_eq_true.mp g w hw⟩
  rw [e] at hw
  obtain ⟨i, -, hi⟩ := List.mem_filterMap.mp hw
  exact List.mem_of_getElem? hi
theorem am_u6 : ∀ w ∈ u_ws RX6 TX6 3, w ∈ am_T := by
  have e : u_ws RX6 TX6 3 = ([424, 425, 426] : List Nat).filterMap (fun i => lw_tbl[i]?) := by decide +kernel
  have g : (u_ws RX6 TX6 3).all goodWord = true := by decide +kernel
  intro w hw
  refine List.mem_filter.mpr ⟨?_, List.all_eq_true.mp g w hw⟩
  rw [e] at hw
  obtain ⟨i, -, hi⟩ := List.mem_filterMap.mp hw
  exact List.mem_of_getElem? hi
theorem am_u7 : ∀ w ∈ u_ws RX7 TX7 7, w ∈ am_T := by
  have e : u_ws RX7 TX7 7 = ([161, 163, 165, 167, 169, 171, 173] : List Nat).filterMap (fun i => lw_tbl[i]?) := by decide +kernel
  have g : (u_ws RX7 TX7 7).all goodWord = true := by decide +kernel
  intro w hw
  refine List.mem_filter.mpr ⟨?_, List.all_eq_true.mp g w hw⟩
  rw [e] at hw
  obtain ⟨i, -, hi⟩ := List.mem_filterMap.mp hw
  exact List.mem_of_getElem? hi
theorem am_u8 : ∀ w ∈ u_ws RX8 TX8 3, w ∈ am_T := by
  have e : u_ws RX8 TX8 3 = ([371, 373, 375] : List Nat).filterMap (fun i => lw_tbl[i]?) := by decide +kernel
  have g : (u_ws RX8 TX8 3).all goodWord = true := by decide +kernel
  intro w hw
  refine List.mem_filter.mpr ⟨?_, List.all_eq_true.mp g w hw⟩
  rw [e] at hw
  obtain ⟨i, -, hi⟩ := List.mem_filterMap.mp hw
  exact List.mem_of_getElem? hi
theorem am_u9 : ∀ w ∈ u_ws RX9 TX9 3, w ∈ am_T := by
  have e : u_ws RX9 TX9 3 = ([404, 405, 406] : List Nat).filterMap (fun i => lw_tbl[i]?) := by decide +kernel
  have g : (u_ws RX9 TX9 3).all goodWord = true := by decide +kernel
  intro w hw
  refine List.mem_filter.mpr ⟨?_, List.all_eq_true.mp g w hw⟩
  rw [e] at hw
  obtain ⟨i, -, hi⟩ := List.mem_filterMap.mp hw
  exact List.mem_of_getElem? hi
theorem am_u10 : ∀ w ∈ u_ws RX10 TX10 3, w ∈ am_T := by
  have e : u_ws RX10 TX10 3 = ([414, 415, 416] : List Nat).filterMap (fun i => lw_tbl[i]?) := by decide +kernel
  have g : (u_ws RX10 TX10 3).all goodWord = true := by decide +kernel
  intro w hw
  refine List.mem_filter.mpr ⟨?_, List.all_eq_true.mp g w hw⟩
  rw [e] at hw
  obtain ⟨i, -, hi⟩ := List.mem_filterMap.mp hw
  exact List.mem_of_getElem? hi
theorem am_u11 : ∀ w ∈ u_ws RX11 TX11 9, w ∈ am_T := by
  have e : u_ws RX11 TX11 9 = ([264, 266, 268, 270, 272, 274, 276, 278, 280] : List Nat).filterMap (fun i => lw_tbl[i]?) := by decide +kernel
  have g : (u_ws RX11 TX11 9).all goodWord = true := by decide +kernel
  intro w hw
  refine List.mem_filter.mpr ⟨?_, List.all_eq_true.mp g w hw⟩
  rw [e] at hw
  obtain ⟨i, -, hi⟩ := List.mem_filterMap.mp hw
  exact List.mem_of_getElem? hi
theorem am_u12 : ∀ w ∈ u_ws RX12 TX12 21, w ∈ am_T := by
  have e : u_ws RX12 TX12 21 = ([1136, 1138, 1140, 1142, 1144, 1146, 1148, 1150, 1152, 1154, 1156, 1158, 1160, 1162, 1164, 1166, 1168, 1170, 1172, 1174, 1176] : List Nat).filterMap (fun i => lw_tbl[i]?) := by decide +kernel
  have g : (u_ws RX12 TX12 21).all goodWord = true := by decide +kernel
  intro w hw
  refine List.mem_filter.mpr ⟨?_, List.all_eq_true.mp g w hw⟩
  rw [e] at hw
  obtain ⟨i, -, hi⟩ := List.mem_filterMap.mp hw
  exact List.mem_of_getElem? hi
def am_okty (t : FieldType) : Bool := match t with
  | .int => true | .boolean => true | .object _ => true | .array _ => true | _ => false
def am_cls (ci : Nat) (r : vw_C) : Prop := (∀ w ∈ u_ws r.1 r.2.1 r.2.2, w ∈ am_T) ∧ (∀ k, k < r.2.2 → parseFieldDescriptor (r.2.1 k).2.2.1 = some (am_fty ci k)) ∧ (∀ a, a < r.2.2 → ∀ b, b < r.2.2 → a ≠ b → (r.2.1 a).2.1 ≠ (r.2.1 b).2.1) ∧ ∀ k, k < r.2.2 → am_okty (am_fty ci k) = true
theorem am_cls_ok : ∀ (ci : Nat) (r : vw_C), vwCl[ci]? = some r → am_cls ci r := by
  intro ci r h
  match ci, h with
  | 0, h => cases h; exact ⟨am_u0, tyX0_ok, nmX0, by decide +kernel⟩
  | 1, h => cases h; exact ⟨am_u1, tyX1_ok, nmX1, by decide +kernel⟩
  | 2, h => cases h; exact ⟨am_u2, tyX2_ok, nmX2, by decide +kernel⟩
  | 3, h => cases h; exact ⟨am_u3, tyX3_ok, nmX3, by decide +kernel⟩
  | 4, h => cases h; exact ⟨am_u4, tyX4_ok, nmX4, by decide +kernel⟩
  | 5, h => cases h; exact ⟨am_u5, tyX5_ok, nmX5, by decide +kernel⟩
  | 6, h => cases h; exact ⟨am_u6, tyX6_ok, nmX6, by decide +kernel⟩
  | 7, h => cases h; exact ⟨am_u7, tyX7_ok, nmX7, by decide +kernel⟩
  | 8, h => cases h; exact ⟨am_u8, tyX8_ok, nmX8, by decide +kernel⟩
  | 9, h => cases h; exact ⟨am_u9, tyX9_ok, nmX9, by decide +kernel⟩
  | 10, h => cases h; exact ⟨am_u10, tyX10_ok, nmX10, by decide +kernel⟩
  | 11, h => cases h; exact ⟨am_u11, tyX11_ok, nmX11, by decide +kernel⟩
  | 12, h => cases h; exact ⟨am_u12, tyX12_ok, nmX12, by decide +kernel⟩
  | n + 13, h => simp [vwCl] at h
/-- a field by a place of a class's pool: class number ci, slot k -/
def am_Fl (own : String) (idx ci k : Nat) : Prop := ∃ (r : vw_C) (ref : String), vwCl[ci]? = some r ∧ k < r.2.2 ∧ Cond.fieldLink own idx ref (r.2.1 k).2.1 (r.2.1 k).2.2.1 ∈ am_T ∧ (ref = (r.2.1 k).1 ∨ Cond.sameField ref (r.2.1 k).1 (r.2.1 k).2.1 (r.2.1 k).2.2.1 ∈ am_T)
def am_ui (iv : am_iv) (n : am_N) (k : Nat) (v : Int32) : am_iv := fun n' k' => if n' = n ∧ k' = k then v else iv n' k'
def am_ur (rv : am_rv) (n : am_N) (k : Nat) (o : Option am_N) : am_rv := fun n' k' => if n' = n ∧ k' = k then o else rv n' k'
def am_uk (kd : am_kd) (n : am_N) (K : am_K) : am_kd := fun n' => if n' = n then some K else kd n'
theorem am_ui_s (iv : am_iv) (n : am_N) (k : Nat) (v : Int32) : am_ui iv n k v n k = v := by simp [am_ui]
theorem am_ui_n {iv : am_iv} {n n' : am_N} {k k' : Nat} {v : Int32} (h : ¬ (n' = n ∧ k' = k)) : am_ui iv n k v n' k' = iv n' k' := by simp [am_ui, h]
theorem am_at.to {D : am_D} {ad : am_N → Nat} {rv rv' : am_rv} {iv iv' : am_iv} {n : am_N} {K : am_K} {H H' : Heap} (h : am_at D ad rv iv n K H) (hH : ¬ am_op K → H'[ad n]? = H[ad n]?) (hr : ∀ k, rv' n k = rv n k) (hi : ∀ k, iv' n k = iv n k) : am_at D ad rv' iv' n K H' := by
  have hs : ∀ r k, am_sv ad rv' iv' r n k = am_sv ad rv iv r n k := fun r k => by simp only [am_sv, hr, hi]
  cases K with
  | inl ci =>
    obtain ⟨r, h1, h2⟩ := h
    exact ⟨r, h1, (h2.kept (hH (fun h => h))).to (fun k _ => (hs _ k).symm)⟩
  | inr a =>
    refine ⟨fun h9 => ?_, h.2⟩
    have e : (fun j => am_sv ad rv' iv' (am_isr (am_aty a.1)) n j) = fun j => am_sv ad rv iv (am_isr (am_aty a.1)) n j := funext fun j => hs _ j
    rw [hH (fun h8 => by simp only [am_op] at h8; omega), e]
    exact h.1 h9
theorem am_HR.lt {D : am_D} {ad : am_N → Nat} {kd : am_kd} {rv : am_rv} {iv : am_iv} {H : Heap} (h : am_HR D ad kd rv iv H) {n : am_N} {K : am_K} (hk : kd n = some K) (ho : ¬ am_op K) : ad n < H.size := by
  have h1 := h.1 n K hk
  cases K with
  | inl ci =>
    obtain ⟨r, -, cell, h2, -⟩ := h1
    exact (Array.getElem?_eq_some_iff.mp h2).1
  | inr a => exact (Array.getElem?_eq_some_iff.mp (h1.1 (by simp only [am_op] at ho; omega))).1
/-- one cell changes -/
theorem am_HR.set {D : am_D} {ad : am_N → Nat} {kd : am_kd} {rv rv' : am_rv} {iv iv' : am_iv} {H H' : Heap} (h : am_HR D ad kd rv iv H) {n : am_N} {K : am_K} (hk : kd n = some K) (ho : ¬ am_op K) (oq : ∀ q : Nat, q ≠ ad n → H'[q]? = H[q]?) (hn : am_at D ad rv' iv' n K H') (hr : ∀ n' k, n' ≠ n → rv' n' k = rv n' k) (hi : ∀ n' k, n' ≠ n → iv' n' k = iv n' k) (hl : ∀ k o, rv' n k = some o → kd o ≠ none) : am_HR D ad kd rv' iv' H' := by
  have ht : n.1 < 40 := by
    have := h.2.2.2 n K hk
    rcases Nat.lt_or_ge n.1 40 with h1 | h1
    · exact h1
    · exact absurd (this.mp h1) ho
  refine ⟨fun n' K' hk' => ?_, h.2.1, fun n' k o h1 h2 => ?_, h.2.2.2⟩
  · by_cases hn' : n' = n
    · subst hn'
      rw [hk] at hk'; cases hk'
      exact hn
    · refine (h.1 n' K' hk').to (fun hop => oq _ (fun e => hn' ?_)) (fun k => hr n' k hn') (fun k => hi n' k hn')
      have ht' : n'.1 < 40 := by
        have := h.2.2.2 n' K' hk'
        rcases Nat.lt_or_ge n'.1 40 with h1 | h1
        · exact h1
        · exact absurd (this.mp h1) hop
      exact h.2.1 n' n (by rw [hk']; exact fun h => by cases h) (by rw [hk]; exact fun h => by cases h) ht' ht e
  · by_cases hn' : n' = n
    · subst hn'; exact hl k o h2
    · rw [hr n' k hn'] at h2
      exact h.2.2.1 n' k o h1 h2
theorem am_R.heap {M : am_M} {ls : List (Option am_V)} {st st' : List am_V} {kd : am_kd} {rv rv' : am_rv} {iv iv' : am_iv} {s : State} {D : am_D} {A : Nat → Prop} {ad0 : am_N → Nat} {kd0 : am_kd} {H H' : Heap} {locs locs' : List Loc} {lsA : Array Slot} {ad : am_N → Nat} (h : am_R M s D A ad0 kd0 H locs lsA ad ls st kd rv iv) (hH : am_HR D ad kd rv' iv' H') (hS : va_S A s.heap H' locs') (h' : ∀ v ∈ st', am_lv kd v) : am_R M s D A ad0 kd0 H' locs' lsA ad ls st' kd rv' iv' := ⟨hH, h.2.1, hS, h.2.2.2.1, h.2.2.2.2.1, h.2.2.2.2.2.1, h'⟩
section AH
variable {l : Launch} {M : am_M} {R : Room} {post : am_Post} {pc : Nat} {ls : List (Option am_V)} {st : List am_V} {kd : am_kd} {rv : am_rv} {iv : am_iv} {cu su : Nat}
theorem am_KT {D : am_D} {A : Nat → Prop} {s : State} (h : am_KF D A s) : va_K D.1 vwCl (am_tys D) s := h.1
theorem am_arr {D : am_D} {A : Nat → Prop} {s : State} (h : am_KF D A s) {t : Nat} (ht : t < 5) : ArrOfT s (D.2.1 t) (am_aty t) ∧ va_RA s (D.2.1 t) (am_aty t) := by
  match t, ht with
  | 0, _ => exact h.1.2 0 _ rfl
  | 1, _ => exact h.1.2 1 _ rfl
  | 2, _ => exact h.1.2 2 _ rfl
  | 3, _ => exact h.1.2 3 _ rfl
  | 4, _ => exact h.1.2 4 _ rfl
set_option maxHeartbeats 1000000 in
theorem am_getc {p : Program} {e : Env} {s : State} {m : MethodId} {args : Array Value} {below : List Frame} {meth : Method} {c : Code} {D : am_D} {A : Nat → Prop} {H : Heap} {locs : List Loc} {lsA : Array Slot} {ad : am_N → Nat} {Q : State → Prop} {n : am_N} {ci idx slot : Nat} {rest : List Value} (C : am_C M p s m args meth c D A) (hR : am_HR D ad kd rv iv H) (hf : am_Fl M.1.cls idx ci slot) (hk : kd n = some (.inl ci)) (hd : decode M.2.1 pc = .ok (.getfield idx, 3))
    (kk : W p l e R s m args below meth c H locs cu su Q (F0 m (pc + 3) lsA (am_sv ad rv iv (am_isr (am_fty ci slot)) n slot :: rest))) : W p l e R s m args below meth c H locs cu su Q (F0 m pc lsA (.ref (ad n) :: rest)) := by
  obtain ⟨r, ref, hr, hsl, hlink, hsame⟩ := hf
  obtain ⟨h1, h2, -⟩ := am_cls_ok ci r hr
  obtain ⟨r', hr', hob⟩ := hR.1 n _ hk
  cases hr.symm.trans hr'
  have hts : ∀ w ∈ am_T, w.before args s = true := fun w hw => C.2.2.2.2.2.1 w (List.mem_cons_of_mem _ hw)
  have hP : va_P D.1 vwCl [(ad n, .inr (ci, (List.range r.2.2).map (fun k => am_sv ad rv iv (am_isr (am_fty ci k)) n k)))] H := by
    intro k q hq
    match k, hq with
    | 0, hq =>
      cases hq
      refine ⟨r, hr, hob.to (fun k hk => ?_)⟩
      simp [vp_V, List.getD, hk]
    | k + 1, hq => simp at hq
  refine va_get (C := r.1) (T := r.2.1) (N := r.2.2) (v := am_sv ad rv iv (am_isr (am_fty ci slot)) n slot) C.1 C.2.1 hts h1 C.2.2.2.2.1 (am_KT C.2.2.2.2.2.2.2.2.1) hP 0 rfl hr slot hsl (hts _ hlink) (fun x hx => ?_) ?_ hd kk
  · rcases hsame with h | h
    · rw [h]; exact hx
    · exact u_same (hts _ h) x hx
  · simp [hsl]
theorem A_geti {n : am_N} {ci idx : Nat} (slot : Nat) (hf : am_Fl M.1.cls idx ci slot) (hk : kd n = some (.inl ci)) (ht : am_isr (am_fty ci slot) = false) (hd : decode M.2.1 pc = .ok (.getfield idx, 3)) (k : am_W l M R post (pc + 3) ls (am_I (iv n slot) :: st) kd rv iv cu su) : am_W l M R post pc ls (am_P n :: st) kd rv iv cu su := by
  intro p e s m args below meth c D A ad0 kd0 H locs lsA ad C Rr
  have hL := Rr.2.2.2.2.2.2
  refine am_getc C Rr.1 hf hk hd ?_
  have h := k p e s m args below meth c D A ad0 kd0 H locs lsA ad C (Rr.stk (am_l0 (am_l1 hL)))
  simp only [am_sv, ht]
  exact h
theorem A_getr {n : am_N} {ci idx : Nat} (slot : Nat) {o : am_N} (hf : am_Fl M.1.cls idx ci slot) (hk : kd n = some (.inl ci)) (ht : am_isr (am_fty ci slot) = true) (hr : rv n slot = some o) (hd : decode M.2.1 pc = .ok (.getfield idx, 3)) (k : am_W l M R post (pc + 3) ls (am_P o :: st) kd rv iv cu su) : am_W l M R post pc ls (am_P n :: st) kd rv iv cu su := by
  intro p e s m args below meth c D A ad0 kd0 H locs lsA ad C Rr
  have hL := Rr.2.2.2.2.2.2
  refine am_getc C Rr.1 hf hk hd ?_
  have h := k p e s m args below meth c D A ad0 kd0 H locs lsA ad C (Rr.stk (am_lc (Rr.1.2.2.1 n slot o (by rw [hk]; exact fun h => by cases h) hr) (am_l1 hL)))
  simp only [am_sv, ht, hr]
  exact h
set_option maxHeartbeats 1000000 in
/-- a field is written: not a final one, or in a constructor of its own class -/
theorem am_putc {p : Program} {e : Env} {s : State} {m : MethodId} {args : Array Value} {below : List Frame} {meth : Method} {c : Code} {D : am_D} {A : Nat → Prop} {H : Heap} {locs : List Loc} {lsA : Array Slot} {ad : am_N → Nat} {Q : State → Prop} {n : am_N} {ci idx slot : Nat} {rest : List Value} {v : Value} (rv' : am_rv) (iv' : am_iv) (C : am_C M p s m args meth c D A) (hR : am_HR D ad kd rv iv H) (hA : ∀ n, kd n ≠ none → n.1 < 40 → A (ad n)) (hS0 : va_S A s.heap H locs) (hf : am_Fl M.1.cls idx ci slot) (hk : kd n = some (.inl ci)) (hfin : ∀ r, vwCl[ci]? = some r → (r.2.1 slot).2.2.2 = false ∨ (M.1.name = "<init>" ∧ (r.2.1 slot).1 = M.1.cls)) (hnar : narrow (am_fty ci slot) v = v) (hfit : fits (am_fty ci slot) v = true) (hd : decode M.2.1 pc = .ok (.putfield idx, 3))
    (hsv : ∀ j, am_sv ad rv' iv' (am_isr (am_fty ci j)) n j = updV (fun j => am_sv ad rv iv (am_isr (am_fty ci j)) n j) slot v j) (hr' : ∀ n' k, n' ≠ n → rv' n' k = rv n' k) (hi' : ∀ n' k, n' ≠ n → iv' n' k = iv n' k) (hl : ∀ k o, rv' n k = some o → kd o ≠ none)
    (kk : ∀ H' locs', am_HR D ad kd rv' iv' H' → va_S A s.heap H' locs' → W p l e R s m args below meth c H' locs' cu su Q (F0 m (pc + 3) lsA rest)) : W p l e R s m args below meth c H locs cu su Q (F0 m pc lsA (v :: .ref (ad n) :: rest)) := by
  obtain ⟨r, ref, hr, hsl, hlink, hsame⟩ := hf
  obtain ⟨h1, h2, h3, -⟩ := am_cls_ok ci r hr
  obtain ⟨r', hr9, cell, q1, q2, q3, q4⟩ := hR.1 n _ hk
  cases hr.symm.trans hr9
  have hts : ∀ w ∈ am_T, w.before args s = true := fun w hw => C.2.2.2.2.2.1 w (List.mem_cons_of_mem _ hw)
  have hK := am_KT C.2.2.2.2.2.2.2.2.1
  have hap := va_apart (own := M.1.cls) (C := r.1) (T := r.2.1) (N := r.2.2) hts h1 (am_fty ci) h2 h3 hK hr
  obtain ⟨hS, hfc, kC, hkC, hkind⟩ := hK.1 ci _ hr
  obtain ⟨cf, kf, fi, f, hi, hsf⟩ := hS slot hsl
  have hsm : s.fieldFound? ref (r.2.1 slot).2.1 (r.2.1 slot).2.2.1 = some (cf, kf, fi, f) := by
    rcases hsame with h | h
    · rw [h]; exact hi
    · exact u_same (hts _ h) _ hi
  have hlay := hts _ (h1 _ (u_in_lay hsl))
  have hst := (u_facts hfc hkC (u_lays hts h1 hsl) hi).1
  have hne : ¬ am_op (.inl ci : am_K) := fun h => h
  have ht : n.1 < 40 := by
    have := hR.2.2.2 n _ hk
    rcases Nat.lt_or_ge n.1 40 with h1 | h1
    · exact h1
    · exact absurd (this.mp h1) hne
  have hAn : A (ad n) := hA n (by rw [hk]; exact fun h => by cases h) ht
  have fin : ∀ H' : Heap, H'[ad n]? = some (cell.setSlot (D.1.2 ci slot) v) → H'.size = H.size → (∀ q, q ≠ ad n → H'[q]? = H[q]?) → W p l e R s m args below meth c H' (locs ++ [⟨ad n, D.1.2 ci slot⟩]) cu su Q (F0 m (pc + 3) lsA rest) := by
    intro H' e1 e2 e3
    refine kk H' _ (hR.set hk hne e3 ⟨r, hr, ?_⟩ hr' hi' hl) (hS0.put e2 e3 hAn)
    exact t_OB.to (V := updV (fun j => am_sv ad rv iv (am_isr (am_fty ci j)) n j) slot v) ⟨_, e1, q2, q3, t_set q4 hap hsl v⟩ (fun j _ => (hsv j).symm)
  unfold u_lay at hlay
  rcases hfin r hr with hfn | ⟨hnm, hdc⟩
  · rw [if_neg (by rw [hfn]; decide)] at hlay
    have h6 := u_store hfc hkC hkind hlay hi (h2 slot hsl) hnar hfit
    refine W.putK C.1 C.2.1 (f := f) ⟨C.2.2.2.2.1, hts _ hlink, ⟨_, _, _, hsm⟩, hst⟩ (by rw [q2]; exact h6) q1 q3 (by rw [hsf]; exact k2_hasslot (q4 slot hsl)) rfl rfl hd fun H' e1 e2 e3 => ?_
    rw [hsf] at e1 ⊢
    exact fin H' e1 e2 e3
  · by_cases hfn : (r.2.1 slot).2.2.2 = true
    · rw [if_pos hfn] at hlay
      have hcf : m.cls = cf := by
        obtain ⟨_, _, c', _, _, _, -, -, hf', -, -, -, hown2, -⟩ := Cond.laysFinal_spec hlay
        have e1 : c' = cf := by have := hi.symm.trans hf'; simp at this; exact this.1.symm
        rw [hdc] at hown2
        rw [← e1]; exact Option.some.inj (C.2.2.2.2.1.symm.trans hown2)
      have h6 := u_fits hfc hkC hkind (Or.inr hlay) hi (h2 slot hsl) hnar hfit
      refine W.putFinK C.1 C.2.1 C.2.2.2.2.1 (hts _ hlink) hsm hst hcf (by rw [C.2.2.2.2.2.2.2.1]; exact hnm) (by rw [q2]; exact h6) q1 q3 (by rw [hsf]; exact k2_hasslot (q4 slot hsl)) rfl rfl hd fun H' e1 e2 e3 => ?_
      rw [hsf] at e1 ⊢
      exact fin H' e1 e2 e3
    · rw [if_neg hfn] at hlay
      have h6 := u_store hfc hkC hkind hlay hi (h2 slot hsl) hnar hfit
      refine W.putK C.1 C.2.1 (f := f) ⟨C.2.2.2.2.1, hts _ hlink, ⟨_, _, _, hsm⟩, hst⟩ (by rw [q2]; exact h6) q1 q3 (by rw [hsf]; exact k2_hasslot (q4 slot hsl)) rfl rfl hd fun H' e1 e2 e3 => ?_
      rw [hsf] at e1 ⊢
      exact fin H' e1 e2 e3
def am_fin (M : am_M) (ci slot : Nat) : Bool := match vwCl[ci]? with
  | some r => !(r.2.1 slot).2.2.2 || (decide (M.1.name = "<init>") && decide ((r.2.1 slot).1 = M.1.cls))
  | none => true
theorem am_fin_ok {M : am_M} {ci slot : Nat} (h : am_fin M ci slot = true) : ∀ r, vwCl[ci]? = some r → (r.2.1 slot).2.2.2 = false ∨ (M.1.name = "<init>" ∧ (r.2.1 slot).1 = M.1.cls) := by
  intro r hr
  simp only [am_fin, hr, Bool.or_eq_true, Bool.not_eq_true', Bool.and_eq_true, decide_eq_true_eq] at h
  exact h
theorem A_puti {n : am_N} {ci idx : Nat} (slot : Nat) {v : Int32} (hf : am_Fl M.1.cls idx ci slot) (hk : kd n = some (.inl ci)) (ht : am_isr (am_fty ci slot) = false) (hfin : am_fin M ci slot = true) (hnar : narrow (am_fty ci slot) (.int v) = .int v) (hfit : fits (am_fty ci slot) (.int v) = true) (hd : decode M.2.1 pc = .ok (.putfield idx, 3)) (k : am_W l M R post (pc + 3) ls st kd rv (am_ui iv n slot v) cu su) : am_W l M R post pc ls (am_I v :: am_P n :: st) kd rv iv cu su := by
  intro p e s m args below meth c D A ad0 kd0 H locs lsA ad C Rr
  have hL := Rr.2.2.2.2.2.2
  refine am_putc rv (am_ui iv n slot v) C Rr.1 Rr.2.1 Rr.2.2.1 hf hk (am_fin_ok hfin) hnar hfit hd (fun j => ?_) (fun _ _ _ => rfl) (fun n' k hn => by simp [am_ui, hn]) (fun k o h => Rr.1.2.2.1 n k o (by rw [hk]; exact fun h => by cases h) h) (fun H' locs' hH hS => k p e s m args below meth c D A ad0 kd0 H' locs' lsA ad C (Rr.heap hH hS (am_l1 (am_l1 hL))))
  by_cases hj : j = slot
  · subst hj; simp [updV, am_sv, ht, am_ui, am_cv]
  · simp [updV, am_sv, hj, am_ui]
theorem A_putr {n o : am_N} {ci idx : Nat} (slot : Nat) (hf : am_Fl M.1.cls idx ci slot) (hk : kd n = some (.inl ci)) (ht : am_isr (am_fty ci slot) = true) (hfin : am_fin M ci slot = true) (hd : decode M.2.1 pc = .ok (.putfield idx, 3)) (k : am_W l M R post (pc + 3) ls st kd (am_ur rv n slot (some o)) iv cu su) : am_W l M R post pc ls (am_P o :: am_P n :: st) kd rv iv cu su := by
  intro p e s m args below meth c D A ad0 kd0 H locs lsA ad C Rr
  have hL := Rr.2.2.2.2.2.2
  have ho : kd o ≠ none := hL (am_P o) List.mem_cons_self
  refine am_putc (am_ur rv n slot (some o)) iv C Rr.1 Rr.2.1 Rr.2.2.1 hf hk (am_fin_ok hfin) ?_ ?_ hd (fun j => ?_) (fun n' k hn => by simp [am_ur, hn]) (fun _ _ _ => rfl) (fun k o' h => ?_) (fun H' locs' hH hS => k p e s m args below meth c D A ad0 kd0 H' locs' lsA ad C (Rr.heap hH hS (am_l1 (am_l1 hL))))
  · revert ht; cases am_fty ci slot <;> intro ht <;> first | rfl | cases ht
  · revert ht; cases am_fty ci slot <;> intro ht <;> first | rfl | cases ht
  · by_cases hj : j = slot
    · subst hj; simp [updV, am_sv, ht, am_ur, va_rf, am_cv]
    · simp [updV, am_sv, hj, am_ur]
  · by_cases hj : k = slot
    · subst hj; simp [am_ur] at h; subst h; exact ho
    · simp [am_ur, hj] at h
      exact Rr.1.2.2.1 n k o' (by rw [hk]; exact fun h => by cases h) h
/-- arrays -/
theorem A_iald {n : am_N} {z : Nat} {i : Int32} (hk : kd n = some (.inr (0, z))) (hin : vp_in i z) (hd : decode M.2.1 pc = .ok (.iaload, 1)) (k : am_W l M R post (pc + 1) ls (am_I (iv n i.toNatClampNeg) :: st) kd rv iv cu su) : am_W l M R post pc ls (am_I i :: am_P n :: st) kd rv iv cu su := by
  intro p e s m args below meth c D A ad0 kd0 H locs lsA ad C Rr
  have hL := Rr.2.2.2.2.2.2
  have hlt : i.toNatClampNeg < z := Nat.not_le.mp fun q => hin (Or.inr q)
  exact W.iald (v := .int (iv n i.toNatClampNeg)) C.1 C.2.1 ((Rr.1.1 n _ hk).1 (show (0 : Nat) < 5 by decide)) ((am_arr C.2.2.2.2.2.2.2.2.1 (t := 0) (by decide)).1 z _) (fun q => by cases q) (by rw [arrV_size]; exact hin) (by rw [arrV_read _ _ hlt]; rfl) rfl rfl hd (k p e s m args below meth c D A ad0 kd0 H locs lsA ad C (Rr.stk (am_l0 (am_l1 (am_l1 hL)))))
theorem A_aald {n o : am_N} {t z : Nat} {i : Int32} (hk : kd n = some (.inr (t, z))) (ht : t < 5) (ht0 : 0 < t) (hin : vp_in i z) (ho : rv n i.toNatClampNeg = some o) (hd : decode M.2.1 pc = .ok (.aaload, 1)) (k : am_W l M R post (pc + 1) ls (am_P o :: st) kd rv iv cu su) : am_W l M R post pc ls (am_I i :: am_P n :: st) kd rv iv cu su := by
  intro p e s m args below meth c D A ad0 kd0 H locs lsA ad C Rr
  have hL := Rr.2.2.2.2.2.2
  have hlt : i.toNatClampNeg < z := Nat.not_le.mp fun q => hin (Or.inr q)
  have hty : (am_aty t).isReference = true ∧ am_isr (am_aty t) = true := by
    match t, ht, ht0 with
    | 1, _, _ => exact ⟨rfl, rfl⟩
    | 2, _, _ => exact ⟨rfl, rfl⟩
    | 3, _, _ => exact ⟨rfl, rfl⟩
    | 4, _, _ => exact ⟨rfl, rfl⟩
  exact W.aald (v := .ref (ad o)) (ty := am_aty t) C.1 C.2.1 ((Rr.1.1 n _ hk).1 ht) ((am_arr C.2.2.2.2.2.2.2.2.1 ht).1 z _) hty.1 (fun q => by cases q) (by rw [arrV_size]; exact hin) (by rw [arrV_read _ _ hlt]; simp [am_sv, hty.2, ho, va_rf]) rfl rfl hd (k p e s m args below meth c D A ad0 kd0 H locs lsA ad C (Rr.stk (am_lc (Rr.1.2.2.1 n _ o (by rw [hk]; exact fun h => by cases h) ho) (am_l1 (am_l1 hL)))))
theorem A_aald0 {n : am_N} {t z : Nat} {i : Int32} (hk : kd n = some (.inr (t, z))) (ht : t < 5) (ht0 : 0 < t) (hin : vp_in i z) (ho : rv n i.toNatClampNeg = none) (hd : decode M.2.1 pc = .ok (.aaload, 1)) (k : am_W l M R post (pc + 1) ls (am_0 :: st) kd rv iv cu su) : am_W l M R post pc ls (am_I i :: am_P n :: st) kd rv iv cu su := by
  intro p e s m args below meth c D A ad0 kd0 H locs lsA ad C Rr
  have hL := Rr.2.2.2.2.2.2
  have hlt : i.toNatClampNeg < z := Nat.not_le.mp fun q => hin (Or.inr q)
  have hty : (am_aty t).isReference = true ∧ am_isr (am_aty t) = true := by
    match t, ht, ht0 with
    | 1, _, _ => exact ⟨rfl, rfl⟩
    | 2, _, _ => exact ⟨rfl, rfl⟩
    | 3, _, _ => exact ⟨rfl, rfl⟩
    | 4, _, _ => exact ⟨rfl, rfl⟩
  exact W.aald (v := .null) (ty := am_aty t) C.1 C.2.1 ((Rr.1.1 n _ hk).1 ht) ((am_arr C.2.2.2.2.2.2.2.2.1 ht).1 z _) hty.1 (fun q => by cases q) (by rw [arrV_size]; exact hin) (by rw [arrV_read _ _ hlt]; simp [am_sv, hty.2, ho, va_rf]) rfl rfl hd (k p e s m args below meth c D A ad0 kd0 H locs lsA ad C (Rr.stk (am_l0 (am_l1 (am_l1 hL)))))
theorem am_tag {D : am_D} {ad : am_N → Nat} {H : Heap} (h : am_HR D ad kd rv iv H) {n : am_N} {K : am_K} (hk : kd n = some K) (ho : ¬ am_op K) : n.1 < 40 := by
  have := h.2.2.2 n K hk
  rcases Nat.lt_or_ge n.1 40 with h1 | h1
  · exact h1
  · exact absurd (this.mp h1) ho
theorem A_iast {n : am_N} {z : Nat} {i x : Int32} (hk : kd n = some (.inr (0, z))) (hin : vp_in i z) (hd : decode M.2.1 pc = .ok (.iastore, 1)) (k : am_W l M R post (pc + 1) ls st kd rv (am_ui iv n i.toNatClampNeg x) cu su) : am_W l M R post pc ls (am_I x :: am_I i :: am_P n :: st) kd rv iv cu su := by
  intro p e s m args below meth c D A ad0 kd0 H locs lsA ad C Rr
  have hL := Rr.2.2.2.2.2.2
  have hne : ¬ am_op (.inr (0, z) : am_K) := by simp [am_op]
  refine W.iast C.1 C.2.1 ((Rr.1.1 n _ hk).1 (show (0 : Nat) < 5 by decide)) ((am_arr C.2.2.2.2.2.2.2.2.1 (t := 0) (by decide)).1 z _) (fun q => by cases q) (by rw [arrV_size]; exact hin) rfl rfl hd fun H1 e1 z1 oq => ?_
  have hat : am_at D ad rv (am_ui iv n i.toNatClampNeg x) n (.inr (0, z)) H1 := by
    refine ⟨fun _ => ?_, ⟨fun h => ?_, fun h => ?_⟩⟩
    · rw [e1, arrV_store]
      congr 2
      funext q
      by_cases hq : q = i.toNatClampNeg
      · subst hq; simp [updV, am_sv, am_ui, am_isr, am_aty]
      · simp [updV, am_sv, am_ui, hq]
    · simp at h
    · simp at h
  exact k p e s m args below meth c D A ad0 kd0 H1 _ lsA ad C (Rr.heap (Rr.1.set hk hne oq hat (fun _ _ _ => rfl) (fun n' k hn => by simp [am_ui, hn]) (fun k o h => Rr.1.2.2.1 n k o (by rw [hk]; exact fun h => by cases h) h)) (Rr.2.2.1.put z1 oq (Rr.2.1 n (by rw [hk]; exact fun h => by cases h) (am_tag Rr.1 hk hne))) (am_l1 (am_l1 (am_l1 hL))))
theorem A_alen {n : am_N} {t z : Nat} (hk : kd n = some (.inr (t, z))) (ht : t < 5) (hd : decode M.2.1 pc = .ok (.arraylength, 1)) (k : am_W l M R post (pc + 1) ls (am_I (nI z) :: st) kd rv iv cu su) : am_W l M R post pc ls (am_P n :: st) kd rv iv cu su := by
  intro p e s m args below meth c D A ad0 kd0 H locs lsA ad C Rr
  have hL := Rr.2.2.2.2.2.2
  exact W.alen (n := nI z) C.1 C.2.1 ((Rr.1.1 n _ hk).1 ht) ((am_arr C.2.2.2.2.2.2.2.2.1 ht).1 z _) (by rw [arrV_size]; rfl) rfl rfl hd (k p e s m args below meth c D A ad0 kd0 H locs lsA ad C (Rr.stk (am_l0 (am_l1 hL))))
end AH

