theorem am_Yc.of {args : Array Value} {s : State} {C T : String} (h : (Cond.castable C T).before args s = true) : am_Yc C T s := by
  simp only [Cond.before, Cond.holds, Cond.value] at h
  cases h1 : s.vm.findClass C with
  | none => simp [h1] at h
  | some c =>
    cases h2 : s.vm.findClass T with
    | none => simp [h1, h2] at h
    | some t =>
      simp [h1, h2] at h
      exact ⟨c, t, h1, h2, h⟩
theorem lw_cz : ∀ (ci : Nat) (r : vw_C), vwCl[ci]? = some r → Cond.instantiable r.1 r.2.2 ∈ am_T := by
  intro ci r h
  match ci, h with
  | 0, h => cases h; exact cz_0
  | 1, h => cases h; exact cz_1
  | 2, h => cases h; exact cz_2
  | 3, h => cases h; exact cz_3
  | 4, h => cases h; exact cz_4
  | 5, h => cases h; exact cz_5
  | 6, h => cases h; exact cz_6
  | 7, h => cases h; exact cz_7
  | 8, h => cases h; exact cz_8
  | 9, h => cases h; exact cz_9
  | 10, h => cases h; exact cz_10
  | 11, h => cases h; exact cz_11
  | 12, h => cases h; exact cz_12
  | n + 13, h => simp [vwCl] at h
theorem lw_yc : ∀ q ∈ am_yc, Cond.castable q.1 q.2 ∈ lw_tbl := by
  intro q hq
  simp only [am_yc, List.mem_cons, List.not_mem_nil, or_false] at hq
  rcases hq with rfl | rfl | rfl | rfl | rfl | rfl | rfl | rfl
  · exact (List.mem_append_right _ (List.mem_of_getElem? (i := 1546) (by decide +kernel)))
  · exact (List.mem_append_right _ (List.mem_of_getElem? (i := 1547) (by decide +kernel)))
  · exact (List.mem_append_right _ (List.mem_of_getElem? (i := 1548) (by decide +kernel)))
  · exact (List.mem_append_right _ (List.mem_of_getElem? (i := 1549) (by decide +kernel)))
  · exact (List.mem_append_right _ (List.mem_of_getElem? (i := 1550) (by decide +kernel)))
  · exact (List.mem_append_right _ (List.mem_of_getElem? (i := 1551) (by decide +kernel)))
  · exact (List.mem_append_right _ (List.mem_of_getElem? (i := 1552) (by decide +kernel)))
  · exact (List.mem_append_right _ (List.mem_of_getElem? (i := 1553) (by decide +kernel)))
/-- classes and arrays, from the tables -/
theorem lw_K {s : State} {b : Nat} (hts : ∀ w ∈ lw_tbl, w.before #[Value.ref b] s = true) : ∃ (G : va_G) (ar : Nat → ClassId), va_K G vwCl [(ar 0, .int), (ar 1, .object RX3), (ar 2, .object RX2), (ar 3, .object RX7), (ar 4, .object RX5)] s := by
  have hT : ∀ w ∈ am_T, w.before #[Value.ref b] s = true := fun w hw => hts w (List.mem_filter.mp hw).1
  have hKc : ∀ ci : Nat, ∃ q : ClassId × (Nat → Nat), ∀ r, vwCl[ci]? = some r → u_Kn s r.1 r.2.1 r.2.2 q.1 q.2 := by
    intro ci
    cases hr : vwCl[ci]? with
    | none => exact ⟨(0, fun _ => 0), fun r h => by cases h⟩
    | some r =>
      obtain ⟨c1, -, -, -⟩ := am_cls_ok ci r hr
      obtain ⟨cC, iS, h⟩ := u_known (C := r.1) (T := r.2.1) (N := r.2.2) hT c1 (hT _ (lw_cz ci r hr))
      exact ⟨(cC, iS), fun r' h' => by cases h'; exact h⟩
  obtain ⟨f, hf⟩ := Classical.axiomOfChoice hKc
  obtain ⟨a0, k0, m0, p1, p2, p3⟩ := Cond.arrayClass_spec (hT _ co_arri)
  obtain ⟨m1, a1, k1, q11, -, q13, q14, q15⟩ := Cond.arrayOver_spec (n := RX3) (hts (.arrayOver (.object RX3)) (List.mem_append_right _ (List.mem_of_getElem? (i := 37) (by decide +kernel))))
  obtain ⟨m2, a2, k2, q21, -, q23, q24, q25⟩ := Cond.arrayOver_spec (n := RX2) (hts (.arrayOver (.object RX2)) (List.mem_append_right _ (List.mem_of_getElem? (i := 88) (by decide +kernel))))
  obtain ⟨m3, a3, k3, q31, -, q33, q34, q35⟩ := Cond.arrayOver_spec (n := RX7) (hts (.arrayOver (.object RX7)) (List.mem_append_right _ (List.mem_of_getElem? (i := 91) (by decide +kernel))))
  obtain ⟨m4, a4, k4, q41, -, q43, q44, q45⟩ := Cond.arrayOver_spec (n := RX5) (hts (.arrayOver (.object RX5)) (List.mem_append_right _ (List.mem_of_getElem? (i := 195) (by decide +kernel))))
  refine ⟨(fun ci => (f ci).1, fun ci => (f ci).2), fun t => if t = 0 then a0 else if t = 1 then a1 else if t = 2 then a2 else if t = 3 then a3 else a4, fun c r hr => hf c r hr, fun k q hk => ?_⟩
  match k, hk with
  | 0, hk => cases hk; exact ⟨fun N z => ⟨(fun k h => (by cases h)), k0, p2, m0, p3⟩, p1⟩
  | 1, hk => cases hk; exact ⟨fun N z => ⟨(fun k h => (by cases h)), k1, q13, m1, q14⟩, k1, m1, q13, q14, q11, q15⟩
  | 2, hk => cases hk; exact ⟨fun N z => ⟨(fun k h => (by cases h)), k2, q23, m2, q24⟩, k2, m2, q23, q24, q21, q25⟩
  | 3, hk => cases hk; exact ⟨fun N z => ⟨(fun k h => (by cases h)), k3, q33, m3, q34⟩, k3, m3, q33, q34, q31, q35⟩
  | 4, hk => cases hk; exact ⟨fun N z => ⟨(fun k h => (by cases h)), k4, q43, m4, q44⟩, k4, m4, q43, q44, q41, q45⟩
  | n + 5, hk => simp at hk
theorem FrameEnd_forget {s t : State} {o : Outcome} {L : List Loc} {k n : Nat} (h : FrameEnd s o t L k n) (hL : ∀ q ∈ L, s.heap.size ≤ q.base) : Framed s o t [] k n := by
  obtain ⟨h1, h2, g1, g2, g3, g4, g5, g6⟩ := h
  refine ⟨h1, h2, g1, g2, g3, g4, g5, fun a c hc => ?_⟩
  obtain ⟨c', e1, e2, e3, e4⟩ := g6 a c hc
  refine ⟨c', e1, e2, e3, fun i _ => e4 i (fun hm => ?_)⟩
  have z1 := hL _ hm
  have z2 : a < s.heap.size := (Array.getElem?_eq_some_iff.mp hc).1
  exact absurd z1 (Nat.not_le.mpr z2)
def lw_tm (i : Nat) : Term := if i = 0 then .string RX11 182 else .string RX11 184
/-- the two texts, from what the Statement gives -/
theorem lw_S {s : State} {b : Nat} {A : Nat → Prop} (hgv : (Jvm.Cond.and given_1 narrow_1).before #[Value.ref b] s = true) (hA : ∀ a : Nat, a < s.heap.size → ¬ A a) : ∃ adK adV : Nat → Nat, vk_S 2 [3, 3] [[108, 113, 104], [116, 119, 107]] adK adV A s s.heap ∧ ∀ i : Nat, i < 2 → (lw_tm i).eval #[Value.ref b] s none [] s = some (.ref (adK i)) := by
  have hs := flat_of_before _ hgv
  have two : ∀ (P : Nat → Prop), P 0 → P 1 → ∀ i, i < 2 → P i := fun P h0 h1 i hi => by
    rcases (show i = 0 ∨ i = 1 by omega) with rfl | rfl
    · exact h0
    · exact h1
  refine vk_Sof (tm := lw_tm) (two _ (by decide) (by decide)) (two _ (hs _ (by decide +kernel)) (hs _ (by decide +kernel))) (two _ (hs _ (by decide +kernel)) (hs _ (by decide +kernel))) (two _ (hs _ (by decide +kernel)) (hs _ (by decide +kernel))) (two _ (hs _ (by decide +kernel)) (hs _ (by decide +kernel))) (two _ (fun j hj => ?_) (fun j hj => ?_)) (fun i j hi hj hij => ?_) hA
  · have hj : j < 3 := hj
    rcases (show j = 0 ∨ j = 1 ∨ j = 2 by omega) with rfl | rfl | rfl
    · exact hs _ (by decide +kernel)
    · exact hs _ (by decide +kernel)
    · exact hs _ (by decide +kernel)
  · have hj : j < 3 := hj
    rcases (show j = 0 ∨ j = 1 ∨ j = 2 by omega) with rfl | rfl | rfl
    · exact hs _ (by decide +kernel)
    · exact hs _ (by decide +kernel)
    · exact hs _ (by decide +kernel)
  · rcases (show (i = 0 ∧ j = 1) ∨ (i = 1 ∧ j = 0) by omega) with ⟨rfl, rfl⟩ | ⟨rfl, rfl⟩
    · exact Or.inl (hs _ (by decide +kernel))
    · exact Or.inr (hs _ (by decide +kernel))
theorem lw_nc {s : State} {b : Nat} (hgv : (Jvm.Cond.and given_1 narrow_1).before #[Value.ref b] s = true) : ∀ q ∈ am_nc, va_Nc q.1 q.2 s := by
  have hs := flat_of_before _ hgv
  intro q hq
  simp only [am_nc, List.mem_cons, List.not_mem_nil, or_false] at hq
  rcases hq with rfl | rfl | rfl | rfl | rfl | rfl | rfl | rfl | rfl | rfl | rfl | rfl | rfl | rfl | rfl | rfl | rfl | rfl | rfl | rfl | rfl | rfl | rfl | rfl | rfl | rfl | rfl | rfl | rfl | rfl | rfl | rfl | rfl | rfl
  · exact va_Nc.of (hs _ (by decide +kernel))
  · exact va_Nc.of (hs _ (by decide +kernel))
  · exact va_Nc.of (hs _ (by decide +kernel))
  · exact va_Nc.of (hs _ (by decide +kernel))
  · exact va_Nc.of (hs _ (by decide +kernel))
  · exact va_Nc.of (hs _ (by decide +kernel))
  · exact va_Nc.of (hs _ (by decide +kernel))
  · exact va_Nc.of (hs _ (by decide +kernel))
  · exact va_Nc.of (hs _ (by decide +kernel))
  · exact va_Nc.of (hs _ (by decide +kernel))
  · exact va_Nc.of (hs _ (by decide +kernel))
  · exact va_Nc.of (hs _ (by decide +kernel))
  · exact va_Nc.of (hs _ (by decide +kernel))
  · exact va_Nc.of (hs _ (by decide +kernel))
  · exact va_Nc.of (hs _ (by decide +kernel))
  · exact va_Nc.of (hs _ (by decide +kernel))
  · exact va_Nc.of (hs _ (by decide +kernel))
  · exact va_Nc.of (hs _ (by decide +kernel))
  · exact va_Nc.of (hs _ (by decide +kernel))
  · exact va_Nc.of (hs _ (by decide +kernel))
  · exact va_Nc.of (hs _ (by decide +kernel))
  · exact va_Nc.of (hs _ (by decide +kernel))
  · exact va_Nc.of (hs _ (by decide +kernel))
  · exact va_Nc.of (hs _ (by decide +kernel))
  · exact va_Nc.of (hs _ (by decide +kernel))
  · exact va_Nc.of (hs _ (by decide +kernel))
  · exact va_Nc.of (hs _ (by decide +kernel))
  · exact va_Nc.of (hs _ (by decide +kernel))
  · exact va_Nc.of (hs _ (by decide +kernel))
  · exact va_Nc.of (hs _ (by decide +kernel))
  · exact va_Nc.of (hs _ (by decide +kernel))
  · exact va_Nc.of (hs _ (by decide +kernel))
  · exact va_Nc.of (hs _ (by decide +kernel))
  · exact va_Nc.of (hs _ (by decide +kernel))
/-! THE CLAIM OUT OF ONE WALK OF THE LAW'S BODY. Your part is whole_start (and what it stands on); all else here is the same for every law, but numbers. -/
def R_law : String := "SmokeRingsLaw"
def lw_P (b : Addr) (xs : List Int32) (args : Array Value) (s : State) : Prop := args = #[.ref b] ∧ s.IntsAt b xs ∧ xs.length ≤ 384 ∧ (Jvm.Cond.and given_1 narrow_1).before args s = true
def lw_Q (_ : Array Value) (s : State) (o : Outcome) (t : State) : Prop := o = .returned (some (.int 1)) ∧ Framed s o t [] 600000 7302250
def lw_Z (below : List Frame) (a : Array Value) (s : State) : State → Prop := fun t => ∃ o, t.status = .running ∧ Ended t below o ∧ lw_Q a s o t
/-- the law's own end, with 1 on the stack, nothing written that was there before, its room as the claim has it -/
theorem lw_ret {p : Program} {l : Launch} {e : Env} {s : State} {m : MethodId} {below : List Frame} {meth : Method} {c : Code} {b : Nat} (hx : p.tables.exec = Jvm.exec) (hb : c.code = code) (hr : meth.sig.returnType = ret) (hlocks : meth.locks = false) {pc : Nat} {H : Heap} {ls : Array Slot} (hdg : decode code pc = .ok (.ireturn, 1)) : W p l e room_1 s m #[Value.ref b] below meth c H [] 600000 7302250 (lw_Z below #[Value.ref b] s) (F0 m pc ls [.int 1]) := by
  intro T hT X
  obtain ⟨fs, hret, hrun, hended, hW, hframe⟩ := X.leave (v := some (.int 1)) (hlocks := hlocks) (fun h => by rw [hr] at h; cases h)
  have hmeth' : T.vm.method? m = some meth := X.method'
  refine ⟨T.setFrames fs, ?_, .returned (some (.int 1)), hrun, hended, rfl, ⟨_, rfl⟩, hW, hframe⟩
  jvm_step X.here [X.here.top, hx, hb, hdg, hmeth', hr, ret, narrow_b1]
  (try refine ⟨rfl, ?_⟩); (try refine ⟨rfl, ?_⟩)
  first | (intro acts; rw [hret _ acts rfl rfl rfl]) | rw [hret _ _ rfl rfl rfl]
  exact Steps.refl _
/-- what holds at the law's entry: the machine, the code, the tables' words (any of lw_tbl by 'hts w (by decide +kernel)'), the script of L ints xs at the cell b, what the Statement gives of the start (any of its parts by flat_of_before) -/
def lw_At (p : Program) (s : State) (m : MethodId) (meth : Method) (c : Code) (b L : Nat) (xs : Nat → Int32) : Prop :=
  p.tables.exec = Jvm.exec ∧ c.code = code ∧ meth.sig.returnType = ret ∧ c.maxLocals = 4 ∧ s.vm.findClass R_law = some m.cls ∧ (∀ w ∈ lw_tbl, w.before #[Value.ref b] s = true) ∧ va_X b L xs s s.heap ∧ b < s.heap.size ∧ meth.locks = false ∧ (Jvm.Cond.and given_1 narrow_1).before #[Value.ref b] s = true
/-- from the entry, for every script of at most 384 ints, the law comes to its end with true -/
theorem whole_start {p : Program} {e : Env} {s : State} {m : MethodId} {below : List Frame} {meth : Method} {c : Code} (l : Launch) {b L : Nat} {xs : Nat → Int32} (hL : L ≤ 384) (hcw : (Jvm.Cond.code x code maxLocals ret).before #[Value.ref b] s = true) (hnm : meth.name = x.name) (C0 : lw_At p s m meth c b L xs) : W p l e room_1 s m #[Value.ref b] below meth c s.heap [] 0 0 (lw_Z below #[Value.ref b] s) (entryFrame m ([Value.ref b] : List Value).toArray 4) := by
  obtain ⟨hx, hb, hr, hml, hown, hts, hX, hbl, hlocks, hgv⟩ := C0
  have hs := flat_of_before _ hgv
  have hT : ∀ w ∈ am_T, w.before #[Value.ref b] s = true := fun w hw => hts w (List.mem_filter.mp hw).1
  have hA : ∀ a : Nat, a < s.heap.size → ¬ (fun q : Nat => s.heap.size ≤ q) a := fun a h => Nat.not_le.mpr h
  obtain ⟨G, ar, hK⟩ := lw_K hts
  obtain ⟨adK, adV, hS, hev⟩ := lw_S (A := fun q : Nat => s.heap.size ≤ q) hgv hA
  have hZ : va_Z "java/lang/String" "COMPACT_STRINGS" "Z" (.int 1) (fun q : Nat => s.heap.size ≤ q) s s.heap := va_Zof (args := #[Value.ref b]) (hts _ (List.mem_append_right _ (List.mem_of_getElem? (i := 600) (by decide +kernel)))) (hts _ (List.mem_append_right _ (List.mem_of_getElem? (i := 15) (by decide +kernel)))) (va_eqt (hs (.eq (.static "java/lang/String" "COMPACT_STRINGS" "Z") (.int 1)) (by decide +kernel))) hA
  have hR0 : vk_R RX11 182 "lqh" (adK 0) s := vk_R.of (A := #[Value.ref b]) (hts _ (List.mem_append_right _ (List.mem_of_getElem? (i := 570) (by decide +kernel)))) (hev 0 (by decide))
  have hR1 : vk_R RX11 184 "twk" (adK 1) s := vk_R.of (A := #[Value.ref b]) (hts _ (List.mem_append_right _ (List.mem_of_getElem? (i := 571) (by decide +kernel)))) (hev 1 (by decide))
  have hKF : am_KF (G, ar, (adK, adV), (b, L, xs)) (fun q : Nat => s.heap.size ≤ q) s := by
    refine ⟨hK, fun w hw => ?_, ⟨lw_nc hgv, fun q hq => am_Yc.of (hts _ (lw_yc q hq)), fun C hC => ?_⟩, ⟨hS, hZ⟩, hR0, hR1, hX, hbl, Nat.not_le.mpr hbl⟩
    · have h3 := (List.mem_filter.mp hw).2
      refine va_Nw.of ?_ (hts w (List.mem_filter.mp hw).1)
      cases w <;> first | rfl | cases h3
    · simp only [List.mem_cons, List.not_mem_nil, or_false] at hC
      rcases hC with rfl | rfl | rfl | rfl
      · exact va_AO.of (hts (.arrayOver (.object RX3)) (List.mem_append_right _ (List.mem_of_getElem? (i := 37) (by decide +kernel))))
      · exact va_AO.of (hts (.arrayOver (.object RX2)) (List.mem_append_right _ (List.mem_of_getElem? (i := 88) (by decide +kernel))))
      · exact va_AO.of (hts (.arrayOver (.object RX7)) (List.mem_append_right _ (List.mem_of_getElem? (i := 91) (by decide +kernel))))
      · exact va_AO.of (hts (.arrayOver (.object RX5)) (List.mem_append_right _ (List.mem_of_getElem? (i := 195) (by decide +kernel))))
  have hl := lv_entry ([.ref b]) (n := 4) (Nat.le_of_ble_eq_true rfl)
  rw [lg_entry_eq]
  generalize (lg_sl ([.ref b]) ++ List.replicate (4 - (lg_sl ([.ref b])).length) Slot.unset).toArray = lsA at hl ⊢
  have hC : am_C mL_law p s m #[Value.ref b] meth c (G, ar, (adK, adV), (b, L, xs)) (fun q : Nat => s.heap.size ≤ q) := ⟨hx, hb, hr, hml, hown, fun w hw => (List.mem_cons.mp hw).elim (fun e => by rw [e]; exact hcw) (fun h => hT w h), hlocks, hnm, hKF, fun q h => h⟩
  have h42 : lw_kd (42, 0, 0) = some (.inr (8, 0)) := rfl
  have hkd : ∀ n K, lw_kd n = some K → (n = (42, 0, 0) ∧ K = .inr (8, 0)) ∨ (n.1 = 40 ∧ K = .inr (9, 0)) := fun n K h => by
    unfold lw_kd at h
    split at h
    · next e => cases h; exact Or.inl ⟨e, rfl⟩
    · split at h
      · next e => cases h; exact Or.inr ⟨e.1, rfl⟩
      · cases h
  have hno : ∀ n : am_N, lw_kd n ≠ none → n.1 < 40 → False := fun n h1 h2 => h1 (lw_kd_n h2)
  let ad : am_N → Nat := fun n => if n = (42, 0, 0) then b else if n.2.2 = 0 then adK n.2.1 else adV n.2.1
  have hRr : am_R mL_law s (G, ar, (adK, adV), (b, L, xs)) (fun q : Nat => s.heap.size ≤ q) ad lw_kd s.heap [] lsA ad [some (am_P (42, 0, 0)), none, none, none] [] lw_kd (fun _ _ => none) (fun _ _ => 0) := by
    refine ⟨⟨fun n K h => ?_, fun n n' h1 h2 t1 t2 e => (hno n h1 t1).elim, (fun n k o h1 h2 => (by cases h2)), fun n K h => ?_⟩, fun n h1 h2 => (hno n h1 h2).elim, va_S.rf, fun n h => ⟨rfl, h⟩, ⟨hl.1, hl.2.1, fun i v hi => ?_⟩, fun v hv => ?_, (fun v hv => (by cases hv))⟩
    · rcases hkd n K h with ⟨e1, e2⟩ | ⟨e1, e2⟩
      · subst e1; subst e2
        exact ⟨fun z => absurd z (by decide), fun _ => if_pos rfl, fun z => absurd z (by decide)⟩
      · subst e2
        exact ⟨fun z => absurd z (by decide), fun z => absurd z (by decide), fun _ => if_neg (fun e => by rw [e] at e1; exact absurd e1 (by decide))⟩
    · rcases hkd n K h with ⟨e1, e2⟩ | ⟨e1, e2⟩
      · subst e1; subst e2
        exact ⟨fun _ => by show 5 ≤ 8; decide, fun _ => by show 40 ≤ 42; decide⟩
      · subst e2
        exact ⟨fun _ => by show 5 ≤ 9; decide, fun _ => by omega⟩
    · match i, hi with
      | 0, hi =>
        cases hi
        have e9 : ad (42, 0, 0) = b := if_pos rfl
        show lsA[0]? = some (Slot.val (.ref (ad (42, 0, 0))))
        rw [e9]
        exact hl.2.2 (0, .ref b) (by simp [lv_args])
      | 1, hi => cases hi
      | 2, hi => cases hi
      | 3, hi => cases hi
      | n + 4, hi => simp at hi
    · simp only [List.mem_cons, List.not_mem_nil, or_false] at hv
      rcases hv with h | h | h | h
      · cases h
        show lw_kd (42, 0, 0) ≠ none
        rw [h42]
        exact fun z => by cases z
      · cases h
      · cases h
      · cases h
  have K := lw_begin l (Φ := fun D => D.2.2.2.2.1 = L ∧ D.2.2.2.2.2 = xs) (fun D h => h) hL p e s m #[Value.ref b] below meth c (G, ar, (adK, adV), (b, L, xs)) (fun q : Nat => s.heap.size ≤ q) ad lw_kd s.heap [] lsA ad ⟨hC, rfl, rfl⟩ hRr
  intro T hTh X
  obtain ⟨t, a1, o, hrun, hend, ⟨⟨v, kd', rv', iv', ad', e1, e2, -⟩, -⟩, Lc, hfe, hfr⟩ := K T hTh X
  have e2 : v = some (am_I 1) := e2
  subst e2
  exact ⟨t, a1, o, hrun, hend, e1, FrameEnd_forget hfe hfr⟩
set_option maxHeartbeats 4000000 in
theorem lw_walk (l : Launch) (hflags : l.flags = flags0) (b : Addr) (xs : List Int32) : MetFree l x (headSpec (Jvm.Cond.code x code maxLocals ret :: tables_1) room_1) (lw_P b xs) (fun _ _ _ _ _ => True) lw_Q := by
  refine MetFree.of_bodyS (code := code) (maxLocals := maxLocals) (ret := ret) (by decide) ?_ ?_
  · intro args s m h hn
    obtain ⟨meth, c, h1, h2, h3, h4, h5, h6, -, -⟩ := Cond.code_spec hn (atoms_spec (ws := Jvm.Cond.code x code maxLocals ret :: tables_1) h _ List.mem_cons_self)
    exact ⟨meth, c, h1, h2, h3, h4, h5, h6⟩
  · intro p e s m args below meth c s₁ B hml0 hP _
    obtain ⟨rfl, hx, hbd, hgv⟩ := hP
    obtain ⟨scr, harrAt, hlist, hof, hsmall⟩ := hx
    obtain ⟨hcb, hkn, -, -⟩ := State.arrayAt?_spec harrAt
    have hown : s.vm.findClass R_law = some m.cls := findClass_of_methodNamed B.named
    have hts0 : ∀ c ∈ (Jvm.Cond.code x code maxLocals ret :: tables_1), c.before #[Value.ref b] s = true := atoms_spec (ws := Jvm.Cond.code x code maxLocals ret :: tables_1) B.pre
    have hts : ∀ w ∈ lw_tbl, w.before #[Value.ref b] s = true := k2_hts_sels lw_privs (fun w hw => hts0 w (List.mem_cons_of_mem _ hw)) lw_privs_ok
    have hml : c.maxLocals = 4 := B.maxLocals_eq (hts0 _ List.mem_cons_self)
    have X₀ : Stand p l e room_1 s m #[Value.ref b] below meth c s₁ [] 0 0 := Stand.of_body B
    have hh0 : s₁.heap = s.heap := by rw [B.state]; rfl
    have hsz : scr.slots.size = xs.length := by rw [← Array.length_toList, hlist, List.length_map]
    have hval : ∀ j : Nat, j < xs.length → scr.slots[j]? = some (.int (xs.getD j 0)) := fun j hj => by
      rw [← Array.getElem?_toList, hlist]
      simp [hj]
    have hbl : b < s.heap.size := (Array.getElem?_eq_some_iff.mp hcb).1
    have hX : va_X b xs.length (fun j => xs.getD j 0) s s.heap := ⟨scr, hcb, hof, hkn, hsz, hval⟩
    have K : W p l e room_1 s m #[Value.ref b] below meth c s₁.heap [] 0 0 (lw_Z below #[Value.ref b] s) (entryFrame m ([Value.ref b] : List Value).toArray 4) := by
      rw [hh0]
      exact whole_start l hbd (hts0 _ List.mem_cons_self) (name_of_methodNamed B.named B.method).1 ⟨B.exec, B.bytes, B.returns, hml, hown, hts, hX, hbl, B.notSynchronized, hgv⟩
    obtain ⟨t, a1, o, b1, b2, b3⟩ := K s₁ rfl X₀
    exact ⟨t, o, a1, b1, b2, b3⟩
theorem lw_pre_spec {args : Array Value} {s : State} (h : (Jvm.Cond.and given_1 narrow_1).before args s = true) (hr : rest_1_c.before args s = true) : ∃ (b : Addr) (xs : List Int32), lw_P b xs args s := by
  have hs := flat_of_before _ h
  have hq := flat_of_before _ hr
  have hc : (Cond.count 1).before args s = true := hs _ (by decide +kernel)
  have harr : (Cond.arrayOf (.arg 0) .int).before args s = true := hs _ (by decide +kernel)
  have hle : (Cond.le (.length (.arg 0)) (.int 384)).before args s = true := hs _ (by decide +kernel)
  have hlen : (Cond.isInt (.length (.arg 0))).before args s = true := hq _ (by decide +kernel)
  have hall : (Cond.all (.arg 0) (.isInt (.elem (.arg 0) (.index 0)))).before args s = true := hq _ (by decide +kernel)
  obtain ⟨b, xs, hb, hx⟩ := State.ints_of_pre rfl harr hlen hall
  have hsm : xs.length < 2 ^ 31 := hx.choose_spec.2.2.2
  have hev : (Term.length (.arg 0)).eval args s none [] s = some (.int xs.length.toInt32) := hx.length_eval hb
  have hv := Cond.le_ints hev (show (Term.int 384).eval args s none [] s = some (.int 384) from rfl)
  have hd : xs.length.toInt32 ≤ 384 := by
    simpa [Cond.before, Cond.holds, hv] using hle
  have hN : xs.length ≤ 384 := (Int32.ofNat_le_ofNat hsm (by decide)).mp (show Int32.ofNat xs.length ≤ Int32.ofNat 384 from hd)
  exact ⟨b, xs, Cond.one_arg hc (show args[0]? = some (.ref b) from hb), hx, hN, h⟩
theorem lw_comes (l : Launch) (hflags : l.flags = flags0) : Comes l x (Jvm.Cond.code x code maxLocals ret :: tables_1) room_1 (fun tb e args s => Calls_1 tb e args s ∧ rest_1 tb e args s ∧ Pre_1 tb e args s)
    (fun _ _ args s o t => lw_Q args s o t) := by
  intro p e ha hc hk s m args below hf hfit hheap happ hpre
  obtain ⟨b, xs, hP⟩ := lw_pre_spec hpre.2.2 hpre.2.1
  obtain ⟨k, o, h1, h2, h3, hQ⟩ := lw_walk l hflags b xs p e ha hc hk s m args below hf ((Spec.applies_iff_loose hf).mp happ).1 hP trivial
  exact ⟨k, o, h1, h2, h3, hQ⟩
theorem lw_frame {s t : State} {o : Outcome} {args : Array Value} (h : Framed s o t [] 600000 7302250) :
    Framed s o t (fieldLocs frame_1_writes args s ++ arrayLocs frame_1_arrays args s ++ staticLocs frame_1_statics s) 600000 7302250 := h
theorem lw_limb (L : Cond) (hL : ∀ (args : Array Value) (s t : State), L.after args s (.returned (some (.int 1))) t = true) :
    ArmFor flags0 classFile x code maxLocals ret World_1 tables_1 room_1 Calls_1 rest_1 Pre_1
      (fun tb e a s o t => postC L tb e a s o t ∧ Framed s o t (fieldLocs frame_1_writes a s ++ arrayLocs frame_1_arrays a s ++ staticLocs frame_1_statics s) 600000 7302250) := by
  intro l hflags _ _ p e ha hc hk s m args below hf hfit hheap happ hpre
  obtain ⟨k, o, h1, h2, h3, rfl, hF⟩ := lw_comes l hflags p e ha hc hk s m args below hf hfit hheap happ hpre
  exact ⟨k, _, h1, h2, h3, hL args s _, lw_frame hF⟩
theorem i_vc : Claimed_1_1 ∧ Claimed_1_2 := ⟨lw_limb limb_1_1 (fun args s t => by simp [limb_1_1, Cond.after, Cond.holds, Cond.value]), lw_limb limb_1_2 (fun args s t => Cond.after_iff.mpr (by
  first | (rw [show limb_1_2 = Cond.eq .result (.int 1) from rfl, Cond.eq_ints (x := 1) (y := 1) rfl rfl]; simp; done) | (simp [limb_1_2, Cond.value, Term.eval]; done)))⟩
