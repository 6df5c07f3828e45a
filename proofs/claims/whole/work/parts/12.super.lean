/-! super.m(..) where the superclass has it of its own superclass -/
def am_CQ (own : String) (idx : Nat) (x : MethodName) (M' : am_M) (n : Nat) : Prop := am_Ce M' n ∧ Cond.methodLink own idx x ∈ am_T ∧ Cond.sameMethod x.cls M'.1.cls x.name x.desc ∈ am_T ∧ Cond.superclass own x.cls ∈ am_T ∧ Cond.superclass x.cls M'.1.cls ∈ am_T ∧ Cond.instanceMethod M'.1 ∈ am_T ∧ x.name ≠ "<init>" ∧ M'.1 = ⟨M'.1.cls, x.name, x.desc⟩
section AQ
variable {l : Launch} {M : am_M} {R : Room} {post : am_Post} {pc : Nat} {ls : List (Option am_V)} {st : List am_V} {kd : am_kd} {rv : am_rv} {iv : am_iv} {cu su : Nat}
set_option maxHeartbeats 1000000 in
theorem A_callQ {M' : am_M} {R' : Room} {post' : am_Post} {idx n ci : Nat} {x : MethodName} {o : am_N} {r : vw_C} {av rest : List am_V} (hC : am_CQ M.1.cls idx x M' n) (hM : am_Met l M' R' (am_P o :: av) kd rv iv post') (hk : kd o = some (.inl ci)) (hr : vwCl[ci]? = some r) (hn : av.length = n) (hst : av.reverse ++ am_P o :: rest = st) (hw : am_wt rest ≤ 8) (hroom : R'.frames + 1 ≤ R.frames ∧ 8 + (M'.2.2.1 + 11) + R'.locals ≤ R.locals) (hcs : cu + R'.cells ≤ R.cells ∧ su + R'.slots ≤ R.slots) (hd : decode M.2.1 pc = .ok (.invokespecial idx, 3))
    (kk : ∀ (v : Option am_V) (kd' : am_kd) (rv' : am_rv) (iv' : am_iv), post' v kd' rv' iv' → am_W l M R post (pc + 3) ls (v.toList ++ rest) kd' rv' iv' (cu + R'.cells) (su + R'.slots)) : am_W l M R post pc ls st kd rv iv cu su := by
  intro p e s m args below meth c D A ad0 kd0 H locs lsA ad C Rr
  have hL := Rr.2.2.2.2.2.2
  subst hst
  obtain ⟨⟨h1, h2, h3, h3b, h3c⟩, h4, h5, h6, h7, h8, h9, h10⟩ := hC
  have hts : ∀ w ∈ am_T, w.before args s = true := fun w hw => C.2.2.2.2.2.1 w (List.mem_cons_of_mem _ hw)
  have hrest : ∀ v ∈ rest, am_lv kd v := fun v hv => hL v (List.mem_append_right _ (List.mem_cons_of_mem _ hv))
  have hav : ∀ v ∈ am_P o :: av, am_lv kd v := fun v hv => by
    rcases List.mem_cons.mp hv with h | h
    · subst h; exact hL _ (List.mem_append_right _ List.mem_cons_self)
    · exact hL v (List.mem_append_left _ (List.mem_reverse.mpr h))
  obtain ⟨cellB, hcB, hoB, hclB⟩ := am_recv C.2.2.2.2.2.2.2.2.1 Rr.1 hk hr
  obtain ⟨hfc, kB, hkB, -⟩ := (C.2.2.2.2.2.2.2.2.1.1.1 ci r hr).2
  have hce : cellB.cls = D.1.1 ci := Option.some.inj (hclB.symm.trans hfc)
  have hG := am_good (M := M) h1
  have hpre := am_pre C Rr hav
  have hlen : ∀ sig, parseMethodDescriptor M'.1.desc = some sig → (av.map (am_cv ad)).length = sig.parameters.length := fun sig h => by
    rw [h] at h3c
    rw [List.length_map, hn]
    exact (Option.some.inj h3c).symm
  refine am_after (aa := ((am_P o :: av).map (am_cv ad)).toArray) C Rr hrest ?_ kk
  have hK : Back l R p e below s args M'.1 3 8 (PreOf R R'.cells R'.slots (am_Pc D ad H.size (am_P o :: av) kd rv iv)) (PostOf (am_Qc D (am_A kd ad H.size) ad kd post') R'.cells R'.slots (am_A kd ad H.size)) := back_of (bytes := M'.2.1) (maxL := M'.2.2.1) (ret := M'.2.2.2) (hM D ad H.size) am_Pc_blind rfl rfl hroom.1 hroom.2 (pay_in C.2.2.2.2.2.1 hG) List.mem_cons_self (fun a' U hW => word_at hW (Or.inl (by first | rfl | simp [Cond.onTables, Cond.keeps, Cond.steady])) (hts _ h2))
  intro T hT X
  obtain ⟨mk, methM, hnamed, hmethM, hstM, habM⟩ := Cond.instanceMethod_spec (hts _ h8)
  obtain ⟨methM', cM, hmethM', -, -, -, -, -, -, hsigM⟩ := Cond.code_spec hnamed (hts _ h1)
  cases hmethM.symm.trans hmethM'
  obtain ⟨ps, dk, kp, hps, hdk, hkp, hsuper, -, -, hnid⟩ := Cond.superclass_spec C.2.2.2.2.1 (hts _ h6)
  obtain ⟨ps2, dk2, kp2, hps2, hdk2, hkp2, hsuper2, -⟩ := Cond.superclass_spec hps (hts _ h7)
  have hnm : s.methodNamed? ⟨M'.1.cls, x.name, x.desc⟩ = some mk := by rw [← h10]; exact hnamed
  have hpm : ps2 = mk.cls := Option.some.inj (hps2.symm.trans (findClass_of_methodNamed hnamed))
  have hsub : s.vm.isSubclass ps mk.cls = true := by
    have hz : ps < s.vm.classes.size := (Array.getElem?_eq_some_iff.mp hdk2).1
    obtain ⟨f, hf⟩ : ∃ f, s.vm.classes.size = f + 1 := ⟨s.vm.classes.size - 1, (Nat.sub_add_cancel (Nat.lt_of_le_of_lt (Nat.zero_le _) hz)).symm⟩
    simp [Vm.isSubclass, hf, Vm.isSubclassAux, hdk2, hsuper2, hpm]
  obtain ⟨vm₁, X₁, hstep₁⟩ := X.invokespecialUp C.1 C.2.2.2.2.1 (hts _ h4) (hts _ h5) hnm hmethM hstM habM h9 hdk hnid hps hsuper hsub (a := ad o) (cell := cellB) (by rw [hT]; exact hcB)
    (fun z h => by rw [h] at hoB; cases hoB) (by rw [hce]; exact hkB) (g := F0 m pc lsA ((av.reverse ++ am_P o :: rest).map (am_cv ad))) rfl (argsL := av.map (am_cv ad)) (rest := rest.map (am_cv ad)) (hlen _ hsigM) (by simp [am_cv]) (by rw [C.2.1]; exact hd)
  obtain ⟨v, ⟨U', l2, c2, s2⟩, X', ⟨g', mk', t, L, e1, e2, hq, q1, hL2, q2, q3⟩, hsteps⟩ := hK m meth c ⟨T.setVm vm₁, locs, cu, su⟩ (F0 m pc lsA (rest.map (am_cv ad))) (.invokespecial idx) mk ((am_P o :: av).map (am_cv ad)).toArray X₁ rfl (Rr.2.2.2.2.1.1.trans C.2.2.2.1.symm) (by rw [C.2.1]; exact hd) (lv_room (rest := rest.map (am_cv ad)) (by rw [am_wt_ok]; exact hw)) (X₁.named hnamed) ⟨hcs.1, hcs.2, hpre (T.setVm vm₁) hT X₁.warmed⟩
  dsimp only [Pt.U, Pt.locs, Pt.cells, Pt.slots] at X' e1 e2 q1 q2 q3 hsteps
  subst q1; subst q2; subst q3
  exact ⟨v, _, t, U', L, hT, X', hL2, e1, e2, hq, fun target h => hstep₁ _ (by rw [doInvoke_state]; exact hsteps.trans h)⟩
theorem A_callQ1 {M' : am_M} {d idx n ci : Nat} {x : MethodName} {o : am_N} {r : vw_C} {av rest : List am_V} {kd1 : am_kd} {rv1 : am_rv} {iv1 : am_iv} {v : am_V} (hC : am_CQ M.1.cls idx x M' n) (hM : am_Met l M' (am_rm d 0 0) (am_P o :: av) kd rv iv (am_ret (some v) kd1 rv1 iv1)) (hk : kd o = some (.inl ci)) (hr : vwCl[ci]? = some r) (hn : av.length = n) (hst : av.reverse ++ am_P o :: rest = st) (hw : am_wt rest ≤ 8) (hroom : d + 1 ≤ R.frames ∧ 8 + (M'.2.2.1 + 11) + 60 * d ≤ R.locals) (hcs : cu ≤ R.cells ∧ su ≤ R.slots) (hd : decode M.2.1 pc = .ok (.invokespecial idx, 3)) (k : am_W l M R post (pc + 3) ls (v :: rest) kd1 rv1 iv1 cu su) : am_W l M R post pc ls st kd rv iv cu su := by
  refine A_callQ hC hM hk hr hn hst hw hroom hcs hd (fun v9 kd9 rv9 iv9 h9 => ?_)
  obtain ⟨e1, e2, e3, e4⟩ := h9
  subst e1; subst e2; subst e3; subst e4
  exact k
end AQ
theorem cq_X6_22 : am_CQ RX6 22 (⟨RX10, "ends", "(ILSmokeRings$Row;)I"⟩ : MethodName) mX2_ends 2 := ⟨ce_X2_ends, (am_tT 1010 (by decide +kernel)), (am_tT 1011 (by decide +kernel)), (am_tT 427 (by decide +kernel)), (am_tT 417 (by decide +kernel)), (am_tT 996 (by decide +kernel)), by decide +kernel, rfl⟩
theorem cq_X6_33 : am_CQ RX6 33 (⟨RX10, "tells", "(ILSmokeRings$Row;)I"⟩ : MethodName) mX2_tells 2 := ⟨ce_X2_tells, (am_tT 1025 (by decide +kernel)), (am_tT 1026 (by decide +kernel)), (am_tT 427 (by decide +kernel)), (am_tT 417 (by decide +kernel)), (am_tT 1013 (by decide +kernel)), by decide +kernel, rfl⟩
theorem cq_X9_25 : am_CQ RX9 25 (⟨RX0, "goes", "(ILSmokeRings$Row;)I"⟩ : MethodName) mX2_goes 2 := ⟨ce_X2_goes, (am_tT 970 (by decide +kernel)), (am_tT 971 (by decide +kernel)), (am_tT 407 (by decide +kernel)), (am_tT 397 (by decide +kernel)), (am_tT 955 (by decide +kernel)), by decide +kernel, rfl⟩
theorem cq_X9_29 : am_CQ RX9 29 (⟨RX0, "tells", "(ILSmokeRings$Row;)I"⟩ : MethodName) mX2_tells 2 := ⟨ce_X2_tells, (am_tT 1032 (by decide +kernel)), (am_tT 1033 (by decide +kernel)), (am_tT 407 (by decide +kernel)), (am_tT 397 (by decide +kernel)), (am_tT 1013 (by decide +kernel)), by decide +kernel, rfl⟩
