/-! THE ABSTRACT MACHINE: objects have names (three numbers), a heap is three functions: kinds, references, ints. am_W is the judgement W for it, am_Met a method's contract. -/
abbrev am_N : Type := Nat × Nat × Nat
abbrev am_V : Type := am_N ⊕ Value
abbrev am_K : Type := Nat ⊕ (Nat × Nat)
abbrev am_kd : Type := am_N → Option am_K
abbrev am_rv : Type := am_N → Nat → Option am_N
abbrev am_iv : Type := am_N → Nat → Int32
abbrev am_D : Type := va_G × (Nat → ClassId) × ((Nat → Nat) × (Nat → Nat)) × (Nat × Nat × (Nat → Int32))
abbrev am_M : Type := MethodName × ByteArray × Nat × Option FieldType
abbrev am_I (x : Int32) : am_V := .inr (.int x)
abbrev am_J (x : Int64) : am_V := .inr (.long x)
abbrev am_P (n : am_N) : am_V := .inl n
abbrev am_0 : am_V := .inr .null
def am_cv (ad : am_N → Nat) : am_V → Value
  | .inl n => .ref (ad n)
  | .inr v => v
def am_rf (o : Option am_N) : am_V := match o with
  | none => am_0
  | some n => am_P n
theorem am_cv_rf (ad : am_N → Nat) (o : Option am_N) : am_cv ad (am_rf o) = va_rf (o.map ad) := by cases o <;> rfl
def am_c2 : am_V → Bool
  | .inr (.long _) => true
  | .inr (.double _) => true
  | _ => false
theorem am_c2_cat (ad : am_N → Nat) (v : am_V) : (am_cv ad v).category = if am_c2 v then 2 else 1 := by
  cases v with
  | inl n => rfl
  | inr v => cases v <;> rfl
def am_fty (ci : Nat) : Nat → FieldType := match ci with
  | 0 => tyX0 | 1 => tyX1 | 2 => tyX2 | 3 => tyX3 | 4 => tyX4 | 5 => tyX5 | 6 => tyX6 | 7 => tyX7 | 8 => tyX8 | 9 => tyX9 | 10 => tyX10 | 11 => tyX11 | 12 => tyX12 | _ => fun _ => .int
def am_aty (t : Nat) : FieldType := match t with
  | 0 => .int | 1 => .object RX3 | 2 => .object RX2 | 3 => .object RX7 | _ => .object RX5
def am_isr (t : FieldType) : Bool := match t with
  | .object _ => true
  | .array _ => true
  | _ => false
def am_sv (ad : am_N → Nat) (rv : am_rv) (iv : am_iv) (r : Bool) (n : am_N) (k : Nat) : Value := if r = true then va_rf ((rv n k).map ad) else .int (iv n k)
/-- the cell of a name: an object, an array, or (arrays of kinds 8, 9) something old that is only named -/
def am_at (D : am_D) (ad : am_N → Nat) (rv : am_rv) (iv : am_iv) (n : am_N) (K : am_K) (H : Heap) : Prop := match K with
  | .inl ci => ∃ r : vw_C, vwCl[ci]? = some r ∧ t_OB (ad n) (D.1.1 ci) r.2.2 (D.1.2 ci) H (fun k => am_sv ad rv iv (am_isr (am_fty ci k)) n k)
  | .inr a => (a.1 < 5 → H[ad n]? = some (arrV (D.2.1 a.1) a.2 (fun j => am_sv ad rv iv (am_isr (am_aty a.1)) n j))) ∧ (a.1 = 8 → ad n = D.2.2.2.1) ∧ (a.1 = 9 → ad n = if n.2.2 = 0 then D.2.2.1.1 n.2.1 else D.2.2.1.2 n.2.1)
/-- a kind of which only the name is known -/
def am_op (K : am_K) : Prop := match K with
  | .inl _ => False
  | .inr a => 5 ≤ a.1
def am_HR (D : am_D) (ad : am_N → Nat) (kd : am_kd) (rv : am_rv) (iv : am_iv) (H : Heap) : Prop :=
  (∀ n K, kd n = some K → am_at D ad rv iv n K H) ∧ (∀ n n', kd n ≠ none → kd n' ≠ none → n.1 < 40 → n'.1 < 40 → ad n = ad n' → n = n') ∧ (∀ n k o, kd n ≠ none → rv n k = some o → kd o ≠ none) ∧ ∀ n K, kd n = some K → (40 ≤ n.1 ↔ am_op K)
def am_lv (kd : am_kd) : am_V → Prop
  | .inl n => kd n ≠ none
  | .inr _ => True
def am_T : List Cond := lw_tbl.filter goodWord
def am_ws (M : am_M) : List Cond := Cond.code M.1 M.2.1 M.2.2.1 M.2.2.2 :: am_T
def am_tys (D : am_D) : List (ClassId × FieldType) := [(D.2.1 0, .int), (D.2.1 1, .object RX3), (D.2.1 2, .object RX2), (D.2.1 3, .object RX7), (D.2.1 4, .object RX5)]
def am_nw : List Cond := lw_tbl.filter (fun w => match w with | .methodLinkNest _ _ _ _ => true | _ => false)
def am_nc : List (String × String) := [(RX0, RX1), (RX0, RX6), (RX0, RX8), (RX0, RX9), (RX0, RX10), (RX1, RX0), (RX1, RX6), (RX1, RX8), (RX1, RX9), (RX1, RX10), (RX2, RX0), (RX2, RX1), (RX2, RX6), (RX2, RX8), (RX2, RX9), (RX2, RX10), (RX6, RX0), (RX6, RX1), (RX6, RX8), (RX6, RX9), (RX8, RX0), (RX8, RX1), (RX8, RX6), (RX8, RX9), (RX8, RX10), (RX9, RX1), (RX9, RX6), (RX9, RX8), (RX9, RX10), (RX10, RX0), (RX10, RX1), (RX10, RX6), (RX10, RX8), (RX10, RX9)]
def am_yc : List (String × String) := [(RX9, RX0), (RX6, RX10), (RX8, RX2), (RX1, RX2), (RX0, RX2), (RX9, RX2), (RX10, RX2), (RX6, RX2)]
def am_Yc (C T : String) (U : State) : Prop := ∃ c t : ClassId, U.vm.findClass C = some c ∧ U.vm.findClass T = some t ∧ U.vm.assignable c t = true
theorem am_Yc.moved {C T : String} {u U : State} (hvm : u.vm.Alike U.vm) (h : am_Yc C T u) : am_Yc C T U := by
  obtain ⟨c, t, h1, h2, h3⟩ := h
  exact ⟨c, t, by rw [hvm.findClass]; exact h1, by rw [hvm.findClass]; exact h2, by rw [hvm.assignable]; exact h3⟩
/-- what the tables and the old heap say, for every method's start -/
def am_KF (D : am_D) (A : Nat → Prop) (s : State) : Prop :=
  va_K D.1 vwCl (am_tys D) s ∧ (∀ w ∈ am_nw, va_Nw w s) ∧ ((∀ q ∈ am_nc, va_Nc q.1 q.2 s) ∧ (∀ q ∈ am_yc, am_Yc q.1 q.2 s) ∧ ∀ C ∈ [RX3, RX2, RX7, RX5], va_AO C s) ∧
  (vk_S 2 [3, 3] [[108, 113, 104], [116, 119, 107]] D.2.2.1.1 D.2.2.1.2 A s s.heap ∧ va_Z "java/lang/String" "COMPACT_STRINGS" "Z" (.int 1) A s s.heap) ∧ vk_R RX11 182 "lqh" (D.2.2.1.1 0) s ∧ vk_R RX11 184 "twk" (D.2.2.1.1 1) s ∧
  (va_X D.2.2.2.1 D.2.2.2.2.1 D.2.2.2.2.2 s s.heap ∧ D.2.2.2.1 < s.heap.size ∧ ¬ A D.2.2.2.1)
def am_A (kd : am_kd) (ad : am_N → Nat) (sz : Nat) : Nat → Prop := fun q => (∃ n, kd n ≠ none ∧ n.1 < 40 ∧ ad n = q) ∨ sz ≤ q
def am_L (ad : am_N → Nat) (ls : List (Option am_V)) (nL : Nat) (lsA : Array Slot) : Prop := lsA.size = nL ∧ lv_wf lsA ∧ ∀ (i : Nat) (v : am_V), ls[i]? = some (some v) → lsA[i]? = some (Slot.val (am_cv ad v))
abbrev am_Post : Type := Option am_V → am_kd → am_rv → am_iv → Prop
def am_Qc (D : am_D) (A : Nat → Prop) (ad0 : am_N → Nat) (kd0 : am_kd) (post : am_Post) : Array Value → State → Outcome → State → Prop := fun _ s o t =>
  (∃ (v : Option am_V) (kd : am_kd) (rv : am_rv) (iv : am_iv) (ad : am_N → Nat), o = .returned (v.map (am_cv ad)) ∧ post v kd rv iv ∧ am_HR D ad kd rv iv t.heap ∧ (∀ n, kd n ≠ none → n.1 < 40 → A (ad n)) ∧ (∀ n, kd0 n ≠ none → ad n = ad0 n ∧ kd n ≠ none) ∧ ∀ w, v = some w → am_lv kd w) ∧ va_F A s t
def am_C (M : am_M) (p : Program) (s : State) (m : MethodId) (args : Array Value) (meth : Method) (c : Code) (D : am_D) (A : Nat → Prop) : Prop :=
  p.tables.exec = Jvm.exec ∧ c.code = M.2.1 ∧ meth.sig.returnType = M.2.2.2 ∧ c.maxLocals = M.2.2.1 ∧ s.vm.findClass M.1.cls = some m.cls ∧ (∀ w ∈ am_ws M, w.before args s = true) ∧ meth.locks = false ∧ meth.name = M.1.name ∧ am_KF D A s ∧ ∀ q, s.heap.size ≤ q → A q
def am_R (M : am_M) (s : State) (D : am_D) (A : Nat → Prop) (ad0 : am_N → Nat) (kd0 : am_kd) (H : Heap) (locs : List Loc) (lsA : Array Slot) (ad : am_N → Nat) (ls : List (Option am_V)) (st : List am_V) (kd : am_kd) (rv : am_rv) (iv : am_iv) : Prop :=
  am_HR D ad kd rv iv H ∧ (∀ n, kd n ≠ none → n.1 < 40 → A (ad n)) ∧ va_S A s.heap H locs ∧ (∀ n, kd0 n ≠ none → ad n = ad0 n ∧ kd n ≠ none) ∧ am_L ad ls M.2.2.1 lsA ∧ (∀ v, some v ∈ ls → am_lv kd v) ∧ ∀ v ∈ st, am_lv kd v
def am_W (l : Launch) (M : am_M) (R : Room) (post : am_Post) (pc : Nat) (ls : List (Option am_V)) (st : List am_V) (kd : am_kd) (rv : am_rv) (iv : am_iv) (cu su : Nat) : Prop :=
  ∀ (p : Program) (e : Env) (s : State) (m : MethodId) (args : Array Value) (below : List Frame) (meth : Method) (c : Code) (D : am_D) (A : Nat → Prop) (ad0 : am_N → Nat) (kd0 : am_kd) (H : Heap) (locs : List Loc) (lsA : Array Slot) (ad : am_N → Nat),
    am_C M p s m args meth c D A → am_R M s D A ad0 kd0 H locs lsA ad ls st kd rv iv →
    W p l e R s m args below meth c H locs cu su (MQ below (am_Qc D A ad0 kd0 post) args s R.cells R.slots A) (F0 m pc lsA (st.map (am_cv ad)))
def am_Pc (D : am_D) (ad : am_N → Nat) (sz : Nat) (av : List am_V) (kd : am_kd) (rv : am_rv) (iv : am_iv) : Array Value → State → Prop := fun args U =>
  args = (av.map (am_cv ad)).toArray ∧ U.heap.size = sz ∧ am_KF D (am_A kd ad sz) U ∧ am_HR D ad kd rv iv U.heap ∧ ∀ v ∈ av, am_lv kd v
def am_Met (l : Launch) (M : am_M) (R : Room) (av : List am_V) (kd : am_kd) (rv : am_rv) (iv : am_iv) (post : am_Post) : Prop :=
  ∀ (D : am_D) (ad : am_N → Nat) (sz : Nat), Met l M.1 (am_ws M) R (am_Pc D ad sz av kd rv iv) (am_Qc D (am_A kd ad sz) ad kd post) R.cells R.slots (am_A kd ad sz)
/-- the locals at a method's entry -/
def am_ent : List am_V → List (Option am_V)
  | [] => []
  | v :: vs => if am_c2 v = true then some v :: none :: am_ent vs else some v :: am_ent vs
theorem am_ent_len (ad : am_N → Nat) (av : List am_V) : (lg_sl (av.map (am_cv ad))).length = (am_ent av).length := by
  induction av with
  | nil => rfl
  | cons v vs ih =>
    have e : lg_sl ((v :: vs).map (am_cv ad)) = (if (am_cv ad v).category = 2 then [.val (am_cv ad v), .second] else [.val (am_cv ad v)]) ++ lg_sl (vs.map (am_cv ad)) := by
      simp [lg_sl]
    rw [e, am_c2_cat]
    by_cases h : am_c2 v = true
    · simp [am_ent, h, ih]
    · simp [am_ent, h, ih]
theorem am_ent_args (ad : am_N → Nat) : ∀ (av : List am_V) (z i : Nat) (w : am_V), (am_ent av)[i]? = some (some w) → (z + i, am_cv ad w) ∈ lv_args z (av.map (am_cv ad)) := by
  intro av
  induction av with
  | nil => intro z i w h; simp [am_ent] at h
  | cons v vs ih =>
    intro z i w h
    have e : lv_args z ((v :: vs).map (am_cv ad)) = (z, am_cv ad v) :: lv_args (if (am_cv ad v).category = 2 then z + 2 else z + 1) (vs.map (am_cv ad)) := rfl
    rw [e, am_c2_cat]
    by_cases hc : am_c2 v = true
    · simp only [am_ent, hc, if_true] at h ⊢
      match i, h with
      | 0, h => simp at h; subst h; simp
      | 1, h => simp at h
      | i + 2, h =>
        simp only [List.getElem?_cons_succ] at h
        have h2 := ih (z + 2) i w h
        rw [show z + (i + 2) = z + 2 + i by omega]
        exact List.mem_cons_of_mem _ h2
    · simp only [am_ent, hc] at h ⊢
      match i, h with
      | 0, h => simp at h; subst h; simp
      | i + 1, h =>
        simp at h
        have h2 := ih (z + 1) i w h
        rw [show z + (i + 1) = z + 1 + i by omega]
        simp
        exact Or.inr h2
theorem am_KF.blind {D : am_D} {A : Nat → Prop} {U U' : State} (hv : U'.vm = U.vm) (hh : U'.heap = U.heap) (h : am_KF D A U) : am_KF D A U' := by
  obtain ⟨h1, h2, h3, h4, h5, h6, h7, h8, h9⟩ := h
  have hal : U.vm.Alike U'.vm := by rw [hv]; exact Vm.Alike.refl _
  refine ⟨h1.moved hal, fun w hw => ?_, ⟨fun q hq => (h3.1 q hq).moved hal, fun q hq => (h3.2.1 q hq).moved hal, fun q hq => (h3.2.2 q hq).moved hal⟩, ?_, h5.same hv, h6.same hv, ?_, by rw [hh]; exact h8, h9⟩
  · refine va_Nw.same ?_ hv.symm (h2 w hw)
    have h3 := (List.mem_filter.mp hw).2
    cases w <;> first | rfl | cases h3
  · rw [hh]; exact ⟨h4.1.moved hal, h4.2.moved hal⟩
  · rw [hh]; exact h7.moved hal
theorem am_Pc_blind {D : am_D} {ad : am_N → Nat} {sz : Nat} {av : List am_V} {kd : am_kd} {rv : am_rv} {iv : am_iv} : FrameBlind (am_Pc D ad sz av kd rv iv) := by
  intro a U g mk h
  obtain ⟨h1, h2, h3, h4, h5⟩ := h
  exact ⟨h1, h2, am_KF.blind (U := U) (U' := U.calling g mk a) rfl rfl h3, h4, h5⟩
/-- the callee's start, from the caller's -/
theorem am_KF.call {D : am_D} {A B : Nat → Prop} {s U : State} {H : Heap} {locs : List Loc} (hK : am_KF D A s) (hS : va_S A s.heap H locs) (hAB : ∀ q, B q → A q) (hU : U.heap = H) (hW : s.WarmedH U.vm) : am_KF D B U := by
  obtain ⟨h1, h2, h3, h4, h5, h6, h7, h8, h9⟩ := hK
  refine ⟨h1.moved hW.alike, fun w hw => ?_, ⟨fun q hq => (h3.1 q hq).moved hW.alike, fun q hq => (h3.2.1 q hq).moved hW.alike, fun q hq => (h3.2.2 q hq).moved hW.alike⟩, ?_, h5.warm hW, h6.warm hW, ?_, ?_, fun h => h9 (hAB _ h)⟩
  · have h3 := (List.mem_filter.mp hw).2
    cases w <;> first | exact va_Nw.warmM hW (h2 _ hw) | cases h3
  · rw [hU]; exact ⟨((h4.1.kept hS.2.1).moved hW.alike).narrow hAB, ((h4.2.kept hS.2.1).moved hW.alike).narrow hAB⟩
  · rw [hU]; exact (h7.kept (hS.2.1 _ h8 h9)).moved hW.alike
  · rw [hU]; exact Nat.lt_of_lt_of_le h8 hS.1
set_option maxHeartbeats 1000000 in
/-- a contract out of a walk -/
theorem am_Met.of {l : Launch} {M : am_M} {R : Room} {av : List am_V} {kd : am_kd} {rv : am_rv} {iv : am_iv} {post : am_Post} (hy : plainName M.1.cls = true) (hn : (am_ent av).length ≤ M.2.2.1) {ls : List (Option am_V)} (hls : am_ent av ++ List.replicate (M.2.2.1 - (am_ent av).length) none = ls) (k : am_W l M R post 0 ls [] kd rv iv 0 0) : am_Met l M R av kd rv iv post := by
  intro D ad sz
  refine Met.ofW (cc := M.2.1) (maxL := M.2.2.1) (ret := M.2.2.2) (ws' := am_T) hy rfl ?_
  intro p e s m args below meth c s₁ B hml hv
  obtain ⟨rfl, hsz, hKF, hHR, hlv⟩ := hv
  subst hsz
  have hl := lv_entry (av.map (am_cv ad)) (n := M.2.2.1) (by rw [am_ent_len]; exact hn)
  rw [lg_entry_eq]
  generalize (lg_sl (av.map (am_cv ad)) ++ List.replicate (M.2.2.1 - (lg_sl (av.map (am_cv ad))).length) Slot.unset).toArray = lsA at hl ⊢
  refine k p e s m _ below meth c D _ ad kd s.heap [] lsA ad ⟨B.exec, B.bytes, B.returns, hml, findClass_of_methodNamed B.named, atoms_spec (ws := am_ws M) B.pre, B.notSynchronized, (name_of_methodNamed B.named B.method).1, hKF, fun q h => Or.inr h⟩ ⟨hHR, fun n h1 h2 => Or.inl ⟨n, h1, h2, rfl⟩, va_S.rf, fun n h => ⟨rfl, h⟩, ⟨hl.1, hl.2.1, fun i v hi => ?_⟩, fun v hv => ?_, fun v hv => by cases hv⟩
  · subst hls
    rw [List.getElem?_append] at hi
    split at hi
    · have h2 := am_ent_args ad av 0 i v hi
      rw [Nat.zero_add] at h2
      exact hl.2.2 _ h2
    · have h2 := List.mem_of_getElem? hi
      have h3 := List.eq_of_mem_replicate h2
      cases h3
  · subst hls
    rcases List.mem_append.mp hv with h | h
    · have : ∀ (l : List am_V), some v ∈ am_ent l → v ∈ l := by
        intro l
        induction l with
        | nil => intro h; cases h
        | cons a t ih =>
          intro h
          by_cases hc : am_c2 a = true
          · simp [am_ent, hc] at h
            rcases h with h | h
            · subst h; simp
            · exact List.mem_cons_of_mem _ (ih h)
          · simp [am_ent, hc] at h
            rcases h with h | h
            · subst h; simp
            · exact List.mem_cons_of_mem _ (ih h)
      exact hlv v (this av h)
    · have h3 := List.eq_of_mem_replicate h
      cases h3
