/-- as am_W, for starts of which Φ says more -/
def am_X (Φ : am_D → Prop) (l : Launch) (M : am_M) (R : Room) (post : am_Post) (pc : Nat) (ls : List (Option am_V)) (st : List am_V) (kd : am_kd) (rv : am_rv) (iv : am_iv) (cu su : Nat) : Prop :=
  ∀ (p : Program) (e : Env) (s : State) (m : MethodId) (args : Array Value) (below : List Frame) (meth : Method) (c : Code) (D : am_D) (A : Nat → Prop) (ad0 : am_N → Nat) (kd0 : am_kd) (H : Heap) (locs : List Loc) (lsA : Array Slot) (ad : am_N → Nat),
    (am_C M p s m args meth c D A ∧ Φ D) → am_R M s D A ad0 kd0 H locs lsA ad ls st kd rv iv →
    W p l e R s m args below meth c H locs cu su (MQ below (am_Qc D A ad0 kd0 post) args s R.cells R.slots A) (F0 m pc lsA (st.map (am_cv ad)))
section AX
variable {Φ : am_D → Prop} {l : Launch} {M : am_M} {R : Room} {post : am_Post} {pc : Nat} {ls : List (Option am_V)} {st : List am_V} {kd : am_kd} {rv : am_rv} {iv : am_iv} {cu su : Nat}
theorem X_iconst {n : Int} (v : Int32) (hd : decode M.2.1 pc = .ok (.iconst n, 1)) (hv : Int32.ofInt n = v) (k : am_X Φ l M R post (pc + 1) ls (am_I v :: st) kd rv iv cu su) : am_X Φ l M R post pc ls st kd rv iv cu su := by
  intro p e s m args below meth c D A ad0 kd0 H locs lsA ad C Rr
  have hL := Rr.2.2.2.2.2.2
  exact lv_iconst C.1.1 C.1.2.1 hd hv (k p e s m args below meth c D A ad0 kd0 H locs lsA ad C (Rr.stk (am_l0 hL)))
theorem X_bipush {n : Int} (v : Int32) (hd : decode M.2.1 pc = .ok (.bipush n, 2)) (hv : (Int8.ofInt n).toInt32 = v) (k : am_X Φ l M R post (pc + 2) ls (am_I v :: st) kd rv iv cu su) : am_X Φ l M R post pc ls st kd rv iv cu su := by
  intro p e s m args below meth c D A ad0 kd0 H locs lsA ad C Rr
  have hL := Rr.2.2.2.2.2.2
  exact lv_bipush C.1.1 C.1.2.1 hd hv (k p e s m args below meth c D A ad0 kd0 H locs lsA ad C (Rr.stk (am_l0 hL)))
theorem X_iadd {x y : Int32} (hd : decode M.2.1 pc = .ok (.iadd, 1))  (k : am_X Φ l M R post (pc + 1) ls (am_I (x + y) :: st) kd rv iv cu su) : am_X Φ l M R post pc ls (am_I y :: am_I x :: st) kd rv iv cu su := by
  intro p e s m args below meth c D A ad0 kd0 H locs lsA ad C Rr
  have hL := Rr.2.2.2.2.2.2
  exact lv_iadd C.1.1 C.1.2.1 hd  (k p e s m args below meth c D A ad0 kd0 H locs lsA ad C (Rr.stk (am_l0 (am_l1 (am_l1 hL)))))
theorem X_isub {x y : Int32} (hd : decode M.2.1 pc = .ok (.isub, 1))  (k : am_X Φ l M R post (pc + 1) ls (am_I (x - y) :: st) kd rv iv cu su) : am_X Φ l M R post pc ls (am_I y :: am_I x :: st) kd rv iv cu su := by
  intro p e s m args below meth c D A ad0 kd0 H locs lsA ad C Rr
  have hL := Rr.2.2.2.2.2.2
  exact lv_isub C.1.1 C.1.2.1 hd  (k p e s m args below meth c D A ad0 kd0 H locs lsA ad C (Rr.stk (am_l0 (am_l1 (am_l1 hL)))))
theorem X_iand {x y : Int32} (hd : decode M.2.1 pc = .ok (.iand, 1))  (k : am_X Φ l M R post (pc + 1) ls (am_I (x &&& y) :: st) kd rv iv cu su) : am_X Φ l M R post pc ls (am_I y :: am_I x :: st) kd rv iv cu su := by
  intro p e s m args below meth c D A ad0 kd0 H locs lsA ad C Rr
  have hL := Rr.2.2.2.2.2.2
  exact lv_iand C.1.1 C.1.2.1 hd  (k p e s m args below meth c D A ad0 kd0 H locs lsA ad C (Rr.stk (am_l0 (am_l1 (am_l1 hL)))))
theorem X_icmpgt {x y : Int32} {off : Int} (tgt : Nat) (hd : decode M.2.1 pc = .ok (.if_icmp .gt off, 3)) (ht : (pc : Int) + off = (tgt : Int)) (kt : y < x → am_X Φ l M R post tgt ls st kd rv iv cu su) (kf : ¬ (y < x) → am_X Φ l M R post (pc + 3) ls st kd rv iv cu su) : am_X Φ l M R post pc ls (am_I y :: am_I x :: st) kd rv iv cu su := by
  intro p e s m args below meth c D A ad0 kd0 H locs lsA ad C Rr
  have hL := Rr.2.2.2.2.2.2
  exact lv_icmp_gt C.1.1 C.1.2.1 hd ht (fun h => kt h p e s m args below meth c D A ad0 kd0 H locs lsA ad C (Rr.stk (am_l1 (am_l1 hL)))) (fun h => kf h p e s m args below meth c D A ad0 kd0 H locs lsA ad C (Rr.stk (am_l1 (am_l1 hL))))
theorem X_icmpeq {x y : Int32} {off : Int} (tgt : Nat) (hd : decode M.2.1 pc = .ok (.if_icmp .eq off, 3)) (ht : (pc : Int) + off = (tgt : Int)) (kt : x = y → am_X Φ l M R post tgt ls st kd rv iv cu su) (kf : ¬ (x = y) → am_X Φ l M R post (pc + 3) ls st kd rv iv cu su) : am_X Φ l M R post pc ls (am_I y :: am_I x :: st) kd rv iv cu su := by
  intro p e s m args below meth c D A ad0 kd0 H locs lsA ad C Rr
  have hL := Rr.2.2.2.2.2.2
  exact lv_icmp_eq C.1.1 C.1.2.1 hd ht (fun h => kt h p e s m args below meth c D A ad0 kd0 H locs lsA ad C (Rr.stk (am_l1 (am_l1 hL)))) (fun h => kf h p e s m args below meth c D A ad0 kd0 H locs lsA ad C (Rr.stk (am_l1 (am_l1 hL))))
theorem X_goto {off : Int} (tgt : Nat) (hd : decode M.2.1 pc = .ok (.goto off, 3)) (ht : (pc : Int) + off = (tgt : Int)) (k : am_X Φ l M R post tgt ls st kd rv iv cu su) : am_X Φ l M R post pc ls st kd rv iv cu su := by
  intro p e s m args below meth c D A ad0 kd0 H locs lsA ad C Rr
  exact lv_goto C.1.1 C.1.2.1 hd ht (k p e s m args below meth c D A ad0 kd0 H locs lsA ad C Rr)
theorem X_tableIn {dflt lo hi : Int} {offs : Array Int} {len : Nat} {x : Int32} {off : Int} (tgt : Nat) (hd : decode M.2.1 pc = .ok (.tableswitch dflt lo hi offs, len)) (h1 : ¬ x.toInt < lo) (h2 : ¬ hi < x.toInt) (ho : offs[(x.toInt - lo).toNat]? = some off) (ht : (pc : Int) + off = (tgt : Int)) (k : am_X Φ l M R post tgt ls st kd rv iv cu su) : am_X Φ l M R post pc ls (am_I x :: st) kd rv iv cu su := by
  intro p e s m args below meth c D A ad0 kd0 H locs lsA ad C Rr
  exact lv_tableIn C.1.1 C.1.2.1 hd h1 h2 ho ht (k p e s m args below meth c D A ad0 kd0 H locs lsA ad C (Rr.stk (am_l1 Rr.2.2.2.2.2.2)))
theorem X_tableOut {dflt lo hi : Int} {offs : Array Int} {len : Nat} {x : Int32} (tgt : Nat) (hd : decode M.2.1 pc = .ok (.tableswitch dflt lo hi offs, len)) (h : x.toInt < lo ∨ hi < x.toInt) (ht : (pc : Int) + dflt = (tgt : Int)) (k : am_X Φ l M R post tgt ls st kd rv iv cu su) : am_X Φ l M R post pc ls (am_I x :: st) kd rv iv cu su := by
  intro p e s m args below meth c D A ad0 kd0 H locs lsA ad C Rr
  exact lv_tableOut C.1.1 C.1.2.1 hd h ht (k p e s m args below meth c D A ad0 kd0 H locs lsA ad C (Rr.stk (am_l1 Rr.2.2.2.2.2.2)))
theorem X_dup {v : am_V} (hd : decode M.2.1 pc = .ok (.dup, 1)) (hc : am_c2 v = false) (k : am_X Φ l M R post (pc + 1) ls (v :: v :: st) kd rv iv cu su) : am_X Φ l M R post pc ls (v :: st) kd rv iv cu su := by
  intro p e s m args below meth c D A ad0 kd0 H locs lsA ad C Rr
  have hL := Rr.2.2.2.2.2.2
  exact lv_dup C.1.1 C.1.2.1 hd (am_cat1 ad hc) (k p e s m args below meth c D A ad0 kd0 H locs lsA ad C (Rr.stk (am_lc (hL _ List.mem_cons_self) hL)))
theorem X_iload_n {i : Nat} {k9 : Fin 4} {x : Int32} (hd : decode M.2.1 pc = .ok (.iload_n k9, 1)) (hi : (k9 : Nat) = i) (hv : ls[i]? = some (some (am_I x))) (k : am_X Φ l M R post (pc + 1) ls (am_I x :: st) kd rv iv cu su) : am_X Φ l M R post pc ls st kd rv iv cu su := by
  intro p e s m args below meth c D A ad0 kd0 H locs lsA ad C Rr
  have hL := Rr.2.2.2.2.2.2
  exact lv_iload_n C.1.1 C.1.2.1 hd hi (Rr.2.2.2.2.1.2.2 i _ hv) (k p e s m args below meth c D A ad0 kd0 H locs lsA ad C (Rr.stk (am_l0 hL)))
theorem X_aload_n {i : Nat} {k9 : Fin 4} {n : am_N} (hd : decode M.2.1 pc = .ok (.aload_n k9, 1)) (hi : (k9 : Nat) = i) (hv : ls[i]? = some (some (am_P n))) (k : am_X Φ l M R post (pc + 1) ls (am_P n :: st) kd rv iv cu su) : am_X Φ l M R post pc ls st kd rv iv cu su := by
  intro p e s m args below meth c D A ad0 kd0 H locs lsA ad C Rr
  have hL := Rr.2.2.2.2.2.2
  exact lv_aload_n C.1.1 C.1.2.1 hd hi (Rr.2.2.2.2.1.2.2 i _ hv) (k p e s m args below meth c D A ad0 kd0 H locs lsA ad C (Rr.stk (am_lc (Rr.2.2.2.2.2.1 _ (List.mem_of_getElem? hv)) hL)))
theorem X_i2l {x : Int32} (hd : decode M.2.1 pc = .ok (.i2l, 1))  (k : am_X Φ l M R post (pc + 1) ls (am_J x.toInt64 :: st) kd rv iv cu su) : am_X Φ l M R post pc ls (am_I x :: st) kd rv iv cu su := by
  intro p e s m args below meth c D A ad0 kd0 H locs lsA ad C Rr
  have hL := Rr.2.2.2.2.2.2
  exact lv_i2l C.1.1 C.1.2.1 hd rfl (k p e s m args below meth c D A ad0 kd0 H locs lsA ad C (Rr.stk (am_l0 (am_l1 hL))))
theorem X_lshl {x : Int64} {y : Int32} (hd : decode M.2.1 pc = .ok (.lshl, 1))  (k : am_X Φ l M R post (pc + 1) ls (am_J (x <<< (y.toInt64 &&& 63)) :: st) kd rv iv cu su) : am_X Φ l M R post pc ls (am_I y :: am_J x :: st) kd rv iv cu su := by
  intro p e s m args below meth c D A ad0 kd0 H locs lsA ad C Rr
  have hL := Rr.2.2.2.2.2.2
  exact lv_lshl C.1.1 C.1.2.1 hd rfl (k p e s m args below meth c D A ad0 kd0 H locs lsA ad C (Rr.stk (am_l0 (am_l1 (am_l1 hL)))))
theorem X_land {x y : Int64} (hd : decode M.2.1 pc = .ok (.land, 1))  (k : am_X Φ l M R post (pc + 1) ls (am_J (x &&& y) :: st) kd rv iv cu su) : am_X Φ l M R post pc ls (am_J y :: am_J x :: st) kd rv iv cu su := by
  intro p e s m args below meth c D A ad0 kd0 H locs lsA ad C Rr
  have hL := Rr.2.2.2.2.2.2
  exact lv_land C.1.1 C.1.2.1 hd  (k p e s m args below meth c D A ad0 kd0 H locs lsA ad C (Rr.stk (am_l0 (am_l1 (am_l1 hL)))))
theorem X_lor {x y : Int64} (hd : decode M.2.1 pc = .ok (.lor, 1))  (k : am_X Φ l M R post (pc + 1) ls (am_J (x ||| y) :: st) kd rv iv cu su) : am_X Φ l M R post pc ls (am_J y :: am_J x :: st) kd rv iv cu su := by
  intro p e s m args below meth c D A ad0 kd0 H locs lsA ad C Rr
  have hL := Rr.2.2.2.2.2.2
  exact lv_lor C.1.1 C.1.2.1 hd  (k p e s m args below meth c D A ad0 kd0 H locs lsA ad C (Rr.stk (am_l0 (am_l1 (am_l1 hL)))))
theorem X_ldc2 {index : Nat} {v : Int64} (hc : Cond.constantLong M.1.cls index v ∈ am_ws M) (hd : decode M.2.1 pc = .ok (.ldc2_w index, 3))  (k : am_X Φ l M R post (pc + 3) ls (am_J v :: st) kd rv iv cu su) : am_X Φ l M R post pc ls st kd rv iv cu su := by
  intro p e s m args below meth c D A ad0 kd0 H locs lsA ad C Rr
  have hL := Rr.2.2.2.2.2.2
  exact (fun a b d => lv_ldc2 a b C.1.2.2.2.2.1 (C.1.2.2.2.2.2.1 _ hc) d) C.1.1 C.1.2.1 hd  (k p e s m args below meth c D A ad0 kd0 H locs lsA ad C (Rr.stk (am_l0 hL)))
theorem X_iinc {i : Nat} {n : Int} {x : Int32} (v : Int32) {ls' : List (Option am_V)} (hd : decode M.2.1 pc = .ok (.iinc i n, 3)) (hx : ls[i]? = some (some (am_I x))) (hv : x + Int32.ofInt n = v) (hn : i < M.2.2.1) (hok : am_ok1 ls i = true) (hs : ls.set i (some (am_I v)) = ls') (k : am_X Φ l M R post (pc + 3) ls' st kd rv iv cu su) : am_X Φ l M R post pc ls st kd rv iv cu su := by
  intro p e s m args below meth c D A ad0 kd0 H locs lsA ad C Rr
  have hL := Rr.2.2.2.2.2.2
  subst hs
  have hm : (i, Value.int x) ∈ am_al ad ls := am_al_mem.mpr ⟨am_I x, hx, rfl⟩
  obtain ⟨k0, hk0⟩ := List.getElem?_of_mem hm
  refine lv_iinc C.1.1 C.1.2.1 hd Rr.2.2.2.2.1.has hk0 hv hn rfl (fun ls9 h9 => ?_)
  exact k p e s m args below meth c D A ad0 kd0 H locs ls9 ad C (Rr.loc (am_L.put1 (lsA := lsA) (v := am_I v) hok (List.getElem?_eq_some_iff.mp hx).1 h9) (am_setl Rr.2.2.2.2.2.1 trivial) hL)
set_option maxHeartbeats 1000000 in
theorem X_new (n : am_N) {ci idx : Nat} {r : vw_C} (hr : vwCl[ci]? = some r) (h1 : Cond.classLink M.1.cls idx r.1 ∈ am_T) (h2 : Cond.instantiable r.1 r.2.2 ∈ am_T) (h3 : Cond.initialized r.1 ∈ am_T) (hk : kd n = none) (ht : n.1 < 40) (hi0 : ∀ k, iv n k = 0) (hr0 : ∀ k, rv n k = none) (hcu : cu + 1 ≤ R.cells) (hsu : su + r.2.2 ≤ R.slots) (hd : decode M.2.1 pc = .ok (.new idx, 3)) (k : am_X Φ l M R post (pc + 3) ls (am_P n :: st) (am_uk kd n (.inl ci)) rv iv (cu + 1) (su + r.2.2)) : am_X Φ l M R post pc ls st kd rv iv cu su := by
  intro p e s m args below meth c D A ad0 kd0 H locs lsA ad C Rr
  have hL := Rr.2.2.2.2.2.2
  have hts : ∀ w ∈ am_T, w.before args s = true := fun w hw => C.1.2.2.2.2.2.1 w (List.mem_cons_of_mem _ hw)
  have hKn := C.1.2.2.2.2.2.2.2.2.1.1.1 ci r hr
  obtain ⟨c1, c2, -, c4⟩ := am_cls_ok ci r hr
  refine W.newcK C.1.1 C.1.2.1 C.1.2.2.2.2.1 (hts _ h1) (hts _ h2) (hts _ h3) rfl hd hcu hsu hKn.2.1 rfl fun H1 kC hkC e1 z1 o1 => ?_
  have hat : am_at D (am_na ad n H.size) rv iv n (.inl ci) H1 := by
    refine ⟨r, hr, ?_⟩
    have e9 : am_na ad n H.size n = H.size := by simp [am_na]
    rw [e9]
    refine (u_born (am_fty ci) hts c1 hKn hkC e1 c2).to (fun k hk => ?_)
    rw [am_dflt (c4 k hk)]
    simp [am_sv, hi0, hr0, va_rf]
  have K := k p e s m args below meth c D A ad0 kd0 H1 locs lsA (am_na ad n H.size) C (Rr.new C.1.2.2.2.2.2.2.2.2.2 hk ht (fun h => h) hr0 z1 o1 hat hL)
  rw [am_st_eq (K := .inl ci) hk ad H.size hL] at K
  exact K
theorem X_astore_n {i : Nat} {k9 : Fin 4} {n : am_N} {ls' : List (Option am_V)} (hd : decode M.2.1 pc = .ok (.astore_n k9, 1)) (hi : (k9 : Nat) = i) (hn : i < M.2.2.1) (hok : am_ok1 ls i = true) (hl : i < ls.length) (hs : ls.set i (some (am_P n)) = ls') (k : am_X Φ l M R post (pc + 1) ls' st kd rv iv cu su) : am_X Φ l M R post pc ls (am_P n :: st) kd rv iv cu su := by
  intro p e s m args below meth c D A ad0 kd0 H locs lsA ad C Rr
  have hL := Rr.2.2.2.2.2.2
  subst hs
  refine lv_astore_n C.1.1 C.1.2.1 hd hi Rr.2.2.2.2.1.has hn rfl (fun ls9 h9 => ?_)
  exact k p e s m args below meth c D A ad0 kd0 H locs ls9 ad C (Rr.loc (am_L.put1 (lsA := lsA) hok hl h9) (am_setl Rr.2.2.2.2.2.1 (hL _ List.mem_cons_self)) (am_l1 hL))
theorem X_istore_n {i : Nat} {k9 : Fin 4} {x : Int32} {ls' : List (Option am_V)} (hd : decode M.2.1 pc = .ok (.istore_n k9, 1)) (hi : (k9 : Nat) = i) (hn : i < M.2.2.1) (hok : am_ok1 ls i = true) (hl : i < ls.length) (hs : ls.set i (some (am_I x)) = ls') (k : am_X Φ l M R post (pc + 1) ls' st kd rv iv cu su) : am_X Φ l M R post pc ls (am_I x :: st) kd rv iv cu su := by
  intro p e s m args below meth c D A ad0 kd0 H locs lsA ad C Rr
  have hL := Rr.2.2.2.2.2.2
  subst hs
  refine lv_istore_n C.1.1 C.1.2.1 hd hi Rr.2.2.2.2.1.has hn rfl (fun ls9 h9 => ?_)
  exact k p e s m args below meth c D A ad0 kd0 H locs ls9 ad C (Rr.loc (am_L.put1 (lsA := lsA) hok hl h9) (am_setl Rr.2.2.2.2.2.1 (hL _ List.mem_cons_self)) (am_l1 hL))
theorem X_zret {v : Int32} (hd : decode M.2.1 pc = .ok (.ireturn, 1)) (hret : M.2.2.2 = some .boolean) (hn : narrow .boolean (.int v) = .int v) (hc : cu ≤ R.cells) (hs : su ≤ R.slots) (hp : post (some (am_I v)) kd rv iv) : am_X Φ l M R post pc ls [am_I v] kd rv iv cu su := by
  intro p e s m args below meth c D A ad0 kd0 H locs lsA ad C Rr
  refine W.widen hc hs ?_
  exact W.zret C.1.1 C.1.2.1 (C.1.2.2.1.trans hret) hn (fun t ht hW => ⟨⟨some (am_I v), kd, rv, iv, ad, rfl, hp, by rw [ht]; exact Rr.1, Rr.2.1, Rr.2.2.2.1, fun w hw => by cases hw; trivial⟩, Rr.2.2.1.F ht⟩) Rr.2.2.1.2.2 hd C.1.2.2.2.2.2.2.1
set_option maxHeartbeats 1000000 in
theorem X_after {p : Program} {e : Env} {s : State} {m : MethodId} {args : Array Value} {below : List Frame} {meth : Method} {c : Code} {D : am_D} {A : Nat → Prop} {ad0 : am_N → Nat} {kd0 : am_kd} {H : Heap} {locs : List Loc} {lsA : Array Slot} {ad : am_N → Nat} {R' : Room} {post' : am_Post} {aa : Array Value} {st0 : List Value} {rest : List am_V} (C : am_C M p s m args meth c D A ∧ Φ D) (Rr : am_R M s D A ad0 kd0 H locs lsA ad ls st kd rv iv) (hrest : ∀ v ∈ rest, am_lv kd v)
    (hr : va_Run p l e R s m args below meth c H locs cu su R'.cells R'.slots (F0 m pc lsA st0) (rest.map (am_cv ad)) (am_Qc D (am_A kd ad H.size) ad kd post' aa) (am_A kd ad H.size))
    (kk : ∀ (v : Option am_V) (kd' : am_kd) (rv' : am_rv) (iv' : am_iv), post' v kd' rv' iv' → am_X Φ l M R post (pc + 3) ls (v.toList ++ rest) kd' rv' iv' (cu + R'.cells) (su + R'.slots)) :
    W p l e R s m args below meth c H locs cu su (MQ below (am_Qc D A ad0 kd0 post) args s R.cells R.slots A) (F0 m pc lsA st0) := by
  intro T hT X
  obtain ⟨v, s₀, t, T', L, h0, X', hL, e1, e2, ⟨⟨v', kd', rv', iv', ad', hv, hpost, hHR, hA', had, hlv⟩, hz, hk⟩, go⟩ := hr T hT X
  cases hv
  rw [h0] at hz hk
  have hAA : ∀ q, am_A kd ad H.size q → A q := by
    intro q hq
    rcases hq with ⟨n, h1, h2, h3⟩ | h1
    · rw [← h3]; exact Rr.2.1 n h1 h2
    · exact C.1.2.2.2.2.2.2.2.2.2 q (Nat.le_trans Rr.2.2.1.1 h1)
  have hS : va_S A s.heap T'.heap (locs ++ L) := ⟨Nat.le_trans Rr.2.2.1.1 (by rw [e1]; exact hz), fun q h1 h2 => by rw [e1, hk q (Nat.lt_of_lt_of_le h1 Rr.2.2.1.1) (fun z => h2 (hAA q z))]; exact Rr.2.2.1.2.1 q h1 h2, fun q hq => by
    rcases List.mem_append.mp hq with h | h
    · exact Rr.2.2.1.2.2 q h
    · exact hAA _ (hL q h)⟩
  have hst : ∀ w ∈ v'.toList ++ rest, am_lv kd' w := by
    intro w hw
    rcases List.mem_append.mp hw with h | h
    · cases v' with
      | none => cases h
      | some v0 =>
        rw [Option.toList_some, List.mem_singleton] at h
        subst h; exact hlv _ rfl
    · exact am_lv_mono (fun n hn => (had n hn).2) (hrest w h)
  have K := kk v' kd' rv' iv' hpost p e s m args below meth c D A ad0 kd0 T'.heap (locs ++ L) lsA ad' C (Rr.move (by rw [e1]; exact hHR) (fun n h1 h2 => hAA _ (hA' n h1 h2)) hS had hst)
  have hmap : (v'.toList ++ rest).map (am_cv ad') = (v'.map (am_cv ad')).toList ++ rest.map (am_cv ad) := by
    rw [List.map_append]
    congr 1
    · cases v' <;> rfl
    · exact List.map_congr_left (fun w hw => am_cv_eq (fun n hn => (had n hn).1) (hrest w hw))
  rw [hmap] at K
  obtain ⟨t2, a1, b1⟩ := K T' rfl X'
  exact ⟨t2, go t2 a1, b1⟩
set_option maxHeartbeats 1000000 in
theorem X_callV {M' : am_M} {R' : Room} {post' : am_Post} {idx n ci : Nat} {o : am_N} {r : vw_C} {av rest : List am_V} (hC : am_CV M.1.cls idx M' n) (hM : am_Met l M' R' (am_P o :: av) kd rv iv post') (hk : kd o = some (.inl ci)) (hr : vwCl[ci]? = some r) (hrc : r.1 = M'.1.cls) (hn : av.length = n) (hst : av.reverse ++ am_P o :: rest = st) (hw : am_wt rest ≤ 8) (hroom : R'.frames + 1 ≤ R.frames ∧ 8 + (M'.2.2.1 + 11) + R'.locals ≤ R.locals) (hcs : cu + R'.cells ≤ R.cells ∧ su + R'.slots ≤ R.slots) (hd : decode M.2.1 pc = .ok (.invokevirtual idx, 3))
    (kk : ∀ (v : Option am_V) (kd' : am_kd) (rv' : am_rv) (iv' : am_iv), post' v kd' rv' iv' → am_X Φ l M R post (pc + 3) ls (v.toList ++ rest) kd' rv' iv' (cu + R'.cells) (su + R'.slots)) : am_X Φ l M R post pc ls st kd rv iv cu su := by
  intro p e s m args below meth c D A ad0 kd0 H locs lsA ad C Rr
  have hL := Rr.2.2.2.2.2.2
  subst hst
  obtain ⟨⟨h1, h2, h3⟩, h4, h5, h6⟩ := hC
  have hts : ∀ w ∈ am_T, w.before args s = true := fun w hw => C.1.2.2.2.2.2.1 w (List.mem_cons_of_mem _ hw)
  have hrest : ∀ v ∈ rest, am_lv kd v := fun v hv => hL v (List.mem_append_right _ (List.mem_cons_of_mem _ hv))
  have hav : ∀ v ∈ am_P o :: av, am_lv kd v := fun v hv => by
    rcases List.mem_cons.mp hv with h | h
    · subst h; exact hL _ (List.mem_append_right _ List.mem_cons_self)
    · exact hL v (List.mem_append_left _ (List.mem_reverse.mpr h))
  have hrv := am_recv C.1.2.2.2.2.2.2.2.2.1 Rr.1 hk hr
  rw [hrc] at hrv
  refine X_after C Rr hrest (va_runV (As := av.map (am_cv ad)) (rest := rest.map (am_cv ad)) (n := n) (C := M'.1.cls) (b := ad o) ⟨C.1.1, C.1.2.1, C.1.2.2.2.1, C.1.2.2.2.2.1, C.1.2.2.2.2.2.1⟩ (hM D ad H.size) ⟨callB_of (ws' := am_T) n C.1.2.2.2.2.2.1 (am_good h1) rfl rfl rfl (hts _ h2) (hts _ h4) h3 hroom, hts _ h5, hts _ h6⟩ ⟨am_Pc_blind, hrv, am_pre C.1 Rr hav⟩ rfl (by rw [List.length_map]; exact hn) Rr.2.2.2.2.1.1 (by simp [am_cv]) (lv_room (by rw [am_wt_ok]; exact hw)) hd hcs) kk
set_option maxHeartbeats 1000000 in
theorem X_callI {y : MethodName} {cc : ByteArray} {mL : Nat} {R' : Room} {post' : am_Post} {idx n : Nat} {o : am_N} {av rest : List am_V} (hC : am_CI M.1.cls idx (y, cc, mL, none) n) (hM : am_Met l (y, cc, mL, none) R' (am_P o :: av) kd rv iv post') (hn : av.length = n) (hst : av.reverse ++ am_P o :: rest = st) (hw : am_wt rest ≤ 8) (hroom : R'.frames + 1 ≤ R.frames ∧ 8 + (mL + 11) + R'.locals ≤ R.locals) (hcs : cu + R'.cells ≤ R.cells ∧ su + R'.slots ≤ R.slots) (hd : decode M.2.1 pc = .ok (.invokespecial idx, 3))
    (kk : ∀ (v : Option am_V) (kd' : am_kd) (rv' : am_rv) (iv' : am_iv), post' v kd' rv' iv' → am_X Φ l M R post (pc + 3) ls (v.toList ++ rest) kd' rv' iv' (cu + R'.cells) (su + R'.slots)) : am_X Φ l M R post pc ls st kd rv iv cu su := by
  intro p e s m args below meth c D A ad0 kd0 H locs lsA ad C Rr
  have hL := Rr.2.2.2.2.2.2
  subst hst
  obtain ⟨⟨h1, h2, h3⟩, h4, h5, h6, h7⟩ := hC
  have hts : ∀ w ∈ am_T, w.before args s = true := fun w hw => C.1.2.2.2.2.2.1 w (List.mem_cons_of_mem _ hw)
  have hrest : ∀ v ∈ rest, am_lv kd v := fun v hv => hL v (List.mem_append_right _ (List.mem_cons_of_mem _ hv))
  have hav : ∀ v ∈ am_P o :: av, am_lv kd v := fun v hv => by
    rcases List.mem_cons.mp hv with h | h
    · subst h; exact hL _ (List.mem_append_right _ List.mem_cons_self)
    · exact hL v (List.mem_append_left _ (List.mem_reverse.mpr h))
  refine X_after C Rr hrest (va_runI (As := av.map (am_cv ad)) (rest := rest.map (am_cv ad)) (n := n) (b := ad o) ⟨C.1.1, C.1.2.1, C.1.2.2.2.1, C.1.2.2.2.2.1, C.1.2.2.2.2.2.1⟩ (hM D ad H.size) ⟨callB_of (ws' := am_T) n C.1.2.2.2.2.2.1 (am_good (M' := (y, cc, mL, none)) h1) rfl rfl rfl (hts _ h2) (hts _ h4) h3 hroom, h6, hts _ h5⟩ ⟨am_Pc_blind, am_pre C.1 Rr hav⟩ rfl (by rw [List.length_map]; exact hn) Rr.2.2.2.2.1.1 (by simp [am_cv]) (lv_room (by rw [am_wt_ok]; exact hw)) hd hcs) kk
theorem X_top {x y : Int32} (h : x = y) (k : am_X Φ l M R post pc ls (am_I y :: st) kd rv iv cu su) : am_X Φ l M R post pc ls (am_I x :: st) kd rv iv cu su := h ▸ k
theorem X_inc3 {a0 a1 a2 : Option am_V} {t : List (Option am_V)} {x : Int32} {n : Int} (v : Int32) (hd : decode M.2.1 pc = .ok (.iinc 3 n, 3)) (hv : x + Int32.ofInt n = v) (hn : 3 < M.2.2.1) (hc : am_c1 a2 = true) (k : am_X Φ l M R post (pc + 3) (a0 :: a1 :: a2 :: some (am_I v) :: t) st kd rv iv cu su) : am_X Φ l M R post pc (a0 :: a1 :: a2 :: some (am_I x) :: t) st kd rv iv cu su := X_iinc v hd rfl hv hn (by simpa [am_ok1] using hc) rfl k
theorem X_ist3 {a0 a1 a2 a3 : Option am_V} {t : List (Option am_V)} {x : Int32} (hd : decode M.2.1 pc = .ok (.istore_n 3, 1)) (hn : 3 < M.2.2.1) (hc : am_c1 a2 = true) (k : am_X Φ l M R post (pc + 1) (a0 :: a1 :: a2 :: some (am_I x) :: t) st kd rv iv cu su) : am_X Φ l M R post pc (a0 :: a1 :: a2 :: a3 :: t) (am_I x :: st) kd rv iv cu su := X_istore_n (i := 3) hd rfl hn (by simpa [am_ok1] using hc) (by simp) rfl k
theorem X_ast1 {a0 a1 : Option am_V} {t : List (Option am_V)} {n : am_N} (hd : decode M.2.1 pc = .ok (.astore_n 1, 1)) (hn : 1 < M.2.2.1) (hc : am_c1 a0 = true) (k : am_X Φ l M R post (pc + 1) (a0 :: some (am_P n) :: t) st kd rv iv cu su) : am_X Φ l M R post pc (a0 :: a1 :: t) (am_P n :: st) kd rv iv cu su := X_astore_n (i := 1) hd rfl hn (by simpa [am_ok1] using hc) (by simp) rfl k
theorem X_ast2 {a0 a1 a2 : Option am_V} {t : List (Option am_V)} {n : am_N} (hd : decode M.2.1 pc = .ok (.astore_n 2, 1)) (hn : 2 < M.2.2.1) (hc : am_c1 a1 = true) (k : am_X Φ l M R post (pc + 1) (a0 :: a1 :: some (am_P n) :: t) st kd rv iv cu su) : am_X Φ l M R post pc (a0 :: a1 :: a2 :: t) (am_P n :: st) kd rv iv cu su := X_astore_n (i := 2) hd rfl hn (by simpa [am_ok1] using hc) (by simp) rfl k
theorem X_cu {cu' su' : Nat} (h1 : cu = cu') (h2 : su = su') (k : am_X Φ l M R post pc ls st kd rv iv cu' su') : am_X Φ l M R post pc ls st kd rv iv cu su := by
  subst h1; subst h2; exact k
theorem X_callVc {M' : am_M} {d c s idx n : Nat} {av rest : List am_V} {kd1 : am_kd} {rv1 : am_rv} {iv1 : am_iv} {v : am_V} {ci : Nat} {o : am_N} {r : vw_C} (hC : am_CV M.1.cls idx M' n) (hM : am_Met l M' (am_rm d c s) (am_P o :: av) kd rv iv (am_ret (some v) kd1 rv1 iv1)) (hk : kd o = some (.inl ci)) (hr : vwCl[ci]? = some r) (hrc : r.1 = M'.1.cls) (hn : av.length = n) (hst : av.reverse ++ am_P o :: rest = st) (hw : am_wt rest ≤ 8) (hroom : d + 1 ≤ R.frames ∧ 8 + (M'.2.2.1 + 11) + 60 * d ≤ R.locals) (hcs : cu + c ≤ R.cells ∧ su + s ≤ R.slots) (hd : decode M.2.1 pc = .ok (.invokevirtual idx, 3)) (k : am_X Φ l M R post (pc + 3) ls (v :: rest) kd1 rv1 iv1 (cu + c) (su + s)) : am_X Φ l M R post pc ls st kd rv iv cu su := by
  refine X_callV hC hM hk hr hrc hn hst hw hroom hcs hd (fun v9 kd9 rv9 iv9 h9 => ?_)
  obtain ⟨e1, e2, e3, e4⟩ := h9
  subst e1; subst e2; subst e3; subst e4
  exact k
theorem X_newW (n : am_N) {ci idx w : Nat} {r : vw_C} (hr : vwCl[ci]? = some r) (hrw : r.2.2 = w) (h1 : Cond.classLink M.1.cls idx r.1 ∈ am_T) (h2 : Cond.instantiable r.1 w ∈ am_T) (h3 : Cond.initialized r.1 ∈ am_T) (hk : kd n = none) (ht : n.1 < 40) (hi0 : ∀ k, iv n k = 0) (hr0 : ∀ k, rv n k = none) (hcu : cu + 1 ≤ R.cells) (hsu : su + w ≤ R.slots) (hd : decode M.2.1 pc = .ok (.new idx, 3)) (k : am_X Φ l M R post (pc + 3) ls (am_P n :: st) (am_uk kd n (.inl ci)) rv iv (cu + 1) (su + w)) : am_X Φ l M R post pc ls st kd rv iv cu su := by
  subst hrw
  exact X_new n hr h1 h2 h3 hk ht hi0 hr0 hcu hsu hd k
/-- the script -/
theorem X_sld {L : Nat} {xs : Nat → Int32} (hΦ : ∀ D, Φ D → D.2.2.2.2.1 = L ∧ D.2.2.2.2.2 = xs) (hk : kd (42, 0, 0) = some (.inr (8, 0))) {j : Nat} (hj : j < L) (hL : L < 2 ^ 31) (hd : decode M.2.1 pc = .ok (.iaload, 1)) (k : am_X Φ l M R post (pc + 1) ls (am_I (xs j) :: st) kd rv iv cu su) : am_X Φ l M R post pc ls (am_I (nI j) :: am_P (42, 0, 0) :: st) kd rv iv cu su := by
  intro p e s m args below meth c D A ad0 kd0 H locs lsA ad C Rr
  have hL9 := Rr.2.2.2.2.2.2
  obtain ⟨e1, e2⟩ := hΦ D C.2
  obtain ⟨hX, hbl, hbA⟩ := C.1.2.2.2.2.2.2.2.2.1.2.2.2.2.2.2
  have ha : ad (42, 0, 0) = D.2.2.2.1 := (Rr.1.1 _ _ hk).2.1 rfl
  rw [e1, e2] at hX
  have K := k p e s m args below meth c D A ad0 kd0 H locs lsA ad C (Rr.stk (am_l0 (am_l1 (am_l1 hL9))))
  have K2 : W p l e R s m args below meth c H locs cu su (MQ below (am_Qc D A ad0 kd0 post) args s R.cells R.slots A) (F0 m (pc + 1) lsA (.int (xs (nI j).toNatClampNeg) :: st.map (am_cv ad))) := by
    rw [nI_clamp (by omega)]
    exact K
  have r := va_sld C.1.1 C.1.2.1 hX hbl hbA Rr.2.2.1 (vp_in_nI hj hL) hd K2
  show W p l e R s m args below meth c H locs cu su _ (F0 m pc lsA (.int (nI j) :: .ref (ad (42, 0, 0)) :: st.map (am_cv ad)))
  rw [ha]
  exact r
theorem X_slen {L : Nat} {xs : Nat → Int32} (hΦ : ∀ D, Φ D → D.2.2.2.2.1 = L ∧ D.2.2.2.2.2 = xs) (hk : kd (42, 0, 0) = some (.inr (8, 0))) (hd : decode M.2.1 pc = .ok (.arraylength, 1)) (k : am_X Φ l M R post (pc + 1) ls (am_I (nI L) :: st) kd rv iv cu su) : am_X Φ l M R post pc ls (am_P (42, 0, 0) :: st) kd rv iv cu su := by
  intro p e s m args below meth c D A ad0 kd0 H locs lsA ad C Rr
  have hL9 := Rr.2.2.2.2.2.2
  obtain ⟨e1, e2⟩ := hΦ D C.2
  obtain ⟨hX, hbl, hbA⟩ := C.1.2.2.2.2.2.2.2.2.1.2.2.2.2.2.2
  have ha : ad (42, 0, 0) = D.2.2.2.1 := (Rr.1.1 _ _ hk).2.1 rfl
  rw [e1, e2] at hX
  have K := k p e s m args below meth c D A ad0 kd0 H locs lsA ad C (Rr.stk (am_l0 (am_l1 hL9)))
  have r := va_slen C.1.1 C.1.2.1 hX hbl hbA Rr.2.2.1 hd K
  show W p l e R s m args below meth c H locs cu su _ (F0 m pc lsA (.ref (ad (42, 0, 0)) :: st.map (am_cv ad)))
  rw [ha]
  exact r
end AX
