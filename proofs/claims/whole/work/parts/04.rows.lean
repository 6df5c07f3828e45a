section AR
variable {l : Launch} {M : am_M} {R : Room} {post : am_Post} {pc : Nat} {ls : List (Option am_V)} {st : List am_V} {kd : am_kd} {rv : am_rv} {iv : am_iv} {cu su : Nat}
theorem am_R.stk {s : State} {D : am_D} {A : Nat → Prop} {ad0 : am_N → Nat} {kd0 : am_kd} {H : Heap} {locs : List Loc} {lsA : Array Slot} {ad : am_N → Nat} {st' : List am_V} (h : am_R M s D A ad0 kd0 H locs lsA ad ls st kd rv iv) (h' : ∀ v ∈ st', am_lv kd v) : am_R M s D A ad0 kd0 H locs lsA ad ls st' kd rv iv := ⟨h.1, h.2.1, h.2.2.1, h.2.2.2.1, h.2.2.2.2.1, h.2.2.2.2.2.1, h'⟩
theorem am_l0 {kd : am_kd} {st : List am_V} {v : Value} (h : ∀ v ∈ st, am_lv kd v) : ∀ w ∈ (Sum.inr v : am_V) :: st, am_lv kd w := fun w hw => by
  rcases List.mem_cons.mp hw with h1 | h1
  · subst h1; trivial
  · exact h w h1
theorem am_l1 {kd : am_kd} {st : List am_V} {v : am_V} (h : ∀ w ∈ v :: st, am_lv kd w) : ∀ w ∈ st, am_lv kd w := fun w hw => h w (List.mem_cons_of_mem _ hw)
theorem am_lc {kd : am_kd} {st : List am_V} {v : am_V} (hv : am_lv kd v) (h : ∀ v ∈ st, am_lv kd v) : ∀ w ∈ v :: st, am_lv kd w := fun w hw => by
  rcases List.mem_cons.mp hw with h1 | h1
  · subst h1; exact hv
  · exact h w h1
theorem A_iconst {n : Int} (v : Int32) (hd : decode M.2.1 pc = .ok (.iconst n, 1)) (hv : Int32.ofInt n = v) (k : am_W l M R post (pc + 1) ls (am_I v :: st) kd rv iv cu su) : am_W l M R post pc ls st kd rv iv cu su := by
  intro p e s m args below meth c D A ad0 kd0 H locs lsA ad C Rr
  have hL := Rr.2.2.2.2.2.2
  exact lv_iconst C.1 C.2.1 hd hv (k p e s m args below meth c D A ad0 kd0 H locs lsA ad C (Rr.stk (am_l0 hL)))
theorem A_bipush {n : Int} (v : Int32) (hd : decode M.2.1 pc = .ok (.bipush n, 2)) (hv : (Int8.ofInt n).toInt32 = v) (k : am_W l M R post (pc + 2) ls (am_I v :: st) kd rv iv cu su) : am_W l M R post pc ls st kd rv iv cu su := by
  intro p e s m args below meth c D A ad0 kd0 H locs lsA ad C Rr
  have hL := Rr.2.2.2.2.2.2
  exact lv_bipush C.1 C.2.1 hd hv (k p e s m args below meth c D A ad0 kd0 H locs lsA ad C (Rr.stk (am_l0 hL)))
theorem A_sipush {n : Int} (v : Int32) (hd : decode M.2.1 pc = .ok (.sipush n, 3)) (hv : (Int16.ofInt n).toInt32 = v) (k : am_W l M R post (pc + 3) ls (am_I v :: st) kd rv iv cu su) : am_W l M R post pc ls st kd rv iv cu su := by
  intro p e s m args below meth c D A ad0 kd0 H locs lsA ad C Rr
  have hL := Rr.2.2.2.2.2.2
  exact lv_sipush C.1 C.2.1 hd hv (k p e s m args below meth c D A ad0 kd0 H locs lsA ad C (Rr.stk (am_l0 hL)))
theorem A_lconst {n : Fin 2} (v : Int64) (hd : decode M.2.1 pc = .ok (.lconst n, 1)) (hv : Int64.ofNat (n : Nat) = v) (k : am_W l M R post (pc + 1) ls (am_J v :: st) kd rv iv cu su) : am_W l M R post pc ls st kd rv iv cu su := by
  intro p e s m args below meth c D A ad0 kd0 H locs lsA ad C Rr
  have hL := Rr.2.2.2.2.2.2
  exact lv_lconst C.1 C.2.1 hd hv (k p e s m args below meth c D A ad0 kd0 H locs lsA ad C (Rr.stk (am_l0 hL)))
theorem A_null  (hd : decode M.2.1 pc = .ok (.aconst_null, 1))  (k : am_W l M R post (pc + 1) ls (am_0 :: st) kd rv iv cu su) : am_W l M R post pc ls st kd rv iv cu su := by
  intro p e s m args below meth c D A ad0 kd0 H locs lsA ad C Rr
  have hL := Rr.2.2.2.2.2.2
  exact lv_null C.1 C.2.1 hd  (k p e s m args below meth c D A ad0 kd0 H locs lsA ad C (Rr.stk (am_l0 hL)))
theorem A_iadd {x y : Int32} (hd : decode M.2.1 pc = .ok (.iadd, 1))  (k : am_W l M R post (pc + 1) ls (am_I (x + y) :: st) kd rv iv cu su) : am_W l M R post pc ls (am_I y :: am_I x :: st) kd rv iv cu su := by
  intro p e s m args below meth c D A ad0 kd0 H locs lsA ad C Rr
  have hL := Rr.2.2.2.2.2.2
  exact lv_iadd C.1 C.2.1 hd  (k p e s m args below meth c D A ad0 kd0 H locs lsA ad C (Rr.stk (am_l0 (am_l1 (am_l1 hL)))))
theorem A_isub {x y : Int32} (hd : decode M.2.1 pc = .ok (.isub, 1))  (k : am_W l M R post (pc + 1) ls (am_I (x - y) :: st) kd rv iv cu su) : am_W l M R post pc ls (am_I y :: am_I x :: st) kd rv iv cu su := by
  intro p e s m args below meth c D A ad0 kd0 H locs lsA ad C Rr
  have hL := Rr.2.2.2.2.2.2
  exact lv_isub C.1 C.2.1 hd  (k p e s m args below meth c D A ad0 kd0 H locs lsA ad C (Rr.stk (am_l0 (am_l1 (am_l1 hL)))))
theorem A_imul {x y : Int32} (hd : decode M.2.1 pc = .ok (.imul, 1))  (k : am_W l M R post (pc + 1) ls (am_I (x * y) :: st) kd rv iv cu su) : am_W l M R post pc ls (am_I y :: am_I x :: st) kd rv iv cu su := by
  intro p e s m args below meth c D A ad0 kd0 H locs lsA ad C Rr
  have hL := Rr.2.2.2.2.2.2
  exact lv_imul C.1 C.2.1 hd  (k p e s m args below meth c D A ad0 kd0 H locs lsA ad C (Rr.stk (am_l0 (am_l1 (am_l1 hL)))))
theorem A_iand {x y : Int32} (hd : decode M.2.1 pc = .ok (.iand, 1))  (k : am_W l M R post (pc + 1) ls (am_I (x &&& y) :: st) kd rv iv cu su) : am_W l M R post pc ls (am_I y :: am_I x :: st) kd rv iv cu su := by
  intro p e s m args below meth c D A ad0 kd0 H locs lsA ad C Rr
  have hL := Rr.2.2.2.2.2.2
  exact lv_iand C.1 C.2.1 hd  (k p e s m args below meth c D A ad0 kd0 H locs lsA ad C (Rr.stk (am_l0 (am_l1 (am_l1 hL)))))
theorem A_ior {x y : Int32} (hd : decode M.2.1 pc = .ok (.ior, 1))  (k : am_W l M R post (pc + 1) ls (am_I (x ||| y) :: st) kd rv iv cu su) : am_W l M R post pc ls (am_I y :: am_I x :: st) kd rv iv cu su := by
  intro p e s m args below meth c D A ad0 kd0 H locs lsA ad C Rr
  have hL := Rr.2.2.2.2.2.2
  exact lv_ior C.1 C.2.1 hd  (k p e s m args below meth c D A ad0 kd0 H locs lsA ad C (Rr.stk (am_l0 (am_l1 (am_l1 hL)))))
theorem A_ixor {x y : Int32} (hd : decode M.2.1 pc = .ok (.ixor, 1))  (k : am_W l M R post (pc + 1) ls (am_I (x ^^^ y) :: st) kd rv iv cu su) : am_W l M R post pc ls (am_I y :: am_I x :: st) kd rv iv cu su := by
  intro p e s m args below meth c D A ad0 kd0 H locs lsA ad C Rr
  have hL := Rr.2.2.2.2.2.2
  exact lv_ixor C.1 C.2.1 hd  (k p e s m args below meth c D A ad0 kd0 H locs lsA ad C (Rr.stk (am_l0 (am_l1 (am_l1 hL)))))
theorem A_ishl {x y : Int32} (hd : decode M.2.1 pc = .ok (.ishl, 1))  (k : am_W l M R post (pc + 1) ls (am_I (x <<< (y &&& 31)) :: st) kd rv iv cu su) : am_W l M R post pc ls (am_I y :: am_I x :: st) kd rv iv cu su := by
  intro p e s m args below meth c D A ad0 kd0 H locs lsA ad C Rr
  have hL := Rr.2.2.2.2.2.2
  exact lv_ishl C.1 C.2.1 hd  (k p e s m args below meth c D A ad0 kd0 H locs lsA ad C (Rr.stk (am_l0 (am_l1 (am_l1 hL)))))
theorem A_ishr {x y : Int32} (hd : decode M.2.1 pc = .ok (.ishr, 1))  (k : am_W l M R post (pc + 1) ls (am_I (x >>> (y &&& 31)) :: st) kd rv iv cu su) : am_W l M R post pc ls (am_I y :: am_I x :: st) kd rv iv cu su := by
  intro p e s m args below meth c D A ad0 kd0 H locs lsA ad C Rr
  have hL := Rr.2.2.2.2.2.2
  exact lv_ishr C.1 C.2.1 hd  (k p e s m args below meth c D A ad0 kd0 H locs lsA ad C (Rr.stk (am_l0 (am_l1 (am_l1 hL)))))
theorem A_idiv {x y : Int32} (hd : decode M.2.1 pc = .ok (.idiv, 1)) (hne : ¬ y = 0) (k : am_W l M R post (pc + 1) ls (am_I (x / y) :: st) kd rv iv cu su) : am_W l M R post pc ls (am_I y :: am_I x :: st) kd rv iv cu su := by
  intro p e s m args below meth c D A ad0 kd0 H locs lsA ad C Rr
  have hL := Rr.2.2.2.2.2.2
  exact lv_idiv C.1 C.2.1 hd hne (k p e s m args below meth c D A ad0 kd0 H locs lsA ad C (Rr.stk (am_l0 (am_l1 (am_l1 hL)))))
theorem A_irem {x y : Int32} (hd : decode M.2.1 pc = .ok (.irem, 1)) (hne : ¬ y = 0) (k : am_W l M R post (pc + 1) ls (am_I (x - x / y * y) :: st) kd rv iv cu su) : am_W l M R post pc ls (am_I y :: am_I x :: st) kd rv iv cu su := by
  intro p e s m args below meth c D A ad0 kd0 H locs lsA ad C Rr
  have hL := Rr.2.2.2.2.2.2
  exact lv_irem C.1 C.2.1 hd hne (k p e s m args below meth c D A ad0 kd0 H locs lsA ad C (Rr.stk (am_l0 (am_l1 (am_l1 hL)))))
theorem A_iushr {x y : Int32} (hd : decode M.2.1 pc = .ok (.iushr, 1))  (k : am_W l M R post (pc + 1) ls (am_I ((x.toUInt32 >>> (y.toUInt32 &&& Int32.toUInt32 31)).toInt32) :: st) kd rv iv cu su) : am_W l M R post pc ls (am_I y :: am_I x :: st) kd rv iv cu su := by
  intro p e s m args below meth c D A ad0 kd0 H locs lsA ad C Rr
  have hL := Rr.2.2.2.2.2.2
  exact lv_iushr C.1 C.2.1 hd rfl (k p e s m args below meth c D A ad0 kd0 H locs lsA ad C (Rr.stk (am_l0 (am_l1 (am_l1 hL)))))
theorem A_ineg {x : Int32} (hd : decode M.2.1 pc = .ok (.ineg, 1))  (k : am_W l M R post (pc + 1) ls (am_I (-x) :: st) kd rv iv cu su) : am_W l M R post pc ls (am_I x :: st) kd rv iv cu su := by
  intro p e s m args below meth c D A ad0 kd0 H locs lsA ad C Rr
  have hL := Rr.2.2.2.2.2.2
  exact lv_ineg C.1 C.2.1 hd  (k p e s m args below meth c D A ad0 kd0 H locs lsA ad C (Rr.stk (am_l0 (am_l1 hL))))
theorem A_lsub {x y : Int64} (hd : decode M.2.1 pc = .ok (.lsub, 1))  (k : am_W l M R post (pc + 1) ls (am_J (x - y) :: st) kd rv iv cu su) : am_W l M R post pc ls (am_J y :: am_J x :: st) kd rv iv cu su := by
  intro p e s m args below meth c D A ad0 kd0 H locs lsA ad C Rr
  have hL := Rr.2.2.2.2.2.2
  exact lv_lsub C.1 C.2.1 hd  (k p e s m args below meth c D A ad0 kd0 H locs lsA ad C (Rr.stk (am_l0 (am_l1 (am_l1 hL)))))
theorem A_land {x y : Int64} (hd : decode M.2.1 pc = .ok (.land, 1))  (k : am_W l M R post (pc + 1) ls (am_J (x &&& y) :: st) kd rv iv cu su) : am_W l M R post pc ls (am_J y :: am_J x :: st) kd rv iv cu su := by
  intro p e s m args below meth c D A ad0 kd0 H locs lsA ad C Rr
  have hL := Rr.2.2.2.2.2.2
  exact lv_land C.1 C.2.1 hd  (k p e s m args below meth c D A ad0 kd0 H locs lsA ad C (Rr.stk (am_l0 (am_l1 (am_l1 hL)))))
theorem A_lor {x y : Int64} (hd : decode M.2.1 pc = .ok (.lor, 1))  (k : am_W l M R post (pc + 1) ls (am_J (x ||| y) :: st) kd rv iv cu su) : am_W l M R post pc ls (am_J y :: am_J x :: st) kd rv iv cu su := by
  intro p e s m args below meth c D A ad0 kd0 H locs lsA ad C Rr
  have hL := Rr.2.2.2.2.2.2
  exact lv_lor C.1 C.2.1 hd  (k p e s m args below meth c D A ad0 kd0 H locs lsA ad C (Rr.stk (am_l0 (am_l1 (am_l1 hL)))))
theorem A_lneg {x : Int64} (hd : decode M.2.1 pc = .ok (.lneg, 1))  (k : am_W l M R post (pc + 1) ls (am_J (-x) :: st) kd rv iv cu su) : am_W l M R post pc ls (am_J x :: st) kd rv iv cu su := by
  intro p e s m args below meth c D A ad0 kd0 H locs lsA ad C Rr
  have hL := Rr.2.2.2.2.2.2
  exact lv_lneg C.1 C.2.1 hd  (k p e s m args below meth c D A ad0 kd0 H locs lsA ad C (Rr.stk (am_l0 (am_l1 hL))))
theorem A_lshl {x : Int64} {y : Int32} (hd : decode M.2.1 pc = .ok (.lshl, 1))  (k : am_W l M R post (pc + 1) ls (am_J (x <<< (y.toInt64 &&& 63)) :: st) kd rv iv cu su) : am_W l M R post pc ls (am_I y :: am_J x :: st) kd rv iv cu su := by
  intro p e s m args below meth c D A ad0 kd0 H locs lsA ad C Rr
  have hL := Rr.2.2.2.2.2.2
  exact lv_lshl C.1 C.2.1 hd rfl (k p e s m args below meth c D A ad0 kd0 H locs lsA ad C (Rr.stk (am_l0 (am_l1 (am_l1 hL)))))
theorem A_lshr {x : Int64} {y : Int32} (hd : decode M.2.1 pc = .ok (.lshr, 1))  (k : am_W l M R post (pc + 1) ls (am_J (x >>> (y.toInt64 &&& 63)) :: st) kd rv iv cu su) : am_W l M R post pc ls (am_I y :: am_J x :: st) kd rv iv cu su := by
  intro p e s m args below meth c D A ad0 kd0 H locs lsA ad C Rr
  have hL := Rr.2.2.2.2.2.2
  exact lv_lshr C.1 C.2.1 hd rfl (k p e s m args below meth c D A ad0 kd0 H locs lsA ad C (Rr.stk (am_l0 (am_l1 (am_l1 hL)))))
theorem A_i2l {x : Int32} (hd : decode M.2.1 pc = .ok (.i2l, 1))  (k : am_W l M R post (pc + 1) ls (am_J x.toInt64 :: st) kd rv iv cu su) : am_W l M R post pc ls (am_I x :: st) kd rv iv cu su := by
  intro p e s m args below meth c D A ad0 kd0 H locs lsA ad C Rr
  have hL := Rr.2.2.2.2.2.2
  exact lv_i2l C.1 C.2.1 hd rfl (k p e s m args below meth c D A ad0 kd0 H locs lsA ad C (Rr.stk (am_l0 (am_l1 hL))))
theorem A_l2i {x : Int64} (hd : decode M.2.1 pc = .ok (.l2i, 1))  (k : am_W l M R post (pc + 1) ls (am_I x.toInt32 :: st) kd rv iv cu su) : am_W l M R post pc ls (am_J x :: st) kd rv iv cu su := by
  intro p e s m args below meth c D A ad0 kd0 H locs lsA ad C Rr
  have hL := Rr.2.2.2.2.2.2
  exact lv_l2i C.1 C.2.1 hd rfl (k p e s m args below meth c D A ad0 kd0 H locs lsA ad C (Rr.stk (am_l0 (am_l1 hL))))
theorem A_i2b {x : Int32} (hd : decode M.2.1 pc = .ok (.i2b, 1))  (k : am_W l M R post (pc + 1) ls (am_I x.toInt8.toInt32 :: st) kd rv iv cu su) : am_W l M R post pc ls (am_I x :: st) kd rv iv cu su := by
  intro p e s m args below meth c D A ad0 kd0 H locs lsA ad C Rr
  have hL := Rr.2.2.2.2.2.2
  exact lv_i2b C.1 C.2.1 hd rfl (k p e s m args below meth c D A ad0 kd0 H locs lsA ad C (Rr.stk (am_l0 (am_l1 hL))))
theorem A_i2s {x : Int32} (hd : decode M.2.1 pc = .ok (.i2s, 1))  (k : am_W l M R post (pc + 1) ls (am_I x.toInt16.toInt32 :: st) kd rv iv cu su) : am_W l M R post pc ls (am_I x :: st) kd rv iv cu su := by
  intro p e s m args below meth c D A ad0 kd0 H locs lsA ad C Rr
  have hL := Rr.2.2.2.2.2.2
  exact lv_i2s C.1 C.2.1 hd rfl (k p e s m args below meth c D A ad0 kd0 H locs lsA ad C (Rr.stk (am_l0 (am_l1 hL))))
theorem A_i2c {x : Int32} (hd : decode M.2.1 pc = .ok (.i2c, 1))  (k : am_W l M R post (pc + 1) ls (am_I (x.toUInt32 % 65536).toInt32 :: st) kd rv iv cu su) : am_W l M R post pc ls (am_I x :: st) kd rv iv cu su := by
  intro p e s m args below meth c D A ad0 kd0 H locs lsA ad C Rr
  have hL := Rr.2.2.2.2.2.2
  exact lv_i2c C.1 C.2.1 hd rfl (k p e s m args below meth c D A ad0 kd0 H locs lsA ad C (Rr.stk (am_l0 (am_l1 hL))))
theorem A_lcmp {x y : Int64} (hd : decode M.2.1 pc = .ok (.lcmp, 1))  (k : am_W l M R post (pc + 1) ls (am_I (lg_cmp x y) :: st) kd rv iv cu su) : am_W l M R post pc ls (am_J y :: am_J x :: st) kd rv iv cu su := by
  intro p e s m args below meth c D A ad0 kd0 H locs lsA ad C Rr
  have hL := Rr.2.2.2.2.2.2
  exact W.lcmp C.1 C.2.1 hd  (k p e s m args below meth c D A ad0 kd0 H locs lsA ad C (Rr.stk (am_l0 (am_l1 (am_l1 hL)))))
theorem am_cat1 (ad : am_N → Nat) {v : am_V} (h : am_c2 v = false) : (am_cv ad v).category = 1 := by rw [am_c2_cat, h]; rfl
theorem A_dup {v : am_V} (hd : decode M.2.1 pc = .ok (.dup, 1)) (hc : am_c2 v = false) (k : am_W l M R post (pc + 1) ls (v :: v :: st) kd rv iv cu su) : am_W l M R post pc ls (v :: st) kd rv iv cu su := by
  intro p e s m args below meth c D A ad0 kd0 H locs lsA ad C Rr
  have hL := Rr.2.2.2.2.2.2
  exact lv_dup C.1 C.2.1 hd (am_cat1 ad hc) (k p e s m args below meth c D A ad0 kd0 H locs lsA ad C (Rr.stk (am_lc (hL _ List.mem_cons_self) hL)))
theorem A_dup2 {v w : am_V} (hd : decode M.2.1 pc = .ok (.dup2, 1)) (hc : am_c2 v = false) (hc2 : am_c2 w = false) (k : am_W l M R post (pc + 1) ls (v :: w :: v :: w :: st) kd rv iv cu su) : am_W l M R post pc ls (v :: w :: st) kd rv iv cu su := by
  intro p e s m args below meth c D A ad0 kd0 H locs lsA ad C Rr
  have hL := Rr.2.2.2.2.2.2
  exact lv_dup2_11 C.1 C.2.1 hd (am_cat1 ad hc) (am_cat1 ad hc2) (k p e s m args below meth c D A ad0 kd0 H locs lsA ad C (Rr.stk (am_lc (hL _ List.mem_cons_self) (am_lc (hL _ (List.mem_cons_of_mem _ List.mem_cons_self)) hL))))
theorem A_pop {v : am_V} (hd : decode M.2.1 pc = .ok (.pop, 1)) (hc : am_c2 v = false) (k : am_W l M R post (pc + 1) ls st kd rv iv cu su) : am_W l M R post pc ls (v :: st) kd rv iv cu su := by
  intro p e s m args below meth c D A ad0 kd0 H locs lsA ad C Rr
  have hL := Rr.2.2.2.2.2.2
  exact lv_pop C.1 C.2.1 hd (am_cat1 ad hc) (k p e s m args below meth c D A ad0 kd0 H locs lsA ad C (Rr.stk (am_l1 hL)))
theorem am_tin {M : am_M} {w : Cond} (i : Nat) (h : lw_tbl[i]? = some w) (g : goodWord w = true) : w ∈ am_ws M := List.mem_cons_of_mem _ (List.mem_filter.mpr ⟨List.mem_of_getElem? h, g⟩)
theorem A_ldc {index : Nat} {v : Int32} (hc : Cond.constant M.1.cls index v ∈ am_ws M) (hd : decode M.2.1 pc = .ok (.ldc index, 2))  (k : am_W l M R post (pc + 2) ls (am_I v :: st) kd rv iv cu su) : am_W l M R post pc ls st kd rv iv cu su := by
  intro p e s m args below meth c D A ad0 kd0 H locs lsA ad C Rr
  have hL := Rr.2.2.2.2.2.2
  exact (fun a b d => lv_ldc a b C.2.2.2.2.1 (C.2.2.2.2.2.1 _ hc) d) C.1 C.2.1 hd  (k p e s m args below meth c D A ad0 kd0 H locs lsA ad C (Rr.stk (am_l0 hL)))
theorem A_ldcw {index : Nat} {v : Int32} (hc : Cond.constant M.1.cls index v ∈ am_ws M) (hd : decode M.2.1 pc = .ok (.ldc_w index, 3))  (k : am_W l M R post (pc + 3) ls (am_I v :: st) kd rv iv cu su) : am_W l M R post pc ls st kd rv iv cu su := by
  intro p e s m args below meth c D A ad0 kd0 H locs lsA ad C Rr
  have hL := Rr.2.2.2.2.2.2
  exact (fun a b d => lv_ldcw a b C.2.2.2.2.1 (C.2.2.2.2.2.1 _ hc) d) C.1 C.2.1 hd  (k p e s m args below meth c D A ad0 kd0 H locs lsA ad C (Rr.stk (am_l0 hL)))
theorem A_ldc2 {index : Nat} {v : Int64} (hc : Cond.constantLong M.1.cls index v ∈ am_ws M) (hd : decode M.2.1 pc = .ok (.ldc2_w index, 3))  (k : am_W l M R post (pc + 3) ls (am_J v :: st) kd rv iv cu su) : am_W l M R post pc ls st kd rv iv cu su := by
  intro p e s m args below meth c D A ad0 kd0 H locs lsA ad C Rr
  have hL := Rr.2.2.2.2.2.2
  exact (fun a b d => lv_ldc2 a b C.2.2.2.2.1 (C.2.2.2.2.2.1 _ hc) d) C.1 C.2.1 hd  (k p e s m args below meth c D A ad0 kd0 H locs lsA ad C (Rr.stk (am_l0 hL)))
theorem A_goto {off : Int} (tgt : Nat) (hd : decode M.2.1 pc = .ok (.goto off, 3)) (ht : (pc : Int) + off = (tgt : Int)) (k : am_W l M R post tgt ls st kd rv iv cu su) : am_W l M R post pc ls st kd rv iv cu su := by
  intro p e s m args below meth c D A ad0 kd0 H locs lsA ad C Rr
  exact lv_goto C.1 C.2.1 hd ht (k p e s m args below meth c D A ad0 kd0 H locs lsA ad C Rr)
theorem A_ifeq {x : Int32} {off : Int} (tgt : Nat) (hd : decode M.2.1 pc = .ok (.ifCond .eq off, 3)) (ht : (pc : Int) + off = (tgt : Int)) (kt : x = 0 → am_W l M R post tgt ls st kd rv iv cu su) (kf : ¬ (x = 0) → am_W l M R post (pc + 3) ls st kd rv iv cu su) : am_W l M R post pc ls (am_I x :: st) kd rv iv cu su := by
  intro p e s m args below meth c D A ad0 kd0 H locs lsA ad C Rr
  have hL := Rr.2.2.2.2.2.2
  exact lv_if_eq C.1 C.2.1 hd ht (fun h => kt h p e s m args below meth c D A ad0 kd0 H locs lsA ad C (Rr.stk (am_l1 hL))) (fun h => kf h p e s m args below meth c D A ad0 kd0 H locs lsA ad C (Rr.stk (am_l1 hL)))
theorem A_ifne {x : Int32} {off : Int} (tgt : Nat) (hd : decode M.2.1 pc = .ok (.ifCond .ne off, 3)) (ht : (pc : Int) + off = (tgt : Int)) (kt : ¬ x = 0 → am_W l M R post tgt ls st kd rv iv cu su) (kf : x = 0 → am_W l M R post (pc + 3) ls st kd rv iv cu su) : am_W l M R post pc ls (am_I x :: st) kd rv iv cu su := by
  intro p e s m args below meth c D A ad0 kd0 H locs lsA ad C Rr
  have hL := Rr.2.2.2.2.2.2
  exact lv_if_ne C.1 C.2.1 hd ht (fun h => kt h p e s m args below meth c D A ad0 kd0 H locs lsA ad C (Rr.stk (am_l1 hL))) (fun h => kf h p e s m args below meth c D A ad0 kd0 H locs lsA ad C (Rr.stk (am_l1 hL)))
theorem A_iflt {x : Int32} {off : Int} (tgt : Nat) (hd : decode M.2.1 pc = .ok (.ifCond .lt off, 3)) (ht : (pc : Int) + off = (tgt : Int)) (kt : x < 0 → am_W l M R post tgt ls st kd rv iv cu su) (kf : ¬ (x < 0) → am_W l M R post (pc + 3) ls st kd rv iv cu su) : am_W l M R post pc ls (am_I x :: st) kd rv iv cu su := by
  intro p e s m args below meth c D A ad0 kd0 H locs lsA ad C Rr
  have hL := Rr.2.2.2.2.2.2
  exact lv_if_lt C.1 C.2.1 hd ht (fun h => kt h p e s m args below meth c D A ad0 kd0 H locs lsA ad C (Rr.stk (am_l1 hL))) (fun h => kf h p e s m args below meth c D A ad0 kd0 H locs lsA ad C (Rr.stk (am_l1 hL)))
theorem A_ifge {x : Int32} {off : Int} (tgt : Nat) (hd : decode M.2.1 pc = .ok (.ifCond .ge off, 3)) (ht : (pc : Int) + off = (tgt : Int)) (kt : 0 ≤ x → am_W l M R post tgt ls st kd rv iv cu su) (kf : ¬ (0 ≤ x) → am_W l M R post (pc + 3) ls st kd rv iv cu su) : am_W l M R post pc ls (am_I x :: st) kd rv iv cu su := by
  intro p e s m args below meth c D A ad0 kd0 H locs lsA ad C Rr
  have hL := Rr.2.2.2.2.2.2
  exact lv_if_ge C.1 C.2.1 hd ht (fun h => kt h p e s m args below meth c D A ad0 kd0 H locs lsA ad C (Rr.stk (am_l1 hL))) (fun h => kf h p e s m args below meth c D A ad0 kd0 H locs lsA ad C (Rr.stk (am_l1 hL)))
theorem A_ifgt {x : Int32} {off : Int} (tgt : Nat) (hd : decode M.2.1 pc = .ok (.ifCond .gt off, 3)) (ht : (pc : Int) + off = (tgt : Int)) (kt : 0 < x → am_W l M R post tgt ls st kd rv iv cu su) (kf : ¬ (0 < x) → am_W l M R post (pc + 3) ls st kd rv iv cu su) : am_W l M R post pc ls (am_I x :: st) kd rv iv cu su := by
  intro p e s m args below meth c D A ad0 kd0 H locs lsA ad C Rr
  have hL := Rr.2.2.2.2.2.2
  exact lv_if_gt C.1 C.2.1 hd ht (fun h => kt h p e s m args below meth c D A ad0 kd0 H locs lsA ad C (Rr.stk (am_l1 hL))) (fun h => kf h p e s m args below meth c D A ad0 kd0 H locs lsA ad C (Rr.stk (am_l1 hL)))
theorem A_ifle {x : Int32} {off : Int} (tgt : Nat) (hd : decode M.2.1 pc = .ok (.ifCond .le off, 3)) (ht : (pc : Int) + off = (tgt : Int)) (kt : x ≤ 0 → am_W l M R post tgt ls st kd rv iv cu su) (kf : ¬ (x ≤ 0) → am_W l M R post (pc + 3) ls st kd rv iv cu su) : am_W l M R post pc ls (am_I x :: st) kd rv iv cu su := by
  intro p e s m args below meth c D A ad0 kd0 H locs lsA ad C Rr
  have hL := Rr.2.2.2.2.2.2
  exact lv_if_le C.1 C.2.1 hd ht (fun h => kt h p e s m args below meth c D A ad0 kd0 H locs lsA ad C (Rr.stk (am_l1 hL))) (fun h => kf h p e s m args below meth c D A ad0 kd0 H locs lsA ad C (Rr.stk (am_l1 hL)))
theorem A_icmpeq {x y : Int32} {off : Int} (tgt : Nat) (hd : decode M.2.1 pc = .ok (.if_icmp .eq off, 3)) (ht : (pc : Int) + off = (tgt : Int)) (kt : x = y → am_W l M R post tgt ls st kd rv iv cu su) (kf : ¬ (x = y) → am_W l M R post (pc + 3) ls st kd rv iv cu su) : am_W l M R post pc ls (am_I y :: am_I x :: st) kd rv iv cu su := by
  intro p e s m args below meth c D A ad0 kd0 H locs lsA ad C Rr
  have hL := Rr.2.2.2.2.2.2
  exact lv_icmp_eq C.1 C.2.1 hd ht (fun h => kt h p e s m args below meth c D A ad0 kd0 H locs lsA ad C (Rr.stk (am_l1 (am_l1 hL)))) (fun h => kf h p e s m args below meth c D A ad0 kd0 H locs lsA ad C (Rr.stk (am_l1 (am_l1 hL))))
theorem A_icmpne {x y : Int32} {off : Int} (tgt : Nat) (hd : decode M.2.1 pc = .ok (.if_icmp .ne off, 3)) (ht : (pc : Int) + off = (tgt : Int)) (kt : ¬ x = y → am_W l M R post tgt ls st kd rv iv cu su) (kf : x = y → am_W l M R post (pc + 3) ls st kd rv iv cu su) : am_W l M R post pc ls (am_I y :: am_I x :: st) kd rv iv cu su := by
  intro p e s m args below meth c D A ad0 kd0 H locs lsA ad C Rr
  have hL := Rr.2.2.2.2.2.2
  exact lv_icmp_ne C.1 C.2.1 hd ht (fun h => kt h p e s m args below meth c D A ad0 kd0 H locs lsA ad C (Rr.stk (am_l1 (am_l1 hL)))) (fun h => kf h p e s m args below meth c D A ad0 kd0 H locs lsA ad C (Rr.stk (am_l1 (am_l1 hL))))
theorem A_icmplt {x y : Int32} {off : Int} (tgt : Nat) (hd : decode M.2.1 pc = .ok (.if_icmp .lt off, 3)) (ht : (pc : Int) + off = (tgt : Int)) (kt : x < y → am_W l M R post tgt ls st kd rv iv cu su) (kf : ¬ (x < y) → am_W l M R post (pc + 3) ls st kd rv iv cu su) : am_W l M R post pc ls (am_I y :: am_I x :: st) kd rv iv cu su := by
  intro p e s m args below meth c D A ad0 kd0 H locs lsA ad C Rr
  have hL := Rr.2.2.2.2.2.2
  exact lv_icmp_lt C.1 C.2.1 hd ht (fun h => kt h p e s m args below meth c D A ad0 kd0 H locs lsA ad C (Rr.stk (am_l1 (am_l1 hL)))) (fun h => kf h p e s m args below meth c D A ad0 kd0 H locs lsA ad C (Rr.stk (am_l1 (am_l1 hL))))
theorem A_icmpge {x y : Int32} {off : Int} (tgt : Nat) (hd : decode M.2.1 pc = .ok (.if_icmp .ge off, 3)) (ht : (pc : Int) + off = (tgt : Int)) (kt : y ≤ x → am_W l M R post tgt ls st kd rv iv cu su) (kf : ¬ (y ≤ x) → am_W l M R post (pc + 3) ls st kd rv iv cu su) : am_W l M R post pc ls (am_I y :: am_I x :: st) kd rv iv cu su := by
  intro p e s m args below meth c D A ad0 kd0 H locs lsA ad C Rr
  have hL := Rr.2.2.2.2.2.2
  exact lv_icmp_ge C.1 C.2.1 hd ht (fun h => kt h p e s m args below meth c D A ad0 kd0 H locs lsA ad C (Rr.stk (am_l1 (am_l1 hL)))) (fun h => kf h p e s m args below meth c D A ad0 kd0 H locs lsA ad C (Rr.stk (am_l1 (am_l1 hL))))
theorem A_icmpgt {x y : Int32} {off : Int} (tgt : Nat) (hd : decode M.2.1 pc = .ok (.if_icmp .gt off, 3)) (ht : (pc : Int) + off = (tgt : Int)) (kt : y < x → am_W l M R post tgt ls st kd rv iv cu su) (kf : ¬ (y < x) → am_W l M R post (pc + 3) ls st kd rv iv cu su) : am_W l M R post pc ls (am_I y :: am_I x :: st) kd rv iv cu su := by
  intro p e s m args below meth c D A ad0 kd0 H locs lsA ad C Rr
  have hL := Rr.2.2.2.2.2.2
  exact lv_icmp_gt C.1 C.2.1 hd ht (fun h => kt h p e s m args below meth c D A ad0 kd0 H locs lsA ad C (Rr.stk (am_l1 (am_l1 hL)))) (fun h => kf h p e s m args below meth c D A ad0 kd0 H locs lsA ad C (Rr.stk (am_l1 (am_l1 hL))))
theorem A_icmple {x y : Int32} {off : Int} (tgt : Nat) (hd : decode M.2.1 pc = .ok (.if_icmp .le off, 3)) (ht : (pc : Int) + off = (tgt : Int)) (kt : x ≤ y → am_W l M R post tgt ls st kd rv iv cu su) (kf : ¬ (x ≤ y) → am_W l M R post (pc + 3) ls st kd rv iv cu su) : am_W l M R post pc ls (am_I y :: am_I x :: st) kd rv iv cu su := by
  intro p e s m args below meth c D A ad0 kd0 H locs lsA ad C Rr
  have hL := Rr.2.2.2.2.2.2
  exact lv_icmp_le C.1 C.2.1 hd ht (fun h => kt h p e s m args below meth c D A ad0 kd0 H locs lsA ad C (Rr.stk (am_l1 (am_l1 hL)))) (fun h => kf h p e s m args below meth c D A ad0 kd0 H locs lsA ad C (Rr.stk (am_l1 (am_l1 hL))))
theorem A_ifnullP {n : am_N} {off : Int} (hd : decode M.2.1 pc = .ok (.ifnull off, 3)) (k : am_W l M R post (pc + 3) ls st kd rv iv cu su) : am_W l M R post pc ls (am_P n :: st) kd rv iv cu su := by
  intro p e s m args below meth c D A ad0 kd0 H locs lsA ad C Rr
  exact lv_ifnull C.1 C.2.1 hd (k p e s m args below meth c D A ad0 kd0 H locs lsA ad C (Rr.stk (am_l1 Rr.2.2.2.2.2.2)))
theorem A_ifnull0 {off : Int} (tgt : Nat) (hd : decode M.2.1 pc = .ok (.ifnull off, 3)) (ht : (pc : Int) + off = (tgt : Int)) (k : am_W l M R post tgt ls st kd rv iv cu su) : am_W l M R post pc ls (am_0 :: st) kd rv iv cu su := by
  intro p e s m args below meth c D A ad0 kd0 H locs lsA ad C Rr
  exact lv_ifnullN C.1 C.2.1 hd ht (k p e s m args below meth c D A ad0 kd0 H locs lsA ad C (Rr.stk (am_l1 Rr.2.2.2.2.2.2)))
theorem A_tableOut {dflt lo hi : Int} {offs : Array Int} {len : Nat} {x : Int32} (tgt : Nat) (hd : decode M.2.1 pc = .ok (.tableswitch dflt lo hi offs, len)) (h : x.toInt < lo ∨ hi < x.toInt) (ht : (pc : Int) + dflt = (tgt : Int)) (k : am_W l M R post tgt ls st kd rv iv cu su) : am_W l M R post pc ls (am_I x :: st) kd rv iv cu su := by
  intro p e s m args below meth c D A ad0 kd0 H locs lsA ad C Rr
  exact lv_tableOut C.1 C.2.1 hd h ht (k p e s m args below meth c D A ad0 kd0 H locs lsA ad C (Rr.stk (am_l1 Rr.2.2.2.2.2.2)))
theorem A_tableIn {dflt lo hi : Int} {offs : Array Int} {len : Nat} {x : Int32} {off : Int} (tgt : Nat) (hd : decode M.2.1 pc = .ok (.tableswitch dflt lo hi offs, len)) (h1 : ¬ x.toInt < lo) (h2 : ¬ hi < x.toInt) (ho : offs[(x.toInt - lo).toNat]? = some off) (ht : (pc : Int) + off = (tgt : Int)) (k : am_W l M R post tgt ls st kd rv iv cu su) : am_W l M R post pc ls (am_I x :: st) kd rv iv cu su := by
  intro p e s m args below meth c D A ad0 kd0 H locs lsA ad C Rr
  exact lv_tableIn C.1 C.2.1 hd h1 h2 ho ht (k p e s m args below meth c D A ad0 kd0 H locs lsA ad C (Rr.stk (am_l1 Rr.2.2.2.2.2.2)))
theorem A_lookup {dflt : Int} {ps : Array (Int × Int)} {len : Nat} {x : Int32} {off : Int} (tgt : Nat) (hd : decode M.2.1 pc = .ok (.lookupswitch dflt ps, len)) (hp : (ps.toList.zip (ps.toList.drop 1)).all (fun (a, next) => a.1 < next.1) = true) (ho : Op.lookupswitch.offset ps.toList dflt x.toInt = off) (ht : (pc : Int) + off = (tgt : Int)) (k : am_W l M R post tgt ls st kd rv iv cu su) : am_W l M R post pc ls (am_I x :: st) kd rv iv cu su := by
  intro p e s m args below meth c D A ad0 kd0 H locs lsA ad C Rr
  exact lv_lookup C.1 C.2.1 hd hp ho ht (k p e s m args below meth c D A ad0 kd0 H locs lsA ad C (Rr.stk (am_l1 Rr.2.2.2.2.2.2)))
theorem A_iload {i : Nat} {x : Int32} (hd : decode M.2.1 pc = .ok (.iload i, 2)) (hv : ls[i]? = some (some (am_I x))) (k : am_W l M R post (pc + 2) ls (am_I x :: st) kd rv iv cu su) : am_W l M R post pc ls st kd rv iv cu su := by
  intro p e s m args below meth c D A ad0 kd0 H locs lsA ad C Rr
  have hL := Rr.2.2.2.2.2.2
  exact lv_iload C.1 C.2.1 hd (Rr.2.2.2.2.1.2.2 i _ hv) (k p e s m args below meth c D A ad0 kd0 H locs lsA ad C (Rr.stk (am_l0 hL)))
theorem A_iload_n {i : Nat} {k9 : Fin 4} {x : Int32} (hd : decode M.2.1 pc = .ok (.iload_n k9, 1)) (hi : (k9 : Nat) = i) (hv : ls[i]? = some (some (am_I x))) (k : am_W l M R post (pc + 1) ls (am_I x :: st) kd rv iv cu su) : am_W l M R post pc ls st kd rv iv cu su := by
  intro p e s m args below meth c D A ad0 kd0 H locs lsA ad C Rr
  have hL := Rr.2.2.2.2.2.2
  exact lv_iload_n C.1 C.2.1 hd hi (Rr.2.2.2.2.1.2.2 i _ hv) (k p e s m args below meth c D A ad0 kd0 H locs lsA ad C (Rr.stk (am_l0 hL)))
theorem A_lload {i : Nat} {x : Int64} (hd : decode M.2.1 pc = .ok (.lload i, 2)) (hv : ls[i]? = some (some (am_J x))) (k : am_W l M R post (pc + 2) ls (am_J x :: st) kd rv iv cu su) : am_W l M R post pc ls st kd rv iv cu su := by
  intro p e s m args below meth c D A ad0 kd0 H locs lsA ad C Rr
  have hL := Rr.2.2.2.2.2.2
  exact lv_lload C.1 C.2.1 hd (Rr.2.2.2.2.1.2.2 i _ hv) (k p e s m args below meth c D A ad0 kd0 H locs lsA ad C (Rr.stk (am_l0 hL)))
theorem A_lload_n {i : Nat} {k9 : Fin 4} {x : Int64} (hd : decode M.2.1 pc = .ok (.lload_n k9, 1)) (hi : (k9 : Nat) = i) (hv : ls[i]? = some (some (am_J x))) (k : am_W l M R post (pc + 1) ls (am_J x :: st) kd rv iv cu su) : am_W l M R post pc ls st kd rv iv cu su := by
  intro p e s m args below meth c D A ad0 kd0 H locs lsA ad C Rr
  have hL := Rr.2.2.2.2.2.2
  exact lv_lload_n C.1 C.2.1 hd hi (Rr.2.2.2.2.1.2.2 i _ hv) (k p e s m args below meth c D A ad0 kd0 H locs lsA ad C (Rr.stk (am_l0 hL)))
theorem A_aload {i : Nat} {n : am_N} (hd : decode M.2.1 pc = .ok (.aload i, 2)) (hv : ls[i]? = some (some (am_P n))) (k : am_W l M R post (pc + 2) ls (am_P n :: st) kd rv iv cu su) : am_W l M R post pc ls st kd rv iv cu su := by
  intro p e s m args below meth c D A ad0 kd0 H locs lsA ad C Rr
  have hL := Rr.2.2.2.2.2.2
  exact lv_aload C.1 C.2.1 hd (Rr.2.2.2.2.1.2.2 i _ hv) (k p e s m args below meth c D A ad0 kd0 H locs lsA ad C (Rr.stk (am_lc (Rr.2.2.2.2.2.1 _ (List.mem_of_getElem? hv)) hL)))
theorem A_aload0 {i : Nat}  (hd : decode M.2.1 pc = .ok (.aload i, 2)) (hv : ls[i]? = some (some am_0)) (k : am_W l M R post (pc + 2) ls (am_0 :: st) kd rv iv cu su) : am_W l M R post pc ls st kd rv iv cu su := by
  intro p e s m args below meth c D A ad0 kd0 H locs lsA ad C Rr
  have hL := Rr.2.2.2.2.2.2
  exact lv_aloadN C.1 C.2.1 hd (Rr.2.2.2.2.1.2.2 i _ hv) (k p e s m args below meth c D A ad0 kd0 H locs lsA ad C (Rr.stk (am_l0 hL)))
theorem A_aload_n {i : Nat} {k9 : Fin 4} {n : am_N} (hd : decode M.2.1 pc = .ok (.aload_n k9, 1)) (hi : (k9 : Nat) = i) (hv : ls[i]? = some (some (am_P n))) (k : am_W l M R post (pc + 1) ls (am_P n :: st) kd rv iv cu su) : am_W l M R post pc ls st kd rv iv cu su := by
  intro p e s m args below meth c D A ad0 kd0 H locs lsA ad C Rr
  have hL := Rr.2.2.2.2.2.2
  exact lv_aload_n C.1 C.2.1 hd hi (Rr.2.2.2.2.1.2.2 i _ hv) (k p e s m args below meth c D A ad0 kd0 H locs lsA ad C (Rr.stk (am_lc (Rr.2.2.2.2.2.1 _ (List.mem_of_getElem? hv)) hL)))
theorem A_aload0_n {i : Nat} {k9 : Fin 4}  (hd : decode M.2.1 pc = .ok (.aload_n k9, 1)) (hi : (k9 : Nat) = i) (hv : ls[i]? = some (some am_0)) (k : am_W l M R post (pc + 1) ls (am_0 :: st) kd rv iv cu su) : am_W l M R post pc ls st kd rv iv cu su := by
  intro p e s m args below meth c D A ad0 kd0 H locs lsA ad C Rr
  have hL := Rr.2.2.2.2.2.2
  exact lv_aload_nN C.1 C.2.1 hd hi (Rr.2.2.2.2.1.2.2 i _ hv) (k p e s m args below meth c D A ad0 kd0 H locs lsA ad C (Rr.stk (am_l0 hL)))
/-- the listed locals as the kit lists them -/
def am_al (ad : am_N → Nat) (ls : List (Option am_V)) : List (Nat × Value) := (List.range ls.length).filterMap (fun i => (ls[i]?).join.map (fun v => (i, am_cv ad v)))
theorem am_al_mem {ad : am_N → Nat} {ls : List (Option am_V)} {q : Nat × Value} : q ∈ am_al ad ls ↔ ∃ v, ls[q.1]? = some (some v) ∧ q.2 = am_cv ad v := by
  unfold am_al
  rw [List.mem_filterMap]
  constructor
  · rintro ⟨i, hi, h⟩
    cases hx : ls[i]? with
    | none => simp [hx] at h
    | some o =>
      cases o with
      | none => simp [hx] at h
      | some v =>
        simp [hx] at h
        subst h
        exact ⟨v, hx, rfl⟩
  · rintro ⟨v, h1, h2⟩
    refine ⟨q.1, List.mem_range.mpr (List.getElem?_eq_some_iff.mp h1).1, ?_⟩
    simp [h1, ← h2]
theorem am_L.has {ad : am_N → Nat} {ls : List (Option am_V)} {nL : Nat} {lsA : Array Slot} (h : am_L ad ls nL lsA) : lv_has lsA nL (am_al ad ls) := ⟨h.1, h.2.1, fun q hq => by
  obtain ⟨v, h1, h2⟩ := am_al_mem.mp hq
  rw [h2]
  exact h.2.2 _ _ h1⟩
def am_c1 : Option am_V → Bool
  | some v => !am_c2 v
  | none => true
/-- what stood before the place isn't a long -/
def am_ok1 (ls : List (Option am_V)) (i : Nat) : Bool := match i with
  | 0 => true
  | j + 1 => match ls[j]? with
    | some o => am_c1 o
    | none => true
theorem am_L.put1 {ad : am_N → Nat} {ls : List (Option am_V)} {nL : Nat} {lsA lsA' : Array Slot} {i : Nat} {v : am_V} (hok : am_ok1 ls i = true) (hi : i < ls.length) (h : lv_has lsA' nL ((i, am_cv ad v) :: (am_al ad ls).filter (fun q => !(q.1 == i) && !(q.1 + 1 == i && q.2.category == 2)))) : am_L ad (ls.set i (some v)) nL lsA' := by
  refine ⟨h.1, h.2.1, fun j w hj => ?_⟩
  by_cases hji : i = j
  · subst hji
    rw [List.getElem?_set_self hi] at hj
    cases hj
    exact h.2.2 _ List.mem_cons_self
  · rw [List.getElem?_set_ne hji] at hj
    refine h.2.2 (j, am_cv ad w) (List.mem_cons_of_mem _ (List.mem_filter.mpr ⟨am_al_mem.mpr ⟨w, hj, rfl⟩, ?_⟩))
    have h1 : (j == i) = false := by simpa using fun e : j = i => hji e.symm
    rw [h1]
    by_cases h2 : j + 1 = i
    · subst h2
      simp only [am_ok1, hj, am_c1] at hok
      rw [am_c2_cat]
      simp at hok
      simp [hok]
    · have h3 : (j + 1 == i) = false := by simpa using h2
      rw [h3]; rfl
theorem am_L.put2 {ad : am_N → Nat} {ls : List (Option am_V)} {nL : Nat} {lsA' : Array Slot} {i : Nat} {v : am_V} (hok : am_ok1 ls i = true) (hi : i < ls.length) (h : lv_has lsA' nL ((i, am_cv ad v) :: (am_al ad ls).filter (fun q => !(q.1 == i) && (!(q.1 == i + 1) && !(q.1 + 1 == i && q.2.category == 2))))) : am_L ad ((ls.set i (some v)).set (i + 1) none) nL lsA' := by
  refine ⟨h.1, h.2.1, fun j w hj => ?_⟩
  by_cases hj2 : i + 1 = j
  · subst hj2
    by_cases hl : i + 1 < (ls.set i (some v)).length
    · rw [List.getElem?_set_self hl] at hj
      cases hj
    · rw [List.getElem?_eq_none (by rw [List.length_set]; omega)] at hj
      cases hj
  · rw [List.getElem?_set_ne hj2] at hj
    by_cases hji : i = j
    · subst hji
      rw [List.getElem?_set_self hi] at hj
      cases hj
      exact h.2.2 _ List.mem_cons_self
    · rw [List.getElem?_set_ne hji] at hj
      refine h.2.2 (j, am_cv ad w) (List.mem_cons_of_mem _ (List.mem_filter.mpr ⟨am_al_mem.mpr ⟨w, hj, rfl⟩, ?_⟩))
      have h1 : (j == i) = false := by simpa using fun e : j = i => hji e.symm
      have h4 : (j == i + 1) = false := by simpa using fun e : j = i + 1 => hj2 e.symm
      rw [h1, h4]
      by_cases h2 : j + 1 = i
      · subst h2
        simp only [am_ok1, hj, am_c1] at hok
        rw [am_c2_cat]
        simp at hok
        simp [hok]
      · have h3 : (j + 1 == i) = false := by simpa using h2
        rw [h3]; rfl
theorem am_R.loc {s : State} {D : am_D} {A : Nat → Prop} {ad0 : am_N → Nat} {kd0 : am_kd} {H : Heap} {locs : List Loc} {lsA lsA' : Array Slot} {ad : am_N → Nat} {st' : List am_V} {ls' : List (Option am_V)} (h : am_R M s D A ad0 kd0 H locs lsA ad ls st kd rv iv) (hl : am_L ad ls' M.2.2.1 lsA') (hv : ∀ v, some v ∈ ls' → am_lv kd v) (h' : ∀ v ∈ st', am_lv kd v) : am_R M s D A ad0 kd0 H locs lsA' ad ls' st' kd rv iv := ⟨h.1, h.2.1, h.2.2.1, h.2.2.2.1, hl, hv, h'⟩
theorem am_setl {kd : am_kd} {ls : List (Option am_V)} {i : Nat} {v : am_V} (h : ∀ v, some v ∈ ls → am_lv kd v) (hv : am_lv kd v) : ∀ w, some w ∈ ls.set i (some v) → am_lv kd w := fun w hw => by
  rcases List.mem_or_eq_of_mem_set hw with h1 | h1
  · exact h w h1
  · cases h1; exact hv
theorem am_setn {kd : am_kd} {ls : List (Option am_V)} {i : Nat} (h : ∀ v, some v ∈ ls → am_lv kd v) : ∀ w, some w ∈ ls.set i none → am_lv kd w := fun w hw => by
  rcases List.mem_or_eq_of_mem_set hw with h1 | h1
  · exact h w h1
  · cases h1
theorem A_istore {i : Nat} {x : Int32} {ls' : List (Option am_V)} (hd : decode M.2.1 pc = .ok (.istore i, 2)) (hn : i < M.2.2.1) (hok : am_ok1 ls i = true) (hl : i < ls.length) (hs : ls.set i (some (am_I x)) = ls') (k : am_W l M R post (pc + 2) ls' st kd rv iv cu su) : am_W l M R post pc ls (am_I x :: st) kd rv iv cu su := by
  intro p e s m args below meth c D A ad0 kd0 H locs lsA ad C Rr
  have hL := Rr.2.2.2.2.2.2
  subst hs
  refine lv_istore C.1 C.2.1 hd Rr.2.2.2.2.1.has hn rfl (fun ls9 h9 => ?_)
  exact k p e s m args below meth c D A ad0 kd0 H locs ls9 ad C (Rr.loc (am_L.put1 (lsA := lsA) hok hl h9) (am_setl Rr.2.2.2.2.2.1 (hL _ List.mem_cons_self)) (am_l1 hL))
theorem A_istore_n {i : Nat} {k9 : Fin 4} {x : Int32} {ls' : List (Option am_V)} (hd : decode M.2.1 pc = .ok (.istore_n k9, 1)) (hi : (k9 : Nat) = i) (hn : i < M.2.2.1) (hok : am_ok1 ls i = true) (hl : i < ls.length) (hs : ls.set i (some (am_I x)) = ls') (k : am_W l M R post (pc + 1) ls' st kd rv iv cu su) : am_W l M R post pc ls (am_I x :: st) kd rv iv cu su := by
  intro p e s m args below meth c D A ad0 kd0 H locs lsA ad C Rr
  have hL := Rr.2.2.2.2.2.2
  subst hs
  refine lv_istore_n C.1 C.2.1 hd hi Rr.2.2.2.2.1.has hn rfl (fun ls9 h9 => ?_)
  exact k p e s m args below meth c D A ad0 kd0 H locs ls9 ad C (Rr.loc (am_L.put1 (lsA := lsA) hok hl h9) (am_setl Rr.2.2.2.2.2.1 (hL _ List.mem_cons_self)) (am_l1 hL))
theorem A_astore {i : Nat} {n : am_N} {ls' : List (Option am_V)} (hd : decode M.2.1 pc = .ok (.astore i, 2)) (hn : i < M.2.2.1) (hok : am_ok1 ls i = true) (hl : i < ls.length) (hs : ls.set i (some (am_P n)) = ls') (k : am_W l M R post (pc + 2) ls' st kd rv iv cu su) : am_W l M R post pc ls (am_P n :: st) kd rv iv cu su := by
  intro p e s m args below meth c D A ad0 kd0 H locs lsA ad C Rr
  have hL := Rr.2.2.2.2.2.2
  subst hs
  refine lv_astore C.1 C.2.1 hd Rr.2.2.2.2.1.has hn rfl (fun ls9 h9 => ?_)
  exact k p e s m args below meth c D A ad0 kd0 H locs ls9 ad C (Rr.loc (am_L.put1 (lsA := lsA) hok hl h9) (am_setl Rr.2.2.2.2.2.1 (hL _ List.mem_cons_self)) (am_l1 hL))
theorem A_astore_n {i : Nat} {k9 : Fin 4} {n : am_N} {ls' : List (Option am_V)} (hd : decode M.2.1 pc = .ok (.astore_n k9, 1)) (hi : (k9 : Nat) = i) (hn : i < M.2.2.1) (hok : am_ok1 ls i = true) (hl : i < ls.length) (hs : ls.set i (some (am_P n)) = ls') (k : am_W l M R post (pc + 1) ls' st kd rv iv cu su) : am_W l M R post pc ls (am_P n :: st) kd rv iv cu su := by
  intro p e s m args below meth c D A ad0 kd0 H locs lsA ad C Rr
  have hL := Rr.2.2.2.2.2.2
  subst hs
  refine lv_astore_n C.1 C.2.1 hd hi Rr.2.2.2.2.1.has hn rfl (fun ls9 h9 => ?_)
  exact k p e s m args below meth c D A ad0 kd0 H locs ls9 ad C (Rr.loc (am_L.put1 (lsA := lsA) hok hl h9) (am_setl Rr.2.2.2.2.2.1 (hL _ List.mem_cons_self)) (am_l1 hL))
theorem A_astore0 {i : Nat}  {ls' : List (Option am_V)} (hd : decode M.2.1 pc = .ok (.astore i, 2)) (hn : i < M.2.2.1) (hok : am_ok1 ls i = true) (hl : i < ls.length) (hs : ls.set i (some (am_0)) = ls') (k : am_W l M R post (pc + 2) ls' st kd rv iv cu su) : am_W l M R post pc ls (am_0 :: st) kd rv iv cu su := by
  intro p e s m args below meth c D A ad0 kd0 H locs lsA ad C Rr
  have hL := Rr.2.2.2.2.2.2
  subst hs
  refine lv_astoreN C.1 C.2.1 hd Rr.2.2.2.2.1.has hn rfl (fun ls9 h9 => ?_)
  exact k p e s m args below meth c D A ad0 kd0 H locs ls9 ad C (Rr.loc (am_L.put1 (lsA := lsA) hok hl h9) (am_setl Rr.2.2.2.2.2.1 (hL _ List.mem_cons_self)) (am_l1 hL))
theorem A_astore0_n {i : Nat} {k9 : Fin 4}  {ls' : List (Option am_V)} (hd : decode M.2.1 pc = .ok (.astore_n k9, 1)) (hi : (k9 : Nat) = i) (hn : i < M.2.2.1) (hok : am_ok1 ls i = true) (hl : i < ls.length) (hs : ls.set i (some (am_0)) = ls') (k : am_W l M R post (pc + 1) ls' st kd rv iv cu su) : am_W l M R post pc ls (am_0 :: st) kd rv iv cu su := by
  intro p e s m args below meth c D A ad0 kd0 H locs lsA ad C Rr
  have hL := Rr.2.2.2.2.2.2
  subst hs
  refine lv_astore_nN C.1 C.2.1 hd hi Rr.2.2.2.2.1.has hn rfl (fun ls9 h9 => ?_)
  exact k p e s m args below meth c D A ad0 kd0 H locs ls9 ad C (Rr.loc (am_L.put1 (lsA := lsA) hok hl h9) (am_setl Rr.2.2.2.2.2.1 (hL _ List.mem_cons_self)) (am_l1 hL))
theorem A_lstore {i : Nat} {x : Int64} {ls' : List (Option am_V)} (hd : decode M.2.1 pc = .ok (.lstore i, 2)) (hn : i + 1 < M.2.2.1) (hok : am_ok1 ls i = true) (hl : i < ls.length) (hs : (ls.set i (some (am_J x))).set (i + 1) none = ls') (k : am_W l M R post (pc + 2) ls' st kd rv iv cu su) : am_W l M R post pc ls (am_J x :: st) kd rv iv cu su := by
  intro p e s m args below meth c D A ad0 kd0 H locs lsA ad C Rr
  have hL := Rr.2.2.2.2.2.2
  subst hs
  refine lv_lstore C.1 C.2.1 hd Rr.2.2.2.2.1.has hn rfl (fun ls9 h9 => ?_)
  exact k p e s m args below meth c D A ad0 kd0 H locs ls9 ad C (Rr.loc (am_L.put2 hok hl h9) (am_setn (am_setl Rr.2.2.2.2.2.1 (hL _ List.mem_cons_self))) (am_l1 hL))
theorem A_lstore_n {i : Nat} {k9 : Fin 4} {x : Int64} {ls' : List (Option am_V)} (hd : decode M.2.1 pc = .ok (.lstore_n k9, 1)) (hi : (k9 : Nat) = i) (hn : i + 1 < M.2.2.1) (hok : am_ok1 ls i = true) (hl : i < ls.length) (hs : (ls.set i (some (am_J x))).set (i + 1) none = ls') (k : am_W l M R post (pc + 1) ls' st kd rv iv cu su) : am_W l M R post pc ls (am_J x :: st) kd rv iv cu su := by
  intro p e s m args below meth c D A ad0 kd0 H locs lsA ad C Rr
  have hL := Rr.2.2.2.2.2.2
  subst hs
  refine lv_lstore_n C.1 C.2.1 hd hi Rr.2.2.2.2.1.has hn rfl (fun ls9 h9 => ?_)
  exact k p e s m args below meth c D A ad0 kd0 H locs ls9 ad C (Rr.loc (am_L.put2 hok hl h9) (am_setn (am_setl Rr.2.2.2.2.2.1 (hL _ List.mem_cons_self))) (am_l1 hL))
theorem A_iinc {i : Nat} {n : Int} {x : Int32} (v : Int32) {ls' : List (Option am_V)} (hd : decode M.2.1 pc = .ok (.iinc i n, 3)) (hx : ls[i]? = some (some (am_I x))) (hv : x + Int32.ofInt n = v) (hn : i < M.2.2.1) (hok : am_ok1 ls i = true) (hs : ls.set i (some (am_I v)) = ls') (k : am_W l M R post (pc + 3) ls' st kd rv iv cu su) : am_W l M R post pc ls st kd rv iv cu su := by
  intro p e s m args below meth c D A ad0 kd0 H locs lsA ad C Rr
  have hL := Rr.2.2.2.2.2.2
  subst hs
  have hm : (i, Value.int x) ∈ am_al ad ls := am_al_mem.mpr ⟨am_I x, hx, rfl⟩
  obtain ⟨k0, hk0⟩ := List.getElem?_of_mem hm
  refine lv_iinc C.1 C.2.1 hd Rr.2.2.2.2.1.has hk0 hv hn rfl (fun ls9 h9 => ?_)
  exact k p e s m args below meth c D A ad0 kd0 H locs ls9 ad C (Rr.loc (am_L.put1 (lsA := lsA) (v := am_I v) hok (List.getElem?_eq_some_iff.mp hx).1 h9) (am_setl Rr.2.2.2.2.2.1 trivial) hL)
end AR
