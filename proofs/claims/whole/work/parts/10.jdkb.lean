/-! Math and System.arraycopy -/
def am_cpy (iv : am_iv) (n0 n1 : am_N) (sp dp n : Nat) : am_iv := fun n' k => if n' = n1 then va_cpy (iv n0) (iv n1) sp dp n k else iv n' k
section AJ
variable {l : Launch} {M : am_M} {R : Room} {post : am_Post} {pc : Nat} {ls : List (Option am_V)} {st : List am_V} {kd : am_kd} {rv : am_rv} {iv : am_iv} {cu su : Nat}
theorem am_mi : Cond.initialized "java/lang/Math" ∈ am_T := ce_J9_abs_0f7a4.2.1
theorem A_mabs {idx : Nat} {x : Int32} (hl : Cond.methodLink M.1.cls idx Lib.Math.abs.name ∈ am_T) (hf : 1 ≤ R.frames) (hw : am_wt st + 13 ≤ R.locals) (hc : cu ≤ R.cells) (hs : su ≤ R.slots) (hd : decode M.2.1 pc = .ok (.invokestatic idx, 3)) (k : am_W l M R post (pc + 3) ls (am_I (if 0 ≤ x then x else 0 - x) :: st) kd rv iv cu su) : am_W l M R post pc ls (am_I x :: st) kd rv iv cu su := by
  intro p e s m args below meth c D A ad0 kd0 H locs lsA ad C Rr
  have hts : ∀ w ∈ am_T, w.before args s = true := fun w hw => C.2.2.2.2.2.1 w (List.mem_cons_of_mem _ hw)
  exact va_mabs C.1 C.2.1 (C.2.2.2.1.trans Rr.2.2.2.2.1.1.symm) C.2.2.2.2.1 (hts _ hl) (hts _ cs_X3_49.2.2) (hts _ am_mi) (hts _ ce_J9_abs_0f7a4.1) hf (by rw [am_wt_ok]; exact hw) hc hs hd (k p e s m args below meth c D A ad0 kd0 H locs lsA ad C (Rr.stk (am_l0 (am_l1 Rr.2.2.2.2.2.2))))
theorem A_mmax {idx : Nat} {x y : Int32} (hl : Cond.methodLink M.1.cls idx Lib.Math.max.name ∈ am_T) (hf : 1 ≤ R.frames) (hw : am_wt st + 13 ≤ R.locals) (hc : cu ≤ R.cells) (hs : su ≤ R.slots) (hd : decode M.2.1 pc = .ok (.invokestatic idx, 3)) (k : am_W l M R post (pc + 3) ls (am_I (if x < y then y else x) :: st) kd rv iv cu su) : am_W l M R post pc ls (am_I y :: am_I x :: st) kd rv iv cu su := by
  intro p e s m args below meth c D A ad0 kd0 H locs lsA ad C Rr
  have hts : ∀ w ∈ am_T, w.before args s = true := fun w hw => C.2.2.2.2.2.1 w (List.mem_cons_of_mem _ hw)
  exact va_mmax C.1 C.2.1 (C.2.2.2.1.trans Rr.2.2.2.2.1.1.symm) C.2.2.2.2.1 (hts _ hl) (hts _ am_smax) (hts _ am_mi) (hts _ ce_J9_max_7cf53.1) hf (by rw [am_wt_ok]; exact hw) hc hs hd (k p e s m args below meth c D A ad0 kd0 H locs lsA ad C (Rr.stk (am_l0 (am_l1 (am_l1 Rr.2.2.2.2.2.2)))))
theorem A_mmin {idx : Nat} {x y : Int32} (hl : Cond.methodLink M.1.cls idx Lib.Math.min.name ∈ am_T) (hf : 1 ≤ R.frames) (hw : am_wt st + 13 ≤ R.locals) (hc : cu ≤ R.cells) (hs : su ≤ R.slots) (hd : decode M.2.1 pc = .ok (.invokestatic idx, 3)) (k : am_W l M R post (pc + 3) ls (am_I (if y < x then y else x) :: st) kd rv iv cu su) : am_W l M R post pc ls (am_I y :: am_I x :: st) kd rv iv cu su := by
  intro p e s m args below meth c D A ad0 kd0 H locs lsA ad C Rr
  have hts : ∀ w ∈ am_T, w.before args s = true := fun w hw => C.2.2.2.2.2.1 w (List.mem_cons_of_mem _ hw)
  exact va_mmin C.1 C.2.1 (C.2.2.2.1.trans Rr.2.2.2.2.1.1.symm) C.2.2.2.2.1 (hts _ hl) (hts _ am_smin) (hts _ am_mi) (hts _ ce_J9_min_7cf53.1) hf (by rw [am_wt_ok]; exact hw) hc hs hd (k p e s m args below meth c D A ad0 kd0 H locs lsA ad C (Rr.stk (am_l0 (am_l1 (am_l1 Rr.2.2.2.2.2.2)))))
theorem A_mabsL {idx : Nat} {x : Int64} (hl : Cond.methodLink M.1.cls idx Lib.MathLoose.abs_long.x ∈ am_T) (hf : 1 ≤ R.frames) (hw : am_wt st + 13 ≤ R.locals) (hc : cu ≤ R.cells) (hs : su ≤ R.slots) (hd : decode M.2.1 pc = .ok (.invokestatic idx, 3)) (k : am_W l M R post (pc + 3) ls (am_J (if 0 < x then x else -x) :: st) kd rv iv cu su) : am_W l M R post pc ls (am_J x :: st) kd rv iv cu su := by
  intro p e s m args below meth c D A ad0 kd0 H locs lsA ad C Rr
  have hts : ∀ w ∈ am_T, w.before args s = true := fun w hw => C.2.2.2.2.2.1 w (List.mem_cons_of_mem _ hw)
  exact va_mabs_long C.1 C.2.1 (C.2.2.2.1.trans Rr.2.2.2.2.1.1.symm) C.2.2.2.2.1 (hts _ hl) (hts _ am_sabl) (hts _ am_mi) (hts _ ce_J9_abs_067f4.1) hf (by rw [am_wt_ok]; exact hw) hc hs hd (k p e s m args below meth c D A ad0 kd0 H locs lsA ad C (Rr.stk (am_l0 (am_l1 Rr.2.2.2.2.2.2))))
set_option maxHeartbeats 1000000 in
theorem A_copy {idx : Nat} {n0 n1 : am_N} {z0 z1 : Nat} {sp dp n : Int32} (hl : Cond.methodLink M.1.cls idx arraycopyName ∈ am_T) (hk0 : kd n0 = some (.inr (0, z0))) (hk1 : kd n1 = some (.inr (0, z1))) (h1 : ¬ sp < 0) (h2 : ¬ dp < 0) (h3 : ¬ n < 0) (h4 : sp.toNatClampNeg + n.toNatClampNeg ≤ z0) (h5 : dp.toNatClampNeg + n.toNatClampNeg ≤ z1) (hf : 1 ≤ R.frames) (hw : am_wt st + (nativeFrameWords "java/lang/System" "arraycopy" 5 + 11) ≤ R.locals) (hd : decode M.2.1 pc = .ok (.invokestatic idx, 3)) (k : am_W l M R post (pc + 3) ls st kd rv (am_cpy iv n0 n1 sp.toNatClampNeg dp.toNatClampNeg n.toNatClampNeg) cu su) : am_W l M R post pc ls (am_I n :: am_I dp :: am_P n1 :: am_I sp :: am_P n0 :: st) kd rv iv cu su := by
  intro p e s m args below meth c D A ad0 kd0 H locs lsA ad C Rr
  have hL := Rr.2.2.2.2.2.2
  have hts : ∀ w ∈ am_T, w.before args s = true := fun w hw => C.2.2.2.2.2.1 w (List.mem_cons_of_mem _ hw)
  have nn : ∀ z : Int32, ¬ z < 0 → z.toInt = (z.toNatClampNeg : Int) := by
    intro z hz
    have hz0 : (0 : Int) ≤ z.toInt := by
      have := Int32.not_lt.mp hz
      simpa using Int32.le_iff_toInt_le.mp this
    show z.toInt = ((z.toInt.toNat : Nat) : Int)
    omega
  have hne : ¬ am_op (.inr (0, z1) : am_K) := by simp [am_op]
  have hc0 : H[ad n0]? = some (vp_cell (D.2.1 0) (z0, .inl (iv n0))) := (Rr.1.1 n0 _ hk0).1 (show (0 : Nat) < 5 by decide)
  have hc1 : H[ad n1]? = some (vp_cell (D.2.1 0) (z1, .inl (iv n1))) := (Rr.1.1 n1 _ hk1).1 (show (0 : Nat) < 5 by decide)
  have har := (am_arr C.2.2.2.2.2.2.2.2.1 (t := 0) (by decide)).1
  obtain ⟨-, k0, hk0', cm0, hkk0⟩ := har z0 (fun j => .int (iv n0 j))
  obtain ⟨-, k1, hk1', cm1, hkk1⟩ := har z1 (fun j => .int (iv n1 j))
  intro T hT X
  obtain ⟨vm', X', step⟩ := X.arraycopy C.1 C.2.2.2.2.1 (hts _ hl) (hts _ am_cnat) (hts _ am_cst) (hts _ am_csi) (src := ad n0) (dst := ad n1) (cs := vp_cell (D.2.1 0) (z0, .inl (iv n0))) (cd := vp_cell (D.2.1 0) (z1, .inl (iv n1))) (srcPos := sp) (destPos := dp) (n := n) (by rw [hT]; exact hc0) (by rw [hT]; exact hc1)
    (fun _ h => by cases h) (fun _ h => by cases h) (fun h => by cases h) (fun h => by cases h) hk0' hk1' hkk0 hkk1 (by simp [am_aty, refKind]) h1 h2 h3
    (by rw [nn sp h1, nn n h3]; show ¬ _ > ((arrV _ z0 (fun j => .int (iv n0 j))).slots.size : Int); rw [arrV_size]; omega)
    (by rw [nn dp h2, nn n h3]; show ¬ _ > ((arrV _ z1 (fun j => .int (iv n1 j))).slots.size : Int); rw [arrV_size]; omega)
    (fun vm₁ _ i hi => by
      have e : (vp_cell (D.2.1 0) (z0, .inl (iv n0))).slots.getD (sp.toNatClampNeg + i) .null = .int (iv n0 (sp.toNatClampNeg + i)) := by
        show (arrV _ z0 (fun j => .int (iv n0 j))).slots.getD _ _ = _
        rw [Array.getD_eq_getD_getElem?, arrV_read _ _ (by omega)]
        rfl
      refine ⟨?_, ?_⟩
      · rw [e]; rfl
      · rw [e]; exact trivial)
    (g := F0 m pc lsA (.int n :: .int dp :: .ref (ad n1) :: .int sp :: .ref (ad n0) :: st.map (am_cv ad))) rfl (C.2.2.2.1 ▸ Rr.2.2.2.2.1.1) (rest := st.map (am_cv ad)) rfl (by rw [C.2.1]; exact hd) hf (by show 2 * 0 + _ + _ ≤ _; rw [am_wt_ok]; omega)
  have e1 : copied (vp_cell (D.2.1 0) (z0, .inl (iv n0))) (vp_cell (D.2.1 0) (z1, .inl (iv n1))) sp dp n = vp_cell (D.2.1 0) (z1, .inl (va_cpy (iv n0) (iv n1) sp.toNatClampNeg dp.toNatClampNeg n.toNatClampNeg)) := va_copied (fun z => .int z) (D.2.1 0) (D.2.1 0) (iv n0) (iv n1) h4
  rw [e1] at X' step
  have hlt : ad n1 < H.size := (Array.getElem?_eq_some_iff.mp hc1).1
  have hAn : A (ad n1) := Rr.2.1 n1 (by rw [hk1]; exact fun h => by cases h) (am_tag Rr.1 hk1 hne)
  generalize hH1 : H.setIfInBounds (ad n1) (vp_cell (D.2.1 0) (z1, .inl (va_cpy (iv n0) (iv n1) sp.toNatClampNeg dp.toNatClampNeg n.toNatClampNeg))) = H1
  have hheap : ((T.setVm vm').setCell (ad n1) (vp_cell (D.2.1 0) (z1, .inl (va_cpy (iv n0) (iv n1) sp.toNatClampNeg dp.toNatClampNeg n.toNatClampNeg)))).heap = H1 := by rw [← hH1, ← hT]; rfl
  have oq : ∀ q : Nat, q ≠ ad n1 → H1[q]? = H[q]? := fun q hq => by rw [← hH1]; simp [Array.getElem?_setIfInBounds, Ne.symm hq]
  have hat : am_at D ad rv (am_cpy iv n0 n1 sp.toNatClampNeg dp.toNatClampNeg n.toNatClampNeg) n1 (.inr (0, z1)) H1 := by
    refine ⟨fun _ => ?_, ⟨fun h => ?_, fun h => ?_⟩⟩
    · rw [← hH1]
      simp only [Array.getElem?_setIfInBounds, hlt, if_true]
      rw [vp_cell_i]
      congr 2
      funext j
      simp [am_sv, am_cpy, am_isr, am_aty]
    · simp at h
    · simp at h
  obtain ⟨t, a1, b1⟩ := k p e s m args below meth c D A ad0 kd0 H1 _ lsA ad C (Rr.heap (Rr.1.set hk1 hne oq hat (fun _ _ _ => rfl) (fun n' k hn => by simp [am_cpy, hn]) (fun k o h => Rr.1.2.2.1 n1 k o (by rw [hk1]; exact fun h => by cases h) h)) ⟨by rw [← hH1]; simp; exact Rr.2.2.1.1, fun q g1 g2 => by
      rw [oq q (fun e => g2 (by rw [e]; exact hAn))]
      exact Rr.2.2.1.2.1 q g1 g2, fun q hq => by
      rcases List.mem_append.mp hq with h | h
      · exact Rr.2.2.1.2.2 q h
      · obtain ⟨z, -, hz⟩ := List.mem_map.mp h
        rw [← hz]
        exact hAn⟩ (am_l1 (am_l1 (am_l1 (am_l1 (am_l1 hL)))))) _ hheap X'
  exact ⟨t, step t a1, b1⟩
end AJ
