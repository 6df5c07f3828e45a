section AS
variable {l : Launch} {M : am_M} {R : Room} {post : am_Post} {pc : Nat} {ls : List (Option am_V)} {st : List am_V} {kd : am_kd} {rv : am_rv} {iv : am_iv} {cu su : Nat}
/-- the signs of a text constant -/
def am_sb (u : Nat) : List Int32 := [[108, 113, 104], [116, 119, 107]].getD u []
theorem sx_gs : Cond.fieldLink "java/lang/String" 38 "java/lang/String" "COMPACT_STRINGS" "Z" ∈ am_T := am_tT 655 (by decide +kernel)
theorem sx_gc : Cond.fieldLink "java/lang/String" 15 "java/lang/String" "coder" "B" ∈ am_T := am_tT 1610 (by decide +kernel)
theorem sx_gv : Cond.fieldLink "java/lang/String" 9 "java/lang/String" "value" "[B" ∈ am_T := am_tT 1611 (by decide +kernel)
theorem am_sad {D : am_D} {ad : am_N → Nat} {H : Heap} {u : Nat} (h : am_HR D ad kd rv iv H) (hk : kd (40, u, 0) = some (.inr (9, 0))) : ad (40, u, 0) = D.2.2.1.1 u := ((h.1 _ _ hk).2.2 rfl).trans (if_pos rfl)
theorem am_sav {D : am_D} {ad : am_N → Nat} {H : Heap} {u : Nat} (h : am_HR D ad kd rv iv H) (hk : kd (40, u, 1) = some (.inr (9, 0))) : ad (40, u, 1) = D.2.2.1.2 u := ((h.1 _ _ hk).2.2 rfl).trans (if_neg (fun h => Nat.one_ne_zero h))
theorem A_ldcS0 (hk : kd (40, 0, 0) = some (.inr (9, 0))) (hM : M.1.cls = RX11) (hd : decode M.2.1 pc = .ok (.ldc 182, 2)) (k : am_W l M R post (pc + 2) ls (am_P (40, 0, 0) :: st) kd rv iv cu su) : am_W l M R post pc ls st kd rv iv cu su := by
  intro p e s m args below meth c D A ad0 kd0 H locs lsA ad C Rr
  have k1 := k p e s m args below meth c D A ad0 kd0 H locs lsA ad C (Rr.stk (am_lc (v := am_P (40, 0, 0)) (show kd _ ≠ none by rw [hk]; exact fun h => by cases h) Rr.2.2.2.2.2.2))
  have e1 : (am_P (40, 0, 0) :: st).map (am_cv ad) = .ref (D.2.2.1.1 0) :: st.map (am_cv ad) := by rw [← am_sad Rr.1 hk]; rfl
  rw [e1] at k1
  exact va_ldcS C.1 C.2.1 (hM ▸ C.2.2.2.2.1) C.2.2.2.2.2.2.2.2.1.2.2.2.2.1 hd k1
theorem A_ldcS1 (hk : kd (40, 1, 0) = some (.inr (9, 0))) (hM : M.1.cls = RX11) (hd : decode M.2.1 pc = .ok (.ldc 184, 2)) (k : am_W l M R post (pc + 2) ls (am_P (40, 1, 0) :: st) kd rv iv cu su) : am_W l M R post pc ls st kd rv iv cu su := by
  intro p e s m args below meth c D A ad0 kd0 H locs lsA ad C Rr
  have k1 := k p e s m args below meth c D A ad0 kd0 H locs lsA ad C (Rr.stk (am_lc (v := am_P (40, 1, 0)) (show kd _ ≠ none by rw [hk]; exact fun h => by cases h) Rr.2.2.2.2.2.2))
  have e1 : (am_P (40, 1, 0) :: st).map (am_cv ad) = .ref (D.2.2.1.1 1) :: st.map (am_cv ad) := by rw [← am_sad Rr.1 hk]; rfl
  rw [e1] at k1
  exact va_ldcS C.1 C.2.1 (hM ▸ C.2.2.2.2.1) C.2.2.2.2.2.2.2.2.1.2.2.2.2.2.1 hd k1
theorem A_gets {idx : Nat} (hl : Cond.fieldLink M.1.cls idx "java/lang/String" "COMPACT_STRINGS" "Z" ∈ am_T) (hd : decode M.2.1 pc = .ok (.getstatic idx, 3)) (k : am_W l M R post (pc + 3) ls (am_I 1 :: st) kd rv iv cu su) : am_W l M R post pc ls st kd rv iv cu su := by
  intro p e s m args below meth c D A ad0 kd0 H locs lsA ad C Rr
  have hts : ∀ w ∈ am_T, w.before args s = true := fun w hw => C.2.2.2.2.2.1 w (List.mem_cons_of_mem _ hw)
  exact va_gets C.1 C.2.1 C.2.2.2.2.2.2.2.2.1.2.2.2.1.2 Rr.2.2.1 C.2.2.2.2.1 (hts _ hl) (fun x h => h) hd (k p e s m args below meth c D A ad0 kd0 H locs lsA ad C (Rr.stk (am_l0 Rr.2.2.2.2.2.2)))
theorem A_getSc {idx u : Nat} (hu : u < 2) (hk : kd (40, u, 0) = some (.inr (9, 0))) (hl : Cond.fieldLink M.1.cls idx "java/lang/String" "coder" "B" ∈ am_T) (hd : decode M.2.1 pc = .ok (.getfield idx, 3)) (k : am_W l M R post (pc + 3) ls (am_I 0 :: st) kd rv iv cu su) : am_W l M R post pc ls (am_P (40, u, 0) :: st) kd rv iv cu su := by
  intro p e s m args below meth c D A ad0 kd0 H locs lsA ad C Rr
  have hts : ∀ w ∈ am_T, w.before args s = true := fun w hw => C.2.2.2.2.2.1 w (List.mem_cons_of_mem _ hw)
  have e1 : (am_P (40, u, 0) :: st).map (am_cv ad) = .ref (D.2.2.1.1 u) :: st.map (am_cv ad) := by rw [← am_sad Rr.1 hk]; rfl
  rw [e1]
  exact vk_getf C.1 C.2.1 (C.2.2.2.2.2.2.2.2.1.2.2.2.1.1.1 u hu).2.1 Rr.2.2.1 C.2.2.2.2.1 (hts _ hl) (fun x h => h) hd (k p e s m args below meth c D A ad0 kd0 H locs lsA ad C (Rr.stk (am_l0 (am_l1 Rr.2.2.2.2.2.2))))
theorem A_getSv {idx u : Nat} (hu : u < 2) (hk : kd (40, u, 0) = some (.inr (9, 0))) (hk1 : kd (40, u, 1) = some (.inr (9, 0))) (hl : Cond.fieldLink M.1.cls idx "java/lang/String" "value" "[B" ∈ am_T) (hd : decode M.2.1 pc = .ok (.getfield idx, 3)) (k : am_W l M R post (pc + 3) ls (am_P (40, u, 1) :: st) kd rv iv cu su) : am_W l M R post pc ls (am_P (40, u, 0) :: st) kd rv iv cu su := by
  intro p e s m args below meth c D A ad0 kd0 H locs lsA ad C Rr
  have hts : ∀ w ∈ am_T, w.before args s = true := fun w hw => C.2.2.2.2.2.1 w (List.mem_cons_of_mem _ hw)
  have e1 : (am_P (40, u, 0) :: st).map (am_cv ad) = .ref (D.2.2.1.1 u) :: st.map (am_cv ad) := by rw [← am_sad Rr.1 hk]; rfl
  have k1 := k p e s m args below meth c D A ad0 kd0 H locs lsA ad C (Rr.stk (am_lc (v := am_P (40, u, 1)) (show kd _ ≠ none by rw [hk1]; exact fun h => by cases h) (am_l1 Rr.2.2.2.2.2.2)))
  have e2 : (am_P (40, u, 1) :: st).map (am_cv ad) = .ref (D.2.2.1.2 u) :: st.map (am_cv ad) := by rw [← am_sav Rr.1 hk1]; rfl
  rw [e2] at k1
  rw [e1]
  exact vk_getf C.1 C.2.1 (C.2.2.2.2.2.2.2.2.1.2.2.2.1.1.1 u hu).2.2.1 Rr.2.2.1 C.2.2.2.2.1 (hts _ hl) (fun x h => h) hd k1
theorem am_s3 {u : Nat} (hu : u < 2) : ([3, 3] : List Nat).getD u 0 = 3 := by
  match u, hu with
  | 0, _ => rfl
  | 1, _ => rfl
theorem A_alenS {u : Nat} (hu : u < 2) (hk1 : kd (40, u, 1) = some (.inr (9, 0))) (hd : decode M.2.1 pc = .ok (.arraylength, 1)) (k : am_W l M R post (pc + 1) ls (am_I 3 :: st) kd rv iv cu su) : am_W l M R post pc ls (am_P (40, u, 1) :: st) kd rv iv cu su := by
  intro p e s m args below meth c D A ad0 kd0 H locs lsA ad C Rr
  have hT := (C.2.2.2.2.2.2.2.2.1.2.2.2.1.1.1 u hu).2.2.2
  rw [am_s3 hu] at hT
  have e1 : (am_P (40, u, 1) :: st).map (am_cv ad) = .ref (D.2.2.1.2 u) :: st.map (am_cv ad) := by rw [← am_sav Rr.1 hk1]; rfl
  rw [e1]
  exact va_tlen C.1 C.2.1 hT Rr.2.2.1 (v := 3) rfl hd (k p e s m args below meth c D A ad0 kd0 H locs lsA ad C (Rr.stk (am_l0 (am_l1 Rr.2.2.2.2.2.2))))
theorem A_baldS {u : Nat} {i v : Int32} (hu : u < 2) (hk1 : kd (40, u, 1) = some (.inr (9, 0))) (hin : vp_in i 3) (hv : (am_sb u).getD i.toNatClampNeg 0 = v) (hd : decode M.2.1 pc = .ok (.baload, 1)) (k : am_W l M R post (pc + 1) ls (am_I v :: st) kd rv iv cu su) : am_W l M R post pc ls (am_I i :: am_P (40, u, 1) :: st) kd rv iv cu su := by
  intro p e s m args below meth c D A ad0 kd0 H locs lsA ad C Rr
  have hT := (C.2.2.2.2.2.2.2.2.1.2.2.2.1.1.1 u hu).2.2.2
  rw [am_s3 hu] at hT
  have e1 : (am_I i :: am_P (40, u, 1) :: st).map (am_cv ad) = .int i :: .ref (D.2.2.1.2 u) :: st.map (am_cv ad) := by rw [← am_sav Rr.1 hk1]; rfl
  rw [e1]
  exact va_tb C.1 C.2.1 hT Rr.2.2.1 hin (v := .int v) (by rw [← hv]; rfl) hd (k p e s m args below meth c D A ad0 kd0 H locs lsA ad C (Rr.stk (am_l0 (am_l1 (am_l1 Rr.2.2.2.2.2.2)))))
theorem A_bretE {v v' : Int32} {iv' : am_iv} (hd : decode M.2.1 pc = .ok (.ireturn, 1)) (hret : M.2.2.2 = some .byte) (hn : narrow .byte (.int v) = .int v) (hc : cu ≤ R.cells) (hs : su ≤ R.slots) (hv : v = v') (hi : iv = iv') : am_W l M R (am_ret (some (am_I v')) kd rv iv') pc ls [am_I v] kd rv iv cu su := by
  intro p e s m args below meth c D A ad0 kd0 H locs lsA ad C Rr
  refine W.widen hc hs ?_
  exact W.zret C.1 C.2.1 (C.2.2.1.trans hret) hn (fun t ht hW => ⟨⟨some (am_I v), kd, rv, iv, ad, rfl, ⟨by rw [hv], rfl, rfl, hi⟩, by rw [ht]; exact Rr.1, Rr.2.1, Rr.2.2.2.1, fun w hw => by cases hw; trivial⟩, Rr.2.2.1.F ht⟩) Rr.2.2.1.2.2 hd C.2.2.2.2.2.2.1
set_option maxHeartbeats 1000000 in
theorem A_callT1 {M' : am_M} {d idx n u : Nat} {av rest : List am_V} {kd1 : am_kd} {rv1 : am_rv} {iv1 : am_iv} {v : am_V} (hC : am_CV M.1.cls idx M' n) (hM : am_Met l M' (am_rm d 0 0) (am_P (40, u, 0) :: av) kd rv iv (am_ret (some v) kd1 rv1 iv1)) (hu : u < 2) (hk : kd (40, u, 0) = some (.inr (9, 0))) (hrc : "java/lang/String" = M'.1.cls) (hn : av.length = n) (hst : av.reverse ++ am_P (40, u, 0) :: rest = st) (hw : am_wt rest ≤ 8) (hroom : d + 1 ≤ R.frames ∧ 8 + (M'.2.2.1 + 11) + 60 * d ≤ R.locals) (hcs : cu ≤ R.cells ∧ su ≤ R.slots) (hd : decode M.2.1 pc = .ok (.invokevirtual idx, 3)) (k : am_W l M R post (pc + 3) ls (v :: rest) kd1 rv1 iv1 cu su) : am_W l M R post pc ls st kd rv iv cu su := by
  intro p e s m args below meth c D A ad0 kd0 H locs lsA ad C Rr
  have hL := Rr.2.2.2.2.2.2
  subst hst
  obtain ⟨⟨h1, h2, h3⟩, h4, h5, h6⟩ := hC
  have hts : ∀ w ∈ am_T, w.before args s = true := fun w hw => C.2.2.2.2.2.1 w (List.mem_cons_of_mem _ hw)
  have hrest : ∀ v ∈ rest, am_lv kd v := fun v hv => hL v (List.mem_append_right _ (List.mem_cons_of_mem _ hv))
  have hav : ∀ v ∈ am_P (40, u, 0) :: av, am_lv kd v := fun v hv => by
    rcases List.mem_cons.mp hv with h | h
    · subst h; exact hL _ (List.mem_append_right _ List.mem_cons_self)
    · exact hL v (List.mem_append_left _ (List.mem_reverse.mpr h))
  have hrv := vk_recv C.2.2.2.2.2.2.2.2.1.2.2.2.1.1 hu Rr.2.2.1
  rw [← am_sad Rr.1 hk, hrc] at hrv
  refine am_after C Rr hrest (va_runV (As := av.map (am_cv ad)) (rest := rest.map (am_cv ad)) (n := n) (C := M'.1.cls) (b := ad (40, u, 0)) ⟨C.1, C.2.1, C.2.2.2.1, C.2.2.2.2.1, C.2.2.2.2.2.1⟩ (hM D ad H.size) ⟨callB_of (ws' := am_T) n C.2.2.2.2.2.1 (am_good h1) rfl rfl rfl (hts _ h2) (hts _ h4) h3 hroom, hts _ h5, hts _ h6⟩ ⟨am_Pc_blind, hrv, am_pre C Rr hav⟩ rfl (by rw [List.length_map]; exact hn) Rr.2.2.2.2.1.1 (by simp [am_cv]) (lv_room (by rw [am_wt_ok]; exact hw)) hd hcs) (fun v9 kd9 rv9 iv9 h9 => ?_)
  obtain ⟨e1, e2, e3, e4⟩ := h9
  subst e1; subst e2; subst e3; subst e4
  exact k
end AS
def sx_c (u k : Nat) : Int32 := (am_sb u).getD k 0
/-- the place of a sign among the names -/
def sx_ix (u : Nat) (c : Int32) : Int32 := if c = sx_c u 0 then 0 else if c = sx_c u 1 then 1 else if c = sx_c u 2 then 2 else -1
theorem sx_b0 : ∀ u : Nat, u < 2 → ∀ k : Nat, k < 3 → ∀ n : Nat, n < 256 → (sx_c u k = (nI n).toInt8.toInt32 ↔ nI n = sx_c u k) := by decide +kernel
theorem sx_r0 : ∀ u : Nat, u < 2 → ∀ k : Nat, k < 3 → 0 ≤ sx_c u k ∧ sx_c u k ≤ 255 := by decide +kernel
theorem sx_n {c : Int32} (h0 : 0 ≤ c) (h1 : c ≤ 255) : ∃ n : Nat, n < 256 ∧ c = nI n := by
  have a := Int32.le_iff_toInt_le.mp h0
  have b := Int32.le_iff_toInt_le.mp h1
  have e0 : (0 : Int32).toInt = 0 := by decide
  have e1 : (255 : Int32).toInt = 255 := by decide
  refine ⟨c.toInt.toNat, by omega, ?_⟩
  apply Int32.toInt_inj.mp
  show c.toInt = (Int32.ofNat c.toInt.toNat).toInt
  rw [Int32.toInt_ofNat_of_lt (by omega)]
  omega
theorem sx_b {u k : Nat} {c : Int32} (hu : u < 2) (hk : k < 3) (h0 : 0 ≤ c) (h1 : c ≤ 255) : sx_c u k = c.toInt8.toInt32 ↔ c = sx_c u k := by
  obtain ⟨n, hn, rfl⟩ := sx_n h0 h1
  exact sx_b0 u hu k hk n hn
theorem sx_out {u : Nat} {c : Int32} (hu : u < 2) (h : ¬ (0 ≤ c ∧ c ≤ 255)) : sx_ix u c = -1 := by
  unfold sx_ix
  rw [if_neg (fun e => h (by rw [e]; exact sx_r0 u hu 0 (by decide))), if_neg (fun e => h (by rw [e]; exact sx_r0 u hu 1 (by decide))), if_neg (fun e => h (by rw [e]; exact sx_r0 u hu 2 (by decide)))]
set_option maxRecDepth 20000 in
theorem s_coder (l : Launch) {kd : am_kd} {rv : am_rv} {iv : am_iv} (u : Nat) (hu : u < 2) (hk0 : kd (40, u, 0) = some (.inr (9, 0))) (hk1 : kd (40, u, 1) = some (.inr (9, 0))) : am_Met l mJ0_coder_7d493 (am_rm 0 0 0) [am_P (40, u, 0)] kd rv iv (am_ret (some (am_I 0)) kd rv iv) := by
  refine am_Met.of (by decide) (Nat.le_of_ble_eq_true rfl) rfl ?_
  refine A_gets (pc := 0) sx_gs dJ0_coder_7d493_0 ?_
  refine A_ifeq (pc := 3) 13 dJ0_coder_7d493_3 (by decide) (fun hb3 => ?_) (fun hb3 => ?_)
  · exact absurd hb3 (by decide)
  · refine A_aload_n (pc := 6) (i := 0) dJ0_coder_7d493_6 rfl rfl ?_
    refine A_getSc (pc := 7) hu hk0 sx_gc dJ0_coder_7d493_7 ?_
    refine A_goto (pc := 10) 14 dJ0_coder_7d493_10 (by decide) ?_
    exact A_bretE (pc := 14) dJ0_coder_7d493_14 rfl (by decide +kernel) (Nat.zero_le _) (Nat.zero_le _) (rfl) (rfl)
set_option maxRecDepth 20000 in
theorem s_isLatin1 (l : Launch) {kd : am_kd} {rv : am_rv} {iv : am_iv} (u : Nat) (hu : u < 2) (hk0 : kd (40, u, 0) = some (.inr (9, 0))) (hk1 : kd (40, u, 1) = some (.inr (9, 0))) : am_Met l mJ0_isLatin1_aae02 (am_rm 0 0 0) [am_P (40, u, 0)] kd rv iv (am_ret (some (am_I 1)) kd rv iv) := by
  refine am_Met.of (by decide) (Nat.le_of_ble_eq_true rfl) rfl ?_
  refine A_gets (pc := 0) sx_gs dJ0_isLatin1_aae02_0 ?_
  refine A_ifeq (pc := 3) 17 dJ0_isLatin1_aae02_3 (by decide) (fun hb3 => ?_) (fun hb3 => ?_)
  · exact absurd hb3 (by decide)
  · refine A_aload_n (pc := 6) (i := 0) dJ0_isLatin1_aae02_6 rfl rfl ?_
    refine A_getSc (pc := 7) hu hk0 sx_gc dJ0_isLatin1_aae02_7 ?_
    refine A_ifne (pc := 10) 17 dJ0_isLatin1_aae02_10 (by decide) (fun hb10 => ?_) (fun hb10 => ?_)
    · exact absurd (show (0 : Int32) = 0 from rfl) hb10
    · refine A_iconst (pc := 13) (1) dJ0_isLatin1_aae02_13 (by decide) ?_
      refine A_goto (pc := 14) 18 dJ0_isLatin1_aae02_14 (by decide) ?_
      exact A_zretE (pc := 18) dJ0_isLatin1_aae02_18 rfl (by first | exact A_zn0 | exact A_zn1 | exact A_znif _) (Nat.zero_le _) (Nat.zero_le _) (rfl) (rfl)
set_option maxRecDepth 20000 in
theorem s_strlen (l : Launch) {kd : am_kd} {rv : am_rv} {iv : am_iv} (u : Nat) (hu : u < 2) (hk0 : kd (40, u, 0) = some (.inr (9, 0))) (hk1 : kd (40, u, 1) = some (.inr (9, 0))) : am_Met l mJ0_length_8abf5 (am_rm 1 0 0) [am_P (40, u, 0)] kd rv iv (am_ret (some (am_I 3)) kd rv iv) := by
  refine am_Met.of (by decide) (Nat.le_of_ble_eq_true rfl) rfl ?_
  refine A_aload_n (pc := 0) (i := 0) dJ0_length_8abf5_0 rfl rfl ?_
  refine A_getSv (pc := 1) hu hk0 hk1 sx_gv dJ0_length_8abf5_1 ?_
  refine A_alenS (pc := 4) hu hk1 dJ0_length_8abf5_4 ?_
  refine A_aload_n (pc := 5) (i := 0) dJ0_length_8abf5_5 rfl rfl ?_
  refine A_callT1 (pc := 6) cv_J0_335 (s_coder l u hu hk0 hk1) hu hk0 rfl rfl rfl (Nat.le_of_ble_eq_true rfl) ⟨(Nat.le_of_ble_eq_true rfl), (Nat.le_of_ble_eq_true rfl)⟩ ⟨Nat.zero_le _, Nat.zero_le _⟩ dJ0_length_8abf5_6 ?_
  refine A_ishr (pc := 9) dJ0_length_8abf5_9 ?_
  exact A_iretE (pc := 10) dJ0_length_8abf5_10 rfl (Nat.zero_le _) (Nat.zero_le _) (by decide) (rfl)
set_option maxRecDepth 20000 in
theorem s_canEncode (l : Launch) {kd : am_kd} {rv : am_rv} {iv : am_iv} (c : Int32) : am_Met l mJ1_canEncode_9a6ad (am_rm 0 0 0) [am_I c] kd rv iv (am_ret (some (am_I (if 0 ≤ c ∧ c ≤ 255 then 1 else 0))) kd rv iv) := by
  refine am_Met.of (by decide) (Nat.le_of_ble_eq_true rfl) rfl ?_
  refine A_iload_n (pc := 0) (i := 0) dJ1_canEncode_9a6ad_0 rfl rfl ?_
  refine A_iflt (pc := 1) 15 dJ1_canEncode_9a6ad_1 (by decide) (fun hb1 => ?_) (fun hb1 => ?_)
  · refine A_iconst (pc := 15) (0) dJ1_canEncode_9a6ad_15 (by decide) ?_
    exact A_zretE (pc := 16) dJ1_canEncode_9a6ad_16 rfl (by first | exact A_zn0 | exact A_zn1 | exact A_znif _) (Nat.zero_le _) (Nat.zero_le _) ((if_neg (fun h => Int32.not_le.mpr hb1 h.1)).symm) (rfl)
  · refine A_iload_n (pc := 4) (i := 0) dJ1_canEncode_9a6ad_4 rfl rfl ?_
    refine A_sipush (pc := 5) (255) dJ1_canEncode_9a6ad_5 (by decide) ?_
    refine A_icmpgt (pc := 8) 15 dJ1_canEncode_9a6ad_8 (by decide) (fun hb8 => ?_) (fun hb8 => ?_)
    · refine A_iconst (pc := 15) (0) dJ1_canEncode_9a6ad_15 (by decide) ?_
      exact A_zretE (pc := 16) dJ1_canEncode_9a6ad_16 rfl (by first | exact A_zn0 | exact A_zn1 | exact A_znif _) (Nat.zero_le _) (Nat.zero_le _) ((if_neg (fun h => Int32.not_le.mpr hb8 h.2)).symm) (rfl)
    · refine A_iconst (pc := 11) (1) dJ1_canEncode_9a6ad_11 (by decide) ?_
      refine A_goto (pc := 12) 16 dJ1_canEncode_9a6ad_12 (by decide) ?_
      exact A_zretE (pc := 16) dJ1_canEncode_9a6ad_16 rfl (by first | exact A_zn0 | exact A_zn1 | exact A_znif _) (Nat.zero_le _) (Nat.zero_le _) ((if_pos ⟨Int32.not_lt.mp hb1, Int32.not_lt.mp hb8⟩).symm) (rfl)
set_option maxRecDepth 20000 in
theorem s_ixChar (l : Launch) {kd : am_kd} {rv : am_rv} {iv : am_iv} (u : Nat) (hu : u < 2) (hk0 : kd (40, u, 0) = some (.inr (9, 0))) (hk1 : kd (40, u, 1) = some (.inr (9, 0))) (c : Int32) (h0 : 0 ≤ c) (h1 : c ≤ 255) : am_Met l mJ1_indexOfChar_4cfef (am_rm 0 0 0) [am_P (40, u, 1), am_I c, am_I 0, am_I 3] kd rv iv (am_ret (some (am_I (sx_ix u c))) kd rv iv) := by
  refine am_Met.of (by decide) (Nat.le_of_ble_eq_true rfl) rfl ?_
  refine A_iload_n (pc := 0) (i := 1) dJ1_indexOfChar_4cfef_0 rfl rfl ?_
  refine A_i2b (pc := 1) dJ1_indexOfChar_4cfef_1 ?_
  refine A_ist4 (pc := 2) dJ1_indexOfChar_4cfef_2 (Nat.le_of_ble_eq_true rfl) rfl ?_
  refine A_iload_n (pc := 4) (i := 2) dJ1_indexOfChar_4cfef_4 rfl rfl ?_
  refine A_ist5 (pc := 5) dJ1_indexOfChar_4cfef_5 (Nat.le_of_ble_eq_true rfl) rfl ?_
  refine A_iload (pc := 7) (i := 5) dJ1_indexOfChar_4cfef_7 rfl ?_
  refine A_iload_n (pc := 9) (i := 3) dJ1_indexOfChar_4cfef_9 rfl rfl ?_
  refine A_icmpge (pc := 10) 31 dJ1_indexOfChar_4cfef_10 (by decide) (fun hb10 => ?_) (fun hb10 => ?_)
  · exact absurd hb10 (by decide)
  · refine A_aload_n (pc := 13) (i := 0) dJ1_indexOfChar_4cfef_13 rfl rfl ?_
    refine A_iload (pc := 14) (i := 5) dJ1_indexOfChar_4cfef_14 rfl ?_
    refine A_baldS (pc := 16) hu hk1 (v := sx_c u 0) (by unfold vp_in; decide) rfl dJ1_indexOfChar_4cfef_16 ?_
    refine A_iload (pc := 17) (i := 4) dJ1_indexOfChar_4cfef_17 rfl ?_
    refine A_icmpne (pc := 19) 25 dJ1_indexOfChar_4cfef_19 (by decide) (fun hb19 => ?_) (fun hb19 => ?_)
    · have n0 := fun h => hb19 ((sx_b hu (k := 0) (by decide) h0 h1).mpr h)
      refine A_inc5 (pc := 25) (1) dJ1_indexOfChar_4cfef_25 (by decide) (Nat.le_of_ble_eq_true rfl) rfl ?_
      refine A_goto (pc := 28) 7 dJ1_indexOfChar_4cfef_28 (by decide) ?_
      refine A_iload (pc := 7) (i := 5) dJ1_indexOfChar_4cfef_7 rfl ?_
      refine A_iload_n (pc := 9) (i := 3) dJ1_indexOfChar_4cfef_9 rfl rfl ?_
      refine A_icmpge (pc := 10) 31 dJ1_indexOfChar_4cfef_10 (by decide) (fun hb10 => ?_) (fun hb10 => ?_)
      · exact absurd hb10 (by decide)
      · refine A_aload_n (pc := 13) (i := 0) dJ1_indexOfChar_4cfef_13 rfl rfl ?_
        refine A_iload (pc := 14) (i := 5) dJ1_indexOfChar_4cfef_14 rfl ?_
        refine A_baldS (pc := 16) hu hk1 (v := sx_c u 1) (by unfold vp_in; decide) rfl dJ1_indexOfChar_4cfef_16 ?_
        refine A_iload (pc := 17) (i := 4) dJ1_indexOfChar_4cfef_17 rfl ?_
        refine A_icmpne (pc := 19) 25 dJ1_indexOfChar_4cfef_19 (by decide) (fun hb19 => ?_) (fun hb19 => ?_)
        · have n1 := fun h => hb19 ((sx_b hu (k := 1) (by decide) h0 h1).mpr h)
          refine A_inc5 (pc := 25) (2) dJ1_indexOfChar_4cfef_25 (by decide) (Nat.le_of_ble_eq_true rfl) rfl ?_
          refine A_goto (pc := 28) 7 dJ1_indexOfChar_4cfef_28 (by decide) ?_
          refine A_iload (pc := 7) (i := 5) dJ1_indexOfChar_4cfef_7 rfl ?_
          refine A_iload_n (pc := 9) (i := 3) dJ1_indexOfChar_4cfef_9 rfl rfl ?_
          refine A_icmpge (pc := 10) 31 dJ1_indexOfChar_4cfef_10 (by decide) (fun hb10 => ?_) (fun hb10 => ?_)
          · exact absurd hb10 (by decide)
          · refine A_aload_n (pc := 13) (i := 0) dJ1_indexOfChar_4cfef_13 rfl rfl ?_
            refine A_iload (pc := 14) (i := 5) dJ1_indexOfChar_4cfef_14 rfl ?_
            refine A_baldS (pc := 16) hu hk1 (v := sx_c u 2) (by unfold vp_in; decide) rfl dJ1_indexOfChar_4cfef_16 ?_
            refine A_iload (pc := 17) (i := 4) dJ1_indexOfChar_4cfef_17 rfl ?_
            refine A_icmpne (pc := 19) 25 dJ1_indexOfChar_4cfef_19 (by decide) (fun hb19 => ?_) (fun hb19 => ?_)
            · have n2 := fun h => hb19 ((sx_b hu (k := 2) (by decide) h0 h1).mpr h)
              refine A_inc5 (pc := 25) (3) dJ1_indexOfChar_4cfef_25 (by decide) (Nat.le_of_ble_eq_true rfl) rfl ?_
              refine A_goto (pc := 28) 7 dJ1_indexOfChar_4cfef_28 (by decide) ?_
              refine A_iload (pc := 7) (i := 5) dJ1_indexOfChar_4cfef_7 rfl ?_
              refine A_iload_n (pc := 9) (i := 3) dJ1_indexOfChar_4cfef_9 rfl rfl ?_
              refine A_icmpge (pc := 10) 31 dJ1_indexOfChar_4cfef_10 (by decide) (fun hb10 => ?_) (fun hb10 => ?_)
              · refine A_iconst (pc := 31) (-1) dJ1_indexOfChar_4cfef_31 (by decide) ?_
                exact A_iretE (pc := 32) dJ1_indexOfChar_4cfef_32 rfl (Nat.zero_le _) (Nat.zero_le _) (by rw [sx_ix, if_neg n0, if_neg n1, if_neg n2]) (rfl)
              · exact absurd (by decide) hb10
            · have m2 := (sx_b hu (k := 2) (by decide) h0 h1).mp hb19
              refine A_iload (pc := 22) (i := 5) dJ1_indexOfChar_4cfef_22 rfl ?_
              exact A_iretE (pc := 24) dJ1_indexOfChar_4cfef_24 rfl (Nat.zero_le _) (Nat.zero_le _) (by rw [sx_ix, if_neg n0, if_neg n1, if_pos m2]) (rfl)
        · have m1 := (sx_b hu (k := 1) (by decide) h0 h1).mp hb19
          refine A_iload (pc := 22) (i := 5) dJ1_indexOfChar_4cfef_22 rfl ?_
          exact A_iretE (pc := 24) dJ1_indexOfChar_4cfef_24 rfl (Nat.zero_le _) (Nat.zero_le _) (by rw [sx_ix, if_neg n0, if_pos m1]) (rfl)
    · have m0 := (sx_b hu (k := 0) (by decide) h0 h1).mp hb19
      refine A_iload (pc := 22) (i := 5) dJ1_indexOfChar_4cfef_22 rfl ?_
      exact A_iretE (pc := 24) dJ1_indexOfChar_4cfef_24 rfl (Nat.zero_le _) (Nat.zero_le _) (by rw [sx_ix, if_pos m0]) (rfl)
set_option maxRecDepth 20000 in
theorem s_ixL (l : Launch) {kd : am_kd} {rv : am_rv} {iv : am_iv} (u : Nat) (hu : u < 2) (hk0 : kd (40, u, 0) = some (.inr (9, 0))) (hk1 : kd (40, u, 1) = some (.inr (9, 0))) (c : Int32) : am_Met l mJ1_indexOf_4cfef (am_rm 1 0 0) [am_P (40, u, 1), am_I c, am_I 0, am_I 3] kd rv iv (am_ret (some (am_I (sx_ix u c))) kd rv iv) := by
  refine am_Met.of (by decide) (Nat.le_of_ble_eq_true rfl) rfl ?_
  refine A_iload_n (pc := 0) (i := 1) dJ1_indexOf_4cfef_0 rfl rfl ?_
  refine A_callS1 (pc := 1) cs_J1_88 (s_canEncode l c) rfl rfl (Nat.le_of_ble_eq_true rfl) ⟨(Nat.le_of_ble_eq_true rfl), (Nat.le_of_ble_eq_true rfl)⟩ ⟨Nat.zero_le _, Nat.zero_le _⟩ dJ1_indexOf_4cfef_1 ?_
  refine A_ifne (pc := 4) 9 dJ1_indexOf_4cfef_4 (by decide) (fun hb4 => ?_) (fun hb4 => ?_)
  · have hc : 0 ≤ c ∧ c ≤ 255 := Classical.not_not.mp (fun h => hb4 (if_neg h))
    refine A_iload_n (pc := 9) (i := 2) dJ1_indexOf_4cfef_9 rfl rfl ?_
    refine A_iconst (pc := 10) (0) dJ1_indexOf_4cfef_10 (by decide) ?_
    refine A_mmax (pc := 11) cs_J1_92.2.1 (Nat.le_of_ble_eq_true rfl) (Nat.le_of_ble_eq_true rfl) (Nat.zero_le _) (Nat.zero_le _) dJ1_indexOf_4cfef_11 ?_
    refine A_top (y := 0) (by decide) ?_
    refine A_ist2 (pc := 14) dJ1_indexOf_4cfef_14 (Nat.le_of_ble_eq_true rfl) rfl ?_
    refine A_iload_n (pc := 15) (i := 3) dJ1_indexOf_4cfef_15 rfl rfl ?_
    refine A_aload_n (pc := 16) (i := 0) dJ1_indexOf_4cfef_16 rfl rfl ?_
    refine A_alenS (pc := 17) hu hk1 dJ1_indexOf_4cfef_17 ?_
    refine A_mmin (pc := 18) cs_J1_38.2.1 (Nat.le_of_ble_eq_true rfl) (Nat.le_of_ble_eq_true rfl) (Nat.zero_le _) (Nat.zero_le _) dJ1_indexOf_4cfef_18 ?_
    refine A_top (y := 3) (by decide) ?_
    refine A_ist3 (pc := 21) dJ1_indexOf_4cfef_21 (Nat.le_of_ble_eq_true rfl) rfl ?_
    refine A_iload_n (pc := 22) (i := 2) dJ1_indexOf_4cfef_22 rfl rfl ?_
    refine A_iload_n (pc := 23) (i := 3) dJ1_indexOf_4cfef_23 rfl rfl ?_
    refine A_icmplt (pc := 24) 29 dJ1_indexOf_4cfef_24 (by decide) (fun hb24 => ?_) (fun hb24 => ?_)
    · refine A_aload_n (pc := 29) (i := 0) dJ1_indexOf_4cfef_29 rfl rfl ?_
      refine A_iload_n (pc := 30) (i := 1) dJ1_indexOf_4cfef_30 rfl rfl ?_
      refine A_iload_n (pc := 31) (i := 2) dJ1_indexOf_4cfef_31 rfl rfl ?_
      refine A_iload_n (pc := 32) (i := 3) dJ1_indexOf_4cfef_32 rfl rfl ?_
      refine A_callS1 (pc := 33) cs_J1_95 (s_ixChar l u hu hk0 hk1 c hc.1 hc.2) rfl rfl (Nat.le_of_ble_eq_true rfl) ⟨(Nat.le_of_ble_eq_true rfl), (Nat.le_of_ble_eq_true rfl)⟩ ⟨Nat.zero_le _, Nat.zero_le _⟩ dJ1_indexOf_4cfef_33 ?_
      exact A_iretE (pc := 36) dJ1_indexOf_4cfef_36 rfl (Nat.zero_le _) (Nat.zero_le _) (rfl) (rfl)
    · exact absurd (by decide) hb24
  · refine A_iconst (pc := 7) (-1) dJ1_indexOf_4cfef_7 (by decide) ?_
    exact A_iretE (pc := 8) dJ1_indexOf_4cfef_8 rfl (Nat.zero_le _) (Nat.zero_le _) ((sx_out hu (fun h => by rw [if_pos h] at hb4; exact absurd hb4 (by decide))).symm) (rfl)
set_option maxRecDepth 20000 in
theorem s_ix2 (l : Launch) {kd : am_kd} {rv : am_rv} {iv : am_iv} (u : Nat) (hu : u < 2) (hk0 : kd (40, u, 0) = some (.inr (9, 0))) (hk1 : kd (40, u, 1) = some (.inr (9, 0))) (c : Int32) : am_Met l mJ0_indexOf_7cf53 (am_rm 2 0 0) [am_P (40, u, 0), am_I c, am_I 0] kd rv iv (am_ret (some (am_I (sx_ix u c))) kd rv iv) := by
  refine am_Met.of (by decide) (Nat.le_of_ble_eq_true rfl) rfl ?_
  refine A_aload_n (pc := 0) (i := 0) dJ0_indexOf_7cf53_0 rfl rfl ?_
  refine A_callT1 (pc := 1) cv_J0_492 (s_isLatin1 l u hu hk0 hk1) hu hk0 rfl rfl rfl (Nat.le_of_ble_eq_true rfl) ⟨(Nat.le_of_ble_eq_true rfl), (Nat.le_of_ble_eq_true rfl)⟩ ⟨Nat.zero_le _, Nat.zero_le _⟩ dJ0_indexOf_7cf53_1 ?_
  refine A_ifeq (pc := 4) 23 dJ0_indexOf_7cf53_4 (by decide) (fun hb4 => ?_) (fun hb4 => ?_)
  · exact absurd hb4 (by decide)
  · refine A_aload_n (pc := 7) (i := 0) dJ0_indexOf_7cf53_7 rfl rfl ?_
    refine A_getSv (pc := 8) hu hk0 hk1 sx_gv dJ0_indexOf_7cf53_8 ?_
    refine A_iload_n (pc := 11) (i := 1) dJ0_indexOf_7cf53_11 rfl rfl ?_
    refine A_iload_n (pc := 12) (i := 2) dJ0_indexOf_7cf53_12 rfl rfl ?_
    refine A_aload_n (pc := 13) (i := 0) dJ0_indexOf_7cf53_13 rfl rfl ?_
    refine A_callT1 (pc := 14) cv_J0_505 (s_strlen l u hu hk0 hk1) hu hk0 rfl rfl rfl (Nat.le_of_ble_eq_true rfl) ⟨(Nat.le_of_ble_eq_true rfl), (Nat.le_of_ble_eq_true rfl)⟩ ⟨Nat.zero_le _, Nat.zero_le _⟩ dJ0_indexOf_7cf53_14 ?_
    refine A_callS1 (pc := 17) cs_J0_637 (s_ixL l u hu hk0 hk1 c) rfl rfl (Nat.le_of_ble_eq_true rfl) ⟨(Nat.le_of_ble_eq_true rfl), (Nat.le_of_ble_eq_true rfl)⟩ ⟨Nat.zero_le _, Nat.zero_le _⟩ dJ0_indexOf_7cf53_17 ?_
    refine A_goto (pc := 20) 36 dJ0_indexOf_7cf53_20 (by decide) ?_
    exact A_iretE (pc := 36) dJ0_indexOf_7cf53_36 rfl (Nat.zero_le _) (Nat.zero_le _) (rfl) (rfl)
set_option maxRecDepth 20000 in
theorem s_indexOf (l : Launch) {kd : am_kd} {rv : am_rv} {iv : am_iv} (u : Nat) (hu : u < 2) (hk0 : kd (40, u, 0) = some (.inr (9, 0))) (hk1 : kd (40, u, 1) = some (.inr (9, 0))) (c : Int32) : am_Met l mJ0_indexOf_0f7a4 (am_rm 3 0 0) [am_P (40, u, 0), am_I c] kd rv iv (am_ret (some (am_I (sx_ix u c))) kd rv iv) := by
  refine am_Met.of (by decide) (Nat.le_of_ble_eq_true rfl) rfl ?_
  refine A_aload_n (pc := 0) (i := 0) dJ0_indexOf_0f7a4_0 rfl rfl ?_
  refine A_iload_n (pc := 1) (i := 1) dJ0_indexOf_0f7a4_1 rfl rfl ?_
  refine A_iconst (pc := 2) (0) dJ0_indexOf_0f7a4_2 (by decide) ?_
  refine A_callT1 (pc := 3) cv_J0_633 (s_ix2 l u hu hk0 hk1 c) hu hk0 rfl rfl rfl (Nat.le_of_ble_eq_true rfl) ⟨(Nat.le_of_ble_eq_true rfl), (Nat.le_of_ble_eq_true rfl)⟩ ⟨Nat.zero_le _, Nat.zero_le _⟩ dJ0_indexOf_0f7a4_3 ?_
  exact A_iretE (pc := 6) dJ0_indexOf_0f7a4_6 rfl (Nat.zero_le _) (Nat.zero_le _) (rfl) (rfl)
