section AI
variable {l : Launch} {M : am_M} {R : Room} {post : am_Post} {pc : Nat} {ls : List (Option am_V)} {st : List am_V} {kd : am_kd} {rv : am_rv} {iv : am_iv} {cu su : Nat}
theorem A_callI0 {y : MethodName} {cc : ByteArray} {mL d : Nat} {idx n : Nat} {o : am_N} {av rest : List am_V} {kd1 : am_kd} {rv1 : am_rv} {iv1 : am_iv} (hC : am_CI M.1.cls idx (y, cc, mL, none) n) (hM : am_Met l (y, cc, mL, none) (am_rm d 0 0) (am_P o :: av) kd rv iv (am_ret none kd1 rv1 iv1)) (hn : av.length = n) (hst : av.reverse ++ am_P o :: rest = st) (hw : am_wt rest ≤ 8) (hroom : d + 1 ≤ R.frames ∧ 8 + (mL + 11) + 60 * d ≤ R.locals) (hcs : cu ≤ R.cells ∧ su ≤ R.slots) (hd : decode M.2.1 pc = .ok (.invokespecial idx, 3)) (k : am_W l M R post (pc + 3) ls rest kd1 rv1 iv1 cu su) : am_W l M R post pc ls st kd rv iv cu su := by
  refine A_callI hC hM hn hst hw hroom hcs hd (fun v9 kd9 rv9 iv9 h9 => ?_)
  obtain ⟨e1, e2, e3, e4⟩ := h9
  subst e1; subst e2; subst e3; subst e4
  exact k
theorem A_aretE {n : am_N} {iv' : am_iv} {C0 : String} (hd : decode M.2.1 pc = .ok (.areturn, 1)) (hret : M.2.2.2 = some (.object C0)) (hc : cu ≤ R.cells) (hs : su ≤ R.slots) (hi : iv = iv') : am_W l M R (am_ret (some (am_P n)) kd rv iv') pc ls [am_P n] kd rv iv cu su := A_aret (o := some n) hd hret hc hs ⟨rfl, rfl, rfl, hi⟩
end AI
theorem am_uk_s {kd : am_kd} {n : am_N} {K : am_K} : am_uk kd n K n = some K := by simp [am_uk]
theorem am_uk_o {kd : am_kd} {n n' : am_N} {K : am_K} (h : n' ≠ n) : am_uk kd n K n' = kd n' := by simp [am_uk, h]
theorem sh.uk {kd : am_kd} {rv : am_rv} (h : sh kd rv) {n : am_N} (hn : 22 ≤ n.1) (K : am_K) : sh (am_uk kd n K) rv := by
  have e : ∀ a b c : Nat, a < 22 → am_uk kd n K (a, b, c) = kd (a, b, c) := fun a b c ha => am_uk_o (fun e => by rw [← e] at hn; simp at hn; omega)
  refine ⟨?_, ?_, ?_, ?_, ?_, ?_, ?_, ?_, ?_, ?_, ?_, ?_, ?_, ?_, ?_, ?_, ?_, ?_, ?_, ?_, ?_, h.2.2.2.2.2.2.2.2.2.2.2.2.2.2.2.2.2.2.2.2.2⟩
  · exact (e _ _ _ (by decide)).trans h.k1
  · intro i hi; exact (e _ _ _ (by decide)).trans (h.k2 hi)
  · intro i hi; exact (e _ _ _ (by decide)).trans (h.k3 hi)
  · intro i k hi hk; exact (e _ _ _ (by decide)).trans (h.k4 hi hk)
  · intro i hi; exact (e _ _ _ (by decide)).trans (h.k5 hi)
  · intro i k hi hk; exact (e _ _ _ (by decide)).trans (h.k6 hi hk)
  · intro i hi; exact (e _ _ _ (by decide)).trans (h.k7 hi)
  · intro i hi; exact (e _ _ _ (by decide)).trans (h.k8 hi)
  · intro i k hi; exact (e _ _ _ (by decide)).trans (h.k9 hi)
  · intro i k hi; exact (e _ _ _ (by decide)).trans (h.k10 hi)
  · intro i k hi; exact (e _ _ _ (by decide)).trans (h.k11 hi)
  · intro i hi; exact (e _ _ _ (by decide)).trans (h.k12 hi)
  · intro i hi; exact (e _ _ _ (by decide)).trans (h.k13 hi)
  · intro i hi; exact (e _ _ _ (by decide)).trans (h.k14 hi)
  · intro i hi; exact (e _ _ _ (by decide)).trans (h.k15 hi)
  · exact (e _ _ _ (by decide)).trans h.k16
  · intro i hi; exact (e _ _ _ (by decide)).trans (h.k17 hi)
  · intro i hi; exact (e _ _ _ (by decide)).trans (h.k18 hi)
  · exact (e _ _ _ (by decide)).trans h.k19
  · exact (e _ _ _ (by decide)).trans h.k20
  · exact (e _ _ _ (by decide)).trans h.k21
def mk_iv (n : am_N) (K j m : Int32) (iv : am_iv) : am_iv := am_ui (am_ui (am_ui iv n 0 K) n 1 j) n 2 m
set_option maxRecDepth 20000 in
theorem s_ni8 (l : Launch) {kd : am_kd} {rv : am_rv} {iv : am_iv} (n : am_N) (hk : kd n = some (.inl 8)) (j m : Int32) : am_Met l mX8_init (am_rm 2 0 0) [am_P n, am_I j, am_I m] kd rv iv (am_ret none kd rv (mk_iv n 1 j m iv)) := by
  refine am_Met.of (by decide) (Nat.le_of_ble_eq_true rfl) rfl ?_
  refine A_aload_n (pc := 0) (i := 0) dX8_init_0 rfl rfl ?_
  refine A_iconst (pc := 1) (1) dX8_init_1 (by decide) ?_
  refine A_iload_n (pc := 2) (i := 1) dX8_init_2 rfl rfl ?_
  refine A_iload_n (pc := 3) (i := 2) dX8_init_3 rfl rfl ?_
  refine A_callI0 (pc := 4) ci_X8_3 (s_li_8 l n hk _ _ _) rfl rfl (Nat.le_of_ble_eq_true rfl) ⟨(Nat.le_of_ble_eq_true rfl), (Nat.le_of_ble_eq_true rfl)⟩ ⟨Nat.zero_le _, Nat.zero_le _⟩ dX8_init_4 ?_
  exact A_vretE (pc := 7) dX8_init_7 rfl (Nat.zero_le _) (Nat.zero_le _) (rfl)
set_option maxRecDepth 20000 in
theorem s_ni1 (l : Launch) {kd : am_kd} {rv : am_rv} {iv : am_iv} (n : am_N) (hk : kd n = some (.inl 1)) (j m : Int32) : am_Met l mX1_init (am_rm 2 0 0) [am_P n, am_I j, am_I m] kd rv iv (am_ret none kd rv (mk_iv n 2 j m iv)) := by
  refine am_Met.of (by decide) (Nat.le_of_ble_eq_true rfl) rfl ?_
  refine A_aload_n (pc := 0) (i := 0) dX1_init_0 rfl rfl ?_
  refine A_iconst (pc := 1) (2) dX1_init_1 (by decide) ?_
  refine A_iload_n (pc := 2) (i := 1) dX1_init_2 rfl rfl ?_
  refine A_iload_n (pc := 3) (i := 2) dX1_init_3 rfl rfl ?_
  refine A_callI0 (pc := 4) ci_X1_3 (s_li_1 l n hk _ _ _) rfl rfl (Nat.le_of_ble_eq_true rfl) ⟨(Nat.le_of_ble_eq_true rfl), (Nat.le_of_ble_eq_true rfl)⟩ ⟨Nat.zero_le _, Nat.zero_le _⟩ dX1_init_4 ?_
  exact A_vretE (pc := 7) dX1_init_7 rfl (Nat.zero_le _) (Nat.zero_le _) (rfl)
set_option maxRecDepth 20000 in
theorem s_ni0 (l : Launch) {kd : am_kd} {rv : am_rv} {iv : am_iv} (n : am_N) (hk : kd n = some (.inl 0)) (k j m : Int32) : am_Met l mX0_init (am_rm 2 0 0) [am_P n, am_I k, am_I j, am_I m] kd rv iv (am_ret none kd rv (mk_iv n k j m iv)) := by
  refine am_Met.of (by decide) (Nat.le_of_ble_eq_true rfl) rfl ?_
  refine A_aload_n (pc := 0) (i := 0) dX0_init_0 rfl rfl ?_
  refine A_iload_n (pc := 1) (i := 1) dX0_init_1 rfl rfl ?_
  refine A_iload_n (pc := 2) (i := 2) dX0_init_2 rfl rfl ?_
  refine A_iload_n (pc := 3) (i := 3) dX0_init_3 rfl rfl ?_
  refine A_callI0 (pc := 4) ci_X0_1 (s_li_0 l n hk _ _ _) rfl rfl (Nat.le_of_ble_eq_true rfl) ⟨(Nat.le_of_ble_eq_true rfl), (Nat.le_of_ble_eq_true rfl)⟩ ⟨Nat.zero_le _, Nat.zero_le _⟩ dX0_init_4 ?_
  exact A_vretE (pc := 7) dX0_init_7 rfl (Nat.zero_le _) (Nat.zero_le _) (rfl)
set_option maxRecDepth 20000 in
theorem s_ni0_9 (l : Launch) {kd : am_kd} {rv : am_rv} {iv : am_iv} (n : am_N) (hk : kd n = some (.inl 9)) (k j m : Int32) : am_Met l mX0_init (am_rm 2 0 0) [am_P n, am_I k, am_I j, am_I m] kd rv iv (am_ret none kd rv (mk_iv n k j m iv)) := by
  refine am_Met.of (by decide) (Nat.le_of_ble_eq_true rfl) rfl ?_
  refine A_aload_n (pc := 0) (i := 0) dX0_init_0 rfl rfl ?_
  refine A_iload_n (pc := 1) (i := 1) dX0_init_1 rfl rfl ?_
  refine A_iload_n (pc := 2) (i := 2) dX0_init_2 rfl rfl ?_
  refine A_iload_n (pc := 3) (i := 3) dX0_init_3 rfl rfl ?_
  refine A_callI0 (pc := 4) ci_X0_1 (s_li_9 l n hk _ _ _) rfl rfl (Nat.le_of_ble_eq_true rfl) ⟨(Nat.le_of_ble_eq_true rfl), (Nat.le_of_ble_eq_true rfl)⟩ ⟨Nat.zero_le _, Nat.zero_le _⟩ dX0_init_4 ?_
  exact A_vretE (pc := 7) dX0_init_7 rfl (Nat.zero_le _) (Nat.zero_le _) (rfl)
set_option maxRecDepth 20000 in
theorem s_ni9 (l : Launch) {kd : am_kd} {rv : am_rv} {iv : am_iv} (n : am_N) (hk : kd n = some (.inl 9)) (j m : Int32) : am_Met l mX9_init (am_rm 3 0 0) [am_P n, am_I j, am_I m] kd rv iv (am_ret none kd rv (mk_iv n 4 j m iv)) := by
  refine am_Met.of (by decide) (Nat.le_of_ble_eq_true rfl) rfl ?_
  refine A_aload_n (pc := 0) (i := 0) dX9_init_0 rfl rfl ?_
  refine A_iconst (pc := 1) (4) dX9_init_1 (by decide) ?_
  refine A_iload_n (pc := 2) (i := 1) dX9_init_2 rfl rfl ?_
  refine A_iload_n (pc := 3) (i := 2) dX9_init_3 rfl rfl ?_
  refine A_callI0 (pc := 4) ci_X9_3 (s_ni0_9 l n hk _ _ _) rfl rfl (Nat.le_of_ble_eq_true rfl) ⟨(Nat.le_of_ble_eq_true rfl), (Nat.le_of_ble_eq_true rfl)⟩ ⟨Nat.zero_le _, Nat.zero_le _⟩ dX9_init_4 ?_
  exact A_vretE (pc := 7) dX9_init_7 rfl (Nat.zero_le _) (Nat.zero_le _) (rfl)
set_option maxRecDepth 20000 in
theorem s_ni10 (l : Launch) {kd : am_kd} {rv : am_rv} {iv : am_iv} (n : am_N) (hk : kd n = some (.inl 10)) (k j m : Int32) : am_Met l mX10_init (am_rm 2 0 0) [am_P n, am_I k, am_I j, am_I m] kd rv iv (am_ret none kd rv (mk_iv n k j m iv)) := by
  refine am_Met.of (by decide) (Nat.le_of_ble_eq_true rfl) rfl ?_
  refine A_aload_n (pc := 0) (i := 0) dX10_init_0 rfl rfl ?_
  refine A_iload_n (pc := 1) (i := 1) dX10_init_1 rfl rfl ?_
  refine A_iload_n (pc := 2) (i := 2) dX10_init_2 rfl rfl ?_
  refine A_iload_n (pc := 3) (i := 3) dX10_init_3 rfl rfl ?_
  refine A_callI0 (pc := 4) ci_X10_1 (s_li_10 l n hk _ _ _) rfl rfl (Nat.le_of_ble_eq_true rfl) ⟨(Nat.le_of_ble_eq_true rfl), (Nat.le_of_ble_eq_true rfl)⟩ ⟨Nat.zero_le _, Nat.zero_le _⟩ dX10_init_4 ?_
  exact A_vretE (pc := 7) dX10_init_7 rfl (Nat.zero_le _) (Nat.zero_le _) (rfl)
set_option maxRecDepth 20000 in
theorem s_ni10_6 (l : Launch) {kd : am_kd} {rv : am_rv} {iv : am_iv} (n : am_N) (hk : kd n = some (.inl 6)) (k j m : Int32) : am_Met l mX10_init (am_rm 2 0 0) [am_P n, am_I k, am_I j, am_I m] kd rv iv (am_ret none kd rv (mk_iv n k j m iv)) := by
  refine am_Met.of (by decide) (Nat.le_of_ble_eq_true rfl) rfl ?_
  refine A_aload_n (pc := 0) (i := 0) dX10_init_0 rfl rfl ?_
  refine A_iload_n (pc := 1) (i := 1) dX10_init_1 rfl rfl ?_
  refine A_iload_n (pc := 2) (i := 2) dX10_init_2 rfl rfl ?_
  refine A_iload_n (pc := 3) (i := 3) dX10_init_3 rfl rfl ?_
  refine A_callI0 (pc := 4) ci_X10_1 (s_li_6 l n hk _ _ _) rfl rfl (Nat.le_of_ble_eq_true rfl) ⟨(Nat.le_of_ble_eq_true rfl), (Nat.le_of_ble_eq_true rfl)⟩ ⟨Nat.zero_le _, Nat.zero_le _⟩ dX10_init_4 ?_
  exact A_vretE (pc := 7) dX10_init_7 rfl (Nat.zero_le _) (Nat.zero_le _) (rfl)
set_option maxRecDepth 20000 in
theorem s_ni6 (l : Launch) {kd : am_kd} {rv : am_rv} {iv : am_iv} (n : am_N) (hk : kd n = some (.inl 6)) (j m : Int32) : am_Met l mX6_init (am_rm 3 0 0) [am_P n, am_I j, am_I m] kd rv iv (am_ret none kd rv (mk_iv n 6 j m iv)) := by
  refine am_Met.of (by decide) (Nat.le_of_ble_eq_true rfl) rfl ?_
  refine A_aload_n (pc := 0) (i := 0) dX6_init_0 rfl rfl ?_
  refine A_bipush (pc := 1) (6) dX6_init_1 (by decide) ?_
  refine A_iload_n (pc := 3) (i := 1) dX6_init_3 rfl rfl ?_
  refine A_iload_n (pc := 4) (i := 2) dX6_init_4 rfl rfl ?_
  refine A_callI0 (pc := 5) ci_X6_3 (s_ni10_6 l n hk _ _ _) rfl rfl (Nat.le_of_ble_eq_true rfl) ⟨(Nat.le_of_ble_eq_true rfl), (Nat.le_of_ble_eq_true rfl)⟩ ⟨Nat.zero_le _, Nat.zero_le _⟩ dX6_init_5 ?_
  exact A_vretE (pc := 8) dX6_init_8 rfl (Nat.zero_le _) (Nat.zero_le _) (rfl)
set_option maxRecDepth 20000 in
theorem s_mk0 (l : Launch) {kd : am_kd} {rv : am_rv} {iv : am_iv} (n : am_N) (hk : kd n = none) (ht : n.1 < 40) (hi0 : ∀ k, iv n k = 0) (hr0 : ∀ k, rv n k = none) (j m : Int32) : am_Met l mX11_makeLaw (am_rm 4 1 3) [am_I 0, am_I j, am_I m] kd rv iv (am_ret (some (am_P n)) (am_uk kd n (.inl 2)) rv (mk_iv n 0 j m iv)) := by
  refine am_Met.of (by decide) (Nat.le_of_ble_eq_true rfl) rfl ?_
  refine A_iload_n (pc := 0) (i := 0) dX11_makeLaw_0 rfl rfl ?_
  refine A_tableOut (pc := 1) 102 dX11_makeLaw_1 (by decide) (by decide) ?_
  refine A_new (pc := 102) n (ci := 2) (r := (RX2, TX2, 3)) rfl cl_X11_117 cz_2 cy_2 hk ht hi0 hr0 (by decide) (by decide) dX11_makeLaw_102 ?_
  refine A_dup (pc := 105) dX11_makeLaw_105 rfl ?_
  refine A_iconst (pc := 106) (0) dX11_makeLaw_106 (by decide) ?_
  refine A_iload_n (pc := 107) (i := 1) dX11_makeLaw_107 rfl rfl ?_
  refine A_iload_n (pc := 108) (i := 2) dX11_makeLaw_108 rfl rfl ?_
  refine A_callI0 (pc := 109) ci_X11_356 (s_li_2 l n am_uk_s _ _ _) rfl rfl (Nat.le_of_ble_eq_true rfl) ⟨(Nat.le_of_ble_eq_true rfl), (Nat.le_of_ble_eq_true rfl)⟩ ⟨by decide, by decide⟩ dX11_makeLaw_109 ?_
  exact A_aretE (pc := 112) dX11_makeLaw_112 rfl (by decide) (by decide) rfl
set_option maxRecDepth 20000 in
theorem s_mk1 (l : Launch) {kd : am_kd} {rv : am_rv} {iv : am_iv} (n : am_N) (hk : kd n = none) (ht : n.1 < 40) (hi0 : ∀ k, iv n k = 0) (hr0 : ∀ k, rv n k = none) (j m : Int32) : am_Met l mX11_makeLaw (am_rm 4 1 3) [am_I 1, am_I j, am_I m] kd rv iv (am_ret (some (am_P n)) (am_uk kd n (.inl 8)) rv (mk_iv n 1 j m iv)) := by
  refine am_Met.of (by decide) (Nat.le_of_ble_eq_true rfl) rfl ?_
  refine A_iload_n (pc := 0) (i := 0) dX11_makeLaw_0 rfl rfl ?_
  refine A_tableIn (pc := 1) (off := 39) 40 dX11_makeLaw_1 (by decide) (by decide) (by decide) (by decide) ?_
  refine A_new (pc := 40) n (ci := 8) (r := (RX8, TX8, 3)) rfl cl_X11_335 cz_8 cy_8 hk ht hi0 hr0 (by decide) (by decide) dX11_makeLaw_40 ?_
  refine A_dup (pc := 43) dX11_makeLaw_43 rfl ?_
  refine A_iload_n (pc := 44) (i := 1) dX11_makeLaw_44 rfl rfl ?_
  refine A_iload_n (pc := 45) (i := 2) dX11_makeLaw_45 rfl rfl ?_
  refine A_callI0 (pc := 46) ci_X11_337 (s_ni8 l n am_uk_s _ _) rfl rfl (Nat.le_of_ble_eq_true rfl) ⟨(Nat.le_of_ble_eq_true rfl), (Nat.le_of_ble_eq_true rfl)⟩ ⟨by decide, by decide⟩ dX11_makeLaw_46 ?_
  exact A_aretE (pc := 49) dX11_makeLaw_49 rfl (by decide) (by decide) rfl
set_option maxRecDepth 20000 in
theorem s_mk2 (l : Launch) {kd : am_kd} {rv : am_rv} {iv : am_iv} (n : am_N) (hk : kd n = none) (ht : n.1 < 40) (hi0 : ∀ k, iv n k = 0) (hr0 : ∀ k, rv n k = none) (j m : Int32) : am_Met l mX11_makeLaw (am_rm 4 1 3) [am_I 2, am_I j, am_I m] kd rv iv (am_ret (some (am_P n)) (am_uk kd n (.inl 1)) rv (mk_iv n 2 j m iv)) := by
  refine am_Met.of (by decide) (Nat.le_of_ble_eq_true rfl) rfl ?_
  refine A_iload_n (pc := 0) (i := 0) dX11_makeLaw_0 rfl rfl ?_
  refine A_tableIn (pc := 1) (off := 49) 50 dX11_makeLaw_1 (by decide) (by decide) (by decide) (by decide) ?_
  refine A_new (pc := 50) n (ci := 1) (r := (RX1, TX1, 3)) rfl cl_X11_339 cz_1 cy_1 hk ht hi0 hr0 (by decide) (by decide) dX11_makeLaw_50 ?_
  refine A_dup (pc := 53) dX11_makeLaw_53 rfl ?_
  refine A_iload_n (pc := 54) (i := 1) dX11_makeLaw_54 rfl rfl ?_
  refine A_iload_n (pc := 55) (i := 2) dX11_makeLaw_55 rfl rfl ?_
  refine A_callI0 (pc := 56) ci_X11_341 (s_ni1 l n am_uk_s _ _) rfl rfl (Nat.le_of_ble_eq_true rfl) ⟨(Nat.le_of_ble_eq_true rfl), (Nat.le_of_ble_eq_true rfl)⟩ ⟨by decide, by decide⟩ dX11_makeLaw_56 ?_
  exact A_aretE (pc := 59) dX11_makeLaw_59 rfl (by decide) (by decide) rfl
set_option maxRecDepth 20000 in
theorem s_mk3 (l : Launch) {kd : am_kd} {rv : am_rv} {iv : am_iv} (n : am_N) (hk : kd n = none) (ht : n.1 < 40) (hi0 : ∀ k, iv n k = 0) (hr0 : ∀ k, rv n k = none) (j m : Int32) : am_Met l mX11_makeLaw (am_rm 4 1 3) [am_I 3, am_I j, am_I m] kd rv iv (am_ret (some (am_P n)) (am_uk kd n (.inl 0)) rv (mk_iv n 3 j m iv)) := by
  refine am_Met.of (by decide) (Nat.le_of_ble_eq_true rfl) rfl ?_
  refine A_iload_n (pc := 0) (i := 0) dX11_makeLaw_0 rfl rfl ?_
  refine A_tableIn (pc := 1) (off := 59) 60 dX11_makeLaw_1 (by decide) (by decide) (by decide) (by decide) ?_
  refine A_new (pc := 60) n (ci := 0) (r := (RX0, TX0, 3)) rfl cl_X11_342 cz_0 cy_0 hk ht hi0 hr0 (by decide) (by decide) dX11_makeLaw_60 ?_
  refine A_dup (pc := 63) dX11_makeLaw_63 rfl ?_
  refine A_iconst (pc := 64) (3) dX11_makeLaw_64 (by decide) ?_
  refine A_iload_n (pc := 65) (i := 1) dX11_makeLaw_65 rfl rfl ?_
  refine A_iload_n (pc := 66) (i := 2) dX11_makeLaw_66 rfl rfl ?_
  refine A_callI0 (pc := 67) ci_X11_344 (s_ni0 l n am_uk_s _ _ _) rfl rfl (Nat.le_of_ble_eq_true rfl) ⟨(Nat.le_of_ble_eq_true rfl), (Nat.le_of_ble_eq_true rfl)⟩ ⟨by decide, by decide⟩ dX11_makeLaw_67 ?_
  exact A_aretE (pc := 70) dX11_makeLaw_70 rfl (by decide) (by decide) rfl
set_option maxRecDepth 20000 in
theorem s_mk4 (l : Launch) {kd : am_kd} {rv : am_rv} {iv : am_iv} (n : am_N) (hk : kd n = none) (ht : n.1 < 40) (hi0 : ∀ k, iv n k = 0) (hr0 : ∀ k, rv n k = none) (j m : Int32) : am_Met l mX11_makeLaw (am_rm 4 1 3) [am_I 4, am_I j, am_I m] kd rv iv (am_ret (some (am_P n)) (am_uk kd n (.inl 9)) rv (mk_iv n 4 j m iv)) := by
  refine am_Met.of (by decide) (Nat.le_of_ble_eq_true rfl) rfl ?_
  refine A_iload_n (pc := 0) (i := 0) dX11_makeLaw_0 rfl rfl ?_
  refine A_tableIn (pc := 1) (off := 70) 71 dX11_makeLaw_1 (by decide) (by decide) (by decide) (by decide) ?_
  refine A_new (pc := 71) n (ci := 9) (r := (RX9, TX9, 3)) rfl cl_X11_347 cz_9 cy_9 hk ht hi0 hr0 (by decide) (by decide) dX11_makeLaw_71 ?_
  refine A_dup (pc := 74) dX11_makeLaw_74 rfl ?_
  refine A_iload_n (pc := 75) (i := 1) dX11_makeLaw_75 rfl rfl ?_
  refine A_iload_n (pc := 76) (i := 2) dX11_makeLaw_76 rfl rfl ?_
  refine A_callI0 (pc := 77) ci_X11_349 (s_ni9 l n am_uk_s _ _) rfl rfl (Nat.le_of_ble_eq_true rfl) ⟨(Nat.le_of_ble_eq_true rfl), (Nat.le_of_ble_eq_true rfl)⟩ ⟨by decide, by decide⟩ dX11_makeLaw_77 ?_
  exact A_aretE (pc := 80) dX11_makeLaw_80 rfl (by decide) (by decide) rfl
set_option maxRecDepth 20000 in
theorem s_mk5 (l : Launch) {kd : am_kd} {rv : am_rv} {iv : am_iv} (n : am_N) (hk : kd n = none) (ht : n.1 < 40) (hi0 : ∀ k, iv n k = 0) (hr0 : ∀ k, rv n k = none) (j m : Int32) : am_Met l mX11_makeLaw (am_rm 4 1 3) [am_I 5, am_I j, am_I m] kd rv iv (am_ret (some (am_P n)) (am_uk kd n (.inl 10)) rv (mk_iv n 5 j m iv)) := by
  refine am_Met.of (by decide) (Nat.le_of_ble_eq_true rfl) rfl ?_
  refine A_iload_n (pc := 0) (i := 0) dX11_makeLaw_0 rfl rfl ?_
  refine A_tableIn (pc := 1) (off := 80) 81 dX11_makeLaw_1 (by decide) (by decide) (by decide) (by decide) ?_
  refine A_new (pc := 81) n (ci := 10) (r := (RX10, TX10, 3)) rfl cl_X11_350 cz_10 cy_10 hk ht hi0 hr0 (by decide) (by decide) dX11_makeLaw_81 ?_
  refine A_dup (pc := 84) dX11_makeLaw_84 rfl ?_
  refine A_iconst (pc := 85) (5) dX11_makeLaw_85 (by decide) ?_
  refine A_iload_n (pc := 86) (i := 1) dX11_makeLaw_86 rfl rfl ?_
  refine A_iload_n (pc := 87) (i := 2) dX11_makeLaw_87 rfl rfl ?_
  refine A_callI0 (pc := 88) ci_X11_352 (s_ni10 l n am_uk_s _ _ _) rfl rfl (Nat.le_of_ble_eq_true rfl) ⟨(Nat.le_of_ble_eq_true rfl), (Nat.le_of_ble_eq_true rfl)⟩ ⟨by decide, by decide⟩ dX11_makeLaw_88 ?_
  exact A_aretE (pc := 91) dX11_makeLaw_91 rfl (by decide) (by decide) rfl
set_option maxRecDepth 20000 in
theorem s_mk6 (l : Launch) {kd : am_kd} {rv : am_rv} {iv : am_iv} (n : am_N) (hk : kd n = none) (ht : n.1 < 40) (hi0 : ∀ k, iv n k = 0) (hr0 : ∀ k, rv n k = none) (j m : Int32) : am_Met l mX11_makeLaw (am_rm 4 1 3) [am_I 6, am_I j, am_I m] kd rv iv (am_ret (some (am_P n)) (am_uk kd n (.inl 6)) rv (mk_iv n 6 j m iv)) := by
  refine am_Met.of (by decide) (Nat.le_of_ble_eq_true rfl) rfl ?_
  refine A_iload_n (pc := 0) (i := 0) dX11_makeLaw_0 rfl rfl ?_
  refine A_tableIn (pc := 1) (off := 91) 92 dX11_makeLaw_1 (by decide) (by decide) (by decide) (by decide) ?_
  refine A_new (pc := 92) n (ci := 6) (r := (RX6, TX6, 3)) rfl cl_X11_353 cz_6 cy_6 hk ht hi0 hr0 (by decide) (by decide) dX11_makeLaw_92 ?_
  refine A_dup (pc := 95) dX11_makeLaw_95 rfl ?_
  refine A_iload_n (pc := 96) (i := 1) dX11_makeLaw_96 rfl rfl ?_
  refine A_iload_n (pc := 97) (i := 2) dX11_makeLaw_97 rfl rfl ?_
  refine A_callI0 (pc := 98) ci_X11_355 (s_ni6 l n am_uk_s _ _) rfl rfl (Nat.le_of_ble_eq_true rfl) ⟨(Nat.le_of_ble_eq_true rfl), (Nat.le_of_ble_eq_true rfl)⟩ ⟨by decide, by decide⟩ dX11_makeLaw_98 ?_
  exact A_aretE (pc := 101) dX11_makeLaw_101 rfl (by decide) (by decide) rfl
