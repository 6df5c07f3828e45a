/-- only what texts are worked out with changed -/
def chG (w w' : am_iv) : Prop := ∀ q k, ¬ gb q k → w' q k = w q k
theorem chG.rf (w : am_iv) : chG w w := fun _ _ _ => rfl
theorem chG.tr {a b c : am_iv} (h1 : chG a b) (h2 : chG b c) : chG a c := fun q k h => (h2 q k h).trans (h1 q k h)
theorem chG.gv {i u z : Nat} {a b c : Int32} {w : am_iv} : chG w (gv_heap i u z a b c w) := fun _ _ h => gv_heap_o h
theorem chV.gr {use n : Nat} {x y z : Int32} {w : am_iv} : chV w (gr_heap use n x y z w) := (chU.gr (a := 1)).V1
theorem REL.chG {kd : am_kd} {rv : am_rv} {w u w' u' : am_iv} (h : REL kd rv w u) (hw : _root_.Jvm.Pilot.CSmokeRingsLaw_law_r5279_9afc0a.chG w w') (hu : chV u u') : REL kd rv w' u' := by
  refine h.congr (fun q k z => hw q k (fun g => ?_)) (fun q k z => hu.d z)
  unfold gb at g
  unfold dG dR at z
  omega
def trl (H : Int32) (l : Nat) : Int32 := if 0 < nI l - 4 * H then nI l - 4 * H else 0
def trr (H : Int32) (l : Nat) : Int32 := if nI l ≤ 4 * H then 0 else nI l - 4 * H
theorem trl_r {H : Int32} (h1 : 1 ≤ H.toInt) (h2 : H.toInt ≤ 50) {l : Nat} (hl : l ≤ 400) : trl H l = trr H l ∧ 0 ≤ (trl H l).toInt ∧ (trl H l).toInt ≤ 396 := by
  have el : (nI l).toInt = (l : Int) := nI_toInt (by omega)
  have em : (4 * H).toInt = 4 * H.toInt := by
    rw [Int32.toInt_mul, show (4 : Int32).toInt = 4 by decide]
    exact fb_bmod (by omega) (by omega)
  have es : (nI l - 4 * H).toInt = (l : Int) - 4 * H.toInt := by
    rw [ix_sub (by rw [em, el]; omega) (by rw [em, el]; omega), em, el]
  have e0 : (0 : Int32).toInt = 0 := by decide
  unfold trl trr
  by_cases g : nI l ≤ 4 * H
  · have g1 := Int32.le_iff_toInt_le.mp g
    rw [em, el] at g1
    rw [if_pos g, if_neg (fun z => by have z1 := Int32.lt_iff_toInt_lt.mp z; rw [es, e0] at z1; omega), e0]
    exact ⟨rfl, by decide, by decide⟩
  · have g1 : ¬ (l : Int) ≤ 4 * H.toInt := fun z => g (Int32.le_iff_toInt_le.mpr (by rw [em, el]; exact z))
    rw [if_neg g, if_pos (Int32.lt_iff_toInt_lt.mpr (by rw [es, e0]; omega)), es]
    exact ⟨rfl, by omega, by omega⟩
noncomputable def he_s (z0 : Nat) (H : Int32) (l q : Nat) (w : am_iv) : Int32 × am_iv := (sr_held (gv_raw 0 0 z0 (nI l) (nI q) H w) 0 999 - trl H l, gv_heap 0 0 z0 (nI l) (nI q) H w)
noncomputable def he_t (y0 : Nat) (H : Int32) (l q : Nat) (u : am_iv) : Int32 × am_iv := (sr_held (gr_raw 0 y0 (nI l) (nI q) H u) 0 999 - trr H l, gr_heap 0 y0 (nI l) (nI q) H u)
def he1 (S : Nat → am_iv → Int32 × am_iv) (x : Int32) (l : Nat) : Nat → Nat → Int32 → Int32 → am_iv → Int32 × Int32 × am_iv
  | 0, _, b, a, w => (b, a, w)
  | d + 1, q, b, a, w => if x < nI l * nI q then (b, a, w) else he1 S x l d (q + 1) (if (S q w).1 ≤ b then b else (S q w).1) (if (S q w).1 ≤ b then a else 100 * nI l + nI q) (S q w).2
def he2 (S : Nat → Nat → am_iv → Int32 × am_iv) (x : Int32) : Nat → Nat → Int32 → Int32 → am_iv → Int32 × Int32 × am_iv
  | 0, _, b, a, w => (b, a, w)
  | d + 1, l, b, a, w => he2 S x d (l + 1) (he1 (S l) x l 99 1 b a w).1 (he1 (S l) x l 99 1 b a w).2.1 (he1 (S l) x l 99 1 b a w).2.2
def hr1 (S : Nat → am_iv → Int32 × am_iv) (x : Int32) (l : Nat) : Nat → Nat → Int32 → Int32 → am_iv → Int32 × Int32 × am_iv
  | 0, _, b, a, w => (b, a, w)
  | d + 1, q, b, a, w => if x < nI l * nI q then (b, a, w) else hr1 S x l d (q + 1) (if a < 0 then (S q w).1 else if (S q w).1 ≤ b then b else (S q w).1) (if a < 0 then 100 * nI l + nI q else if (S q w).1 ≤ b then a else 100 * nI l + nI q) (S q w).2
def hr2 (S : Nat → Nat → am_iv → Int32 × am_iv) (x : Int32) : Nat → Nat → Int32 → Int32 → am_iv → Int32 × Int32 × am_iv
  | 0, _, b, a, w => (b, a, w)
  | d + 1, l, b, a, w => hr2 S x d (l + 1) (hr1 (S l) x l 99 1 b a w).1 (hr1 (S l) x l 99 1 b a w).2.1 (hr1 (S l) x l 99 1 b a w).2.2
theorem he1_G {z0 : Nat} {H x : Int32} {l : Nat} (d : Nat) : ∀ q b a w, chG w (he1 (he_s z0 H l) x l d q b a w).2.2 := by
  induction d with
  | zero => intro q b a w; exact chG.rf _
  | succ d ih =>
    intro q b a w
    unfold he1
    split
    · exact chG.rf _
    · exact chG.gv.tr (ih _ _ _ _)
theorem he2_G {z0 : Nat} {H x : Int32} (d : Nat) : ∀ l b a w, chG w (he2 (he_s z0 H) x d l b a w).2.2 := by
  induction d with
  | zero => intro l b a w; exact chG.rf _
  | succ d ih => intro l b a w; exact (he1_G _ _ _ _ _).tr (ih _ _ _ _)
theorem hr1_V {y0 : Nat} {H x : Int32} {l : Nat} (d : Nat) : ∀ q b a w, chV w (hr1 (he_t y0 H l) x l d q b a w).2.2 := by
  induction d with
  | zero => intro q b a w; exact chV.rf _
  | succ d ih =>
    intro q b a w
    unfold hr1
    split
    · exact chV.rf _
    · exact chV.gr.tr (ih _ _ _ _)
theorem hr2_V {y0 : Nat} {H x : Int32} (d : Nat) : ∀ l b a w, chV w (hr2 (he_t y0 H) x d l b a w).2.2 := by
  induction d with
  | zero => intro l b a w; exact chV.rf _
  | succ d ih => intro l b a w; exact (hr1_V _ _ _ _ _).tr (ih _ _ _ _)
/-- the best so far: the class', the reference's -/
def heS (b a m a' : Int32) : Prop := a = a' ∧ 0 ≤ a' ∧ b = m
def heW (b a m a' : Int32) : Prop := (b = -400 ∧ a' = -1) ∨ heS b a m a'
theorem he_step {b a m a' G g : Int32} (h : heW b a m a') (hG : -400 < G) (hg : 0 ≤ g) : heS (if G ≤ b then b else G) (if G ≤ b then a else g) (if a' < 0 then G else if G ≤ m then m else G) (if a' < 0 then g else if G ≤ m then a' else g) := by
  rcases h with ⟨e1, e2⟩ | ⟨e1, e2, e3⟩
  · subst e1; subst e2
    have c : ¬ G ≤ -400 := fun z => by
      have z1 := Int32.le_iff_toInt_le.mp z
      have z2 := Int32.lt_iff_toInt_lt.mp hG
      omega
    rw [if_neg c, if_neg c, if_pos (by decide), if_pos (by decide)]
    exact ⟨rfl, hg, rfl⟩
  · subst e1; subst e3
    have c : ¬ a < 0 := fun z => by
      have z1 := Int32.lt_iff_toInt_lt.mp z
      have z2 := Int32.le_iff_toInt_le.mp e2
      omega
    rw [if_neg c, if_neg c]
    by_cases c2 : G ≤ b
    · rw [if_pos c2, if_pos c2]; exact ⟨rfl, e2, rfl⟩
    · rw [if_neg c2, if_neg c2]; exact ⟨rfl, hg, rfl⟩
theorem he_val {kd : am_kd} {rv : am_rv} {n nl : Nat} {ln : Nat → am_N} {lk : Nat → Nat} {z0 y0 z1 y1 zt zw : Nat} {w u : am_iv} (h : rX kd rv 0 0 n nl ln lk z0 y0 z1 y1 zt zw w u) {H : Int32} (h1 : 1 ≤ H.toInt) (h2 : H.toInt ≤ 50) {l : Nat} (hl : l ≤ 400) (q : Nat) : (he_s z0 H l q w).1 = (he_t y0 H l q u).1 ∧ -400 < (he_s z0 H l q w).1 := by
  have t := trl_r h1 h2 hl
  refine ⟨?_, ?_⟩
  · show sr_held (gv_raw 0 0 z0 (nI l) (nI q) H w) 0 999 - trl H l = sr_held (gr_raw 0 y0 (nI l) (nI q) H u) 0 999 - trr H l
    rw [(h.given _ _ _).1, t.1]
  · show -400 < sr_held (gv_raw 0 0 z0 (nI l) (nI q) H w) 0 999 - trl H l
    have r := held_rng (v := gv_raw 0 0 z0 (nI l) (nI q) H w) (a := 0) (b := 999) (by decide)
    rw [show (0 : Int32).toInt = 0 by decide, show (999 : Int32).toInt = 999 by decide] at r
    rw [Int32.lt_iff_toInt_lt, ix_sub (by omega) (by omega), show (-400 : Int32).toInt = -400 by decide]
    omega
theorem he_ans {l q : Nat} (hl : l ≤ 400) (hq : q ≤ 99) : (0 : Int32) ≤ 100 * nI l + nI q := by
  have e : (100 : Int32) * nI l + nI q = nI (100 * l + q) := by
    show nI 100 * nI l + nI q = _
    rw [mI_mul, mI_add]
  rw [e]
  exact nI_pos' (by omega)
theorem he1_same {kd : am_kd} {rv : am_rv} {n nl : Nat} {ln : Nat → am_N} {lk : Nat → Nat} {z0 y0 z1 y1 zt zw : Nat} {H : Int32} (h1 : 1 ≤ H.toInt) (h2 : H.toInt ≤ 50) {x : Int32} {l : Nat} (hl : l ≤ 400) (P : Int32 → Int32 → Int32 → Int32 → Prop) (hW : ∀ b a m a', P b a m a' → heW b a m a') (hP : ∀ b a m a', heS b a m a' → P b a m a') (d : Nat) : ∀ q b a m a' w u, q + d ≤ 100 → rX kd rv 0 0 n nl ln lk z0 y0 z1 y1 zt zw w u → P b a m a' → P (he1 (he_s z0 H l) x l d q b a w).1 (he1 (he_s z0 H l) x l d q b a w).2.1 (hr1 (he_t y0 H l) x l d q m a' u).1 (hr1 (he_t y0 H l) x l d q m a' u).2.1 ∧ rX kd rv 0 0 n nl ln lk z0 y0 z1 y1 zt zw (he1 (he_s z0 H l) x l d q b a w).2.2 (hr1 (he_t y0 H l) x l d q m a' u).2.2 := by
  induction d with
  | zero => intro q b a m a' w u hq h p; exact ⟨p, h⟩
  | succ d ih =>
    intro q b a m a' w u hq h p
    rw [he1, hr1]
    by_cases c : x < nI l * nI q
    · rw [if_pos c, if_pos c]; exact ⟨p, h⟩
    · rw [if_neg c, if_neg c]
      obtain ⟨e, hg⟩ := he_val h h1 h2 hl q
      rw [← e]
      exact ih (q + 1) _ _ _ _ _ _ (by omega) (h.gvr _ _ _ _ _ _ _ _ _ _) (hP _ _ _ _ (he_step (hW _ _ _ _ p) hg (he_ans hl (by omega))))
theorem he2_same {kd : am_kd} {rv : am_rv} {n nl : Nat} {ln : Nat → am_N} {lk : Nat → Nat} {z0 y0 z1 y1 zt zw : Nat} {H : Int32} (h1 : 1 ≤ H.toInt) (h2 : H.toInt ≤ 50) {x : Int32} (d : Nat) : ∀ l b a m a' w u, l + d ≤ 401 → rX kd rv 0 0 n nl ln lk z0 y0 z1 y1 zt zw w u → heS b a m a' → heS (he2 (he_s z0 H) x d l b a w).1 (he2 (he_s z0 H) x d l b a w).2.1 (hr2 (he_t y0 H) x d l m a' u).1 (hr2 (he_t y0 H) x d l m a' u).2.1 := by
  induction d with
  | zero => intro l b a m a' w u hq h p; exact p
  | succ d ih =>
    intro l b a m a' w u hq h p
    obtain ⟨g1, g2⟩ := he1_same h1 h2 (x := x) (l := l) (by omega) heS (fun _ _ _ _ z => Or.inr z) (fun _ _ _ _ z => z) 99 1 b a m a' w u (by decide) h p
    exact ih (l + 1) _ _ _ _ _ _ (by omega) g2 g1
theorem heart_same {kd : am_kd} {rv : am_rv} {n nl : Nat} {ln : Nat → am_N} {lk : Nat → Nat} {z0 y0 z1 y1 zt zw : Nat} {D : Nat} (hD : D = 400) {H : Int32} (h1 : 1 ≤ H.toInt) (h2 : H.toInt ≤ 50) {x : Int32} (hx : 1 ≤ x) {w u : am_iv} (h : rX kd rv 0 0 n nl ln lk z0 y0 z1 y1 zt zw w u) : (he2 (he_s z0 H) x D 1 (-400) 0 w).2.1 = (hr2 (he_t y0 H) x D 1 0 (-1) u).2.1 := by
  obtain ⟨D, rfl⟩ : ∃ E, D = E + 1 := ⟨D - 1, by omega⟩
  have c : ¬ x < nI 1 * nI 1 := fun z => by
    have z1 := Int32.lt_iff_toInt_lt.mp z
    have z2 := Int32.le_iff_toInt_le.mp hx
    have e : (nI 1 * nI 1 : Int32).toInt = 1 := by decide
    have e1 : (1 : Int32).toInt = 1 := by decide
    omega
  obtain ⟨e, hg⟩ := he_val h h1 h2 (l := 1) (by decide) 1
  have s1 := he_step (b := -400) (a := 0) (m := 0) (a' := -1) (g := 100 * nI 1 + nI 1) (Or.inl ⟨rfl, rfl⟩) hg (he_ans (by decide) (by decide))
  obtain ⟨g1, g2⟩ := he1_same h1 h2 (x := x) (l := 1) (by decide) heS (fun _ _ _ _ z => Or.inr z) (fun _ _ _ _ z => z) 98 2 _ _ _ _ _ _ (by decide) (h.gvr 0 0 z0 y0 (nI 1) (nI 1) H (nI 1) (nI 1) H) s1
  have q1 : he1 (he_s z0 H 1) x 1 99 1 (-400) 0 w = he1 (he_s z0 H 1) x 1 98 2 (if (he_s z0 H 1 1 w).1 ≤ -400 then -400 else (he_s z0 H 1 1 w).1) (if (he_s z0 H 1 1 w).1 ≤ -400 then 0 else 100 * nI 1 + nI 1) (he_s z0 H 1 1 w).2 := by
    rw [he1, if_neg c]
  have q2 : hr1 (he_t y0 H 1) x 1 99 1 0 (-1) u = hr1 (he_t y0 H 1) x 1 98 2 (if (-1 : Int32) < 0 then (he_s z0 H 1 1 w).1 else if (he_s z0 H 1 1 w).1 ≤ 0 then 0 else (he_s z0 H 1 1 w).1) (if (-1 : Int32) < 0 then 100 * nI 1 + nI 1 else if (he_s z0 H 1 1 w).1 ≤ 0 then -1 else 100 * nI 1 + nI 1) (he_t y0 H 1 1 u).2 := by
    rw [hr1, if_neg c, ← e]
  have g3 := he2_same h1 h2 (x := x) D 2 _ _ _ _ _ _ (by omega) g2 g1
  rw [he2, hr2]
  rw [q1, q2]
  exact g3.1
set_option maxRecDepth 20000 in
theorem he_in (l0 : Launch) {kd : am_kd} {rv : am_rv} (hS : sh kd rv) (z0 : Nat) (hz50 : z0 ≤ 50) (H x : Int32) (post : Option am_V → am_kd → am_rv → am_iv → Prop) (l : Nat) (d : Nat) : ∀ (q : Nat) (b a : Int32) (w : am_iv) (p7 : Option am_V), w (2, 0, 0) 7 = H → w (9, 0, 0) 1 = nI z0 → q + d = 100 → (∀ p6 p7 : Option am_V, am_W l0 mX11_heart (am_rm 9 0 0) post 113 [some (am_P (1, 0, 0)), some (am_I x), some (am_I (he1 (he_s z0 H l) x l d q b a w).1), some (am_I (he1 (he_s z0 H l) x l d q b a w).2.1), some (am_I (nI l)), some (am_I (trl H l)), p6, p7] [] kd rv (he1 (he_s z0 H l) x l d q b a w).2.2 0 0) → am_W l0 mX11_heart (am_rm 9 0 0) post 49 [some (am_P (1, 0, 0)), some (am_I x), some (am_I b), some (am_I a), some (am_I (nI l)), some (am_I (trl H l)), some (am_I (nI q)), p7] [] kd rv w 0 0 := by
  induction d with
  | zero =>
    intro q b a w p7 g1 g2 hd K
    refine A_iload (pc := 49) (i := 6) dX11_heart_49 rfl ?_
    refine A_bipush (pc := 51) (99) dX11_heart_51 (by decide) ?_
    refine A_icmpgt (pc := 53) 113 dX11_heart_53 (by decide) (fun hb53 => ?_) (fun hb53 => ?_)
    · exact K _ _
    · exact absurd (show nI 99 < nI q from nI_lt (by omega) (by omega)) hb53
  | succ d ih =>
    intro q b a w p7 g1 g2 hd K
    refine A_iload (pc := 49) (i := 6) dX11_heart_49 rfl ?_
    refine A_bipush (pc := 51) (99) dX11_heart_51 (by decide) ?_
    refine A_icmpgt (pc := 53) 113 dX11_heart_53 (by decide) (fun hb53 => ?_) (fun hb53 => ?_)
    · exact absurd (show nI 99 < nI q from hb53) (nI_nlt (by omega) (by decide))
    · refine A_iload (pc := 56) (i := 4) dX11_heart_56 rfl ?_
      refine A_iload (pc := 58) (i := 6) dX11_heart_58 rfl ?_
      refine A_imul (pc := 60) dX11_heart_60 ?_
      refine A_iload_n (pc := 61) (i := 1) dX11_heart_61 rfl rfl ?_
      refine A_icmpgt (pc := 62) 113 dX11_heart_62 (by decide) (fun hb62 => ?_) (fun hb62 => ?_)
      · have h9 := K (some (am_I (nI q))) p7
        rw [he1, if_pos hb62] at h9
        exact h9
      · refine A_aload_n (pc := 65) (i := 0) dX11_heart_65 rfl rfl ?_
        refine A_getr (pc := 66) 0 fl_X11_12_11 hS.k1 rfl (hS.w1 (k := 0) (by decide)) dX11_heart_66 ?_
        refine A_iconst (pc := 69) (0) dX11_heart_69 (by decide) ?_
        refine A_iload (pc := 70) (i := 4) dX11_heart_70 rfl ?_
        refine A_iload (pc := 72) (i := 6) dX11_heart_72 rfl ?_
        refine A_aload_n (pc := 74) (i := 0) dX11_heart_74 rfl rfl ?_
        refine A_getr (pc := 75) 0 fl_X11_12_11 hS.k1 rfl (hS.w1 (k := 0) (by decide)) dX11_heart_75 ?_
        refine A_geti (pc := 78) 7 fl_X11_161_4 (hS.k2 (by decide)) rfl dX11_heart_78 ?_
        refine A_top g1 ?_
        refine A_callV1 (pc := 81) cv_X11_198 (s_given l0 hS 0 (by decide) 0 (by decide) z0 g2 hz50 _ _ _) (hS.k2 (by decide)) rfl rfl rfl rfl (Nat.le_of_ble_eq_true rfl) ⟨(Nat.le_of_ble_eq_true rfl), (Nat.le_of_ble_eq_true rfl)⟩ ⟨Nat.zero_le _, Nat.zero_le _⟩ dX11_heart_81 ?_
        refine A_iload (pc := 84) (i := 5) dX11_heart_84 rfl ?_
        refine A_isub (pc := 86) dX11_heart_86 ?_
        refine A_ist7 (pc := 87) dX11_heart_87 (Nat.le_of_ble_eq_true rfl) rfl ?_
        refine A_iload (pc := 89) (i := 7) dX11_heart_89 rfl ?_
        refine A_iload_n (pc := 91) (i := 2) dX11_heart_91 rfl rfl ?_
        refine A_icmple (pc := 92) 107 dX11_heart_92 (by decide) (fun hb92 => ?_) (fun hb92 => ?_)
        · refine A_inc6 (pc := 107) (nI (q + 1)) dX11_heart_107 (nI_1 q) (Nat.le_of_ble_eq_true rfl) rfl ?_
          refine A_goto (pc := 110) 49 dX11_heart_110 (by decide) ?_
          refine A_heap (iv' := (he_s z0 H l q w).2) rfl ?_
          refine ih (q + 1) _ _ _ _ ((gv_heap_o (by simp [gb])).trans g1) ((gv_heap_o (by simp [gb])).trans g2) (by omega) (fun p6 p7 => ?_)
          have h9 := K p6 p7
          rw [he1, if_neg hb62, if_pos (show (he_s z0 H l q w).1 ≤ b from hb92), if_pos (show (he_s z0 H l q w).1 ≤ b from hb92)] at h9
          exact h9
        · refine A_iload (pc := 95) (i := 7) dX11_heart_95 rfl ?_
          refine A_ist2 (pc := 97) dX11_heart_97 (Nat.le_of_ble_eq_true rfl) rfl ?_
          refine A_bipush (pc := 98) (100) dX11_heart_98 (by decide) ?_
          refine A_iload (pc := 100) (i := 4) dX11_heart_100 rfl ?_
          refine A_imul (pc := 102) dX11_heart_102 ?_
          refine A_iload (pc := 103) (i := 6) dX11_heart_103 rfl ?_
          refine A_iadd (pc := 105) dX11_heart_105 ?_
          refine A_ist3 (pc := 106) dX11_heart_106 (Nat.le_of_ble_eq_true rfl) rfl ?_
          refine A_inc6 (pc := 107) (nI (q + 1)) dX11_heart_107 (nI_1 q) (Nat.le_of_ble_eq_true rfl) rfl ?_
          refine A_goto (pc := 110) 49 dX11_heart_110 (by decide) ?_
          refine A_heap (iv' := (he_s z0 H l q w).2) rfl ?_
          refine ih (q + 1) _ _ _ _ ((gv_heap_o (by simp [gb])).trans g1) ((gv_heap_o (by simp [gb])).trans g2) (by omega) (fun p6 p7 => ?_)
          have h9 := K p6 p7
          rw [he1, if_neg hb62, if_neg (show ¬ (he_s z0 H l q w).1 ≤ b from hb92), if_neg (show ¬ (he_s z0 H l q w).1 ≤ b from hb92)] at h9
          exact h9
set_option maxRecDepth 20000 in
theorem he_out (l0 : Launch) {kd : am_kd} {rv : am_rv} (hS : sh kd rv) (z0 : Nat) (hz50 : z0 ≤ 50) (H x : Int32) (d : Nat) : ∀ (l : Nat) (b a : Int32) (w : am_iv) (p5 p6 p7 : Option am_V), w (2, 0, 0) 7 = H → w (9, 0, 0) 1 = nI z0 → l + d = 401 → am_W l0 mX11_heart (am_rm 9 0 0) (am_ret (some (am_I (he2 (he_s z0 H) x d l b a w).2.1)) kd rv (he2 (he_s z0 H) x d l b a w).2.2) 27 [some (am_P (1, 0, 0)), some (am_I x), some (am_I b), some (am_I a), some (am_I (nI l)), p5, p6, p7] [] kd rv w 0 0 := by
  induction d with
  | zero =>
    intro l b a w p5 p6 p7 g1 g2 hd
    refine A_iload (pc := 27) (i := 4) dX11_heart_27 rfl ?_
    refine A_sipush (pc := 29) (400) dX11_heart_29 (by decide) ?_
    refine A_icmpgt (pc := 32) 119 dX11_heart_32 (by decide) (fun hb32 => ?_) (fun hb32 => ?_)
    · refine A_iload_n (pc := 119) (i := 3) dX11_heart_119 rfl rfl ?_
      exact A_iretE (pc := 120) dX11_heart_120 rfl (Nat.zero_le _) (Nat.zero_le _) ((rfl)) ((rfl))
    · exact absurd (show nI 400 < nI l from nI_lt (by omega) (by omega)) hb32
  | succ d ih =>
    intro l b a w p5 p6 p7 g1 g2 hd
    have hG := he1_G (z0 := z0) (H := H) (x := x) (l := l) 99 1 b a w
    refine A_iload (pc := 27) (i := 4) dX11_heart_27 rfl ?_
    refine A_sipush (pc := 29) (400) dX11_heart_29 (by decide) ?_
    refine A_icmpgt (pc := 32) 119 dX11_heart_32 (by decide) (fun hb32 => ?_) (fun hb32 => ?_)
    · exact absurd (show nI 400 < nI l from hb32) (nI_nlt (by omega) (by decide))
    · refine A_aload_n (pc := 35) (i := 0) dX11_heart_35 rfl rfl ?_
      refine A_getr (pc := 36) 0 fl_X11_12_11 hS.k1 rfl (hS.w1 (k := 0) (by decide)) dX11_heart_36 ?_
      refine A_iload (pc := 39) (i := 4) dX11_heart_39 rfl ?_
      refine A_callV1 (pc := 41) cv_X11_168 (s_trailing l0 hS 0 (by decide) _) (hS.k2 (by decide)) rfl rfl rfl rfl (Nat.le_of_ble_eq_true rfl) ⟨(Nat.le_of_ble_eq_true rfl), (Nat.le_of_ble_eq_true rfl)⟩ ⟨Nat.zero_le _, Nat.zero_le _⟩ dX11_heart_41 ?_
      refine A_top (y := trl H l) (by rw [g1]; rfl) ?_
      refine A_ist5 (pc := 44) dX11_heart_44 (Nat.le_of_ble_eq_true rfl) rfl ?_
      refine A_iconst (pc := 46) (1) dX11_heart_46 (by decide) ?_
      refine A_ist6 (pc := 47) dX11_heart_47 (Nat.le_of_ble_eq_true rfl) rfl ?_
      refine he_in l0 hS z0 hz50 H x _ l 99 1 b a w p7 g1 g2 rfl (fun p6 p7 => ?_)
      refine A_inc4 (pc := 113) (nI (l + 1)) dX11_heart_113 (nI_1 l) (Nat.le_of_ble_eq_true rfl) rfl ?_
      refine A_goto (pc := 116) 27 dX11_heart_116 (by decide) ?_
      rw [he2]
      exact ih (l + 1) _ _ _ _ _ _ ((hG _ _ (by simp [gb])).trans g1) ((hG _ _ (by simp [gb])).trans g2) (by omega)
      -- end
noncomputable def c_heart (x : Int32) (z0 : Nat) (H : Int32) (D : Nat) (iv : am_iv) : Int32 × am_iv := if sr_b (1 ≤ x ∧ x ≤ 9999) = 0 then (-1000000001, er_heap 1 iv) else ((he2 (he_s z0 H) x D 1 (-400) 0 iv).2.1, (he2 (he_s z0 H) x D 1 (-400) 0 iv).2.2)
set_option maxRecDepth 20000 in
theorem p_heart (l : Launch) {kd : am_kd} {rv : am_rv} {iv : am_iv} (hS : sh kd rv) (x : Int32) (z0 : Nat) (H : Int32) (D : Nat) (hD : D = 400) (hz : iv (9, 0, 0) 1 = nI z0) (hz50 : z0 ≤ 50) (hH : iv (2, 0, 0) 7 = H) : am_Met l mX11_heart (am_rm 9 0 0) [am_P (1, 0, 0), am_I x] kd rv iv (am_ret (some (am_I (c_heart x z0 H D iv).1)) kd rv (c_heart x z0 H D iv).2) := by
  refine am_Met.of (by decide) (Nat.le_of_ble_eq_true rfl) rfl ?_
  refine A_iload_n (pc := 0) (i := 1) dX11_heart_0 rfl rfl ?_
  refine A_iconst (pc := 1) (1) dX11_heart_1 (by decide) ?_
  refine A_sipush (pc := 2) (9999) dX11_heart_2 (by decide) ?_
  refine A_callS1 (pc := 5) cs_X11_56 (s_isHeld l _ _ _) rfl rfl (Nat.le_of_ble_eq_true rfl) ⟨(Nat.le_of_ble_eq_true rfl), (Nat.le_of_ble_eq_true rfl)⟩ ⟨Nat.zero_le _, Nat.zero_le _⟩ dX11_heart_5 ?_
  refine A_ifne (pc := 8) 18 dX11_heart_8 (by decide) (fun hb8 => ?_) (fun hb8 => ?_)
  · refine A_sipush (pc := 18) (-400) dX11_heart_18 (by decide) ?_
    refine A_ist2 (pc := 21) dX11_heart_21 (Nat.le_of_ble_eq_true rfl) rfl ?_
    refine A_iconst (pc := 22) (0) dX11_heart_22 (by decide) ?_
    refine A_ist3 (pc := 23) dX11_heart_23 (Nat.le_of_ble_eq_true rfl) rfl ?_
    refine A_iconst (pc := 24) (1) dX11_heart_24 (by decide) ?_
    refine A_ist4 (pc := 25) dX11_heart_25 (Nat.le_of_ble_eq_true rfl) rfl ?_
    rw [show (c_heart x z0 H D iv) = ((he2 (he_s z0 H) x D 1 (-400) 0 iv).2.1, (he2 (he_s z0 H) x D 1 (-400) 0 iv).2.2) from by rw [c_heart, if_neg hb8]]
    exact he_out l hS z0 hz50 H x D 1 (-400) 0 iv none none none hH hz (by omega)
  · refine A_aload_n (pc := 11) (i := 0) dX11_heart_11 rfl rfl ?_
    refine A_ldc (pc := 12) (List.mem_cons_of_mem _ kc_X11_60) dX11_heart_12 ?_
    refine A_callV1 (pc := 14) cv_X11_61 (s_err1 l hS) hS.k1 rfl rfl rfl rfl (Nat.le_of_ble_eq_true rfl) ⟨(Nat.le_of_ble_eq_true rfl), (Nat.le_of_ble_eq_true rfl)⟩ ⟨Nat.zero_le _, Nat.zero_le _⟩ dX11_heart_14 ?_
    exact A_iretE (pc := 17) dX11_heart_17 rfl (Nat.zero_le _) (Nat.zero_le _) (by rw [c_heart, if_pos hb8]) (by rw [c_heart, if_pos hb8])
set_option maxRecDepth 20000 in
theorem hr_in (l0 : Launch) {kd : am_kd} {rv : am_rv} (hR : shr kd rv) (y0 : Nat) (hz50 : y0 ≤ 50) (H x : Int32) (post : Option am_V → am_kd → am_rv → am_iv → Prop) (l : Nat) (d : Nat) : ∀ (q : Nat) (b a : Int32) (w : am_iv) (p6 : Option am_V), w (31, 0, 0) 5 = H → w (31, 0, 0) 40 = nI y0 → q + d = 100 → (∀ p5 p6 : Option am_V, am_W l0 mX12_heart (am_rm 50 0 0) post 104 [some (am_P (30, 0, 0)), some (am_I x), some (am_I (hr1 (he_t y0 H l) x l d q b a w).2.1), some (am_I (hr1 (he_t y0 H l) x l d q b a w).1), some (am_I (nI l)), p5, p6] [] kd rv (hr1 (he_t y0 H l) x l d q b a w).2.2 0 0) → am_W l0 mX12_heart (am_rm 50 0 0) post 36 [some (am_P (30, 0, 0)), some (am_I x), some (am_I a), some (am_I b), some (am_I (nI l)), some (am_I (nI q)), p6] [] kd rv w 0 0 := by
  induction d with
  | zero =>
    intro q b a w p6 g1 g2 hd K
    refine A_iload (pc := 36) (i := 5) dX12_heart_36 rfl ?_
    refine A_bipush (pc := 38) (99) dX12_heart_38 (by decide) ?_
    refine A_icmpgt (pc := 40) 104 dX12_heart_40 (by decide) (fun hb40 => ?_) (fun hb40 => ?_)
    · exact K _ _
    · exact absurd (show nI 99 < nI q from nI_lt (by omega) (by omega)) hb40
  | succ d ih =>
    intro q b a w p6 g1 g2 hd K
    have r0 : ∀ k, gr_heap 0 y0 (nI l) (nI q) H w (31, 0, 0) k = w (31, 0, 0) k := fun k => chV.gr.r0 k
    refine A_iload (pc := 36) (i := 5) dX12_heart_36 rfl ?_
    refine A_bipush (pc := 38) (99) dX12_heart_38 (by decide) ?_
    refine A_icmpgt (pc := 40) 104 dX12_heart_40 (by decide) (fun hb40 => ?_) (fun hb40 => ?_)
    · exact absurd (show nI 99 < nI q from hb40) (nI_nlt (by omega) (by decide))
    · refine A_iload (pc := 43) (i := 4) dX12_heart_43 rfl ?_
      refine A_iload (pc := 45) (i := 5) dX12_heart_45 rfl ?_
      refine A_imul (pc := 47) dX12_heart_47 ?_
      refine A_iload_n (pc := 48) (i := 1) dX12_heart_48 rfl rfl ?_
      refine A_icmpgt (pc := 49) 104 dX12_heart_49 (by decide) (fun hb49 => ?_) (fun hb49 => ?_)
      · have h9 := K (some (am_I (nI q))) p6
        rw [hr1, if_pos hb49] at h9
        exact h9
      · refine A_aload_n (pc := 52) (i := 0) dX12_heart_52 rfl rfl ?_
        refine A_iconst (pc := 53) (0) dX12_heart_53 (by decide) ?_
        refine A_iload (pc := 54) (i := 4) dX12_heart_54 rfl ?_
        refine A_iload (pc := 56) (i := 5) dX12_heart_56 rfl ?_
        refine A_aload_n (pc := 58) (i := 0) dX12_heart_58 rfl rfl ?_
        refine A_getr (pc := 59) 0 fl_X12_7_12 hR.1 rfl hR.w0 dX12_heart_59 ?_
        refine A_iconst (pc := 62) (5) dX12_heart_62 (by decide) ?_
        refine A_ialdN (pc := 63) hR.k0 (show 5 < 300 by decide) (by decide) dX12_heart_63 ?_
        refine A_top g1 ?_
        refine A_callV1 (pc := 64) cv_X12_197 (r_givesOf l0 hR 0 (by decide) y0 g2 hz50 _ _ _) hR.1 rfl rfl rfl rfl (Nat.le_of_ble_eq_true rfl) ⟨(Nat.le_of_ble_eq_true rfl), (Nat.le_of_ble_eq_true rfl)⟩ ⟨Nat.zero_le _, Nat.zero_le _⟩ dX12_heart_64 ?_
        refine A_aload_n (pc := 67) (i := 0) dX12_heart_67 rfl rfl ?_
        refine A_iload (pc := 68) (i := 4) dX12_heart_68 rfl ?_
        refine A_callV1 (pc := 70) cv_X12_206 (r_trailsOf l0 hR _) hR.1 rfl rfl rfl rfl (Nat.le_of_ble_eq_true rfl) ⟨(Nat.le_of_ble_eq_true rfl), (Nat.le_of_ble_eq_true rfl)⟩ ⟨Nat.zero_le _, Nat.zero_le _⟩ dX12_heart_70 ?_
        refine A_top (y := trr H l) (by rw [r0, g1]; rfl) ?_
        refine A_isub (pc := 73) dX12_heart_73 ?_
        refine A_top (y := (he_t y0 H l q w).1) rfl ?_
        refine A_ist6 (pc := 74) dX12_heart_74 (Nat.le_of_ble_eq_true rfl) rfl ?_
        refine A_iload_n (pc := 76) (i := 2) dX12_heart_76 rfl rfl ?_
        refine A_iflt (pc := 77) 86 dX12_heart_77 (by decide) (fun hb77 => ?_) (fun hb77 => ?_)
        · refine A_bipush (pc := 86) (100) dX12_heart_86 (by decide) ?_
          refine A_iload (pc := 88) (i := 4) dX12_heart_88 rfl ?_
          refine A_imul (pc := 90) dX12_heart_90 ?_
          refine A_iload (pc := 91) (i := 5) dX12_heart_91 rfl ?_
          refine A_iadd (pc := 93) dX12_heart_93 ?_
          refine A_ist2 (pc := 94) dX12_heart_94 (Nat.le_of_ble_eq_true rfl) rfl ?_
          refine A_iload (pc := 95) (i := 6) dX12_heart_95 rfl ?_
          refine A_ist3 (pc := 97) dX12_heart_97 (Nat.le_of_ble_eq_true rfl) rfl ?_
          refine A_inc5 (pc := 98) (nI (q + 1)) dX12_heart_98 (nI_1 q) (Nat.le_of_ble_eq_true rfl) rfl ?_
          refine A_goto (pc := 101) 36 dX12_heart_101 (by decide) ?_
          refine A_heap (iv' := (he_t y0 H l q w).2) rfl ?_
          refine ih (q + 1) _ _ _ _ ((r0 5).trans g1) ((r0 40).trans g2) (by omega) (fun p5 p6 => ?_)
          have h9 := K p5 p6
          rw [hr1, if_neg hb49, if_pos hb77, if_pos hb77] at h9
          exact h9
        · refine A_iload (pc := 80) (i := 6) dX12_heart_80 rfl ?_
          refine A_iload_n (pc := 82) (i := 3) dX12_heart_82 rfl rfl ?_
          refine A_icmple (pc := 83) 98 dX12_heart_83 (by decide) (fun hb83 => ?_) (fun hb83 => ?_)
          · refine A_inc5 (pc := 98) (nI (q + 1)) dX12_heart_98 (nI_1 q) (Nat.le_of_ble_eq_true rfl) rfl ?_
            refine A_goto (pc := 101) 36 dX12_heart_101 (by decide) ?_
            refine A_heap (iv' := (he_t y0 H l q w).2) rfl ?_
            refine ih (q + 1) _ _ _ _ ((r0 5).trans g1) ((r0 40).trans g2) (by omega) (fun p5 p6 => ?_)
            have h9 := K p5 p6
            rw [hr1, if_neg hb49, if_neg hb77, if_neg hb77, if_pos (show (he_t y0 H l q w).1 ≤ b from hb83), if_pos (show (he_t y0 H l q w).1 ≤ b from hb83)] at h9
            exact h9
          · refine A_bipush (pc := 86) (100) dX12_heart_86 (by decide) ?_
            refine A_iload (pc := 88) (i := 4) dX12_heart_88 rfl ?_
            refine A_imul (pc := 90) dX12_heart_90 ?_
            refine A_iload (pc := 91) (i := 5) dX12_heart_91 rfl ?_
            refine A_iadd (pc := 93) dX12_heart_93 ?_
            refine A_ist2 (pc := 94) dX12_heart_94 (Nat.le_of_ble_eq_true rfl) rfl ?_
            refine A_iload (pc := 95) (i := 6) dX12_heart_95 rfl ?_
            refine A_ist3 (pc := 97) dX12_heart_97 (Nat.le_of_ble_eq_true rfl) rfl ?_
            refine A_inc5 (pc := 98) (nI (q + 1)) dX12_heart_98 (nI_1 q) (Nat.le_of_ble_eq_true rfl) rfl ?_
            refine A_goto (pc := 101) 36 dX12_heart_101 (by decide) ?_
            refine A_heap (iv' := (he_t y0 H l q w).2) rfl ?_
            refine ih (q + 1) _ _ _ _ ((r0 5).trans g1) ((r0 40).trans g2) (by omega) (fun p5 p6 => ?_)
            have h9 := K p5 p6
            rw [hr1, if_neg hb49, if_neg hb77, if_neg hb77, if_neg (show ¬ (he_t y0 H l q w).1 ≤ b from hb83), if_neg (show ¬ (he_t y0 H l q w).1 ≤ b from hb83)] at h9
            exact h9
set_option maxRecDepth 20000 in
theorem hr_out (l0 : Launch) {kd : am_kd} {rv : am_rv} (hR : shr kd rv) (y0 : Nat) (hz50 : y0 ≤ 50) (H x : Int32) (d : Nat) : ∀ (l : Nat) (b a : Int32) (w : am_iv) (p5 p6 : Option am_V), w (31, 0, 0) 5 = H → w (31, 0, 0) 40 = nI y0 → l + d = 401 → am_W l0 mX12_heart (am_rm 50 0 0) (am_ret (some (am_I (hr2 (he_t y0 H) x d l b a w).2.1)) kd rv (hr2 (he_t y0 H) x d l b a w).2.2) 25 [some (am_P (30, 0, 0)), some (am_I x), some (am_I a), some (am_I b), some (am_I (nI l)), p5, p6] [] kd rv w 0 0 := by
  induction d with
  | zero =>
    intro l b a w p5 p6 g1 g2 hd
    refine A_iload (pc := 25) (i := 4) dX12_heart_25 rfl ?_
    refine A_sipush (pc := 27) (400) dX12_heart_27 (by decide) ?_
    refine A_icmpgt (pc := 30) 110 dX12_heart_30 (by decide) (fun hb30 => ?_) (fun hb30 => ?_)
    · refine A_iload_n (pc := 110) (i := 2) dX12_heart_110 rfl rfl ?_
      exact A_iretE (pc := 111) dX12_heart_111 rfl (Nat.zero_le _) (Nat.zero_le _) ((rfl)) ((rfl))
    · exact absurd (show nI 400 < nI l from nI_lt (by omega) (by omega)) hb30
  | succ d ih =>
    intro l b a w p5 p6 g1 g2 hd
    have hV := hr1_V (y0 := y0) (H := H) (x := x) (l := l) 99 1 b a w
    refine A_iload (pc := 25) (i := 4) dX12_heart_25 rfl ?_
    refine A_sipush (pc := 27) (400) dX12_heart_27 (by decide) ?_
    refine A_icmpgt (pc := 30) 110 dX12_heart_30 (by decide) (fun hb30 => ?_) (fun hb30 => ?_)
    · exact absurd (show nI 400 < nI l from hb30) (nI_nlt (by omega) (by decide))
    · refine A_iconst (pc := 33) (1) dX12_heart_33 (by decide) ?_
      refine A_ist5 (pc := 34) dX12_heart_34 (Nat.le_of_ble_eq_true rfl) rfl ?_
      refine hr_in l0 hR y0 hz50 H x _ l 99 1 b a w p6 g1 g2 rfl (fun p5 p6 => ?_)
      refine A_inc4 (pc := 104) (nI (l + 1)) dX12_heart_104 (nI_1 l) (Nat.le_of_ble_eq_true rfl) rfl ?_
      refine A_goto (pc := 107) 25 dX12_heart_107 (by decide) ?_
      rw [hr2]
      exact ih (l + 1) _ _ _ _ _ ((hV.r0 5).trans g1) ((hV.r0 40).trans g2) (by omega)
      -- end
noncomputable def d_heart (x : Int32) (y0 : Nat) (H : Int32) (D : Nat) (iv : am_iv) : Int32 × am_iv := if sr_b (1 ≤ x ∧ x ≤ 9999) = 0 then (-1000000001, rx_find 1 iv) else ((hr2 (he_t y0 H) x D 1 0 (-1) iv).2.1, (hr2 (he_t y0 H) x D 1 0 (-1) iv).2.2)
set_option maxRecDepth 20000 in
theorem q_heart (l : Launch) {kd : am_kd} {rv : am_rv} {iv : am_iv} (hR : shr kd rv) (x : Int32) (y0 : Nat) (H : Int32) (D : Nat) (hD : D = 400) (hz : iv (31, 0, 0) 40 = nI y0) (hz50 : y0 ≤ 50) (hH : iv (31, 0, 0) 5 = H) : am_Met l mX12_heart (am_rm 50 0 0) [am_P (30, 0, 0), am_I x] kd rv iv (am_ret (some (am_I (d_heart x y0 H D iv).1)) kd rv (d_heart x y0 H D iv).2) := by
  refine am_Met.of (by decide) (Nat.le_of_ble_eq_true rfl) rfl ?_
  refine A_iload_n (pc := 0) (i := 1) dX12_heart_0 rfl rfl ?_
  refine A_i2l (pc := 1) dX12_heart_1 ?_
  refine A_lconst (pc := 2) (1) dX12_heart_2 (by decide) ?_
  refine A_topJ (y := Int32.toInt64 (1)) (by decide +kernel) ?_
  refine A_ldc2 (pc := 3) (List.mem_cons_of_mem _ kc_X12_276) dX12_heart_3 ?_
  refine A_topJ (y := Int32.toInt64 (9999)) (by decide +kernel) ?_
  refine A_callS1 (pc := 6) cs_X12_48 (r_in l _ _ _) rfl rfl (Nat.le_of_ble_eq_true rfl) ⟨(Nat.le_of_ble_eq_true rfl), (Nat.le_of_ble_eq_true rfl)⟩ ⟨Nat.zero_le _, Nat.zero_le _⟩ dX12_heart_6 ?_
  refine A_ifne (pc := 9) 18 dX12_heart_9 (by decide) (fun hb9 => ?_) (fun hb9 => ?_)
  · refine A_iconst (pc := 18) (-1) dX12_heart_18 (by decide) ?_
    refine A_ist2 (pc := 19) dX12_heart_19 (Nat.le_of_ble_eq_true rfl) rfl ?_
    refine A_iconst (pc := 20) (0) dX12_heart_20 (by decide) ?_
    refine A_ist3 (pc := 21) dX12_heart_21 (Nat.le_of_ble_eq_true rfl) rfl ?_
    refine A_iconst (pc := 22) (1) dX12_heart_22 (by decide) ?_
    refine A_ist4 (pc := 23) dX12_heart_23 (Nat.le_of_ble_eq_true rfl) rfl ?_
    rw [show (d_heart x y0 H D iv) = ((hr2 (he_t y0 H) x D 1 0 (-1) iv).2.1, (hr2 (he_t y0 H) x D 1 0 (-1) iv).2.2) from by rw [d_heart, if_neg hb9]]
    exact hr_out l hR y0 hz50 H x D 1 0 (-1) iv none none hH hz (by omega)
  · refine A_aload_n (pc := 12) (i := 0) dX12_heart_12 rfl rfl ?_
    refine A_iconst (pc := 13) (1) dX12_heart_13 (by decide) ?_
    refine A_callV1 (pc := 14) cv_X12_65 (r_fnd1 l hR) hR.1 rfl rfl rfl rfl (Nat.le_of_ble_eq_true rfl) ⟨(Nat.le_of_ble_eq_true rfl), (Nat.le_of_ble_eq_true rfl)⟩ ⟨Nat.zero_le _, Nat.zero_le _⟩ dX12_heart_14 ?_
    exact A_iretE (pc := 17) dX12_heart_17 rfl (Nat.zero_le _) (Nat.zero_le _) (by rw [d_heart, if_pos hb9]) (by rw [d_heart, if_pos hb9])
theorem call_heart (l : Launch) {kd : am_kd} {rv : am_rv} {iv : am_iv} (h : REL kd rv iv iv) (x : Int32) : CALL l kd rv iv mX11_heart mX12_heart [am_I x] := by
  obtain ⟨n, nl, ln, lk, z0, y0, z1, y1, zt, zw, hX⟩ := h.n
  have hn := hX.1.1.1
  have hn8 := hX.1.1.2.2
  have hl := hX.laws
  obtain ⟨D, hD⟩ : ∃ D : Nat, D = 400 := ⟨_, rfl⟩
  refine CALL.ff (d2 := 50) h (c_heart x z0 (iv (2, 0, 0) 7) D) (d_heart x y0 (iv (2, 0, 0) 7) D) (p_heart l h.S x z0 _ D hD hX.2.2.2.1.1.1 hX.2.2.2.1.1.2.1 rfl) (fun q k hq => ?_) (fun h1 eu => ?_) (by decide) (by decide) (fun u hu eu => ?_) (fun u q k hq => ?_)
  · unfold c_heart
    split
    · exact er_u hq
    · exact he2_G _ _ _ _ _ _ _ (by unfold gb; unfold uN at hq; omega)
  · exact q_heart l h1.R x y0 _ D hD (hX.u eu).2.2.2.1.1.2.2.1 hX.2.2.2.1.1.2.2.2.1 (hX.u eu).2.2.1.2.2.1.1.symm
  · have hX := hX.u eu
    obtain ⟨f5, f6, f7⟩ := hX.2.2.1.2.2.1
    unfold c_heart d_heart
    by_cases c : sr_b (1 ≤ x ∧ x ≤ 9999) = 0
    · rw [if_pos c, if_pos c]; exact ⟨rfl, hu.err 1 (by decide)⟩
    · rw [if_neg c, if_neg c]
      exact ⟨heart_same hD f6 f7 ((sr_b_1 _).mp c).1 hX, hu.chG (he2_G _ _ _ _ _) (hr2_V _ _ _ _ _)⟩
  · unfold d_heart
    split
    · exact rx_c hq
    · exact (hr2_V _ _ _ _ _).c hq
