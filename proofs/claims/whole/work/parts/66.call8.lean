theorem tx_W_o {u zt : Nat} {iv : am_iv} {q : am_N} {k : Nat} (h1 : q ≠ (9, 4, 0)) (h2 : q ≠ (10, 4, 0)) (h3 : q ≠ (11, 4, 0)) (h4 : ¬ (q = (12, 0, 0) ∧ k = 1)) : tx_W u zt iv q k = iv q k := by
  unfold tx_W tx_R
  rw [am_ui_n h4, td_read_o h1 h2 h3]
  unfold td_start
  rw [am_ui_o h1, am_ui_o h1, am_ui_o h1, am_ui_o h1, am_ui_o h1]
/-- the class' reading of the tape, by lists -/
theorem tx_R_l {u zt : Nat} {iv : am_iv} (hz : zt ≤ 50) : (tx_R u zt iv).1 = (lread u (fun k => iv (13, 0, 0) k) zt 0 ([], [], 0, 0, 1)).1 ∧ ((lread u (fun k => iv (13, 0, 0) k) zt 0 ([], [], 0, 0, 1)).1 < 0 → (tx_R u zt iv).2 (9, 4, 0) 1 = nI (lread u (fun k => iv (13, 0, 0) k) zt 0 ([], [], 0, 0, 1)).2.length ∧ sv_ok (10, 4, 0) (tx_R u zt iv).2 (lread u (fun k => iv (13, 0, 0) k) zt 0 ([], [], 0, 0, 1)).2 ∧ (lread u (fun k => iv (13, 0, 0) k) zt 0 ([], [], 0, 0, 1)).2.length ≤ 50) := by
  have h0 : lh (9, 4, 0) (10, 4, 0) (11, 4, 0) (td_start (9, 4, 0) iv) ([], [], 0, 0, 1) := by
    unfold td_start
    refine ⟨?_, ?_, ?_, ?_, am_ui_s _ _ _ _, fun i hi => absurd hi (by simp), fun i hi => absurd hi (by simp)⟩
    · rw [am_ui_n (by simp), am_ui_n (by simp), am_ui_n (by simp), am_ui_n (by simp), am_ui_s]; rfl
    · rw [am_ui_n (by simp), am_ui_n (by simp), am_ui_n (by simp), am_ui_s]; rfl
    · rw [am_ui_n (by simp), am_ui_n (by simp), am_ui_s]
    · rw [am_ui_n (by simp), am_ui_s]
  have := lh.read (u := u) (bt := fun k => iv (13, 0, 0) k) (n := (9, 4, 0)) (c := (10, 4, 0)) (s := (11, 4, 0)) (by simp) (by simp) (by simp) zt 0 _ _ h0 (by simpa using hz)
  exact ⟨this.1, fun z => this.2 z (by omega)⟩
theorem hpw_o {iv : am_iv} {s : ps} {b n : Nat} {g : Int32} {q : am_N} {k : Nat} (h : ¬ (q = (30, 0, 0) ∧ 7 ≤ k ∧ k ≤ 12)) : hp (wk_iv b n g iv) s q k = iv q k := by
  have w : wk_iv b n g iv q k = iv q k := by
    unfold wk_iv
    rw [am_ui_n (fun e => h ⟨e.1, by omega⟩), am_ui_n (fun e => h ⟨e.1, by omega⟩), am_ui_n (fun e => h ⟨e.1, by omega⟩)]
  unfold hp
  by_cases e : q = (30, 0, 0)
  · rw [if_pos e, if_neg (fun z => h ⟨e, by omega⟩), if_neg (fun z => h ⟨e, by omega⟩), if_neg (fun z => h ⟨e, by omega⟩)]
    exact w
  · rw [if_neg e]; exact w
theorem tx_H_o {u zt : Nat} {iv : am_iv} {q : am_N} {k : Nat} (h1 : ¬ (q = (30, 0, 0) ∧ 7 ≤ k ∧ k ≤ 12)) (h2 : ¬ (q = (31, 0, 0) ∧ k = 7)) : tx_H u zt iv q k = iv q k := by
  unfold tx_H
  rw [hpw_o h1, am_ui_n h2]
theorem tx_H_7 {u zt : Nat} {iv : am_iv} : tx_H u zt iv (31, 0, 0) 7 = 0 := by
  unfold tx_H
  rw [hpw_o (by simp), am_ui_s]
theorem tc_o {use k p : Nat} {w : am_iv} {q : am_N} (h : q ≠ (31, 0, 0) ∨ p < 150 + 50 * use ∨ 150 + 50 * use + k ≤ p) : tc use w k q p = w q p := by
  unfold tc
  rw [if_neg (fun e => h.elim (fun z => z e.1) (fun z => by omega))]
theorem tc_v {use k p : Nat} {w : am_iv} (h : p < k) : tc use w k (31, 0, 0) (150 + 50 * use + p) = w (31, 0, 0) (250 + p) := by
  unfold tc
  rw [if_pos ⟨rfl, by omega, by omega⟩, show 150 + 50 * use + p - (150 + 50 * use) = p by omega]
theorem text_rel {kd : am_kd} {rv : am_rv} {n nl : Nat} {ln : Nat → am_N} {lk : Nat → Nat} {z0 y0 z1 y1 zt zw : Nat} {w u : am_iv} (hu : REL kd rv w u) (hX : rX kd rv 0 0 n nl ln lk z0 y0 z1 y1 zt zw w u) (use : Nat) (h2 : use < 2) : (c_text use zt w).1 = (d_text use zt u).1 ∧ REL kd rv (c_text use zt w).2 (d_text use zt u).2 := by
  have hn8 := hX.1.1.2.2
  obtain ⟨⟨a0, b0⟩, l0, f0, ⟨t0, t1⟩, ⟨p1, p2, p3, p4⟩, g0⟩ := hX
  obtain ⟨r1, r2⟩ := tx_R_l (u := use) (iv := w) p3
  have hbt : ∀ p, p < zt → am_ui u (31, 0, 0) 7 0 (31, 0, 0) (250 + p) = w (13, 0, 0) p := fun p hp => by rw [am_ui_n (by omega)]; exact (p4 p hp).1.symm
  have eV : tx_V use zt u = pV (fun k => w (13, 0, 0) k) zt (if nI use = 0 then 1 else 0) (fun q => am_ui u (31, 0, 0) 7 0 (31, 13, 0) q) := pV_c hbt _ _
  obtain ⟨q1, q2⟩ := read_alike (u := use) (t := fun k => w (13, 0, 0) k) (n := zt) (g := if nI use = 0 then 1 else 0) (nm := fun q => am_ui u (31, 0, 0) 7 0 (31, 13, 0) q) (by omega) (fun c => pnm_sx h2 c) rfl rfl rfl
  rw [← eV] at q1 q2
  -- what both leave
  have hw : ∀ q k, q ≠ (9, 4, 0) → q ≠ (10, 4, 0) → q ≠ (11, 4, 0) → ¬ (q = (12, 0, 0) ∧ k = 1) → tx_W use zt w q k = w q k := fun q k => tx_W_o
  have dead0 : ∀ w' u' : am_iv, (∀ q k, (dG q k ∨ dR 3 q k ∨ ((q.1 = 4 ∨ q.1 = 6) ∧ k = 0)) → w' q k = tx_W use zt w q k) → (∀ q k, (dU q k ∨ q = (31, 4, 0)) → u' q k = tx_H use zt u q k) → rR kd rv 0 0 w' u' → REL kd rv w' u' := fun w' u' e1 e2 hr => by
    refine hu.upd0 (fun q k z => (e1 q k z).trans (hw q k ?_ ?_ ?_ ?_)) (fun q k z => (e2 q k z).trans (tx_H_o ?_ ?_)) hr
    · intro e; subst e; unfold dG dR at z; simp at z
    · intro e; subst e; unfold dG dR at z; simp at z
    · intro e; subst e; unfold dG dR at z; simp at z
    · intro e; obtain ⟨e1, e2⟩ := e; subst e1; unfold dG dR at z; simp at z
    · intro e; obtain ⟨e1, e2⟩ := e; subst e1; unfold dU at z; simp at z; omega
    · intro e; exact (dU_ne z).1 e.1
  have w12 : tx_W use zt w (12, 0, 0) 1 = nI 0 := am_ui_s _ _ _ _
  unfold c_text d_text
  by_cases c : (tx_V use zt u).2.2.1 < 0
  · obtain ⟨e1, e2⟩ := q1 c
    have hl : (lread use (fun k => w (13, 0, 0) k) zt 0 ([], [], 0, 0, 1)).1 < 0 := by rw [e1]; decide
    rw [if_pos c, if_pos (by rw [r1]; exact hl)]
    obtain ⟨s1, s2, s3⟩ := r2 hl
    generalize hcs : (lread use (fun k => w (13, 0, 0) k) zt 0 ([], [], 0, 0, 1)).2 = cs at s1 s2 s3
    have eW1 : tx_W use zt w (9, 4, 0) 1 = nI cs.length := by unfold tx_W; rw [am_ui_o (by simp)]; exact s1
    have ez : (tx_W use zt w (9, 4, 0) 1).toNatClampNeg = cs.length := by rw [eW1]; exact nI_clamp (by omega)
    dsimp only
    rw [ez]
    have ew : ∀ q k, q ≠ (9, 4, 0) → q ≠ (10, 4, 0) → q ≠ (11, 4, 0) → ¬ (q = (12, 0, 0) ∧ k = 1) → q ≠ (9, 0, use) → q ≠ (10, 0, use) → tx_cp (9, 0, use) (10, 0, use) (10, 4, 0) cs.length (tx_W use zt w) q k = w q k := fun q k n1 n2 n3 n4 n5 n6 => (tx_cp_o n5 n6).trans (hw q k n1 n2 n3 n4)
    have eu : ∀ k, k ≠ 7 → k ≠ 40 + use → (k < 150 + 50 * use ∨ 150 + 50 * use + 50 ≤ k) → tc use (am_ui (tx_H use zt u) (31, 0, 0) (40 + use) (nI zt)) zt (31, 0, 0) k = u (31, 0, 0) k := fun k n1 n2 n3 => by
      rw [tc_o (Or.inr (by omega)), am_ui_n (by simp [n2]), tx_H_o (by simp) (by simp [n1])]
    refine ⟨rfl, dead0 _ _ (fun q k z => tx_cp_o ?_ ?_) (fun q k z => by rw [tc_o (Or.inl (dU_ne z).1), am_ui_o (dU_ne z).1]) ?_⟩
    · intro e; subst e; unfold dG dR at z; simp at z
    · intro e; subst e; unfold dG dR at z; simp at z
    have hT : rR_t 0 0 use cs.length zt (tx_cp (9, 0, use) (10, 0, use) (10, 4, 0) cs.length (tx_W use zt w)) (tc use (am_ui (tx_H use zt u) (31, 0, 0) (40 + use) (nI zt)) zt) := by
      refine ⟨?_, s3, ?_, p3, ?_⟩
      · unfold tx_cp; rw [am_cpy_o (by simp), am_ui_s]
      · rw [tc_o (Or.inr (by omega)), am_ui_s]
      · have hr := tRel_read (u := use) (z := cs.length) (n := zt) (cd := (tx_R use zt w).2 (10, 4, 0)) (bt := fun k => w (13, 0, 0) k) (cs := cs) h2 (by omega) rfl s2 hcs hl
        refine hr.c (fun k hk => ?_) (fun p hp => ?_)
        · unfold tx_cp
          rw [cpy_v hk, am_ui_o (by simp)]
          unfold tx_W
          rw [am_ui_o (by simp)]
        · show tc use _ zt (31, 0, 0) (150 + 50 * use + p) = w (13, 0, 0) p
          rw [tc_v hp, am_ui_n (by omega), tx_H_o (by simp) (by omega)]
          exact (p4 p hp).1.symm
    have e4 : ∀ r k, tx_cp (9, 0, use) (10, 0, use) (10, 4, 0) cs.length (tx_W use zt w) (4, 0, r) k = w (4, 0, r) k := fun r k => ew _ _ (by simp) (by simp) (by simp) (by simp) (by simp) (by simp)
    have e2' : ∀ k, tx_cp (9, 0, use) (10, 0, use) (10, 4, 0) cs.length (tx_W use zt w) (2, 0, 0) k = w (2, 0, 0) k := fun k => ew _ _ (by simp) (by simp) (by simp) (by simp) (by simp) (by simp)
    have hP : rR_p 0 0 0 (tx_cp (9, 0, use) (10, 0, use) (10, 4, 0) cs.length (tx_W use zt w)) (tc use (am_ui (tx_H use zt u) (31, 0, 0) (40 + use) (nI zt)) zt) := ⟨(tx_cp_o (by simp) (by simp)).trans w12, by rw [tc_o (Or.inr (by omega)), am_ui_n (by omega)]; exact tx_H_7, by decide, fun k hk => by omega⟩
    have hA := a0.c (e2' 1) (eu 1 (by decide) (by omega) (by omega))
    have hB := b0.c hn8 e4 (fun k _ _ => eu k (by omega) (by omega) (by omega))
    have hL := l0.c (e2' 4) (fun q k hq => ew q k (fun e => by subst e; simp at hq) (fun e => by subst e; simp at hq) (fun e => by subst e; simp at hq) (fun e => by have e1 := e.1; subst e1; simp at hq) (fun e => by subst e; simp at hq) (fun e => by subst e; simp at hq)) (fun k hk => eu k (by omega) (by omega) (by omega))
    have hF := f0.c (fun k _ _ => e2' k) (fun k hk => eu k (by omega) (by omega) (by omega))
    have hG := g0.c (ew _ _ (by simp) (by simp) (by simp) (by simp) (by simp) (by simp)) (fun k => ew _ _ (by simp) (by simp) (by simp) (by simp) (by simp) (by simp)) (fun k hk => eu k (by omega) (by omega) (by omega))
    rcases (show use = 0 ∨ use = 1 by omega) with rfl | rfl
    · have hO := t1.c (ew (9, 0, 1) 1 (by simp) (by simp) (by simp) (by simp) (by simp) (by simp)) (fun k => ew (10, 0, 1) k (by simp) (by simp) (by simp) (by simp) (by simp) (by simp)) (eu _ (by decide) (by decide) (by decide)) (fun p hp => eu _ (by omega) (by omega) (by omega))
      exact (show rX kd rv 0 0 n nl ln lk cs.length zt z1 y1 0 zw _ _ from ⟨⟨hA, hB⟩, hL, hF, ⟨hT, hO⟩, hP, hG⟩).r
    · have hO := t0.c (ew (9, 0, 0) 1 (by simp) (by simp) (by simp) (by simp) (by simp) (by simp)) (fun k => ew (10, 0, 0) k (by simp) (by simp) (by simp) (by simp) (by simp) (by simp)) (eu _ (by decide) (by decide) (by decide)) (fun p hp => eu _ (by omega) (by omega) (by omega))
      exact (show rX kd rv 0 0 n nl ln lk z0 y0 cs.length zt 0 zw _ _ from ⟨⟨hA, hB⟩, hL, hF, ⟨hO, hT⟩, hP, hG⟩).r
  · have e := q2 c
    have hl : ¬ (tx_R use zt w).1 < 0 := by rw [r1, e]; exact c
    rw [if_neg c, if_neg hl, r1, e]
    have ew : ∀ q k, q ≠ (9, 4, 0) → q ≠ (10, 4, 0) → q ≠ (11, 4, 0) → ¬ (q = (12, 0, 0) ∧ k = 1) → tx_W use zt w q k = w q k := hw
    have eu : ∀ k, k ≠ 7 → tx_H use zt u (31, 0, 0) k = u (31, 0, 0) k := fun k n1 => tx_H_o (by simp) (by simp [n1])
    refine ⟨rfl, dead0 _ _ (fun q k z => rfl) (fun q k z => rfl) ?_⟩
    exact (show rX kd rv 0 0 n nl ln lk z0 y0 z1 y1 0 zw _ _ from ⟨⟨a0.c (ew _ _ (by simp) (by simp) (by simp) (by simp)) (eu 1 (by decide)), b0.c hn8 (fun r k => ew _ _ (by simp) (by simp) (by simp) (by simp)) (fun k _ _ => eu k (by omega))⟩, l0.c (ew _ _ (by simp) (by simp) (by simp) (by simp)) (fun q k hq => ew q k (fun e => by subst e; simp at hq) (fun e => by subst e; simp at hq) (fun e => by subst e; simp at hq) (fun e => by have e1 := e.1; subst e1; simp at hq)) (fun k hk => eu k (by omega)), f0.c (fun k _ _ => ew _ _ (by simp) (by simp) (by simp) (by simp)) (fun k hk => eu k (by omega)), ⟨t0.c (ew _ _ (by simp) (by simp) (by simp) (by simp)) (fun k => ew _ _ (by simp) (by simp) (by simp) (by simp)) (eu _ (by decide)) (fun p hp => eu _ (by omega)), t1.c (ew _ _ (by simp) (by simp) (by simp) (by simp)) (fun k => ew _ _ (by simp) (by simp) (by simp) (by simp)) (eu _ (by decide)) (fun p hp => eu _ (by omega))⟩, ⟨w12, tx_H_7, by decide, fun k hk => by omega⟩, g0.c (ew _ _ (by simp) (by simp) (by simp) (by simp)) (fun k => ew _ _ (by simp) (by simp) (by simp) (by simp)) (fun k hk => eu k (by omega))⟩).r
theorem text_fc {use zt : Nat} {w : am_iv} {q : am_N} {k : Nat} (hq : uN q) : (c_text use zt w).2 q k = w q k := by
  have n : ∀ a b c : Nat, a ≤ 22 → q ≠ (a, b, c) := fun a b c ha e => by subst e; unfold uN at hq; simp at hq; omega
  have e : tx_W use zt w q k = w q k := tx_W_o (n _ _ _ (by decide)) (n _ _ _ (by decide)) (n _ _ _ (by decide)) (fun e => n _ _ _ (by decide) e.1)
  unfold c_text
  split
  · exact (tx_cp_o (n _ _ _ (by decide)) (n _ _ _ (by decide))).trans e
  · exact e
theorem text_fr {use zt : Nat} {u : am_iv} {q : am_N} {k : Nat} (hq : cN q) : (d_text use zt u).2 q k = u q k := by
  have n : ∀ a b c : Nat, 30 ≤ a → q ≠ (a, b, c) := fun a b c ha e => by subst e; unfold cN at hq; simp at hq; omega
  have e : tx_H use zt u q k = u q k := tx_H_o (fun e => n _ _ _ (by decide) e.1) (fun e => n _ _ _ (by decide) e.1)
  unfold d_text
  split
  · show tc use _ zt q k = u q k
    rw [tc_o (Or.inl (n _ _ _ (by decide))), am_ui_o (n _ _ _ (by decide))]
    exact e
  · exact e
theorem call_text (l : Launch) {kd : am_kd} {rv : am_rv} {iv : am_iv} (h : REL kd rv iv iv) (x : Int32) : CALL l kd rv iv mX11_text mX12_text [am_I x] := by
  obtain ⟨n, nl, ln, lk, z0, y0, z1, y1, zt, zw, hX⟩ := h.n
  have hp := hX.2.2.2.2.1
  by_cases c : sr_b (0 ≤ x ∧ x ≤ 1) = 0
  · exact CALL.of (p_textE l h.S x c) (q_textE l h.R x c) (by decide) (by decide) rfl ((h.same (w' := iv) (u' := er_heap 1 iv) (fun _ _ _ => rfl) (fun q k hq => er_u hq)).err 1 (by decide)) (fun q k hq => rx_c hq)
  · have hx := (sr_b_1 _).mp c
    have hx2 := nI_cl_le (n := 1) hx.1 hx.2 (by decide)
    have ex := nI_cl hx.1
    rcases (show x.toNatClampNeg = 0 ∨ x.toNatClampNeg = 1 by omega) with e | e
    · have e0 : x = 0 := by rw [ex, e]; rfl
      subst e0
      exact CALL.ff (d2 := 40) h (c_text 0 zt) (d_text 0 zt) (p_text0 l h.S (h.1.2.2.1 0 (by decide) 0 (by decide)) (h.1.2.2.1 0 (by decide) 1 (by decide)) zt hp.1 hp.2.2.1 (fun k hk => (hp.2.2.2 k hk).2)) (fun q k hq => text_fc hq) (fun h1 eu => q_text0 l h1.R zt (hX.u eu).2.2.2.2.1.2.1 hp.2.2.1) (by decide) (by decide) (fun u hu eu => text_rel hu (hX.u eu) 0 (by decide)) (fun u q k hq => text_fr hq)
    · have e0 : x = 1 := by rw [ex, e]; rfl
      subst e0
      exact CALL.ff (d2 := 40) h (c_text 1 zt) (d_text 1 zt) (p_text1 l h.S (h.1.2.2.1 1 (by decide) 0 (by decide)) (h.1.2.2.1 1 (by decide) 1 (by decide)) zt hp.1 hp.2.2.1 (fun k hk => (hp.2.2.2 k hk).2)) (fun q k hq => text_fc hq) (fun h1 eu => q_text1 l h1.R zt (hX.u eu).2.2.2.2.1.2.1 hp.2.2.1) (by decide) (by decide) (fun u hu eu => text_rel hu (hX.u eu) 1 (by decide)) (fun u q k hq => text_fr hq)
