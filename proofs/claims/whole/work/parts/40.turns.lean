theorem tf_ge {T : am_iv → am_iv} {F : am_iv → Int32} (d : Nat) : ∀ (a : Nat) (f : Int32) (u : am_iv), ∃ x, a ≤ x ∧ x ≤ a + d ∧ (tf T F d (nI a) f u).1 = nI x := by
  induction d with
  | zero => intro a f u; exact ⟨a, Nat.le_refl a, Nat.le_refl _, rfl⟩
  | succ d ih =>
    intro a f u
    unfold tf
    split
    · exact ⟨a, Nat.le_refl a, by omega, rfl⟩
    · split
      · rw [nI_1]
        obtain ⟨x, h1, h2, h3⟩ := ih (a + 1) (F (T u)) (T u)
        exact ⟨x, by omega, by omega, h3⟩
      · rw [Int32.add_zero]
        obtain ⟨x, h1, h2, h3⟩ := ih a (F (T u)) (T u)
        exact ⟨x, h1, by omega, h3⟩
theorem cf_neg {T : am_iv → am_iv} {F : am_iv → Int32} {e : Int32} (hs : ∀ w, F w < 0 → F (T w) < 0) (d : Nat) : ∀ (c f : Int32) (w : am_iv), f < 0 → F w < 0 → (cf T F e d c f w).1 = c := by
  induction d with
  | zero => intro c f w _ _; rfl
  | succ d ih =>
    intro c f w hf hw
    unfold cf
    split
    · rfl
    · rw [if_neg (fun h => h.1 hf)]
      exact ih c _ _ (hs w hw) (hs w hw)
/-- R: what the class' and the reference's heaps have to do with one another -/
theorem cf_tf {T T' : am_iv → am_iv} {F F' : am_iv → Int32} {R : am_iv → am_iv → Prop} (hs : ∀ w, F w < 0 → F (T w) < 0) (hR : ∀ w u, R w u → R (T w) (T' u)) (hF : ∀ w u, R w u → F w = F' u) (b : Nat) (hb : b < 1000) (d : Nat) : ∀ (a : Nat) (w u : am_iv), a ≤ b → a + d < 1000 → R w u → ∃ x, a ≤ x ∧ x ≤ a + d ∧ (tf T' F' d (nI a) (F' u) u).1 = nI x ∧ (cf T F (nI b) d (nI a) (F w) w).1 = nI (min b x) := by
  induction d with
  | zero => intro a w u hab _ h; exact ⟨a, Nat.le_refl a, Nat.le_refl _, rfl, by rw [show min b a = a by omega]; rfl⟩
  | succ d ih =>
    intro a w u hab had h
    have e1 := hF w u h
    have e2 := hF _ _ (hR w u h)
    by_cases c : nI b ≤ nI a
    · have hba : b ≤ a := by
        rcases Nat.lt_or_ge a b with g | g
        · exact absurd c (nI_ge g (by omega))
        · exact g
      obtain ⟨x, h1, h2, h3⟩ := tf_ge (T := T') (F := F') (d + 1) a (F' u) u
      refine ⟨x, h1, h2, h3, ?_⟩
      rw [cf, if_pos c, show min b x = a by omega]
    · have hab2 : a < b := nI_dec c hab (by omega)
      by_cases f0 : F w < 0
      · refine ⟨a, Nat.le_refl a, by omega, ?_, ?_⟩
        · rw [tf, if_pos (by rw [← e1]; exact f0)]
        · rw [cf_neg hs (d + 1) _ _ _ f0 f0, show min b a = a by omega]
      · have f0' : ¬ F' u < 0 := by rw [← e1]; exact f0
        rw [cf, if_neg c, tf, if_neg f0', e2, e1]
        by_cases g : ¬ F' (T' u) < 0 ∧ ¬ F' (T' u) = F' u
        · have g3 : ¬ F' u < 0 ∧ ¬ F' (T' u) < 0 ∧ ¬ F' u = F' (T' u) := ⟨f0', g.1, fun q => g.2 q.symm⟩
          rw [if_pos g3, if_pos g, nI_1]
          obtain ⟨x, h1, h2, h3, h4⟩ := ih (a + 1) (T w) (T' u) (by omega) (by omega) (hR w u h)
          rw [e2] at h4
          exact ⟨x, by omega, by omega, h3, h4⟩
        · have g3 : ¬ (¬ F' u < 0 ∧ ¬ F' (T' u) < 0 ∧ ¬ F' u = F' (T' u)) := fun q => g ⟨q.2.1, fun q2 => q.2.2 q2.symm⟩
          rw [if_neg g3, if_neg g, Int32.add_zero]
          obtain ⟨x, h1, h2, h3, h4⟩ := ih a (T w) (T' u) hab (by omega) (hR w u h)
          rw [e2] at h4
          exact ⟨x, h1, by omega, h3, h4⟩
