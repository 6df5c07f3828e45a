theorem gx_fi {T T' : am_iv → am_iv} {n m : am_N} {r : Nat} {R : am_iv → am_iv → Prop} (hR : ∀ w u, R w u → R (T w) (T' u)) (hX : ∀ w u, R w u → w n 7 = rf u m r 7 ∧ w n 1 = rf u m r 1 ∧ (w n 7 = 0 ∨ w n 7 = 1)) (d : Nat) : ∀ (g : Int32) (w u : am_iv), R w u → (fi T' m r d g u).1 = (gx T n d (if rf u m r 7 = 1 then (if rf u m r 1 ≤ g then g else rf u m r 1) else g) w).1 := by
  induction d with
  | zero =>
    intro g w u h
    unfold fi gx
    split <;> rfl
  | succ d ih =>
    intro g w u h
    obtain ⟨h7, h1, hb⟩ := hX w u h
    have h2 := hR w u h
    obtain ⟨k7, k1, kb⟩ := hX _ _ h2
    unfold fi gx
    by_cases c : rf u m r 7 = 1
    · have c0 : ¬ w n 7 = 0 := by rw [h7, c]; decide
      rw [if_pos c, if_pos c, if_neg c0, ih _ (T w) (T' u) h2]
      by_cases q : rf (T' u) m r 7 = 1
      · have q0 : ¬ T w n 7 = 0 := by rw [k7, q]; decide
        rw [if_pos q, if_neg q0, k1]
        generalize (if rf u m r 1 ≤ g then g else rf u m r 1) = G
        by_cases p : rf (T' u) m r 1 ≤ G
        · rw [if_pos p, if_neg (Int32.not_lt.mpr p)]
        · rw [if_neg p, if_pos (Int32.not_le.mp p)]
      · have q0 : T w n 7 = 0 := by
          rcases kb with e | e
          · exact e
          · exact absurd (k7.symm.trans e) q
        rw [if_neg q, if_pos q0]
    · have c0 : w n 7 = 0 := by
        rcases hb with e | e
        · exact e
        · exact absurd (h7.symm.trans e) c
      rw [if_neg c, if_neg c, if_pos c0]
