section
variable {l : Launch} {M : am_M} {R : Room} {post : am_Post} {pc : Nat} {st : List am_V} {kd : am_kd} {rv : am_rv} {iv : am_iv} {cu su : Nat}
theorem A_ls4 {a0 a1 a2 a3 : Option am_V} {t : List (Option am_V)} {x y : Int32} (h : x = y) (k : am_W l M R post pc (a0 :: a1 :: a2 :: a3 :: some (am_I y) :: t) st kd rv iv cu su) : am_W l M R post pc (a0 :: a1 :: a2 :: a3 :: some (am_I x) :: t) st kd rv iv cu su := h ▸ k
end
theorem and1 (x : Int32) : x &&& 1 = 0 ∨ x &&& 1 = 1 := by
  have h : (x &&& 1).toBitVec = BitVec.setWidth 32 (BitVec.ofBool (x.toBitVec.getLsbD 0)) := by
    rw [Int32.toBitVec_and]
    exact BitVec.and_one_eq_setWidth_ofBool_getLsbD
  cases hb : x.toBitVec.getLsbD 0 with
  | false => rw [hb] at h; exact Or.inl (Int32.toBitVec_inj.1 (h.trans (by decide)))
  | true => rw [hb] at h; exact Or.inr (Int32.toBitVec_inj.1 (h.trans (by decide)))
theorem rx_on1 (on : Int32) (j : Nat) : (on >>> (nI j &&& 31)) &&& 1 = 1 ↔ rm_on on (nI j) := by
  unfold rm_on
  rcases and1 (on >>> (nI j &&& 31)) with h | h <;> rw [h] <;> decide
/-- what is so of a row of numbers m (31, a, 0) and of what it was (31, 3, 0), while a tick goes by -/
def rt_ok (iv : am_iv) (a n nl z : Nat) (lk : Nat → Nat) : Prop := iv (31, a, 0) 1 = nI n ∧ n ≤ 8 ∧ iv (31, a, 0) 2 = nI nl ∧ nl ≤ 6 ∧ (∀ j, j < nl → lk j < 7 ∧ iv (31, 3, 0) (20 + 2 * j) = nI (lk j) ∧ iv (31, a, 0) (20 + 2 * j) = nI (lk j)) ∧ (-99999 ≤ (iv (31, 3, 0) 4).toInt ∧ (iv (31, 3, 0) 4).toInt ≤ 99999) ∧ (∀ r, r < n → rok (rf iv (31, 3, 0) r)) ∧ iv (31, 0, 0) 41 = nI z ∧ z ≤ 50
noncomputable def rt_h3 (iv : am_iv) (a n nl r : Nat) (lk : Nat → Nat) : am_iv := am_ui (am_ui (am_ui iv (31, a, 0) (79 + 8 * r + 1) (sr_held (rf iv (31, 3, 0) r 1 + rg_pace (rf iv (31, 3, 0) r) * rf iv (31, 3, 0) r 3) (-99999) 99999)) (31, a, 0) (79 + 8 * r + 5) (sr_held (rm_wid (iv (31, a, 0) 3) (iv (31, 3, 0) 4) lk (fun j => iv (31, 3, 0) (21 + 2 * j)) n (rf iv (31, 3, 0) r) (fun k => rf iv (31, 3, 0) k) nl) 1 200)) (31, a, 0) (79 + 8 * r + 2) (sr_held (rf iv (31, 3, 0) r 2 + rm_lift (iv (31, a, 0) 3) (iv (31, 3, 0) 4) lk (fun j => iv (31, 3, 0) (21 + 2 * j)) (rf iv (31, 3, 0) r) nl) (-999) 999)
noncomputable def rt_on (iv : am_iv) (a n nl z r : Nat) (lk : Nat → Nat) : am_iv := am_ui (gr_heap 1 z (rf iv (31, 3, 0) r 4) (rf iv (31, 3, 0) r 5) (rf iv (31, 3, 0) r 6) (rt_h3 iv a n nl r lk)) (31, a, 0) (79 + 8 * r + 4) (sr_held (rf iv (31, 3, 0) r 4 - sr_held (gr_raw 1 z (rf iv (31, 3, 0) r 4) (rf iv (31, 3, 0) r 5) (rf iv (31, 3, 0) r 6) (rt_h3 iv a n nl r lk)) 0 999) 0 999)
theorem rt_h3_o {iv : am_iv} {a n nl r : Nat} {lk : Nat → Nat} {q : am_N} {k : Nat} (h : ¬ (q = (31, a, 0) ∧ 80 ≤ k ∧ k < 144)) (hr : r < 8) : rt_h3 iv a n nl r lk q k = iv q k := by
  unfold rt_h3
  rw [am_ui_n (fun e => h ⟨e.1, by omega⟩), am_ui_n (fun e => h ⟨e.1, by omega⟩), am_ui_n (fun e => h ⟨e.1, by omega⟩)]
theorem gr_heap_o {u n : Nat} {x y w : Int32} {iv : am_iv} {q : am_N} {k : Nat} (h1 : q ≠ (30, 0, 0)) (h2 : q ≠ (31, 13, 0)) : gr_heap u n x y w iv q k = iv q k := by
  unfold gr_heap
  split
  · rw [hp_o h1]
    unfold wk_iv gr_names
    rw [am_ui_o h1, am_ui_o h1, am_ui_o h1, am_ui_o h2, am_ui_o h2, am_ui_o h2]
  · rfl
theorem rt_on_o {iv : am_iv} {a n nl z r : Nat} {lk : Nat → Nat} {q : am_N} {k : Nat} (h : ¬ (q = (31, a, 0) ∧ 80 ≤ k ∧ k < 144)) (hr : r < 8) (h1 : q ≠ (30, 0, 0)) (h2 : q ≠ (31, 13, 0)) : rt_on iv a n nl z r lk q k = iv q k := by
  unfold rt_on
  rw [am_ui_n (fun e => h ⟨e.1, by omega⟩), gr_heap_o h1 h2, rt_h3_o h hr]
set_option maxRecDepth 20000 in
theorem r_goesOn (l : Launch) {kd : am_kd} {rv : am_rv} {iv : am_iv} (hR : shr kd rv) (a : Nat) (ha : a < 3) (hm : kd (31, a, 0) = some (.inr (0, 300))) (n nl z : Nat) (lk : Nat → Nat) (ok : rt_ok iv a n nl z lk) (r : Nat) (hr : r < n) : am_Met l mX12_goesOn (am_rm 40 0 0) [am_P (30, 0, 0), am_P (31, a, 0), am_I (nI r)] kd rv iv (am_ret none kd rv (rt_on iv a n nl z r lk)) := by
  refine am_Met.of (by decide) (Nat.le_of_ble_eq_true rfl) rfl ?_
  obtain ⟨hn, hn8, hnl, hnl6, hlw, wl, hro, hz, hz50⟩ := ok
  have hr8 : r < 8 := by omega
  have hnn : n < 2 ^ 31 := by omega
  have hlnn : nl < 2 ^ 31 := by omega
  have g := hro r hr
  have ha3 : ¬ a = 3 := by omega
  have outer := am_for (fun k => ∀ y7 : Option am_V, am_W l mX12_goesOn (am_rm 40 0 0) (am_ret none kd rv (rt_on iv a n nl z r lk)) 33 [some (am_P (30, 0, 0)), some (am_P (31, a, 0)), some (am_I (nI r)), some (am_I (nI (80 + 8 * r))), some (am_I (rm_wid (iv (31, a, 0) 3) (iv (31, 3, 0) 4) lk (fun j => iv (31, 3, 0) (21 + 2 * j)) n (rf iv (31, 3, 0) r) (fun k => rf iv (31, 3, 0) k) k)), some (am_I (rf iv (31, 3, 0) r 2 + rm_lift (iv (31, a, 0) 3) (iv (31, 3, 0) 4) lk (fun j => iv (31, 3, 0) (21 + 2 * j)) (rf iv (31, 3, 0) r) k)), some (am_I (nI k)), y7] [] kd rv iv 0 0) nl (fun y7 => ?_) (fun k hk ih y7 => ?_) 0 (Nat.zero_le nl)
  · refine A_bipush (pc := 0) (80) dX12_goesOn_0 (by decide) ?_
    refine A_bipush (pc := 2) (8) dX12_goesOn_2 (by decide) ?_
    refine A_iload_n (pc := 4) (i := 2) dX12_goesOn_4 rfl rfl ?_
    refine A_imul (pc := 5) dX12_goesOn_5 ?_
    refine A_iadd (pc := 6) dX12_goesOn_6 ?_
    refine A_top (rx_base r) ?_
    refine A_ist3 (pc := 7) dX12_goesOn_7 (Nat.le_of_ble_eq_true rfl) rfl ?_
    refine A_aload_n (pc := 8) (i := 0) dX12_goesOn_8 rfl rfl ?_
    refine A_getr (pc := 9) 3 fl_X12_19_12 hR.1 rfl hR.w3 dX12_goesOn_9 ?_
    refine A_iload_n (pc := 12) (i := 2) dX12_goesOn_12 rfl rfl ?_
    refine A_iconst (pc := 13) (4) dX12_goesOn_13 (by decide) ?_
    refine A_callS1 (pc := 14) cs_X12_73 (r_of l (31, 3, 0) hR.k3 r hr8 4 5 rfl (by decide)) rfl rfl (Nat.le_of_ble_eq_true rfl) ⟨(Nat.le_of_ble_eq_true rfl), (Nat.le_of_ble_eq_true rfl)⟩ ⟨Nat.zero_le _, Nat.zero_le _⟩ dX12_goesOn_14 ?_
    refine A_ist4 (pc := 17) dX12_goesOn_17 (Nat.le_of_ble_eq_true rfl) rfl ?_
    refine A_aload_n (pc := 19) (i := 0) dX12_goesOn_19 rfl rfl ?_
    refine A_getr (pc := 20) 3 fl_X12_19_12 hR.1 rfl hR.w3 dX12_goesOn_20 ?_
    refine A_iload_n (pc := 23) (i := 2) dX12_goesOn_23 rfl rfl ?_
    refine A_iconst (pc := 24) (1) dX12_goesOn_24 (by decide) ?_
    refine A_callS1 (pc := 25) cs_X12_73 (r_of l (31, 3, 0) hR.k3 r hr8 1 2 rfl (by decide)) rfl rfl (Nat.le_of_ble_eq_true rfl) ⟨(Nat.le_of_ble_eq_true rfl), (Nat.le_of_ble_eq_true rfl)⟩ ⟨Nat.zero_le _, Nat.zero_le _⟩ dX12_goesOn_25 ?_
    refine A_top (Int32.add_zero _).symm ?_
    refine A_ist5 (pc := 28) dX12_goesOn_28 (Nat.le_of_ble_eq_true rfl) rfl ?_
    refine A_iconst (pc := 30) (0) dX12_goesOn_30 (by decide) ?_
    refine A_ist6 (pc := 31) dX12_goesOn_31 (Nat.le_of_ble_eq_true rfl) rfl ?_
    exact outer _
  · refine A_iload (pc := 33) (i := 6) dX12_goesOn_33 rfl ?_
    refine A_aload_n (pc := 35) (i := 1) dX12_goesOn_35 rfl rfl ?_
    refine A_iconst (pc := 36) (2) dX12_goesOn_36 (by decide) ?_
    refine A_ialdN (pc := 37) (j := 2) hm (by decide) (by decide) dX12_goesOn_37 ?_
    refine A_top hnl ?_
    refine A_icmpge (pc := 38) 145 dX12_goesOn_38 (by decide) (fun hb38 => ?_) (fun hb38 => ?_)
    · refine A_aload_n (pc := 145) (i := 1) dX12_goesOn_145 rfl rfl ?_
      refine A_iload_n (pc := 146) (i := 3) dX12_goesOn_146 rfl rfl ?_
      refine A_iconst (pc := 147) (0) dX12_goesOn_147 (by decide) ?_
      refine A_iadd (pc := 148) dX12_goesOn_148 ?_
      refine A_aload_n (pc := 149) (i := 0) dX12_goesOn_149 rfl rfl ?_
      refine A_getr (pc := 150) 3 fl_X12_19_12 hR.1 rfl hR.w3 dX12_goesOn_150 ?_
      refine A_iload_n (pc := 153) (i := 2) dX12_goesOn_153 rfl rfl ?_
      refine A_iconst (pc := 154) (0) dX12_goesOn_154 (by decide) ?_
      refine A_callS1 (pc := 155) cs_X12_73 (r_of l (31, 3, 0) hR.k3 r hr8 0 1 rfl (by decide)) rfl rfl (Nat.le_of_ble_eq_true rfl) ⟨(Nat.le_of_ble_eq_true rfl), (Nat.le_of_ble_eq_true rfl)⟩ ⟨Nat.zero_le _, Nat.zero_le _⟩ dX12_goesOn_155 ?_
      refine A_aload_n (pc := 158) (i := 0) dX12_goesOn_158 rfl rfl ?_
      refine A_getr (pc := 159) 3 fl_X12_19_12 hR.1 rfl hR.w3 dX12_goesOn_159 ?_
      refine A_iload_n (pc := 162) (i := 2) dX12_goesOn_162 rfl rfl ?_
      refine A_callS1 (pc := 163) cs_X12_83 (r_pace l (31, 3, 0) hR.k3 r hr8 g) rfl rfl (Nat.le_of_ble_eq_true rfl) ⟨(Nat.le_of_ble_eq_true rfl), (Nat.le_of_ble_eq_true rfl)⟩ ⟨Nat.zero_le _, Nat.zero_le _⟩ dX12_goesOn_163 ?_
      refine A_aload_n (pc := 166) (i := 0) dX12_goesOn_166 rfl rfl ?_
      refine A_getr (pc := 167) 3 fl_X12_19_12 hR.1 rfl hR.w3 dX12_goesOn_167 ?_
      refine A_iload_n (pc := 170) (i := 2) dX12_goesOn_170 rfl rfl ?_
      refine A_iconst (pc := 171) (2) dX12_goesOn_171 (by decide) ?_
      refine A_callS1 (pc := 172) cs_X12_73 (r_of l (31, 3, 0) hR.k3 r hr8 2 3 rfl (by decide)) rfl rfl (Nat.le_of_ble_eq_true rfl) ⟨(Nat.le_of_ble_eq_true rfl), (Nat.le_of_ble_eq_true rfl)⟩ ⟨Nat.zero_le _, Nat.zero_le _⟩ dX12_goesOn_172 ?_
      refine A_imul (pc := 175) dX12_goesOn_175 ?_
      refine A_iadd (pc := 176) dX12_goesOn_176 ?_
      refine A_i2l (pc := 177) dX12_goesOn_177 ?_
      refine A_ldc (pc := 178) (List.mem_cons_of_mem _ kc_X12_213) dX12_goesOn_178 ?_
      refine A_ldc (pc := 180) (List.mem_cons_of_mem _ kc_X12_46) dX12_goesOn_180 ?_
      refine A_callS1 (pc := 182) cs_X12_193 (r_held l _ (-99999) 99999) rfl rfl (Nat.le_of_ble_eq_true rfl) ⟨(Nat.le_of_ble_eq_true rfl), (Nat.le_of_ble_eq_true rfl)⟩ ⟨Nat.zero_le _, Nat.zero_le _⟩ dX12_goesOn_182 ?_
      refine A_top2 (rx_at r 0) ?_
      refine A_iastN (pc := 185) hm (show 79 + 8 * r + (0 + 1) < 300 by omega) (by decide) dX12_goesOn_185 ?_
      refine A_aload_n (pc := 186) (i := 1) dX12_goesOn_186 rfl rfl ?_
      refine A_iload_n (pc := 187) (i := 3) dX12_goesOn_187 rfl rfl ?_
      refine A_iconst (pc := 188) (4) dX12_goesOn_188 (by decide) ?_
      refine A_iadd (pc := 189) dX12_goesOn_189 ?_
      refine A_iload (pc := 190) (i := 4) dX12_goesOn_190 rfl ?_
      refine A_i2l (pc := 192) dX12_goesOn_192 ?_
      refine A_iconst (pc := 193) (1) dX12_goesOn_193 (by decide) ?_
      refine A_sipush (pc := 194) (200) dX12_goesOn_194 (by decide) ?_
      refine A_callS1 (pc := 197) cs_X12_193 (r_held l _ 1 200) rfl rfl (Nat.le_of_ble_eq_true rfl) ⟨(Nat.le_of_ble_eq_true rfl), (Nat.le_of_ble_eq_true rfl)⟩ ⟨Nat.zero_le _, Nat.zero_le _⟩ dX12_goesOn_197 ?_
      refine A_top2 (rx_at r 4) ?_
      refine A_iastN (pc := 200) hm (show 79 + 8 * r + (4 + 1) < 300 by omega) (by decide) dX12_goesOn_200 ?_
      refine A_aload_n (pc := 201) (i := 1) dX12_goesOn_201 rfl rfl ?_
      refine A_iload_n (pc := 202) (i := 3) dX12_goesOn_202 rfl rfl ?_
      refine A_iconst (pc := 203) (1) dX12_goesOn_203 (by decide) ?_
      refine A_iadd (pc := 204) dX12_goesOn_204 ?_
      refine A_iload (pc := 205) (i := 5) dX12_goesOn_205 rfl ?_
      refine A_i2l (pc := 207) dX12_goesOn_207 ?_
      refine A_sipush (pc := 208) (-999) dX12_goesOn_208 (by decide) ?_
      refine A_sipush (pc := 211) (999) dX12_goesOn_211 (by decide) ?_
      refine A_callS1 (pc := 214) cs_X12_193 (r_held l _ (-999) 999) rfl rfl (Nat.le_of_ble_eq_true rfl) ⟨(Nat.le_of_ble_eq_true rfl), (Nat.le_of_ble_eq_true rfl)⟩ ⟨Nat.zero_le _, Nat.zero_le _⟩ dX12_goesOn_214 ?_
      refine A_top2 (rx_at r 1) ?_
      refine A_iastN (pc := 217) hm (show 79 + 8 * r + (1 + 1) < 300 by omega) (by decide) dX12_goesOn_217 ?_
      refine A_aload_n (pc := 218) (i := 1) dX12_goesOn_218 rfl rfl ?_
      refine A_iload_n (pc := 219) (i := 3) dX12_goesOn_219 rfl rfl ?_
      refine A_iconst (pc := 220) (3) dX12_goesOn_220 (by decide) ?_
      refine A_iadd (pc := 221) dX12_goesOn_221 ?_
      refine A_aload_n (pc := 222) (i := 0) dX12_goesOn_222 rfl rfl ?_
      refine A_getr (pc := 223) 3 fl_X12_19_12 hR.1 rfl hR.w3 dX12_goesOn_223 ?_
      refine A_iload_n (pc := 226) (i := 2) dX12_goesOn_226 rfl rfl ?_
      refine A_iconst (pc := 227) (3) dX12_goesOn_227 (by decide) ?_
      refine A_callS1 (pc := 228) cs_X12_73 (r_of l (31, 3, 0) hR.k3 r hr8 3 4 rfl (by decide)) rfl rfl (Nat.le_of_ble_eq_true rfl) ⟨(Nat.le_of_ble_eq_true rfl), (Nat.le_of_ble_eq_true rfl)⟩ ⟨Nat.zero_le _, Nat.zero_le _⟩ dX12_goesOn_228 ?_
      refine A_top (y := rf iv (31, 3, 0) r 4) (by simp only [rf]; rw [am_ui_o (by simp; omega), am_ui_o (by simp; omega), am_ui_o (by simp; omega)]) ?_
      refine A_aload_n (pc := 231) (i := 0) dX12_goesOn_231 rfl rfl ?_
      refine A_iconst (pc := 232) (1) dX12_goesOn_232 (by decide) ?_
      refine A_aload_n (pc := 233) (i := 0) dX12_goesOn_233 rfl rfl ?_
      refine A_getr (pc := 234) 3 fl_X12_19_12 hR.1 rfl hR.w3 dX12_goesOn_234 ?_
      refine A_iload_n (pc := 237) (i := 2) dX12_goesOn_237 rfl rfl ?_
      refine A_iconst (pc := 238) (3) dX12_goesOn_238 (by decide) ?_
      refine A_callS1 (pc := 239) cs_X12_73 (r_of l (31, 3, 0) hR.k3 r hr8 3 4 rfl (by decide)) rfl rfl (Nat.le_of_ble_eq_true rfl) ⟨(Nat.le_of_ble_eq_true rfl), (Nat.le_of_ble_eq_true rfl)⟩ ⟨Nat.zero_le _, Nat.zero_le _⟩ dX12_goesOn_239 ?_
      refine A_top (y := rf iv (31, 3, 0) r 4) (by simp only [rf]; rw [am_ui_o (by simp; omega), am_ui_o (by simp; omega), am_ui_o (by simp; omega)]) ?_
      refine A_aload_n (pc := 242) (i := 0) dX12_goesOn_242 rfl rfl ?_
      refine A_getr (pc := 243) 3 fl_X12_19_12 hR.1 rfl hR.w3 dX12_goesOn_243 ?_
      refine A_iload_n (pc := 246) (i := 2) dX12_goesOn_246 rfl rfl ?_
      refine A_iconst (pc := 247) (4) dX12_goesOn_247 (by decide) ?_
      refine A_callS1 (pc := 248) cs_X12_73 (r_of l (31, 3, 0) hR.k3 r hr8 4 5 rfl (by decide)) rfl rfl (Nat.le_of_ble_eq_true rfl) ⟨(Nat.le_of_ble_eq_true rfl), (Nat.le_of_ble_eq_true rfl)⟩ ⟨Nat.zero_le _, Nat.zero_le _⟩ dX12_goesOn_248 ?_
      refine A_top (y := rf iv (31, 3, 0) r 5) (by simp only [rf]; rw [am_ui_o (by simp; omega), am_ui_o (by simp; omega), am_ui_o (by simp; omega)]) ?_
      refine A_aload_n (pc := 251) (i := 0) dX12_goesOn_251 rfl rfl ?_
      refine A_getr (pc := 252) 3 fl_X12_19_12 hR.1 rfl hR.w3 dX12_goesOn_252 ?_
      refine A_iload_n (pc := 255) (i := 2) dX12_goesOn_255 rfl rfl ?_
      refine A_iconst (pc := 256) (5) dX12_goesOn_256 (by decide) ?_
      refine A_callS1 (pc := 257) cs_X12_73 (r_of l (31, 3, 0) hR.k3 r hr8 5 6 rfl (by decide)) rfl rfl (Nat.le_of_ble_eq_true rfl) ⟨(Nat.le_of_ble_eq_true rfl), (Nat.le_of_ble_eq_true rfl)⟩ ⟨Nat.zero_le _, Nat.zero_le _⟩ dX12_goesOn_257 ?_
      refine A_top (y := rf iv (31, 3, 0) r 6) (by simp only [rf]; rw [am_ui_o (by simp; omega), am_ui_o (by simp; omega), am_ui_o (by simp; omega)]) ?_
      refine A_callV1 (pc := 260) cv_X12_197 (r_givesOf l (iv := rt_h3 iv a n nl r lk) hR 1 (by decide) z ((rt_h3_o (by omega) hr8).trans hz) hz50 _ _ _) hR.1 rfl rfl rfl rfl (Nat.le_of_ble_eq_true rfl) ⟨(Nat.le_of_ble_eq_true rfl), (Nat.le_of_ble_eq_true rfl)⟩ ⟨Nat.zero_le _, Nat.zero_le _⟩ dX12_goesOn_260 ?_
      refine A_isub (pc := 263) dX12_goesOn_263 ?_
      refine A_i2l (pc := 264) dX12_goesOn_264 ?_
      refine A_iconst (pc := 265) (0) dX12_goesOn_265 (by decide) ?_
      refine A_sipush (pc := 266) (999) dX12_goesOn_266 (by decide) ?_
      refine A_callS1 (pc := 269) cs_X12_193 (r_held l _ 0 999) rfl rfl (Nat.le_of_ble_eq_true rfl) ⟨(Nat.le_of_ble_eq_true rfl), (Nat.le_of_ble_eq_true rfl)⟩ ⟨Nat.zero_le _, Nat.zero_le _⟩ dX12_goesOn_269 ?_
      refine A_top2 (rx_at r 3) ?_
      refine A_iastN (pc := 272) hm (show 79 + 8 * r + (3 + 1) < 300 by omega) (by decide) dX12_goesOn_272 ?_
      exact A_vretE (pc := 273) dX12_goesOn_273 rfl (Nat.zero_le _) (Nat.zero_le _) (rfl)
    · exact absurd (nI_le (Nat.le_refl nl) hlnn) hb38
  · have hk6 : k < 6 := by omega
    obtain ⟨hK, eK, eM⟩ := hlw k hk
    have inner := fun (hon : rm_on (iv (31, a, 0) 3) (nI k)) => am_for (fun o => am_W l mX12_goesOn (am_rm 40 0 0) (am_ret none kd rv (rt_on iv a n nl z r lk)) 86 [some (am_P (30, 0, 0)), some (am_P (31, a, 0)), some (am_I (nI r)), some (am_I (nI (80 + 8 * r))), some (am_I (rm_in (lk k) (iv (31, 3, 0) (21 + 2 * k)) (rf iv (31, 3, 0) r) (fun k => rf iv (31, 3, 0) k) (rm_wid (iv (31, a, 0) 3) (iv (31, 3, 0) 4) lk (fun j => iv (31, 3, 0) (21 + 2 * j)) n (rf iv (31, 3, 0) r) (fun k => rf iv (31, 3, 0) k) k + lw_spreads (lk k) (iv (31, 3, 0) (21 + 2 * k)) (rf iv (31, 3, 0) r) (iv (31, 3, 0) 4)) o)), some (am_I (rf iv (31, 3, 0) r 2 + rm_lift (iv (31, a, 0) 3) (iv (31, 3, 0) 4) lk (fun j => iv (31, 3, 0) (21 + 2 * j)) (rf iv (31, 3, 0) r) (k + 1))), some (am_I (nI k)), some (am_I (nI o))] [] kd rv iv 0 0) n ?_ (fun o ho ih2 => ?_) 0 (Nat.zero_le n)
    · refine A_iload (pc := 33) (i := 6) dX12_goesOn_33 rfl ?_
      refine A_aload_n (pc := 35) (i := 1) dX12_goesOn_35 rfl rfl ?_
      refine A_iconst (pc := 36) (2) dX12_goesOn_36 (by decide) ?_
      refine A_ialdN (pc := 37) (j := 2) hm (by decide) (by decide) dX12_goesOn_37 ?_
      refine A_top hnl ?_
      refine A_icmpge (pc := 38) 145 dX12_goesOn_38 (by decide) (fun hb38 => ?_) (fun hb38 => ?_)
      · exact absurd hb38 (nI_ge hk hlnn)
      · refine A_aload_n (pc := 41) (i := 1) dX12_goesOn_41 rfl rfl ?_
        refine A_iconst (pc := 42) (3) dX12_goesOn_42 (by decide) ?_
        refine A_ialdN (pc := 43) (j := 3) hm (by decide) (by decide) dX12_goesOn_43 ?_
        refine A_iload (pc := 44) (i := 6) dX12_goesOn_44 rfl ?_
        refine A_ishr (pc := 46) dX12_goesOn_46 ?_
        refine A_iconst (pc := 47) (1) dX12_goesOn_47 (by decide) ?_
        refine A_iand (pc := 48) dX12_goesOn_48 ?_
        refine A_iconst (pc := 49) (1) dX12_goesOn_49 (by decide) ?_
        refine A_icmpne (pc := 50) 139 dX12_goesOn_50 (by decide) (fun hb50 => ?_) (fun hb50 => ?_)
        · refine A_inc6 (pc := 139) (nI (k + 1)) dX12_goesOn_139 (nI_1 k) (Nat.le_of_ble_eq_true rfl) rfl ?_
          refine A_goto (pc := 142) 33 dX12_goesOn_142 (by decide) ?_
          have hoff : ¬ rm_on (iv (31, a, 0) 3) (nI k) := fun h => hb50 ((rx_on1 _ k).mpr h)
          have ih3 := ih y7
          rw [rm_wid, rm_lift, if_neg hoff, if_neg hoff] at ih3
          exact ih3
        · have hon := (rx_on1 _ k).mp hb50
          refine A_iload (pc := 53) (i := 4) dX12_goesOn_53 rfl ?_
          refine A_aload_n (pc := 55) (i := 0) dX12_goesOn_55 rfl rfl ?_
          refine A_getr (pc := 56) 3 fl_X12_19_12 hR.1 rfl hR.w3 dX12_goesOn_56 ?_
          refine A_iload (pc := 59) (i := 6) dX12_goesOn_59 rfl ?_
          refine A_iload_n (pc := 61) (i := 2) dX12_goesOn_61 rfl rfl ?_
          refine A_callS1 (pc := 62) cs_X12_114 (r_spreads l (31, 3, 0) hR.k3 k hk6 (lk k) hK eK r hr8 g wl) rfl rfl (Nat.le_of_ble_eq_true rfl) ⟨(Nat.le_of_ble_eq_true rfl), (Nat.le_of_ble_eq_true rfl)⟩ ⟨Nat.zero_le _, Nat.zero_le _⟩ dX12_goesOn_62 ?_
          refine A_iadd (pc := 65) dX12_goesOn_65 ?_
          refine A_ist4 (pc := 66) dX12_goesOn_66 (Nat.le_of_ble_eq_true rfl) rfl ?_
          refine A_iload (pc := 68) (i := 5) dX12_goesOn_68 rfl ?_
          refine A_aload_n (pc := 70) (i := 0) dX12_goesOn_70 rfl rfl ?_
          refine A_getr (pc := 71) 3 fl_X12_19_12 hR.1 rfl hR.w3 dX12_goesOn_71 ?_
          refine A_iload (pc := 74) (i := 6) dX12_goesOn_74 rfl ?_
          refine A_iload_n (pc := 76) (i := 2) dX12_goesOn_76 rfl rfl ?_
          refine A_callS1 (pc := 77) cs_X12_127 (r_lifts l (31, 3, 0) hR.k3 k hk6 (lk k) hK eK r hr8 g wl) rfl rfl (Nat.le_of_ble_eq_true rfl) ⟨(Nat.le_of_ble_eq_true rfl), (Nat.le_of_ble_eq_true rfl)⟩ ⟨Nat.zero_le _, Nat.zero_le _⟩ dX12_goesOn_77 ?_
          refine A_iadd (pc := 80) dX12_goesOn_80 ?_
          refine A_top (y := (rf iv (31, 3, 0) r 2 + rm_lift (iv (31, a, 0) 3) (iv (31, 3, 0) 4) lk (fun j => iv (31, 3, 0) (21 + 2 * j)) (rf iv (31, 3, 0) r) (k + 1))) (by rw [rm_lift, if_pos hon, Int32.add_assoc]) ?_
          refine A_ist5 (pc := 81) dX12_goesOn_81 (Nat.le_of_ble_eq_true rfl) rfl ?_
          refine A_iconst (pc := 83) (0) dX12_goesOn_83 (by decide) ?_
          refine A_ist7 (pc := 84) dX12_goesOn_84 (Nat.le_of_ble_eq_true rfl) rfl ?_
          exact inner hon
    · refine A_iload (pc := 86) (i := 7) dX12_goesOn_86 rfl ?_
      refine A_aload_n (pc := 88) (i := 1) dX12_goesOn_88 rfl rfl ?_
      refine A_iconst (pc := 89) (1) dX12_goesOn_89 (by decide) ?_
      refine A_ialdN (pc := 90) (j := 1) hm (by decide) (by decide) dX12_goesOn_90 ?_
      refine A_top hn ?_
      refine A_icmpge (pc := 91) 139 dX12_goesOn_91 (by decide) (fun hb91 => ?_) (fun hb91 => ?_)
      · refine A_inc6 (pc := 139) (nI (k + 1)) dX12_goesOn_139 (nI_1 k) (Nat.le_of_ble_eq_true rfl) rfl ?_
        refine A_goto (pc := 142) 33 dX12_goesOn_142 (by decide) ?_
        have ih3 := ih (some (am_I (nI n)))
        rw [rm_wid, if_pos hon] at ih3
        exact ih3
      · exact absurd (nI_le (Nat.le_refl n) hnn) hb91
    · have ho8 : o < 8 := by omega
      have go := hro o ho
      rw [rm_in] at ih2
      refine A_iload (pc := 86) (i := 7) dX12_goesOn_86 rfl ?_
      refine A_aload_n (pc := 88) (i := 1) dX12_goesOn_88 rfl rfl ?_
      refine A_iconst (pc := 89) (1) dX12_goesOn_89 (by decide) ?_
      refine A_ialdN (pc := 90) (j := 1) hm (by decide) (by decide) dX12_goesOn_90 ?_
      refine A_top hn ?_
      refine A_icmpge (pc := 91) 139 dX12_goesOn_91 (by decide) (fun hb91 => ?_) (fun hb91 => ?_)
      · exact absurd hb91 (nI_ge ho hnn)
      · refine A_iload (pc := 94) (i := 4) dX12_goesOn_94 rfl ?_
        refine A_iload (pc := 96) (i := 7) dX12_goesOn_96 rfl ?_
        refine A_iload_n (pc := 98) (i := 2) dX12_goesOn_98 rfl rfl ?_
        refine A_icmpeq (pc := 99) 129 dX12_goesOn_99 (by decide) (fun hb99 => ?_) (fun hb99 => ?_)
        · refine A_iconst (pc := 129) (0) dX12_goesOn_129 (by decide) ?_
          refine A_iadd (pc := 130) dX12_goesOn_130 ?_
          refine A_ist4 (pc := 131) dX12_goesOn_131 (Nat.le_of_ble_eq_true rfl) rfl ?_
          refine A_inc7 (pc := 133) (nI (o + 1)) dX12_goesOn_133 (nI_1 o) (Nat.le_of_ble_eq_true rfl) rfl ?_
          refine A_goto (pc := 136) 86 dX12_goesOn_136 (by decide) ?_
          have hno : ¬ rg_other (rf iv (31, 3, 0) r) (rf iv (31, 3, 0) o) := fun h => h.2 hb99
          rw [if_neg hno] at ih2
          refine A_ls4 (Int32.add_zero _) ?_
          exact ih2
        · refine A_aload_n (pc := 102) (i := 0) dX12_goesOn_102 rfl rfl ?_
          refine A_getr (pc := 103) 3 fl_X12_19_12 hR.1 rfl hR.w3 dX12_goesOn_103 ?_
          refine A_iload (pc := 106) (i := 7) dX12_goesOn_106 rfl ?_
          refine A_callS1 (pc := 108) cs_X12_209 (r_isWhole l (31, 3, 0) hR.k3 o ho8) rfl rfl (Nat.le_of_ble_eq_true rfl) ⟨(Nat.le_of_ble_eq_true rfl), (Nat.le_of_ble_eq_true rfl)⟩ ⟨Nat.zero_le _, Nat.zero_le _⟩ dX12_goesOn_108 ?_
          refine A_ifeq (pc := 111) 129 dX12_goesOn_111 (by decide) (fun hb111 => ?_) (fun hb111 => ?_)
          · refine A_iconst (pc := 129) (0) dX12_goesOn_129 (by decide) ?_
            refine A_iadd (pc := 130) dX12_goesOn_130 ?_
            refine A_ist4 (pc := 131) dX12_goesOn_131 (Nat.le_of_ble_eq_true rfl) rfl ?_
            refine A_inc7 (pc := 133) (nI (o + 1)) dX12_goesOn_133 (nI_1 o) (Nat.le_of_ble_eq_true rfl) rfl ?_
            refine A_goto (pc := 136) 86 dX12_goesOn_136 (by decide) ?_
            have hno : ¬ rg_other (rf iv (31, 3, 0) r) (rf iv (31, 3, 0) o) := fun h => (sr_b_0 _).mp hb111 ((b01 go.2.2.2.2.2.2).mpr h.1)
            rw [if_neg hno] at ih2
            refine A_ls4 (Int32.add_zero _) ?_
            exact ih2
          · refine A_aload_n (pc := 114) (i := 0) dX12_goesOn_114 rfl rfl ?_
            refine A_getr (pc := 115) 3 fl_X12_19_12 hR.1 rfl hR.w3 dX12_goesOn_115 ?_
            refine A_iload (pc := 118) (i := 6) dX12_goesOn_118 rfl ?_
            refine A_iload_n (pc := 120) (i := 2) dX12_goesOn_120 rfl rfl ?_
            refine A_iload (pc := 121) (i := 7) dX12_goesOn_121 rfl ?_
            refine A_callS1 (pc := 123) cs_X12_119 (r_widens l (31, 3, 0) hR.k3 k hk6 (lk k) hK eK r hr8 o ho8 g go) rfl rfl (Nat.le_of_ble_eq_true rfl) ⟨(Nat.le_of_ble_eq_true rfl), (Nat.le_of_ble_eq_true rfl)⟩ ⟨Nat.zero_le _, Nat.zero_le _⟩ dX12_goesOn_123 ?_
            refine A_goto (pc := 126) 130 dX12_goesOn_126 (by decide) ?_
            refine A_iadd (pc := 130) dX12_goesOn_130 ?_
            refine A_ist4 (pc := 131) dX12_goesOn_131 (Nat.le_of_ble_eq_true rfl) rfl ?_
            refine A_inc7 (pc := 133) (nI (o + 1)) dX12_goesOn_133 (nI_1 o) (Nat.le_of_ble_eq_true rfl) rfl ?_
            refine A_goto (pc := 136) 86 dX12_goesOn_136 (by decide) ?_
            have hyes : rg_other (rf iv (31, 3, 0) r) (rf iv (31, 3, 0) o) := ⟨(b01 go.2.2.2.2.2.2).mp (Classical.not_not.mp (fun h => hb111 ((sr_b_0 _).mpr h))), hb99⟩
            rw [if_pos hyes] at ih2
            exact ih2
