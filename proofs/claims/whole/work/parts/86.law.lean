def CALL2 (l : Launch) (kd : am_kd) (rv : am_rv) (iv : am_iv) (mc mr : am_M) (args : List am_V) : Prop := ∃ (a : Int32) (d1 d2 c s : Nat) (kd1 : am_kd) (rv1 : am_rv) (iv1 iv2 : am_iv), (d1 ≤ 60 ∧ d2 ≤ 60 ∧ c ≤ 1 ∧ s ≤ 3) ∧ (∀ n, kd n ≠ none → kd1 n = kd n) ∧ am_Met l mc (am_rm d1 c s) (am_P (1, 0, 0) :: args) kd rv iv (am_ret (some (am_I a)) kd1 rv1 iv1) ∧ am_Met l mr (am_rm d2 0 0) (am_P (30, 0, 0) :: args) kd1 rv1 iv1 (am_ret (some (am_I a)) kd1 rv1 iv2) ∧ REL kd1 rv1 iv2 iv2
theorem CALL.two {l : Launch} {kd : am_kd} {rv : am_rv} {iv : am_iv} {mc mr : am_M} {args : List am_V} (h : CALL l kd rv iv mc mr args) : CALL2 l kd rv iv mc mr args := by
  obtain ⟨a, d1, d2, rv1, iv1, iv2, h1, h2, h3, h4, h5⟩ := h
  exact ⟨a, d1, d2, 0, 0, kd, rv1, iv1, iv2, ⟨h1, h2, by decide, by decide⟩, fun _ _ => rfl, h3, h4, h5⟩
theorem CALL1.two {l : Launch} {kd : am_kd} {rv : am_rv} {iv : am_iv} {mc mr : am_M} {args : List am_V} (h : CALL1 l kd rv iv mc mr args) : CALL2 l kd rv iv mc mr args := by
  obtain ⟨a, d1, d2, kd1, rv1, iv1, iv2, h1, h2, h0, h3, h4, h5⟩ := h
  exact ⟨a, d1, d2, 1, 3, kd1, rv1, iv1, iv2, ⟨h1, h2, by decide, by decide⟩, h0, h3, h4, h5⟩
def lw_post : am_Post := fun v _ _ _ => v = some (am_I 1)
set_option maxRecDepth 20000 in
theorem lw_c0 (l : Launch) {Φ : am_D → Prop} {L : Nat} {xs : Nat → Int32} (hΦ : ∀ D, Φ D → D.2.2.2.2.1 = L ∧ D.2.2.2.2.2 = xs) (hL : L ≤ 384) {kd : am_kd} {rv : am_rv} {iv : am_iv} (h : REL kd rv iv iv) (h42 : kd (42, 0, 0) = some (.inr (8, 0))) (j : Nat) (hj : j + 6 ≤ L) (cu su : Nat) (hcu : cu + 1 ≤ 600000) (hsu : su + 3 ≤ 7302250) (K : ∀ kd rv iv cu' su', REL kd rv iv iv → kd (42, 0, 0) = some (.inr (8, 0)) → cu' ≤ cu + 1 → su' ≤ su + 3 → am_X Φ l mL_law room_1 lw_post 1616 [some (am_P (42, 0, 0)), some (am_P (1, 0, 0)), some (am_P (30, 0, 0)), some (am_I (nI j))] [] kd rv iv cu' su') : am_X Φ l mL_law room_1 lw_post 224 [some (am_P (42, 0, 0)), some (am_P (1, 0, 0)), some (am_P (30, 0, 0)), some (am_I (nI j))] [] kd rv iv cu su := by
  obtain ⟨a, d1, d2, c, s, kd1, rv1, iv1, iv2, ⟨b1, b2, b3, b4⟩, hx, h1, h2, h3⟩ : CALL2 l kd rv iv mX11_ring mX12_ring [am_I (xs (j + 1)), am_I (xs (j + 2)), am_I (xs (j + 3)), am_I (xs (j + 4))] := (call_ring l h (xs (j + 1)) (xs (j + 2)) (xs (j + 3)) (xs (j + 4))).two
  have g42 : kd1 (42, 0, 0) = some (.inr (8, 0)) := (hx _ (by rw [h42]; exact fun z => by cases z)).trans h42
  refine X_aload_n (pc := 224) (i := 1) dL_law_224 rfl rfl ?_
  refine X_aload_n (pc := 225) (i := 0) dL_law_225 rfl rfl ?_
  refine X_iload_n (pc := 226) (i := 3) dL_law_226 rfl rfl ?_
  refine X_iconst (pc := 227) (1) dL_law_227 (by decide) ?_
  refine X_iadd (pc := 228) dL_law_228 ?_
  refine X_top (show nI j + (1 : Int32) = nI (j + 1) from mI_add j 1) ?_
  refine X_sld (pc := 229) hΦ (by first | exact h42 | exact g42) (show j + 1 < L by omega) (by omega) dL_law_229 ?_
  refine X_aload_n (pc := 230) (i := 0) dL_law_230 rfl rfl ?_
  refine X_iload_n (pc := 231) (i := 3) dL_law_231 rfl rfl ?_
  refine X_iconst (pc := 232) (2) dL_law_232 (by decide) ?_
  refine X_iadd (pc := 233) dL_law_233 ?_
  refine X_top (show nI j + (2 : Int32) = nI (j + 2) from mI_add j 2) ?_
  refine X_sld (pc := 234) hΦ (by first | exact h42 | exact g42) (show j + 2 < L by omega) (by omega) dL_law_234 ?_
  refine X_aload_n (pc := 235) (i := 0) dL_law_235 rfl rfl ?_
  refine X_iload_n (pc := 236) (i := 3) dL_law_236 rfl rfl ?_
  refine X_iconst (pc := 237) (3) dL_law_237 (by decide) ?_
  refine X_iadd (pc := 238) dL_law_238 ?_
  refine X_top (show nI j + (3 : Int32) = nI (j + 3) from mI_add j 3) ?_
  refine X_sld (pc := 239) hΦ (by first | exact h42 | exact g42) (show j + 3 < L by omega) (by omega) dL_law_239 ?_
  refine X_aload_n (pc := 240) (i := 0) dL_law_240 rfl rfl ?_
  refine X_iload_n (pc := 241) (i := 3) dL_law_241 rfl rfl ?_
  refine X_iconst (pc := 242) (4) dL_law_242 (by decide) ?_
  refine X_iadd (pc := 243) dL_law_243 ?_
  refine X_top (show nI j + (4 : Int32) = nI (j + 4) from mI_add j 4) ?_
  refine X_sld (pc := 244) hΦ (by first | exact h42 | exact g42) (show j + 4 < L by omega) (by omega) dL_law_244 ?_
  refine X_callVc (pc := 245) cv_L_13 h1 h.S.k1 rfl rfl rfl rfl (Nat.le_of_ble_eq_true rfl) ⟨by show d1 + 1 ≤ 2048; omega, Nat.le_trans (Nat.add_le_add_left (Nat.mul_le_mul_left 60 b1) _) (by decide)⟩ ⟨by show cu + c ≤ 600000; omega, by show su + s ≤ 7302250; omega⟩ dL_law_245 ?_
  refine X_aload_n (pc := 248) (i := 2) dL_law_248 rfl rfl ?_
  refine X_aload_n (pc := 249) (i := 0) dL_law_249 rfl rfl ?_
  refine X_iload_n (pc := 250) (i := 3) dL_law_250 rfl rfl ?_
  refine X_iconst (pc := 251) (1) dL_law_251 (by decide) ?_
  refine X_iadd (pc := 252) dL_law_252 ?_
  refine X_top (show nI j + (1 : Int32) = nI (j + 1) from mI_add j 1) ?_
  refine X_sld (pc := 253) hΦ (by first | exact h42 | exact g42) (show j + 1 < L by omega) (by omega) dL_law_253 ?_
  refine X_aload_n (pc := 254) (i := 0) dL_law_254 rfl rfl ?_
  refine X_iload_n (pc := 255) (i := 3) dL_law_255 rfl rfl ?_
  refine X_iconst (pc := 256) (2) dL_law_256 (by decide) ?_
  refine X_iadd (pc := 257) dL_law_257 ?_
  refine X_top (show nI j + (2 : Int32) = nI (j + 2) from mI_add j 2) ?_
  refine X_sld (pc := 258) hΦ (by first | exact h42 | exact g42) (show j + 2 < L by omega) (by omega) dL_law_258 ?_
  refine X_aload_n (pc := 259) (i := 0) dL_law_259 rfl rfl ?_
  refine X_iload_n (pc := 260) (i := 3) dL_law_260 rfl rfl ?_
  refine X_iconst (pc := 261) (3) dL_law_261 (by decide) ?_
  refine X_iadd (pc := 262) dL_law_262 ?_
  refine X_top (show nI j + (3 : Int32) = nI (j + 3) from mI_add j 3) ?_
  refine X_sld (pc := 263) hΦ (by first | exact h42 | exact g42) (show j + 3 < L by omega) (by omega) dL_law_263 ?_
  refine X_aload_n (pc := 264) (i := 0) dL_law_264 rfl rfl ?_
  refine X_iload_n (pc := 265) (i := 3) dL_law_265 rfl rfl ?_
  refine X_iconst (pc := 266) (4) dL_law_266 (by decide) ?_
  refine X_iadd (pc := 267) dL_law_267 ?_
  refine X_top (show nI j + (4 : Int32) = nI (j + 4) from mI_add j 4) ?_
  refine X_sld (pc := 268) hΦ (by first | exact h42 | exact g42) (show j + 4 < L by omega) (by omega) dL_law_268 ?_
  refine X_callVc (pc := 269) cv_L_17 h2 h3.R.1 rfl rfl rfl rfl (Nat.le_of_ble_eq_true rfl) ⟨by show d2 + 1 ≤ 2048; omega, Nat.le_trans (Nat.add_le_add_left (Nat.mul_le_mul_left 60 b2) _) (by decide)⟩ ⟨by show cu + c + 0 ≤ 600000; omega, by show su + s + 0 ≤ 7302250; omega⟩ dL_law_269 ?_
  refine X_icmpeq (pc := 272) 1616 dL_law_272 (by decide) (fun hb272 => ?_) (fun hb272 => ?_)
  · exact K _ _ _ _ _ h3 g42 (by omega) (by omega)
  · exact absurd rfl hb272
set_option maxRecDepth 20000 in
theorem lw_c1 (l : Launch) {Φ : am_D → Prop} {L : Nat} {xs : Nat → Int32} (hΦ : ∀ D, Φ D → D.2.2.2.2.1 = L ∧ D.2.2.2.2.2 = xs) (hL : L ≤ 384) {kd : am_kd} {rv : am_rv} {iv : am_iv} (h : REL kd rv iv iv) (h42 : kd (42, 0, 0) = some (.inr (8, 0))) (j : Nat) (hj : j + 6 ≤ L) (cu su : Nat) (hcu : cu + 1 ≤ 600000) (hsu : su + 3 ≤ 7302250) (K : ∀ kd rv iv cu' su', REL kd rv iv iv → kd (42, 0, 0) = some (.inr (8, 0)) → cu' ≤ cu + 1 → su' ≤ su + 3 → am_X Φ l mL_law room_1 lw_post 1616 [some (am_P (42, 0, 0)), some (am_P (1, 0, 0)), some (am_P (30, 0, 0)), some (am_I (nI j))] [] kd rv iv cu' su') : am_X Φ l mL_law room_1 lw_post 277 [some (am_P (42, 0, 0)), some (am_P (1, 0, 0)), some (am_P (30, 0, 0)), some (am_I (nI j))] [] kd rv iv cu su := by
  obtain ⟨a, d1, d2, c, s, kd1, rv1, iv1, iv2, ⟨b1, b2, b3, b4⟩, hx, h1, h2, h3⟩ : CALL2 l kd rv iv mX11_ofRing mX12_ofRing [am_I (xs (j + 1)), am_I (xs (j + 2))] := (call_ofRing l h (xs (j + 1)) (xs (j + 2))).two
  have g42 : kd1 (42, 0, 0) = some (.inr (8, 0)) := (hx _ (by rw [h42]; exact fun z => by cases z)).trans h42
  refine X_aload_n (pc := 277) (i := 1) dL_law_277 rfl rfl ?_
  refine X_aload_n (pc := 278) (i := 0) dL_law_278 rfl rfl ?_
  refine X_iload_n (pc := 279) (i := 3) dL_law_279 rfl rfl ?_
  refine X_iconst (pc := 280) (1) dL_law_280 (by decide) ?_
  refine X_iadd (pc := 281) dL_law_281 ?_
  refine X_top (show nI j + (1 : Int32) = nI (j + 1) from mI_add j 1) ?_
  refine X_sld (pc := 282) hΦ (by first | exact h42 | exact g42) (show j + 1 < L by omega) (by omega) dL_law_282 ?_
  refine X_aload_n (pc := 283) (i := 0) dL_law_283 rfl rfl ?_
  refine X_iload_n (pc := 284) (i := 3) dL_law_284 rfl rfl ?_
  refine X_iconst (pc := 285) (2) dL_law_285 (by decide) ?_
  refine X_iadd (pc := 286) dL_law_286 ?_
  refine X_top (show nI j + (2 : Int32) = nI (j + 2) from mI_add j 2) ?_
  refine X_sld (pc := 287) hΦ (by first | exact h42 | exact g42) (show j + 2 < L by omega) (by omega) dL_law_287 ?_
  refine X_callVc (pc := 288) cv_L_18 h1 h.S.k1 rfl rfl rfl rfl (Nat.le_of_ble_eq_true rfl) ⟨by show d1 + 1 ≤ 2048; omega, Nat.le_trans (Nat.add_le_add_left (Nat.mul_le_mul_left 60 b1) _) (by decide)⟩ ⟨by show cu + c ≤ 600000; omega, by show su + s ≤ 7302250; omega⟩ dL_law_288 ?_
  refine X_aload_n (pc := 291) (i := 2) dL_law_291 rfl rfl ?_
  refine X_aload_n (pc := 292) (i := 0) dL_law_292 rfl rfl ?_
  refine X_iload_n (pc := 293) (i := 3) dL_law_293 rfl rfl ?_
  refine X_iconst (pc := 294) (1) dL_law_294 (by decide) ?_
  refine X_iadd (pc := 295) dL_law_295 ?_
  refine X_top (show nI j + (1 : Int32) = nI (j + 1) from mI_add j 1) ?_
  refine X_sld (pc := 296) hΦ (by first | exact h42 | exact g42) (show j + 1 < L by omega) (by omega) dL_law_296 ?_
  refine X_aload_n (pc := 297) (i := 0) dL_law_297 rfl rfl ?_
  refine X_iload_n (pc := 298) (i := 3) dL_law_298 rfl rfl ?_
  refine X_iconst (pc := 299) (2) dL_law_299 (by decide) ?_
  refine X_iadd (pc := 300) dL_law_300 ?_
  refine X_top (show nI j + (2 : Int32) = nI (j + 2) from mI_add j 2) ?_
  refine X_sld (pc := 301) hΦ (by first | exact h42 | exact g42) (show j + 2 < L by omega) (by omega) dL_law_301 ?_
  refine X_callVc (pc := 302) cv_L_22 h2 h3.R.1 rfl rfl rfl rfl (Nat.le_of_ble_eq_true rfl) ⟨by show d2 + 1 ≤ 2048; omega, Nat.le_trans (Nat.add_le_add_left (Nat.mul_le_mul_left 60 b2) _) (by decide)⟩ ⟨by show cu + c + 0 ≤ 600000; omega, by show su + s + 0 ≤ 7302250; omega⟩ dL_law_302 ?_
  refine X_icmpeq (pc := 305) 1616 dL_law_305 (by decide) (fun hb305 => ?_) (fun hb305 => ?_)
  · exact K _ _ _ _ _ h3 g42 (by omega) (by omega)
  · exact absurd rfl hb305
set_option maxRecDepth 20000 in
theorem lw_c2 (l : Launch) {Φ : am_D → Prop} {L : Nat} {xs : Nat → Int32} (hΦ : ∀ D, Φ D → D.2.2.2.2.1 = L ∧ D.2.2.2.2.2 = xs) (hL : L ≤ 384) {kd : am_kd} {rv : am_rv} {iv : am_iv} (h : REL kd rv iv iv) (h42 : kd (42, 0, 0) = some (.inr (8, 0))) (j : Nat) (hj : j + 6 ≤ L) (cu su : Nat) (hcu : cu + 1 ≤ 600000) (hsu : su + 3 ≤ 7302250) (K : ∀ kd rv iv cu' su', REL kd rv iv iv → kd (42, 0, 0) = some (.inr (8, 0)) → cu' ≤ cu + 1 → su' ≤ su + 3 → am_X Φ l mL_law room_1 lw_post 1616 [some (am_P (42, 0, 0)), some (am_P (1, 0, 0)), some (am_P (30, 0, 0)), some (am_I (nI j))] [] kd rv iv cu' su') : am_X Φ l mL_law room_1 lw_post 310 [some (am_P (42, 0, 0)), some (am_P (1, 0, 0)), some (am_P (30, 0, 0)), some (am_I (nI j))] [] kd rv iv cu su := by
  obtain ⟨a, d1, d2, c, s, kd1, rv1, iv1, iv2, ⟨b1, b2, b3, b4⟩, hx, h1, h2, h3⟩ : CALL2 l kd rv iv mX11_end mX12_end [am_I (xs (j + 1))] := (call_end l h (xs (j + 1))).two
  have g42 : kd1 (42, 0, 0) = some (.inr (8, 0)) := (hx _ (by rw [h42]; exact fun z => by cases z)).trans h42
  refine X_aload_n (pc := 310) (i := 1) dL_law_310 rfl rfl ?_
  refine X_aload_n (pc := 311) (i := 0) dL_law_311 rfl rfl ?_
  refine X_iload_n (pc := 312) (i := 3) dL_law_312 rfl rfl ?_
  refine X_iconst (pc := 313) (1) dL_law_313 (by decide) ?_
  refine X_iadd (pc := 314) dL_law_314 ?_
  refine X_top (show nI j + (1 : Int32) = nI (j + 1) from mI_add j 1) ?_
  refine X_sld (pc := 315) hΦ (by first | exact h42 | exact g42) (show j + 1 < L by omega) (by omega) dL_law_315 ?_
  refine X_callVc (pc := 316) cv_L_23 h1 h.S.k1 rfl rfl rfl rfl (Nat.le_of_ble_eq_true rfl) ⟨by show d1 + 1 ≤ 2048; omega, Nat.le_trans (Nat.add_le_add_left (Nat.mul_le_mul_left 60 b1) _) (by decide)⟩ ⟨by show cu + c ≤ 600000; omega, by show su + s ≤ 7302250; omega⟩ dL_law_316 ?_
  refine X_aload_n (pc := 319) (i := 2) dL_law_319 rfl rfl ?_
  refine X_aload_n (pc := 320) (i := 0) dL_law_320 rfl rfl ?_
  refine X_iload_n (pc := 321) (i := 3) dL_law_321 rfl rfl ?_
  refine X_iconst (pc := 322) (1) dL_law_322 (by decide) ?_
  refine X_iadd (pc := 323) dL_law_323 ?_
  refine X_top (show nI j + (1 : Int32) = nI (j + 1) from mI_add j 1) ?_
  refine X_sld (pc := 324) hΦ (by first | exact h42 | exact g42) (show j + 1 < L by omega) (by omega) dL_law_324 ?_
  refine X_callVc (pc := 325) cv_L_27 h2 h3.R.1 rfl rfl rfl rfl (Nat.le_of_ble_eq_true rfl) ⟨by show d2 + 1 ≤ 2048; omega, Nat.le_trans (Nat.add_le_add_left (Nat.mul_le_mul_left 60 b2) _) (by decide)⟩ ⟨by show cu + c + 0 ≤ 600000; omega, by show su + s + 0 ≤ 7302250; omega⟩ dL_law_325 ?_
  refine X_icmpeq (pc := 328) 1616 dL_law_328 (by decide) (fun hb328 => ?_) (fun hb328 => ?_)
  · exact K _ _ _ _ _ h3 g42 (by omega) (by omega)
  · exact absurd rfl hb328
set_option maxRecDepth 20000 in
theorem lw_c3 (l : Launch) {Φ : am_D → Prop} {L : Nat} {xs : Nat → Int32} (hΦ : ∀ D, Φ D → D.2.2.2.2.1 = L ∧ D.2.2.2.2.2 = xs) (hL : L ≤ 384) {kd : am_kd} {rv : am_rv} {iv : am_iv} (h : REL kd rv iv iv) (h42 : kd (42, 0, 0) = some (.inr (8, 0))) (j : Nat) (hj : j + 6 ≤ L) (cu su : Nat) (hcu : cu + 1 ≤ 600000) (hsu : su + 3 ≤ 7302250) (K : ∀ kd rv iv cu' su', REL kd rv iv iv → kd (42, 0, 0) = some (.inr (8, 0)) → cu' ≤ cu + 1 → su' ≤ su + 3 → am_X Φ l mL_law room_1 lw_post 1616 [some (am_P (42, 0, 0)), some (am_P (1, 0, 0)), some (am_P (30, 0, 0)), some (am_I (nI j))] [] kd rv iv cu' su') : am_X Φ l mL_law room_1 lw_post 333 [some (am_P (42, 0, 0)), some (am_P (1, 0, 0)), some (am_P (30, 0, 0)), some (am_I (nI j))] [] kd rv iv cu su := by
  obtain ⟨a, d1, d2, c, s, kd1, rv1, iv1, iv2, ⟨b1, b2, b3, b4⟩, hx, h1, h2, h3⟩ : CALL2 l kd rv iv mX11_wall mX12_wall [am_I (xs (j + 1))] := (call_wall l h (xs (j + 1))).two
  have g42 : kd1 (42, 0, 0) = some (.inr (8, 0)) := (hx _ (by rw [h42]; exact fun z => by cases z)).trans h42
  refine X_aload_n (pc := 333) (i := 1) dL_law_333 rfl rfl ?_
  refine X_aload_n (pc := 334) (i := 0) dL_law_334 rfl rfl ?_
  refine X_iload_n (pc := 335) (i := 3) dL_law_335 rfl rfl ?_
  refine X_iconst (pc := 336) (1) dL_law_336 (by decide) ?_
  refine X_iadd (pc := 337) dL_law_337 ?_
  refine X_top (show nI j + (1 : Int32) = nI (j + 1) from mI_add j 1) ?_
  refine X_sld (pc := 338) hΦ (by first | exact h42 | exact g42) (show j + 1 < L by omega) (by omega) dL_law_338 ?_
  refine X_callVc (pc := 339) cv_L_28 h1 h.S.k1 rfl rfl rfl rfl (Nat.le_of_ble_eq_true rfl) ⟨by show d1 + 1 ≤ 2048; omega, Nat.le_trans (Nat.add_le_add_left (Nat.mul_le_mul_left 60 b1) _) (by decide)⟩ ⟨by show cu + c ≤ 600000; omega, by show su + s ≤ 7302250; omega⟩ dL_law_339 ?_
  refine X_aload_n (pc := 342) (i := 2) dL_law_342 rfl rfl ?_
  refine X_aload_n (pc := 343) (i := 0) dL_law_343 rfl rfl ?_
  refine X_iload_n (pc := 344) (i := 3) dL_law_344 rfl rfl ?_
  refine X_iconst (pc := 345) (1) dL_law_345 (by decide) ?_
  refine X_iadd (pc := 346) dL_law_346 ?_
  refine X_top (show nI j + (1 : Int32) = nI (j + 1) from mI_add j 1) ?_
  refine X_sld (pc := 347) hΦ (by first | exact h42 | exact g42) (show j + 1 < L by omega) (by omega) dL_law_347 ?_
  refine X_callVc (pc := 348) cv_L_31 h2 h3.R.1 rfl rfl rfl rfl (Nat.le_of_ble_eq_true rfl) ⟨by show d2 + 1 ≤ 2048; omega, Nat.le_trans (Nat.add_le_add_left (Nat.mul_le_mul_left 60 b2) _) (by decide)⟩ ⟨by show cu + c + 0 ≤ 600000; omega, by show su + s + 0 ≤ 7302250; omega⟩ dL_law_348 ?_
  refine X_icmpeq (pc := 351) 1616 dL_law_351 (by decide) (fun hb351 => ?_) (fun hb351 => ?_)
  · exact K _ _ _ _ _ h3 g42 (by omega) (by omega)
  · exact absurd rfl hb351
set_option maxRecDepth 20000 in
theorem lw_c4 (l : Launch) {Φ : am_D → Prop} {L : Nat} {xs : Nat → Int32} (hΦ : ∀ D, Φ D → D.2.2.2.2.1 = L ∧ D.2.2.2.2.2 = xs) (hL : L ≤ 384) {kd : am_kd} {rv : am_rv} {iv : am_iv} (h : REL kd rv iv iv) (h42 : kd (42, 0, 0) = some (.inr (8, 0))) (j : Nat) (hj : j + 6 ≤ L) (cu su : Nat) (hcu : cu + 1 ≤ 600000) (hsu : su + 3 ≤ 7302250) (K : ∀ kd rv iv cu' su', REL kd rv iv iv → kd (42, 0, 0) = some (.inr (8, 0)) → cu' ≤ cu + 1 → su' ≤ su + 3 → am_X Φ l mL_law room_1 lw_post 1616 [some (am_P (42, 0, 0)), some (am_P (1, 0, 0)), some (am_P (30, 0, 0)), some (am_I (nI j))] [] kd rv iv cu' su') : am_X Φ l mL_law room_1 lw_post 356 [some (am_P (42, 0, 0)), some (am_P (1, 0, 0)), some (am_P (30, 0, 0)), some (am_I (nI j))] [] kd rv iv cu su := by
  obtain ⟨a, d1, d2, c, s, kd1, rv1, iv1, iv2, ⟨b1, b2, b3, b4⟩, hx, h1, h2, h3⟩ : CALL2 l kd rv iv mX11_law mX12_law [am_I (xs (j + 1)), am_I (xs (j + 2))] := (call_law l h (xs (j + 1)) (xs (j + 2))).elim CALL.two CALL1.two
  have g42 : kd1 (42, 0, 0) = some (.inr (8, 0)) := (hx _ (by rw [h42]; exact fun z => by cases z)).trans h42
  refine X_aload_n (pc := 356) (i := 1) dL_law_356 rfl rfl ?_
  refine X_aload_n (pc := 357) (i := 0) dL_law_357 rfl rfl ?_
  refine X_iload_n (pc := 358) (i := 3) dL_law_358 rfl rfl ?_
  refine X_iconst (pc := 359) (1) dL_law_359 (by decide) ?_
  refine X_iadd (pc := 360) dL_law_360 ?_
  refine X_top (show nI j + (1 : Int32) = nI (j + 1) from mI_add j 1) ?_
  refine X_sld (pc := 361) hΦ (by first | exact h42 | exact g42) (show j + 1 < L by omega) (by omega) dL_law_361 ?_
  refine X_aload_n (pc := 362) (i := 0) dL_law_362 rfl rfl ?_
  refine X_iload_n (pc := 363) (i := 3) dL_law_363 rfl rfl ?_
  refine X_iconst (pc := 364) (2) dL_law_364 (by decide) ?_
  refine X_iadd (pc := 365) dL_law_365 ?_
  refine X_top (show nI j + (2 : Int32) = nI (j + 2) from mI_add j 2) ?_
  refine X_sld (pc := 366) hΦ (by first | exact h42 | exact g42) (show j + 2 < L by omega) (by omega) dL_law_366 ?_
  refine X_callVc (pc := 367) cv_L_32 h1 h.S.k1 rfl rfl rfl rfl (Nat.le_of_ble_eq_true rfl) ⟨by show d1 + 1 ≤ 2048; omega, Nat.le_trans (Nat.add_le_add_left (Nat.mul_le_mul_left 60 b1) _) (by decide)⟩ ⟨by show cu + c ≤ 600000; omega, by show su + s ≤ 7302250; omega⟩ dL_law_367 ?_
  refine X_aload_n (pc := 370) (i := 2) dL_law_370 rfl rfl ?_
  refine X_aload_n (pc := 371) (i := 0) dL_law_371 rfl rfl ?_
  refine X_iload_n (pc := 372) (i := 3) dL_law_372 rfl rfl ?_
  refine X_iconst (pc := 373) (1) dL_law_373 (by decide) ?_
  refine X_iadd (pc := 374) dL_law_374 ?_
  refine X_top (show nI j + (1 : Int32) = nI (j + 1) from mI_add j 1) ?_
  refine X_sld (pc := 375) hΦ (by first | exact h42 | exact g42) (show j + 1 < L by omega) (by omega) dL_law_375 ?_
  refine X_aload_n (pc := 376) (i := 0) dL_law_376 rfl rfl ?_
  refine X_iload_n (pc := 377) (i := 3) dL_law_377 rfl rfl ?_
  refine X_iconst (pc := 378) (2) dL_law_378 (by decide) ?_
  refine X_iadd (pc := 379) dL_law_379 ?_
  refine X_top (show nI j + (2 : Int32) = nI (j + 2) from mI_add j 2) ?_
  refine X_sld (pc := 380) hΦ (by first | exact h42 | exact g42) (show j + 2 < L by omega) (by omega) dL_law_380 ?_
  refine X_callVc (pc := 381) cv_L_35 h2 h3.R.1 rfl rfl rfl rfl (Nat.le_of_ble_eq_true rfl) ⟨by show d2 + 1 ≤ 2048; omega, Nat.le_trans (Nat.add_le_add_left (Nat.mul_le_mul_left 60 b2) _) (by decide)⟩ ⟨by show cu + c + 0 ≤ 600000; omega, by show su + s + 0 ≤ 7302250; omega⟩ dL_law_381 ?_
  refine X_icmpeq (pc := 384) 1616 dL_law_384 (by decide) (fun hb384 => ?_) (fun hb384 => ?_)
  · exact K _ _ _ _ _ h3 g42 (by omega) (by omega)
  · exact absurd rfl hb384
set_option maxRecDepth 20000 in
theorem lw_c5 (l : Launch) {Φ : am_D → Prop} {L : Nat} {xs : Nat → Int32} (hΦ : ∀ D, Φ D → D.2.2.2.2.1 = L ∧ D.2.2.2.2.2 = xs) (hL : L ≤ 384) {kd : am_kd} {rv : am_rv} {iv : am_iv} (h : REL kd rv iv iv) (h42 : kd (42, 0, 0) = some (.inr (8, 0))) (j : Nat) (hj : j + 6 ≤ L) (cu su : Nat) (hcu : cu + 1 ≤ 600000) (hsu : su + 3 ≤ 7302250) (K : ∀ kd rv iv cu' su', REL kd rv iv iv → kd (42, 0, 0) = some (.inr (8, 0)) → cu' ≤ cu + 1 → su' ≤ su + 3 → am_X Φ l mL_law room_1 lw_post 1616 [some (am_P (42, 0, 0)), some (am_P (1, 0, 0)), some (am_P (30, 0, 0)), some (am_I (nI j))] [] kd rv iv cu' su') : am_X Φ l mL_law room_1 lw_post 389 [some (am_P (42, 0, 0)), some (am_P (1, 0, 0)), some (am_P (30, 0, 0)), some (am_I (nI j))] [] kd rv iv cu su := by
  obtain ⟨a, d1, d2, c, s, kd1, rv1, iv1, iv2, ⟨b1, b2, b3, b4⟩, hx, h1, h2, h3⟩ : CALL2 l kd rv iv mX11_ofLaw mX12_ofLaw [am_I (xs (j + 1)), am_I (xs (j + 2))] := (call_ofLaw l h (xs (j + 1)) (xs (j + 2))).two
  have g42 : kd1 (42, 0, 0) = some (.inr (8, 0)) := (hx _ (by rw [h42]; exact fun z => by cases z)).trans h42
  refine X_aload_n (pc := 389) (i := 1) dL_law_389 rfl rfl ?_
  refine X_aload_n (pc := 390) (i := 0) dL_law_390 rfl rfl ?_
  refine X_iload_n (pc := 391) (i := 3) dL_law_391 rfl rfl ?_
  refine X_iconst (pc := 392) (1) dL_law_392 (by decide) ?_
  refine X_iadd (pc := 393) dL_law_393 ?_
  refine X_top (show nI j + (1 : Int32) = nI (j + 1) from mI_add j 1) ?_
  refine X_sld (pc := 394) hΦ (by first | exact h42 | exact g42) (show j + 1 < L by omega) (by omega) dL_law_394 ?_
  refine X_aload_n (pc := 395) (i := 0) dL_law_395 rfl rfl ?_
  refine X_iload_n (pc := 396) (i := 3) dL_law_396 rfl rfl ?_
  refine X_iconst (pc := 397) (2) dL_law_397 (by decide) ?_
  refine X_iadd (pc := 398) dL_law_398 ?_
  refine X_top (show nI j + (2 : Int32) = nI (j + 2) from mI_add j 2) ?_
  refine X_sld (pc := 399) hΦ (by first | exact h42 | exact g42) (show j + 2 < L by omega) (by omega) dL_law_399 ?_
  refine X_callVc (pc := 400) cv_L_36 h1 h.S.k1 rfl rfl rfl rfl (Nat.le_of_ble_eq_true rfl) ⟨by show d1 + 1 ≤ 2048; omega, Nat.le_trans (Nat.add_le_add_left (Nat.mul_le_mul_left 60 b1) _) (by decide)⟩ ⟨by show cu + c ≤ 600000; omega, by show su + s ≤ 7302250; omega⟩ dL_law_400 ?_
  refine X_aload_n (pc := 403) (i := 2) dL_law_403 rfl rfl ?_
  refine X_aload_n (pc := 404) (i := 0) dL_law_404 rfl rfl ?_
  refine X_iload_n (pc := 405) (i := 3) dL_law_405 rfl rfl ?_
  refine X_iconst (pc := 406) (1) dL_law_406 (by decide) ?_
  refine X_iadd (pc := 407) dL_law_407 ?_
  refine X_top (show nI j + (1 : Int32) = nI (j + 1) from mI_add j 1) ?_
  refine X_sld (pc := 408) hΦ (by first | exact h42 | exact g42) (show j + 1 < L by omega) (by omega) dL_law_408 ?_
  refine X_aload_n (pc := 409) (i := 0) dL_law_409 rfl rfl ?_
  refine X_iload_n (pc := 410) (i := 3) dL_law_410 rfl rfl ?_
  refine X_iconst (pc := 411) (2) dL_law_411 (by decide) ?_
  refine X_iadd (pc := 412) dL_law_412 ?_
  refine X_top (show nI j + (2 : Int32) = nI (j + 2) from mI_add j 2) ?_
  refine X_sld (pc := 413) hΦ (by first | exact h42 | exact g42) (show j + 2 < L by omega) (by omega) dL_law_413 ?_
  refine X_callVc (pc := 414) cv_L_39 h2 h3.R.1 rfl rfl rfl rfl (Nat.le_of_ble_eq_true rfl) ⟨by show d2 + 1 ≤ 2048; omega, Nat.le_trans (Nat.add_le_add_left (Nat.mul_le_mul_left 60 b2) _) (by decide)⟩ ⟨by show cu + c + 0 ≤ 600000; omega, by show su + s + 0 ≤ 7302250; omega⟩ dL_law_414 ?_
  refine X_icmpeq (pc := 417) 1616 dL_law_417 (by decide) (fun hb417 => ?_) (fun hb417 => ?_)
  · exact K _ _ _ _ _ h3 g42 (by omega) (by omega)
  · exact absurd rfl hb417
set_option maxRecDepth 20000 in
theorem lw_c6 (l : Launch) {Φ : am_D → Prop} {L : Nat} {xs : Nat → Int32} (hΦ : ∀ D, Φ D → D.2.2.2.2.1 = L ∧ D.2.2.2.2.2 = xs) (hL : L ≤ 384) {kd : am_kd} {rv : am_rv} {iv : am_iv} (h : REL kd rv iv iv) (h42 : kd (42, 0, 0) = some (.inr (8, 0))) (j : Nat) (hj : j + 6 ≤ L) (cu su : Nat) (hcu : cu + 1 ≤ 600000) (hsu : su + 3 ≤ 7302250) (K : ∀ kd rv iv cu' su', REL kd rv iv iv → kd (42, 0, 0) = some (.inr (8, 0)) → cu' ≤ cu + 1 → su' ≤ su + 3 → am_X Φ l mL_law room_1 lw_post 1616 [some (am_P (42, 0, 0)), some (am_P (1, 0, 0)), some (am_P (30, 0, 0)), some (am_I (nI j))] [] kd rv iv cu' su') : am_X Φ l mL_law room_1 lw_post 422 [some (am_P (42, 0, 0)), some (am_P (1, 0, 0)), some (am_P (30, 0, 0)), some (am_I (nI j))] [] kd rv iv cu su := by
  obtain ⟨a, d1, d2, c, s, kd1, rv1, iv1, iv2, ⟨b1, b2, b3, b4⟩, hx, h1, h2, h3⟩ : CALL2 l kd rv iv mX11_as mX12_as [am_I (xs (j + 1)), am_I (xs (j + 2))] := (call_as l h (xs (j + 1)) (xs (j + 2))).two
  have g42 : kd1 (42, 0, 0) = some (.inr (8, 0)) := (hx _ (by rw [h42]; exact fun z => by cases z)).trans h42
  refine X_aload_n (pc := 422) (i := 1) dL_law_422 rfl rfl ?_
  refine X_aload_n (pc := 423) (i := 0) dL_law_423 rfl rfl ?_
  refine X_iload_n (pc := 424) (i := 3) dL_law_424 rfl rfl ?_
  refine X_iconst (pc := 425) (1) dL_law_425 (by decide) ?_
  refine X_iadd (pc := 426) dL_law_426 ?_
  refine X_top (show nI j + (1 : Int32) = nI (j + 1) from mI_add j 1) ?_
  refine X_sld (pc := 427) hΦ (by first | exact h42 | exact g42) (show j + 1 < L by omega) (by omega) dL_law_427 ?_
  refine X_aload_n (pc := 428) (i := 0) dL_law_428 rfl rfl ?_
  refine X_iload_n (pc := 429) (i := 3) dL_law_429 rfl rfl ?_
  refine X_iconst (pc := 430) (2) dL_law_430 (by decide) ?_
  refine X_iadd (pc := 431) dL_law_431 ?_
  refine X_top (show nI j + (2 : Int32) = nI (j + 2) from mI_add j 2) ?_
  refine X_sld (pc := 432) hΦ (by first | exact h42 | exact g42) (show j + 2 < L by omega) (by omega) dL_law_432 ?_
  refine X_callVc (pc := 433) cv_L_40 h1 h.S.k1 rfl rfl rfl rfl (Nat.le_of_ble_eq_true rfl) ⟨by show d1 + 1 ≤ 2048; omega, Nat.le_trans (Nat.add_le_add_left (Nat.mul_le_mul_left 60 b1) _) (by decide)⟩ ⟨by show cu + c ≤ 600000; omega, by show su + s ≤ 7302250; omega⟩ dL_law_433 ?_
  refine X_aload_n (pc := 436) (i := 2) dL_law_436 rfl rfl ?_
  refine X_aload_n (pc := 437) (i := 0) dL_law_437 rfl rfl ?_
  refine X_iload_n (pc := 438) (i := 3) dL_law_438 rfl rfl ?_
  refine X_iconst (pc := 439) (1) dL_law_439 (by decide) ?_
  refine X_iadd (pc := 440) dL_law_440 ?_
  refine X_top (show nI j + (1 : Int32) = nI (j + 1) from mI_add j 1) ?_
  refine X_sld (pc := 441) hΦ (by first | exact h42 | exact g42) (show j + 1 < L by omega) (by omega) dL_law_441 ?_
  refine X_aload_n (pc := 442) (i := 0) dL_law_442 rfl rfl ?_
  refine X_iload_n (pc := 443) (i := 3) dL_law_443 rfl rfl ?_
  refine X_iconst (pc := 444) (2) dL_law_444 (by decide) ?_
  refine X_iadd (pc := 445) dL_law_445 ?_
  refine X_top (show nI j + (2 : Int32) = nI (j + 2) from mI_add j 2) ?_
  refine X_sld (pc := 446) hΦ (by first | exact h42 | exact g42) (show j + 2 < L by omega) (by omega) dL_law_446 ?_
  refine X_callVc (pc := 447) cv_L_43 h2 h3.R.1 rfl rfl rfl rfl (Nat.le_of_ble_eq_true rfl) ⟨by show d2 + 1 ≤ 2048; omega, Nat.le_trans (Nat.add_le_add_left (Nat.mul_le_mul_left 60 b2) _) (by decide)⟩ ⟨by show cu + c + 0 ≤ 600000; omega, by show su + s + 0 ≤ 7302250; omega⟩ dL_law_447 ?_
  refine X_icmpeq (pc := 450) 1616 dL_law_450 (by decide) (fun hb450 => ?_) (fun hb450 => ?_)
  · exact K _ _ _ _ _ h3 g42 (by omega) (by omega)
  · exact absurd rfl hb450
set_option maxRecDepth 20000 in
theorem lw_c7 (l : Launch) {Φ : am_D → Prop} {L : Nat} {xs : Nat → Int32} (hΦ : ∀ D, Φ D → D.2.2.2.2.1 = L ∧ D.2.2.2.2.2 = xs) (hL : L ≤ 384) {kd : am_kd} {rv : am_rv} {iv : am_iv} (h : REL kd rv iv iv) (h42 : kd (42, 0, 0) = some (.inr (8, 0))) (j : Nat) (hj : j + 6 ≤ L) (cu su : Nat) (hcu : cu + 1 ≤ 600000) (hsu : su + 3 ≤ 7302250) (K : ∀ kd rv iv cu' su', REL kd rv iv iv → kd (42, 0, 0) = some (.inr (8, 0)) → cu' ≤ cu + 1 → su' ≤ su + 3 → am_X Φ l mL_law room_1 lw_post 1616 [some (am_P (42, 0, 0)), some (am_P (1, 0, 0)), some (am_P (30, 0, 0)), some (am_I (nI j))] [] kd rv iv cu' su') : am_X Φ l mL_law room_1 lw_post 455 [some (am_P (42, 0, 0)), some (am_P (1, 0, 0)), some (am_P (30, 0, 0)), some (am_I (nI j))] [] kd rv iv cu su := by
  obtain ⟨a, d1, d2, c, s, kd1, rv1, iv1, iv2, ⟨b1, b2, b3, b4⟩, hx, h1, h2, h3⟩ : CALL2 l kd rv iv mX11_turn mX12_turn [am_I (xs (j + 1)), am_I (xs (j + 2))] := (call_turn l h (xs (j + 1)) (xs (j + 2))).two
  have g42 : kd1 (42, 0, 0) = some (.inr (8, 0)) := (hx _ (by rw [h42]; exact fun z => by cases z)).trans h42
  refine X_aload_n (pc := 455) (i := 1) dL_law_455 rfl rfl ?_
  refine X_aload_n (pc := 456) (i := 0) dL_law_456 rfl rfl ?_
  refine X_iload_n (pc := 457) (i := 3) dL_law_457 rfl rfl ?_
  refine X_iconst (pc := 458) (1) dL_law_458 (by decide) ?_
  refine X_iadd (pc := 459) dL_law_459 ?_
  refine X_top (show nI j + (1 : Int32) = nI (j + 1) from mI_add j 1) ?_
  refine X_sld (pc := 460) hΦ (by first | exact h42 | exact g42) (show j + 1 < L by omega) (by omega) dL_law_460 ?_
  refine X_aload_n (pc := 461) (i := 0) dL_law_461 rfl rfl ?_
  refine X_iload_n (pc := 462) (i := 3) dL_law_462 rfl rfl ?_
  refine X_iconst (pc := 463) (2) dL_law_463 (by decide) ?_
  refine X_iadd (pc := 464) dL_law_464 ?_
  refine X_top (show nI j + (2 : Int32) = nI (j + 2) from mI_add j 2) ?_
  refine X_sld (pc := 465) hΦ (by first | exact h42 | exact g42) (show j + 2 < L by omega) (by omega) dL_law_465 ?_
  refine X_callVc (pc := 466) cv_L_44 h1 h.S.k1 rfl rfl rfl rfl (Nat.le_of_ble_eq_true rfl) ⟨by show d1 + 1 ≤ 2048; omega, Nat.le_trans (Nat.add_le_add_left (Nat.mul_le_mul_left 60 b1) _) (by decide)⟩ ⟨by show cu + c ≤ 600000; omega, by show su + s ≤ 7302250; omega⟩ dL_law_466 ?_
  refine X_aload_n (pc := 469) (i := 2) dL_law_469 rfl rfl ?_
  refine X_aload_n (pc := 470) (i := 0) dL_law_470 rfl rfl ?_
  refine X_iload_n (pc := 471) (i := 3) dL_law_471 rfl rfl ?_
  refine X_iconst (pc := 472) (1) dL_law_472 (by decide) ?_
  refine X_iadd (pc := 473) dL_law_473 ?_
  refine X_top (show nI j + (1 : Int32) = nI (j + 1) from mI_add j 1) ?_
  refine X_sld (pc := 474) hΦ (by first | exact h42 | exact g42) (show j + 1 < L by omega) (by omega) dL_law_474 ?_
  refine X_aload_n (pc := 475) (i := 0) dL_law_475 rfl rfl ?_
  refine X_iload_n (pc := 476) (i := 3) dL_law_476 rfl rfl ?_
  refine X_iconst (pc := 477) (2) dL_law_477 (by decide) ?_
  refine X_iadd (pc := 478) dL_law_478 ?_
  refine X_top (show nI j + (2 : Int32) = nI (j + 2) from mI_add j 2) ?_
  refine X_sld (pc := 479) hΦ (by first | exact h42 | exact g42) (show j + 2 < L by omega) (by omega) dL_law_479 ?_
  refine X_callVc (pc := 480) cv_L_47 h2 h3.R.1 rfl rfl rfl rfl (Nat.le_of_ble_eq_true rfl) ⟨by show d2 + 1 ≤ 2048; omega, Nat.le_trans (Nat.add_le_add_left (Nat.mul_le_mul_left 60 b2) _) (by decide)⟩ ⟨by show cu + c + 0 ≤ 600000; omega, by show su + s + 0 ≤ 7302250; omega⟩ dL_law_480 ?_
  refine X_icmpeq (pc := 483) 1616 dL_law_483 (by decide) (fun hb483 => ?_) (fun hb483 => ?_)
  · exact K _ _ _ _ _ h3 g42 (by omega) (by omega)
  · exact absurd rfl hb483
set_option maxRecDepth 20000 in
theorem lw_c8 (l : Launch) {Φ : am_D → Prop} {L : Nat} {xs : Nat → Int32} (hΦ : ∀ D, Φ D → D.2.2.2.2.1 = L ∧ D.2.2.2.2.2 = xs) (hL : L ≤ 384) {kd : am_kd} {rv : am_rv} {iv : am_iv} (h : REL kd rv iv iv) (h42 : kd (42, 0, 0) = some (.inr (8, 0))) (j : Nat) (hj : j + 6 ≤ L) (cu su : Nat) (hcu : cu + 1 ≤ 600000) (hsu : su + 3 ≤ 7302250) (K : ∀ kd rv iv cu' su', REL kd rv iv iv → kd (42, 0, 0) = some (.inr (8, 0)) → cu' ≤ cu + 1 → su' ≤ su + 3 → am_X Φ l mL_law room_1 lw_post 1616 [some (am_P (42, 0, 0)), some (am_P (1, 0, 0)), some (am_P (30, 0, 0)), some (am_I (nI j))] [] kd rv iv cu' su') : am_X Φ l mL_law room_1 lw_post 488 [some (am_P (42, 0, 0)), some (am_P (1, 0, 0)), some (am_P (30, 0, 0)), some (am_I (nI j))] [] kd rv iv cu su := by
  obtain ⟨a, d1, d2, c, s, kd1, rv1, iv1, iv2, ⟨b1, b2, b3, b4⟩, hx, h1, h2, h3⟩ : CALL2 l kd rv iv mX11_does mX12_does [am_I (xs (j + 1)), am_I (xs (j + 2)), am_I (xs (j + 3)), am_I (xs (j + 4))] := (call_does l h (xs (j + 1)) (xs (j + 2)) (xs (j + 3)) (xs (j + 4))).two
  have g42 : kd1 (42, 0, 0) = some (.inr (8, 0)) := (hx _ (by rw [h42]; exact fun z => by cases z)).trans h42
  refine X_aload_n (pc := 488) (i := 1) dL_law_488 rfl rfl ?_
  refine X_aload_n (pc := 489) (i := 0) dL_law_489 rfl rfl ?_
  refine X_iload_n (pc := 490) (i := 3) dL_law_490 rfl rfl ?_
  refine X_iconst (pc := 491) (1) dL_law_491 (by decide) ?_
  refine X_iadd (pc := 492) dL_law_492 ?_
  refine X_top (show nI j + (1 : Int32) = nI (j + 1) from mI_add j 1) ?_
  refine X_sld (pc := 493) hΦ (by first | exact h42 | exact g42) (show j + 1 < L by omega) (by omega) dL_law_493 ?_
  refine X_aload_n (pc := 494) (i := 0) dL_law_494 rfl rfl ?_
  refine X_iload_n (pc := 495) (i := 3) dL_law_495 rfl rfl ?_
  refine X_iconst (pc := 496) (2) dL_law_496 (by decide) ?_
  refine X_iadd (pc := 497) dL_law_497 ?_
  refine X_top (show nI j + (2 : Int32) = nI (j + 2) from mI_add j 2) ?_
  refine X_sld (pc := 498) hΦ (by first | exact h42 | exact g42) (show j + 2 < L by omega) (by omega) dL_law_498 ?_
  refine X_aload_n (pc := 499) (i := 0) dL_law_499 rfl rfl ?_
  refine X_iload_n (pc := 500) (i := 3) dL_law_500 rfl rfl ?_
  refine X_iconst (pc := 501) (3) dL_law_501 (by decide) ?_
  refine X_iadd (pc := 502) dL_law_502 ?_
  refine X_top (show nI j + (3 : Int32) = nI (j + 3) from mI_add j 3) ?_
  refine X_sld (pc := 503) hΦ (by first | exact h42 | exact g42) (show j + 3 < L by omega) (by omega) dL_law_503 ?_
  refine X_aload_n (pc := 504) (i := 0) dL_law_504 rfl rfl ?_
  refine X_iload_n (pc := 505) (i := 3) dL_law_505 rfl rfl ?_
  refine X_iconst (pc := 506) (4) dL_law_506 (by decide) ?_
  refine X_iadd (pc := 507) dL_law_507 ?_
  refine X_top (show nI j + (4 : Int32) = nI (j + 4) from mI_add j 4) ?_
  refine X_sld (pc := 508) hΦ (by first | exact h42 | exact g42) (show j + 4 < L by omega) (by omega) dL_law_508 ?_
  refine X_callVc (pc := 509) cv_L_48 h1 h.S.k1 rfl rfl rfl rfl (Nat.le_of_ble_eq_true rfl) ⟨by show d1 + 1 ≤ 2048; omega, Nat.le_trans (Nat.add_le_add_left (Nat.mul_le_mul_left 60 b1) _) (by decide)⟩ ⟨by show cu + c ≤ 600000; omega, by show su + s ≤ 7302250; omega⟩ dL_law_509 ?_
  refine X_aload_n (pc := 512) (i := 2) dL_law_512 rfl rfl ?_
  refine X_aload_n (pc := 513) (i := 0) dL_law_513 rfl rfl ?_
  refine X_iload_n (pc := 514) (i := 3) dL_law_514 rfl rfl ?_
  refine X_iconst (pc := 515) (1) dL_law_515 (by decide) ?_
  refine X_iadd (pc := 516) dL_law_516 ?_
  refine X_top (show nI j + (1 : Int32) = nI (j + 1) from mI_add j 1) ?_
  refine X_sld (pc := 517) hΦ (by first | exact h42 | exact g42) (show j + 1 < L by omega) (by omega) dL_law_517 ?_
  refine X_aload_n (pc := 518) (i := 0) dL_law_518 rfl rfl ?_
  refine X_iload_n (pc := 519) (i := 3) dL_law_519 rfl rfl ?_
  refine X_iconst (pc := 520) (2) dL_law_520 (by decide) ?_
  refine X_iadd (pc := 521) dL_law_521 ?_
  refine X_top (show nI j + (2 : Int32) = nI (j + 2) from mI_add j 2) ?_
  refine X_sld (pc := 522) hΦ (by first | exact h42 | exact g42) (show j + 2 < L by omega) (by omega) dL_law_522 ?_
  refine X_aload_n (pc := 523) (i := 0) dL_law_523 rfl rfl ?_
  refine X_iload_n (pc := 524) (i := 3) dL_law_524 rfl rfl ?_
  refine X_iconst (pc := 525) (3) dL_law_525 (by decide) ?_
  refine X_iadd (pc := 526) dL_law_526 ?_
  refine X_top (show nI j + (3 : Int32) = nI (j + 3) from mI_add j 3) ?_
  refine X_sld (pc := 527) hΦ (by first | exact h42 | exact g42) (show j + 3 < L by omega) (by omega) dL_law_527 ?_
  refine X_aload_n (pc := 528) (i := 0) dL_law_528 rfl rfl ?_
  refine X_iload_n (pc := 529) (i := 3) dL_law_529 rfl rfl ?_
  refine X_iconst (pc := 530) (4) dL_law_530 (by decide) ?_
  refine X_iadd (pc := 531) dL_law_531 ?_
  refine X_top (show nI j + (4 : Int32) = nI (j + 4) from mI_add j 4) ?_
  refine X_sld (pc := 532) hΦ (by first | exact h42 | exact g42) (show j + 4 < L by omega) (by omega) dL_law_532 ?_
  refine X_callVc (pc := 533) cv_L_51 h2 h3.R.1 rfl rfl rfl rfl (Nat.le_of_ble_eq_true rfl) ⟨by show d2 + 1 ≤ 2048; omega, Nat.le_trans (Nat.add_le_add_left (Nat.mul_le_mul_left 60 b2) _) (by decide)⟩ ⟨by show cu + c + 0 ≤ 600000; omega, by show su + s + 0 ≤ 7302250; omega⟩ dL_law_533 ?_
  refine X_icmpeq (pc := 536) 1616 dL_law_536 (by decide) (fun hb536 => ?_) (fun hb536 => ?_)
  · exact K _ _ _ _ _ h3 g42 (by omega) (by omega)
  · exact absurd rfl hb536
set_option maxRecDepth 20000 in
theorem lw_c9 (l : Launch) {Φ : am_D → Prop} {L : Nat} {xs : Nat → Int32} (hΦ : ∀ D, Φ D → D.2.2.2.2.1 = L ∧ D.2.2.2.2.2 = xs) (hL : L ≤ 384) {kd : am_kd} {rv : am_rv} {iv : am_iv} (h : REL kd rv iv iv) (h42 : kd (42, 0, 0) = some (.inr (8, 0))) (j : Nat) (hj : j + 6 ≤ L) (cu su : Nat) (hcu : cu + 1 ≤ 600000) (hsu : su + 3 ≤ 7302250) (K : ∀ kd rv iv cu' su', REL kd rv iv iv → kd (42, 0, 0) = some (.inr (8, 0)) → cu' ≤ cu + 1 → su' ≤ su + 3 → am_X Φ l mL_law room_1 lw_post 1616 [some (am_P (42, 0, 0)), some (am_P (1, 0, 0)), some (am_P (30, 0, 0)), some (am_I (nI j))] [] kd rv iv cu' su') : am_X Φ l mL_law room_1 lw_post 541 [some (am_P (42, 0, 0)), some (am_P (1, 0, 0)), some (am_P (30, 0, 0)), some (am_I (nI j))] [] kd rv iv cu su := by
  obtain ⟨a, d1, d2, c, s, kd1, rv1, iv1, iv2, ⟨b1, b2, b3, b4⟩, hx, h1, h2, h3⟩ : CALL2 l kd rv iv mX11_pair mX12_pair [am_I (xs (j + 1)), am_I (xs (j + 2)), am_I (xs (j + 3))] := (call_pair l h (xs (j + 1)) (xs (j + 2)) (xs (j + 3))).two
  have g42 : kd1 (42, 0, 0) = some (.inr (8, 0)) := (hx _ (by rw [h42]; exact fun z => by cases z)).trans h42
  refine X_aload_n (pc := 541) (i := 1) dL_law_541 rfl rfl ?_
  refine X_aload_n (pc := 542) (i := 0) dL_law_542 rfl rfl ?_
  refine X_iload_n (pc := 543) (i := 3) dL_law_543 rfl rfl ?_
  refine X_iconst (pc := 544) (1) dL_law_544 (by decide) ?_
  refine X_iadd (pc := 545) dL_law_545 ?_
  refine X_top (show nI j + (1 : Int32) = nI (j + 1) from mI_add j 1) ?_
  refine X_sld (pc := 546) hΦ (by first | exact h42 | exact g42) (show j + 1 < L by omega) (by omega) dL_law_546 ?_
  refine X_aload_n (pc := 547) (i := 0) dL_law_547 rfl rfl ?_
  refine X_iload_n (pc := 548) (i := 3) dL_law_548 rfl rfl ?_
  refine X_iconst (pc := 549) (2) dL_law_549 (by decide) ?_
  refine X_iadd (pc := 550) dL_law_550 ?_
  refine X_top (show nI j + (2 : Int32) = nI (j + 2) from mI_add j 2) ?_
  refine X_sld (pc := 551) hΦ (by first | exact h42 | exact g42) (show j + 2 < L by omega) (by omega) dL_law_551 ?_
  refine X_aload_n (pc := 552) (i := 0) dL_law_552 rfl rfl ?_
  refine X_iload_n (pc := 553) (i := 3) dL_law_553 rfl rfl ?_
  refine X_iconst (pc := 554) (3) dL_law_554 (by decide) ?_
  refine X_iadd (pc := 555) dL_law_555 ?_
  refine X_top (show nI j + (3 : Int32) = nI (j + 3) from mI_add j 3) ?_
  refine X_sld (pc := 556) hΦ (by first | exact h42 | exact g42) (show j + 3 < L by omega) (by omega) dL_law_556 ?_
  refine X_callVc (pc := 557) cv_L_52 h1 h.S.k1 rfl rfl rfl rfl (Nat.le_of_ble_eq_true rfl) ⟨by show d1 + 1 ≤ 2048; omega, Nat.le_trans (Nat.add_le_add_left (Nat.mul_le_mul_left 60 b1) _) (by decide)⟩ ⟨by show cu + c ≤ 600000; omega, by show su + s ≤ 7302250; omega⟩ dL_law_557 ?_
  refine X_aload_n (pc := 560) (i := 2) dL_law_560 rfl rfl ?_
  refine X_aload_n (pc := 561) (i := 0) dL_law_561 rfl rfl ?_
  refine X_iload_n (pc := 562) (i := 3) dL_law_562 rfl rfl ?_
  refine X_iconst (pc := 563) (1) dL_law_563 (by decide) ?_
  refine X_iadd (pc := 564) dL_law_564 ?_
  refine X_top (show nI j + (1 : Int32) = nI (j + 1) from mI_add j 1) ?_
  refine X_sld (pc := 565) hΦ (by first | exact h42 | exact g42) (show j + 1 < L by omega) (by omega) dL_law_565 ?_
  refine X_aload_n (pc := 566) (i := 0) dL_law_566 rfl rfl ?_
  refine X_iload_n (pc := 567) (i := 3) dL_law_567 rfl rfl ?_
  refine X_iconst (pc := 568) (2) dL_law_568 (by decide) ?_
  refine X_iadd (pc := 569) dL_law_569 ?_
  refine X_top (show nI j + (2 : Int32) = nI (j + 2) from mI_add j 2) ?_
  refine X_sld (pc := 570) hΦ (by first | exact h42 | exact g42) (show j + 2 < L by omega) (by omega) dL_law_570 ?_
  refine X_aload_n (pc := 571) (i := 0) dL_law_571 rfl rfl ?_
  refine X_iload_n (pc := 572) (i := 3) dL_law_572 rfl rfl ?_
  refine X_iconst (pc := 573) (3) dL_law_573 (by decide) ?_
  refine X_iadd (pc := 574) dL_law_574 ?_
  refine X_top (show nI j + (3 : Int32) = nI (j + 3) from mI_add j 3) ?_
  refine X_sld (pc := 575) hΦ (by first | exact h42 | exact g42) (show j + 3 < L by omega) (by omega) dL_law_575 ?_
  refine X_callVc (pc := 576) cv_L_56 h2 h3.R.1 rfl rfl rfl rfl (Nat.le_of_ble_eq_true rfl) ⟨by show d2 + 1 ≤ 2048; omega, Nat.le_trans (Nat.add_le_add_left (Nat.mul_le_mul_left 60 b2) _) (by decide)⟩ ⟨by show cu + c + 0 ≤ 600000; omega, by show su + s + 0 ≤ 7302250; omega⟩ dL_law_576 ?_
  refine X_icmpeq (pc := 579) 1616 dL_law_579 (by decide) (fun hb579 => ?_) (fun hb579 => ?_)
  · exact K _ _ _ _ _ h3 g42 (by omega) (by omega)
  · exact absurd rfl hb579
set_option maxRecDepth 20000 in
theorem lw_c10 (l : Launch) {Φ : am_D → Prop} {L : Nat} {xs : Nat → Int32} (hΦ : ∀ D, Φ D → D.2.2.2.2.1 = L ∧ D.2.2.2.2.2 = xs) (hL : L ≤ 384) {kd : am_kd} {rv : am_rv} {iv : am_iv} (h : REL kd rv iv iv) (h42 : kd (42, 0, 0) = some (.inr (8, 0))) (j : Nat) (hj : j + 6 ≤ L) (cu su : Nat) (hcu : cu + 1 ≤ 600000) (hsu : su + 3 ≤ 7302250) (K : ∀ kd rv iv cu' su', REL kd rv iv iv → kd (42, 0, 0) = some (.inr (8, 0)) → cu' ≤ cu + 1 → su' ≤ su + 3 → am_X Φ l mL_law room_1 lw_post 1616 [some (am_P (42, 0, 0)), some (am_P (1, 0, 0)), some (am_P (30, 0, 0)), some (am_I (nI j))] [] kd rv iv cu' su') : am_X Φ l mL_law room_1 lw_post 584 [some (am_P (42, 0, 0)), some (am_P (1, 0, 0)), some (am_P (30, 0, 0)), some (am_I (nI j))] [] kd rv iv cu su := by
  obtain ⟨a, d1, d2, c, s, kd1, rv1, iv1, iv2, ⟨b1, b2, b3, b4⟩, hx, h1, h2, h3⟩ : CALL2 l kd rv iv mX11_hole mX12_hole [am_I (xs (j + 1))] := (call_hole l h (xs (j + 1))).two
  have g42 : kd1 (42, 0, 0) = some (.inr (8, 0)) := (hx _ (by rw [h42]; exact fun z => by cases z)).trans h42
  refine X_aload_n (pc := 584) (i := 1) dL_law_584 rfl rfl ?_
  refine X_aload_n (pc := 585) (i := 0) dL_law_585 rfl rfl ?_
  refine X_iload_n (pc := 586) (i := 3) dL_law_586 rfl rfl ?_
  refine X_iconst (pc := 587) (1) dL_law_587 (by decide) ?_
  refine X_iadd (pc := 588) dL_law_588 ?_
  refine X_top (show nI j + (1 : Int32) = nI (j + 1) from mI_add j 1) ?_
  refine X_sld (pc := 589) hΦ (by first | exact h42 | exact g42) (show j + 1 < L by omega) (by omega) dL_law_589 ?_
  refine X_callVc (pc := 590) cv_L_57 h1 h.S.k1 rfl rfl rfl rfl (Nat.le_of_ble_eq_true rfl) ⟨by show d1 + 1 ≤ 2048; omega, Nat.le_trans (Nat.add_le_add_left (Nat.mul_le_mul_left 60 b1) _) (by decide)⟩ ⟨by show cu + c ≤ 600000; omega, by show su + s ≤ 7302250; omega⟩ dL_law_590 ?_
  refine X_aload_n (pc := 593) (i := 2) dL_law_593 rfl rfl ?_
  refine X_aload_n (pc := 594) (i := 0) dL_law_594 rfl rfl ?_
  refine X_iload_n (pc := 595) (i := 3) dL_law_595 rfl rfl ?_
  refine X_iconst (pc := 596) (1) dL_law_596 (by decide) ?_
  refine X_iadd (pc := 597) dL_law_597 ?_
  refine X_top (show nI j + (1 : Int32) = nI (j + 1) from mI_add j 1) ?_
  refine X_sld (pc := 598) hΦ (by first | exact h42 | exact g42) (show j + 1 < L by omega) (by omega) dL_law_598 ?_
  refine X_callVc (pc := 599) cv_L_60 h2 h3.R.1 rfl rfl rfl rfl (Nat.le_of_ble_eq_true rfl) ⟨by show d2 + 1 ≤ 2048; omega, Nat.le_trans (Nat.add_le_add_left (Nat.mul_le_mul_left 60 b2) _) (by decide)⟩ ⟨by show cu + c + 0 ≤ 600000; omega, by show su + s + 0 ≤ 7302250; omega⟩ dL_law_599 ?_
  refine X_icmpeq (pc := 602) 1616 dL_law_602 (by decide) (fun hb602 => ?_) (fun hb602 => ?_)
  · exact K _ _ _ _ _ h3 g42 (by omega) (by omega)
  · exact absurd rfl hb602
set_option maxRecDepth 20000 in
theorem lw_c11 (l : Launch) {Φ : am_D → Prop} {L : Nat} {xs : Nat → Int32} (hΦ : ∀ D, Φ D → D.2.2.2.2.1 = L ∧ D.2.2.2.2.2 = xs) (hL : L ≤ 384) {kd : am_kd} {rv : am_rv} {iv : am_iv} (h : REL kd rv iv iv) (h42 : kd (42, 0, 0) = some (.inr (8, 0))) (j : Nat) (hj : j + 6 ≤ L) (cu su : Nat) (hcu : cu + 1 ≤ 600000) (hsu : su + 3 ≤ 7302250) (K : ∀ kd rv iv cu' su', REL kd rv iv iv → kd (42, 0, 0) = some (.inr (8, 0)) → cu' ≤ cu + 1 → su' ≤ su + 3 → am_X Φ l mL_law room_1 lw_post 1616 [some (am_P (42, 0, 0)), some (am_P (1, 0, 0)), some (am_P (30, 0, 0)), some (am_I (nI j))] [] kd rv iv cu' su') : am_X Φ l mL_law room_1 lw_post 607 [some (am_P (42, 0, 0)), some (am_P (1, 0, 0)), some (am_P (30, 0, 0)), some (am_I (nI j))] [] kd rv iv cu su := by
  obtain ⟨a, d1, d2, c, s, kd1, rv1, iv1, iv2, ⟨b1, b2, b3, b4⟩, hx, h1, h2, h3⟩ : CALL2 l kd rv iv mX11_stroke mX12_stroke [am_I (xs (j + 1)), am_I (xs (j + 2))] := (call_stroke l h (xs (j + 1)) (xs (j + 2))).two
  have g42 : kd1 (42, 0, 0) = some (.inr (8, 0)) := (hx _ (by rw [h42]; exact fun z => by cases z)).trans h42
  refine X_aload_n (pc := 607) (i := 1) dL_law_607 rfl rfl ?_
  refine X_aload_n (pc := 608) (i := 0) dL_law_608 rfl rfl ?_
  refine X_iload_n (pc := 609) (i := 3) dL_law_609 rfl rfl ?_
  refine X_iconst (pc := 610) (1) dL_law_610 (by decide) ?_
  refine X_iadd (pc := 611) dL_law_611 ?_
  refine X_top (show nI j + (1 : Int32) = nI (j + 1) from mI_add j 1) ?_
  refine X_sld (pc := 612) hΦ (by first | exact h42 | exact g42) (show j + 1 < L by omega) (by omega) dL_law_612 ?_
  refine X_aload_n (pc := 613) (i := 0) dL_law_613 rfl rfl ?_
  refine X_iload_n (pc := 614) (i := 3) dL_law_614 rfl rfl ?_
  refine X_iconst (pc := 615) (2) dL_law_615 (by decide) ?_
  refine X_iadd (pc := 616) dL_law_616 ?_
  refine X_top (show nI j + (2 : Int32) = nI (j + 2) from mI_add j 2) ?_
  refine X_sld (pc := 617) hΦ (by first | exact h42 | exact g42) (show j + 2 < L by omega) (by omega) dL_law_617 ?_
  refine X_callVc (pc := 618) cv_L_61 h1 h.S.k1 rfl rfl rfl rfl (Nat.le_of_ble_eq_true rfl) ⟨by show d1 + 1 ≤ 2048; omega, Nat.le_trans (Nat.add_le_add_left (Nat.mul_le_mul_left 60 b1) _) (by decide)⟩ ⟨by show cu + c ≤ 600000; omega, by show su + s ≤ 7302250; omega⟩ dL_law_618 ?_
  refine X_aload_n (pc := 621) (i := 2) dL_law_621 rfl rfl ?_
  refine X_aload_n (pc := 622) (i := 0) dL_law_622 rfl rfl ?_
  refine X_iload_n (pc := 623) (i := 3) dL_law_623 rfl rfl ?_
  refine X_iconst (pc := 624) (1) dL_law_624 (by decide) ?_
  refine X_iadd (pc := 625) dL_law_625 ?_
  refine X_top (show nI j + (1 : Int32) = nI (j + 1) from mI_add j 1) ?_
  refine X_sld (pc := 626) hΦ (by first | exact h42 | exact g42) (show j + 1 < L by omega) (by omega) dL_law_626 ?_
  refine X_aload_n (pc := 627) (i := 0) dL_law_627 rfl rfl ?_
  refine X_iload_n (pc := 628) (i := 3) dL_law_628 rfl rfl ?_
  refine X_iconst (pc := 629) (2) dL_law_629 (by decide) ?_
  refine X_iadd (pc := 630) dL_law_630 ?_
  refine X_top (show nI j + (2 : Int32) = nI (j + 2) from mI_add j 2) ?_
  refine X_sld (pc := 631) hΦ (by first | exact h42 | exact g42) (show j + 2 < L by omega) (by omega) dL_law_631 ?_
  refine X_callVc (pc := 632) cv_L_64 h2 h3.R.1 rfl rfl rfl rfl (Nat.le_of_ble_eq_true rfl) ⟨by show d2 + 1 ≤ 2048; omega, Nat.le_trans (Nat.add_le_add_left (Nat.mul_le_mul_left 60 b2) _) (by decide)⟩ ⟨by show cu + c + 0 ≤ 600000; omega, by show su + s + 0 ≤ 7302250; omega⟩ dL_law_632 ?_
  refine X_icmpeq (pc := 635) 1616 dL_law_635 (by decide) (fun hb635 => ?_) (fun hb635 => ?_)
  · exact K _ _ _ _ _ h3 g42 (by omega) (by omega)
  · exact absurd rfl hb635
set_option maxRecDepth 20000 in
theorem lw_c12 (l : Launch) {Φ : am_D → Prop} {L : Nat} {xs : Nat → Int32} (hΦ : ∀ D, Φ D → D.2.2.2.2.1 = L ∧ D.2.2.2.2.2 = xs) (hL : L ≤ 384) {kd : am_kd} {rv : am_rv} {iv : am_iv} (h : REL kd rv iv iv) (h42 : kd (42, 0, 0) = some (.inr (8, 0))) (j : Nat) (hj : j + 6 ≤ L) (cu su : Nat) (hcu : cu + 1 ≤ 600000) (hsu : su + 3 ≤ 7302250) (K : ∀ kd rv iv cu' su', REL kd rv iv iv → kd (42, 0, 0) = some (.inr (8, 0)) → cu' ≤ cu + 1 → su' ≤ su + 3 → am_X Φ l mL_law room_1 lw_post 1616 [some (am_P (42, 0, 0)), some (am_P (1, 0, 0)), some (am_P (30, 0, 0)), some (am_I (nI j))] [] kd rv iv cu' su') : am_X Φ l mL_law room_1 lw_post 640 [some (am_P (42, 0, 0)), some (am_P (1, 0, 0)), some (am_P (30, 0, 0)), some (am_I (nI j))] [] kd rv iv cu su := by
  obtain ⟨a, d1, d2, c, s, kd1, rv1, iv1, iv2, ⟨b1, b2, b3, b4⟩, hx, h1, h2, h3⟩ : CALL2 l kd rv iv mX11_trails mX12_trails [am_I (xs (j + 1))] := (call_trails l h (xs (j + 1))).two
  have g42 : kd1 (42, 0, 0) = some (.inr (8, 0)) := (hx _ (by rw [h42]; exact fun z => by cases z)).trans h42
  refine X_aload_n (pc := 640) (i := 1) dL_law_640 rfl rfl ?_
  refine X_aload_n (pc := 641) (i := 0) dL_law_641 rfl rfl ?_
  refine X_iload_n (pc := 642) (i := 3) dL_law_642 rfl rfl ?_
  refine X_iconst (pc := 643) (1) dL_law_643 (by decide) ?_
  refine X_iadd (pc := 644) dL_law_644 ?_
  refine X_top (show nI j + (1 : Int32) = nI (j + 1) from mI_add j 1) ?_
  refine X_sld (pc := 645) hΦ (by first | exact h42 | exact g42) (show j + 1 < L by omega) (by omega) dL_law_645 ?_
  refine X_callVc (pc := 646) cv_L_65 h1 h.S.k1 rfl rfl rfl rfl (Nat.le_of_ble_eq_true rfl) ⟨by show d1 + 1 ≤ 2048; omega, Nat.le_trans (Nat.add_le_add_left (Nat.mul_le_mul_left 60 b1) _) (by decide)⟩ ⟨by show cu + c ≤ 600000; omega, by show su + s ≤ 7302250; omega⟩ dL_law_646 ?_
  refine X_aload_n (pc := 649) (i := 2) dL_law_649 rfl rfl ?_
  refine X_aload_n (pc := 650) (i := 0) dL_law_650 rfl rfl ?_
  refine X_iload_n (pc := 651) (i := 3) dL_law_651 rfl rfl ?_
  refine X_iconst (pc := 652) (1) dL_law_652 (by decide) ?_
  refine X_iadd (pc := 653) dL_law_653 ?_
  refine X_top (show nI j + (1 : Int32) = nI (j + 1) from mI_add j 1) ?_
  refine X_sld (pc := 654) hΦ (by first | exact h42 | exact g42) (show j + 1 < L by omega) (by omega) dL_law_654 ?_
  refine X_callVc (pc := 655) cv_L_68 h2 h3.R.1 rfl rfl rfl rfl (Nat.le_of_ble_eq_true rfl) ⟨by show d2 + 1 ≤ 2048; omega, Nat.le_trans (Nat.add_le_add_left (Nat.mul_le_mul_left 60 b2) _) (by decide)⟩ ⟨by show cu + c + 0 ≤ 600000; omega, by show su + s + 0 ≤ 7302250; omega⟩ dL_law_655 ?_
  refine X_icmpeq (pc := 658) 1616 dL_law_658 (by decide) (fun hb658 => ?_) (fun hb658 => ?_)
  · exact K _ _ _ _ _ h3 g42 (by omega) (by omega)
  · exact absurd rfl hb658
set_option maxRecDepth 20000 in
theorem lw_c13 (l : Launch) {Φ : am_D → Prop} {L : Nat} {xs : Nat → Int32} (hΦ : ∀ D, Φ D → D.2.2.2.2.1 = L ∧ D.2.2.2.2.2 = xs) (hL : L ≤ 384) {kd : am_kd} {rv : am_rv} {iv : am_iv} (h : REL kd rv iv iv) (h42 : kd (42, 0, 0) = some (.inr (8, 0))) (j : Nat) (hj : j + 6 ≤ L) (cu su : Nat) (hcu : cu + 1 ≤ 600000) (hsu : su + 3 ≤ 7302250) (K : ∀ kd rv iv cu' su', REL kd rv iv iv → kd (42, 0, 0) = some (.inr (8, 0)) → cu' ≤ cu + 1 → su' ≤ su + 3 → am_X Φ l mL_law room_1 lw_post 1616 [some (am_P (42, 0, 0)), some (am_P (1, 0, 0)), some (am_P (30, 0, 0)), some (am_I (nI j))] [] kd rv iv cu' su') : am_X Φ l mL_law room_1 lw_post 663 [some (am_P (42, 0, 0)), some (am_P (1, 0, 0)), some (am_P (30, 0, 0)), some (am_I (nI j))] [] kd rv iv cu su := by
  obtain ⟨a, d1, d2, c, s, kd1, rv1, iv1, iv2, ⟨b1, b2, b3, b4⟩, hx, h1, h2, h3⟩ : CALL2 l kd rv iv mX11_feed mX12_feed [am_J ((xs (j + 1)).toInt64 <<< ((32 : Int32).toInt64 &&& 63) ||| (xs (j + 2)).toInt64 &&& 4294967295), am_I (xs (j + 3))] := (call_feed l h ((xs (j + 1)).toInt64 <<< ((32 : Int32).toInt64 &&& 63) ||| (xs (j + 2)).toInt64 &&& 4294967295) (xs (j + 3))).two
  have g42 : kd1 (42, 0, 0) = some (.inr (8, 0)) := (hx _ (by rw [h42]; exact fun z => by cases z)).trans h42
  refine X_aload_n (pc := 663) (i := 1) dL_law_663 rfl rfl ?_
  refine X_aload_n (pc := 664) (i := 0) dL_law_664 rfl rfl ?_
  refine X_iload_n (pc := 665) (i := 3) dL_law_665 rfl rfl ?_
  refine X_iconst (pc := 666) (1) dL_law_666 (by decide) ?_
  refine X_iadd (pc := 667) dL_law_667 ?_
  refine X_top (show nI j + (1 : Int32) = nI (j + 1) from mI_add j 1) ?_
  refine X_sld (pc := 668) hΦ (by first | exact h42 | exact g42) (show j + 1 < L by omega) (by omega) dL_law_668 ?_
  refine X_i2l (pc := 669) dL_law_669 ?_
  refine X_bipush (pc := 670) (32) dL_law_670 (by decide) ?_
  refine X_lshl (pc := 672) dL_law_672 ?_
  refine X_aload_n (pc := 673) (i := 0) dL_law_673 rfl rfl ?_
  refine X_iload_n (pc := 674) (i := 3) dL_law_674 rfl rfl ?_
  refine X_iconst (pc := 675) (2) dL_law_675 (by decide) ?_
  refine X_iadd (pc := 676) dL_law_676 ?_
  refine X_top (show nI j + (2 : Int32) = nI (j + 2) from mI_add j 2) ?_
  refine X_sld (pc := 677) hΦ (by first | exact h42 | exact g42) (show j + 2 < L by omega) (by omega) dL_law_677 ?_
  refine X_i2l (pc := 678) dL_law_678 ?_
  refine X_ldc2 (pc := 679) (List.mem_cons_of_mem _ kc_L_69) dL_law_679 ?_
  refine X_land (pc := 682) dL_law_682 ?_
  refine X_lor (pc := 683) dL_law_683 ?_
  refine X_aload_n (pc := 684) (i := 0) dL_law_684 rfl rfl ?_
  refine X_iload_n (pc := 685) (i := 3) dL_law_685 rfl rfl ?_
  refine X_iconst (pc := 686) (3) dL_law_686 (by decide) ?_
  refine X_iadd (pc := 687) dL_law_687 ?_
  refine X_top (show nI j + (3 : Int32) = nI (j + 3) from mI_add j 3) ?_
  refine X_sld (pc := 688) hΦ (by first | exact h42 | exact g42) (show j + 3 < L by omega) (by omega) dL_law_688 ?_
  refine X_callVc (pc := 689) cv_L_71 h1 h.S.k1 rfl rfl rfl rfl (Nat.le_of_ble_eq_true rfl) ⟨by show d1 + 1 ≤ 2048; omega, Nat.le_trans (Nat.add_le_add_left (Nat.mul_le_mul_left 60 b1) _) (by decide)⟩ ⟨by show cu + c ≤ 600000; omega, by show su + s ≤ 7302250; omega⟩ dL_law_689 ?_
  refine X_aload_n (pc := 692) (i := 2) dL_law_692 rfl rfl ?_
  refine X_aload_n (pc := 693) (i := 0) dL_law_693 rfl rfl ?_
  refine X_iload_n (pc := 694) (i := 3) dL_law_694 rfl rfl ?_
  refine X_iconst (pc := 695) (1) dL_law_695 (by decide) ?_
  refine X_iadd (pc := 696) dL_law_696 ?_
  refine X_top (show nI j + (1 : Int32) = nI (j + 1) from mI_add j 1) ?_
  refine X_sld (pc := 697) hΦ (by first | exact h42 | exact g42) (show j + 1 < L by omega) (by omega) dL_law_697 ?_
  refine X_i2l (pc := 698) dL_law_698 ?_
  refine X_bipush (pc := 699) (32) dL_law_699 (by decide) ?_
  refine X_lshl (pc := 701) dL_law_701 ?_
  refine X_aload_n (pc := 702) (i := 0) dL_law_702 rfl rfl ?_
  refine X_iload_n (pc := 703) (i := 3) dL_law_703 rfl rfl ?_
  refine X_iconst (pc := 704) (2) dL_law_704 (by decide) ?_
  refine X_iadd (pc := 705) dL_law_705 ?_
  refine X_top (show nI j + (2 : Int32) = nI (j + 2) from mI_add j 2) ?_
  refine X_sld (pc := 706) hΦ (by first | exact h42 | exact g42) (show j + 2 < L by omega) (by omega) dL_law_706 ?_
  refine X_i2l (pc := 707) dL_law_707 ?_
  refine X_ldc2 (pc := 708) (List.mem_cons_of_mem _ kc_L_69) dL_law_708 ?_
  refine X_land (pc := 711) dL_law_711 ?_
  refine X_lor (pc := 712) dL_law_712 ?_
  refine X_aload_n (pc := 713) (i := 0) dL_law_713 rfl rfl ?_
  refine X_iload_n (pc := 714) (i := 3) dL_law_714 rfl rfl ?_
  refine X_iconst (pc := 715) (3) dL_law_715 (by decide) ?_
  refine X_iadd (pc := 716) dL_law_716 ?_
  refine X_top (show nI j + (3 : Int32) = nI (j + 3) from mI_add j 3) ?_
  refine X_sld (pc := 717) hΦ (by first | exact h42 | exact g42) (show j + 3 < L by omega) (by omega) dL_law_717 ?_
  refine X_callVc (pc := 718) cv_L_75 h2 h3.R.1 rfl rfl rfl rfl (Nat.le_of_ble_eq_true rfl) ⟨by show d2 + 1 ≤ 2048; omega, Nat.le_trans (Nat.add_le_add_left (Nat.mul_le_mul_left 60 b2) _) (by decide)⟩ ⟨by show cu + c + 0 ≤ 600000; omega, by show su + s + 0 ≤ 7302250; omega⟩ dL_law_718 ?_
  refine X_icmpeq (pc := 721) 1616 dL_law_721 (by decide) (fun hb721 => ?_) (fun hb721 => ?_)
  · exact K _ _ _ _ _ h3 g42 (by omega) (by omega)
  · exact absurd rfl hb721
set_option maxRecDepth 20000 in
theorem lw_c14 (l : Launch) {Φ : am_D → Prop} {L : Nat} {xs : Nat → Int32} (hΦ : ∀ D, Φ D → D.2.2.2.2.1 = L ∧ D.2.2.2.2.2 = xs) (hL : L ≤ 384) {kd : am_kd} {rv : am_rv} {iv : am_iv} (h : REL kd rv iv iv) (h42 : kd (42, 0, 0) = some (.inr (8, 0))) (j : Nat) (hj : j + 6 ≤ L) (cu su : Nat) (hcu : cu + 1 ≤ 600000) (hsu : su + 3 ≤ 7302250) (K : ∀ kd rv iv cu' su', REL kd rv iv iv → kd (42, 0, 0) = some (.inr (8, 0)) → cu' ≤ cu + 1 → su' ≤ su + 3 → am_X Φ l mL_law room_1 lw_post 1616 [some (am_P (42, 0, 0)), some (am_P (1, 0, 0)), some (am_P (30, 0, 0)), some (am_I (nI j))] [] kd rv iv cu' su') : am_X Φ l mL_law room_1 lw_post 726 [some (am_P (42, 0, 0)), some (am_P (1, 0, 0)), some (am_P (30, 0, 0)), some (am_I (nI j))] [] kd rv iv cu su := by
  obtain ⟨a, d1, d2, c, s, kd1, rv1, iv1, iv2, ⟨b1, b2, b3, b4⟩, hx, h1, h2, h3⟩ : CALL2 l kd rv iv mX11_text mX12_text [am_I (xs (j + 1))] := (call_text l h (xs (j + 1))).two
  have g42 : kd1 (42, 0, 0) = some (.inr (8, 0)) := (hx _ (by rw [h42]; exact fun z => by cases z)).trans h42
  refine X_aload_n (pc := 726) (i := 1) dL_law_726 rfl rfl ?_
  refine X_aload_n (pc := 727) (i := 0) dL_law_727 rfl rfl ?_
  refine X_iload_n (pc := 728) (i := 3) dL_law_728 rfl rfl ?_
  refine X_iconst (pc := 729) (1) dL_law_729 (by decide) ?_
  refine X_iadd (pc := 730) dL_law_730 ?_
  refine X_top (show nI j + (1 : Int32) = nI (j + 1) from mI_add j 1) ?_
  refine X_sld (pc := 731) hΦ (by first | exact h42 | exact g42) (show j + 1 < L by omega) (by omega) dL_law_731 ?_
  refine X_callVc (pc := 732) cv_L_76 h1 h.S.k1 rfl rfl rfl rfl (Nat.le_of_ble_eq_true rfl) ⟨by show d1 + 1 ≤ 2048; omega, Nat.le_trans (Nat.add_le_add_left (Nat.mul_le_mul_left 60 b1) _) (by decide)⟩ ⟨by show cu + c ≤ 600000; omega, by show su + s ≤ 7302250; omega⟩ dL_law_732 ?_
  refine X_aload_n (pc := 735) (i := 2) dL_law_735 rfl rfl ?_
  refine X_aload_n (pc := 736) (i := 0) dL_law_736 rfl rfl ?_
  refine X_iload_n (pc := 737) (i := 3) dL_law_737 rfl rfl ?_
  refine X_iconst (pc := 738) (1) dL_law_738 (by decide) ?_
  refine X_iadd (pc := 739) dL_law_739 ?_
  refine X_top (show nI j + (1 : Int32) = nI (j + 1) from mI_add j 1) ?_
  refine X_sld (pc := 740) hΦ (by first | exact h42 | exact g42) (show j + 1 < L by omega) (by omega) dL_law_740 ?_
  refine X_callVc (pc := 741) cv_L_79 h2 h3.R.1 rfl rfl rfl rfl (Nat.le_of_ble_eq_true rfl) ⟨by show d2 + 1 ≤ 2048; omega, Nat.le_trans (Nat.add_le_add_left (Nat.mul_le_mul_left 60 b2) _) (by decide)⟩ ⟨by show cu + c + 0 ≤ 600000; omega, by show su + s + 0 ≤ 7302250; omega⟩ dL_law_741 ?_
  refine X_icmpeq (pc := 744) 1616 dL_law_744 (by decide) (fun hb744 => ?_) (fun hb744 => ?_)
  · exact K _ _ _ _ _ h3 g42 (by omega) (by omega)
  · exact absurd rfl hb744
set_option maxRecDepth 20000 in
theorem lw_c15 (l : Launch) {Φ : am_D → Prop} {L : Nat} {xs : Nat → Int32} (hΦ : ∀ D, Φ D → D.2.2.2.2.1 = L ∧ D.2.2.2.2.2 = xs) (hL : L ≤ 384) {kd : am_kd} {rv : am_rv} {iv : am_iv} (h : REL kd rv iv iv) (h42 : kd (42, 0, 0) = some (.inr (8, 0))) (j : Nat) (hj : j + 6 ≤ L) (cu su : Nat) (hcu : cu + 1 ≤ 600000) (hsu : su + 3 ≤ 7302250) (K : ∀ kd rv iv cu' su', REL kd rv iv iv → kd (42, 0, 0) = some (.inr (8, 0)) → cu' ≤ cu + 1 → su' ≤ su + 3 → am_X Φ l mL_law room_1 lw_post 1616 [some (am_P (42, 0, 0)), some (am_P (1, 0, 0)), some (am_P (30, 0, 0)), some (am_I (nI j))] [] kd rv iv cu' su') : am_X Φ l mL_law room_1 lw_post 749 [some (am_P (42, 0, 0)), some (am_P (1, 0, 0)), some (am_P (30, 0, 0)), some (am_I (nI j))] [] kd rv iv cu su := by
  obtain ⟨a, d1, d2, c, s, kd1, rv1, iv1, iv2, ⟨b1, b2, b3, b4⟩, hx, h1, h2, h3⟩ : CALL2 l kd rv iv mX11_gives mX12_gives [am_I (xs (j + 1)), am_I (xs (j + 2)), am_I (xs (j + 3)), am_I (xs (j + 4))] := (call_gives l h (xs (j + 1)) (xs (j + 2)) (xs (j + 3)) (xs (j + 4))).two
  have g42 : kd1 (42, 0, 0) = some (.inr (8, 0)) := (hx _ (by rw [h42]; exact fun z => by cases z)).trans h42
  refine X_aload_n (pc := 749) (i := 1) dL_law_749 rfl rfl ?_
  refine X_aload_n (pc := 750) (i := 0) dL_law_750 rfl rfl ?_
  refine X_iload_n (pc := 751) (i := 3) dL_law_751 rfl rfl ?_
  refine X_iconst (pc := 752) (1) dL_law_752 (by decide) ?_
  refine X_iadd (pc := 753) dL_law_753 ?_
  refine X_top (show nI j + (1 : Int32) = nI (j + 1) from mI_add j 1) ?_
  refine X_sld (pc := 754) hΦ (by first | exact h42 | exact g42) (show j + 1 < L by omega) (by omega) dL_law_754 ?_
  refine X_aload_n (pc := 755) (i := 0) dL_law_755 rfl rfl ?_
  refine X_iload_n (pc := 756) (i := 3) dL_law_756 rfl rfl ?_
  refine X_iconst (pc := 757) (2) dL_law_757 (by decide) ?_
  refine X_iadd (pc := 758) dL_law_758 ?_
  refine X_top (show nI j + (2 : Int32) = nI (j + 2) from mI_add j 2) ?_
  refine X_sld (pc := 759) hΦ (by first | exact h42 | exact g42) (show j + 2 < L by omega) (by omega) dL_law_759 ?_
  refine X_aload_n (pc := 760) (i := 0) dL_law_760 rfl rfl ?_
  refine X_iload_n (pc := 761) (i := 3) dL_law_761 rfl rfl ?_
  refine X_iconst (pc := 762) (3) dL_law_762 (by decide) ?_
  refine X_iadd (pc := 763) dL_law_763 ?_
  refine X_top (show nI j + (3 : Int32) = nI (j + 3) from mI_add j 3) ?_
  refine X_sld (pc := 764) hΦ (by first | exact h42 | exact g42) (show j + 3 < L by omega) (by omega) dL_law_764 ?_
  refine X_aload_n (pc := 765) (i := 0) dL_law_765 rfl rfl ?_
  refine X_iload_n (pc := 766) (i := 3) dL_law_766 rfl rfl ?_
  refine X_iconst (pc := 767) (4) dL_law_767 (by decide) ?_
  refine X_iadd (pc := 768) dL_law_768 ?_
  refine X_top (show nI j + (4 : Int32) = nI (j + 4) from mI_add j 4) ?_
  refine X_sld (pc := 769) hΦ (by first | exact h42 | exact g42) (show j + 4 < L by omega) (by omega) dL_law_769 ?_
  refine X_callVc (pc := 770) cv_L_80 h1 h.S.k1 rfl rfl rfl rfl (Nat.le_of_ble_eq_true rfl) ⟨by show d1 + 1 ≤ 2048; omega, Nat.le_trans (Nat.add_le_add_left (Nat.mul_le_mul_left 60 b1) _) (by decide)⟩ ⟨by show cu + c ≤ 600000; omega, by show su + s ≤ 7302250; omega⟩ dL_law_770 ?_
  refine X_aload_n (pc := 773) (i := 2) dL_law_773 rfl rfl ?_
  refine X_aload_n (pc := 774) (i := 0) dL_law_774 rfl rfl ?_
  refine X_iload_n (pc := 775) (i := 3) dL_law_775 rfl rfl ?_
  refine X_iconst (pc := 776) (1) dL_law_776 (by decide) ?_
  refine X_iadd (pc := 777) dL_law_777 ?_
  refine X_top (show nI j + (1 : Int32) = nI (j + 1) from mI_add j 1) ?_
  refine X_sld (pc := 778) hΦ (by first | exact h42 | exact g42) (show j + 1 < L by omega) (by omega) dL_law_778 ?_
  refine X_aload_n (pc := 779) (i := 0) dL_law_779 rfl rfl ?_
  refine X_iload_n (pc := 780) (i := 3) dL_law_780 rfl rfl ?_
  refine X_iconst (pc := 781) (2) dL_law_781 (by decide) ?_
  refine X_iadd (pc := 782) dL_law_782 ?_
  refine X_top (show nI j + (2 : Int32) = nI (j + 2) from mI_add j 2) ?_
  refine X_sld (pc := 783) hΦ (by first | exact h42 | exact g42) (show j + 2 < L by omega) (by omega) dL_law_783 ?_
  refine X_aload_n (pc := 784) (i := 0) dL_law_784 rfl rfl ?_
  refine X_iload_n (pc := 785) (i := 3) dL_law_785 rfl rfl ?_
  refine X_iconst (pc := 786) (3) dL_law_786 (by decide) ?_
  refine X_iadd (pc := 787) dL_law_787 ?_
  refine X_top (show nI j + (3 : Int32) = nI (j + 3) from mI_add j 3) ?_
  refine X_sld (pc := 788) hΦ (by first | exact h42 | exact g42) (show j + 3 < L by omega) (by omega) dL_law_788 ?_
  refine X_aload_n (pc := 789) (i := 0) dL_law_789 rfl rfl ?_
  refine X_iload_n (pc := 790) (i := 3) dL_law_790 rfl rfl ?_
  refine X_iconst (pc := 791) (4) dL_law_791 (by decide) ?_
  refine X_iadd (pc := 792) dL_law_792 ?_
  refine X_top (show nI j + (4 : Int32) = nI (j + 4) from mI_add j 4) ?_
  refine X_sld (pc := 793) hΦ (by first | exact h42 | exact g42) (show j + 4 < L by omega) (by omega) dL_law_793 ?_
  refine X_callVc (pc := 794) cv_L_83 h2 h3.R.1 rfl rfl rfl rfl (Nat.le_of_ble_eq_true rfl) ⟨by show d2 + 1 ≤ 2048; omega, Nat.le_trans (Nat.add_le_add_left (Nat.mul_le_mul_left 60 b2) _) (by decide)⟩ ⟨by show cu + c + 0 ≤ 600000; omega, by show su + s + 0 ≤ 7302250; omega⟩ dL_law_794 ?_
  refine X_icmpeq (pc := 797) 1616 dL_law_797 (by decide) (fun hb797 => ?_) (fun hb797 => ?_)
  · exact K _ _ _ _ _ h3 g42 (by omega) (by omega)
  · exact absurd rfl hb797
set_option maxRecDepth 20000 in
theorem lw_c16 (l : Launch) {Φ : am_D → Prop} {L : Nat} {xs : Nat → Int32} (hΦ : ∀ D, Φ D → D.2.2.2.2.1 = L ∧ D.2.2.2.2.2 = xs) (hL : L ≤ 384) {kd : am_kd} {rv : am_rv} {iv : am_iv} (h : REL kd rv iv iv) (h42 : kd (42, 0, 0) = some (.inr (8, 0))) (j : Nat) (hj : j + 6 ≤ L) (cu su : Nat) (hcu : cu + 1 ≤ 600000) (hsu : su + 3 ≤ 7302250) (K : ∀ kd rv iv cu' su', REL kd rv iv iv → kd (42, 0, 0) = some (.inr (8, 0)) → cu' ≤ cu + 1 → su' ≤ su + 3 → am_X Φ l mL_law room_1 lw_post 1616 [some (am_P (42, 0, 0)), some (am_P (1, 0, 0)), some (am_P (30, 0, 0)), some (am_I (nI j))] [] kd rv iv cu' su') : am_X Φ l mL_law room_1 lw_post 802 [some (am_P (42, 0, 0)), some (am_P (1, 0, 0)), some (am_P (30, 0, 0)), some (am_I (nI j))] [] kd rv iv cu su := by
  obtain ⟨a, d1, d2, c, s, kd1, rv1, iv1, iv2, ⟨b1, b2, b3, b4⟩, hx, h1, h2, h3⟩ : CALL2 l kd rv iv mX11_ticks mX12_ticks [am_I (xs (j + 1))] := (call_ticks l h (xs (j + 1))).two
  have g42 : kd1 (42, 0, 0) = some (.inr (8, 0)) := (hx _ (by rw [h42]; exact fun z => by cases z)).trans h42
  refine X_aload_n (pc := 802) (i := 1) dL_law_802 rfl rfl ?_
  refine X_aload_n (pc := 803) (i := 0) dL_law_803 rfl rfl ?_
  refine X_iload_n (pc := 804) (i := 3) dL_law_804 rfl rfl ?_
  refine X_iconst (pc := 805) (1) dL_law_805 (by decide) ?_
  refine X_iadd (pc := 806) dL_law_806 ?_
  refine X_top (show nI j + (1 : Int32) = nI (j + 1) from mI_add j 1) ?_
  refine X_sld (pc := 807) hΦ (by first | exact h42 | exact g42) (show j + 1 < L by omega) (by omega) dL_law_807 ?_
  refine X_callVc (pc := 808) cv_L_84 h1 h.S.k1 rfl rfl rfl rfl (Nat.le_of_ble_eq_true rfl) ⟨by show d1 + 1 ≤ 2048; omega, Nat.le_trans (Nat.add_le_add_left (Nat.mul_le_mul_left 60 b1) _) (by decide)⟩ ⟨by show cu + c ≤ 600000; omega, by show su + s ≤ 7302250; omega⟩ dL_law_808 ?_
  refine X_aload_n (pc := 811) (i := 2) dL_law_811 rfl rfl ?_
  refine X_aload_n (pc := 812) (i := 0) dL_law_812 rfl rfl ?_
  refine X_iload_n (pc := 813) (i := 3) dL_law_813 rfl rfl ?_
  refine X_iconst (pc := 814) (1) dL_law_814 (by decide) ?_
  refine X_iadd (pc := 815) dL_law_815 ?_
  refine X_top (show nI j + (1 : Int32) = nI (j + 1) from mI_add j 1) ?_
  refine X_sld (pc := 816) hΦ (by first | exact h42 | exact g42) (show j + 1 < L by omega) (by omega) dL_law_816 ?_
  refine X_callVc (pc := 817) cv_L_87 h2 h3.R.1 rfl rfl rfl rfl (Nat.le_of_ble_eq_true rfl) ⟨by show d2 + 1 ≤ 2048; omega, Nat.le_trans (Nat.add_le_add_left (Nat.mul_le_mul_left 60 b2) _) (by decide)⟩ ⟨by show cu + c + 0 ≤ 600000; omega, by show su + s + 0 ≤ 7302250; omega⟩ dL_law_817 ?_
  refine X_icmpeq (pc := 820) 1616 dL_law_820 (by decide) (fun hb820 => ?_) (fun hb820 => ?_)
  · exact K _ _ _ _ _ h3 g42 (by omega) (by omega)
  · exact absurd rfl hb820
set_option maxRecDepth 20000 in
theorem lw_c17 (l : Launch) {Φ : am_D → Prop} {L : Nat} {xs : Nat → Int32} (hΦ : ∀ D, Φ D → D.2.2.2.2.1 = L ∧ D.2.2.2.2.2 = xs) (hL : L ≤ 384) {kd : am_kd} {rv : am_rv} {iv : am_iv} (h : REL kd rv iv iv) (h42 : kd (42, 0, 0) = some (.inr (8, 0))) (j : Nat) (hj : j + 6 ≤ L) (cu su : Nat) (hcu : cu + 1 ≤ 600000) (hsu : su + 3 ≤ 7302250) (K : ∀ kd rv iv cu' su', REL kd rv iv iv → kd (42, 0, 0) = some (.inr (8, 0)) → cu' ≤ cu + 1 → su' ≤ su + 3 → am_X Φ l mL_law room_1 lw_post 1616 [some (am_P (42, 0, 0)), some (am_P (1, 0, 0)), some (am_P (30, 0, 0)), some (am_I (nI j))] [] kd rv iv cu' su') : am_X Φ l mL_law room_1 lw_post 825 [some (am_P (42, 0, 0)), some (am_P (1, 0, 0)), some (am_P (30, 0, 0)), some (am_I (nI j))] [] kd rv iv cu su := by
  obtain ⟨a, d1, d2, c, s, kd1, rv1, iv1, iv2, ⟨b1, b2, b3, b4⟩, hx, h1, h2, h3⟩ : CALL2 l kd rv iv mX11_breeze mX12_breeze [am_I (xs (j + 1))] := (call_breeze l h (xs (j + 1))).two
  have g42 : kd1 (42, 0, 0) = some (.inr (8, 0)) := (hx _ (by rw [h42]; exact fun z => by cases z)).trans h42
  refine X_aload_n (pc := 825) (i := 1) dL_law_825 rfl rfl ?_
  refine X_aload_n (pc := 826) (i := 0) dL_law_826 rfl rfl ?_
  refine X_iload_n (pc := 827) (i := 3) dL_law_827 rfl rfl ?_
  refine X_iconst (pc := 828) (1) dL_law_828 (by decide) ?_
  refine X_iadd (pc := 829) dL_law_829 ?_
  refine X_top (show nI j + (1 : Int32) = nI (j + 1) from mI_add j 1) ?_
  refine X_sld (pc := 830) hΦ (by first | exact h42 | exact g42) (show j + 1 < L by omega) (by omega) dL_law_830 ?_
  refine X_callVc (pc := 831) cv_L_88 h1 h.S.k1 rfl rfl rfl rfl (Nat.le_of_ble_eq_true rfl) ⟨by show d1 + 1 ≤ 2048; omega, Nat.le_trans (Nat.add_le_add_left (Nat.mul_le_mul_left 60 b1) _) (by decide)⟩ ⟨by show cu + c ≤ 600000; omega, by show su + s ≤ 7302250; omega⟩ dL_law_831 ?_
  refine X_aload_n (pc := 834) (i := 2) dL_law_834 rfl rfl ?_
  refine X_aload_n (pc := 835) (i := 0) dL_law_835 rfl rfl ?_
  refine X_iload_n (pc := 836) (i := 3) dL_law_836 rfl rfl ?_
  refine X_iconst (pc := 837) (1) dL_law_837 (by decide) ?_
  refine X_iadd (pc := 838) dL_law_838 ?_
  refine X_top (show nI j + (1 : Int32) = nI (j + 1) from mI_add j 1) ?_
  refine X_sld (pc := 839) hΦ (by first | exact h42 | exact g42) (show j + 1 < L by omega) (by omega) dL_law_839 ?_
  refine X_callVc (pc := 840) cv_L_91 h2 h3.R.1 rfl rfl rfl rfl (Nat.le_of_ble_eq_true rfl) ⟨by show d2 + 1 ≤ 2048; omega, Nat.le_trans (Nat.add_le_add_left (Nat.mul_le_mul_left 60 b2) _) (by decide)⟩ ⟨by show cu + c + 0 ≤ 600000; omega, by show su + s + 0 ≤ 7302250; omega⟩ dL_law_840 ?_
  refine X_icmpeq (pc := 843) 1616 dL_law_843 (by decide) (fun hb843 => ?_) (fun hb843 => ?_)
  · exact K _ _ _ _ _ h3 g42 (by omega) (by omega)
  · exact absurd rfl hb843
set_option maxRecDepth 20000 in
theorem lw_c18 (l : Launch) {Φ : am_D → Prop} {L : Nat} {xs : Nat → Int32} (hΦ : ∀ D, Φ D → D.2.2.2.2.1 = L ∧ D.2.2.2.2.2 = xs) (hL : L ≤ 384) {kd : am_kd} {rv : am_rv} {iv : am_iv} (h : REL kd rv iv iv) (h42 : kd (42, 0, 0) = some (.inr (8, 0))) (j : Nat) (hj : j + 6 ≤ L) (cu su : Nat) (hcu : cu + 1 ≤ 600000) (hsu : su + 3 ≤ 7302250) (K : ∀ kd rv iv cu' su', REL kd rv iv iv → kd (42, 0, 0) = some (.inr (8, 0)) → cu' ≤ cu + 1 → su' ≤ su + 3 → am_X Φ l mL_law room_1 lw_post 1616 [some (am_P (42, 0, 0)), some (am_P (1, 0, 0)), some (am_P (30, 0, 0)), some (am_I (nI j))] [] kd rv iv cu' su') : am_X Φ l mL_law room_1 lw_post 848 [some (am_P (42, 0, 0)), some (am_P (1, 0, 0)), some (am_P (30, 0, 0)), some (am_I (nI j))] [] kd rv iv cu su := by
  obtain ⟨a, d1, d2, c, s, kd1, rv1, iv1, iv2, ⟨b1, b2, b3, b4⟩, hx, h1, h2, h3⟩ : CALL2 l kd rv iv mX11_front mX12_front [] := (call_front l h ).two
  have g42 : kd1 (42, 0, 0) = some (.inr (8, 0)) := (hx _ (by rw [h42]; exact fun z => by cases z)).trans h42
  refine X_aload_n (pc := 848) (i := 1) dL_law_848 rfl rfl ?_
  refine X_callVc (pc := 849) cv_L_92 h1 h.S.k1 rfl rfl rfl rfl (Nat.le_of_ble_eq_true rfl) ⟨by show d1 + 1 ≤ 2048; omega, Nat.le_trans (Nat.add_le_add_left (Nat.mul_le_mul_left 60 b1) _) (by decide)⟩ ⟨by show cu + c ≤ 600000; omega, by show su + s ≤ 7302250; omega⟩ dL_law_849 ?_
  refine X_aload_n (pc := 852) (i := 2) dL_law_852 rfl rfl ?_
  refine X_callVc (pc := 853) cv_L_96 h2 h3.R.1 rfl rfl rfl rfl (Nat.le_of_ble_eq_true rfl) ⟨by show d2 + 1 ≤ 2048; omega, Nat.le_trans (Nat.add_le_add_left (Nat.mul_le_mul_left 60 b2) _) (by decide)⟩ ⟨by show cu + c + 0 ≤ 600000; omega, by show su + s + 0 ≤ 7302250; omega⟩ dL_law_853 ?_
  refine X_icmpeq (pc := 856) 1616 dL_law_856 (by decide) (fun hb856 => ?_) (fun hb856 => ?_)
  · exact K _ _ _ _ _ h3 g42 (by omega) (by omega)
  · exact absurd rfl hb856
set_option maxRecDepth 20000 in
theorem lw_c19 (l : Launch) {Φ : am_D → Prop} {L : Nat} {xs : Nat → Int32} (hΦ : ∀ D, Φ D → D.2.2.2.2.1 = L ∧ D.2.2.2.2.2 = xs) (hL : L ≤ 384) {kd : am_kd} {rv : am_rv} {iv : am_iv} (h : REL kd rv iv iv) (h42 : kd (42, 0, 0) = some (.inr (8, 0))) (j : Nat) (hj : j + 6 ≤ L) (cu su : Nat) (hcu : cu + 1 ≤ 600000) (hsu : su + 3 ≤ 7302250) (K : ∀ kd rv iv cu' su', REL kd rv iv iv → kd (42, 0, 0) = some (.inr (8, 0)) → cu' ≤ cu + 1 → su' ≤ su + 3 → am_X Φ l mL_law room_1 lw_post 1616 [some (am_P (42, 0, 0)), some (am_P (1, 0, 0)), some (am_P (30, 0, 0)), some (am_I (nI j))] [] kd rv iv cu' su') : am_X Φ l mL_law room_1 lw_post 861 [some (am_P (42, 0, 0)), some (am_P (1, 0, 0)), some (am_P (30, 0, 0)), some (am_I (nI j))] [] kd rv iv cu su := by
  obtain ⟨a, d1, d2, c, s, kd1, rv1, iv1, iv2, ⟨b1, b2, b3, b4⟩, hx, h1, h2, h3⟩ : CALL2 l kd rv iv mX11_then mX12_then [am_I (xs (j + 1)), am_I (xs (j + 2)), am_I (xs (j + 3))] := (call_then l h (xs (j + 1)) (xs (j + 2)) (xs (j + 3))).two
  have g42 : kd1 (42, 0, 0) = some (.inr (8, 0)) := (hx _ (by rw [h42]; exact fun z => by cases z)).trans h42
  refine X_aload_n (pc := 861) (i := 1) dL_law_861 rfl rfl ?_
  refine X_aload_n (pc := 862) (i := 0) dL_law_862 rfl rfl ?_
  refine X_iload_n (pc := 863) (i := 3) dL_law_863 rfl rfl ?_
  refine X_iconst (pc := 864) (1) dL_law_864 (by decide) ?_
  refine X_iadd (pc := 865) dL_law_865 ?_
  refine X_top (show nI j + (1 : Int32) = nI (j + 1) from mI_add j 1) ?_
  refine X_sld (pc := 866) hΦ (by first | exact h42 | exact g42) (show j + 1 < L by omega) (by omega) dL_law_866 ?_
  refine X_aload_n (pc := 867) (i := 0) dL_law_867 rfl rfl ?_
  refine X_iload_n (pc := 868) (i := 3) dL_law_868 rfl rfl ?_
  refine X_iconst (pc := 869) (2) dL_law_869 (by decide) ?_
  refine X_iadd (pc := 870) dL_law_870 ?_
  refine X_top (show nI j + (2 : Int32) = nI (j + 2) from mI_add j 2) ?_
  refine X_sld (pc := 871) hΦ (by first | exact h42 | exact g42) (show j + 2 < L by omega) (by omega) dL_law_871 ?_
  refine X_aload_n (pc := 872) (i := 0) dL_law_872 rfl rfl ?_
  refine X_iload_n (pc := 873) (i := 3) dL_law_873 rfl rfl ?_
  refine X_iconst (pc := 874) (3) dL_law_874 (by decide) ?_
  refine X_iadd (pc := 875) dL_law_875 ?_
  refine X_top (show nI j + (3 : Int32) = nI (j + 3) from mI_add j 3) ?_
  refine X_sld (pc := 876) hΦ (by first | exact h42 | exact g42) (show j + 3 < L by omega) (by omega) dL_law_876 ?_
  refine X_callVc (pc := 877) cv_L_97 h1 h.S.k1 rfl rfl rfl rfl (Nat.le_of_ble_eq_true rfl) ⟨by show d1 + 1 ≤ 2048; omega, Nat.le_trans (Nat.add_le_add_left (Nat.mul_le_mul_left 60 b1) _) (by decide)⟩ ⟨by show cu + c ≤ 600000; omega, by show su + s ≤ 7302250; omega⟩ dL_law_877 ?_
  refine X_aload_n (pc := 880) (i := 2) dL_law_880 rfl rfl ?_
  refine X_aload_n (pc := 881) (i := 0) dL_law_881 rfl rfl ?_
  refine X_iload_n (pc := 882) (i := 3) dL_law_882 rfl rfl ?_
  refine X_iconst (pc := 883) (1) dL_law_883 (by decide) ?_
  refine X_iadd (pc := 884) dL_law_884 ?_
  refine X_top (show nI j + (1 : Int32) = nI (j + 1) from mI_add j 1) ?_
  refine X_sld (pc := 885) hΦ (by first | exact h42 | exact g42) (show j + 1 < L by omega) (by omega) dL_law_885 ?_
  refine X_aload_n (pc := 886) (i := 0) dL_law_886 rfl rfl ?_
  refine X_iload_n (pc := 887) (i := 3) dL_law_887 rfl rfl ?_
  refine X_iconst (pc := 888) (2) dL_law_888 (by decide) ?_
  refine X_iadd (pc := 889) dL_law_889 ?_
  refine X_top (show nI j + (2 : Int32) = nI (j + 2) from mI_add j 2) ?_
  refine X_sld (pc := 890) hΦ (by first | exact h42 | exact g42) (show j + 2 < L by omega) (by omega) dL_law_890 ?_
  refine X_aload_n (pc := 891) (i := 0) dL_law_891 rfl rfl ?_
  refine X_iload_n (pc := 892) (i := 3) dL_law_892 rfl rfl ?_
  refine X_iconst (pc := 893) (3) dL_law_893 (by decide) ?_
  refine X_iadd (pc := 894) dL_law_894 ?_
  refine X_top (show nI j + (3 : Int32) = nI (j + 3) from mI_add j 3) ?_
  refine X_sld (pc := 895) hΦ (by first | exact h42 | exact g42) (show j + 3 < L by omega) (by omega) dL_law_895 ?_
  refine X_callVc (pc := 896) cv_L_100 h2 h3.R.1 rfl rfl rfl rfl (Nat.le_of_ble_eq_true rfl) ⟨by show d2 + 1 ≤ 2048; omega, Nat.le_trans (Nat.add_le_add_left (Nat.mul_le_mul_left 60 b2) _) (by decide)⟩ ⟨by show cu + c + 0 ≤ 600000; omega, by show su + s + 0 ≤ 7302250; omega⟩ dL_law_896 ?_
  refine X_icmpeq (pc := 899) 1616 dL_law_899 (by decide) (fun hb899 => ?_) (fun hb899 => ?_)
  · exact K _ _ _ _ _ h3 g42 (by omega) (by omega)
  · exact absurd rfl hb899
set_option maxRecDepth 20000 in
theorem lw_c20 (l : Launch) {Φ : am_D → Prop} {L : Nat} {xs : Nat → Int32} (hΦ : ∀ D, Φ D → D.2.2.2.2.1 = L ∧ D.2.2.2.2.2 = xs) (hL : L ≤ 384) {kd : am_kd} {rv : am_rv} {iv : am_iv} (h : REL kd rv iv iv) (h42 : kd (42, 0, 0) = some (.inr (8, 0))) (j : Nat) (hj : j + 6 ≤ L) (cu su : Nat) (hcu : cu + 1 ≤ 600000) (hsu : su + 3 ≤ 7302250) (K : ∀ kd rv iv cu' su', REL kd rv iv iv → kd (42, 0, 0) = some (.inr (8, 0)) → cu' ≤ cu + 1 → su' ≤ su + 3 → am_X Φ l mL_law room_1 lw_post 1616 [some (am_P (42, 0, 0)), some (am_P (1, 0, 0)), some (am_P (30, 0, 0)), some (am_I (nI j))] [] kd rv iv cu' su') : am_X Φ l mL_law room_1 lw_post 904 [some (am_P (42, 0, 0)), some (am_P (1, 0, 0)), some (am_P (30, 0, 0)), some (am_I (nI j))] [] kd rv iv cu su := by
  obtain ⟨a, d1, d2, c, s, kd1, rv1, iv1, iv2, ⟨b1, b2, b3, b4⟩, hx, h1, h2, h3⟩ : CALL2 l kd rv iv mX11_whole mX12_whole [am_I (xs (j + 1))] := (call_whole l h (xs (j + 1))).two
  have g42 : kd1 (42, 0, 0) = some (.inr (8, 0)) := (hx _ (by rw [h42]; exact fun z => by cases z)).trans h42
  refine X_aload_n (pc := 904) (i := 1) dL_law_904 rfl rfl ?_
  refine X_aload_n (pc := 905) (i := 0) dL_law_905 rfl rfl ?_
  refine X_iload_n (pc := 906) (i := 3) dL_law_906 rfl rfl ?_
  refine X_iconst (pc := 907) (1) dL_law_907 (by decide) ?_
  refine X_iadd (pc := 908) dL_law_908 ?_
  refine X_top (show nI j + (1 : Int32) = nI (j + 1) from mI_add j 1) ?_
  refine X_sld (pc := 909) hΦ (by first | exact h42 | exact g42) (show j + 1 < L by omega) (by omega) dL_law_909 ?_
  refine X_callVc (pc := 910) cv_L_101 h1 h.S.k1 rfl rfl rfl rfl (Nat.le_of_ble_eq_true rfl) ⟨by show d1 + 1 ≤ 2048; omega, Nat.le_trans (Nat.add_le_add_left (Nat.mul_le_mul_left 60 b1) _) (by decide)⟩ ⟨by show cu + c ≤ 600000; omega, by show su + s ≤ 7302250; omega⟩ dL_law_910 ?_
  refine X_aload_n (pc := 913) (i := 2) dL_law_913 rfl rfl ?_
  refine X_aload_n (pc := 914) (i := 0) dL_law_914 rfl rfl ?_
  refine X_iload_n (pc := 915) (i := 3) dL_law_915 rfl rfl ?_
  refine X_iconst (pc := 916) (1) dL_law_916 (by decide) ?_
  refine X_iadd (pc := 917) dL_law_917 ?_
  refine X_top (show nI j + (1 : Int32) = nI (j + 1) from mI_add j 1) ?_
  refine X_sld (pc := 918) hΦ (by first | exact h42 | exact g42) (show j + 1 < L by omega) (by omega) dL_law_918 ?_
  refine X_callVc (pc := 919) cv_L_104 h2 h3.R.1 rfl rfl rfl rfl (Nat.le_of_ble_eq_true rfl) ⟨by show d2 + 1 ≤ 2048; omega, Nat.le_trans (Nat.add_le_add_left (Nat.mul_le_mul_left 60 b2) _) (by decide)⟩ ⟨by show cu + c + 0 ≤ 600000; omega, by show su + s + 0 ≤ 7302250; omega⟩ dL_law_919 ?_
  refine X_icmpeq (pc := 922) 1616 dL_law_922 (by decide) (fun hb922 => ?_) (fun hb922 => ?_)
  · exact K _ _ _ _ _ h3 g42 (by omega) (by omega)
  · exact absurd rfl hb922
set_option maxRecDepth 20000 in
theorem lw_c21 (l : Launch) {Φ : am_D → Prop} {L : Nat} {xs : Nat → Int32} (hΦ : ∀ D, Φ D → D.2.2.2.2.1 = L ∧ D.2.2.2.2.2 = xs) (hL : L ≤ 384) {kd : am_kd} {rv : am_rv} {iv : am_iv} (h : REL kd rv iv iv) (h42 : kd (42, 0, 0) = some (.inr (8, 0))) (j : Nat) (hj : j + 6 ≤ L) (cu su : Nat) (hcu : cu + 1 ≤ 600000) (hsu : su + 3 ≤ 7302250) (K : ∀ kd rv iv cu' su', REL kd rv iv iv → kd (42, 0, 0) = some (.inr (8, 0)) → cu' ≤ cu + 1 → su' ≤ su + 3 → am_X Φ l mL_law room_1 lw_post 1616 [some (am_P (42, 0, 0)), some (am_P (1, 0, 0)), some (am_P (30, 0, 0)), some (am_I (nI j))] [] kd rv iv cu' su') : am_X Φ l mL_law room_1 lw_post 927 [some (am_P (42, 0, 0)), some (am_P (1, 0, 0)), some (am_P (30, 0, 0)), some (am_I (nI j))] [] kd rv iv cu su := by
  obtain ⟨a, d1, d2, c, s, kd1, rv1, iv1, iv2, ⟨b1, b2, b3, b4⟩, hx, h1, h2, h3⟩ : CALL2 l kd rv iv mX11_turns mX12_turns [am_I (xs (j + 1))] := (call_turns l h (xs (j + 1))).two
  have g42 : kd1 (42, 0, 0) = some (.inr (8, 0)) := (hx _ (by rw [h42]; exact fun z => by cases z)).trans h42
  refine X_aload_n (pc := 927) (i := 1) dL_law_927 rfl rfl ?_
  refine X_aload_n (pc := 928) (i := 0) dL_law_928 rfl rfl ?_
  refine X_iload_n (pc := 929) (i := 3) dL_law_929 rfl rfl ?_
  refine X_iconst (pc := 930) (1) dL_law_930 (by decide) ?_
  refine X_iadd (pc := 931) dL_law_931 ?_
  refine X_top (show nI j + (1 : Int32) = nI (j + 1) from mI_add j 1) ?_
  refine X_sld (pc := 932) hΦ (by first | exact h42 | exact g42) (show j + 1 < L by omega) (by omega) dL_law_932 ?_
  refine X_callVc (pc := 933) cv_L_105 h1 h.S.k1 rfl rfl rfl rfl (Nat.le_of_ble_eq_true rfl) ⟨by show d1 + 1 ≤ 2048; omega, Nat.le_trans (Nat.add_le_add_left (Nat.mul_le_mul_left 60 b1) _) (by decide)⟩ ⟨by show cu + c ≤ 600000; omega, by show su + s ≤ 7302250; omega⟩ dL_law_933 ?_
  refine X_aload_n (pc := 936) (i := 2) dL_law_936 rfl rfl ?_
  refine X_aload_n (pc := 937) (i := 0) dL_law_937 rfl rfl ?_
  refine X_iload_n (pc := 938) (i := 3) dL_law_938 rfl rfl ?_
  refine X_iconst (pc := 939) (1) dL_law_939 (by decide) ?_
  refine X_iadd (pc := 940) dL_law_940 ?_
  refine X_top (show nI j + (1 : Int32) = nI (j + 1) from mI_add j 1) ?_
  refine X_sld (pc := 941) hΦ (by first | exact h42 | exact g42) (show j + 1 < L by omega) (by omega) dL_law_941 ?_
  refine X_callVc (pc := 942) cv_L_108 h2 h3.R.1 rfl rfl rfl rfl (Nat.le_of_ble_eq_true rfl) ⟨by show d2 + 1 ≤ 2048; omega, Nat.le_trans (Nat.add_le_add_left (Nat.mul_le_mul_left 60 b2) _) (by decide)⟩ ⟨by show cu + c + 0 ≤ 600000; omega, by show su + s + 0 ≤ 7302250; omega⟩ dL_law_942 ?_
  refine X_icmpeq (pc := 945) 1616 dL_law_945 (by decide) (fun hb945 => ?_) (fun hb945 => ?_)
  · exact K _ _ _ _ _ h3 g42 (by omega) (by omega)
  · exact absurd rfl hb945
set_option maxRecDepth 20000 in
theorem lw_c22 (l : Launch) {Φ : am_D → Prop} {L : Nat} {xs : Nat → Int32} (hΦ : ∀ D, Φ D → D.2.2.2.2.1 = L ∧ D.2.2.2.2.2 = xs) (hL : L ≤ 384) {kd : am_kd} {rv : am_rv} {iv : am_iv} (h : REL kd rv iv iv) (h42 : kd (42, 0, 0) = some (.inr (8, 0))) (j : Nat) (hj : j + 6 ≤ L) (cu su : Nat) (hcu : cu + 1 ≤ 600000) (hsu : su + 3 ≤ 7302250) (K : ∀ kd rv iv cu' su', REL kd rv iv iv → kd (42, 0, 0) = some (.inr (8, 0)) → cu' ≤ cu + 1 → su' ≤ su + 3 → am_X Φ l mL_law room_1 lw_post 1616 [some (am_P (42, 0, 0)), some (am_P (1, 0, 0)), some (am_P (30, 0, 0)), some (am_I (nI j))] [] kd rv iv cu' su') : am_X Φ l mL_law room_1 lw_post 950 [some (am_P (42, 0, 0)), some (am_P (1, 0, 0)), some (am_P (30, 0, 0)), some (am_I (nI j))] [] kd rv iv cu su := by
  obtain ⟨a, d1, d2, c, s, kd1, rv1, iv1, iv2, ⟨b1, b2, b3, b4⟩, hx, h1, h2, h3⟩ : CALL2 l kd rv iv mX11_far mX12_far [am_I (xs (j + 1)), am_I (xs (j + 2))] := (call_far l h (xs (j + 1)) (xs (j + 2))).two
  have g42 : kd1 (42, 0, 0) = some (.inr (8, 0)) := (hx _ (by rw [h42]; exact fun z => by cases z)).trans h42
  refine X_aload_n (pc := 950) (i := 1) dL_law_950 rfl rfl ?_
  refine X_aload_n (pc := 951) (i := 0) dL_law_951 rfl rfl ?_
  refine X_iload_n (pc := 952) (i := 3) dL_law_952 rfl rfl ?_
  refine X_iconst (pc := 953) (1) dL_law_953 (by decide) ?_
  refine X_iadd (pc := 954) dL_law_954 ?_
  refine X_top (show nI j + (1 : Int32) = nI (j + 1) from mI_add j 1) ?_
  refine X_sld (pc := 955) hΦ (by first | exact h42 | exact g42) (show j + 1 < L by omega) (by omega) dL_law_955 ?_
  refine X_aload_n (pc := 956) (i := 0) dL_law_956 rfl rfl ?_
  refine X_iload_n (pc := 957) (i := 3) dL_law_957 rfl rfl ?_
  refine X_iconst (pc := 958) (2) dL_law_958 (by decide) ?_
  refine X_iadd (pc := 959) dL_law_959 ?_
  refine X_top (show nI j + (2 : Int32) = nI (j + 2) from mI_add j 2) ?_
  refine X_sld (pc := 960) hΦ (by first | exact h42 | exact g42) (show j + 2 < L by omega) (by omega) dL_law_960 ?_
  refine X_callVc (pc := 961) cv_L_109 h1 h.S.k1 rfl rfl rfl rfl (Nat.le_of_ble_eq_true rfl) ⟨by show d1 + 1 ≤ 2048; omega, Nat.le_trans (Nat.add_le_add_left (Nat.mul_le_mul_left 60 b1) _) (by decide)⟩ ⟨by show cu + c ≤ 600000; omega, by show su + s ≤ 7302250; omega⟩ dL_law_961 ?_
  refine X_aload_n (pc := 964) (i := 2) dL_law_964 rfl rfl ?_
  refine X_aload_n (pc := 965) (i := 0) dL_law_965 rfl rfl ?_
  refine X_iload_n (pc := 966) (i := 3) dL_law_966 rfl rfl ?_
  refine X_iconst (pc := 967) (1) dL_law_967 (by decide) ?_
  refine X_iadd (pc := 968) dL_law_968 ?_
  refine X_top (show nI j + (1 : Int32) = nI (j + 1) from mI_add j 1) ?_
  refine X_sld (pc := 969) hΦ (by first | exact h42 | exact g42) (show j + 1 < L by omega) (by omega) dL_law_969 ?_
  refine X_aload_n (pc := 970) (i := 0) dL_law_970 rfl rfl ?_
  refine X_iload_n (pc := 971) (i := 3) dL_law_971 rfl rfl ?_
  refine X_iconst (pc := 972) (2) dL_law_972 (by decide) ?_
  refine X_iadd (pc := 973) dL_law_973 ?_
  refine X_top (show nI j + (2 : Int32) = nI (j + 2) from mI_add j 2) ?_
  refine X_sld (pc := 974) hΦ (by first | exact h42 | exact g42) (show j + 2 < L by omega) (by omega) dL_law_974 ?_
  refine X_callVc (pc := 975) cv_L_112 h2 h3.R.1 rfl rfl rfl rfl (Nat.le_of_ble_eq_true rfl) ⟨by show d2 + 1 ≤ 2048; omega, Nat.le_trans (Nat.add_le_add_left (Nat.mul_le_mul_left 60 b2) _) (by decide)⟩ ⟨by show cu + c + 0 ≤ 600000; omega, by show su + s + 0 ≤ 7302250; omega⟩ dL_law_975 ?_
  refine X_icmpeq (pc := 978) 1616 dL_law_978 (by decide) (fun hb978 => ?_) (fun hb978 => ?_)
  · exact K _ _ _ _ _ h3 g42 (by omega) (by omega)
  · exact absurd rfl hb978
set_option maxRecDepth 20000 in
theorem lw_c23 (l : Launch) {Φ : am_D → Prop} {L : Nat} {xs : Nat → Int32} (hΦ : ∀ D, Φ D → D.2.2.2.2.1 = L ∧ D.2.2.2.2.2 = xs) (hL : L ≤ 384) {kd : am_kd} {rv : am_rv} {iv : am_iv} (h : REL kd rv iv iv) (h42 : kd (42, 0, 0) = some (.inr (8, 0))) (j : Nat) (hj : j + 6 ≤ L) (cu su : Nat) (hcu : cu + 1 ≤ 600000) (hsu : su + 3 ≤ 7302250) (K : ∀ kd rv iv cu' su', REL kd rv iv iv → kd (42, 0, 0) = some (.inr (8, 0)) → cu' ≤ cu + 1 → su' ≤ su + 3 → am_X Φ l mL_law room_1 lw_post 1616 [some (am_P (42, 0, 0)), some (am_P (1, 0, 0)), some (am_P (30, 0, 0)), some (am_I (nI j))] [] kd rv iv cu' su') : am_X Φ l mL_law room_1 lw_post 983 [some (am_P (42, 0, 0)), some (am_P (1, 0, 0)), some (am_P (30, 0, 0)), some (am_I (nI j))] [] kd rv iv cu su := by
  obtain ⟨a, d1, d2, c, s, kd1, rv1, iv1, iv2, ⟨b1, b2, b3, b4⟩, hx, h1, h2, h3⟩ : CALL2 l kd rv iv mX11_knock mX12_knock [am_I (xs (j + 1)), am_I (xs (j + 2)), am_I (xs (j + 3))] := (call_knock l h (xs (j + 1)) (xs (j + 2)) (xs (j + 3))).two
  have g42 : kd1 (42, 0, 0) = some (.inr (8, 0)) := (hx _ (by rw [h42]; exact fun z => by cases z)).trans h42
  refine X_aload_n (pc := 983) (i := 1) dL_law_983 rfl rfl ?_
  refine X_aload_n (pc := 984) (i := 0) dL_law_984 rfl rfl ?_
  refine X_iload_n (pc := 985) (i := 3) dL_law_985 rfl rfl ?_
  refine X_iconst (pc := 986) (1) dL_law_986 (by decide) ?_
  refine X_iadd (pc := 987) dL_law_987 ?_
  refine X_top (show nI j + (1 : Int32) = nI (j + 1) from mI_add j 1) ?_
  refine X_sld (pc := 988) hΦ (by first | exact h42 | exact g42) (show j + 1 < L by omega) (by omega) dL_law_988 ?_
  refine X_aload_n (pc := 989) (i := 0) dL_law_989 rfl rfl ?_
  refine X_iload_n (pc := 990) (i := 3) dL_law_990 rfl rfl ?_
  refine X_iconst (pc := 991) (2) dL_law_991 (by decide) ?_
  refine X_iadd (pc := 992) dL_law_992 ?_
  refine X_top (show nI j + (2 : Int32) = nI (j + 2) from mI_add j 2) ?_
  refine X_sld (pc := 993) hΦ (by first | exact h42 | exact g42) (show j + 2 < L by omega) (by omega) dL_law_993 ?_
  refine X_aload_n (pc := 994) (i := 0) dL_law_994 rfl rfl ?_
  refine X_iload_n (pc := 995) (i := 3) dL_law_995 rfl rfl ?_
  refine X_iconst (pc := 996) (3) dL_law_996 (by decide) ?_
  refine X_iadd (pc := 997) dL_law_997 ?_
  refine X_top (show nI j + (3 : Int32) = nI (j + 3) from mI_add j 3) ?_
  refine X_sld (pc := 998) hΦ (by first | exact h42 | exact g42) (show j + 3 < L by omega) (by omega) dL_law_998 ?_
  refine X_callVc (pc := 999) cv_L_113 h1 h.S.k1 rfl rfl rfl rfl (Nat.le_of_ble_eq_true rfl) ⟨by show d1 + 1 ≤ 2048; omega, Nat.le_trans (Nat.add_le_add_left (Nat.mul_le_mul_left 60 b1) _) (by decide)⟩ ⟨by show cu + c ≤ 600000; omega, by show su + s ≤ 7302250; omega⟩ dL_law_999 ?_
  refine X_aload_n (pc := 1002) (i := 2) dL_law_1002 rfl rfl ?_
  refine X_aload_n (pc := 1003) (i := 0) dL_law_1003 rfl rfl ?_
  refine X_iload_n (pc := 1004) (i := 3) dL_law_1004 rfl rfl ?_
  refine X_iconst (pc := 1005) (1) dL_law_1005 (by decide) ?_
  refine X_iadd (pc := 1006) dL_law_1006 ?_
  refine X_top (show nI j + (1 : Int32) = nI (j + 1) from mI_add j 1) ?_
  refine X_sld (pc := 1007) hΦ (by first | exact h42 | exact g42) (show j + 1 < L by omega) (by omega) dL_law_1007 ?_
  refine X_aload_n (pc := 1008) (i := 0) dL_law_1008 rfl rfl ?_
  refine X_iload_n (pc := 1009) (i := 3) dL_law_1009 rfl rfl ?_
  refine X_iconst (pc := 1010) (2) dL_law_1010 (by decide) ?_
  refine X_iadd (pc := 1011) dL_law_1011 ?_
  refine X_top (show nI j + (2 : Int32) = nI (j + 2) from mI_add j 2) ?_
  refine X_sld (pc := 1012) hΦ (by first | exact h42 | exact g42) (show j + 2 < L by omega) (by omega) dL_law_1012 ?_
  refine X_aload_n (pc := 1013) (i := 0) dL_law_1013 rfl rfl ?_
  refine X_iload_n (pc := 1014) (i := 3) dL_law_1014 rfl rfl ?_
  refine X_iconst (pc := 1015) (3) dL_law_1015 (by decide) ?_
  refine X_iadd (pc := 1016) dL_law_1016 ?_
  refine X_top (show nI j + (3 : Int32) = nI (j + 3) from mI_add j 3) ?_
  refine X_sld (pc := 1017) hΦ (by first | exact h42 | exact g42) (show j + 3 < L by omega) (by omega) dL_law_1017 ?_
  refine X_callVc (pc := 1018) cv_L_116 h2 h3.R.1 rfl rfl rfl rfl (Nat.le_of_ble_eq_true rfl) ⟨by show d2 + 1 ≤ 2048; omega, Nat.le_trans (Nat.add_le_add_left (Nat.mul_le_mul_left 60 b2) _) (by decide)⟩ ⟨by show cu + c + 0 ≤ 600000; omega, by show su + s + 0 ≤ 7302250; omega⟩ dL_law_1018 ?_
  refine X_icmpeq (pc := 1021) 1616 dL_law_1021 (by decide) (fun hb1021 => ?_) (fun hb1021 => ?_)
  · exact K _ _ _ _ _ h3 g42 (by omega) (by omega)
  · exact absurd rfl hb1021
set_option maxRecDepth 20000 in
theorem lw_c24 (l : Launch) {Φ : am_D → Prop} {L : Nat} {xs : Nat → Int32} (hΦ : ∀ D, Φ D → D.2.2.2.2.1 = L ∧ D.2.2.2.2.2 = xs) (hL : L ≤ 384) {kd : am_kd} {rv : am_rv} {iv : am_iv} (h : REL kd rv iv iv) (h42 : kd (42, 0, 0) = some (.inr (8, 0))) (j : Nat) (hj : j + 6 ≤ L) (cu su : Nat) (hcu : cu + 1 ≤ 600000) (hsu : su + 3 ≤ 7302250) (K : ∀ kd rv iv cu' su', REL kd rv iv iv → kd (42, 0, 0) = some (.inr (8, 0)) → cu' ≤ cu + 1 → su' ≤ su + 3 → am_X Φ l mL_law room_1 lw_post 1616 [some (am_P (42, 0, 0)), some (am_P (1, 0, 0)), some (am_P (30, 0, 0)), some (am_I (nI j))] [] kd rv iv cu' su') : am_X Φ l mL_law room_1 lw_post 1026 [some (am_P (42, 0, 0)), some (am_P (1, 0, 0)), some (am_P (30, 0, 0)), some (am_I (nI j))] [] kd rv iv cu su := by
  obtain ⟨a, d1, d2, c, s, kd1, rv1, iv1, iv2, ⟨b1, b2, b3, b4⟩, hx, h1, h2, h3⟩ : CALL2 l kd rv iv mX11_farthest mX12_farthest [am_I (xs (j + 1)), am_I (xs (j + 2)), am_I (xs (j + 3))] := (call_farthest l h (xs (j + 1)) (xs (j + 2)) (xs (j + 3))).two
  have g42 : kd1 (42, 0, 0) = some (.inr (8, 0)) := (hx _ (by rw [h42]; exact fun z => by cases z)).trans h42
  refine X_aload_n (pc := 1026) (i := 1) dL_law_1026 rfl rfl ?_
  refine X_aload_n (pc := 1027) (i := 0) dL_law_1027 rfl rfl ?_
  refine X_iload_n (pc := 1028) (i := 3) dL_law_1028 rfl rfl ?_
  refine X_iconst (pc := 1029) (1) dL_law_1029 (by decide) ?_
  refine X_iadd (pc := 1030) dL_law_1030 ?_
  refine X_top (show nI j + (1 : Int32) = nI (j + 1) from mI_add j 1) ?_
  refine X_sld (pc := 1031) hΦ (by first | exact h42 | exact g42) (show j + 1 < L by omega) (by omega) dL_law_1031 ?_
  refine X_aload_n (pc := 1032) (i := 0) dL_law_1032 rfl rfl ?_
  refine X_iload_n (pc := 1033) (i := 3) dL_law_1033 rfl rfl ?_
  refine X_iconst (pc := 1034) (2) dL_law_1034 (by decide) ?_
  refine X_iadd (pc := 1035) dL_law_1035 ?_
  refine X_top (show nI j + (2 : Int32) = nI (j + 2) from mI_add j 2) ?_
  refine X_sld (pc := 1036) hΦ (by first | exact h42 | exact g42) (show j + 2 < L by omega) (by omega) dL_law_1036 ?_
  refine X_aload_n (pc := 1037) (i := 0) dL_law_1037 rfl rfl ?_
  refine X_iload_n (pc := 1038) (i := 3) dL_law_1038 rfl rfl ?_
  refine X_iconst (pc := 1039) (3) dL_law_1039 (by decide) ?_
  refine X_iadd (pc := 1040) dL_law_1040 ?_
  refine X_top (show nI j + (3 : Int32) = nI (j + 3) from mI_add j 3) ?_
  refine X_sld (pc := 1041) hΦ (by first | exact h42 | exact g42) (show j + 3 < L by omega) (by omega) dL_law_1041 ?_
  refine X_callVc (pc := 1042) cv_L_117 h1 h.S.k1 rfl rfl rfl rfl (Nat.le_of_ble_eq_true rfl) ⟨by show d1 + 1 ≤ 2048; omega, Nat.le_trans (Nat.add_le_add_left (Nat.mul_le_mul_left 60 b1) _) (by decide)⟩ ⟨by show cu + c ≤ 600000; omega, by show su + s ≤ 7302250; omega⟩ dL_law_1042 ?_
  refine X_aload_n (pc := 1045) (i := 2) dL_law_1045 rfl rfl ?_
  refine X_aload_n (pc := 1046) (i := 0) dL_law_1046 rfl rfl ?_
  refine X_iload_n (pc := 1047) (i := 3) dL_law_1047 rfl rfl ?_
  refine X_iconst (pc := 1048) (1) dL_law_1048 (by decide) ?_
  refine X_iadd (pc := 1049) dL_law_1049 ?_
  refine X_top (show nI j + (1 : Int32) = nI (j + 1) from mI_add j 1) ?_
  refine X_sld (pc := 1050) hΦ (by first | exact h42 | exact g42) (show j + 1 < L by omega) (by omega) dL_law_1050 ?_
  refine X_aload_n (pc := 1051) (i := 0) dL_law_1051 rfl rfl ?_
  refine X_iload_n (pc := 1052) (i := 3) dL_law_1052 rfl rfl ?_
  refine X_iconst (pc := 1053) (2) dL_law_1053 (by decide) ?_
  refine X_iadd (pc := 1054) dL_law_1054 ?_
  refine X_top (show nI j + (2 : Int32) = nI (j + 2) from mI_add j 2) ?_
  refine X_sld (pc := 1055) hΦ (by first | exact h42 | exact g42) (show j + 2 < L by omega) (by omega) dL_law_1055 ?_
  refine X_aload_n (pc := 1056) (i := 0) dL_law_1056 rfl rfl ?_
  refine X_iload_n (pc := 1057) (i := 3) dL_law_1057 rfl rfl ?_
  refine X_iconst (pc := 1058) (3) dL_law_1058 (by decide) ?_
  refine X_iadd (pc := 1059) dL_law_1059 ?_
  refine X_top (show nI j + (3 : Int32) = nI (j + 3) from mI_add j 3) ?_
  refine X_sld (pc := 1060) hΦ (by first | exact h42 | exact g42) (show j + 3 < L by omega) (by omega) dL_law_1060 ?_
  refine X_callVc (pc := 1061) cv_L_120 h2 h3.R.1 rfl rfl rfl rfl (Nat.le_of_ble_eq_true rfl) ⟨by show d2 + 1 ≤ 2048; omega, Nat.le_trans (Nat.add_le_add_left (Nat.mul_le_mul_left 60 b2) _) (by decide)⟩ ⟨by show cu + c + 0 ≤ 600000; omega, by show su + s + 0 ≤ 7302250; omega⟩ dL_law_1061 ?_
  refine X_icmpeq (pc := 1064) 1616 dL_law_1064 (by decide) (fun hb1064 => ?_) (fun hb1064 => ?_)
  · exact K _ _ _ _ _ h3 g42 (by omega) (by omega)
  · exact absurd rfl hb1064
set_option maxRecDepth 20000 in
theorem lw_c25 (l : Launch) {Φ : am_D → Prop} {L : Nat} {xs : Nat → Int32} (hΦ : ∀ D, Φ D → D.2.2.2.2.1 = L ∧ D.2.2.2.2.2 = xs) (hL : L ≤ 384) {kd : am_kd} {rv : am_rv} {iv : am_iv} (h : REL kd rv iv iv) (h42 : kd (42, 0, 0) = some (.inr (8, 0))) (j : Nat) (hj : j + 6 ≤ L) (cu su : Nat) (hcu : cu + 1 ≤ 600000) (hsu : su + 3 ≤ 7302250) (K : ∀ kd rv iv cu' su', REL kd rv iv iv → kd (42, 0, 0) = some (.inr (8, 0)) → cu' ≤ cu + 1 → su' ≤ su + 3 → am_X Φ l mL_law room_1 lw_post 1616 [some (am_P (42, 0, 0)), some (am_P (1, 0, 0)), some (am_P (30, 0, 0)), some (am_I (nI j))] [] kd rv iv cu' su') : am_X Φ l mL_law room_1 lw_post 1069 [some (am_P (42, 0, 0)), some (am_P (1, 0, 0)), some (am_P (30, 0, 0)), some (am_I (nI j))] [] kd rv iv cu su := by
  obtain ⟨a, d1, d2, c, s, kd1, rv1, iv1, iv2, ⟨b1, b2, b3, b4⟩, hx, h1, h2, h3⟩ : CALL2 l kd rv iv mX11_second mX12_second [am_I (xs (j + 1)), am_I (xs (j + 2)), am_I (xs (j + 3))] := (call_second l h (xs (j + 1)) (xs (j + 2)) (xs (j + 3))).two
  have g42 : kd1 (42, 0, 0) = some (.inr (8, 0)) := (hx _ (by rw [h42]; exact fun z => by cases z)).trans h42
  refine X_aload_n (pc := 1069) (i := 1) dL_law_1069 rfl rfl ?_
  refine X_aload_n (pc := 1070) (i := 0) dL_law_1070 rfl rfl ?_
  refine X_iload_n (pc := 1071) (i := 3) dL_law_1071 rfl rfl ?_
  refine X_iconst (pc := 1072) (1) dL_law_1072 (by decide) ?_
  refine X_iadd (pc := 1073) dL_law_1073 ?_
  refine X_top (show nI j + (1 : Int32) = nI (j + 1) from mI_add j 1) ?_
  refine X_sld (pc := 1074) hΦ (by first | exact h42 | exact g42) (show j + 1 < L by omega) (by omega) dL_law_1074 ?_
  refine X_aload_n (pc := 1075) (i := 0) dL_law_1075 rfl rfl ?_
  refine X_iload_n (pc := 1076) (i := 3) dL_law_1076 rfl rfl ?_
  refine X_iconst (pc := 1077) (2) dL_law_1077 (by decide) ?_
  refine X_iadd (pc := 1078) dL_law_1078 ?_
  refine X_top (show nI j + (2 : Int32) = nI (j + 2) from mI_add j 2) ?_
  refine X_sld (pc := 1079) hΦ (by first | exact h42 | exact g42) (show j + 2 < L by omega) (by omega) dL_law_1079 ?_
  refine X_aload_n (pc := 1080) (i := 0) dL_law_1080 rfl rfl ?_
  refine X_iload_n (pc := 1081) (i := 3) dL_law_1081 rfl rfl ?_
  refine X_iconst (pc := 1082) (3) dL_law_1082 (by decide) ?_
  refine X_iadd (pc := 1083) dL_law_1083 ?_
  refine X_top (show nI j + (3 : Int32) = nI (j + 3) from mI_add j 3) ?_
  refine X_sld (pc := 1084) hΦ (by first | exact h42 | exact g42) (show j + 3 < L by omega) (by omega) dL_law_1084 ?_
  refine X_callVc (pc := 1085) cv_L_121 h1 h.S.k1 rfl rfl rfl rfl (Nat.le_of_ble_eq_true rfl) ⟨by show d1 + 1 ≤ 2048; omega, Nat.le_trans (Nat.add_le_add_left (Nat.mul_le_mul_left 60 b1) _) (by decide)⟩ ⟨by show cu + c ≤ 600000; omega, by show su + s ≤ 7302250; omega⟩ dL_law_1085 ?_
  refine X_aload_n (pc := 1088) (i := 2) dL_law_1088 rfl rfl ?_
  refine X_aload_n (pc := 1089) (i := 0) dL_law_1089 rfl rfl ?_
  refine X_iload_n (pc := 1090) (i := 3) dL_law_1090 rfl rfl ?_
  refine X_iconst (pc := 1091) (1) dL_law_1091 (by decide) ?_
  refine X_iadd (pc := 1092) dL_law_1092 ?_
  refine X_top (show nI j + (1 : Int32) = nI (j + 1) from mI_add j 1) ?_
  refine X_sld (pc := 1093) hΦ (by first | exact h42 | exact g42) (show j + 1 < L by omega) (by omega) dL_law_1093 ?_
  refine X_aload_n (pc := 1094) (i := 0) dL_law_1094 rfl rfl ?_
  refine X_iload_n (pc := 1095) (i := 3) dL_law_1095 rfl rfl ?_
  refine X_iconst (pc := 1096) (2) dL_law_1096 (by decide) ?_
  refine X_iadd (pc := 1097) dL_law_1097 ?_
  refine X_top (show nI j + (2 : Int32) = nI (j + 2) from mI_add j 2) ?_
  refine X_sld (pc := 1098) hΦ (by first | exact h42 | exact g42) (show j + 2 < L by omega) (by omega) dL_law_1098 ?_
  refine X_aload_n (pc := 1099) (i := 0) dL_law_1099 rfl rfl ?_
  refine X_iload_n (pc := 1100) (i := 3) dL_law_1100 rfl rfl ?_
  refine X_iconst (pc := 1101) (3) dL_law_1101 (by decide) ?_
  refine X_iadd (pc := 1102) dL_law_1102 ?_
  refine X_top (show nI j + (3 : Int32) = nI (j + 3) from mI_add j 3) ?_
  refine X_sld (pc := 1103) hΦ (by first | exact h42 | exact g42) (show j + 3 < L by omega) (by omega) dL_law_1103 ?_
  refine X_callVc (pc := 1104) cv_L_124 h2 h3.R.1 rfl rfl rfl rfl (Nat.le_of_ble_eq_true rfl) ⟨by show d2 + 1 ≤ 2048; omega, Nat.le_trans (Nat.add_le_add_left (Nat.mul_le_mul_left 60 b2) _) (by decide)⟩ ⟨by show cu + c + 0 ≤ 600000; omega, by show su + s + 0 ≤ 7302250; omega⟩ dL_law_1104 ?_
  refine X_icmpeq (pc := 1107) 1616 dL_law_1107 (by decide) (fun hb1107 => ?_) (fun hb1107 => ?_)
  · exact K _ _ _ _ _ h3 g42 (by omega) (by omega)
  · exact absurd rfl hb1107
set_option maxRecDepth 20000 in
theorem lw_c26 (l : Launch) {Φ : am_D → Prop} {L : Nat} {xs : Nat → Int32} (hΦ : ∀ D, Φ D → D.2.2.2.2.1 = L ∧ D.2.2.2.2.2 = xs) (hL : L ≤ 384) {kd : am_kd} {rv : am_rv} {iv : am_iv} (h : REL kd rv iv iv) (h42 : kd (42, 0, 0) = some (.inr (8, 0))) (j : Nat) (hj : j + 6 ≤ L) (cu su : Nat) (hcu : cu + 1 ≤ 600000) (hsu : su + 3 ≤ 7302250) (K : ∀ kd rv iv cu' su', REL kd rv iv iv → kd (42, 0, 0) = some (.inr (8, 0)) → cu' ≤ cu + 1 → su' ≤ su + 3 → am_X Φ l mL_law room_1 lw_post 1616 [some (am_P (42, 0, 0)), some (am_P (1, 0, 0)), some (am_P (30, 0, 0)), some (am_I (nI j))] [] kd rv iv cu' su') : am_X Φ l mL_law room_1 lw_post 1112 [some (am_P (42, 0, 0)), some (am_P (1, 0, 0)), some (am_P (30, 0, 0)), some (am_I (nI j))] [] kd rv iv cu su := by
  obtain ⟨a, d1, d2, c, s, kd1, rv1, iv1, iv2, ⟨b1, b2, b3, b4⟩, hx, h1, h2, h3⟩ : CALL2 l kd rv iv mX11_alike mX12_alike [am_I (xs (j + 1)), am_I (xs (j + 2))] := (call_alike l h (xs (j + 1)) (xs (j + 2))).two
  have g42 : kd1 (42, 0, 0) = some (.inr (8, 0)) := (hx _ (by rw [h42]; exact fun z => by cases z)).trans h42
  refine X_aload_n (pc := 1112) (i := 1) dL_law_1112 rfl rfl ?_
  refine X_aload_n (pc := 1113) (i := 0) dL_law_1113 rfl rfl ?_
  refine X_iload_n (pc := 1114) (i := 3) dL_law_1114 rfl rfl ?_
  refine X_iconst (pc := 1115) (1) dL_law_1115 (by decide) ?_
  refine X_iadd (pc := 1116) dL_law_1116 ?_
  refine X_top (show nI j + (1 : Int32) = nI (j + 1) from mI_add j 1) ?_
  refine X_sld (pc := 1117) hΦ (by first | exact h42 | exact g42) (show j + 1 < L by omega) (by omega) dL_law_1117 ?_
  refine X_aload_n (pc := 1118) (i := 0) dL_law_1118 rfl rfl ?_
  refine X_iload_n (pc := 1119) (i := 3) dL_law_1119 rfl rfl ?_
  refine X_iconst (pc := 1120) (2) dL_law_1120 (by decide) ?_
  refine X_iadd (pc := 1121) dL_law_1121 ?_
  refine X_top (show nI j + (2 : Int32) = nI (j + 2) from mI_add j 2) ?_
  refine X_sld (pc := 1122) hΦ (by first | exact h42 | exact g42) (show j + 2 < L by omega) (by omega) dL_law_1122 ?_
  refine X_callVc (pc := 1123) cv_L_125 h1 h.S.k1 rfl rfl rfl rfl (Nat.le_of_ble_eq_true rfl) ⟨by show d1 + 1 ≤ 2048; omega, Nat.le_trans (Nat.add_le_add_left (Nat.mul_le_mul_left 60 b1) _) (by decide)⟩ ⟨by show cu + c ≤ 600000; omega, by show su + s ≤ 7302250; omega⟩ dL_law_1123 ?_
  refine X_aload_n (pc := 1126) (i := 2) dL_law_1126 rfl rfl ?_
  refine X_aload_n (pc := 1127) (i := 0) dL_law_1127 rfl rfl ?_
  refine X_iload_n (pc := 1128) (i := 3) dL_law_1128 rfl rfl ?_
  refine X_iconst (pc := 1129) (1) dL_law_1129 (by decide) ?_
  refine X_iadd (pc := 1130) dL_law_1130 ?_
  refine X_top (show nI j + (1 : Int32) = nI (j + 1) from mI_add j 1) ?_
  refine X_sld (pc := 1131) hΦ (by first | exact h42 | exact g42) (show j + 1 < L by omega) (by omega) dL_law_1131 ?_
  refine X_aload_n (pc := 1132) (i := 0) dL_law_1132 rfl rfl ?_
  refine X_iload_n (pc := 1133) (i := 3) dL_law_1133 rfl rfl ?_
  refine X_iconst (pc := 1134) (2) dL_law_1134 (by decide) ?_
  refine X_iadd (pc := 1135) dL_law_1135 ?_
  refine X_top (show nI j + (2 : Int32) = nI (j + 2) from mI_add j 2) ?_
  refine X_sld (pc := 1136) hΦ (by first | exact h42 | exact g42) (show j + 2 < L by omega) (by omega) dL_law_1136 ?_
  refine X_callVc (pc := 1137) cv_L_128 h2 h3.R.1 rfl rfl rfl rfl (Nat.le_of_ble_eq_true rfl) ⟨by show d2 + 1 ≤ 2048; omega, Nat.le_trans (Nat.add_le_add_left (Nat.mul_le_mul_left 60 b2) _) (by decide)⟩ ⟨by show cu + c + 0 ≤ 600000; omega, by show su + s + 0 ≤ 7302250; omega⟩ dL_law_1137 ?_
  refine X_icmpeq (pc := 1140) 1616 dL_law_1140 (by decide) (fun hb1140 => ?_) (fun hb1140 => ?_)
  · exact K _ _ _ _ _ h3 g42 (by omega) (by omega)
  · exact absurd rfl hb1140
set_option maxRecDepth 20000 in
theorem lw_c27 (l : Launch) {Φ : am_D → Prop} {L : Nat} {xs : Nat → Int32} (hΦ : ∀ D, Φ D → D.2.2.2.2.1 = L ∧ D.2.2.2.2.2 = xs) (hL : L ≤ 384) {kd : am_kd} {rv : am_rv} {iv : am_iv} (h : REL kd rv iv iv) (h42 : kd (42, 0, 0) = some (.inr (8, 0))) (j : Nat) (hj : j + 6 ≤ L) (cu su : Nat) (hcu : cu + 1 ≤ 600000) (hsu : su + 3 ≤ 7302250) (K : ∀ kd rv iv cu' su', REL kd rv iv iv → kd (42, 0, 0) = some (.inr (8, 0)) → cu' ≤ cu + 1 → su' ≤ su + 3 → am_X Φ l mL_law room_1 lw_post 1616 [some (am_P (42, 0, 0)), some (am_P (1, 0, 0)), some (am_P (30, 0, 0)), some (am_I (nI j))] [] kd rv iv cu' su') : am_X Φ l mL_law room_1 lw_post 1145 [some (am_P (42, 0, 0)), some (am_P (1, 0, 0)), some (am_P (30, 0, 0)), some (am_I (nI j))] [] kd rv iv cu su := by
  obtain ⟨a, d1, d2, c, s, kd1, rv1, iv1, iv2, ⟨b1, b2, b3, b4⟩, hx, h1, h2, h3⟩ : CALL2 l kd rv iv mX11_off mX12_off [am_I (xs (j + 1))] := (call_off l h (xs (j + 1))).two
  have g42 : kd1 (42, 0, 0) = some (.inr (8, 0)) := (hx _ (by rw [h42]; exact fun z => by cases z)).trans h42
  refine X_aload_n (pc := 1145) (i := 1) dL_law_1145 rfl rfl ?_
  refine X_aload_n (pc := 1146) (i := 0) dL_law_1146 rfl rfl ?_
  refine X_iload_n (pc := 1147) (i := 3) dL_law_1147 rfl rfl ?_
  refine X_iconst (pc := 1148) (1) dL_law_1148 (by decide) ?_
  refine X_iadd (pc := 1149) dL_law_1149 ?_
  refine X_top (show nI j + (1 : Int32) = nI (j + 1) from mI_add j 1) ?_
  refine X_sld (pc := 1150) hΦ (by first | exact h42 | exact g42) (show j + 1 < L by omega) (by omega) dL_law_1150 ?_
  refine X_callVc (pc := 1151) cv_L_129 h1 h.S.k1 rfl rfl rfl rfl (Nat.le_of_ble_eq_true rfl) ⟨by show d1 + 1 ≤ 2048; omega, Nat.le_trans (Nat.add_le_add_left (Nat.mul_le_mul_left 60 b1) _) (by decide)⟩ ⟨by show cu + c ≤ 600000; omega, by show su + s ≤ 7302250; omega⟩ dL_law_1151 ?_
  refine X_aload_n (pc := 1154) (i := 2) dL_law_1154 rfl rfl ?_
  refine X_aload_n (pc := 1155) (i := 0) dL_law_1155 rfl rfl ?_
  refine X_iload_n (pc := 1156) (i := 3) dL_law_1156 rfl rfl ?_
  refine X_iconst (pc := 1157) (1) dL_law_1157 (by decide) ?_
  refine X_iadd (pc := 1158) dL_law_1158 ?_
  refine X_top (show nI j + (1 : Int32) = nI (j + 1) from mI_add j 1) ?_
  refine X_sld (pc := 1159) hΦ (by first | exact h42 | exact g42) (show j + 1 < L by omega) (by omega) dL_law_1159 ?_
  refine X_callVc (pc := 1160) cv_L_132 h2 h3.R.1 rfl rfl rfl rfl (Nat.le_of_ble_eq_true rfl) ⟨by show d2 + 1 ≤ 2048; omega, Nat.le_trans (Nat.add_le_add_left (Nat.mul_le_mul_left 60 b2) _) (by decide)⟩ ⟨by show cu + c + 0 ≤ 600000; omega, by show su + s + 0 ≤ 7302250; omega⟩ dL_law_1160 ?_
  refine X_icmpeq (pc := 1163) 1616 dL_law_1163 (by decide) (fun hb1163 => ?_) (fun hb1163 => ?_)
  · exact K _ _ _ _ _ h3 g42 (by omega) (by omega)
  · exact absurd rfl hb1163
set_option maxRecDepth 20000 in
theorem lw_c28 (l : Launch) {Φ : am_D → Prop} {L : Nat} {xs : Nat → Int32} (hΦ : ∀ D, Φ D → D.2.2.2.2.1 = L ∧ D.2.2.2.2.2 = xs) (hL : L ≤ 384) {kd : am_kd} {rv : am_rv} {iv : am_iv} (h : REL kd rv iv iv) (h42 : kd (42, 0, 0) = some (.inr (8, 0))) (j : Nat) (hj : j + 6 ≤ L) (cu su : Nat) (hcu : cu + 1 ≤ 600000) (hsu : su + 3 ≤ 7302250) (K : ∀ kd rv iv cu' su', REL kd rv iv iv → kd (42, 0, 0) = some (.inr (8, 0)) → cu' ≤ cu + 1 → su' ≤ su + 3 → am_X Φ l mL_law room_1 lw_post 1616 [some (am_P (42, 0, 0)), some (am_P (1, 0, 0)), some (am_P (30, 0, 0)), some (am_I (nI j))] [] kd rv iv cu' su') : am_X Φ l mL_law room_1 lw_post 1168 [some (am_P (42, 0, 0)), some (am_P (1, 0, 0)), some (am_P (30, 0, 0)), some (am_I (nI j))] [] kd rv iv cu su := by
  obtain ⟨a, d1, d2, c, s, kd1, rv1, iv1, iv2, ⟨b1, b2, b3, b4⟩, hx, h1, h2, h3⟩ : CALL2 l kd rv iv mX11_spun mX12_spun [am_I (xs (j + 1))] := (call_spun l h (xs (j + 1))).two
  have g42 : kd1 (42, 0, 0) = some (.inr (8, 0)) := (hx _ (by rw [h42]; exact fun z => by cases z)).trans h42
  refine X_aload_n (pc := 1168) (i := 1) dL_law_1168 rfl rfl ?_
  refine X_aload_n (pc := 1169) (i := 0) dL_law_1169 rfl rfl ?_
  refine X_iload_n (pc := 1170) (i := 3) dL_law_1170 rfl rfl ?_
  refine X_iconst (pc := 1171) (1) dL_law_1171 (by decide) ?_
  refine X_iadd (pc := 1172) dL_law_1172 ?_
  refine X_top (show nI j + (1 : Int32) = nI (j + 1) from mI_add j 1) ?_
  refine X_sld (pc := 1173) hΦ (by first | exact h42 | exact g42) (show j + 1 < L by omega) (by omega) dL_law_1173 ?_
  refine X_callVc (pc := 1174) cv_L_133 h1 h.S.k1 rfl rfl rfl rfl (Nat.le_of_ble_eq_true rfl) ⟨by show d1 + 1 ≤ 2048; omega, Nat.le_trans (Nat.add_le_add_left (Nat.mul_le_mul_left 60 b1) _) (by decide)⟩ ⟨by show cu + c ≤ 600000; omega, by show su + s ≤ 7302250; omega⟩ dL_law_1174 ?_
  refine X_aload_n (pc := 1177) (i := 2) dL_law_1177 rfl rfl ?_
  refine X_aload_n (pc := 1178) (i := 0) dL_law_1178 rfl rfl ?_
  refine X_iload_n (pc := 1179) (i := 3) dL_law_1179 rfl rfl ?_
  refine X_iconst (pc := 1180) (1) dL_law_1180 (by decide) ?_
  refine X_iadd (pc := 1181) dL_law_1181 ?_
  refine X_top (show nI j + (1 : Int32) = nI (j + 1) from mI_add j 1) ?_
  refine X_sld (pc := 1182) hΦ (by first | exact h42 | exact g42) (show j + 1 < L by omega) (by omega) dL_law_1182 ?_
  refine X_callVc (pc := 1183) cv_L_136 h2 h3.R.1 rfl rfl rfl rfl (Nat.le_of_ble_eq_true rfl) ⟨by show d2 + 1 ≤ 2048; omega, Nat.le_trans (Nat.add_le_add_left (Nat.mul_le_mul_left 60 b2) _) (by decide)⟩ ⟨by show cu + c + 0 ≤ 600000; omega, by show su + s + 0 ≤ 7302250; omega⟩ dL_law_1183 ?_
  refine X_icmpeq (pc := 1186) 1616 dL_law_1186 (by decide) (fun hb1186 => ?_) (fun hb1186 => ?_)
  · exact K _ _ _ _ _ h3 g42 (by omega) (by omega)
  · exact absurd rfl hb1186
set_option maxRecDepth 20000 in
theorem lw_c29 (l : Launch) {Φ : am_D → Prop} {L : Nat} {xs : Nat → Int32} (hΦ : ∀ D, Φ D → D.2.2.2.2.1 = L ∧ D.2.2.2.2.2 = xs) (hL : L ≤ 384) {kd : am_kd} {rv : am_rv} {iv : am_iv} (h : REL kd rv iv iv) (h42 : kd (42, 0, 0) = some (.inr (8, 0))) (j : Nat) (hj : j + 6 ≤ L) (cu su : Nat) (hcu : cu + 1 ≤ 600000) (hsu : su + 3 ≤ 7302250) (K : ∀ kd rv iv cu' su', REL kd rv iv iv → kd (42, 0, 0) = some (.inr (8, 0)) → cu' ≤ cu + 1 → su' ≤ su + 3 → am_X Φ l mL_law room_1 lw_post 1616 [some (am_P (42, 0, 0)), some (am_P (1, 0, 0)), some (am_P (30, 0, 0)), some (am_I (nI j))] [] kd rv iv cu' su') : am_X Φ l mL_law room_1 lw_post 1191 [some (am_P (42, 0, 0)), some (am_P (1, 0, 0)), some (am_P (30, 0, 0)), some (am_I (nI j))] [] kd rv iv cu su := by
  obtain ⟨a, d1, d2, c, s, kd1, rv1, iv1, iv2, ⟨b1, b2, b3, b4⟩, hx, h1, h2, h3⟩ : CALL2 l kd rv iv mX11_made mX12_made [am_I (xs (j + 1))] := (call_made l h (xs (j + 1))).two
  have g42 : kd1 (42, 0, 0) = some (.inr (8, 0)) := (hx _ (by rw [h42]; exact fun z => by cases z)).trans h42
  refine X_aload_n (pc := 1191) (i := 1) dL_law_1191 rfl rfl ?_
  refine X_aload_n (pc := 1192) (i := 0) dL_law_1192 rfl rfl ?_
  refine X_iload_n (pc := 1193) (i := 3) dL_law_1193 rfl rfl ?_
  refine X_iconst (pc := 1194) (1) dL_law_1194 (by decide) ?_
  refine X_iadd (pc := 1195) dL_law_1195 ?_
  refine X_top (show nI j + (1 : Int32) = nI (j + 1) from mI_add j 1) ?_
  refine X_sld (pc := 1196) hΦ (by first | exact h42 | exact g42) (show j + 1 < L by omega) (by omega) dL_law_1196 ?_
  refine X_callVc (pc := 1197) cv_L_137 h1 h.S.k1 rfl rfl rfl rfl (Nat.le_of_ble_eq_true rfl) ⟨by show d1 + 1 ≤ 2048; omega, Nat.le_trans (Nat.add_le_add_left (Nat.mul_le_mul_left 60 b1) _) (by decide)⟩ ⟨by show cu + c ≤ 600000; omega, by show su + s ≤ 7302250; omega⟩ dL_law_1197 ?_
  refine X_aload_n (pc := 1200) (i := 2) dL_law_1200 rfl rfl ?_
  refine X_aload_n (pc := 1201) (i := 0) dL_law_1201 rfl rfl ?_
  refine X_iload_n (pc := 1202) (i := 3) dL_law_1202 rfl rfl ?_
  refine X_iconst (pc := 1203) (1) dL_law_1203 (by decide) ?_
  refine X_iadd (pc := 1204) dL_law_1204 ?_
  refine X_top (show nI j + (1 : Int32) = nI (j + 1) from mI_add j 1) ?_
  refine X_sld (pc := 1205) hΦ (by first | exact h42 | exact g42) (show j + 1 < L by omega) (by omega) dL_law_1205 ?_
  refine X_callVc (pc := 1206) cv_L_140 h2 h3.R.1 rfl rfl rfl rfl (Nat.le_of_ble_eq_true rfl) ⟨by show d2 + 1 ≤ 2048; omega, Nat.le_trans (Nat.add_le_add_left (Nat.mul_le_mul_left 60 b2) _) (by decide)⟩ ⟨by show cu + c + 0 ≤ 600000; omega, by show su + s + 0 ≤ 7302250; omega⟩ dL_law_1206 ?_
  refine X_icmpeq (pc := 1209) 1616 dL_law_1209 (by decide) (fun hb1209 => ?_) (fun hb1209 => ?_)
  · exact K _ _ _ _ _ h3 g42 (by omega) (by omega)
  · exact absurd rfl hb1209
set_option maxRecDepth 20000 in
theorem lw_c30 (l : Launch) {Φ : am_D → Prop} {L : Nat} {xs : Nat → Int32} (hΦ : ∀ D, Φ D → D.2.2.2.2.1 = L ∧ D.2.2.2.2.2 = xs) (hL : L ≤ 384) {kd : am_kd} {rv : am_rv} {iv : am_iv} (h : REL kd rv iv iv) (h42 : kd (42, 0, 0) = some (.inr (8, 0))) (j : Nat) (hj : j + 6 ≤ L) (cu su : Nat) (hcu : cu + 1 ≤ 600000) (hsu : su + 3 ≤ 7302250) (K : ∀ kd rv iv cu' su', REL kd rv iv iv → kd (42, 0, 0) = some (.inr (8, 0)) → cu' ≤ cu + 1 → su' ≤ su + 3 → am_X Φ l mL_law room_1 lw_post 1616 [some (am_P (42, 0, 0)), some (am_P (1, 0, 0)), some (am_P (30, 0, 0)), some (am_I (nI j))] [] kd rv iv cu' su') : am_X Φ l mL_law room_1 lw_post 1214 [some (am_P (42, 0, 0)), some (am_P (1, 0, 0)), some (am_P (30, 0, 0)), some (am_I (nI j))] [] kd rv iv cu su := by
  obtain ⟨a, d1, d2, c, s, kd1, rv1, iv1, iv2, ⟨b1, b2, b3, b4⟩, hx, h1, h2, h3⟩ : CALL2 l kd rv iv mX11_heart mX12_heart [am_I (xs (j + 1))] := (call_heart l h (xs (j + 1))).two
  have g42 : kd1 (42, 0, 0) = some (.inr (8, 0)) := (hx _ (by rw [h42]; exact fun z => by cases z)).trans h42
  refine X_aload_n (pc := 1214) (i := 1) dL_law_1214 rfl rfl ?_
  refine X_aload_n (pc := 1215) (i := 0) dL_law_1215 rfl rfl ?_
  refine X_iload_n (pc := 1216) (i := 3) dL_law_1216 rfl rfl ?_
  refine X_iconst (pc := 1217) (1) dL_law_1217 (by decide) ?_
  refine X_iadd (pc := 1218) dL_law_1218 ?_
  refine X_top (show nI j + (1 : Int32) = nI (j + 1) from mI_add j 1) ?_
  refine X_sld (pc := 1219) hΦ (by first | exact h42 | exact g42) (show j + 1 < L by omega) (by omega) dL_law_1219 ?_
  refine X_callVc (pc := 1220) cv_L_141 h1 h.S.k1 rfl rfl rfl rfl (Nat.le_of_ble_eq_true rfl) ⟨by show d1 + 1 ≤ 2048; omega, Nat.le_trans (Nat.add_le_add_left (Nat.mul_le_mul_left 60 b1) _) (by decide)⟩ ⟨by show cu + c ≤ 600000; omega, by show su + s ≤ 7302250; omega⟩ dL_law_1220 ?_
  refine X_aload_n (pc := 1223) (i := 2) dL_law_1223 rfl rfl ?_
  refine X_aload_n (pc := 1224) (i := 0) dL_law_1224 rfl rfl ?_
  refine X_iload_n (pc := 1225) (i := 3) dL_law_1225 rfl rfl ?_
  refine X_iconst (pc := 1226) (1) dL_law_1226 (by decide) ?_
  refine X_iadd (pc := 1227) dL_law_1227 ?_
  refine X_top (show nI j + (1 : Int32) = nI (j + 1) from mI_add j 1) ?_
  refine X_sld (pc := 1228) hΦ (by first | exact h42 | exact g42) (show j + 1 < L by omega) (by omega) dL_law_1228 ?_
  refine X_callVc (pc := 1229) cv_L_144 h2 h3.R.1 rfl rfl rfl rfl (Nat.le_of_ble_eq_true rfl) ⟨by show d2 + 1 ≤ 2048; omega, Nat.le_trans (Nat.add_le_add_left (Nat.mul_le_mul_left 60 b2) _) (by decide)⟩ ⟨by show cu + c + 0 ≤ 600000; omega, by show su + s + 0 ≤ 7302250; omega⟩ dL_law_1229 ?_
  refine X_icmpeq (pc := 1232) 1616 dL_law_1232 (by decide) (fun hb1232 => ?_) (fun hb1232 => ?_)
  · exact K _ _ _ _ _ h3 g42 (by omega) (by omega)
  · exact absurd rfl hb1232
set_option maxRecDepth 20000 in
theorem lw_c31 (l : Launch) {Φ : am_D → Prop} {L : Nat} {xs : Nat → Int32} (hΦ : ∀ D, Φ D → D.2.2.2.2.1 = L ∧ D.2.2.2.2.2 = xs) (hL : L ≤ 384) {kd : am_kd} {rv : am_rv} {iv : am_iv} (h : REL kd rv iv iv) (h42 : kd (42, 0, 0) = some (.inr (8, 0))) (j : Nat) (hj : j + 6 ≤ L) (cu su : Nat) (hcu : cu + 1 ≤ 600000) (hsu : su + 3 ≤ 7302250) (K : ∀ kd rv iv cu' su', REL kd rv iv iv → kd (42, 0, 0) = some (.inr (8, 0)) → cu' ≤ cu + 1 → su' ≤ su + 3 → am_X Φ l mL_law room_1 lw_post 1616 [some (am_P (42, 0, 0)), some (am_P (1, 0, 0)), some (am_P (30, 0, 0)), some (am_I (nI j))] [] kd rv iv cu' su') : am_X Φ l mL_law room_1 lw_post 1237 [some (am_P (42, 0, 0)), some (am_P (1, 0, 0)), some (am_P (30, 0, 0)), some (am_I (nI j))] [] kd rv iv cu su := by
  obtain ⟨a, d1, d2, c, s, kd1, rv1, iv1, iv2, ⟨b1, b2, b3, b4⟩, hx, h1, h2, h3⟩ : CALL2 l kd rv iv mX11_seed mX12_seed [am_I (xs (j + 1))] := (call_seed l h (xs (j + 1))).two
  have g42 : kd1 (42, 0, 0) = some (.inr (8, 0)) := (hx _ (by rw [h42]; exact fun z => by cases z)).trans h42
  refine X_aload_n (pc := 1237) (i := 1) dL_law_1237 rfl rfl ?_
  refine X_aload_n (pc := 1238) (i := 0) dL_law_1238 rfl rfl ?_
  refine X_iload_n (pc := 1239) (i := 3) dL_law_1239 rfl rfl ?_
  refine X_iconst (pc := 1240) (1) dL_law_1240 (by decide) ?_
  refine X_iadd (pc := 1241) dL_law_1241 ?_
  refine X_top (show nI j + (1 : Int32) = nI (j + 1) from mI_add j 1) ?_
  refine X_sld (pc := 1242) hΦ (by first | exact h42 | exact g42) (show j + 1 < L by omega) (by omega) dL_law_1242 ?_
  refine X_callVc (pc := 1243) cv_L_145 h1 h.S.k1 rfl rfl rfl rfl (Nat.le_of_ble_eq_true rfl) ⟨by show d1 + 1 ≤ 2048; omega, Nat.le_trans (Nat.add_le_add_left (Nat.mul_le_mul_left 60 b1) _) (by decide)⟩ ⟨by show cu + c ≤ 600000; omega, by show su + s ≤ 7302250; omega⟩ dL_law_1243 ?_
  refine X_aload_n (pc := 1246) (i := 2) dL_law_1246 rfl rfl ?_
  refine X_aload_n (pc := 1247) (i := 0) dL_law_1247 rfl rfl ?_
  refine X_iload_n (pc := 1248) (i := 3) dL_law_1248 rfl rfl ?_
  refine X_iconst (pc := 1249) (1) dL_law_1249 (by decide) ?_
  refine X_iadd (pc := 1250) dL_law_1250 ?_
  refine X_top (show nI j + (1 : Int32) = nI (j + 1) from mI_add j 1) ?_
  refine X_sld (pc := 1251) hΦ (by first | exact h42 | exact g42) (show j + 1 < L by omega) (by omega) dL_law_1251 ?_
  refine X_callVc (pc := 1252) cv_L_148 h2 h3.R.1 rfl rfl rfl rfl (Nat.le_of_ble_eq_true rfl) ⟨by show d2 + 1 ≤ 2048; omega, Nat.le_trans (Nat.add_le_add_left (Nat.mul_le_mul_left 60 b2) _) (by decide)⟩ ⟨by show cu + c + 0 ≤ 600000; omega, by show su + s + 0 ≤ 7302250; omega⟩ dL_law_1252 ?_
  refine X_icmpeq (pc := 1255) 1616 dL_law_1255 (by decide) (fun hb1255 => ?_) (fun hb1255 => ?_)
  · exact K _ _ _ _ _ h3 g42 (by omega) (by omega)
  · exact absurd rfl hb1255
set_option maxRecDepth 20000 in
theorem lw_c32 (l : Launch) {Φ : am_D → Prop} {L : Nat} {xs : Nat → Int32} (hΦ : ∀ D, Φ D → D.2.2.2.2.1 = L ∧ D.2.2.2.2.2 = xs) (hL : L ≤ 384) {kd : am_kd} {rv : am_rv} {iv : am_iv} (h : REL kd rv iv iv) (h42 : kd (42, 0, 0) = some (.inr (8, 0))) (j : Nat) (hj : j + 6 ≤ L) (cu su : Nat) (hcu : cu + 1 ≤ 600000) (hsu : su + 3 ≤ 7302250) (K : ∀ kd rv iv cu' su', REL kd rv iv iv → kd (42, 0, 0) = some (.inr (8, 0)) → cu' ≤ cu + 1 → su' ≤ su + 3 → am_X Φ l mL_law room_1 lw_post 1616 [some (am_P (42, 0, 0)), some (am_P (1, 0, 0)), some (am_P (30, 0, 0)), some (am_I (nI j))] [] kd rv iv cu' su') : am_X Φ l mL_law room_1 lw_post 1260 [some (am_P (42, 0, 0)), some (am_P (1, 0, 0)), some (am_P (30, 0, 0)), some (am_I (nI j))] [] kd rv iv cu su := by
  obtain ⟨a, d1, d2, c, s, kd1, rv1, iv1, iv2, ⟨b1, b2, b3, b4⟩, hx, h1, h2, h3⟩ : CALL2 l kd rv iv mX11_voice mX12_voice [am_I (xs (j + 1)), am_I (xs (j + 2)), am_I (xs (j + 3))] := (call_voice l h (xs (j + 1)) (xs (j + 2)) (xs (j + 3))).two
  have g42 : kd1 (42, 0, 0) = some (.inr (8, 0)) := (hx _ (by rw [h42]; exact fun z => by cases z)).trans h42
  refine X_aload_n (pc := 1260) (i := 1) dL_law_1260 rfl rfl ?_
  refine X_aload_n (pc := 1261) (i := 0) dL_law_1261 rfl rfl ?_
  refine X_iload_n (pc := 1262) (i := 3) dL_law_1262 rfl rfl ?_
  refine X_iconst (pc := 1263) (1) dL_law_1263 (by decide) ?_
  refine X_iadd (pc := 1264) dL_law_1264 ?_
  refine X_top (show nI j + (1 : Int32) = nI (j + 1) from mI_add j 1) ?_
  refine X_sld (pc := 1265) hΦ (by first | exact h42 | exact g42) (show j + 1 < L by omega) (by omega) dL_law_1265 ?_
  refine X_aload_n (pc := 1266) (i := 0) dL_law_1266 rfl rfl ?_
  refine X_iload_n (pc := 1267) (i := 3) dL_law_1267 rfl rfl ?_
  refine X_iconst (pc := 1268) (2) dL_law_1268 (by decide) ?_
  refine X_iadd (pc := 1269) dL_law_1269 ?_
  refine X_top (show nI j + (2 : Int32) = nI (j + 2) from mI_add j 2) ?_
  refine X_sld (pc := 1270) hΦ (by first | exact h42 | exact g42) (show j + 2 < L by omega) (by omega) dL_law_1270 ?_
  refine X_aload_n (pc := 1271) (i := 0) dL_law_1271 rfl rfl ?_
  refine X_iload_n (pc := 1272) (i := 3) dL_law_1272 rfl rfl ?_
  refine X_iconst (pc := 1273) (3) dL_law_1273 (by decide) ?_
  refine X_iadd (pc := 1274) dL_law_1274 ?_
  refine X_top (show nI j + (3 : Int32) = nI (j + 3) from mI_add j 3) ?_
  refine X_sld (pc := 1275) hΦ (by first | exact h42 | exact g42) (show j + 3 < L by omega) (by omega) dL_law_1275 ?_
  refine X_callVc (pc := 1276) cv_L_149 h1 h.S.k1 rfl rfl rfl rfl (Nat.le_of_ble_eq_true rfl) ⟨by show d1 + 1 ≤ 2048; omega, Nat.le_trans (Nat.add_le_add_left (Nat.mul_le_mul_left 60 b1) _) (by decide)⟩ ⟨by show cu + c ≤ 600000; omega, by show su + s ≤ 7302250; omega⟩ dL_law_1276 ?_
  refine X_aload_n (pc := 1279) (i := 2) dL_law_1279 rfl rfl ?_
  refine X_aload_n (pc := 1280) (i := 0) dL_law_1280 rfl rfl ?_
  refine X_iload_n (pc := 1281) (i := 3) dL_law_1281 rfl rfl ?_
  refine X_iconst (pc := 1282) (1) dL_law_1282 (by decide) ?_
  refine X_iadd (pc := 1283) dL_law_1283 ?_
  refine X_top (show nI j + (1 : Int32) = nI (j + 1) from mI_add j 1) ?_
  refine X_sld (pc := 1284) hΦ (by first | exact h42 | exact g42) (show j + 1 < L by omega) (by omega) dL_law_1284 ?_
  refine X_aload_n (pc := 1285) (i := 0) dL_law_1285 rfl rfl ?_
  refine X_iload_n (pc := 1286) (i := 3) dL_law_1286 rfl rfl ?_
  refine X_iconst (pc := 1287) (2) dL_law_1287 (by decide) ?_
  refine X_iadd (pc := 1288) dL_law_1288 ?_
  refine X_top (show nI j + (2 : Int32) = nI (j + 2) from mI_add j 2) ?_
  refine X_sld (pc := 1289) hΦ (by first | exact h42 | exact g42) (show j + 2 < L by omega) (by omega) dL_law_1289 ?_
  refine X_aload_n (pc := 1290) (i := 0) dL_law_1290 rfl rfl ?_
  refine X_iload_n (pc := 1291) (i := 3) dL_law_1291 rfl rfl ?_
  refine X_iconst (pc := 1292) (3) dL_law_1292 (by decide) ?_
  refine X_iadd (pc := 1293) dL_law_1293 ?_
  refine X_top (show nI j + (3 : Int32) = nI (j + 3) from mI_add j 3) ?_
  refine X_sld (pc := 1294) hΦ (by first | exact h42 | exact g42) (show j + 3 < L by omega) (by omega) dL_law_1294 ?_
  refine X_callVc (pc := 1295) cv_L_152 h2 h3.R.1 rfl rfl rfl rfl (Nat.le_of_ble_eq_true rfl) ⟨by show d2 + 1 ≤ 2048; omega, Nat.le_trans (Nat.add_le_add_left (Nat.mul_le_mul_left 60 b2) _) (by decide)⟩ ⟨by show cu + c + 0 ≤ 600000; omega, by show su + s + 0 ≤ 7302250; omega⟩ dL_law_1295 ?_
  refine X_icmpeq (pc := 1298) 1616 dL_law_1298 (by decide) (fun hb1298 => ?_) (fun hb1298 => ?_)
  · exact K _ _ _ _ _ h3 g42 (by omega) (by omega)
  · exact absurd rfl hb1298
set_option maxRecDepth 20000 in
theorem lw_c33 (l : Launch) {Φ : am_D → Prop} {L : Nat} {xs : Nat → Int32} (hΦ : ∀ D, Φ D → D.2.2.2.2.1 = L ∧ D.2.2.2.2.2 = xs) (hL : L ≤ 384) {kd : am_kd} {rv : am_rv} {iv : am_iv} (h : REL kd rv iv iv) (h42 : kd (42, 0, 0) = some (.inr (8, 0))) (j : Nat) (hj : j + 6 ≤ L) (cu su : Nat) (hcu : cu + 1 ≤ 600000) (hsu : su + 3 ≤ 7302250) (K : ∀ kd rv iv cu' su', REL kd rv iv iv → kd (42, 0, 0) = some (.inr (8, 0)) → cu' ≤ cu + 1 → su' ≤ su + 3 → am_X Φ l mL_law room_1 lw_post 1616 [some (am_P (42, 0, 0)), some (am_P (1, 0, 0)), some (am_P (30, 0, 0)), some (am_I (nI j))] [] kd rv iv cu' su') : am_X Φ l mL_law room_1 lw_post 1303 [some (am_P (42, 0, 0)), some (am_P (1, 0, 0)), some (am_P (30, 0, 0)), some (am_I (nI j))] [] kd rv iv cu su := by
  obtain ⟨a, d1, d2, c, s, kd1, rv1, iv1, iv2, ⟨b1, b2, b3, b4⟩, hx, h1, h2, h3⟩ : CALL2 l kd rv iv mX11_trace mX12_trace [am_I (xs (j + 1))] := (call_trace l h (xs (j + 1))).two
  have g42 : kd1 (42, 0, 0) = some (.inr (8, 0)) := (hx _ (by rw [h42]; exact fun z => by cases z)).trans h42
  refine X_aload_n (pc := 1303) (i := 1) dL_law_1303 rfl rfl ?_
  refine X_aload_n (pc := 1304) (i := 0) dL_law_1304 rfl rfl ?_
  refine X_iload_n (pc := 1305) (i := 3) dL_law_1305 rfl rfl ?_
  refine X_iconst (pc := 1306) (1) dL_law_1306 (by decide) ?_
  refine X_iadd (pc := 1307) dL_law_1307 ?_
  refine X_top (show nI j + (1 : Int32) = nI (j + 1) from mI_add j 1) ?_
  refine X_sld (pc := 1308) hΦ (by first | exact h42 | exact g42) (show j + 1 < L by omega) (by omega) dL_law_1308 ?_
  refine X_callVc (pc := 1309) cv_L_153 h1 h.S.k1 rfl rfl rfl rfl (Nat.le_of_ble_eq_true rfl) ⟨by show d1 + 1 ≤ 2048; omega, Nat.le_trans (Nat.add_le_add_left (Nat.mul_le_mul_left 60 b1) _) (by decide)⟩ ⟨by show cu + c ≤ 600000; omega, by show su + s ≤ 7302250; omega⟩ dL_law_1309 ?_
  refine X_aload_n (pc := 1312) (i := 2) dL_law_1312 rfl rfl ?_
  refine X_aload_n (pc := 1313) (i := 0) dL_law_1313 rfl rfl ?_
  refine X_iload_n (pc := 1314) (i := 3) dL_law_1314 rfl rfl ?_
  refine X_iconst (pc := 1315) (1) dL_law_1315 (by decide) ?_
  refine X_iadd (pc := 1316) dL_law_1316 ?_
  refine X_top (show nI j + (1 : Int32) = nI (j + 1) from mI_add j 1) ?_
  refine X_sld (pc := 1317) hΦ (by first | exact h42 | exact g42) (show j + 1 < L by omega) (by omega) dL_law_1317 ?_
  refine X_callVc (pc := 1318) cv_L_156 h2 h3.R.1 rfl rfl rfl rfl (Nat.le_of_ble_eq_true rfl) ⟨by show d2 + 1 ≤ 2048; omega, Nat.le_trans (Nat.add_le_add_left (Nat.mul_le_mul_left 60 b2) _) (by decide)⟩ ⟨by show cu + c + 0 ≤ 600000; omega, by show su + s + 0 ≤ 7302250; omega⟩ dL_law_1318 ?_
  refine X_icmpeq (pc := 1321) 1616 dL_law_1321 (by decide) (fun hb1321 => ?_) (fun hb1321 => ?_)
  · exact K _ _ _ _ _ h3 g42 (by omega) (by omega)
  · exact absurd rfl hb1321
set_option maxRecDepth 20000 in
theorem lw_c34 (l : Launch) {Φ : am_D → Prop} {L : Nat} {xs : Nat → Int32} (hΦ : ∀ D, Φ D → D.2.2.2.2.1 = L ∧ D.2.2.2.2.2 = xs) (hL : L ≤ 384) {kd : am_kd} {rv : am_rv} {iv : am_iv} (h : REL kd rv iv iv) (h42 : kd (42, 0, 0) = some (.inr (8, 0))) (j : Nat) (hj : j + 6 ≤ L) (cu su : Nat) (hcu : cu + 1 ≤ 600000) (hsu : su + 3 ≤ 7302250) (K : ∀ kd rv iv cu' su', REL kd rv iv iv → kd (42, 0, 0) = some (.inr (8, 0)) → cu' ≤ cu + 1 → su' ≤ su + 3 → am_X Φ l mL_law room_1 lw_post 1616 [some (am_P (42, 0, 0)), some (am_P (1, 0, 0)), some (am_P (30, 0, 0)), some (am_I (nI j))] [] kd rv iv cu' su') : am_X Φ l mL_law room_1 lw_post 1326 [some (am_P (42, 0, 0)), some (am_P (1, 0, 0)), some (am_P (30, 0, 0)), some (am_I (nI j))] [] kd rv iv cu su := by
  obtain ⟨a, d1, d2, c, s, kd1, rv1, iv1, iv2, ⟨b1, b2, b3, b4⟩, hx, h1, h2, h3⟩ : CALL2 l kd rv iv mX11_sheet mX12_sheet [am_I (xs (j + 1)), am_I (xs (j + 2)), am_I (xs (j + 3))] := (call_sheet l h (xs (j + 1)) (xs (j + 2)) (xs (j + 3))).two
  have g42 : kd1 (42, 0, 0) = some (.inr (8, 0)) := (hx _ (by rw [h42]; exact fun z => by cases z)).trans h42
  refine X_aload_n (pc := 1326) (i := 1) dL_law_1326 rfl rfl ?_
  refine X_aload_n (pc := 1327) (i := 0) dL_law_1327 rfl rfl ?_
  refine X_iload_n (pc := 1328) (i := 3) dL_law_1328 rfl rfl ?_
  refine X_iconst (pc := 1329) (1) dL_law_1329 (by decide) ?_
  refine X_iadd (pc := 1330) dL_law_1330 ?_
  refine X_top (show nI j + (1 : Int32) = nI (j + 1) from mI_add j 1) ?_
  refine X_sld (pc := 1331) hΦ (by first | exact h42 | exact g42) (show j + 1 < L by omega) (by omega) dL_law_1331 ?_
  refine X_aload_n (pc := 1332) (i := 0) dL_law_1332 rfl rfl ?_
  refine X_iload_n (pc := 1333) (i := 3) dL_law_1333 rfl rfl ?_
  refine X_iconst (pc := 1334) (2) dL_law_1334 (by decide) ?_
  refine X_iadd (pc := 1335) dL_law_1335 ?_
  refine X_top (show nI j + (2 : Int32) = nI (j + 2) from mI_add j 2) ?_
  refine X_sld (pc := 1336) hΦ (by first | exact h42 | exact g42) (show j + 2 < L by omega) (by omega) dL_law_1336 ?_
  refine X_aload_n (pc := 1337) (i := 0) dL_law_1337 rfl rfl ?_
  refine X_iload_n (pc := 1338) (i := 3) dL_law_1338 rfl rfl ?_
  refine X_iconst (pc := 1339) (3) dL_law_1339 (by decide) ?_
  refine X_iadd (pc := 1340) dL_law_1340 ?_
  refine X_top (show nI j + (3 : Int32) = nI (j + 3) from mI_add j 3) ?_
  refine X_sld (pc := 1341) hΦ (by first | exact h42 | exact g42) (show j + 3 < L by omega) (by omega) dL_law_1341 ?_
  refine X_callVc (pc := 1342) cv_L_157 h1 h.S.k1 rfl rfl rfl rfl (Nat.le_of_ble_eq_true rfl) ⟨by show d1 + 1 ≤ 2048; omega, Nat.le_trans (Nat.add_le_add_left (Nat.mul_le_mul_left 60 b1) _) (by decide)⟩ ⟨by show cu + c ≤ 600000; omega, by show su + s ≤ 7302250; omega⟩ dL_law_1342 ?_
  refine X_aload_n (pc := 1345) (i := 2) dL_law_1345 rfl rfl ?_
  refine X_aload_n (pc := 1346) (i := 0) dL_law_1346 rfl rfl ?_
  refine X_iload_n (pc := 1347) (i := 3) dL_law_1347 rfl rfl ?_
  refine X_iconst (pc := 1348) (1) dL_law_1348 (by decide) ?_
  refine X_iadd (pc := 1349) dL_law_1349 ?_
  refine X_top (show nI j + (1 : Int32) = nI (j + 1) from mI_add j 1) ?_
  refine X_sld (pc := 1350) hΦ (by first | exact h42 | exact g42) (show j + 1 < L by omega) (by omega) dL_law_1350 ?_
  refine X_aload_n (pc := 1351) (i := 0) dL_law_1351 rfl rfl ?_
  refine X_iload_n (pc := 1352) (i := 3) dL_law_1352 rfl rfl ?_
  refine X_iconst (pc := 1353) (2) dL_law_1353 (by decide) ?_
  refine X_iadd (pc := 1354) dL_law_1354 ?_
  refine X_top (show nI j + (2 : Int32) = nI (j + 2) from mI_add j 2) ?_
  refine X_sld (pc := 1355) hΦ (by first | exact h42 | exact g42) (show j + 2 < L by omega) (by omega) dL_law_1355 ?_
  refine X_aload_n (pc := 1356) (i := 0) dL_law_1356 rfl rfl ?_
  refine X_iload_n (pc := 1357) (i := 3) dL_law_1357 rfl rfl ?_
  refine X_iconst (pc := 1358) (3) dL_law_1358 (by decide) ?_
  refine X_iadd (pc := 1359) dL_law_1359 ?_
  refine X_top (show nI j + (3 : Int32) = nI (j + 3) from mI_add j 3) ?_
  refine X_sld (pc := 1360) hΦ (by first | exact h42 | exact g42) (show j + 3 < L by omega) (by omega) dL_law_1360 ?_
  refine X_callVc (pc := 1361) cv_L_160 h2 h3.R.1 rfl rfl rfl rfl (Nat.le_of_ble_eq_true rfl) ⟨by show d2 + 1 ≤ 2048; omega, Nat.le_trans (Nat.add_le_add_left (Nat.mul_le_mul_left 60 b2) _) (by decide)⟩ ⟨by show cu + c + 0 ≤ 600000; omega, by show su + s + 0 ≤ 7302250; omega⟩ dL_law_1361 ?_
  refine X_icmpeq (pc := 1364) 1616 dL_law_1364 (by decide) (fun hb1364 => ?_) (fun hb1364 => ?_)
  · exact K _ _ _ _ _ h3 g42 (by omega) (by omega)
  · exact absurd rfl hb1364
set_option maxRecDepth 20000 in
theorem lw_c35 (l : Launch) {Φ : am_D → Prop} {L : Nat} {xs : Nat → Int32} (hΦ : ∀ D, Φ D → D.2.2.2.2.1 = L ∧ D.2.2.2.2.2 = xs) (hL : L ≤ 384) {kd : am_kd} {rv : am_rv} {iv : am_iv} (h : REL kd rv iv iv) (h42 : kd (42, 0, 0) = some (.inr (8, 0))) (j : Nat) (hj : j + 6 ≤ L) (cu su : Nat) (hcu : cu + 1 ≤ 600000) (hsu : su + 3 ≤ 7302250) (K : ∀ kd rv iv cu' su', REL kd rv iv iv → kd (42, 0, 0) = some (.inr (8, 0)) → cu' ≤ cu + 1 → su' ≤ su + 3 → am_X Φ l mL_law room_1 lw_post 1616 [some (am_P (42, 0, 0)), some (am_P (1, 0, 0)), some (am_P (30, 0, 0)), some (am_I (nI j))] [] kd rv iv cu' su') : am_X Φ l mL_law room_1 lw_post 1369 [some (am_P (42, 0, 0)), some (am_P (1, 0, 0)), some (am_P (30, 0, 0)), some (am_I (nI j))] [] kd rv iv cu su := by
  obtain ⟨a, d1, d2, c, s, kd1, rv1, iv1, iv2, ⟨b1, b2, b3, b4⟩, hx, h1, h2, h3⟩ : CALL2 l kd rv iv mX11_put mX12_put [am_I (xs (j + 1)), am_I (xs (j + 2)), am_I (xs (j + 3))] := (call_put l h (xs (j + 1)) (xs (j + 2)) (xs (j + 3))).two
  have g42 : kd1 (42, 0, 0) = some (.inr (8, 0)) := (hx _ (by rw [h42]; exact fun z => by cases z)).trans h42
  refine X_aload_n (pc := 1369) (i := 1) dL_law_1369 rfl rfl ?_
  refine X_aload_n (pc := 1370) (i := 0) dL_law_1370 rfl rfl ?_
  refine X_iload_n (pc := 1371) (i := 3) dL_law_1371 rfl rfl ?_
  refine X_iconst (pc := 1372) (1) dL_law_1372 (by decide) ?_
  refine X_iadd (pc := 1373) dL_law_1373 ?_
  refine X_top (show nI j + (1 : Int32) = nI (j + 1) from mI_add j 1) ?_
  refine X_sld (pc := 1374) hΦ (by first | exact h42 | exact g42) (show j + 1 < L by omega) (by omega) dL_law_1374 ?_
  refine X_aload_n (pc := 1375) (i := 0) dL_law_1375 rfl rfl ?_
  refine X_iload_n (pc := 1376) (i := 3) dL_law_1376 rfl rfl ?_
  refine X_iconst (pc := 1377) (2) dL_law_1377 (by decide) ?_
  refine X_iadd (pc := 1378) dL_law_1378 ?_
  refine X_top (show nI j + (2 : Int32) = nI (j + 2) from mI_add j 2) ?_
  refine X_sld (pc := 1379) hΦ (by first | exact h42 | exact g42) (show j + 2 < L by omega) (by omega) dL_law_1379 ?_
  refine X_aload_n (pc := 1380) (i := 0) dL_law_1380 rfl rfl ?_
  refine X_iload_n (pc := 1381) (i := 3) dL_law_1381 rfl rfl ?_
  refine X_iconst (pc := 1382) (3) dL_law_1382 (by decide) ?_
  refine X_iadd (pc := 1383) dL_law_1383 ?_
  refine X_top (show nI j + (3 : Int32) = nI (j + 3) from mI_add j 3) ?_
  refine X_sld (pc := 1384) hΦ (by first | exact h42 | exact g42) (show j + 3 < L by omega) (by omega) dL_law_1384 ?_
  refine X_callVc (pc := 1385) cv_L_161 h1 h.S.k1 rfl rfl rfl rfl (Nat.le_of_ble_eq_true rfl) ⟨by show d1 + 1 ≤ 2048; omega, Nat.le_trans (Nat.add_le_add_left (Nat.mul_le_mul_left 60 b1) _) (by decide)⟩ ⟨by show cu + c ≤ 600000; omega, by show su + s ≤ 7302250; omega⟩ dL_law_1385 ?_
  refine X_aload_n (pc := 1388) (i := 2) dL_law_1388 rfl rfl ?_
  refine X_aload_n (pc := 1389) (i := 0) dL_law_1389 rfl rfl ?_
  refine X_iload_n (pc := 1390) (i := 3) dL_law_1390 rfl rfl ?_
  refine X_iconst (pc := 1391) (1) dL_law_1391 (by decide) ?_
  refine X_iadd (pc := 1392) dL_law_1392 ?_
  refine X_top (show nI j + (1 : Int32) = nI (j + 1) from mI_add j 1) ?_
  refine X_sld (pc := 1393) hΦ (by first | exact h42 | exact g42) (show j + 1 < L by omega) (by omega) dL_law_1393 ?_
  refine X_aload_n (pc := 1394) (i := 0) dL_law_1394 rfl rfl ?_
  refine X_iload_n (pc := 1395) (i := 3) dL_law_1395 rfl rfl ?_
  refine X_iconst (pc := 1396) (2) dL_law_1396 (by decide) ?_
  refine X_iadd (pc := 1397) dL_law_1397 ?_
  refine X_top (show nI j + (2 : Int32) = nI (j + 2) from mI_add j 2) ?_
  refine X_sld (pc := 1398) hΦ (by first | exact h42 | exact g42) (show j + 2 < L by omega) (by omega) dL_law_1398 ?_
  refine X_aload_n (pc := 1399) (i := 0) dL_law_1399 rfl rfl ?_
  refine X_iload_n (pc := 1400) (i := 3) dL_law_1400 rfl rfl ?_
  refine X_iconst (pc := 1401) (3) dL_law_1401 (by decide) ?_
  refine X_iadd (pc := 1402) dL_law_1402 ?_
  refine X_top (show nI j + (3 : Int32) = nI (j + 3) from mI_add j 3) ?_
  refine X_sld (pc := 1403) hΦ (by first | exact h42 | exact g42) (show j + 3 < L by omega) (by omega) dL_law_1403 ?_
  refine X_callVc (pc := 1404) cv_L_164 h2 h3.R.1 rfl rfl rfl rfl (Nat.le_of_ble_eq_true rfl) ⟨by show d2 + 1 ≤ 2048; omega, Nat.le_trans (Nat.add_le_add_left (Nat.mul_le_mul_left 60 b2) _) (by decide)⟩ ⟨by show cu + c + 0 ≤ 600000; omega, by show su + s + 0 ≤ 7302250; omega⟩ dL_law_1404 ?_
  refine X_icmpeq (pc := 1407) 1616 dL_law_1407 (by decide) (fun hb1407 => ?_) (fun hb1407 => ?_)
  · exact K _ _ _ _ _ h3 g42 (by omega) (by omega)
  · exact absurd rfl hb1407
set_option maxRecDepth 20000 in
theorem lw_c36 (l : Launch) {Φ : am_D → Prop} {L : Nat} {xs : Nat → Int32} (hΦ : ∀ D, Φ D → D.2.2.2.2.1 = L ∧ D.2.2.2.2.2 = xs) (hL : L ≤ 384) {kd : am_kd} {rv : am_rv} {iv : am_iv} (h : REL kd rv iv iv) (h42 : kd (42, 0, 0) = some (.inr (8, 0))) (j : Nat) (hj : j + 6 ≤ L) (cu su : Nat) (hcu : cu + 1 ≤ 600000) (hsu : su + 3 ≤ 7302250) (K : ∀ kd rv iv cu' su', REL kd rv iv iv → kd (42, 0, 0) = some (.inr (8, 0)) → cu' ≤ cu + 1 → su' ≤ su + 3 → am_X Φ l mL_law room_1 lw_post 1616 [some (am_P (42, 0, 0)), some (am_P (1, 0, 0)), some (am_P (30, 0, 0)), some (am_I (nI j))] [] kd rv iv cu' su') : am_X Φ l mL_law room_1 lw_post 1412 [some (am_P (42, 0, 0)), some (am_P (1, 0, 0)), some (am_P (30, 0, 0)), some (am_I (nI j))] [] kd rv iv cu su := by
  obtain ⟨a, d1, d2, c, s, kd1, rv1, iv1, iv2, ⟨b1, b2, b3, b4⟩, hx, h1, h2, h3⟩ : CALL2 l kd rv iv mX11_move mX12_move [am_I (xs (j + 1)), am_I (xs (j + 2)), am_I (xs (j + 3)), am_I (xs (j + 4)), am_I (xs (j + 5))] := (call_move l h (xs (j + 1)) (xs (j + 2)) (xs (j + 3)) (xs (j + 4)) (xs (j + 5))).two
  have g42 : kd1 (42, 0, 0) = some (.inr (8, 0)) := (hx _ (by rw [h42]; exact fun z => by cases z)).trans h42
  refine X_aload_n (pc := 1412) (i := 1) dL_law_1412 rfl rfl ?_
  refine X_aload_n (pc := 1413) (i := 0) dL_law_1413 rfl rfl ?_
  refine X_iload_n (pc := 1414) (i := 3) dL_law_1414 rfl rfl ?_
  refine X_iconst (pc := 1415) (1) dL_law_1415 (by decide) ?_
  refine X_iadd (pc := 1416) dL_law_1416 ?_
  refine X_top (show nI j + (1 : Int32) = nI (j + 1) from mI_add j 1) ?_
  refine X_sld (pc := 1417) hΦ (by first | exact h42 | exact g42) (show j + 1 < L by omega) (by omega) dL_law_1417 ?_
  refine X_aload_n (pc := 1418) (i := 0) dL_law_1418 rfl rfl ?_
  refine X_iload_n (pc := 1419) (i := 3) dL_law_1419 rfl rfl ?_
  refine X_iconst (pc := 1420) (2) dL_law_1420 (by decide) ?_
  refine X_iadd (pc := 1421) dL_law_1421 ?_
  refine X_top (show nI j + (2 : Int32) = nI (j + 2) from mI_add j 2) ?_
  refine X_sld (pc := 1422) hΦ (by first | exact h42 | exact g42) (show j + 2 < L by omega) (by omega) dL_law_1422 ?_
  refine X_aload_n (pc := 1423) (i := 0) dL_law_1423 rfl rfl ?_
  refine X_iload_n (pc := 1424) (i := 3) dL_law_1424 rfl rfl ?_
  refine X_iconst (pc := 1425) (3) dL_law_1425 (by decide) ?_
  refine X_iadd (pc := 1426) dL_law_1426 ?_
  refine X_top (show nI j + (3 : Int32) = nI (j + 3) from mI_add j 3) ?_
  refine X_sld (pc := 1427) hΦ (by first | exact h42 | exact g42) (show j + 3 < L by omega) (by omega) dL_law_1427 ?_
  refine X_aload_n (pc := 1428) (i := 0) dL_law_1428 rfl rfl ?_
  refine X_iload_n (pc := 1429) (i := 3) dL_law_1429 rfl rfl ?_
  refine X_iconst (pc := 1430) (4) dL_law_1430 (by decide) ?_
  refine X_iadd (pc := 1431) dL_law_1431 ?_
  refine X_top (show nI j + (4 : Int32) = nI (j + 4) from mI_add j 4) ?_
  refine X_sld (pc := 1432) hΦ (by first | exact h42 | exact g42) (show j + 4 < L by omega) (by omega) dL_law_1432 ?_
  refine X_aload_n (pc := 1433) (i := 0) dL_law_1433 rfl rfl ?_
  refine X_iload_n (pc := 1434) (i := 3) dL_law_1434 rfl rfl ?_
  refine X_iconst (pc := 1435) (5) dL_law_1435 (by decide) ?_
  refine X_iadd (pc := 1436) dL_law_1436 ?_
  refine X_top (show nI j + (5 : Int32) = nI (j + 5) from mI_add j 5) ?_
  refine X_sld (pc := 1437) hΦ (by first | exact h42 | exact g42) (show j + 5 < L by omega) (by omega) dL_law_1437 ?_
  refine X_callVc (pc := 1438) cv_L_165 h1 h.S.k1 rfl rfl rfl rfl (Nat.le_of_ble_eq_true rfl) ⟨by show d1 + 1 ≤ 2048; omega, Nat.le_trans (Nat.add_le_add_left (Nat.mul_le_mul_left 60 b1) _) (by decide)⟩ ⟨by show cu + c ≤ 600000; omega, by show su + s ≤ 7302250; omega⟩ dL_law_1438 ?_
  refine X_aload_n (pc := 1441) (i := 2) dL_law_1441 rfl rfl ?_
  refine X_aload_n (pc := 1442) (i := 0) dL_law_1442 rfl rfl ?_
  refine X_iload_n (pc := 1443) (i := 3) dL_law_1443 rfl rfl ?_
  refine X_iconst (pc := 1444) (1) dL_law_1444 (by decide) ?_
  refine X_iadd (pc := 1445) dL_law_1445 ?_
  refine X_top (show nI j + (1 : Int32) = nI (j + 1) from mI_add j 1) ?_
  refine X_sld (pc := 1446) hΦ (by first | exact h42 | exact g42) (show j + 1 < L by omega) (by omega) dL_law_1446 ?_
  refine X_aload_n (pc := 1447) (i := 0) dL_law_1447 rfl rfl ?_
  refine X_iload_n (pc := 1448) (i := 3) dL_law_1448 rfl rfl ?_
  refine X_iconst (pc := 1449) (2) dL_law_1449 (by decide) ?_
  refine X_iadd (pc := 1450) dL_law_1450 ?_
  refine X_top (show nI j + (2 : Int32) = nI (j + 2) from mI_add j 2) ?_
  refine X_sld (pc := 1451) hΦ (by first | exact h42 | exact g42) (show j + 2 < L by omega) (by omega) dL_law_1451 ?_
  refine X_aload_n (pc := 1452) (i := 0) dL_law_1452 rfl rfl ?_
  refine X_iload_n (pc := 1453) (i := 3) dL_law_1453 rfl rfl ?_
  refine X_iconst (pc := 1454) (3) dL_law_1454 (by decide) ?_
  refine X_iadd (pc := 1455) dL_law_1455 ?_
  refine X_top (show nI j + (3 : Int32) = nI (j + 3) from mI_add j 3) ?_
  refine X_sld (pc := 1456) hΦ (by first | exact h42 | exact g42) (show j + 3 < L by omega) (by omega) dL_law_1456 ?_
  refine X_aload_n (pc := 1457) (i := 0) dL_law_1457 rfl rfl ?_
  refine X_iload_n (pc := 1458) (i := 3) dL_law_1458 rfl rfl ?_
  refine X_iconst (pc := 1459) (4) dL_law_1459 (by decide) ?_
  refine X_iadd (pc := 1460) dL_law_1460 ?_
  refine X_top (show nI j + (4 : Int32) = nI (j + 4) from mI_add j 4) ?_
  refine X_sld (pc := 1461) hΦ (by first | exact h42 | exact g42) (show j + 4 < L by omega) (by omega) dL_law_1461 ?_
  refine X_aload_n (pc := 1462) (i := 0) dL_law_1462 rfl rfl ?_
  refine X_iload_n (pc := 1463) (i := 3) dL_law_1463 rfl rfl ?_
  refine X_iconst (pc := 1464) (5) dL_law_1464 (by decide) ?_
  refine X_iadd (pc := 1465) dL_law_1465 ?_
  refine X_top (show nI j + (5 : Int32) = nI (j + 5) from mI_add j 5) ?_
  refine X_sld (pc := 1466) hΦ (by first | exact h42 | exact g42) (show j + 5 < L by omega) (by omega) dL_law_1466 ?_
  refine X_callVc (pc := 1467) cv_L_169 h2 h3.R.1 rfl rfl rfl rfl (Nat.le_of_ble_eq_true rfl) ⟨by show d2 + 1 ≤ 2048; omega, Nat.le_trans (Nat.add_le_add_left (Nat.mul_le_mul_left 60 b2) _) (by decide)⟩ ⟨by show cu + c + 0 ≤ 600000; omega, by show su + s + 0 ≤ 7302250; omega⟩ dL_law_1467 ?_
  refine X_icmpeq (pc := 1470) 1616 dL_law_1470 (by decide) (fun hb1470 => ?_) (fun hb1470 => ?_)
  · exact K _ _ _ _ _ h3 g42 (by omega) (by omega)
  · exact absurd rfl hb1470
set_option maxRecDepth 20000 in
theorem lw_c37 (l : Launch) {Φ : am_D → Prop} {L : Nat} {xs : Nat → Int32} (hΦ : ∀ D, Φ D → D.2.2.2.2.1 = L ∧ D.2.2.2.2.2 = xs) (hL : L ≤ 384) {kd : am_kd} {rv : am_rv} {iv : am_iv} (h : REL kd rv iv iv) (h42 : kd (42, 0, 0) = some (.inr (8, 0))) (j : Nat) (hj : j + 6 ≤ L) (cu su : Nat) (hcu : cu + 1 ≤ 600000) (hsu : su + 3 ≤ 7302250) (K : ∀ kd rv iv cu' su', REL kd rv iv iv → kd (42, 0, 0) = some (.inr (8, 0)) → cu' ≤ cu + 1 → su' ≤ su + 3 → am_X Φ l mL_law room_1 lw_post 1616 [some (am_P (42, 0, 0)), some (am_P (1, 0, 0)), some (am_P (30, 0, 0)), some (am_I (nI j))] [] kd rv iv cu' su') : am_X Φ l mL_law room_1 lw_post 1475 [some (am_P (42, 0, 0)), some (am_P (1, 0, 0)), some (am_P (30, 0, 0)), some (am_I (nI j))] [] kd rv iv cu su := by
  obtain ⟨a, d1, d2, c, s, kd1, rv1, iv1, iv2, ⟨b1, b2, b3, b4⟩, hx, h1, h2, h3⟩ : CALL2 l kd rv iv mX11_film mX12_film [am_I (xs (j + 1))] := (call_film l h (xs (j + 1))).two
  have g42 : kd1 (42, 0, 0) = some (.inr (8, 0)) := (hx _ (by rw [h42]; exact fun z => by cases z)).trans h42
  refine X_aload_n (pc := 1475) (i := 1) dL_law_1475 rfl rfl ?_
  refine X_aload_n (pc := 1476) (i := 0) dL_law_1476 rfl rfl ?_
  refine X_iload_n (pc := 1477) (i := 3) dL_law_1477 rfl rfl ?_
  refine X_iconst (pc := 1478) (1) dL_law_1478 (by decide) ?_
  refine X_iadd (pc := 1479) dL_law_1479 ?_
  refine X_top (show nI j + (1 : Int32) = nI (j + 1) from mI_add j 1) ?_
  refine X_sld (pc := 1480) hΦ (by first | exact h42 | exact g42) (show j + 1 < L by omega) (by omega) dL_law_1480 ?_
  refine X_callVc (pc := 1481) cv_L_170 h1 h.S.k1 rfl rfl rfl rfl (Nat.le_of_ble_eq_true rfl) ⟨by show d1 + 1 ≤ 2048; omega, Nat.le_trans (Nat.add_le_add_left (Nat.mul_le_mul_left 60 b1) _) (by decide)⟩ ⟨by show cu + c ≤ 600000; omega, by show su + s ≤ 7302250; omega⟩ dL_law_1481 ?_
  refine X_aload_n (pc := 1484) (i := 2) dL_law_1484 rfl rfl ?_
  refine X_aload_n (pc := 1485) (i := 0) dL_law_1485 rfl rfl ?_
  refine X_iload_n (pc := 1486) (i := 3) dL_law_1486 rfl rfl ?_
  refine X_iconst (pc := 1487) (1) dL_law_1487 (by decide) ?_
  refine X_iadd (pc := 1488) dL_law_1488 ?_
  refine X_top (show nI j + (1 : Int32) = nI (j + 1) from mI_add j 1) ?_
  refine X_sld (pc := 1489) hΦ (by first | exact h42 | exact g42) (show j + 1 < L by omega) (by omega) dL_law_1489 ?_
  refine X_callVc (pc := 1490) cv_L_173 h2 h3.R.1 rfl rfl rfl rfl (Nat.le_of_ble_eq_true rfl) ⟨by show d2 + 1 ≤ 2048; omega, Nat.le_trans (Nat.add_le_add_left (Nat.mul_le_mul_left 60 b2) _) (by decide)⟩ ⟨by show cu + c + 0 ≤ 600000; omega, by show su + s + 0 ≤ 7302250; omega⟩ dL_law_1490 ?_
  refine X_icmpeq (pc := 1493) 1616 dL_law_1493 (by decide) (fun hb1493 => ?_) (fun hb1493 => ?_)
  · exact K _ _ _ _ _ h3 g42 (by omega) (by omega)
  · exact absurd rfl hb1493
set_option maxRecDepth 20000 in
theorem lw_c38 (l : Launch) {Φ : am_D → Prop} {L : Nat} {xs : Nat → Int32} (hΦ : ∀ D, Φ D → D.2.2.2.2.1 = L ∧ D.2.2.2.2.2 = xs) (hL : L ≤ 384) {kd : am_kd} {rv : am_rv} {iv : am_iv} (h : REL kd rv iv iv) (h42 : kd (42, 0, 0) = some (.inr (8, 0))) (j : Nat) (hj : j + 6 ≤ L) (cu su : Nat) (hcu : cu + 1 ≤ 600000) (hsu : su + 3 ≤ 7302250) (K : ∀ kd rv iv cu' su', REL kd rv iv iv → kd (42, 0, 0) = some (.inr (8, 0)) → cu' ≤ cu + 1 → su' ≤ su + 3 → am_X Φ l mL_law room_1 lw_post 1616 [some (am_P (42, 0, 0)), some (am_P (1, 0, 0)), some (am_P (30, 0, 0)), some (am_I (nI j))] [] kd rv iv cu' su') : am_X Φ l mL_law room_1 lw_post 1498 [some (am_P (42, 0, 0)), some (am_P (1, 0, 0)), some (am_P (30, 0, 0)), some (am_I (nI j))] [] kd rv iv cu su := by
  obtain ⟨a, d1, d2, c, s, kd1, rv1, iv1, iv2, ⟨b1, b2, b3, b4⟩, hx, h1, h2, h3⟩ : CALL2 l kd rv iv mX11_image mX12_image [] := (call_image l h ).two
  have g42 : kd1 (42, 0, 0) = some (.inr (8, 0)) := (hx _ (by rw [h42]; exact fun z => by cases z)).trans h42
  refine X_aload_n (pc := 1498) (i := 1) dL_law_1498 rfl rfl ?_
  refine X_callVc (pc := 1499) cv_L_174 h1 h.S.k1 rfl rfl rfl rfl (Nat.le_of_ble_eq_true rfl) ⟨by show d1 + 1 ≤ 2048; omega, Nat.le_trans (Nat.add_le_add_left (Nat.mul_le_mul_left 60 b1) _) (by decide)⟩ ⟨by show cu + c ≤ 600000; omega, by show su + s ≤ 7302250; omega⟩ dL_law_1499 ?_
  refine X_aload_n (pc := 1502) (i := 2) dL_law_1502 rfl rfl ?_
  refine X_callVc (pc := 1503) cv_L_177 h2 h3.R.1 rfl rfl rfl rfl (Nat.le_of_ble_eq_true rfl) ⟨by show d2 + 1 ≤ 2048; omega, Nat.le_trans (Nat.add_le_add_left (Nat.mul_le_mul_left 60 b2) _) (by decide)⟩ ⟨by show cu + c + 0 ≤ 600000; omega, by show su + s + 0 ≤ 7302250; omega⟩ dL_law_1503 ?_
  refine X_icmpeq (pc := 1506) 1616 dL_law_1506 (by decide) (fun hb1506 => ?_) (fun hb1506 => ?_)
  · exact K _ _ _ _ _ h3 g42 (by omega) (by omega)
  · exact absurd rfl hb1506
set_option maxRecDepth 20000 in
theorem lw_c39 (l : Launch) {Φ : am_D → Prop} {L : Nat} {xs : Nat → Int32} (hΦ : ∀ D, Φ D → D.2.2.2.2.1 = L ∧ D.2.2.2.2.2 = xs) (hL : L ≤ 384) {kd : am_kd} {rv : am_rv} {iv : am_iv} (h : REL kd rv iv iv) (h42 : kd (42, 0, 0) = some (.inr (8, 0))) (j : Nat) (hj : j + 6 ≤ L) (cu su : Nat) (hcu : cu + 1 ≤ 600000) (hsu : su + 3 ≤ 7302250) (K : ∀ kd rv iv cu' su', REL kd rv iv iv → kd (42, 0, 0) = some (.inr (8, 0)) → cu' ≤ cu + 1 → su' ≤ su + 3 → am_X Φ l mL_law room_1 lw_post 1616 [some (am_P (42, 0, 0)), some (am_P (1, 0, 0)), some (am_P (30, 0, 0)), some (am_I (nI j))] [] kd rv iv cu' su') : am_X Φ l mL_law room_1 lw_post 1511 [some (am_P (42, 0, 0)), some (am_P (1, 0, 0)), some (am_P (30, 0, 0)), some (am_I (nI j))] [] kd rv iv cu su := by
  obtain ⟨a, d1, d2, c, s, kd1, rv1, iv1, iv2, ⟨b1, b2, b3, b4⟩, hx, h1, h2, h3⟩ : CALL2 l kd rv iv mX11_restore mX12_restore [] := (call_restore l h ).two
  have g42 : kd1 (42, 0, 0) = some (.inr (8, 0)) := (hx _ (by rw [h42]; exact fun z => by cases z)).trans h42
  refine X_aload_n (pc := 1511) (i := 1) dL_law_1511 rfl rfl ?_
  refine X_callVc (pc := 1512) cv_L_178 h1 h.S.k1 rfl rfl rfl rfl (Nat.le_of_ble_eq_true rfl) ⟨by show d1 + 1 ≤ 2048; omega, Nat.le_trans (Nat.add_le_add_left (Nat.mul_le_mul_left 60 b1) _) (by decide)⟩ ⟨by show cu + c ≤ 600000; omega, by show su + s ≤ 7302250; omega⟩ dL_law_1512 ?_
  refine X_aload_n (pc := 1515) (i := 2) dL_law_1515 rfl rfl ?_
  refine X_callVc (pc := 1516) cv_L_181 h2 h3.R.1 rfl rfl rfl rfl (Nat.le_of_ble_eq_true rfl) ⟨by show d2 + 1 ≤ 2048; omega, Nat.le_trans (Nat.add_le_add_left (Nat.mul_le_mul_left 60 b2) _) (by decide)⟩ ⟨by show cu + c + 0 ≤ 600000; omega, by show su + s + 0 ≤ 7302250; omega⟩ dL_law_1516 ?_
  refine X_icmpeq (pc := 1519) 1616 dL_law_1519 (by decide) (fun hb1519 => ?_) (fun hb1519 => ?_)
  · exact K _ _ _ _ _ h3 g42 (by omega) (by omega)
  · exact absurd rfl hb1519
set_option maxRecDepth 20000 in
theorem lw_c40 (l : Launch) {Φ : am_D → Prop} {L : Nat} {xs : Nat → Int32} (hΦ : ∀ D, Φ D → D.2.2.2.2.1 = L ∧ D.2.2.2.2.2 = xs) (hL : L ≤ 384) {kd : am_kd} {rv : am_rv} {iv : am_iv} (h : REL kd rv iv iv) (h42 : kd (42, 0, 0) = some (.inr (8, 0))) (j : Nat) (hj : j + 6 ≤ L) (cu su : Nat) (hcu : cu + 1 ≤ 600000) (hsu : su + 3 ≤ 7302250) (K : ∀ kd rv iv cu' su', REL kd rv iv iv → kd (42, 0, 0) = some (.inr (8, 0)) → cu' ≤ cu + 1 → su' ≤ su + 3 → am_X Φ l mL_law room_1 lw_post 1616 [some (am_P (42, 0, 0)), some (am_P (1, 0, 0)), some (am_P (30, 0, 0)), some (am_I (nI j))] [] kd rv iv cu' su') : am_X Φ l mL_law room_1 lw_post 1524 [some (am_P (42, 0, 0)), some (am_P (1, 0, 0)), some (am_P (30, 0, 0)), some (am_I (nI j))] [] kd rv iv cu su := by
  obtain ⟨a, d1, d2, c, s, kd1, rv1, iv1, iv2, ⟨b1, b2, b3, b4⟩, hx, h1, h2, h3⟩ : CALL2 l kd rv iv mX11_tell mX12_tell [am_I (xs (j + 1))] := (call_tell l h (xs (j + 1))).two
  have g42 : kd1 (42, 0, 0) = some (.inr (8, 0)) := (hx _ (by rw [h42]; exact fun z => by cases z)).trans h42
  refine X_aload_n (pc := 1524) (i := 1) dL_law_1524 rfl rfl ?_
  refine X_aload_n (pc := 1525) (i := 0) dL_law_1525 rfl rfl ?_
  refine X_iload_n (pc := 1526) (i := 3) dL_law_1526 rfl rfl ?_
  refine X_iconst (pc := 1527) (1) dL_law_1527 (by decide) ?_
  refine X_iadd (pc := 1528) dL_law_1528 ?_
  refine X_top (show nI j + (1 : Int32) = nI (j + 1) from mI_add j 1) ?_
  refine X_sld (pc := 1529) hΦ (by first | exact h42 | exact g42) (show j + 1 < L by omega) (by omega) dL_law_1529 ?_
  refine X_callVc (pc := 1530) cv_L_182 h1 h.S.k1 rfl rfl rfl rfl (Nat.le_of_ble_eq_true rfl) ⟨by show d1 + 1 ≤ 2048; omega, Nat.le_trans (Nat.add_le_add_left (Nat.mul_le_mul_left 60 b1) _) (by decide)⟩ ⟨by show cu + c ≤ 600000; omega, by show su + s ≤ 7302250; omega⟩ dL_law_1530 ?_
  refine X_aload_n (pc := 1533) (i := 2) dL_law_1533 rfl rfl ?_
  refine X_aload_n (pc := 1534) (i := 0) dL_law_1534 rfl rfl ?_
  refine X_iload_n (pc := 1535) (i := 3) dL_law_1535 rfl rfl ?_
  refine X_iconst (pc := 1536) (1) dL_law_1536 (by decide) ?_
  refine X_iadd (pc := 1537) dL_law_1537 ?_
  refine X_top (show nI j + (1 : Int32) = nI (j + 1) from mI_add j 1) ?_
  refine X_sld (pc := 1538) hΦ (by first | exact h42 | exact g42) (show j + 1 < L by omega) (by omega) dL_law_1538 ?_
  refine X_callVc (pc := 1539) cv_L_185 h2 h3.R.1 rfl rfl rfl rfl (Nat.le_of_ble_eq_true rfl) ⟨by show d2 + 1 ≤ 2048; omega, Nat.le_trans (Nat.add_le_add_left (Nat.mul_le_mul_left 60 b2) _) (by decide)⟩ ⟨by show cu + c + 0 ≤ 600000; omega, by show su + s + 0 ≤ 7302250; omega⟩ dL_law_1539 ?_
  refine X_icmpeq (pc := 1542) 1616 dL_law_1542 (by decide) (fun hb1542 => ?_) (fun hb1542 => ?_)
  · exact K _ _ _ _ _ h3 g42 (by omega) (by omega)
  · exact absurd rfl hb1542
set_option maxRecDepth 20000 in
theorem lw_c41 (l : Launch) {Φ : am_D → Prop} {L : Nat} {xs : Nat → Int32} (hΦ : ∀ D, Φ D → D.2.2.2.2.1 = L ∧ D.2.2.2.2.2 = xs) (hL : L ≤ 384) {kd : am_kd} {rv : am_rv} {iv : am_iv} (h : REL kd rv iv iv) (h42 : kd (42, 0, 0) = some (.inr (8, 0))) (j : Nat) (hj : j + 6 ≤ L) (cu su : Nat) (hcu : cu + 1 ≤ 600000) (hsu : su + 3 ≤ 7302250) (K : ∀ kd rv iv cu' su', REL kd rv iv iv → kd (42, 0, 0) = some (.inr (8, 0)) → cu' ≤ cu + 1 → su' ≤ su + 3 → am_X Φ l mL_law room_1 lw_post 1616 [some (am_P (42, 0, 0)), some (am_P (1, 0, 0)), some (am_P (30, 0, 0)), some (am_I (nI j))] [] kd rv iv cu' su') : am_X Φ l mL_law room_1 lw_post 1547 [some (am_P (42, 0, 0)), some (am_P (1, 0, 0)), some (am_P (30, 0, 0)), some (am_I (nI j))] [] kd rv iv cu su := by
  obtain ⟨a, d1, d2, c, s, kd1, rv1, iv1, iv2, ⟨b1, b2, b3, b4⟩, hx, h1, h2, h3⟩ : CALL2 l kd rv iv mX11_check mX12_check [am_I (xs (j + 1))] := (call_check l h (xs (j + 1))).two
  have g42 : kd1 (42, 0, 0) = some (.inr (8, 0)) := (hx _ (by rw [h42]; exact fun z => by cases z)).trans h42
  refine X_aload_n (pc := 1547) (i := 1) dL_law_1547 rfl rfl ?_
  refine X_aload_n (pc := 1548) (i := 0) dL_law_1548 rfl rfl ?_
  refine X_iload_n (pc := 1549) (i := 3) dL_law_1549 rfl rfl ?_
  refine X_iconst (pc := 1550) (1) dL_law_1550 (by decide) ?_
  refine X_iadd (pc := 1551) dL_law_1551 ?_
  refine X_top (show nI j + (1 : Int32) = nI (j + 1) from mI_add j 1) ?_
  refine X_sld (pc := 1552) hΦ (by first | exact h42 | exact g42) (show j + 1 < L by omega) (by omega) dL_law_1552 ?_
  refine X_callVc (pc := 1553) cv_L_186 h1 h.S.k1 rfl rfl rfl rfl (Nat.le_of_ble_eq_true rfl) ⟨by show d1 + 1 ≤ 2048; omega, Nat.le_trans (Nat.add_le_add_left (Nat.mul_le_mul_left 60 b1) _) (by decide)⟩ ⟨by show cu + c ≤ 600000; omega, by show su + s ≤ 7302250; omega⟩ dL_law_1553 ?_
  refine X_aload_n (pc := 1556) (i := 2) dL_law_1556 rfl rfl ?_
  refine X_aload_n (pc := 1557) (i := 0) dL_law_1557 rfl rfl ?_
  refine X_iload_n (pc := 1558) (i := 3) dL_law_1558 rfl rfl ?_
  refine X_iconst (pc := 1559) (1) dL_law_1559 (by decide) ?_
  refine X_iadd (pc := 1560) dL_law_1560 ?_
  refine X_top (show nI j + (1 : Int32) = nI (j + 1) from mI_add j 1) ?_
  refine X_sld (pc := 1561) hΦ (by first | exact h42 | exact g42) (show j + 1 < L by omega) (by omega) dL_law_1561 ?_
  refine X_callVc (pc := 1562) cv_L_189 h2 h3.R.1 rfl rfl rfl rfl (Nat.le_of_ble_eq_true rfl) ⟨by show d2 + 1 ≤ 2048; omega, Nat.le_trans (Nat.add_le_add_left (Nat.mul_le_mul_left 60 b2) _) (by decide)⟩ ⟨by show cu + c + 0 ≤ 600000; omega, by show su + s + 0 ≤ 7302250; omega⟩ dL_law_1562 ?_
  refine X_icmpeq (pc := 1565) 1616 dL_law_1565 (by decide) (fun hb1565 => ?_) (fun hb1565 => ?_)
  · exact K _ _ _ _ _ h3 g42 (by omega) (by omega)
  · exact absurd rfl hb1565
set_option maxRecDepth 20000 in
theorem lw_c42 (l : Launch) {Φ : am_D → Prop} {L : Nat} {xs : Nat → Int32} (hΦ : ∀ D, Φ D → D.2.2.2.2.1 = L ∧ D.2.2.2.2.2 = xs) (hL : L ≤ 384) {kd : am_kd} {rv : am_rv} {iv : am_iv} (h : REL kd rv iv iv) (h42 : kd (42, 0, 0) = some (.inr (8, 0))) (j : Nat) (hj : j + 6 ≤ L) (cu su : Nat) (hcu : cu + 1 ≤ 600000) (hsu : su + 3 ≤ 7302250) (K : ∀ kd rv iv cu' su', REL kd rv iv iv → kd (42, 0, 0) = some (.inr (8, 0)) → cu' ≤ cu + 1 → su' ≤ su + 3 → am_X Φ l mL_law room_1 lw_post 1616 [some (am_P (42, 0, 0)), some (am_P (1, 0, 0)), some (am_P (30, 0, 0)), some (am_I (nI j))] [] kd rv iv cu' su') : am_X Φ l mL_law room_1 lw_post 1570 [some (am_P (42, 0, 0)), some (am_P (1, 0, 0)), some (am_P (30, 0, 0)), some (am_I (nI j))] [] kd rv iv cu su := by
  obtain ⟨a, d1, d2, c, s, kd1, rv1, iv1, iv2, ⟨b1, b2, b3, b4⟩, hx, h1, h2, h3⟩ : CALL2 l kd rv iv mX11_count mX12_count [am_I (xs (j + 1))] := (call_count l h (xs (j + 1))).two
  have g42 : kd1 (42, 0, 0) = some (.inr (8, 0)) := (hx _ (by rw [h42]; exact fun z => by cases z)).trans h42
  refine X_aload_n (pc := 1570) (i := 1) dL_law_1570 rfl rfl ?_
  refine X_aload_n (pc := 1571) (i := 0) dL_law_1571 rfl rfl ?_
  refine X_iload_n (pc := 1572) (i := 3) dL_law_1572 rfl rfl ?_
  refine X_iconst (pc := 1573) (1) dL_law_1573 (by decide) ?_
  refine X_iadd (pc := 1574) dL_law_1574 ?_
  refine X_top (show nI j + (1 : Int32) = nI (j + 1) from mI_add j 1) ?_
  refine X_sld (pc := 1575) hΦ (by first | exact h42 | exact g42) (show j + 1 < L by omega) (by omega) dL_law_1575 ?_
  refine X_callVc (pc := 1576) cv_L_190 h1 h.S.k1 rfl rfl rfl rfl (Nat.le_of_ble_eq_true rfl) ⟨by show d1 + 1 ≤ 2048; omega, Nat.le_trans (Nat.add_le_add_left (Nat.mul_le_mul_left 60 b1) _) (by decide)⟩ ⟨by show cu + c ≤ 600000; omega, by show su + s ≤ 7302250; omega⟩ dL_law_1576 ?_
  refine X_aload_n (pc := 1579) (i := 2) dL_law_1579 rfl rfl ?_
  refine X_aload_n (pc := 1580) (i := 0) dL_law_1580 rfl rfl ?_
  refine X_iload_n (pc := 1581) (i := 3) dL_law_1581 rfl rfl ?_
  refine X_iconst (pc := 1582) (1) dL_law_1582 (by decide) ?_
  refine X_iadd (pc := 1583) dL_law_1583 ?_
  refine X_top (show nI j + (1 : Int32) = nI (j + 1) from mI_add j 1) ?_
  refine X_sld (pc := 1584) hΦ (by first | exact h42 | exact g42) (show j + 1 < L by omega) (by omega) dL_law_1584 ?_
  refine X_callVc (pc := 1585) cv_L_193 h2 h3.R.1 rfl rfl rfl rfl (Nat.le_of_ble_eq_true rfl) ⟨by show d2 + 1 ≤ 2048; omega, Nat.le_trans (Nat.add_le_add_left (Nat.mul_le_mul_left 60 b2) _) (by decide)⟩ ⟨by show cu + c + 0 ≤ 600000; omega, by show su + s + 0 ≤ 7302250; omega⟩ dL_law_1585 ?_
  refine X_icmpeq (pc := 1588) 1616 dL_law_1588 (by decide) (fun hb1588 => ?_) (fun hb1588 => ?_)
  · exact K _ _ _ _ _ h3 g42 (by omega) (by omega)
  · exact absurd rfl hb1588
set_option maxRecDepth 20000 in
theorem lw_c43 (l : Launch) {Φ : am_D → Prop} {L : Nat} {xs : Nat → Int32} (hΦ : ∀ D, Φ D → D.2.2.2.2.1 = L ∧ D.2.2.2.2.2 = xs) (hL : L ≤ 384) {kd : am_kd} {rv : am_rv} {iv : am_iv} (h : REL kd rv iv iv) (h42 : kd (42, 0, 0) = some (.inr (8, 0))) (j : Nat) (hj : j + 6 ≤ L) (cu su : Nat) (hcu : cu + 1 ≤ 600000) (hsu : su + 3 ≤ 7302250) (K : ∀ kd rv iv cu' su', REL kd rv iv iv → kd (42, 0, 0) = some (.inr (8, 0)) → cu' ≤ cu + 1 → su' ≤ su + 3 → am_X Φ l mL_law room_1 lw_post 1616 [some (am_P (42, 0, 0)), some (am_P (1, 0, 0)), some (am_P (30, 0, 0)), some (am_I (nI j))] [] kd rv iv cu' su') : am_X Φ l mL_law room_1 lw_post 1593 [some (am_P (42, 0, 0)), some (am_P (1, 0, 0)), some (am_P (30, 0, 0)), some (am_I (nI j))] [] kd rv iv cu su := by
  obtain ⟨a, d1, d2, c, s, kd1, rv1, iv1, iv2, ⟨b1, b2, b3, b4⟩, hx, h1, h2, h3⟩ : CALL2 l kd rv iv mX11_told mX12_told [am_I (xs (j + 1))] := (call_told l h (xs (j + 1))).two
  have g42 : kd1 (42, 0, 0) = some (.inr (8, 0)) := (hx _ (by rw [h42]; exact fun z => by cases z)).trans h42
  refine X_aload_n (pc := 1593) (i := 1) dL_law_1593 rfl rfl ?_
  refine X_aload_n (pc := 1594) (i := 0) dL_law_1594 rfl rfl ?_
  refine X_iload_n (pc := 1595) (i := 3) dL_law_1595 rfl rfl ?_
  refine X_iconst (pc := 1596) (1) dL_law_1596 (by decide) ?_
  refine X_iadd (pc := 1597) dL_law_1597 ?_
  refine X_top (show nI j + (1 : Int32) = nI (j + 1) from mI_add j 1) ?_
  refine X_sld (pc := 1598) hΦ (by first | exact h42 | exact g42) (show j + 1 < L by omega) (by omega) dL_law_1598 ?_
  refine X_callVc (pc := 1599) cv_L_194 h1 h.S.k1 rfl rfl rfl rfl (Nat.le_of_ble_eq_true rfl) ⟨by show d1 + 1 ≤ 2048; omega, Nat.le_trans (Nat.add_le_add_left (Nat.mul_le_mul_left 60 b1) _) (by decide)⟩ ⟨by show cu + c ≤ 600000; omega, by show su + s ≤ 7302250; omega⟩ dL_law_1599 ?_
  refine X_aload_n (pc := 1602) (i := 2) dL_law_1602 rfl rfl ?_
  refine X_aload_n (pc := 1603) (i := 0) dL_law_1603 rfl rfl ?_
  refine X_iload_n (pc := 1604) (i := 3) dL_law_1604 rfl rfl ?_
  refine X_iconst (pc := 1605) (1) dL_law_1605 (by decide) ?_
  refine X_iadd (pc := 1606) dL_law_1606 ?_
  refine X_top (show nI j + (1 : Int32) = nI (j + 1) from mI_add j 1) ?_
  refine X_sld (pc := 1607) hΦ (by first | exact h42 | exact g42) (show j + 1 < L by omega) (by omega) dL_law_1607 ?_
  refine X_callVc (pc := 1608) cv_L_197 h2 h3.R.1 rfl rfl rfl rfl (Nat.le_of_ble_eq_true rfl) ⟨by show d2 + 1 ≤ 2048; omega, Nat.le_trans (Nat.add_le_add_left (Nat.mul_le_mul_left 60 b2) _) (by decide)⟩ ⟨by show cu + c + 0 ≤ 600000; omega, by show su + s + 0 ≤ 7302250; omega⟩ dL_law_1608 ?_
  refine X_icmpeq (pc := 1611) 1616 dL_law_1611 (by decide) (fun hb1611 => ?_) (fun hb1611 => ?_)
  · exact K _ _ _ _ _ h3 g42 (by omega) (by omega)
  · exact absurd rfl hb1611
