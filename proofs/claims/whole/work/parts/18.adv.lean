theorem am_ui_f {iv : am_iv} {n n' : am_N} {k : Nat} {v : Int32} (h : n' ≠ n) : am_ui iv n k v n' = iv n' := funext fun _ => am_ui_o h
theorem gv_heap_f {i u z : Nat} {a b c : Int32} {iv : am_iv} {n : am_N} (h1 : n.1 ≠ 11) (h2 : n.1 ≠ 9) : gv_heap i u z a b c iv n = iv n := funext fun k => gv_heap_o (fun h => h.elim h1 (fun h => h2 h.1))
section AV
variable {l : Launch} {M : am_M} {R : Room} {post : am_Post} {pc : Nat} {ls : List (Option am_V)} {st : List am_V} {kd : am_kd} {rv : am_rv} {iv : am_iv} {cu su : Nat}
theorem V_lifts_X4 {n : am_N} {K : Nat} (hK : K < 7) (hk : kd n = some (.inl (lw_ci K))) {f : am_N} {w : Int32} (hf : kd f = some (.inl 3)) (hM : M.1.cls = RX4) (hw : am_wt st ≤ 8) (hroom : 3 + 1 ≤ R.frames ∧ 8 + (3 + 11) + 60 * 3 ≤ R.locals) (hcs : cu ≤ R.cells ∧ su ≤ R.slots) (hd : decode M.2.1 pc = .ok (.invokevirtual 165, 3)) (k : am_W l M R post (pc + 3) ls (am_I (lw_lifts K (iv n 2) (iv f) w) :: st) kd rv iv cu su) : am_W l M R post pc ls (am_I w :: am_P f :: am_P n :: st) kd rv iv cu su := by
  match K, hK, hk, k with
  | 0, _, hk, k => exact A_callU1 (r := (RX2, TX2, 3)) (by rw [hM]; exact cu_X4_165_2) (s_l0_2 l n hk f hf w) hk rfl rfl rfl hw ⟨Nat.le_trans (Nat.le_of_ble_eq_true rfl) hroom.1, Nat.le_trans (Nat.le_of_ble_eq_true rfl) hroom.2⟩ hcs hd k
  | 1, _, hk, k => exact A_callU1 (r := (RX8, TX8, 3)) (by rw [hM]; exact cu_X4_165_8) (s_l0_8 l n hk f hf w) hk rfl rfl rfl hw ⟨Nat.le_trans (Nat.le_of_ble_eq_true rfl) hroom.1, Nat.le_trans (Nat.le_of_ble_eq_true rfl) hroom.2⟩ hcs hd k
  | 2, _, hk, k => exact A_callU1 (r := (RX1, TX1, 3)) (by rw [hM]; exact cu_X4_165_1) (s_l0_1 l n hk f hf w) hk rfl rfl rfl hw ⟨Nat.le_trans (Nat.le_of_ble_eq_true rfl) hroom.1, Nat.le_trans (Nat.le_of_ble_eq_true rfl) hroom.2⟩ hcs hd k
  | 3, _, hk, k => exact A_callU1 (r := (RX0, TX0, 3)) (by rw [hM]; exact cu_X4_165_0) (s_l0_0 l n hk f hf w) hk rfl rfl rfl hw ⟨Nat.le_trans (Nat.le_of_ble_eq_true rfl) hroom.1, Nat.le_trans (Nat.le_of_ble_eq_true rfl) hroom.2⟩ hcs hd k
  | 4, _, hk, k => exact A_callU1 (r := (RX9, TX9, 3)) (by rw [hM]; exact cu_X4_165_9) (s_l0_9 l n hk f hf w) hk rfl rfl rfl hw ⟨Nat.le_trans (Nat.le_of_ble_eq_true rfl) hroom.1, Nat.le_trans (Nat.le_of_ble_eq_true rfl) hroom.2⟩ hcs hd k
  | 5, _, hk, k => exact A_callU1 (r := (RX10, TX10, 3)) (by rw [hM]; exact cu_X4_165_10) (s_l0_10 l n hk f hf w) hk rfl rfl rfl hw ⟨Nat.le_trans (Nat.le_of_ble_eq_true rfl) hroom.1, Nat.le_trans (Nat.le_of_ble_eq_true rfl) hroom.2⟩ hcs hd k
  | 6, _, hk, k => exact A_callU1 (r := (RX6, TX6, 3)) (by rw [hM]; exact cu_X4_165_6) (s_l6 l n hk f hf w) hk rfl rfl rfl hw ⟨Nat.le_trans (Nat.le_of_ble_eq_true rfl) hroom.1, Nat.le_trans (Nat.le_of_ble_eq_true rfl) hroom.2⟩ hcs hd k
theorem V_spreads_X4 {n : am_N} {K : Nat} (hK : K < 7) (hk : kd n = some (.inl (lw_ci K))) {f : am_N} {w : Int32} (hf : kd f = some (.inl 3)) (hM : M.1.cls = RX4) (hw : am_wt st ≤ 8) (hroom : 2 + 1 ≤ R.frames ∧ 8 + (4 + 11) + 60 * 2 ≤ R.locals) (hcs : cu ≤ R.cells ∧ su ≤ R.slots) (hd : decode M.2.1 pc = .ok (.invokevirtual 173, 3)) (k : am_W l M R post (pc + 3) ls (am_I (lw_spreads K (iv n 2) (iv f) w) :: st) kd rv iv cu su) : am_W l M R post pc ls (am_I w :: am_P f :: am_P n :: st) kd rv iv cu su := by
  match K, hK, hk, k with
  | 0, _, hk, k => exact A_callU1 (r := (RX2, TX2, 3)) (by rw [hM]; exact cu_X4_173_2) (s_s0_2 l n hk f hf w) hk rfl rfl rfl hw ⟨Nat.le_trans (Nat.le_of_ble_eq_true rfl) hroom.1, Nat.le_trans (Nat.le_of_ble_eq_true rfl) hroom.2⟩ hcs hd k
  | 1, _, hk, k => exact A_callU1 (r := (RX8, TX8, 3)) (by rw [hM]; exact cu_X4_173_8) (s_s0_8 l n hk f hf w) hk rfl rfl rfl hw ⟨Nat.le_trans (Nat.le_of_ble_eq_true rfl) hroom.1, Nat.le_trans (Nat.le_of_ble_eq_true rfl) hroom.2⟩ hcs hd k
  | 2, _, hk, k => exact A_callU1 (r := (RX1, TX1, 3)) (by rw [hM]; exact cu_X4_173_1) (s_s0_1 l n hk f hf w) hk rfl rfl rfl hw ⟨Nat.le_trans (Nat.le_of_ble_eq_true rfl) hroom.1, Nat.le_trans (Nat.le_of_ble_eq_true rfl) hroom.2⟩ hcs hd k
  | 3, _, hk, k => exact A_callU1 (r := (RX0, TX0, 3)) (by rw [hM]; exact cu_X4_173_0) (s_s0_0 l n hk f hf w) hk rfl rfl rfl hw ⟨Nat.le_trans (Nat.le_of_ble_eq_true rfl) hroom.1, Nat.le_trans (Nat.le_of_ble_eq_true rfl) hroom.2⟩ hcs hd k
  | 4, _, hk, k => exact A_callU1 (r := (RX9, TX9, 3)) (by rw [hM]; exact cu_X4_173_9) (s_s0_9 l n hk f hf w) hk rfl rfl rfl hw ⟨Nat.le_trans (Nat.le_of_ble_eq_true rfl) hroom.1, Nat.le_trans (Nat.le_of_ble_eq_true rfl) hroom.2⟩ hcs hd k
  | 5, _, hk, k => exact A_callU1 (r := (RX10, TX10, 3)) (by rw [hM]; exact cu_X4_173_10) (s_s5_10 l n hk f hf w) hk rfl rfl rfl hw ⟨Nat.le_trans (Nat.le_of_ble_eq_true rfl) hroom.1, Nat.le_trans (Nat.le_of_ble_eq_true rfl) hroom.2⟩ hcs hd k
  | 6, _, hk, k => exact A_callU1 (r := (RX6, TX6, 3)) (by rw [hM]; exact cu_X4_173_6) (s_s6 l n hk f hf w) hk rfl rfl rfl hw ⟨Nat.le_trans (Nat.le_of_ble_eq_true rfl) hroom.1, Nat.le_trans (Nat.le_of_ble_eq_true rfl) hroom.2⟩ hcs hd k
theorem V_widens_X4 {n : am_N} {K : Nat} (hK : K < 7) (hk : kd n = some (.inl (lw_ci K))) {f g : am_N} (hf : kd f = some (.inl 3)) (hg : kd g = some (.inl 3)) (hq : ¬ rg_gap (iv f) (iv g) + 10 = 0) (hM : M.1.cls = RX4) (hw : am_wt st ≤ 8) (hroom : 4 + 1 ≤ R.frames ∧ 8 + (4 + 11) + 60 * 4 ≤ R.locals) (hcs : cu ≤ R.cells ∧ su ≤ R.slots) (hd : decode M.2.1 pc = .ok (.invokevirtual 180, 3)) (k : am_W l M R post (pc + 3) ls (am_I (lw_widens K (iv n 2) (iv f) (iv g)) :: st) kd rv iv cu su) : am_W l M R post pc ls (am_P g :: am_P f :: am_P n :: st) kd rv iv cu su := by
  match K, hK, hk, k with
  | 0, _, hk, k => exact A_callU1 (r := (RX2, TX2, 3)) (by rw [hM]; exact cu_X4_180_2) (s_w0_2 l n hk f g hf hg hq) hk rfl rfl rfl hw ⟨Nat.le_trans (Nat.le_of_ble_eq_true rfl) hroom.1, Nat.le_trans (Nat.le_of_ble_eq_true rfl) hroom.2⟩ hcs hd k
  | 1, _, hk, k => exact A_callU1 (r := (RX8, TX8, 3)) (by rw [hM]; exact cu_X4_180_8) (s_w1 l n hk f g hf hg hq) hk rfl rfl rfl hw ⟨Nat.le_trans (Nat.le_of_ble_eq_true rfl) hroom.1, Nat.le_trans (Nat.le_of_ble_eq_true rfl) hroom.2⟩ hcs hd k
  | 2, _, hk, k => exact A_callU1 (r := (RX1, TX1, 3)) (by rw [hM]; exact cu_X4_180_1) (s_w0_1 l n hk f g hf hg hq) hk rfl rfl rfl hw ⟨Nat.le_trans (Nat.le_of_ble_eq_true rfl) hroom.1, Nat.le_trans (Nat.le_of_ble_eq_true rfl) hroom.2⟩ hcs hd k
  | 3, _, hk, k => exact A_callU1 (r := (RX0, TX0, 3)) (by rw [hM]; exact cu_X4_180_0) (s_w3_0 l n hk f g hf hg hq) hk rfl rfl rfl hw ⟨Nat.le_trans (Nat.le_of_ble_eq_true rfl) hroom.1, Nat.le_trans (Nat.le_of_ble_eq_true rfl) hroom.2⟩ hcs hd k
  | 4, _, hk, k => exact A_callU1 (r := (RX9, TX9, 3)) (by rw [hM]; exact cu_X4_180_9) (s_w3_9 l n hk f g hf hg hq) hk rfl rfl rfl hw ⟨Nat.le_trans (Nat.le_of_ble_eq_true rfl) hroom.1, Nat.le_trans (Nat.le_of_ble_eq_true rfl) hroom.2⟩ hcs hd k
  | 5, _, hk, k => exact A_callU1 (r := (RX10, TX10, 3)) (by rw [hM]; exact cu_X4_180_10) (s_w5_10 l n hk f g) hk rfl rfl rfl hw ⟨Nat.le_trans (Nat.le_of_ble_eq_true rfl) hroom.1, Nat.le_trans (Nat.le_of_ble_eq_true rfl) hroom.2⟩ hcs hd k
  | 6, _, hk, k => exact A_callU1 (r := (RX6, TX6, 3)) (by rw [hM]; exact cu_X4_180_6) (s_w5_6 l n hk f g) hk rfl rfl rfl hw ⟨Nat.le_trans (Nat.le_of_ble_eq_true rfl) hroom.1, Nat.le_trans (Nat.le_of_ble_eq_true rfl) hroom.2⟩ hcs hd k
theorem V_endsBy_X4 {n : am_N} {K : Nat} (hK : K < 7) (hk : kd n = some (.inl (lw_ci K))) {f g : am_N} (hf : kd f = some (.inl 3)) (hg : kd g = some (.inl 3)) (hM : M.1.cls = RX4) (hw : am_wt st ≤ 8) (hroom : 2 + 1 ≤ R.frames ∧ 8 + (3 + 11) + 60 * 2 ≤ R.locals) (hcs : cu ≤ R.cells ∧ su ≤ R.slots) (hd : decode M.2.1 pc = .ok (.invokevirtual 193, 3)) (k : am_W l M R post (pc + 3) ls (am_I (rg_bit (lw_ends K (iv n 2) (iv f) (iv g))) :: st) kd rv iv cu su) : am_W l M R post pc ls (am_P g :: am_P f :: am_P n :: st) kd rv iv cu su := by
  match K, hK, hk, k with
  | 0, _, hk, k => exact A_callU1 (r := (RX2, TX2, 3)) (by rw [hM]; exact cu_X4_193_2) (s_e0_2 l n hk f g hf hg) hk rfl rfl rfl hw ⟨Nat.le_trans (Nat.le_of_ble_eq_true rfl) hroom.1, Nat.le_trans (Nat.le_of_ble_eq_true rfl) hroom.2⟩ hcs hd k
  | 1, _, hk, k => exact A_callU1 (r := (RX8, TX8, 3)) (by rw [hM]; exact cu_X4_193_8) (s_e0_8 l n hk f g hf hg) hk rfl rfl rfl hw ⟨Nat.le_trans (Nat.le_of_ble_eq_true rfl) hroom.1, Nat.le_trans (Nat.le_of_ble_eq_true rfl) hroom.2⟩ hcs hd k
  | 2, _, hk, k => exact A_callU1 (r := (RX1, TX1, 3)) (by rw [hM]; exact cu_X4_193_1) (s_e2 l n hk f g hf hg) hk rfl rfl rfl hw ⟨Nat.le_trans (Nat.le_of_ble_eq_true rfl) hroom.1, Nat.le_trans (Nat.le_of_ble_eq_true rfl) hroom.2⟩ hcs hd k
  | 3, _, hk, k => exact A_callU1 (r := (RX0, TX0, 3)) (by rw [hM]; exact cu_X4_193_0) (s_e0_0 l n hk f g hf hg) hk rfl rfl rfl hw ⟨Nat.le_trans (Nat.le_of_ble_eq_true rfl) hroom.1, Nat.le_trans (Nat.le_of_ble_eq_true rfl) hroom.2⟩ hcs hd k
  | 4, _, hk, k => exact A_callU1 (r := (RX9, TX9, 3)) (by rw [hM]; exact cu_X4_193_9) (s_e4 l n hk f g hf hg) hk rfl rfl rfl hw ⟨Nat.le_trans (Nat.le_of_ble_eq_true rfl) hroom.1, Nat.le_trans (Nat.le_of_ble_eq_true rfl) hroom.2⟩ hcs hd k
  | 5, _, hk, k => exact A_callU1 (r := (RX10, TX10, 3)) (by rw [hM]; exact cu_X4_193_10) (s_e0_10 l n hk f g hf hg) hk rfl rfl rfl hw ⟨Nat.le_trans (Nat.le_of_ble_eq_true rfl) hroom.1, Nat.le_trans (Nat.le_of_ble_eq_true rfl) hroom.2⟩ hcs hd k
  | 6, _, hk, k => exact A_callU1 (r := (RX6, TX6, 3)) (by rw [hM]; exact cu_X4_193_6) (s_e0_6 l n hk f g hf hg) hk rfl rfl rfl hw ⟨Nat.le_trans (Nat.le_of_ble_eq_true rfl) hroom.1, Nat.le_trans (Nat.le_of_ble_eq_true rfl) hroom.2⟩ hcs hd k
theorem V_spreads_X11 {n : am_N} {K : Nat} (hK : K < 7) (hk : kd n = some (.inl (lw_ci K))) {f : am_N} {w : Int32} (hf : kd f = some (.inl 3)) (hM : M.1.cls = RX11) (hw : am_wt st ≤ 8) (hroom : 2 + 1 ≤ R.frames ∧ 8 + (4 + 11) + 60 * 2 ≤ R.locals) (hcs : cu ≤ R.cells ∧ su ≤ R.slots) (hd : decode M.2.1 pc = .ok (.invokevirtual 135, 3)) (k : am_W l M R post (pc + 3) ls (am_I (lw_spreads K (iv n 2) (iv f) w) :: st) kd rv iv cu su) : am_W l M R post pc ls (am_I w :: am_P f :: am_P n :: st) kd rv iv cu su := by
  match K, hK, hk, k with
  | 0, _, hk, k => exact A_callU1 (r := (RX2, TX2, 3)) (by rw [hM]; exact cu_X11_135_2) (s_s0_2 l n hk f hf w) hk rfl rfl rfl hw ⟨Nat.le_trans (Nat.le_of_ble_eq_true rfl) hroom.1, Nat.le_trans (Nat.le_of_ble_eq_true rfl) hroom.2⟩ hcs hd k
  | 1, _, hk, k => exact A_callU1 (r := (RX8, TX8, 3)) (by rw [hM]; exact cu_X11_135_8) (s_s0_8 l n hk f hf w) hk rfl rfl rfl hw ⟨Nat.le_trans (Nat.le_of_ble_eq_true rfl) hroom.1, Nat.le_trans (Nat.le_of_ble_eq_true rfl) hroom.2⟩ hcs hd k
  | 2, _, hk, k => exact A_callU1 (r := (RX1, TX1, 3)) (by rw [hM]; exact cu_X11_135_1) (s_s0_1 l n hk f hf w) hk rfl rfl rfl hw ⟨Nat.le_trans (Nat.le_of_ble_eq_true rfl) hroom.1, Nat.le_trans (Nat.le_of_ble_eq_true rfl) hroom.2⟩ hcs hd k
  | 3, _, hk, k => exact A_callU1 (r := (RX0, TX0, 3)) (by rw [hM]; exact cu_X11_135_0) (s_s0_0 l n hk f hf w) hk rfl rfl rfl hw ⟨Nat.le_trans (Nat.le_of_ble_eq_true rfl) hroom.1, Nat.le_trans (Nat.le_of_ble_eq_true rfl) hroom.2⟩ hcs hd k
  | 4, _, hk, k => exact A_callU1 (r := (RX9, TX9, 3)) (by rw [hM]; exact cu_X11_135_9) (s_s0_9 l n hk f hf w) hk rfl rfl rfl hw ⟨Nat.le_trans (Nat.le_of_ble_eq_true rfl) hroom.1, Nat.le_trans (Nat.le_of_ble_eq_true rfl) hroom.2⟩ hcs hd k
  | 5, _, hk, k => exact A_callU1 (r := (RX10, TX10, 3)) (by rw [hM]; exact cu_X11_135_10) (s_s5_10 l n hk f hf w) hk rfl rfl rfl hw ⟨Nat.le_trans (Nat.le_of_ble_eq_true rfl) hroom.1, Nat.le_trans (Nat.le_of_ble_eq_true rfl) hroom.2⟩ hcs hd k
  | 6, _, hk, k => exact A_callU1 (r := (RX6, TX6, 3)) (by rw [hM]; exact cu_X11_135_6) (s_s6 l n hk f hf w) hk rfl rfl rfl hw ⟨Nat.le_trans (Nat.le_of_ble_eq_true rfl) hroom.1, Nat.le_trans (Nat.le_of_ble_eq_true rfl) hroom.2⟩ hcs hd k
theorem V_lifts_X11 {n : am_N} {K : Nat} (hK : K < 7) (hk : kd n = some (.inl (lw_ci K))) {f : am_N} {w : Int32} (hf : kd f = some (.inl 3)) (hM : M.1.cls = RX11) (hw : am_wt st ≤ 8) (hroom : 3 + 1 ≤ R.frames ∧ 8 + (3 + 11) + 60 * 3 ≤ R.locals) (hcs : cu ≤ R.cells ∧ su ≤ R.slots) (hd : decode M.2.1 pc = .ok (.invokevirtual 139, 3)) (k : am_W l M R post (pc + 3) ls (am_I (lw_lifts K (iv n 2) (iv f) w) :: st) kd rv iv cu su) : am_W l M R post pc ls (am_I w :: am_P f :: am_P n :: st) kd rv iv cu su := by
  match K, hK, hk, k with
  | 0, _, hk, k => exact A_callU1 (r := (RX2, TX2, 3)) (by rw [hM]; exact cu_X11_139_2) (s_l0_2 l n hk f hf w) hk rfl rfl rfl hw ⟨Nat.le_trans (Nat.le_of_ble_eq_true rfl) hroom.1, Nat.le_trans (Nat.le_of_ble_eq_true rfl) hroom.2⟩ hcs hd k
  | 1, _, hk, k => exact A_callU1 (r := (RX8, TX8, 3)) (by rw [hM]; exact cu_X11_139_8) (s_l0_8 l n hk f hf w) hk rfl rfl rfl hw ⟨Nat.le_trans (Nat.le_of_ble_eq_true rfl) hroom.1, Nat.le_trans (Nat.le_of_ble_eq_true rfl) hroom.2⟩ hcs hd k
  | 2, _, hk, k => exact A_callU1 (r := (RX1, TX1, 3)) (by rw [hM]; exact cu_X11_139_1) (s_l0_1 l n hk f hf w) hk rfl rfl rfl hw ⟨Nat.le_trans (Nat.le_of_ble_eq_true rfl) hroom.1, Nat.le_trans (Nat.le_of_ble_eq_true rfl) hroom.2⟩ hcs hd k
  | 3, _, hk, k => exact A_callU1 (r := (RX0, TX0, 3)) (by rw [hM]; exact cu_X11_139_0) (s_l0_0 l n hk f hf w) hk rfl rfl rfl hw ⟨Nat.le_trans (Nat.le_of_ble_eq_true rfl) hroom.1, Nat.le_trans (Nat.le_of_ble_eq_true rfl) hroom.2⟩ hcs hd k
  | 4, _, hk, k => exact A_callU1 (r := (RX9, TX9, 3)) (by rw [hM]; exact cu_X11_139_9) (s_l0_9 l n hk f hf w) hk rfl rfl rfl hw ⟨Nat.le_trans (Nat.le_of_ble_eq_true rfl) hroom.1, Nat.le_trans (Nat.le_of_ble_eq_true rfl) hroom.2⟩ hcs hd k
  | 5, _, hk, k => exact A_callU1 (r := (RX10, TX10, 3)) (by rw [hM]; exact cu_X11_139_10) (s_l0_10 l n hk f hf w) hk rfl rfl rfl hw ⟨Nat.le_trans (Nat.le_of_ble_eq_true rfl) hroom.1, Nat.le_trans (Nat.le_of_ble_eq_true rfl) hroom.2⟩ hcs hd k
  | 6, _, hk, k => exact A_callU1 (r := (RX6, TX6, 3)) (by rw [hM]; exact cu_X11_139_6) (s_l6 l n hk f hf w) hk rfl rfl rfl hw ⟨Nat.le_trans (Nat.le_of_ble_eq_true rfl) hroom.1, Nat.le_trans (Nat.le_of_ble_eq_true rfl) hroom.2⟩ hcs hd k
theorem V_widens_X11 {n : am_N} {K : Nat} (hK : K < 7) (hk : kd n = some (.inl (lw_ci K))) {f g : am_N} (hf : kd f = some (.inl 3)) (hg : kd g = some (.inl 3)) (hq : ¬ rg_gap (iv f) (iv g) + 10 = 0) (hM : M.1.cls = RX11) (hw : am_wt st ≤ 8) (hroom : 4 + 1 ≤ R.frames ∧ 8 + (4 + 11) + 60 * 4 ≤ R.locals) (hcs : cu ≤ R.cells ∧ su ≤ R.slots) (hd : decode M.2.1 pc = .ok (.invokevirtual 142, 3)) (k : am_W l M R post (pc + 3) ls (am_I (lw_widens K (iv n 2) (iv f) (iv g)) :: st) kd rv iv cu su) : am_W l M R post pc ls (am_P g :: am_P f :: am_P n :: st) kd rv iv cu su := by
  match K, hK, hk, k with
  | 0, _, hk, k => exact A_callU1 (r := (RX2, TX2, 3)) (by rw [hM]; exact cu_X11_142_2) (s_w0_2 l n hk f g hf hg hq) hk rfl rfl rfl hw ⟨Nat.le_trans (Nat.le_of_ble_eq_true rfl) hroom.1, Nat.le_trans (Nat.le_of_ble_eq_true rfl) hroom.2⟩ hcs hd k
  | 1, _, hk, k => exact A_callU1 (r := (RX8, TX8, 3)) (by rw [hM]; exact cu_X11_142_8) (s_w1 l n hk f g hf hg hq) hk rfl rfl rfl hw ⟨Nat.le_trans (Nat.le_of_ble_eq_true rfl) hroom.1, Nat.le_trans (Nat.le_of_ble_eq_true rfl) hroom.2⟩ hcs hd k
  | 2, _, hk, k => exact A_callU1 (r := (RX1, TX1, 3)) (by rw [hM]; exact cu_X11_142_1) (s_w0_1 l n hk f g hf hg hq) hk rfl rfl rfl hw ⟨Nat.le_trans (Nat.le_of_ble_eq_true rfl) hroom.1, Nat.le_trans (Nat.le_of_ble_eq_true rfl) hroom.2⟩ hcs hd k
  | 3, _, hk, k => exact A_callU1 (r := (RX0, TX0, 3)) (by rw [hM]; exact cu_X11_142_0) (s_w3_0 l n hk f g hf hg hq) hk rfl rfl rfl hw ⟨Nat.le_trans (Nat.le_of_ble_eq_true rfl) hroom.1, Nat.le_trans (Nat.le_of_ble_eq_true rfl) hroom.2⟩ hcs hd k
  | 4, _, hk, k => exact A_callU1 (r := (RX9, TX9, 3)) (by rw [hM]; exact cu_X11_142_9) (s_w3_9 l n hk f g hf hg hq) hk rfl rfl rfl hw ⟨Nat.le_trans (Nat.le_of_ble_eq_true rfl) hroom.1, Nat.le_trans (Nat.le_of_ble_eq_true rfl) hroom.2⟩ hcs hd k
  | 5, _, hk, k => exact A_callU1 (r := (RX10, TX10, 3)) (by rw [hM]; exact cu_X11_142_10) (s_w5_10 l n hk f g) hk rfl rfl rfl hw ⟨Nat.le_trans (Nat.le_of_ble_eq_true rfl) hroom.1, Nat.le_trans (Nat.le_of_ble_eq_true rfl) hroom.2⟩ hcs hd k
  | 6, _, hk, k => exact A_callU1 (r := (RX6, TX6, 3)) (by rw [hM]; exact cu_X11_142_6) (s_w5_6 l n hk f g) hk rfl rfl rfl hw ⟨Nat.le_trans (Nat.le_of_ble_eq_true rfl) hroom.1, Nat.le_trans (Nat.le_of_ble_eq_true rfl) hroom.2⟩ hcs hd k
theorem V_endsBy_X11 {n : am_N} {K : Nat} (hK : K < 7) (hk : kd n = some (.inl (lw_ci K))) {f g : am_N} (hf : kd f = some (.inl 3)) (hg : kd g = some (.inl 3)) (hM : M.1.cls = RX11) (hw : am_wt st ≤ 8) (hroom : 2 + 1 ≤ R.frames ∧ 8 + (3 + 11) + 60 * 2 ≤ R.locals) (hcs : cu ≤ R.cells ∧ su ≤ R.slots) (hd : decode M.2.1 pc = .ok (.invokevirtual 146, 3)) (k : am_W l M R post (pc + 3) ls (am_I (rg_bit (lw_ends K (iv n 2) (iv f) (iv g))) :: st) kd rv iv cu su) : am_W l M R post pc ls (am_P g :: am_P f :: am_P n :: st) kd rv iv cu su := by
  match K, hK, hk, k with
  | 0, _, hk, k => exact A_callU1 (r := (RX2, TX2, 3)) (by rw [hM]; exact cu_X11_146_2) (s_e0_2 l n hk f g hf hg) hk rfl rfl rfl hw ⟨Nat.le_trans (Nat.le_of_ble_eq_true rfl) hroom.1, Nat.le_trans (Nat.le_of_ble_eq_true rfl) hroom.2⟩ hcs hd k
  | 1, _, hk, k => exact A_callU1 (r := (RX8, TX8, 3)) (by rw [hM]; exact cu_X11_146_8) (s_e0_8 l n hk f g hf hg) hk rfl rfl rfl hw ⟨Nat.le_trans (Nat.le_of_ble_eq_true rfl) hroom.1, Nat.le_trans (Nat.le_of_ble_eq_true rfl) hroom.2⟩ hcs hd k
  | 2, _, hk, k => exact A_callU1 (r := (RX1, TX1, 3)) (by rw [hM]; exact cu_X11_146_1) (s_e2 l n hk f g hf hg) hk rfl rfl rfl hw ⟨Nat.le_trans (Nat.le_of_ble_eq_true rfl) hroom.1, Nat.le_trans (Nat.le_of_ble_eq_true rfl) hroom.2⟩ hcs hd k
  | 3, _, hk, k => exact A_callU1 (r := (RX0, TX0, 3)) (by rw [hM]; exact cu_X11_146_0) (s_e0_0 l n hk f g hf hg) hk rfl rfl rfl hw ⟨Nat.le_trans (Nat.le_of_ble_eq_true rfl) hroom.1, Nat.le_trans (Nat.le_of_ble_eq_true rfl) hroom.2⟩ hcs hd k
  | 4, _, hk, k => exact A_callU1 (r := (RX9, TX9, 3)) (by rw [hM]; exact cu_X11_146_9) (s_e4 l n hk f g hf hg) hk rfl rfl rfl hw ⟨Nat.le_trans (Nat.le_of_ble_eq_true rfl) hroom.1, Nat.le_trans (Nat.le_of_ble_eq_true rfl) hroom.2⟩ hcs hd k
  | 5, _, hk, k => exact A_callU1 (r := (RX10, TX10, 3)) (by rw [hM]; exact cu_X11_146_10) (s_e0_10 l n hk f g hf hg) hk rfl rfl rfl hw ⟨Nat.le_trans (Nat.le_of_ble_eq_true rfl) hroom.1, Nat.le_trans (Nat.le_of_ble_eq_true rfl) hroom.2⟩ hcs hd k
  | 6, _, hk, k => exact A_callU1 (r := (RX6, TX6, 3)) (by rw [hM]; exact cu_X11_146_6) (s_e0_6 l n hk f g hf hg) hk rfl rfl rfl hw ⟨Nat.le_trans (Nat.le_of_ble_eq_true rfl) hroom.1, Nat.le_trans (Nat.le_of_ble_eq_true rfl) hroom.2⟩ hcs hd k
end AV
noncomputable def rm_lift (on w : Int32) (lk : Nat → Nat) (lm : Nat → Int32) (g : Nat → Int32) : Nat → Int32
  | 0 => 0
  | j + 1 => @ite _ (rm_on on (nI j)) (Classical.propDecidable _) (rm_lift on w lk lm g j + lw_lifts (lk j) (lm j) g w) (rm_lift on w lk lm g j)
def rm_loss (i z : Nat) (g : Nat → Int32) (iv : am_iv) : Int32 := sr_held (gv_raw i 1 z (g 4) (g 5) (g 6) iv) 0 999
def rm_adv (i r z : Nat) (lf : Int32) (iv : am_iv) : am_iv := am_ui (am_ui (am_ui (gv_heap i 1 z (iv (6, i, r) 4) (iv (6, i, r) 5) (iv (6, i, r) 6) iv) (4, i, r) 1 (sr_held (iv (6, i, r) 1 + rg_pace (iv (6, i, r)) * iv (6, i, r) 3) (-99999) 99999)) (4, i, r) 2 (sr_held (iv (6, i, r) 2 + lf) (-999) 999)) (4, i, r) 4 (sr_held (iv (6, i, r) 4 - rm_loss i z (iv (6, i, r)) iv) 0 999)
set_option maxRecDepth 20000 in
theorem s_advance (l : Launch) {kd : am_kd} {rv : am_rv} {iv : am_iv} (hS : sh kd rv) (i : Nat) (hi : i < 4) (nl : Nat) (ln : Nat → am_N) (lk : Nat → Nat) (hl : rm_laws kd rv iv i nl ln lk) (r : Nat) (hr : r < 8) (z : Nat) (hz : iv (9, i, 1) 1 = nI z) (hz50 : z ≤ 50) : am_Met l mX4_advance (am_rm 4 0 0) [am_P (2, i, 0), am_P (4, i, r), am_P (6, i, r)] kd rv iv (am_ret none kd rv (rm_adv i r z (rm_lift (iv (2, i, 0) 5) (iv (2, i, 0) 6) lk (fun j => iv (ln j) 2) (iv (6, i, r)) nl) iv)) := by
  refine am_Met.of (by decide) (Nat.le_of_ble_eq_true rfl) rfl ?_
  have loop := am_for (fun j => ∀ q, am_W l mX4_advance (am_rm 4 0 0) (am_ret none kd rv (rm_adv i r z (rm_lift (iv (2, i, 0) 5) (iv (2, i, 0) 6) lk (fun j => iv (ln j) 2) (iv (6, i, r)) nl) iv)) 5 [some (am_P (2, i, 0)), some (am_P (4, i, r)), some (am_P (6, i, r)), some (am_I (rm_lift (iv (2, i, 0) 5) (iv (2, i, 0) 6) lk (fun j => iv (ln j) 2) (iv (6, i, r)) j)), some (am_I (nI j)), q] [] kd rv iv 0 0) nl ?_ (fun j hj ih => ?_) 0 (Nat.zero_le nl)
  · refine A_iconst (pc := 0) (0) dX4_advance_0 (by decide) ?_
    refine A_ist3 (pc := 1) dX4_advance_1 (Nat.le_of_ble_eq_true rfl) rfl ?_
    refine A_iconst (pc := 2) (0) dX4_advance_2 (by decide) ?_
    refine A_ist4 (pc := 3) dX4_advance_3 (Nat.le_of_ble_eq_true rfl) rfl ?_
    exact loop none
  · intro q
    refine A_iload (pc := 5) (i := 4) dX4_advance_5 rfl ?_
    refine A_aload_n (pc := 7) (i := 0) dX4_advance_7 rfl rfl ?_
    refine A_geti (pc := 8) 4 fl_X4_61_4 (hS.k2 hi) rfl dX4_advance_8 ?_
    refine A_top hl.1 ?_
    refine A_icmpge (pc := 11) 46 dX4_advance_11 (by decide) (fun hb11 => ?_) (fun hb11 => ?_)
    · refine A_aload_n (pc := 46) (i := 0) dX4_advance_46 rfl rfl ?_
      refine A_iconst (pc := 47) (1) dX4_advance_47 (by decide) ?_
      refine A_aload_n (pc := 48) (i := 2) dX4_advance_48 rfl rfl ?_
      refine A_geti (pc := 49) 4 fl_X4_102_3 (hS.k6 hi hr) rfl dX4_advance_49 ?_
      refine A_aload_n (pc := 52) (i := 2) dX4_advance_52 rfl rfl ?_
      refine A_geti (pc := 53) 5 fl_X4_105_3 (hS.k6 hi hr) rfl dX4_advance_53 ?_
      refine A_aload_n (pc := 56) (i := 2) dX4_advance_56 rfl rfl ?_
      refine A_geti (pc := 57) 6 fl_X4_108_3 (hS.k6 hi hr) rfl dX4_advance_57 ?_
      refine A_callV1 (pc := 60) cv_X4_115 (s_given l hS i hi 1 (by decide) z hz hz50 _ _ _) (hS.k2 hi) rfl rfl rfl rfl (Nat.le_of_ble_eq_true rfl) ⟨(Nat.le_of_ble_eq_true rfl), (Nat.le_of_ble_eq_true rfl)⟩ ⟨Nat.zero_le _, Nat.zero_le _⟩ dX4_advance_60 ?_
      refine A_ist4 (pc := 63) dX4_advance_63 (Nat.le_of_ble_eq_true rfl) rfl ?_
      refine A_aload_n (pc := 65) (i := 1) dX4_advance_65 rfl rfl ?_
      refine A_aload_n (pc := 66) (i := 2) dX4_advance_66 rfl rfl ?_
      refine A_geti (pc := 67) 1 fl_X4_93_3 (hS.k6 hi hr) rfl dX4_advance_67 ?_
      refine A_aload_n (pc := 70) (i := 2) dX4_advance_70 rfl rfl ?_
      refine A_callV1 (pc := 71) cv_X4_169 (s_pace l (6, i, r) (hS.k6 hi hr)) (hS.k6 hi hr) rfl rfl rfl rfl (Nat.le_of_ble_eq_true rfl) ⟨(Nat.le_of_ble_eq_true rfl), (Nat.le_of_ble_eq_true rfl)⟩ ⟨Nat.zero_le _, Nat.zero_le _⟩ dX4_advance_71 ?_
      refine A_aload_n (pc := 74) (i := 2) dX4_advance_74 rfl rfl ?_
      refine A_geti (pc := 75) 3 fl_X4_99_3 (hS.k6 hi hr) rfl dX4_advance_75 ?_
      refine A_imul (pc := 78) dX4_advance_78 ?_
      refine A_iadd (pc := 79) dX4_advance_79 ?_
      refine A_ldc (pc := 80) (List.mem_cons_of_mem _ kc_X4_172) dX4_advance_80 ?_
      refine A_ldc (pc := 82) (List.mem_cons_of_mem _ kc_X4_29) dX4_advance_82 ?_
      refine A_callN1 (pc := 84) cn_X4_133 (s_held l _ _ _) rfl rfl (Nat.le_of_ble_eq_true rfl) ⟨(Nat.le_of_ble_eq_true rfl), (Nat.le_of_ble_eq_true rfl)⟩ ⟨Nat.zero_le _, Nat.zero_le _⟩ dX4_advance_84 ?_
      refine A_puti (pc := 87) 1 fl_X4_93_3 (hS.k4 hi hr) rfl (by decide +kernel) rfl rfl dX4_advance_87 ?_
      refine A_aload_n (pc := 90) (i := 1) dX4_advance_90 rfl rfl ?_
      refine A_aload_n (pc := 91) (i := 2) dX4_advance_91 rfl rfl ?_
      refine A_geti (pc := 92) 2 fl_X4_96_3 (hS.k6 hi hr) rfl dX4_advance_92 ?_
      refine A_iload_n (pc := 95) (i := 3) dX4_advance_95 rfl rfl ?_
      refine A_iadd (pc := 96) dX4_advance_96 ?_
      refine A_sipush (pc := 97) (-999) dX4_advance_97 (by decide) ?_
      refine A_sipush (pc := 100) (999) dX4_advance_100 (by decide) ?_
      refine A_callN1 (pc := 103) cn_X4_133 (s_held l _ _ _) rfl rfl (Nat.le_of_ble_eq_true rfl) ⟨(Nat.le_of_ble_eq_true rfl), (Nat.le_of_ble_eq_true rfl)⟩ ⟨Nat.zero_le _, Nat.zero_le _⟩ dX4_advance_103 ?_
      refine A_puti (pc := 106) 2 fl_X4_96_3 (hS.k4 hi hr) rfl (by decide +kernel) rfl rfl dX4_advance_106 ?_
      refine A_aload_n (pc := 109) (i := 1) dX4_advance_109 rfl rfl ?_
      refine A_aload_n (pc := 110) (i := 2) dX4_advance_110 rfl rfl ?_
      refine A_geti (pc := 111) 4 fl_X4_102_3 (hS.k6 hi hr) rfl dX4_advance_111 ?_
      refine A_iload (pc := 114) (i := 4) dX4_advance_114 rfl ?_
      refine A_isub (pc := 116) dX4_advance_116 ?_
      refine A_iconst (pc := 117) (0) dX4_advance_117 (by decide) ?_
      refine A_sipush (pc := 118) (999) dX4_advance_118 (by decide) ?_
      refine A_callN1 (pc := 121) cn_X4_133 (s_held l _ _ _) rfl rfl (Nat.le_of_ble_eq_true rfl) ⟨(Nat.le_of_ble_eq_true rfl), (Nat.le_of_ble_eq_true rfl)⟩ ⟨Nat.zero_le _, Nat.zero_le _⟩ dX4_advance_121 ?_
      refine A_puti (pc := 124) 4 fl_X4_102_3 (hS.k4 hi hr) rfl (by decide +kernel) rfl rfl dX4_advance_124 ?_
      exact A_vretE (pc := 127) dX4_advance_127 rfl (Nat.zero_le _) (Nat.zero_le _) (by simp only [am_ui_f (show ((6, i, r) : am_N) ≠ (4, i, r) by simp), gv_heap_f (n := (6, i, r)) (show (6 : Nat) ≠ 11 by decide) (show (6 : Nat) ≠ 9 by decide)]; rfl)
    · exact absurd (nI_le (Nat.le_refl nl) (by have := hl.2.1; omega)) hb11
  · intro q
    have hj6 : j < 6 := by have := hl.2.1; omega
    obtain ⟨hl1, hl2, hl3, hl4⟩ := hl.2.2 j hj
    refine A_iload (pc := 5) (i := 4) dX4_advance_5 rfl ?_
    refine A_aload_n (pc := 7) (i := 0) dX4_advance_7 rfl rfl ?_
    refine A_geti (pc := 8) 4 fl_X4_61_4 (hS.k2 hi) rfl dX4_advance_8 ?_
    refine A_top hl.1 ?_
    refine A_icmpge (pc := 11) 46 dX4_advance_11 (by decide) (fun hb11 => ?_) (fun hb11 => ?_)
    · exact absurd hb11 (nI_ge hj (by have := hl.2.1; omega))
    · refine A_aload_n (pc := 14) (i := 0) dX4_advance_14 rfl rfl ?_
      refine A_iload (pc := 15) (i := 4) dX4_advance_15 rfl ?_
      refine A_callV1 (pc := 17) cv_X4_161 (s_lawOn l hS i hi nl ln lk hl j hj) (hS.k2 hi) rfl rfl rfl rfl (Nat.le_of_ble_eq_true rfl) ⟨(Nat.le_of_ble_eq_true rfl), (Nat.le_of_ble_eq_true rfl)⟩ ⟨Nat.zero_le _, Nat.zero_le _⟩ dX4_advance_17 ?_
      by_cases hon : rm_on (iv (2, i, 0) 5) (nI j)
      · rw [if_pos hon]
        refine A_ast5 (pc := 20) dX4_advance_20 (Nat.le_of_ble_eq_true rfl) rfl ?_
        refine A_aload (pc := 22) (i := 5) dX4_advance_22 rfl ?_
        refine A_ifnullP (pc := 24) dX4_advance_24 ?_
        refine A_iload_n (pc := 27) (i := 3) dX4_advance_27 rfl rfl ?_
        refine A_aload (pc := 28) (i := 5) dX4_advance_28 rfl ?_
        refine A_aload_n (pc := 30) (i := 2) dX4_advance_30 rfl rfl ?_
        refine A_aload_n (pc := 31) (i := 0) dX4_advance_31 rfl rfl ?_
        refine A_geti (pc := 32) 6 fl_X4_30_4 (hS.k2 hi) rfl dX4_advance_32 ?_
        refine V_lifts_X4 (pc := 35) hl2 hl3 (hS.k6 hi hr) rfl (Nat.le_of_ble_eq_true rfl) ⟨(Nat.le_of_ble_eq_true rfl), (Nat.le_of_ble_eq_true rfl)⟩ ⟨Nat.zero_le _, Nat.zero_le _⟩ dX4_advance_35 ?_
        refine A_iadd (pc := 38) dX4_advance_38 ?_
        refine A_ist3 (pc := 39) dX4_advance_39 (Nat.le_of_ble_eq_true rfl) rfl ?_
        refine A_inc4 (pc := 40) (nI (j + 1)) dX4_advance_40 (nI_1 j) (Nat.le_of_ble_eq_true rfl) rfl ?_
        refine A_goto (pc := 43) 5 dX4_advance_43 (by decide) ?_
        rw [rm_lift, if_pos hon] at ih
        exact ih _
      · rw [if_neg hon]
        refine A_ast0_5 (pc := 20) dX4_advance_20 (Nat.le_of_ble_eq_true rfl) rfl ?_
        refine A_aload0 (pc := 22) (i := 5) dX4_advance_22 rfl ?_
        refine A_ifnull0 (pc := 24) 40 dX4_advance_24 (by decide) ?_
        refine A_inc4 (pc := 40) (nI (j + 1)) dX4_advance_40 (nI_1 j) (Nat.le_of_ble_eq_true rfl) rfl ?_
        refine A_goto (pc := 43) 5 dX4_advance_43 (by decide) ?_
        rw [rm_lift, if_neg hon] at ih
        exact ih _
